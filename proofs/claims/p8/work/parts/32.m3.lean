theorem dX7_wire_0 : decode cX7_wire 0 = .ok (.aload_n 0, 1) := by decide +kernel
theorem dX7_wire_1 : decode cX7_wire 1 = .ok (.iconst 0, 1) := by decide +kernel
theorem dX7_wire_2 : decode cX7_wire 2 = .ok (.putfield 97, 3) := by decide +kernel
theorem dX7_wire_5 : decode cX7_wire 5 = .ok (.aload_n 0, 1) := by decide +kernel
theorem dX7_wire_6 : decode cX7_wire 6 = .ok (.iload_n 1, 1) := by decide +kernel
theorem dX7_wire_7 : decode cX7_wire 7 = .ok (.iconst 0, 1) := by decide +kernel
theorem dX7_wire_8 : decode cX7_wire 8 = .ok (.aload_n 0, 1) := by decide +kernel
theorem dX7_wire_9 : decode cX7_wire 9 = .ok (.getfield 256, 3) := by decide +kernel
theorem dX7_wire_12 : decode cX7_wire 12 = .ok (.iconst 1, 1) := by decide +kernel
theorem dX7_wire_13 : decode cX7_wire 13 = .ok (.isub, 1) := by decide +kernel
theorem dX7_wire_14 : decode cX7_wire 14 = .ok (.invokestatic 100, 3) := by decide +kernel
theorem dX7_wire_17 : decode cX7_wire 17 = .ok (.ifCond .ne 7, 3) := by decide +kernel
theorem dX7_wire_20 : decode cX7_wire 20 = .ok (.iconst 1, 1) := by decide +kernel
theorem dX7_wire_21 : decode cX7_wire 21 = .ok (.goto 4, 3) := by decide +kernel
theorem dX7_wire_24 : decode cX7_wire 24 = .ok (.iconst 0, 1) := by decide +kernel
theorem dX7_wire_25 : decode cX7_wire 25 = .ok (.iconst 1, 1) := by decide +kernel
theorem dX7_wire_26 : decode cX7_wire 26 = .ok (.invokevirtual 206, 3) := by decide +kernel
theorem dX7_wire_29 : decode cX7_wire 29 = .ok (.ifCond .eq 5, 3) := by decide +kernel
theorem dX7_wire_32 : decode cX7_wire 32 = .ok (.iconst 0, 1) := by decide +kernel
theorem dX7_wire_33 : decode cX7_wire 33 = .ok (.ireturn, 1) := by decide +kernel
theorem dX7_wire_34 : decode cX7_wire 34 = .ok (.aload_n 0, 1) := by decide +kernel
theorem dX7_wire_35 : decode cX7_wire 35 = .ok (.getfield 48, 3) := by decide +kernel
theorem dX7_wire_38 : decode cX7_wire 38 = .ok (.iload_n 1, 1) := by decide +kernel
theorem dX7_wire_39 : decode cX7_wire 39 = .ok (.baload, 1) := by decide +kernel
theorem dX7_wire_40 : decode cX7_wire 40 = .ok (.istore_n 3, 1) := by decide +kernel
theorem dX7_wire_41 : decode cX7_wire 41 = .ok (.aload_n 0, 1) := by decide +kernel
theorem dX7_wire_42 : decode cX7_wire 42 = .ok (.getfield 48, 3) := by decide +kernel
theorem dX7_wire_45 : decode cX7_wire 45 = .ok (.iload_n 1, 1) := by decide +kernel
theorem dX7_wire_46 : decode cX7_wire 46 = .ok (.iload_n 2, 1) := by decide +kernel
theorem dX7_wire_47 : decode cX7_wire 47 = .ok (.bastore, 1) := by decide +kernel
theorem dX7_wire_48 : decode cX7_wire 48 = .ok (.iload_n 3, 1) := by decide +kernel
theorem dX7_wire_49 : decode cX7_wire 49 = .ok (.ireturn, 1) := by decide +kernel
noncomputable def B_X7_wire_25 (a1 : Int32) (a2 : Int32) (t0 : Int32) (S : fS) : Option (Int32 × fS) := bd (F_X7_bad t0 1 S) (fun v1 S2 => bb (v1 = (0 : Int32)) (gd (ib a1 24) (iv (ge S2 51 0 (a1 : Int32).toNatClampNeg) (fun x6 => gd (ib a1 24) (sv (pu S2 51 0 (a1 : Int32).toNatClampNeg (vp_nar .boolean a2)) (fun S8 => gd (x6 = 0 ∨ x6 = 1) (some (x6, S8))))))) (some (0, S2)))
noncomputable def F_X7_wire (p1 : Int32) (p2 : Int32) (S0 : fS) : Option (Int32 × fS) := sv (pu S0 40 0 0 0) (fun S10 => iv (ge S10 40 0 21) (fun x11 => iv (x11 - (1 : Int32)) (fun x12 => bd (F_X7_in p1 0 x12 S10) (fun v13 S14 => bb (v13 = (0 : Int32)) (B_X7_wire_25  p1 p2 1 S14) (B_X7_wire_25  p1 p2 0 S14)))))
set_option maxHeartbeats 4000000 in
set_option maxRecDepth 100000 in
theorem c_X7_wire (l : Launch) (D : va_G) (K : Nat → ClassId) (b0 : Nat) (sa : sT) (sz : Nat) (L : List Nat) (f0 : Nat → va_E) (ad : Nat → Nat → Nat) (P : Nat → Nat → Prop) {n : Nat × Nat} (hP : ∀ a i : Nat, isn n a i → P a i) (S0 : fS) (hw : PW K ad P S0 L f0) (hn : S0.2.2.1 = n) (p1 : Int32) (p2 : Int32) (v : Int32) (S1 : fS) (h : F_X7_wire p1 p2 S0 = some (v, S1)) : Met l yX7_wire (.code yX7_wire cX7_wire 4 (some .boolean) :: gt) { frames := 1, cells := 0, slots := 0, locals := 22 } (va_Pc [.ref (ad 40 0), .int p1, .int p2] (hPre D K b0 sa sz L f0)) (hQ D K b0 (fun v9 u9 => ∃ f2 : Nat → va_E, v9 = some (.int v) ∧ u9 = lU L f2 ∧ PW K ad P S1 L f2 ∧ S1.2.2.1 = n ∧ Kp ad P L f0 f2)) 0 0 (fun q => b0 ≤ q) := by
  refine t_of (own := RX7) (by decide) rfl ?_ (Nat.le_of_ble_eq_true rfl)
  intro p e s m below meth c ls C w hsz hr hlk hnm hl
  have hx := C.1
  have hb := C.2.1
  have hl : lv_has ls 4 [(0, .ref (ad 40 0)), (1, .int p1), (2, .int p2)] := hl
  have J25 : ∀ (a1 : Int32) (a2 : Int32) (t0 : Int32) (S : fS), B_X7_wire_25  a1 a2 t0 S = some (v, S1) → Gw D K b0 sa ad P n L f0 p l e { frames := 1, cells := 0, slots := 0, locals := 22 } s m [.ref (ad 40 0), .int p1, .int p2].toArray below meth c 4 (MQ below (hQ D K b0 (fun v9 u9 => ∃ f2 : Nat → va_E, v9 = some (.int v) ∧ u9 = lU L f2 ∧ PW K ad P S1 L f2 ∧ S1.2.2.1 = n ∧ Kp ad P L f0 f2)) [.ref (ad 40 0), .int p1, .int p2].toArray s 0 0 (fun q => b0 ≤ q)) 0 0 25 [(0, .ref (ad 40 0)), (1, .int a1), (2, .int a2)] [.int t0, .ref (ad 40 0)] S := by
    intro a1 a2 t0 S h
    dsimp only [B_X7_wire_25] at h
    intro f H locs w hw hn hk ls hl
    refine lv_iconst (v := 1) hx hb dX7_wire_25 (by decide) ?_
    obtain ⟨v1, S2, h3, h⟩ := bd_some h
    refine u_callV (n := 2) C w hw (hP _ _ (isn_f rfl rfl (by decide))) rfl rfl rfl (c_X7_bad l D K b0 sa _ L _ ad P hP S hw hn t0 1 v1 S2 h3) gw_1347 gw_1344 gw_1346 gs_22 gw_8 ⟨by decide, by decide, by decide +kernel⟩ rfl rfl ⟨by decide, by decide⟩ rfl hl.1 rfl (Nat.le_of_ble_eq_true rfl) dX7_wire_26 ⟨Nat.le_of_ble_eq_true rfl, Nat.le_of_ble_eq_true rfl⟩ (fun v9 u H locs hp w => ?_)
    obtain ⟨f2, rfl, rfl, hw, hn, hk1⟩ := hp
    have hk := hk.tr hk1
    generalize f2 = f at w hw hk
    refine lv_if_eq (tgt := 34) hx hb dX7_wire_29 (by decide) (fun c4 => ?_) (fun c4 => ?_)
    · have h := bb_t h c4
      refine lv_aload_n hx hb dX7_wire_34 rfl (lv_at hl 0 rfl) ?_
      refine u_getr C w hw (hP _ _ (isn_f rfl rfl (by decide))) rfl (N := 57) rfl rfl cin_7 27 (by decide) (by decide) (a2 := 51) (i2 := 0) rfl gw_1183 dX7_wire_35 ?_
      refine lv_iload_n hx hb dX7_wire_38 rfl (lv_at hl 1 rfl) ?_
      obtain ⟨g5, h⟩ := gd_some h
      refine u_zald C w hw (hP _ _ (isn_f rfl rfl (by decide))) rfl rfl (n := 24) rfl (vp_in_iff.mpr g5) dX7_wire_39 ?_
      refine u_iv h (fun x6 h => ?_)
      refine lv_istore_n (lv' := [(3, .int x6), (0, .ref (ad 40 0)), (1, .int a1), (2, .int a2)]) hx hb dX7_wire_40 rfl hl (by decide) rfl (fun ls hl => ?_)
      refine lv_aload_n hx hb dX7_wire_41 rfl (lv_at hl 1 rfl) ?_
      refine u_getr C w hw (hP _ _ (isn_f rfl rfl (by decide))) rfl (N := 57) rfl rfl cin_7 27 (by decide) (by decide) (a2 := 51) (i2 := 0) rfl gw_1183 dX7_wire_42 ?_
      refine lv_iload_n hx hb dX7_wire_45 rfl (lv_at hl 2 rfl) ?_
      refine lv_iload_n hx hb dX7_wire_46 rfl (lv_at hl 3 rfl) ?_
      obtain ⟨g7, h⟩ := gd_some h
      refine u_zast C w hw (hP _ _ (isn_f rfl rfl (by decide))) rfl rfl (n := 24) rfl (vp_in_iff.mpr g7) dX7_wire_47 (fun f H locs w hw hk1 => ?_)
      have hk := hk.tr hk1
      refine u_sv h hw hn (fun S8 h hw hn => ?_)
      refine lv_iload_n hx hb dX7_wire_48 rfl (lv_at hl 0 rfl) ?_
      obtain ⟨g9, h⟩ := gd_some h
      exact t_zret C hr hlk w (narb g9) ⟨_, so_v h, rfl, so_w h hw, so_n h hn, hk⟩ (by decide) (by decide) dX7_wire_49
    · have h := bb_f h c4
      refine lv_iconst (v := 0) hx hb dX7_wire_32 (by decide) ?_
      exact t_zret C hr hlk w (by decide) ⟨_, so_v h, rfl, so_w h hw, so_n h hn, hk⟩ (by decide) (by decide) dX7_wire_33
  dsimp only [F_X7_wire] at h
  obtain ⟨f, ef⟩ : ∃ z, z = f0 := ⟨_, rfl⟩
  rw [← ef] at w hw
  have hk : Kp ad P L f0 f := by rw [ef]; exact Kp.rf
  obtain ⟨H, eH⟩ : ∃ z, z = s.heap := ⟨_, rfl⟩
  obtain ⟨locs, el⟩ : ∃ z : List Loc, z = [] := ⟨_, rfl⟩
  rw [← eH, ← el] at w ⊢
  refine lv_aload_n hx hb dX7_wire_0 rfl (lv_at hl 0 rfl) ?_
  refine lv_iconst (v := 0) hx hb dX7_wire_1 (by decide) ?_
  refine u_puti C w hw (hP _ _ (isn_f rfl rfl (by decide))) rfl (N := 57) rfl rfl cin_7 tyX7 tyX7_ok nmX7 0 (by decide) rfl rfl rfl rfl gw_1156 dX7_wire_2 (fun f H locs w hw hk1 => ?_)
  have hk := hk.tr hk1
  refine u_sv h hw hn (fun S10 h hw hn => ?_)
  refine lv_aload_n hx hb dX7_wire_5 rfl (lv_at hl 0 rfl) ?_
  refine lv_iload_n hx hb dX7_wire_6 rfl (lv_at hl 1 rfl) ?_
  refine lv_iconst (v := 0) hx hb dX7_wire_7 (by decide) ?_
  refine lv_aload_n hx hb dX7_wire_8 rfl (lv_at hl 0 rfl) ?_
  refine u_geti C w hw (hP _ _ (isn_f rfl rfl (by decide))) rfl (N := 57) rfl rfl cin_7 21 (by decide) rfl gw_1177 dX7_wire_9 ?_
  refine u_iv h (fun x11 h => ?_)
  refine lv_iconst (v := 1) hx hb dX7_wire_12 (by decide) ?_
  refine lv_isub hx hb dX7_wire_13 ?_
  refine u_iv h (fun x12 h => ?_)
  obtain ⟨v13, S14, h15, h⟩ := bd_some h
  refine t_callS (n := 3) C w (c_X7_in l D K b0 sa _ L _ ad P hP S10 hw hn p1 0 x12 v13 S14 h15) gw_1343 gw_1341 gw_1342 gw_8 ⟨by decide, by decide, by decide +kernel⟩ rfl rfl ⟨by decide, by decide⟩ rfl hl.1 rfl (Nat.le_of_ble_eq_true rfl) dX7_wire_14 ⟨Nat.le_of_ble_eq_true rfl, Nat.le_of_ble_eq_true rfl⟩ (fun v9 u H locs hp w => ?_)
  obtain ⟨f2, rfl, rfl, hw, hn, hk1⟩ := hp
  have hk := hk.tr hk1
  generalize f2 = f at w hw hk
  refine lv_if_ne (tgt := 24) hx hb dX7_wire_17 (by decide) (fun c16 => ?_) (fun c16 => ?_)
  · have h := bb_f h c16
    refine lv_iconst (v := 0) hx hb dX7_wire_24 (by decide) ?_
    exact J25  p1 p2 0 S14 h f H locs w hw hn hk ls (lv_sub hl [0, 1, 2] rfl)
  · have h := bb_t h c16
    refine lv_iconst (v := 1) hx hb dX7_wire_20 (by decide) ?_
    refine lv_goto (tgt := 25) hx hb dX7_wire_21 (by decide) ?_
    exact J25  p1 p2 1 S14 h f H locs w hw hn hk ls (lv_sub hl [0, 1, 2] rfl)
theorem dX7_key_0 : decode cX7_key 0 = .ok (.aload_n 0, 1) := by decide +kernel
theorem dX7_key_1 : decode cX7_key 1 = .ok (.iconst 0, 1) := by decide +kernel
theorem dX7_key_2 : decode cX7_key 2 = .ok (.putfield 97, 3) := by decide +kernel
theorem dX7_key_5 : decode cX7_key 5 = .ok (.aload_n 0, 1) := by decide +kernel
theorem dX7_key_6 : decode cX7_key 6 = .ok (.iload_n 1, 1) := by decide +kernel
theorem dX7_key_7 : decode cX7_key 7 = .ok (.iconst 0, 1) := by decide +kernel
theorem dX7_key_8 : decode cX7_key 8 = .ok (.aload_n 0, 1) := by decide +kernel
theorem dX7_key_9 : decode cX7_key 9 = .ok (.getfield 256, 3) := by decide +kernel
theorem dX7_key_12 : decode cX7_key 12 = .ok (.iconst 1, 1) := by decide +kernel
theorem dX7_key_13 : decode cX7_key 13 = .ok (.isub, 1) := by decide +kernel
theorem dX7_key_14 : decode cX7_key 14 = .ok (.invokestatic 100, 3) := by decide +kernel
theorem dX7_key_17 : decode cX7_key 17 = .ok (.ifCond .ne 7, 3) := by decide +kernel
theorem dX7_key_20 : decode cX7_key 20 = .ok (.iconst 1, 1) := by decide +kernel
theorem dX7_key_21 : decode cX7_key 21 = .ok (.goto 4, 3) := by decide +kernel
theorem dX7_key_24 : decode cX7_key 24 = .ok (.iconst 0, 1) := by decide +kernel
theorem dX7_key_25 : decode cX7_key 25 = .ok (.iconst 1, 1) := by decide +kernel
theorem dX7_key_26 : decode cX7_key 26 = .ok (.invokevirtual 206, 3) := by decide +kernel
theorem dX7_key_29 : decode cX7_key 29 = .ok (.ifCond .eq 5, 3) := by decide +kernel
theorem dX7_key_32 : decode cX7_key 32 = .ok (.iconst 0, 1) := by decide +kernel
theorem dX7_key_33 : decode cX7_key 33 = .ok (.ireturn, 1) := by decide +kernel
theorem dX7_key_34 : decode cX7_key 34 = .ok (.aload_n 0, 1) := by decide +kernel
theorem dX7_key_35 : decode cX7_key 35 = .ok (.getfield 45, 3) := by decide +kernel
theorem dX7_key_38 : decode cX7_key 38 = .ok (.iload_n 1, 1) := by decide +kernel
theorem dX7_key_39 : decode cX7_key 39 = .ok (.iaload, 1) := by decide +kernel
theorem dX7_key_40 : decode cX7_key 40 = .ok (.ifCond .ge 5, 3) := by decide +kernel
theorem dX7_key_43 : decode cX7_key 43 = .ok (.iconst 0, 1) := by decide +kernel
theorem dX7_key_44 : decode cX7_key 44 = .ok (.ireturn, 1) := by decide +kernel
theorem dX7_key_45 : decode cX7_key 45 = .ok (.aload_n 0, 1) := by decide +kernel
theorem dX7_key_46 : decode cX7_key 46 = .ok (.iload_n 1, 1) := by decide +kernel
theorem dX7_key_47 : decode cX7_key 47 = .ok (.bipush (-2), 2) := by decide +kernel
theorem dX7_key_49 : decode cX7_key 49 = .ok (.invokevirtual 265, 3) := by decide +kernel
theorem dX7_key_52 : decode cX7_key 52 = .ok (.iconst 1, 1) := by decide +kernel
theorem dX7_key_53 : decode cX7_key 53 = .ok (.ireturn, 1) := by decide +kernel
noncomputable def B_X7_key_25 (a1 : Int32) (t0 : Int32) (S : fS) : Option (Int32 × fS) := bd (F_X7_bad t0 1 S) (fun v1 S2 => bb (v1 = (0 : Int32)) (gd (ib a1 24) (iv (ge S2 50 0 (a1 : Int32).toNatClampNeg) (fun x6 => bb ((0 : Int32) ≤ x6) (bd (F_X7_goes a1 (-2) S2) (fun v8 S9 => some (1, S9))) (some (0, S2))))) (some (0, S2)))
noncomputable def F_X7_key (p1 : Int32) (S0 : fS) : Option (Int32 × fS) := sv (pu S0 40 0 0 0) (fun S11 => iv (ge S11 40 0 21) (fun x12 => iv (x12 - (1 : Int32)) (fun x13 => bd (F_X7_in p1 0 x13 S11) (fun v14 S15 => bb (v14 = (0 : Int32)) (B_X7_key_25  p1 1 S15) (B_X7_key_25  p1 0 S15)))))
set_option maxHeartbeats 4000000 in
set_option maxRecDepth 100000 in
theorem c_X7_key (l : Launch) (D : va_G) (K : Nat → ClassId) (b0 : Nat) (sa : sT) (sz : Nat) (L : List Nat) (f0 : Nat → va_E) (ad : Nat → Nat → Nat) (P : Nat → Nat → Prop) {n : Nat × Nat} (hP : ∀ a i : Nat, isn n a i → P a i) (S0 : fS) (hw : PW K ad P S0 L f0) (hn : S0.2.2.1 = n) (p1 : Int32) (v : Int32) (S1 : fS) (h : F_X7_key p1 S0 = some (v, S1)) : Met l yX7_key (.code yX7_key cX7_key 2 (some .int) :: gt) { frames := 2, cells := 0, slots := 0, locals := 46 } (va_Pc [.ref (ad 40 0), .int p1] (hPre D K b0 sa sz L f0)) (hQ D K b0 (fun v9 u9 => ∃ f2 : Nat → va_E, v9 = some (.int v) ∧ u9 = lU L f2 ∧ PW K ad P S1 L f2 ∧ S1.2.2.1 = n ∧ Kp ad P L f0 f2)) 0 0 (fun q => b0 ≤ q) := by
  refine t_of (own := RX7) (by decide) rfl ?_ (Nat.le_of_ble_eq_true rfl)
  intro p e s m below meth c ls C w hsz hr hlk hnm hl
  have hx := C.1
  have hb := C.2.1
  have hl : lv_has ls 2 [(0, .ref (ad 40 0)), (1, .int p1)] := hl
  have J25 : ∀ (a1 : Int32) (t0 : Int32) (S : fS), B_X7_key_25  a1 t0 S = some (v, S1) → Gw D K b0 sa ad P n L f0 p l e { frames := 2, cells := 0, slots := 0, locals := 46 } s m [.ref (ad 40 0), .int p1].toArray below meth c 2 (MQ below (hQ D K b0 (fun v9 u9 => ∃ f2 : Nat → va_E, v9 = some (.int v) ∧ u9 = lU L f2 ∧ PW K ad P S1 L f2 ∧ S1.2.2.1 = n ∧ Kp ad P L f0 f2)) [.ref (ad 40 0), .int p1].toArray s 0 0 (fun q => b0 ≤ q)) 0 0 25 [(0, .ref (ad 40 0)), (1, .int a1)] [.int t0, .ref (ad 40 0)] S := by
    intro a1 t0 S h
    dsimp only [B_X7_key_25] at h
    intro f H locs w hw hn hk ls hl
    refine lv_iconst (v := 1) hx hb dX7_key_25 (by decide) ?_
    obtain ⟨v1, S2, h3, h⟩ := bd_some h
    refine u_callV (n := 2) C w hw (hP _ _ (isn_f rfl rfl (by decide))) rfl rfl rfl (c_X7_bad l D K b0 sa _ L _ ad P hP S hw hn t0 1 v1 S2 h3) gw_1347 gw_1344 gw_1346 gs_22 gw_8 ⟨by decide, by decide, by decide +kernel⟩ rfl rfl ⟨by decide, by decide⟩ rfl hl.1 rfl (Nat.le_of_ble_eq_true rfl) dX7_key_26 ⟨Nat.le_of_ble_eq_true rfl, Nat.le_of_ble_eq_true rfl⟩ (fun v9 u H locs hp w => ?_)
    obtain ⟨f2, rfl, rfl, hw, hn, hk1⟩ := hp
    have hk := hk.tr hk1
    generalize f2 = f at w hw hk
    refine lv_if_eq (tgt := 34) hx hb dX7_key_29 (by decide) (fun c4 => ?_) (fun c4 => ?_)
    · have h := bb_t h c4
      refine lv_aload_n hx hb dX7_key_34 rfl (lv_at hl 0 rfl) ?_
      refine u_getr C w hw (hP _ _ (isn_f rfl rfl (by decide))) rfl (N := 57) rfl rfl cin_7 26 (by decide) (by decide) (a2 := 50) (i2 := 0) rfl gw_1182 dX7_key_35 ?_
      refine lv_iload_n hx hb dX7_key_38 rfl (lv_at hl 1 rfl) ?_
      obtain ⟨g5, h⟩ := gd_some h
      refine u_iald C w hw (hP _ _ (isn_f rfl rfl (by decide))) rfl rfl (n := 24) rfl (vp_in_iff.mpr g5) dX7_key_39 ?_
      refine u_iv h (fun x6 h => ?_)
      refine lv_if_ge (tgt := 45) hx hb dX7_key_40 (by decide) (fun c7 => ?_) (fun c7 => ?_)
      · have h := bb_t h c7
        refine lv_aload_n hx hb dX7_key_45 rfl (lv_at hl 0 rfl) ?_
        refine lv_iload_n hx hb dX7_key_46 rfl (lv_at hl 1 rfl) ?_
        refine lv_bipush (v := (-2)) hx hb dX7_key_47 (by decide) ?_
        obtain ⟨v8, S9, h10, h⟩ := bd_some h
        refine u_callV (n := 2) C w hw (hP _ _ (isn_f rfl rfl (by decide))) rfl rfl rfl (c_X7_goes l D K b0 sa _ L _ ad P hP S2 hw hn a1 (-2) v8 S9 h10) gw_1483 gw_1480 gw_1482 gs_47 gw_8 ⟨by decide, by decide, by decide +kernel⟩ rfl rfl ⟨by decide, by decide⟩ rfl hl.1 rfl (Nat.le_of_ble_eq_true rfl) dX7_key_49 ⟨Nat.le_of_ble_eq_true rfl, Nat.le_of_ble_eq_true rfl⟩ (fun v9 u H locs hp w => ?_)
        obtain ⟨f2, rfl, rfl, hw, hn, hk1⟩ := hp
        have hk := hk.tr hk1
        generalize f2 = f at w hw hk
        refine lv_iconst (v := 1) hx hb dX7_key_52 (by decide) ?_
        exact t_iret C hr hlk w ⟨_, so_v h, rfl, so_w h hw, so_n h hn, hk⟩ (by decide) (by decide) dX7_key_53
      · have h := bb_f h c7
        refine lv_iconst (v := 0) hx hb dX7_key_43 (by decide) ?_
        exact t_iret C hr hlk w ⟨_, so_v h, rfl, so_w h hw, so_n h hn, hk⟩ (by decide) (by decide) dX7_key_44
    · have h := bb_f h c4
      refine lv_iconst (v := 0) hx hb dX7_key_32 (by decide) ?_
      exact t_iret C hr hlk w ⟨_, so_v h, rfl, so_w h hw, so_n h hn, hk⟩ (by decide) (by decide) dX7_key_33
  dsimp only [F_X7_key] at h
  obtain ⟨f, ef⟩ : ∃ z, z = f0 := ⟨_, rfl⟩
  rw [← ef] at w hw
  have hk : Kp ad P L f0 f := by rw [ef]; exact Kp.rf
  obtain ⟨H, eH⟩ : ∃ z, z = s.heap := ⟨_, rfl⟩
  obtain ⟨locs, el⟩ : ∃ z : List Loc, z = [] := ⟨_, rfl⟩
  rw [← eH, ← el] at w ⊢
  refine lv_aload_n hx hb dX7_key_0 rfl (lv_at hl 0 rfl) ?_
  refine lv_iconst (v := 0) hx hb dX7_key_1 (by decide) ?_
  refine u_puti C w hw (hP _ _ (isn_f rfl rfl (by decide))) rfl (N := 57) rfl rfl cin_7 tyX7 tyX7_ok nmX7 0 (by decide) rfl rfl rfl rfl gw_1156 dX7_key_2 (fun f H locs w hw hk1 => ?_)
  have hk := hk.tr hk1
  refine u_sv h hw hn (fun S11 h hw hn => ?_)
  refine lv_aload_n hx hb dX7_key_5 rfl (lv_at hl 0 rfl) ?_
  refine lv_iload_n hx hb dX7_key_6 rfl (lv_at hl 1 rfl) ?_
  refine lv_iconst (v := 0) hx hb dX7_key_7 (by decide) ?_
  refine lv_aload_n hx hb dX7_key_8 rfl (lv_at hl 0 rfl) ?_
  refine u_geti C w hw (hP _ _ (isn_f rfl rfl (by decide))) rfl (N := 57) rfl rfl cin_7 21 (by decide) rfl gw_1177 dX7_key_9 ?_
  refine u_iv h (fun x12 h => ?_)
  refine lv_iconst (v := 1) hx hb dX7_key_12 (by decide) ?_
  refine lv_isub hx hb dX7_key_13 ?_
  refine u_iv h (fun x13 h => ?_)
  obtain ⟨v14, S15, h16, h⟩ := bd_some h
  refine t_callS (n := 3) C w (c_X7_in l D K b0 sa _ L _ ad P hP S11 hw hn p1 0 x13 v14 S15 h16) gw_1343 gw_1341 gw_1342 gw_8 ⟨by decide, by decide, by decide +kernel⟩ rfl rfl ⟨by decide, by decide⟩ rfl hl.1 rfl (Nat.le_of_ble_eq_true rfl) dX7_key_14 ⟨Nat.le_of_ble_eq_true rfl, Nat.le_of_ble_eq_true rfl⟩ (fun v9 u H locs hp w => ?_)
  obtain ⟨f2, rfl, rfl, hw, hn, hk1⟩ := hp
  have hk := hk.tr hk1
  generalize f2 = f at w hw hk
  refine lv_if_ne (tgt := 24) hx hb dX7_key_17 (by decide) (fun c17 => ?_) (fun c17 => ?_)
  · have h := bb_f h c17
    refine lv_iconst (v := 0) hx hb dX7_key_24 (by decide) ?_
    exact J25  p1 0 S15 h f H locs w hw hn hk ls (lv_sub hl [0, 1] rfl)
  · have h := bb_t h c17
    refine lv_iconst (v := 1) hx hb dX7_key_20 (by decide) ?_
    refine lv_goto (tgt := 25) hx hb dX7_key_21 (by decide) ?_
    exact J25  p1 1 S15 h f H locs w hw hn hk ls (lv_sub hl [0, 1] rfl)
theorem dX7_topOf_0 : decode cX7_topOf 0 = .ok (.aload_n 0, 1) := by decide +kernel
theorem dX7_topOf_1 : decode cX7_topOf 1 = .ok (.getfield 55, 3) := by decide +kernel
theorem dX7_topOf_4 : decode cX7_topOf 4 = .ok (.iload_n 1, 1) := by decide +kernel
theorem dX7_topOf_5 : decode cX7_topOf 5 = .ok (.iaload, 1) := by decide +kernel
theorem dX7_topOf_6 : decode cX7_topOf 6 = .ok (.ifCond .ne 7, 3) := by decide +kernel
theorem dX7_topOf_9 : decode cX7_topOf 9 = .ok (.iconst (-1), 1) := by decide +kernel
theorem dX7_topOf_10 : decode cX7_topOf 10 = .ok (.goto 18, 3) := by decide +kernel
theorem dX7_topOf_13 : decode cX7_topOf 13 = .ok (.aload_n 0, 1) := by decide +kernel
theorem dX7_topOf_14 : decode cX7_topOf 14 = .ok (.getfield 52, 3) := by decide +kernel
theorem dX7_topOf_17 : decode cX7_topOf 17 = .ok (.iload_n 1, 1) := by decide +kernel
theorem dX7_topOf_18 : decode cX7_topOf 18 = .ok (.aaload, 1) := by decide +kernel
theorem dX7_topOf_19 : decode cX7_topOf 19 = .ok (.aload_n 0, 1) := by decide +kernel
theorem dX7_topOf_20 : decode cX7_topOf 20 = .ok (.getfield 55, 3) := by decide +kernel
theorem dX7_topOf_23 : decode cX7_topOf 23 = .ok (.iload_n 1, 1) := by decide +kernel
theorem dX7_topOf_24 : decode cX7_topOf 24 = .ok (.iaload, 1) := by decide +kernel
theorem dX7_topOf_25 : decode cX7_topOf 25 = .ok (.iconst 1, 1) := by decide +kernel
theorem dX7_topOf_26 : decode cX7_topOf 26 = .ok (.isub, 1) := by decide +kernel
theorem dX7_topOf_27 : decode cX7_topOf 27 = .ok (.iaload, 1) := by decide +kernel
theorem dX7_topOf_28 : decode cX7_topOf 28 = .ok (.ireturn, 1) := by decide +kernel
noncomputable def F_X7_topOf (p1 : Int32) (S0 : fS) : Option (Int32 × fS) := gd (ib p1 64) (iv (ge S0 54 0 (p1 : Int32).toNatClampNeg) (fun x2 => bb (x2 = (0 : Int32)) (some ((-1), S0)) (gd (ib p1 64) (gd (ib p1 64) (iv (ge S0 54 0 (p1 : Int32).toNatClampNeg) (fun x6 => iv (x6 - (1 : Int32)) (fun x7 => gd (ib x7 24) (iv (ge S0 53 (p1.toNatClampNeg) (x7 : Int32).toNatClampNeg) (fun x9 => some (x9, S0))))))))))
set_option maxHeartbeats 4000000 in
set_option maxRecDepth 100000 in
theorem c_X7_topOf (l : Launch) (D : va_G) (K : Nat → ClassId) (b0 : Nat) (sa : sT) (sz : Nat) (L : List Nat) (f0 : Nat → va_E) (ad : Nat → Nat → Nat) (P : Nat → Nat → Prop) {n : Nat × Nat} (hP : ∀ a i : Nat, isn n a i → P a i) (S0 : fS) (hw : PW K ad P S0 L f0) (hn : S0.2.2.1 = n) (p1 : Int32) (v : Int32) (S1 : fS) (h : F_X7_topOf p1 S0 = some (v, S1)) : Met l yX7_topOf (.code yX7_topOf cX7_topOf 2 (some .int) :: gt) { frames := 0, cells := 0, slots := 0, locals := 0 } (va_Pc [.ref (ad 40 0), .int p1] (hPre D K b0 sa sz L f0)) (hQ D K b0 (fun v9 u9 => ∃ f2 : Nat → va_E, v9 = some (.int v) ∧ u9 = lU L f2 ∧ PW K ad P S1 L f2 ∧ S1.2.2.1 = n ∧ Kp ad P L f0 f2)) 0 0 (fun q => b0 ≤ q) := by
  refine t_of (own := RX7) (by decide) rfl ?_ (Nat.le_of_ble_eq_true rfl)
  intro p e s m below meth c ls C w hsz hr hlk hnm hl
  have hx := C.1
  have hb := C.2.1
  have hl : lv_has ls 2 [(0, .ref (ad 40 0)), (1, .int p1)] := hl
  dsimp only [F_X7_topOf] at h
  obtain ⟨f, ef⟩ : ∃ z, z = f0 := ⟨_, rfl⟩
  rw [← ef] at w hw
  have hk : Kp ad P L f0 f := by rw [ef]; exact Kp.rf
  obtain ⟨H, eH⟩ : ∃ z, z = s.heap := ⟨_, rfl⟩
  obtain ⟨locs, el⟩ : ∃ z : List Loc, z = [] := ⟨_, rfl⟩
  rw [← eH, ← el] at w ⊢
  refine lv_aload_n hx hb dX7_topOf_0 rfl (lv_at hl 0 rfl) ?_
  refine u_getr C w hw (hP _ _ (isn_f rfl rfl (by decide))) rfl (N := 57) rfl rfl cin_7 29 (by decide) (by decide) (a2 := 54) (i2 := 0) rfl gw_1185 dX7_topOf_1 ?_
  refine lv_iload_n hx hb dX7_topOf_4 rfl (lv_at hl 1 rfl) ?_
  obtain ⟨g1, h⟩ := gd_some h
  refine u_iald C w hw (hP _ _ (isn_f rfl rfl (by decide))) rfl rfl (n := 64) rfl (vp_in_iff.mpr g1) dX7_topOf_5 ?_
  refine u_iv h (fun x2 h => ?_)
  refine lv_if_ne (tgt := 13) hx hb dX7_topOf_6 (by decide) (fun c3 => ?_) (fun c3 => ?_)
  · have h := bb_f h c3
    refine lv_aload_n hx hb dX7_topOf_13 rfl (lv_at hl 0 rfl) ?_
    refine u_getr C w hw (hP _ _ (isn_f rfl rfl (by decide))) rfl (N := 57) rfl rfl cin_7 28 (by decide) (by decide) (a2 := 52) (i2 := 0) rfl gw_1184 dX7_topOf_14 ?_
    refine lv_iload_n hx hb dX7_topOf_17 rfl (lv_at hl 1 rfl) ?_
    obtain ⟨g4, h⟩ := gd_some h
    refine u_aald C w hw (hP _ _ (isn_f rfl rfl (by decide))) rfl rfl rfl (n := 64) rfl (vp_in_iff.mpr g4) (a2 := 53) (i2 := (p1.toNatClampNeg)) (by exact congrArg (Prod.mk _) (Nat.zero_add _)) dX7_topOf_18 ?_
    refine lv_aload_n hx hb dX7_topOf_19 rfl (lv_at hl 0 rfl) ?_
    refine u_getr C w hw (hP _ _ (isn_f rfl rfl (by decide))) rfl (N := 57) rfl rfl cin_7 29 (by decide) (by decide) (a2 := 54) (i2 := 0) rfl gw_1185 dX7_topOf_20 ?_
    refine lv_iload_n hx hb dX7_topOf_23 rfl (lv_at hl 1 rfl) ?_
    obtain ⟨g5, h⟩ := gd_some h
    refine u_iald C w hw (hP _ _ (isn_f rfl rfl (by decide))) rfl rfl (n := 64) rfl (vp_in_iff.mpr g5) dX7_topOf_24 ?_
    refine u_iv h (fun x6 h => ?_)
    refine lv_iconst (v := 1) hx hb dX7_topOf_25 (by decide) ?_
    refine lv_isub hx hb dX7_topOf_26 ?_
    refine u_iv h (fun x7 h => ?_)
    obtain ⟨g8, h⟩ := gd_some h
    refine u_iald C w hw (hP _ _ (isn_f rfl rfl (ib_lt g4))) rfl rfl (n := 24) rfl (vp_in_iff.mpr g8) dX7_topOf_27 ?_
    refine u_iv h (fun x9 h => ?_)
    exact t_iret C hr hlk w ⟨_, so_v h, rfl, so_w h hw, so_n h hn, hk⟩ (by decide) (by decide) dX7_topOf_28
  · have h := bb_t h c3
    refine lv_iconst (v := (-1)) hx hb dX7_topOf_9 (by decide) ?_
    refine lv_goto (tgt := 28) hx hb dX7_topOf_10 (by decide) ?_
    exact t_iret C hr hlk w ⟨_, so_v h, rfl, so_w h hw, so_n h hn, hk⟩ (by decide) (by decide) dX7_topOf_28
theorem dX7_top_0 : decode cX7_top 0 = .ok (.aload_n 0, 1) := by decide +kernel
theorem dX7_top_1 : decode cX7_top 1 = .ok (.iconst 0, 1) := by decide +kernel
theorem dX7_top_2 : decode cX7_top 2 = .ok (.putfield 97, 3) := by decide +kernel
theorem dX7_top_5 : decode cX7_top 5 = .ok (.aload_n 0, 1) := by decide +kernel
theorem dX7_top_6 : decode cX7_top 6 = .ok (.iload_n 1, 1) := by decide +kernel
theorem dX7_top_7 : decode cX7_top 7 = .ok (.invokestatic 253, 3) := by decide +kernel
theorem dX7_top_10 : decode cX7_top 10 = .ok (.ifCond .ne 7, 3) := by decide +kernel
theorem dX7_top_13 : decode cX7_top 13 = .ok (.iconst 1, 1) := by decide +kernel
theorem dX7_top_14 : decode cX7_top 14 = .ok (.goto 4, 3) := by decide +kernel
theorem dX7_top_17 : decode cX7_top 17 = .ok (.iconst 0, 1) := by decide +kernel
theorem dX7_top_18 : decode cX7_top 18 = .ok (.iconst 1, 1) := by decide +kernel
theorem dX7_top_19 : decode cX7_top 19 = .ok (.invokevirtual 206, 3) := by decide +kernel
theorem dX7_top_22 : decode cX7_top 22 = .ok (.ifCond .eq 5, 3) := by decide +kernel
theorem dX7_top_25 : decode cX7_top 25 = .ok (.iconst 0, 1) := by decide +kernel
theorem dX7_top_26 : decode cX7_top 26 = .ok (.ireturn, 1) := by decide +kernel
theorem dX7_top_27 : decode cX7_top 27 = .ok (.iload_n 2, 1) := by decide +kernel
theorem dX7_top_28 : decode cX7_top 28 = .ok (.ifCond .eq 12, 3) := by decide +kernel
theorem dX7_top_31 : decode cX7_top 31 = .ok (.aload_n 0, 1) := by decide +kernel
theorem dX7_top_32 : decode cX7_top 32 = .ok (.getfield 55, 3) := by decide +kernel
theorem dX7_top_35 : decode cX7_top 35 = .ok (.iload_n 1, 1) := by decide +kernel
theorem dX7_top_36 : decode cX7_top 36 = .ok (.iaload, 1) := by decide +kernel
theorem dX7_top_37 : decode cX7_top 37 = .ok (.goto 8, 3) := by decide +kernel
theorem dX7_top_40 : decode cX7_top 40 = .ok (.aload_n 0, 1) := by decide +kernel
theorem dX7_top_41 : decode cX7_top 41 = .ok (.iload_n 1, 1) := by decide +kernel
theorem dX7_top_42 : decode cX7_top 42 = .ok (.invokevirtual 268, 3) := by decide +kernel
theorem dX7_top_45 : decode cX7_top 45 = .ok (.ireturn, 1) := by decide +kernel
noncomputable def B_X7_top_18 (a1 : Int32) (a2 : Int32) (t0 : Int32) (S : fS) : Option (Int32 × fS) := bd (F_X7_bad t0 1 S) (fun v1 S2 => bb (v1 = (0 : Int32)) (bb (a2 = (0 : Int32)) (bd (F_X7_topOf a1 S2) (fun v6 S7 => some (v6, S7))) (gd (ib a1 64) (iv (ge S2 54 0 (a1 : Int32).toNatClampNeg) (fun x10 => some (x10, S2))))) (some (0, S2)))
noncomputable def F_X7_top (p1 : Int32) (p2 : Int32) (S0 : fS) : Option (Int32 × fS) := sv (pu S0 40 0 0 0) (fun S11 => bd (F_X7_isCell p1 S11) (fun v12 S13 => bb (v12 = (0 : Int32)) (B_X7_top_18  p1 p2 1 S13) (B_X7_top_18  p1 p2 0 S13)))
set_option maxHeartbeats 4000000 in
set_option maxRecDepth 100000 in
theorem c_X7_top (l : Launch) (D : va_G) (K : Nat → ClassId) (b0 : Nat) (sa : sT) (sz : Nat) (L : List Nat) (f0 : Nat → va_E) (ad : Nat → Nat → Nat) (P : Nat → Nat → Prop) {n : Nat × Nat} (hP : ∀ a i : Nat, isn n a i → P a i) (S0 : fS) (hw : PW K ad P S0 L f0) (hn : S0.2.2.1 = n) (p1 : Int32) (p2 : Int32) (v : Int32) (S1 : fS) (h : F_X7_top p1 p2 S0 = some (v, S1)) : Met l yX7_top (.code yX7_top cX7_top 3 (some .int) :: gt) { frames := 2, cells := 0, slots := 0, locals := 42 } (va_Pc [.ref (ad 40 0), .int p1, .int p2] (hPre D K b0 sa sz L f0)) (hQ D K b0 (fun v9 u9 => ∃ f2 : Nat → va_E, v9 = some (.int v) ∧ u9 = lU L f2 ∧ PW K ad P S1 L f2 ∧ S1.2.2.1 = n ∧ Kp ad P L f0 f2)) 0 0 (fun q => b0 ≤ q) := by
  refine t_of (own := RX7) (by decide) rfl ?_ (Nat.le_of_ble_eq_true rfl)
  intro p e s m below meth c ls C w hsz hr hlk hnm hl
  have hx := C.1
  have hb := C.2.1
  have hl : lv_has ls 3 [(0, .ref (ad 40 0)), (1, .int p1), (2, .int p2)] := hl
  have J18 : ∀ (a1 : Int32) (a2 : Int32) (t0 : Int32) (S : fS), B_X7_top_18  a1 a2 t0 S = some (v, S1) → Gw D K b0 sa ad P n L f0 p l e { frames := 2, cells := 0, slots := 0, locals := 42 } s m [.ref (ad 40 0), .int p1, .int p2].toArray below meth c 3 (MQ below (hQ D K b0 (fun v9 u9 => ∃ f2 : Nat → va_E, v9 = some (.int v) ∧ u9 = lU L f2 ∧ PW K ad P S1 L f2 ∧ S1.2.2.1 = n ∧ Kp ad P L f0 f2)) [.ref (ad 40 0), .int p1, .int p2].toArray s 0 0 (fun q => b0 ≤ q)) 0 0 18 [(0, .ref (ad 40 0)), (1, .int a1), (2, .int a2)] [.int t0, .ref (ad 40 0)] S := by
    intro a1 a2 t0 S h
    dsimp only [B_X7_top_18] at h
    intro f H locs w hw hn hk ls hl
    refine lv_iconst (v := 1) hx hb dX7_top_18 (by decide) ?_
    obtain ⟨v1, S2, h3, h⟩ := bd_some h
    refine u_callV (n := 2) C w hw (hP _ _ (isn_f rfl rfl (by decide))) rfl rfl rfl (c_X7_bad l D K b0 sa _ L _ ad P hP S hw hn t0 1 v1 S2 h3) gw_1347 gw_1344 gw_1346 gs_22 gw_8 ⟨by decide, by decide, by decide +kernel⟩ rfl rfl ⟨by decide, by decide⟩ rfl hl.1 rfl (Nat.le_of_ble_eq_true rfl) dX7_top_19 ⟨Nat.le_of_ble_eq_true rfl, Nat.le_of_ble_eq_true rfl⟩ (fun v9 u H locs hp w => ?_)
    obtain ⟨f2, rfl, rfl, hw, hn, hk1⟩ := hp
    have hk := hk.tr hk1
    generalize f2 = f at w hw hk
    refine lv_if_eq (tgt := 27) hx hb dX7_top_22 (by decide) (fun c4 => ?_) (fun c4 => ?_)
    · have h := bb_t h c4
      refine lv_iload_n hx hb dX7_top_27 rfl (lv_at hl 2 rfl) ?_
      refine lv_if_eq (tgt := 40) hx hb dX7_top_28 (by decide) (fun c5 => ?_) (fun c5 => ?_)
      · have h := bb_t h c5
        refine lv_aload_n hx hb dX7_top_40 rfl (lv_at hl 0 rfl) ?_
        refine lv_iload_n hx hb dX7_top_41 rfl (lv_at hl 1 rfl) ?_
        obtain ⟨v6, S7, h8, h⟩ := bd_some h
        refine u_callV (n := 1) C w hw (hP _ _ (isn_f rfl rfl (by decide))) rfl rfl rfl (c_X7_topOf l D K b0 sa _ L _ ad P hP S2 hw hn a1 v6 S7 h8) gw_1499 gw_1496 gw_1498 gs_49 gw_8 ⟨by decide, by decide, by decide +kernel⟩ rfl rfl ⟨by decide, by decide⟩ rfl hl.1 rfl (Nat.le_of_ble_eq_true rfl) dX7_top_42 ⟨Nat.le_of_ble_eq_true rfl, Nat.le_of_ble_eq_true rfl⟩ (fun v9 u H locs hp w => ?_)
        obtain ⟨f2, rfl, rfl, hw, hn, hk1⟩ := hp
        have hk := hk.tr hk1
        generalize f2 = f at w hw hk
        exact t_iret C hr hlk w ⟨_, so_v h, rfl, so_w h hw, so_n h hn, hk⟩ (by decide) (by decide) dX7_top_45
      · have h := bb_f h c5
        refine lv_aload_n hx hb dX7_top_31 rfl (lv_at hl 0 rfl) ?_
        refine u_getr C w hw (hP _ _ (isn_f rfl rfl (by decide))) rfl (N := 57) rfl rfl cin_7 29 (by decide) (by decide) (a2 := 54) (i2 := 0) rfl gw_1185 dX7_top_32 ?_
        refine lv_iload_n hx hb dX7_top_35 rfl (lv_at hl 1 rfl) ?_
        obtain ⟨g9, h⟩ := gd_some h
        refine u_iald C w hw (hP _ _ (isn_f rfl rfl (by decide))) rfl rfl (n := 64) rfl (vp_in_iff.mpr g9) dX7_top_36 ?_
        refine u_iv h (fun x10 h => ?_)
        refine lv_goto (tgt := 45) hx hb dX7_top_37 (by decide) ?_
        exact t_iret C hr hlk w ⟨_, so_v h, rfl, so_w h hw, so_n h hn, hk⟩ (by decide) (by decide) dX7_top_45
    · have h := bb_f h c4
      refine lv_iconst (v := 0) hx hb dX7_top_25 (by decide) ?_
      exact t_iret C hr hlk w ⟨_, so_v h, rfl, so_w h hw, so_n h hn, hk⟩ (by decide) (by decide) dX7_top_26
  dsimp only [F_X7_top] at h
  obtain ⟨f, ef⟩ : ∃ z, z = f0 := ⟨_, rfl⟩
  rw [← ef] at w hw
  have hk : Kp ad P L f0 f := by rw [ef]; exact Kp.rf
  obtain ⟨H, eH⟩ : ∃ z, z = s.heap := ⟨_, rfl⟩
  obtain ⟨locs, el⟩ : ∃ z : List Loc, z = [] := ⟨_, rfl⟩
  rw [← eH, ← el] at w ⊢
  refine lv_aload_n hx hb dX7_top_0 rfl (lv_at hl 0 rfl) ?_
  refine lv_iconst (v := 0) hx hb dX7_top_1 (by decide) ?_
  refine u_puti C w hw (hP _ _ (isn_f rfl rfl (by decide))) rfl (N := 57) rfl rfl cin_7 tyX7 tyX7_ok nmX7 0 (by decide) rfl rfl rfl rfl gw_1156 dX7_top_2 (fun f H locs w hw hk1 => ?_)
  have hk := hk.tr hk1
  refine u_sv h hw hn (fun S11 h hw hn => ?_)
  refine lv_aload_n hx hb dX7_top_5 rfl (lv_at hl 0 rfl) ?_
  refine lv_iload_n hx hb dX7_top_6 rfl (lv_at hl 1 rfl) ?_
  obtain ⟨v12, S13, h14, h⟩ := bd_some h
  refine t_callS (n := 1) C w (c_X7_isCell l D K b0 sa _ L _ ad P hP S11 hw hn p1 v12 S13 h14) gw_1467 gw_1465 gw_1466 gw_8 ⟨by decide, by decide, by decide +kernel⟩ rfl rfl ⟨by decide, by decide⟩ rfl hl.1 rfl (Nat.le_of_ble_eq_true rfl) dX7_top_7 ⟨Nat.le_of_ble_eq_true rfl, Nat.le_of_ble_eq_true rfl⟩ (fun v9 u H locs hp w => ?_)
  obtain ⟨f2, rfl, rfl, hw, hn, hk1⟩ := hp
  have hk := hk.tr hk1
  generalize f2 = f at w hw hk
  refine lv_if_ne (tgt := 17) hx hb dX7_top_10 (by decide) (fun c15 => ?_) (fun c15 => ?_)
  · have h := bb_f h c15
    refine lv_iconst (v := 0) hx hb dX7_top_17 (by decide) ?_
    exact J18  p1 p2 0 S13 h f H locs w hw hn hk ls (lv_sub hl [0, 1, 2] rfl)
  · have h := bb_t h c15
    refine lv_iconst (v := 1) hx hb dX7_top_13 (by decide) ?_
    refine lv_goto (tgt := 18) hx hb dX7_top_14 (by decide) ?_
    exact J18  p1 p2 1 S13 h f H locs w hw hn hk ls (lv_sub hl [0, 1, 2] rfl)
theorem dX7_hole_0 : decode cX7_hole 0 = .ok (.aload_n 0, 1) := by decide +kernel
theorem dX7_hole_1 : decode cX7_hole 1 = .ok (.iconst 0, 1) := by decide +kernel
theorem dX7_hole_2 : decode cX7_hole 2 = .ok (.putfield 97, 3) := by decide +kernel
theorem dX7_hole_5 : decode cX7_hole 5 = .ok (.aload_n 0, 1) := by decide +kernel
theorem dX7_hole_6 : decode cX7_hole 6 = .ok (.iload_n 1, 1) := by decide +kernel
theorem dX7_hole_7 : decode cX7_hole 7 = .ok (.invokestatic 253, 3) := by decide +kernel
theorem dX7_hole_10 : decode cX7_hole 10 = .ok (.ifCond .ne 7, 3) := by decide +kernel
theorem dX7_hole_13 : decode cX7_hole 13 = .ok (.iconst 1, 1) := by decide +kernel
theorem dX7_hole_14 : decode cX7_hole 14 = .ok (.goto 4, 3) := by decide +kernel
theorem dX7_hole_17 : decode cX7_hole 17 = .ok (.iconst 0, 1) := by decide +kernel
theorem dX7_hole_18 : decode cX7_hole 18 = .ok (.iconst 1, 1) := by decide +kernel
theorem dX7_hole_19 : decode cX7_hole 19 = .ok (.invokevirtual 206, 3) := by decide +kernel
theorem dX7_hole_22 : decode cX7_hole 22 = .ok (.ifCond .ne 25, 3) := by decide +kernel
theorem dX7_hole_25 : decode cX7_hole 25 = .ok (.aload_n 0, 1) := by decide +kernel
theorem dX7_hole_26 : decode cX7_hole 26 = .ok (.aload_n 0, 1) := by decide +kernel
theorem dX7_hole_27 : decode cX7_hole 27 = .ok (.getfield 55, 3) := by decide +kernel
theorem dX7_hole_30 : decode cX7_hole 30 = .ok (.iload_n 1, 1) := by decide +kernel
theorem dX7_hole_31 : decode cX7_hole 31 = .ok (.iaload, 1) := by decide +kernel
theorem dX7_hole_32 : decode cX7_hole 32 = .ok (.ifCond .le 7, 3) := by decide +kernel
theorem dX7_hole_35 : decode cX7_hole 35 = .ok (.iconst 1, 1) := by decide +kernel
theorem dX7_hole_36 : decode cX7_hole 36 = .ok (.goto 4, 3) := by decide +kernel
theorem dX7_hole_39 : decode cX7_hole 39 = .ok (.iconst 0, 1) := by decide +kernel
theorem dX7_hole_40 : decode cX7_hole 40 = .ok (.iconst 2, 1) := by decide +kernel
theorem dX7_hole_41 : decode cX7_hole 41 = .ok (.invokevirtual 206, 3) := by decide +kernel
theorem dX7_hole_44 : decode cX7_hole 44 = .ok (.ifCond .eq 5, 3) := by decide +kernel
theorem dX7_hole_47 : decode cX7_hole 47 = .ok (.iconst 0, 1) := by decide +kernel
theorem dX7_hole_48 : decode cX7_hole 48 = .ok (.ireturn, 1) := by decide +kernel
theorem dX7_hole_49 : decode cX7_hole 49 = .ok (.aload_n 0, 1) := by decide +kernel
theorem dX7_hole_50 : decode cX7_hole 50 = .ok (.getfield 58, 3) := by decide +kernel
theorem dX7_hole_53 : decode cX7_hole 53 = .ok (.istore_n 2, 1) := by decide +kernel
theorem dX7_hole_54 : decode cX7_hole 54 = .ok (.aload_n 0, 1) := by decide +kernel
theorem dX7_hole_55 : decode cX7_hole 55 = .ok (.iload_n 1, 1) := by decide +kernel
theorem dX7_hole_56 : decode cX7_hole 56 = .ok (.putfield 58, 3) := by decide +kernel
theorem dX7_hole_59 : decode cX7_hole 59 = .ok (.iload_n 2, 1) := by decide +kernel
theorem dX7_hole_60 : decode cX7_hole 60 = .ok (.ireturn, 1) := by decide +kernel
noncomputable def B_X7_hole_40 (a1 : Int32) (t0 : Int32) (S : fS) : Option (Int32 × fS) := bd (F_X7_bad t0 2 S) (fun v1 S2 => bb (v1 = (0 : Int32)) (iv (ge S2 40 0 30) (fun x5 => sv (pu S2 40 0 30 a1) (fun S6 => some (x5, S6)))) (some (0, S2)))
noncomputable def B_X7_hole_18 (a1 : Int32) (t0 : Int32) (S : fS) : Option (Int32 × fS) := bd (F_X7_bad t0 1 S) (fun v7 S8 => bb (v7 = (0 : Int32)) (gd (ib a1 64) (iv (ge S8 54 0 (a1 : Int32).toNatClampNeg) (fun x12 => bb (x12 ≤ (0 : Int32)) (B_X7_hole_40  a1 0 S8) (B_X7_hole_40  a1 1 S8)))) (some (0, S8)))
noncomputable def F_X7_hole (p1 : Int32) (S0 : fS) : Option (Int32 × fS) := sv (pu S0 40 0 0 0) (fun S14 => bd (F_X7_isCell p1 S14) (fun v15 S16 => bb (v15 = (0 : Int32)) (B_X7_hole_18  p1 1 S16) (B_X7_hole_18  p1 0 S16)))
set_option maxHeartbeats 4000000 in
set_option maxRecDepth 100000 in
theorem c_X7_hole (l : Launch) (D : va_G) (K : Nat → ClassId) (b0 : Nat) (sa : sT) (sz : Nat) (L : List Nat) (f0 : Nat → va_E) (ad : Nat → Nat → Nat) (P : Nat → Nat → Prop) {n : Nat × Nat} (hP : ∀ a i : Nat, isn n a i → P a i) (S0 : fS) (hw : PW K ad P S0 L f0) (hn : S0.2.2.1 = n) (p1 : Int32) (v : Int32) (S1 : fS) (h : F_X7_hole p1 S0 = some (v, S1)) : Met l yX7_hole (.code yX7_hole cX7_hole 3 (some .int) :: gt) { frames := 2, cells := 0, slots := 0, locals := 42 } (va_Pc [.ref (ad 40 0), .int p1] (hPre D K b0 sa sz L f0)) (hQ D K b0 (fun v9 u9 => ∃ f2 : Nat → va_E, v9 = some (.int v) ∧ u9 = lU L f2 ∧ PW K ad P S1 L f2 ∧ S1.2.2.1 = n ∧ Kp ad P L f0 f2)) 0 0 (fun q => b0 ≤ q) := by
  refine t_of (own := RX7) (by decide) rfl ?_ (Nat.le_of_ble_eq_true rfl)
  intro p e s m below meth c ls C w hsz hr hlk hnm hl
  have hx := C.1
  have hb := C.2.1
  have hl : lv_has ls 3 [(0, .ref (ad 40 0)), (1, .int p1)] := hl
  have J40 : ∀ (a1 : Int32) (t0 : Int32) (S : fS), B_X7_hole_40  a1 t0 S = some (v, S1) → Gw D K b0 sa ad P n L f0 p l e { frames := 2, cells := 0, slots := 0, locals := 42 } s m [.ref (ad 40 0), .int p1].toArray below meth c 3 (MQ below (hQ D K b0 (fun v9 u9 => ∃ f2 : Nat → va_E, v9 = some (.int v) ∧ u9 = lU L f2 ∧ PW K ad P S1 L f2 ∧ S1.2.2.1 = n ∧ Kp ad P L f0 f2)) [.ref (ad 40 0), .int p1].toArray s 0 0 (fun q => b0 ≤ q)) 0 0 40 [(0, .ref (ad 40 0)), (1, .int a1)] [.int t0, .ref (ad 40 0)] S := by
    intro a1 t0 S h
    dsimp only [B_X7_hole_40] at h
    intro f H locs w hw hn hk ls hl
    refine lv_iconst (v := 2) hx hb dX7_hole_40 (by decide) ?_
    obtain ⟨v1, S2, h3, h⟩ := bd_some h
    refine u_callV (n := 2) C w hw (hP _ _ (isn_f rfl rfl (by decide))) rfl rfl rfl (c_X7_bad l D K b0 sa _ L _ ad P hP S hw hn t0 2 v1 S2 h3) gw_1347 gw_1344 gw_1346 gs_22 gw_8 ⟨by decide, by decide, by decide +kernel⟩ rfl rfl ⟨by decide, by decide⟩ rfl hl.1 rfl (Nat.le_of_ble_eq_true rfl) dX7_hole_41 ⟨Nat.le_of_ble_eq_true rfl, Nat.le_of_ble_eq_true rfl⟩ (fun v9 u H locs hp w => ?_)
    obtain ⟨f2, rfl, rfl, hw, hn, hk1⟩ := hp
    have hk := hk.tr hk1
    generalize f2 = f at w hw hk
    refine lv_if_eq (tgt := 49) hx hb dX7_hole_44 (by decide) (fun c4 => ?_) (fun c4 => ?_)
    · have h := bb_t h c4
      refine lv_aload_n hx hb dX7_hole_49 rfl (lv_at hl 0 rfl) ?_
      refine u_geti C w hw (hP _ _ (isn_f rfl rfl (by decide))) rfl (N := 57) rfl rfl cin_7 30 (by decide) rfl gw_1186 dX7_hole_50 ?_
      refine u_iv h (fun x5 h => ?_)
      refine lv_istore_n (lv' := [(2, .int x5), (0, .ref (ad 40 0)), (1, .int a1)]) hx hb dX7_hole_53 rfl hl (by decide) rfl (fun ls hl => ?_)
      refine lv_aload_n hx hb dX7_hole_54 rfl (lv_at hl 1 rfl) ?_
      refine lv_iload_n hx hb dX7_hole_55 rfl (lv_at hl 2 rfl) ?_
      refine u_puti C w hw (hP _ _ (isn_f rfl rfl (by decide))) rfl (N := 57) rfl rfl cin_7 tyX7 tyX7_ok nmX7 30 (by decide) rfl rfl rfl rfl gw_1186 dX7_hole_56 (fun f H locs w hw hk1 => ?_)
      have hk := hk.tr hk1
      refine u_sv h hw hn (fun S6 h hw hn => ?_)
      refine lv_iload_n hx hb dX7_hole_59 rfl (lv_at hl 0 rfl) ?_
      exact t_iret C hr hlk w ⟨_, so_v h, rfl, so_w h hw, so_n h hn, hk⟩ (by decide) (by decide) dX7_hole_60
    · have h := bb_f h c4
      refine lv_iconst (v := 0) hx hb dX7_hole_47 (by decide) ?_
      exact t_iret C hr hlk w ⟨_, so_v h, rfl, so_w h hw, so_n h hn, hk⟩ (by decide) (by decide) dX7_hole_48
  have J18 : ∀ (a1 : Int32) (t0 : Int32) (S : fS), B_X7_hole_18  a1 t0 S = some (v, S1) → Gw D K b0 sa ad P n L f0 p l e { frames := 2, cells := 0, slots := 0, locals := 42 } s m [.ref (ad 40 0), .int p1].toArray below meth c 3 (MQ below (hQ D K b0 (fun v9 u9 => ∃ f2 : Nat → va_E, v9 = some (.int v) ∧ u9 = lU L f2 ∧ PW K ad P S1 L f2 ∧ S1.2.2.1 = n ∧ Kp ad P L f0 f2)) [.ref (ad 40 0), .int p1].toArray s 0 0 (fun q => b0 ≤ q)) 0 0 18 [(0, .ref (ad 40 0)), (1, .int a1)] [.int t0, .ref (ad 40 0)] S := by
    intro a1 t0 S h
    dsimp only [B_X7_hole_18] at h
    intro f H locs w hw hn hk ls hl
    refine lv_iconst (v := 1) hx hb dX7_hole_18 (by decide) ?_
    obtain ⟨v7, S8, h9, h⟩ := bd_some h
    refine u_callV (n := 2) C w hw (hP _ _ (isn_f rfl rfl (by decide))) rfl rfl rfl (c_X7_bad l D K b0 sa _ L _ ad P hP S hw hn t0 1 v7 S8 h9) gw_1347 gw_1344 gw_1346 gs_22 gw_8 ⟨by decide, by decide, by decide +kernel⟩ rfl rfl ⟨by decide, by decide⟩ rfl hl.1 rfl (Nat.le_of_ble_eq_true rfl) dX7_hole_19 ⟨Nat.le_of_ble_eq_true rfl, Nat.le_of_ble_eq_true rfl⟩ (fun v9 u H locs hp w => ?_)
    obtain ⟨f2, rfl, rfl, hw, hn, hk1⟩ := hp
    have hk := hk.tr hk1
    generalize f2 = f at w hw hk
    refine lv_if_ne (tgt := 47) hx hb dX7_hole_22 (by decide) (fun c10 => ?_) (fun c10 => ?_)
    · have h := bb_f h c10
      refine lv_iconst (v := 0) hx hb dX7_hole_47 (by decide) ?_
      exact t_iret C hr hlk w ⟨_, so_v h, rfl, so_w h hw, so_n h hn, hk⟩ (by decide) (by decide) dX7_hole_48
    · have h := bb_t h c10
      refine lv_aload_n hx hb dX7_hole_25 rfl (lv_at hl 0 rfl) ?_
      refine lv_aload_n hx hb dX7_hole_26 rfl (lv_at hl 0 rfl) ?_
      refine u_getr C w hw (hP _ _ (isn_f rfl rfl (by decide))) rfl (N := 57) rfl rfl cin_7 29 (by decide) (by decide) (a2 := 54) (i2 := 0) rfl gw_1185 dX7_hole_27 ?_
      refine lv_iload_n hx hb dX7_hole_30 rfl (lv_at hl 1 rfl) ?_
      obtain ⟨g11, h⟩ := gd_some h
      refine u_iald C w hw (hP _ _ (isn_f rfl rfl (by decide))) rfl rfl (n := 64) rfl (vp_in_iff.mpr g11) dX7_hole_31 ?_
      refine u_iv h (fun x12 h => ?_)
      refine lv_if_le (tgt := 39) hx hb dX7_hole_32 (by decide) (fun c13 => ?_) (fun c13 => ?_)
      · have h := bb_t h c13
        refine lv_iconst (v := 0) hx hb dX7_hole_39 (by decide) ?_
        exact J40  a1 0 S8 h f H locs w hw hn hk ls (lv_sub hl [0, 1] rfl)
      · have h := bb_f h c13
        refine lv_iconst (v := 1) hx hb dX7_hole_35 (by decide) ?_
        refine lv_goto (tgt := 40) hx hb dX7_hole_36 (by decide) ?_
        exact J40  a1 1 S8 h f H locs w hw hn hk ls (lv_sub hl [0, 1] rfl)
  dsimp only [F_X7_hole] at h
  obtain ⟨f, ef⟩ : ∃ z, z = f0 := ⟨_, rfl⟩
  rw [← ef] at w hw
  have hk : Kp ad P L f0 f := by rw [ef]; exact Kp.rf
  obtain ⟨H, eH⟩ : ∃ z, z = s.heap := ⟨_, rfl⟩
  obtain ⟨locs, el⟩ : ∃ z : List Loc, z = [] := ⟨_, rfl⟩
  rw [← eH, ← el] at w ⊢
  refine lv_aload_n hx hb dX7_hole_0 rfl (lv_at hl 0 rfl) ?_
  refine lv_iconst (v := 0) hx hb dX7_hole_1 (by decide) ?_
  refine u_puti C w hw (hP _ _ (isn_f rfl rfl (by decide))) rfl (N := 57) rfl rfl cin_7 tyX7 tyX7_ok nmX7 0 (by decide) rfl rfl rfl rfl gw_1156 dX7_hole_2 (fun f H locs w hw hk1 => ?_)
  have hk := hk.tr hk1
  refine u_sv h hw hn (fun S14 h hw hn => ?_)
  refine lv_aload_n hx hb dX7_hole_5 rfl (lv_at hl 0 rfl) ?_
  refine lv_iload_n hx hb dX7_hole_6 rfl (lv_at hl 1 rfl) ?_
  obtain ⟨v15, S16, h17, h⟩ := bd_some h
  refine t_callS (n := 1) C w (c_X7_isCell l D K b0 sa _ L _ ad P hP S14 hw hn p1 v15 S16 h17) gw_1467 gw_1465 gw_1466 gw_8 ⟨by decide, by decide, by decide +kernel⟩ rfl rfl ⟨by decide, by decide⟩ rfl hl.1 rfl (Nat.le_of_ble_eq_true rfl) dX7_hole_7 ⟨Nat.le_of_ble_eq_true rfl, Nat.le_of_ble_eq_true rfl⟩ (fun v9 u H locs hp w => ?_)
  obtain ⟨f2, rfl, rfl, hw, hn, hk1⟩ := hp
  have hk := hk.tr hk1
  generalize f2 = f at w hw hk
  refine lv_if_ne (tgt := 17) hx hb dX7_hole_10 (by decide) (fun c18 => ?_) (fun c18 => ?_)
  · have h := bb_f h c18
    refine lv_iconst (v := 0) hx hb dX7_hole_17 (by decide) ?_
    exact J18  p1 0 S16 h f H locs w hw hn hk ls (lv_sub hl [0, 1] rfl)
  · have h := bb_t h c18
    refine lv_iconst (v := 1) hx hb dX7_hole_13 (by decide) ?_
    refine lv_goto (tgt := 18) hx hb dX7_hole_14 (by decide) ?_
    exact J18  p1 1 S16 h f H locs w hw hn hk ls (lv_sub hl [0, 1] rfl)
theorem dX7_set_0 : decode cX7_set 0 = .ok (.aload_n 0, 1) := by decide +kernel
theorem dX7_set_1 : decode cX7_set 1 = .ok (.iconst 0, 1) := by decide +kernel
theorem dX7_set_2 : decode cX7_set 2 = .ok (.putfield 97, 3) := by decide +kernel
theorem dX7_set_5 : decode cX7_set 5 = .ok (.aload_n 0, 1) := by decide +kernel
theorem dX7_set_6 : decode cX7_set 6 = .ok (.iload_n 1, 1) := by decide +kernel
theorem dX7_set_7 : decode cX7_set 7 = .ok (.iconst 0, 1) := by decide +kernel
theorem dX7_set_8 : decode cX7_set 8 = .ok (.iconst 2, 1) := by decide +kernel
theorem dX7_set_9 : decode cX7_set 9 = .ok (.invokestatic 100, 3) := by decide +kernel
theorem dX7_set_12 : decode cX7_set 12 = .ok (.ifCond .eq 32, 3) := by decide +kernel
theorem dX7_set_15 : decode cX7_set 15 = .ok (.iload_n 2, 1) := by decide +kernel
theorem dX7_set_16 : decode cX7_set 16 = .ok (.iconst 0, 1) := by decide +kernel
theorem dX7_set_17 : decode cX7_set 17 = .ok (.iload_n 1, 1) := by decide +kernel
theorem dX7_set_18 : decode cX7_set 18 = .ok (.ifCond .ne 8, 3) := by decide +kernel
theorem dX7_set_21 : decode cX7_set 21 = .ok (.bipush 14, 2) := by decide +kernel
theorem dX7_set_23 : decode cX7_set 23 = .ok (.goto 15, 3) := by decide +kernel
theorem dX7_set_26 : decode cX7_set 26 = .ok (.iload_n 1, 1) := by decide +kernel
theorem dX7_set_27 : decode cX7_set 27 = .ok (.iconst 1, 1) := by decide +kernel
theorem dX7_set_28 : decode cX7_set 28 = .ok (.if_icmp .ne 8, 3) := by decide +kernel
theorem dX7_set_31 : decode cX7_set 31 = .ok (.bipush 99, 2) := by decide +kernel
theorem dX7_set_33 : decode cX7_set 33 = .ok (.goto 5, 3) := by decide +kernel
theorem dX7_set_36 : decode cX7_set 36 = .ok (.bipush 23, 2) := by decide +kernel
theorem dX7_set_38 : decode cX7_set 38 = .ok (.invokestatic 100, 3) := by decide +kernel
theorem dX7_set_41 : decode cX7_set 41 = .ok (.ifCond .ne 7, 3) := by decide +kernel
theorem dX7_set_44 : decode cX7_set 44 = .ok (.iconst 1, 1) := by decide +kernel
theorem dX7_set_45 : decode cX7_set 45 = .ok (.goto 4, 3) := by decide +kernel
theorem dX7_set_48 : decode cX7_set 48 = .ok (.iconst 0, 1) := by decide +kernel
theorem dX7_set_49 : decode cX7_set 49 = .ok (.iconst 1, 1) := by decide +kernel
theorem dX7_set_50 : decode cX7_set 50 = .ok (.invokevirtual 206, 3) := by decide +kernel
theorem dX7_set_53 : decode cX7_set 53 = .ok (.ifCond .eq 5, 3) := by decide +kernel
theorem dX7_set_56 : decode cX7_set 56 = .ok (.iconst 0, 1) := by decide +kernel
theorem dX7_set_57 : decode cX7_set 57 = .ok (.ireturn, 1) := by decide +kernel
theorem dX7_set_58 : decode cX7_set 58 = .ok (.iload_n 1, 1) := by decide +kernel
theorem dX7_set_59 : decode cX7_set 59 = .ok (.ifCond .ne 10, 3) := by decide +kernel
theorem dX7_set_62 : decode cX7_set 62 = .ok (.aload_n 0, 1) := by decide +kernel
theorem dX7_set_63 : decode cX7_set 63 = .ok (.getfield 61, 3) := by decide +kernel
theorem dX7_set_66 : decode cX7_set 66 = .ok (.goto 19, 3) := by decide +kernel
theorem dX7_set_69 : decode cX7_set 69 = .ok (.iload_n 1, 1) := by decide +kernel
theorem dX7_set_70 : decode cX7_set 70 = .ok (.iconst 1, 1) := by decide +kernel
theorem dX7_set_71 : decode cX7_set 71 = .ok (.if_icmp .ne 10, 3) := by decide +kernel
theorem dX7_set_74 : decode cX7_set 74 = .ok (.aload_n 0, 1) := by decide +kernel
theorem dX7_set_75 : decode cX7_set 75 = .ok (.getfield 64, 3) := by decide +kernel
theorem dX7_set_78 : decode cX7_set 78 = .ok (.goto 7, 3) := by decide +kernel
theorem dX7_set_81 : decode cX7_set 81 = .ok (.aload_n 0, 1) := by decide +kernel
theorem dX7_set_82 : decode cX7_set 82 = .ok (.getfield 234, 3) := by decide +kernel
theorem dX7_set_85 : decode cX7_set 85 = .ok (.istore_n 3, 1) := by decide +kernel
theorem dX7_set_86 : decode cX7_set 86 = .ok (.iload_n 1, 1) := by decide +kernel
theorem dX7_set_87 : decode cX7_set 87 = .ok (.ifCond .ne 11, 3) := by decide +kernel
theorem dX7_set_90 : decode cX7_set 90 = .ok (.aload_n 0, 1) := by decide +kernel
theorem dX7_set_91 : decode cX7_set 91 = .ok (.iload_n 2, 1) := by decide +kernel
theorem dX7_set_92 : decode cX7_set 92 = .ok (.putfield 61, 3) := by decide +kernel
theorem dX7_set_95 : decode cX7_set 95 = .ok (.goto 21, 3) := by decide +kernel
theorem dX7_set_98 : decode cX7_set 98 = .ok (.iload_n 1, 1) := by decide +kernel
theorem dX7_set_99 : decode cX7_set 99 = .ok (.iconst 1, 1) := by decide +kernel
theorem dX7_set_100 : decode cX7_set 100 = .ok (.if_icmp .ne 11, 3) := by decide +kernel
theorem dX7_set_103 : decode cX7_set 103 = .ok (.aload_n 0, 1) := by decide +kernel
theorem dX7_set_104 : decode cX7_set 104 = .ok (.iload_n 2, 1) := by decide +kernel
theorem dX7_set_105 : decode cX7_set 105 = .ok (.putfield 64, 3) := by decide +kernel
theorem dX7_set_108 : decode cX7_set 108 = .ok (.goto 8, 3) := by decide +kernel
theorem dX7_set_111 : decode cX7_set 111 = .ok (.aload_n 0, 1) := by decide +kernel
theorem dX7_set_112 : decode cX7_set 112 = .ok (.iload_n 2, 1) := by decide +kernel
theorem dX7_set_113 : decode cX7_set 113 = .ok (.putfield 234, 3) := by decide +kernel
theorem dX7_set_116 : decode cX7_set 116 = .ok (.iload_n 3, 1) := by decide +kernel
theorem dX7_set_117 : decode cX7_set 117 = .ok (.ireturn, 1) := by decide +kernel
noncomputable def B_X7_set_85 (a1 : Int32) (a2 : Int32) (t0 : Int32) (S : fS) : Option (Int32 × fS) := bb (a1 = (0 : Int32)) (sv (pu S 40 0 31 a2) (fun S5 => some (t0, S5))) (bb (a1 = (1 : Int32)) (sv (pu S 40 0 32 a2) (fun S4 => some (t0, S4))) (sv (pu S 40 0 33 a2) (fun S3 => some (t0, S3))))
noncomputable def B_X7_set_49 (a1 : Int32) (a2 : Int32) (t0 : Int32) (S : fS) : Option (Int32 × fS) := bd (F_X7_bad t0 1 S) (fun v6 S7 => bb (v6 = (0 : Int32)) (bb (a1 = (0 : Int32)) (iv (ge S7 40 0 31) (fun x14 => B_X7_set_85  a1 a2 x14 S7)) (bb (a1 = (1 : Int32)) (iv (ge S7 40 0 32) (fun x13 => B_X7_set_85  a1 a2 x13 S7)) (iv (ge S7 40 0 33) (fun x12 => B_X7_set_85  a1 a2 x12 S7)))) (some (0, S7)))
noncomputable def B_X7_set_44 (a1 : Int32) (a2 : Int32) (S : fS) : Option (Int32 × fS) := B_X7_set_49  a1 a2 1 S
noncomputable def B_X7_set_38 (a1 : Int32) (a2 : Int32) (t0 : Int32) (t1 : Int32) (t2 : Int32) (S : fS) : Option (Int32 × fS) := bd (F_X7_in t2 t1 t0 S) (fun v15 S16 => bb (v15 = (0 : Int32)) (B_X7_set_44  a1 a2 S16) (B_X7_set_49  a1 a2 0 S16))
noncomputable def F_X7_set (p1 : Int32) (p2 : Int32) (S0 : fS) : Option (Int32 × fS) := sv (pu S0 40 0 0 0) (fun S19 => bd (F_X7_in p1 0 2 S19) (fun v20 S21 => bb (v20 = (0 : Int32)) (B_X7_set_44  p1 p2 S21) (bb (p1 = (0 : Int32)) (B_X7_set_38  p1 p2 14 0 p2 S21) (bb (p1 = (1 : Int32)) (B_X7_set_38  p1 p2 99 0 p2 S21) (B_X7_set_38  p1 p2 23 0 p2 S21)))))
set_option maxHeartbeats 4000000 in
set_option maxRecDepth 100000 in
theorem c_X7_set (l : Launch) (D : va_G) (K : Nat → ClassId) (b0 : Nat) (sa : sT) (sz : Nat) (L : List Nat) (f0 : Nat → va_E) (ad : Nat → Nat → Nat) (P : Nat → Nat → Prop) {n : Nat × Nat} (hP : ∀ a i : Nat, isn n a i → P a i) (S0 : fS) (hw : PW K ad P S0 L f0) (hn : S0.2.2.1 = n) (p1 : Int32) (p2 : Int32) (v : Int32) (S1 : fS) (h : F_X7_set p1 p2 S0 = some (v, S1)) : Met l yX7_set (.code yX7_set cX7_set 4 (some .int) :: gt) { frames := 1, cells := 0, slots := 0, locals := 22 } (va_Pc [.ref (ad 40 0), .int p1, .int p2] (hPre D K b0 sa sz L f0)) (hQ D K b0 (fun v9 u9 => ∃ f2 : Nat → va_E, v9 = some (.int v) ∧ u9 = lU L f2 ∧ PW K ad P S1 L f2 ∧ S1.2.2.1 = n ∧ Kp ad P L f0 f2)) 0 0 (fun q => b0 ≤ q) := by
  refine t_of (own := RX7) (by decide) rfl ?_ (Nat.le_of_ble_eq_true rfl)
  intro p e s m below meth c ls C w hsz hr hlk hnm hl
  have hx := C.1
  have hb := C.2.1
  have hl : lv_has ls 4 [(0, .ref (ad 40 0)), (1, .int p1), (2, .int p2)] := hl
  have J85 : ∀ (a1 : Int32) (a2 : Int32) (t0 : Int32) (S : fS), B_X7_set_85  a1 a2 t0 S = some (v, S1) → Gw D K b0 sa ad P n L f0 p l e { frames := 1, cells := 0, slots := 0, locals := 22 } s m [.ref (ad 40 0), .int p1, .int p2].toArray below meth c 4 (MQ below (hQ D K b0 (fun v9 u9 => ∃ f2 : Nat → va_E, v9 = some (.int v) ∧ u9 = lU L f2 ∧ PW K ad P S1 L f2 ∧ S1.2.2.1 = n ∧ Kp ad P L f0 f2)) [.ref (ad 40 0), .int p1, .int p2].toArray s 0 0 (fun q => b0 ≤ q)) 0 0 85 [(0, .ref (ad 40 0)), (1, .int a1), (2, .int a2)] [.int t0] S := by
    intro a1 a2 t0 S h
    dsimp only [B_X7_set_85] at h
    intro f H locs w hw hn hk ls hl
    refine lv_istore_n (lv' := [(3, .int t0), (0, .ref (ad 40 0)), (1, .int a1), (2, .int a2)]) hx hb dX7_set_85 rfl hl (by decide) rfl (fun ls hl => ?_)
    refine lv_iload_n hx hb dX7_set_86 rfl (lv_at hl 2 rfl) ?_
    refine lv_if_ne (tgt := 98) hx hb dX7_set_87 (by decide) (fun c1 => ?_) (fun c1 => ?_)
    · have h := bb_f h c1
      refine lv_iload_n hx hb dX7_set_98 rfl (lv_at hl 2 rfl) ?_
      refine lv_iconst (v := 1) hx hb dX7_set_99 (by decide) ?_
      refine lv_icmp_ne (tgt := 111) hx hb dX7_set_100 (by decide) (fun c2 => ?_) (fun c2 => ?_)
      · have h := bb_f h c2
        refine lv_aload_n hx hb dX7_set_111 rfl (lv_at hl 1 rfl) ?_
        refine lv_iload_n hx hb dX7_set_112 rfl (lv_at hl 3 rfl) ?_
        refine u_puti C w hw (hP _ _ (isn_f rfl rfl (by decide))) rfl (N := 57) rfl rfl cin_7 tyX7 tyX7_ok nmX7 33 (by decide) rfl rfl rfl rfl gw_1189 dX7_set_113 (fun f H locs w hw hk1 => ?_)
        have hk := hk.tr hk1
        refine u_sv h hw hn (fun S3 h hw hn => ?_)
        refine lv_iload_n hx hb dX7_set_116 rfl (lv_at hl 0 rfl) ?_
        exact t_iret C hr hlk w ⟨_, so_v h, rfl, so_w h hw, so_n h hn, hk⟩ (by decide) (by decide) dX7_set_117
      · have h := bb_t h c2
        refine lv_aload_n hx hb dX7_set_103 rfl (lv_at hl 1 rfl) ?_
        refine lv_iload_n hx hb dX7_set_104 rfl (lv_at hl 3 rfl) ?_
        refine u_puti C w hw (hP _ _ (isn_f rfl rfl (by decide))) rfl (N := 57) rfl rfl cin_7 tyX7 tyX7_ok nmX7 32 (by decide) rfl rfl rfl rfl gw_1188 dX7_set_105 (fun f H locs w hw hk1 => ?_)
        have hk := hk.tr hk1
        refine u_sv h hw hn (fun S4 h hw hn => ?_)
        refine lv_goto (tgt := 116) hx hb dX7_set_108 (by decide) ?_
        refine lv_iload_n hx hb dX7_set_116 rfl (lv_at hl 0 rfl) ?_
        exact t_iret C hr hlk w ⟨_, so_v h, rfl, so_w h hw, so_n h hn, hk⟩ (by decide) (by decide) dX7_set_117
    · have h := bb_t h c1
      refine lv_aload_n hx hb dX7_set_90 rfl (lv_at hl 1 rfl) ?_
      refine lv_iload_n hx hb dX7_set_91 rfl (lv_at hl 3 rfl) ?_
      refine u_puti C w hw (hP _ _ (isn_f rfl rfl (by decide))) rfl (N := 57) rfl rfl cin_7 tyX7 tyX7_ok nmX7 31 (by decide) rfl rfl rfl rfl gw_1187 dX7_set_92 (fun f H locs w hw hk1 => ?_)
      have hk := hk.tr hk1
      refine u_sv h hw hn (fun S5 h hw hn => ?_)
      refine lv_goto (tgt := 116) hx hb dX7_set_95 (by decide) ?_
      refine lv_iload_n hx hb dX7_set_116 rfl (lv_at hl 0 rfl) ?_
      exact t_iret C hr hlk w ⟨_, so_v h, rfl, so_w h hw, so_n h hn, hk⟩ (by decide) (by decide) dX7_set_117
  have J49 : ∀ (a1 : Int32) (a2 : Int32) (t0 : Int32) (S : fS), B_X7_set_49  a1 a2 t0 S = some (v, S1) → Gw D K b0 sa ad P n L f0 p l e { frames := 1, cells := 0, slots := 0, locals := 22 } s m [.ref (ad 40 0), .int p1, .int p2].toArray below meth c 4 (MQ below (hQ D K b0 (fun v9 u9 => ∃ f2 : Nat → va_E, v9 = some (.int v) ∧ u9 = lU L f2 ∧ PW K ad P S1 L f2 ∧ S1.2.2.1 = n ∧ Kp ad P L f0 f2)) [.ref (ad 40 0), .int p1, .int p2].toArray s 0 0 (fun q => b0 ≤ q)) 0 0 49 [(0, .ref (ad 40 0)), (1, .int a1), (2, .int a2)] [.int t0, .ref (ad 40 0)] S := by
    intro a1 a2 t0 S h
    dsimp only [B_X7_set_49] at h
    intro f H locs w hw hn hk ls hl
    refine lv_iconst (v := 1) hx hb dX7_set_49 (by decide) ?_
    obtain ⟨v6, S7, h8, h⟩ := bd_some h
    refine u_callV (n := 2) C w hw (hP _ _ (isn_f rfl rfl (by decide))) rfl rfl rfl (c_X7_bad l D K b0 sa _ L _ ad P hP S hw hn t0 1 v6 S7 h8) gw_1347 gw_1344 gw_1346 gs_22 gw_8 ⟨by decide, by decide, by decide +kernel⟩ rfl rfl ⟨by decide, by decide⟩ rfl hl.1 rfl (Nat.le_of_ble_eq_true rfl) dX7_set_50 ⟨Nat.le_of_ble_eq_true rfl, Nat.le_of_ble_eq_true rfl⟩ (fun v9 u H locs hp w => ?_)
    obtain ⟨f2, rfl, rfl, hw, hn, hk1⟩ := hp
    have hk := hk.tr hk1
    generalize f2 = f at w hw hk
    refine lv_if_eq (tgt := 58) hx hb dX7_set_53 (by decide) (fun c9 => ?_) (fun c9 => ?_)
    · have h := bb_t h c9
      refine lv_iload_n hx hb dX7_set_58 rfl (lv_at hl 1 rfl) ?_
      refine lv_if_ne (tgt := 69) hx hb dX7_set_59 (by decide) (fun c10 => ?_) (fun c10 => ?_)
      · have h := bb_f h c10
        refine lv_iload_n hx hb dX7_set_69 rfl (lv_at hl 1 rfl) ?_
        refine lv_iconst (v := 1) hx hb dX7_set_70 (by decide) ?_
        refine lv_icmp_ne (tgt := 81) hx hb dX7_set_71 (by decide) (fun c11 => ?_) (fun c11 => ?_)
        · have h := bb_f h c11
          refine lv_aload_n hx hb dX7_set_81 rfl (lv_at hl 0 rfl) ?_
          refine u_geti C w hw (hP _ _ (isn_f rfl rfl (by decide))) rfl (N := 57) rfl rfl cin_7 33 (by decide) rfl gw_1189 dX7_set_82 ?_
          refine u_iv h (fun x12 h => ?_)
          exact J85  a1 a2 x12 S7 h f H locs w hw hn hk ls (lv_sub hl [0, 1, 2] rfl)
        · have h := bb_t h c11
          refine lv_aload_n hx hb dX7_set_74 rfl (lv_at hl 0 rfl) ?_
          refine u_geti C w hw (hP _ _ (isn_f rfl rfl (by decide))) rfl (N := 57) rfl rfl cin_7 32 (by decide) rfl gw_1188 dX7_set_75 ?_
          refine u_iv h (fun x13 h => ?_)
          refine lv_goto (tgt := 85) hx hb dX7_set_78 (by decide) ?_
          exact J85  a1 a2 x13 S7 h f H locs w hw hn hk ls (lv_sub hl [0, 1, 2] rfl)
      · have h := bb_t h c10
        refine lv_aload_n hx hb dX7_set_62 rfl (lv_at hl 0 rfl) ?_
        refine u_geti C w hw (hP _ _ (isn_f rfl rfl (by decide))) rfl (N := 57) rfl rfl cin_7 31 (by decide) rfl gw_1187 dX7_set_63 ?_
        refine u_iv h (fun x14 h => ?_)
        refine lv_goto (tgt := 85) hx hb dX7_set_66 (by decide) ?_
        exact J85  a1 a2 x14 S7 h f H locs w hw hn hk ls (lv_sub hl [0, 1, 2] rfl)
    · have h := bb_f h c9
      refine lv_iconst (v := 0) hx hb dX7_set_56 (by decide) ?_
      exact t_iret C hr hlk w ⟨_, so_v h, rfl, so_w h hw, so_n h hn, hk⟩ (by decide) (by decide) dX7_set_57
  have J44 : ∀ (a1 : Int32) (a2 : Int32) (S : fS), B_X7_set_44  a1 a2 S = some (v, S1) → Gw D K b0 sa ad P n L f0 p l e { frames := 1, cells := 0, slots := 0, locals := 22 } s m [.ref (ad 40 0), .int p1, .int p2].toArray below meth c 4 (MQ below (hQ D K b0 (fun v9 u9 => ∃ f2 : Nat → va_E, v9 = some (.int v) ∧ u9 = lU L f2 ∧ PW K ad P S1 L f2 ∧ S1.2.2.1 = n ∧ Kp ad P L f0 f2)) [.ref (ad 40 0), .int p1, .int p2].toArray s 0 0 (fun q => b0 ≤ q)) 0 0 44 [(0, .ref (ad 40 0)), (1, .int a1), (2, .int a2)] [.ref (ad 40 0)] S := by
    intro a1 a2 S h
    dsimp only [B_X7_set_44] at h
    intro f H locs w hw hn hk ls hl
    refine lv_iconst (v := 1) hx hb dX7_set_44 (by decide) ?_
    refine lv_goto (tgt := 49) hx hb dX7_set_45 (by decide) ?_
    exact J49  a1 a2 1 S h f H locs w hw hn hk ls (lv_sub hl [0, 1, 2] rfl)
  have J38 : ∀ (a1 : Int32) (a2 : Int32) (t0 : Int32) (t1 : Int32) (t2 : Int32) (S : fS), B_X7_set_38  a1 a2 t0 t1 t2 S = some (v, S1) → Gw D K b0 sa ad P n L f0 p l e { frames := 1, cells := 0, slots := 0, locals := 22 } s m [.ref (ad 40 0), .int p1, .int p2].toArray below meth c 4 (MQ below (hQ D K b0 (fun v9 u9 => ∃ f2 : Nat → va_E, v9 = some (.int v) ∧ u9 = lU L f2 ∧ PW K ad P S1 L f2 ∧ S1.2.2.1 = n ∧ Kp ad P L f0 f2)) [.ref (ad 40 0), .int p1, .int p2].toArray s 0 0 (fun q => b0 ≤ q)) 0 0 38 [(0, .ref (ad 40 0)), (1, .int a1), (2, .int a2)] [.int t0, .int t1, .int t2, .ref (ad 40 0)] S := by
    intro a1 a2 t0 t1 t2 S h
    dsimp only [B_X7_set_38] at h
    intro f H locs w hw hn hk ls hl
    obtain ⟨v15, S16, h17, h⟩ := bd_some h
    refine t_callS (n := 3) C w (c_X7_in l D K b0 sa _ L _ ad P hP S hw hn t2 t1 t0 v15 S16 h17) gw_1343 gw_1341 gw_1342 gw_8 ⟨by decide, by decide, by decide +kernel⟩ rfl rfl ⟨by decide, by decide⟩ rfl hl.1 rfl (Nat.le_of_ble_eq_true rfl) dX7_set_38 ⟨Nat.le_of_ble_eq_true rfl, Nat.le_of_ble_eq_true rfl⟩ (fun v9 u H locs hp w => ?_)
    obtain ⟨f2, rfl, rfl, hw, hn, hk1⟩ := hp
    have hk := hk.tr hk1
    generalize f2 = f at w hw hk
    refine lv_if_ne (tgt := 48) hx hb dX7_set_41 (by decide) (fun c18 => ?_) (fun c18 => ?_)
    · have h := bb_f h c18
      refine lv_iconst (v := 0) hx hb dX7_set_48 (by decide) ?_
      exact J49  a1 a2 0 S16 h f H locs w hw hn hk ls (lv_sub hl [0, 1, 2] rfl)
    · have h := bb_t h c18
      exact J44  a1 a2 S16 h f H locs w hw hn hk ls (lv_sub hl [0, 1, 2] rfl)
  dsimp only [F_X7_set] at h
  obtain ⟨f, ef⟩ : ∃ z, z = f0 := ⟨_, rfl⟩
  rw [← ef] at w hw
  have hk : Kp ad P L f0 f := by rw [ef]; exact Kp.rf
  obtain ⟨H, eH⟩ : ∃ z, z = s.heap := ⟨_, rfl⟩
  obtain ⟨locs, el⟩ : ∃ z : List Loc, z = [] := ⟨_, rfl⟩
  rw [← eH, ← el] at w ⊢
  refine lv_aload_n hx hb dX7_set_0 rfl (lv_at hl 0 rfl) ?_
  refine lv_iconst (v := 0) hx hb dX7_set_1 (by decide) ?_
  refine u_puti C w hw (hP _ _ (isn_f rfl rfl (by decide))) rfl (N := 57) rfl rfl cin_7 tyX7 tyX7_ok nmX7 0 (by decide) rfl rfl rfl rfl gw_1156 dX7_set_2 (fun f H locs w hw hk1 => ?_)
  have hk := hk.tr hk1
  refine u_sv h hw hn (fun S19 h hw hn => ?_)
  refine lv_aload_n hx hb dX7_set_5 rfl (lv_at hl 0 rfl) ?_
  refine lv_iload_n hx hb dX7_set_6 rfl (lv_at hl 1 rfl) ?_
  refine lv_iconst (v := 0) hx hb dX7_set_7 (by decide) ?_
  refine lv_iconst (v := 2) hx hb dX7_set_8 (by decide) ?_
  obtain ⟨v20, S21, h22, h⟩ := bd_some h
  refine t_callS (n := 3) C w (c_X7_in l D K b0 sa _ L _ ad P hP S19 hw hn p1 0 2 v20 S21 h22) gw_1343 gw_1341 gw_1342 gw_8 ⟨by decide, by decide, by decide +kernel⟩ rfl rfl ⟨by decide, by decide⟩ rfl hl.1 rfl (Nat.le_of_ble_eq_true rfl) dX7_set_9 ⟨Nat.le_of_ble_eq_true rfl, Nat.le_of_ble_eq_true rfl⟩ (fun v9 u H locs hp w => ?_)
  obtain ⟨f2, rfl, rfl, hw, hn, hk1⟩ := hp
  have hk := hk.tr hk1
  generalize f2 = f at w hw hk
  refine lv_if_eq (tgt := 44) hx hb dX7_set_12 (by decide) (fun c23 => ?_) (fun c23 => ?_)
  · have h := bb_t h c23
    exact J44  p1 p2 S21 h f H locs w hw hn hk ls (lv_sub hl [0, 1, 2] rfl)
  · have h := bb_f h c23
    refine lv_iload_n hx hb dX7_set_15 rfl (lv_at hl 2 rfl) ?_
    refine lv_iconst (v := 0) hx hb dX7_set_16 (by decide) ?_
    refine lv_iload_n hx hb dX7_set_17 rfl (lv_at hl 1 rfl) ?_
    refine lv_if_ne (tgt := 26) hx hb dX7_set_18 (by decide) (fun c24 => ?_) (fun c24 => ?_)
    · have h := bb_f h c24
      refine lv_iload_n hx hb dX7_set_26 rfl (lv_at hl 1 rfl) ?_
      refine lv_iconst (v := 1) hx hb dX7_set_27 (by decide) ?_
      refine lv_icmp_ne (tgt := 36) hx hb dX7_set_28 (by decide) (fun c25 => ?_) (fun c25 => ?_)
      · have h := bb_f h c25
        refine lv_bipush (v := 23) hx hb dX7_set_36 (by decide) ?_
        exact J38  p1 p2 23 0 p2 S21 h f H locs w hw hn hk ls (lv_sub hl [0, 1, 2] rfl)
      · have h := bb_t h c25
        refine lv_bipush (v := 99) hx hb dX7_set_31 (by decide) ?_
        refine lv_goto (tgt := 38) hx hb dX7_set_33 (by decide) ?_
        exact J38  p1 p2 99 0 p2 S21 h f H locs w hw hn hk ls (lv_sub hl [0, 1, 2] rfl)
    · have h := bb_t h c24
      refine lv_bipush (v := 14) hx hb dX7_set_21 (by decide) ?_
      refine lv_goto (tgt := 38) hx hb dX7_set_23 (by decide) ?_
      exact J38  p1 p2 14 0 p2 S21 h f H locs w hw hn hk ls (lv_sub hl [0, 1, 2] rfl)
theorem dX7_seed_0 : decode cX7_seed 0 = .ok (.aload_n 0, 1) := by decide +kernel
theorem dX7_seed_1 : decode cX7_seed 1 = .ok (.iconst 0, 1) := by decide +kernel
theorem dX7_seed_2 : decode cX7_seed 2 = .ok (.putfield 97, 3) := by decide +kernel
theorem dX7_seed_5 : decode cX7_seed 5 = .ok (.aload_n 0, 1) := by decide +kernel
theorem dX7_seed_6 : decode cX7_seed 6 = .ok (.getfield 67, 3) := by decide +kernel
theorem dX7_seed_9 : decode cX7_seed 9 = .ok (.istore_n 2, 1) := by decide +kernel
theorem dX7_seed_10 : decode cX7_seed 10 = .ok (.aload_n 0, 1) := by decide +kernel
theorem dX7_seed_11 : decode cX7_seed 11 = .ok (.iload_n 1, 1) := by decide +kernel
theorem dX7_seed_12 : decode cX7_seed 12 = .ok (.putfield 67, 3) := by decide +kernel
theorem dX7_seed_15 : decode cX7_seed 15 = .ok (.iload_n 2, 1) := by decide +kernel
theorem dX7_seed_16 : decode cX7_seed 16 = .ok (.ireturn, 1) := by decide +kernel
noncomputable def F_X7_seed (p1 : Int32) (S0 : fS) : Option (Int32 × fS) := sv (pu S0 40 0 0 0) (fun S1 => iv (ge S1 40 0 34) (fun x2 => sv (pu S1 40 0 34 p1) (fun S3 => some (x2, S3))))
set_option maxHeartbeats 4000000 in
set_option maxRecDepth 100000 in
theorem c_X7_seed (l : Launch) (D : va_G) (K : Nat → ClassId) (b0 : Nat) (sa : sT) (sz : Nat) (L : List Nat) (f0 : Nat → va_E) (ad : Nat → Nat → Nat) (P : Nat → Nat → Prop) {n : Nat × Nat} (hP : ∀ a i : Nat, isn n a i → P a i) (S0 : fS) (hw : PW K ad P S0 L f0) (hn : S0.2.2.1 = n) (p1 : Int32) (v : Int32) (S1 : fS) (h : F_X7_seed p1 S0 = some (v, S1)) : Met l yX7_seed (.code yX7_seed cX7_seed 3 (some .int) :: gt) { frames := 0, cells := 0, slots := 0, locals := 0 } (va_Pc [.ref (ad 40 0), .int p1] (hPre D K b0 sa sz L f0)) (hQ D K b0 (fun v9 u9 => ∃ f2 : Nat → va_E, v9 = some (.int v) ∧ u9 = lU L f2 ∧ PW K ad P S1 L f2 ∧ S1.2.2.1 = n ∧ Kp ad P L f0 f2)) 0 0 (fun q => b0 ≤ q) := by
  refine t_of (own := RX7) (by decide) rfl ?_ (Nat.le_of_ble_eq_true rfl)
  intro p e s m below meth c ls C w hsz hr hlk hnm hl
  have hx := C.1
  have hb := C.2.1
  have hl : lv_has ls 3 [(0, .ref (ad 40 0)), (1, .int p1)] := hl
  dsimp only [F_X7_seed] at h
  obtain ⟨f, ef⟩ : ∃ z, z = f0 := ⟨_, rfl⟩
  rw [← ef] at w hw
  have hk : Kp ad P L f0 f := by rw [ef]; exact Kp.rf
  obtain ⟨H, eH⟩ : ∃ z, z = s.heap := ⟨_, rfl⟩
  obtain ⟨locs, el⟩ : ∃ z : List Loc, z = [] := ⟨_, rfl⟩
  rw [← eH, ← el] at w ⊢
  refine lv_aload_n hx hb dX7_seed_0 rfl (lv_at hl 0 rfl) ?_
  refine lv_iconst (v := 0) hx hb dX7_seed_1 (by decide) ?_
  refine u_puti C w hw (hP _ _ (isn_f rfl rfl (by decide))) rfl (N := 57) rfl rfl cin_7 tyX7 tyX7_ok nmX7 0 (by decide) rfl rfl rfl rfl gw_1156 dX7_seed_2 (fun f H locs w hw hk1 => ?_)
  have hk := hk.tr hk1
  refine u_sv h hw hn (fun S1 h hw hn => ?_)
  refine lv_aload_n hx hb dX7_seed_5 rfl (lv_at hl 0 rfl) ?_
  refine u_geti C w hw (hP _ _ (isn_f rfl rfl (by decide))) rfl (N := 57) rfl rfl cin_7 34 (by decide) rfl gw_1190 dX7_seed_6 ?_
  refine u_iv h (fun x2 h => ?_)
  refine lv_istore_n (lv' := [(2, .int x2), (0, .ref (ad 40 0)), (1, .int p1)]) hx hb dX7_seed_9 rfl hl (by decide) rfl (fun ls hl => ?_)
  refine lv_aload_n hx hb dX7_seed_10 rfl (lv_at hl 1 rfl) ?_
  refine lv_iload_n hx hb dX7_seed_11 rfl (lv_at hl 2 rfl) ?_
  refine u_puti C w hw (hP _ _ (isn_f rfl rfl (by decide))) rfl (N := 57) rfl rfl cin_7 tyX7 tyX7_ok nmX7 34 (by decide) rfl rfl rfl rfl gw_1190 dX7_seed_12 (fun f H locs w hw hk1 => ?_)
  have hk := hk.tr hk1
  refine u_sv h hw hn (fun S3 h hw hn => ?_)
  refine lv_iload_n hx hb dX7_seed_15 rfl (lv_at hl 0 rfl) ?_
  exact t_iret C hr hlk w ⟨_, so_v h, rfl, so_w h hw, so_n h hn, hk⟩ (by decide) (by decide) dX7_seed_16
theorem dX7_takes_0 : decode cX7_takes 0 = .ok (.aload_n 0, 1) := by decide +kernel
theorem dX7_takes_1 : decode cX7_takes 1 = .ok (.getfield 70, 3) := by decide +kernel
theorem dX7_takes_4 : decode cX7_takes 4 = .ok (.aload_n 0, 1) := by decide +kernel
theorem dX7_takes_5 : decode cX7_takes 5 = .ok (.getfield 272, 3) := by decide +kernel
theorem dX7_takes_8 : decode cX7_takes 8 = .ok (.iload_n 1, 1) := by decide +kernel
theorem dX7_takes_9 : decode cX7_takes 9 = .ok (.iastore, 1) := by decide +kernel
theorem dX7_takes_10 : decode cX7_takes 10 = .ok (.aload_n 0, 1) := by decide +kernel
theorem dX7_takes_11 : decode cX7_takes 11 = .ok (.dup, 1) := by decide +kernel
theorem dX7_takes_12 : decode cX7_takes 12 = .ok (.getfield 272, 3) := by decide +kernel
theorem dX7_takes_15 : decode cX7_takes 15 = .ok (.iconst 1, 1) := by decide +kernel
theorem dX7_takes_16 : decode cX7_takes 16 = .ok (.iadd, 1) := by decide +kernel
theorem dX7_takes_17 : decode cX7_takes 17 = .ok (.putfield 272, 3) := by decide +kernel
theorem dX7_takes_20 : decode cX7_takes 20 = .ok (.aload_n 0, 1) := by decide +kernel
theorem dX7_takes_21 : decode cX7_takes 21 = .ok (.dup, 1) := by decide +kernel
theorem dX7_takes_22 : decode cX7_takes 22 = .ok (.getfield 275, 3) := by decide +kernel
theorem dX7_takes_25 : decode cX7_takes 25 = .ok (.aload_n 0, 1) := by decide +kernel
theorem dX7_takes_26 : decode cX7_takes 26 = .ok (.getfield 33, 3) := by decide +kernel
theorem dX7_takes_29 : decode cX7_takes 29 = .ok (.iload_n 1, 1) := by decide +kernel
theorem dX7_takes_30 : decode cX7_takes 30 = .ok (.iaload, 1) := by decide +kernel
theorem dX7_takes_31 : decode cX7_takes 31 = .ok (.iadd, 1) := by decide +kernel
theorem dX7_takes_32 : decode cX7_takes 32 = .ok (.putfield 275, 3) := by decide +kernel
theorem dX7_takes_35 : decode cX7_takes 35 = .ok (.return_, 1) := by decide +kernel
noncomputable def F_X7_takes (p1 : Int32) (S0 : fS) : Option (Int32 × fS) := iv (ge S0 40 0 40) (fun x1 => gd (ib x1 5) (sv (pu S0 55 0 (x1 : Int32).toNatClampNeg p1) (fun S3 => iv (ge S3 40 0 40) (fun x4 => iv (x4 + (1 : Int32)) (fun x5 => sv (pu S3 40 0 40 x5) (fun S6 => iv (ge S6 40 0 44) (fun x7 => gd (ib p1 24) (iv (ge S6 46 0 (p1 : Int32).toNatClampNeg) (fun x9 => iv (x7 + x9) (fun x10 => sv (pu S6 40 0 44 x10) (fun S11 => some (0, S11))))))))))))
set_option maxHeartbeats 4000000 in
set_option maxRecDepth 100000 in
theorem c_X7_takes (l : Launch) (D : va_G) (K : Nat → ClassId) (b0 : Nat) (sa : sT) (sz : Nat) (L : List Nat) (f0 : Nat → va_E) (ad : Nat → Nat → Nat) (P : Nat → Nat → Prop) {n : Nat × Nat} (hP : ∀ a i : Nat, isn n a i → P a i) (S0 : fS) (hw : PW K ad P S0 L f0) (hn : S0.2.2.1 = n) (p1 : Int32) (v : Int32) (S1 : fS) (h : F_X7_takes p1 S0 = some (v, S1)) : Met l yX7_takes (.code yX7_takes cX7_takes 2 none :: gt) { frames := 0, cells := 0, slots := 0, locals := 0 } (va_Pc [.ref (ad 40 0), .int p1] (hPre D K b0 sa sz L f0)) (hQ D K b0 (fun v9 u9 => ∃ f2 : Nat → va_E, v9 = none ∧ u9 = lU L f2 ∧ PW K ad P S1 L f2 ∧ S1.2.2.1 = n ∧ Kp ad P L f0 f2)) 0 0 (fun q => b0 ≤ q) := by
  refine t_of (own := RX7) (by decide) rfl ?_ (Nat.le_of_ble_eq_true rfl)
  intro p e s m below meth c ls C w hsz hr hlk hnm hl
  have hx := C.1
  have hb := C.2.1
  have hl : lv_has ls 2 [(0, .ref (ad 40 0)), (1, .int p1)] := hl
  dsimp only [F_X7_takes] at h
  obtain ⟨f, ef⟩ : ∃ z, z = f0 := ⟨_, rfl⟩
  rw [← ef] at w hw
  have hk : Kp ad P L f0 f := by rw [ef]; exact Kp.rf
  obtain ⟨H, eH⟩ : ∃ z, z = s.heap := ⟨_, rfl⟩
  obtain ⟨locs, el⟩ : ∃ z : List Loc, z = [] := ⟨_, rfl⟩
  rw [← eH, ← el] at w ⊢
  refine lv_aload_n hx hb dX7_takes_0 rfl (lv_at hl 0 rfl) ?_
  refine u_getr C w hw (hP _ _ (isn_f rfl rfl (by decide))) rfl (N := 57) rfl rfl cin_7 39 (by decide) (by decide) (a2 := 55) (i2 := 0) rfl gw_1195 dX7_takes_1 ?_
  refine lv_aload_n hx hb dX7_takes_4 rfl (lv_at hl 0 rfl) ?_
  refine u_geti C w hw (hP _ _ (isn_f rfl rfl (by decide))) rfl (N := 57) rfl rfl cin_7 40 (by decide) rfl gw_1196 dX7_takes_5 ?_
  refine u_iv h (fun x1 h => ?_)
  refine lv_iload_n hx hb dX7_takes_8 rfl (lv_at hl 1 rfl) ?_
  obtain ⟨g2, h⟩ := gd_some h
  refine u_iast C w hw (hP _ _ (isn_f rfl rfl (by decide))) rfl rfl (n := 5) rfl (vp_in_iff.mpr g2) dX7_takes_9 (fun f H locs w hw hk1 => ?_)
  have hk := hk.tr hk1
  refine u_sv h hw hn (fun S3 h hw hn => ?_)
  refine lv_aload_n hx hb dX7_takes_10 rfl (lv_at hl 0 rfl) ?_
  refine lv_dup hx hb dX7_takes_11 rfl ?_
  refine u_geti C w hw (hP _ _ (isn_f rfl rfl (by decide))) rfl (N := 57) rfl rfl cin_7 40 (by decide) rfl gw_1196 dX7_takes_12 ?_
  refine u_iv h (fun x4 h => ?_)
  refine lv_iconst (v := 1) hx hb dX7_takes_15 (by decide) ?_
  refine lv_iadd hx hb dX7_takes_16 ?_
  refine u_iv h (fun x5 h => ?_)
  refine u_puti C w hw (hP _ _ (isn_f rfl rfl (by decide))) rfl (N := 57) rfl rfl cin_7 tyX7 tyX7_ok nmX7 40 (by decide) rfl rfl rfl rfl gw_1196 dX7_takes_17 (fun f H locs w hw hk1 => ?_)
  have hk := hk.tr hk1
  refine u_sv h hw hn (fun S6 h hw hn => ?_)
  refine lv_aload_n hx hb dX7_takes_20 rfl (lv_at hl 0 rfl) ?_
  refine lv_dup hx hb dX7_takes_21 rfl ?_
  refine u_geti C w hw (hP _ _ (isn_f rfl rfl (by decide))) rfl (N := 57) rfl rfl cin_7 44 (by decide) rfl gw_1200 dX7_takes_22 ?_
  refine u_iv h (fun x7 h => ?_)
  refine lv_aload_n hx hb dX7_takes_25 rfl (lv_at hl 0 rfl) ?_
  refine u_getr C w hw (hP _ _ (isn_f rfl rfl (by decide))) rfl (N := 57) rfl rfl cin_7 22 (by decide) (by decide) (a2 := 46) (i2 := 0) rfl gw_1178 dX7_takes_26 ?_
  refine lv_iload_n hx hb dX7_takes_29 rfl (lv_at hl 1 rfl) ?_
  obtain ⟨g8, h⟩ := gd_some h
  refine u_iald C w hw (hP _ _ (isn_f rfl rfl (by decide))) rfl rfl (n := 24) rfl (vp_in_iff.mpr g8) dX7_takes_30 ?_
  refine u_iv h (fun x9 h => ?_)
  refine lv_iadd hx hb dX7_takes_31 ?_
  refine u_iv h (fun x10 h => ?_)
  refine u_puti C w hw (hP _ _ (isn_f rfl rfl (by decide))) rfl (N := 57) rfl rfl cin_7 tyX7 tyX7_ok nmX7 44 (by decide) rfl rfl rfl rfl gw_1200 dX7_takes_32 (fun f H locs w hw hk1 => ?_)
  have hk := hk.tr hk1
  refine u_sv h hw hn (fun S11 h hw hn => ?_)
  exact t_vret C hr hlk w ⟨_, rfl, rfl, so_w h hw, so_n h hn, hk⟩ (by decide) (by decide) dX7_takes_35
