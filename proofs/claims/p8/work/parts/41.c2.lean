theorem dX3_grip_0 : decode cX3_grip 0 = .ok (.iconst 0, 1) := by decide +kernel
theorem dX3_grip_1 : decode cX3_grip 1 = .ok (.sipush 999, 3) := by decide +kernel
theorem dX3_grip_4 : decode cX3_grip 4 = .ok (.aload_n 0, 1) := by decide +kernel
theorem dX3_grip_5 : decode cX3_grip 5 = .ok (.getfield 19, 3) := by decide +kernel
theorem dX3_grip_8 : decode cX3_grip 8 = .ok (.iconst 0, 1) := by decide +kernel
theorem dX3_grip_9 : decode cX3_grip 9 = .ok (.iaload, 1) := by decide +kernel
theorem dX3_grip_10 : decode cX3_grip 10 = .ok (.invokestatic 22, 3) := by decide +kernel
theorem dX3_grip_13 : decode cX3_grip 13 = .ok (.invokestatic 28, 3) := by decide +kernel
theorem dX3_grip_16 : decode cX3_grip 16 = .ok (.ireturn, 1) := by decide +kernel
noncomputable def F_X3_grip  (S0 : fS) : Option (Int32 × fS) := iv (ge S0 24 0 (0 : Int32).toNatClampNeg) (fun x1 => iv ((if x1 < (999 : Int32) then x1 else (999 : Int32))) (fun x2 => iv ((if (0 : Int32) < x2 then x2 else (0 : Int32))) (fun x3 => some (x3, S0))))
set_option maxHeartbeats 4000000 in
set_option maxRecDepth 100000 in
theorem c_X3_grip (l : Launch) (D : va_G) (K : Nat → ClassId) (b0 : Nat) (sa : sT) (sz : Nat) (L : List Nat) (f0 : Nat → va_E) (ad : Nat → Nat → Nat) (P : Nat → Nat → Prop) {n : Nat × Nat} (hP : ∀ a i : Nat, isn n a i → P a i) (S0 : fS) (hw : PW K ad P S0 L f0) (hn : S0.2.2.1 = n)  (v : Int32) (S1 : fS) (h : F_X3_grip  S0 = some (v, S1)) : Met l yX3_grip (.code yX3_grip cX3_grip 1 (some .int) :: gt) { frames := 1, cells := 0, slots := 0, locals := 19 } (va_Pc [.ref (ad 22 0)] (hPre D K b0 sa sz L f0)) (hQ D K b0 (fun v9 u9 => ∃ f2 : Nat → va_E, v9 = some (.int v) ∧ u9 = lU L f2 ∧ PW K ad P S1 L f2 ∧ S1.2.2.1 = n ∧ Kp ad P L f0 f2)) 0 0 (fun q => b0 ≤ q) := by
  refine t_of (own := RX3) (by decide) rfl ?_ (Nat.le_of_ble_eq_true rfl)
  intro p e s m below meth c ls C w hsz hr hlk hnm hl
  have hx := C.1
  have hb := C.2.1
  have hl : lv_has ls 1 [(0, .ref (ad 22 0))] := hl
  dsimp only [F_X3_grip] at h
  obtain ⟨f, ef⟩ : ∃ z, z = f0 := ⟨_, rfl⟩
  rw [← ef] at w hw
  have hk : Kp ad P L f0 f := by rw [ef]; exact Kp.rf
  obtain ⟨H, eH⟩ : ∃ z, z = s.heap := ⟨_, rfl⟩
  obtain ⟨locs, el⟩ : ∃ z : List Loc, z = [] := ⟨_, rfl⟩
  rw [← eH, ← el] at w ⊢
  refine lv_iconst (v := 0) hx hb dX3_grip_0 (by decide) ?_
  refine lv_sipush (v := 999) hx hb dX3_grip_1 (by decide) ?_
  refine lv_aload_n hx hb dX3_grip_4 rfl (lv_at hl 0 rfl) ?_
  refine u_getr C w hw (hP _ _ (isn_f rfl rfl (by decide))) rfl (N := 3) rfl rfl cin_3 2 (by decide) (by decide) (a2 := 24) (i2 := 0) rfl gw_205 dX3_grip_5 ?_
  refine lv_iconst (v := 0) hx hb dX3_grip_8 (by decide) ?_
  refine u_iald C w hw (hP _ _ (isn_f rfl rfl (by decide))) rfl rfl (n := 3) rfl (vp_in_iff.mpr ⟨by decide, by decide⟩) dX3_grip_9 ?_
  refine u_iv h (fun x1 h => ?_)
  refine va_mmin hx hb (C.2.2.1.trans hl.1.symm) C.2.2.2.1 (C.2.2.2.2 _ gw_408) (C.2.2.2.2 _ gw_409) (C.2.2.2.2 _ gw_15) (C.2.2.2.2 _ gw_410) (by decide) (Nat.le_of_ble_eq_true rfl) (by decide) (by decide) dX3_grip_10 ?_
  refine u_iv h (fun x2 h => ?_)
  refine va_mmax hx hb (C.2.2.1.trans hl.1.symm) C.2.2.2.1 (C.2.2.2.2 _ gw_411) (C.2.2.2.2 _ gw_412) (C.2.2.2.2 _ gw_15) (C.2.2.2.2 _ gw_413) (by decide) (Nat.le_of_ble_eq_true rfl) (by decide) (by decide) dX3_grip_13 ?_
  refine u_iv h (fun x3 h => ?_)
  exact t_iret C hr hlk w ⟨_, so_v h, rfl, so_w h hw, so_n h hn, hk⟩ (by decide) (by decide) dX3_grip_16
theorem dX3_slip_0 : decode cX3_slip 0 = .ok (.iconst 0, 1) := by decide +kernel
theorem dX3_slip_1 : decode cX3_slip 1 = .ok (.sipush 999, 3) := by decide +kernel
theorem dX3_slip_4 : decode cX3_slip 4 = .ok (.aload_n 0, 1) := by decide +kernel
theorem dX3_slip_5 : decode cX3_slip 5 = .ok (.getfield 19, 3) := by decide +kernel
theorem dX3_slip_8 : decode cX3_slip 8 = .ok (.iconst 1, 1) := by decide +kernel
theorem dX3_slip_9 : decode cX3_slip 9 = .ok (.iaload, 1) := by decide +kernel
theorem dX3_slip_10 : decode cX3_slip 10 = .ok (.invokestatic 22, 3) := by decide +kernel
theorem dX3_slip_13 : decode cX3_slip 13 = .ok (.invokestatic 28, 3) := by decide +kernel
theorem dX3_slip_16 : decode cX3_slip 16 = .ok (.ireturn, 1) := by decide +kernel
noncomputable def F_X3_slip  (S0 : fS) : Option (Int32 × fS) := iv (ge S0 24 0 (1 : Int32).toNatClampNeg) (fun x1 => iv ((if x1 < (999 : Int32) then x1 else (999 : Int32))) (fun x2 => iv ((if (0 : Int32) < x2 then x2 else (0 : Int32))) (fun x3 => some (x3, S0))))
set_option maxHeartbeats 4000000 in
set_option maxRecDepth 100000 in
theorem c_X3_slip (l : Launch) (D : va_G) (K : Nat → ClassId) (b0 : Nat) (sa : sT) (sz : Nat) (L : List Nat) (f0 : Nat → va_E) (ad : Nat → Nat → Nat) (P : Nat → Nat → Prop) {n : Nat × Nat} (hP : ∀ a i : Nat, isn n a i → P a i) (S0 : fS) (hw : PW K ad P S0 L f0) (hn : S0.2.2.1 = n)  (v : Int32) (S1 : fS) (h : F_X3_slip  S0 = some (v, S1)) : Met l yX3_slip (.code yX3_slip cX3_slip 1 (some .int) :: gt) { frames := 1, cells := 0, slots := 0, locals := 19 } (va_Pc [.ref (ad 22 0)] (hPre D K b0 sa sz L f0)) (hQ D K b0 (fun v9 u9 => ∃ f2 : Nat → va_E, v9 = some (.int v) ∧ u9 = lU L f2 ∧ PW K ad P S1 L f2 ∧ S1.2.2.1 = n ∧ Kp ad P L f0 f2)) 0 0 (fun q => b0 ≤ q) := by
  refine t_of (own := RX3) (by decide) rfl ?_ (Nat.le_of_ble_eq_true rfl)
  intro p e s m below meth c ls C w hsz hr hlk hnm hl
  have hx := C.1
  have hb := C.2.1
  have hl : lv_has ls 1 [(0, .ref (ad 22 0))] := hl
  dsimp only [F_X3_slip] at h
  obtain ⟨f, ef⟩ : ∃ z, z = f0 := ⟨_, rfl⟩
  rw [← ef] at w hw
  have hk : Kp ad P L f0 f := by rw [ef]; exact Kp.rf
  obtain ⟨H, eH⟩ : ∃ z, z = s.heap := ⟨_, rfl⟩
  obtain ⟨locs, el⟩ : ∃ z : List Loc, z = [] := ⟨_, rfl⟩
  rw [← eH, ← el] at w ⊢
  refine lv_iconst (v := 0) hx hb dX3_slip_0 (by decide) ?_
  refine lv_sipush (v := 999) hx hb dX3_slip_1 (by decide) ?_
  refine lv_aload_n hx hb dX3_slip_4 rfl (lv_at hl 0 rfl) ?_
  refine u_getr C w hw (hP _ _ (isn_f rfl rfl (by decide))) rfl (N := 3) rfl rfl cin_3 2 (by decide) (by decide) (a2 := 24) (i2 := 0) rfl gw_205 dX3_slip_5 ?_
  refine lv_iconst (v := 1) hx hb dX3_slip_8 (by decide) ?_
  refine u_iald C w hw (hP _ _ (isn_f rfl rfl (by decide))) rfl rfl (n := 3) rfl (vp_in_iff.mpr ⟨by decide, by decide⟩) dX3_slip_9 ?_
  refine u_iv h (fun x1 h => ?_)
  refine va_mmin hx hb (C.2.2.1.trans hl.1.symm) C.2.2.2.1 (C.2.2.2.2 _ gw_408) (C.2.2.2.2 _ gw_409) (C.2.2.2.2 _ gw_15) (C.2.2.2.2 _ gw_410) (by decide) (Nat.le_of_ble_eq_true rfl) (by decide) (by decide) dX3_slip_10 ?_
  refine u_iv h (fun x2 h => ?_)
  refine va_mmax hx hb (C.2.2.1.trans hl.1.symm) C.2.2.2.1 (C.2.2.2.2 _ gw_411) (C.2.2.2.2 _ gw_412) (C.2.2.2.2 _ gw_15) (C.2.2.2.2 _ gw_413) (by decide) (Nat.le_of_ble_eq_true rfl) (by decide) (by decide) dX3_slip_13 ?_
  refine u_iv h (fun x3 h => ?_)
  exact t_iret C hr hlk w ⟨_, so_v h, rfl, so_w h hw, so_n h hn, hk⟩ (by decide) (by decide) dX3_slip_16
theorem dX3_lots_0 : decode cX3_lots 0 = .ok (.iconst 1, 1) := by decide +kernel
theorem dX3_lots_1 : decode cX3_lots 1 = .ok (.bipush 36, 2) := by decide +kernel
theorem dX3_lots_3 : decode cX3_lots 3 = .ok (.aload_n 0, 1) := by decide +kernel
theorem dX3_lots_4 : decode cX3_lots 4 = .ok (.getfield 19, 3) := by decide +kernel
theorem dX3_lots_7 : decode cX3_lots 7 = .ok (.iconst 2, 1) := by decide +kernel
theorem dX3_lots_8 : decode cX3_lots 8 = .ok (.iaload, 1) := by decide +kernel
theorem dX3_lots_9 : decode cX3_lots 9 = .ok (.invokestatic 22, 3) := by decide +kernel
theorem dX3_lots_12 : decode cX3_lots 12 = .ok (.invokestatic 28, 3) := by decide +kernel
theorem dX3_lots_15 : decode cX3_lots 15 = .ok (.ireturn, 1) := by decide +kernel
noncomputable def F_X3_lots  (S0 : fS) : Option (Int32 × fS) := iv (ge S0 24 0 (2 : Int32).toNatClampNeg) (fun x1 => iv ((if x1 < (36 : Int32) then x1 else (36 : Int32))) (fun x2 => iv ((if (1 : Int32) < x2 then x2 else (1 : Int32))) (fun x3 => some (x3, S0))))
set_option maxHeartbeats 4000000 in
set_option maxRecDepth 100000 in
theorem c_X3_lots (l : Launch) (D : va_G) (K : Nat → ClassId) (b0 : Nat) (sa : sT) (sz : Nat) (L : List Nat) (f0 : Nat → va_E) (ad : Nat → Nat → Nat) (P : Nat → Nat → Prop) {n : Nat × Nat} (hP : ∀ a i : Nat, isn n a i → P a i) (S0 : fS) (hw : PW K ad P S0 L f0) (hn : S0.2.2.1 = n)  (v : Int32) (S1 : fS) (h : F_X3_lots  S0 = some (v, S1)) : Met l yX3_lots (.code yX3_lots cX3_lots 1 (some .int) :: gt) { frames := 1, cells := 0, slots := 0, locals := 19 } (va_Pc [.ref (ad 22 0)] (hPre D K b0 sa sz L f0)) (hQ D K b0 (fun v9 u9 => ∃ f2 : Nat → va_E, v9 = some (.int v) ∧ u9 = lU L f2 ∧ PW K ad P S1 L f2 ∧ S1.2.2.1 = n ∧ Kp ad P L f0 f2)) 0 0 (fun q => b0 ≤ q) := by
  refine t_of (own := RX3) (by decide) rfl ?_ (Nat.le_of_ble_eq_true rfl)
  intro p e s m below meth c ls C w hsz hr hlk hnm hl
  have hx := C.1
  have hb := C.2.1
  have hl : lv_has ls 1 [(0, .ref (ad 22 0))] := hl
  dsimp only [F_X3_lots] at h
  obtain ⟨f, ef⟩ : ∃ z, z = f0 := ⟨_, rfl⟩
  rw [← ef] at w hw
  have hk : Kp ad P L f0 f := by rw [ef]; exact Kp.rf
  obtain ⟨H, eH⟩ : ∃ z, z = s.heap := ⟨_, rfl⟩
  obtain ⟨locs, el⟩ : ∃ z : List Loc, z = [] := ⟨_, rfl⟩
  rw [← eH, ← el] at w ⊢
  refine lv_iconst (v := 1) hx hb dX3_lots_0 (by decide) ?_
  refine lv_bipush (v := 36) hx hb dX3_lots_1 (by decide) ?_
  refine lv_aload_n hx hb dX3_lots_3 rfl (lv_at hl 0 rfl) ?_
  refine u_getr C w hw (hP _ _ (isn_f rfl rfl (by decide))) rfl (N := 3) rfl rfl cin_3 2 (by decide) (by decide) (a2 := 24) (i2 := 0) rfl gw_205 dX3_lots_4 ?_
  refine lv_iconst (v := 2) hx hb dX3_lots_7 (by decide) ?_
  refine u_iald C w hw (hP _ _ (isn_f rfl rfl (by decide))) rfl rfl (n := 3) rfl (vp_in_iff.mpr ⟨by decide, by decide⟩) dX3_lots_8 ?_
  refine u_iv h (fun x1 h => ?_)
  refine va_mmin hx hb (C.2.2.1.trans hl.1.symm) C.2.2.2.1 (C.2.2.2.2 _ gw_408) (C.2.2.2.2 _ gw_409) (C.2.2.2.2 _ gw_15) (C.2.2.2.2 _ gw_410) (by decide) (Nat.le_of_ble_eq_true rfl) (by decide) (by decide) dX3_lots_9 ?_
  refine u_iv h (fun x2 h => ?_)
  refine va_mmax hx hb (C.2.2.1.trans hl.1.symm) C.2.2.2.1 (C.2.2.2.2 _ gw_411) (C.2.2.2.2 _ gw_412) (C.2.2.2.2 _ gw_15) (C.2.2.2.2 _ gw_413) (by decide) (Nat.le_of_ble_eq_true rfl) (by decide) (by decide) dX3_lots_12 ?_
  refine u_iv h (fun x3 h => ?_)
  exact t_iret C hr hlk w ⟨_, so_v h, rfl, so_w h hw, so_n h hn, hk⟩ (by decide) (by decide) dX3_lots_15
theorem dX3_push_0 : decode cX3_push 0 = .ok (.aload_n 0, 1) := by decide +kernel
theorem dX3_push_1 : decode cX3_push 1 = .ok (.getfield 15, 3) := by decide +kernel
theorem dX3_push_4 : decode cX3_push 4 = .ok (.aload_n 0, 1) := by decide +kernel
theorem dX3_push_5 : decode cX3_push 5 = .ok (.getfield 9, 3) := by decide +kernel
theorem dX3_push_8 : decode cX3_push 8 = .ok (.arraylength, 1) := by decide +kernel
theorem dX3_push_9 : decode cX3_push 9 = .ok (.if_icmp .ge 23, 3) := by decide +kernel
theorem dX3_push_12 : decode cX3_push 12 = .ok (.aload_n 0, 1) := by decide +kernel
theorem dX3_push_13 : decode cX3_push 13 = .ok (.getfield 9, 3) := by decide +kernel
theorem dX3_push_16 : decode cX3_push 16 = .ok (.aload_n 0, 1) := by decide +kernel
theorem dX3_push_17 : decode cX3_push 17 = .ok (.getfield 15, 3) := by decide +kernel
theorem dX3_push_20 : decode cX3_push 20 = .ok (.iload_n 1, 1) := by decide +kernel
theorem dX3_push_21 : decode cX3_push 21 = .ok (.iastore, 1) := by decide +kernel
theorem dX3_push_22 : decode cX3_push 22 = .ok (.aload_n 0, 1) := by decide +kernel
theorem dX3_push_23 : decode cX3_push 23 = .ok (.dup, 1) := by decide +kernel
theorem dX3_push_24 : decode cX3_push 24 = .ok (.getfield 15, 3) := by decide +kernel
theorem dX3_push_27 : decode cX3_push 27 = .ok (.iconst 1, 1) := by decide +kernel
theorem dX3_push_28 : decode cX3_push 28 = .ok (.iadd, 1) := by decide +kernel
theorem dX3_push_29 : decode cX3_push 29 = .ok (.putfield 15, 3) := by decide +kernel
theorem dX3_push_32 : decode cX3_push 32 = .ok (.return_, 1) := by decide +kernel
noncomputable def F_X3_push (p1 : Int32) (S0 : fS) : Option (Int32 × fS) := iv (ge S0 22 0 1) (fun x1 => bb ((300 : Int32) ≤ x1) (some (0, S0)) (iv (ge S0 22 0 1) (fun x3 => gd (ib x3 300) (sv (pu S0 23 0 (x3 : Int32).toNatClampNeg p1) (fun S5 => iv (ge S5 22 0 1) (fun x6 => iv (x6 + (1 : Int32)) (fun x7 => sv (pu S5 22 0 1 x7) (fun S8 => some (0, S8)))))))))
set_option maxHeartbeats 4000000 in
set_option maxRecDepth 100000 in
theorem c_X3_push (l : Launch) (D : va_G) (K : Nat → ClassId) (b0 : Nat) (sa : sT) (sz : Nat) (L : List Nat) (f0 : Nat → va_E) (ad : Nat → Nat → Nat) (P : Nat → Nat → Prop) {n : Nat × Nat} (hP : ∀ a i : Nat, isn n a i → P a i) (S0 : fS) (hw : PW K ad P S0 L f0) (hn : S0.2.2.1 = n) (p1 : Int32) (v : Int32) (S1 : fS) (h : F_X3_push p1 S0 = some (v, S1)) : Met l yX3_push (.code yX3_push cX3_push 2 none :: gt) { frames := 0, cells := 0, slots := 0, locals := 0 } (va_Pc [.ref (ad 22 0), .int p1] (hPre D K b0 sa sz L f0)) (hQ D K b0 (fun v9 u9 => ∃ f2 : Nat → va_E, v9 = none ∧ u9 = lU L f2 ∧ PW K ad P S1 L f2 ∧ S1.2.2.1 = n ∧ Kp ad P L f0 f2)) 0 0 (fun q => b0 ≤ q) := by
  refine t_of (own := RX3) (by decide) rfl ?_ (Nat.le_of_ble_eq_true rfl)
  intro p e s m below meth c ls C w hsz hr hlk hnm hl
  have hx := C.1
  have hb := C.2.1
  have hl : lv_has ls 2 [(0, .ref (ad 22 0)), (1, .int p1)] := hl
  dsimp only [F_X3_push] at h
  obtain ⟨f, ef⟩ : ∃ z, z = f0 := ⟨_, rfl⟩
  rw [← ef] at w hw
  have hk : Kp ad P L f0 f := by rw [ef]; exact Kp.rf
  obtain ⟨H, eH⟩ : ∃ z, z = s.heap := ⟨_, rfl⟩
  obtain ⟨locs, el⟩ : ∃ z : List Loc, z = [] := ⟨_, rfl⟩
  rw [← eH, ← el] at w ⊢
  refine lv_aload_n hx hb dX3_push_0 rfl (lv_at hl 0 rfl) ?_
  refine u_geti C w hw (hP _ _ (isn_f rfl rfl (by decide))) rfl (N := 3) rfl rfl cin_3 1 (by decide) rfl gw_204 dX3_push_1 ?_
  refine u_iv h (fun x1 h => ?_)
  refine lv_aload_n hx hb dX3_push_4 rfl (lv_at hl 0 rfl) ?_
  refine u_getr C w hw (hP _ _ (isn_f rfl rfl (by decide))) rfl (N := 3) rfl rfl cin_3 0 (by decide) (by decide) (a2 := 23) (i2 := 0) rfl gw_203 dX3_push_5 ?_
  refine u_alen C w hw (hP _ _ (isn_f rfl rfl (by decide))) rfl rfl (v := 300) rfl dX3_push_8 ?_
  refine lv_icmp_ge (tgt := 32) hx hb dX3_push_9 (by decide) (fun c2 => ?_) (fun c2 => ?_)
  · have h := bb_t h c2
    exact t_vret C hr hlk w ⟨_, rfl, rfl, so_w h hw, so_n h hn, hk⟩ (by decide) (by decide) dX3_push_32
  · have h := bb_f h c2
    refine lv_aload_n hx hb dX3_push_12 rfl (lv_at hl 0 rfl) ?_
    refine u_getr C w hw (hP _ _ (isn_f rfl rfl (by decide))) rfl (N := 3) rfl rfl cin_3 0 (by decide) (by decide) (a2 := 23) (i2 := 0) rfl gw_203 dX3_push_13 ?_
    refine lv_aload_n hx hb dX3_push_16 rfl (lv_at hl 0 rfl) ?_
    refine u_geti C w hw (hP _ _ (isn_f rfl rfl (by decide))) rfl (N := 3) rfl rfl cin_3 1 (by decide) rfl gw_204 dX3_push_17 ?_
    refine u_iv h (fun x3 h => ?_)
    refine lv_iload_n hx hb dX3_push_20 rfl (lv_at hl 1 rfl) ?_
    obtain ⟨g4, h⟩ := gd_some h
    refine u_iast C w hw (hP _ _ (isn_f rfl rfl (by decide))) rfl rfl (n := 300) rfl (vp_in_iff.mpr g4) dX3_push_21 (fun f H locs w hw hk1 => ?_)
    have hk := hk.tr hk1
    refine u_sv h hw hn (fun S5 h hw hn => ?_)
    refine lv_aload_n hx hb dX3_push_22 rfl (lv_at hl 0 rfl) ?_
    refine lv_dup hx hb dX3_push_23 rfl ?_
    refine u_geti C w hw (hP _ _ (isn_f rfl rfl (by decide))) rfl (N := 3) rfl rfl cin_3 1 (by decide) rfl gw_204 dX3_push_24 ?_
    refine u_iv h (fun x6 h => ?_)
    refine lv_iconst (v := 1) hx hb dX3_push_27 (by decide) ?_
    refine lv_iadd hx hb dX3_push_28 ?_
    refine u_iv h (fun x7 h => ?_)
    refine u_puti C w hw (hP _ _ (isn_f rfl rfl (by decide))) rfl (N := 3) rfl rfl cin_3 tyX3 tyX3_ok nmX3 1 (by decide) rfl rfl rfl rfl gw_204 dX3_push_29 (fun f H locs w hw hk1 => ?_)
    have hk := hk.tr hk1
    refine u_sv h hw hn (fun S8 h hw hn => ?_)
    exact t_vret C hr hlk w ⟨_, rfl, rfl, so_w h hw, so_n h hn, hk⟩ (by decide) (by decide) dX3_push_32
theorem dX3_named_0 : decode cX3_named 0 = .ok (.iload_n 0, 1) := by decide +kernel
theorem dX3_named_1 : decode cX3_named 1 = .ok (.tableswitch 66 270 275 #[39, 44, 49, 54, 59, 64], 39) := by decide +kernel
theorem dX3_named_40 : decode cX3_named 40 = .ok (.aload_n 1, 1) := by decide +kernel
theorem dX3_named_41 : decode cX3_named 41 = .ok (.getfield 61, 3) := by decide +kernel
theorem dX3_named_44 : decode cX3_named 44 = .ok (.ireturn, 1) := by decide +kernel
theorem dX3_named_45 : decode cX3_named 45 = .ok (.aload_n 1, 1) := by decide +kernel
theorem dX3_named_46 : decode cX3_named 46 = .ok (.getfield 66, 3) := by decide +kernel
theorem dX3_named_49 : decode cX3_named 49 = .ok (.ireturn, 1) := by decide +kernel
theorem dX3_named_50 : decode cX3_named 50 = .ok (.aload_n 1, 1) := by decide +kernel
theorem dX3_named_51 : decode cX3_named 51 = .ok (.getfield 69, 3) := by decide +kernel
theorem dX3_named_54 : decode cX3_named 54 = .ok (.ireturn, 1) := by decide +kernel
theorem dX3_named_55 : decode cX3_named 55 = .ok (.aload_n 1, 1) := by decide +kernel
theorem dX3_named_56 : decode cX3_named 56 = .ok (.getfield 72, 3) := by decide +kernel
theorem dX3_named_59 : decode cX3_named 59 = .ok (.ireturn, 1) := by decide +kernel
theorem dX3_named_60 : decode cX3_named 60 = .ok (.aload_n 1, 1) := by decide +kernel
theorem dX3_named_61 : decode cX3_named 61 = .ok (.getfield 75, 3) := by decide +kernel
theorem dX3_named_64 : decode cX3_named 64 = .ok (.ireturn, 1) := by decide +kernel
theorem dX3_named_65 : decode cX3_named 65 = .ok (.iload_n 2, 1) := by decide +kernel
theorem dX3_named_66 : decode cX3_named 66 = .ok (.ireturn, 1) := by decide +kernel
theorem dX3_named_67 : decode cX3_named 67 = .ok (.aload_n 1, 1) := by decide +kernel
theorem dX3_named_68 : decode cX3_named 68 = .ok (.getfield 78, 3) := by decide +kernel
theorem dX3_named_71 : decode cX3_named 71 = .ok (.ireturn, 1) := by decide +kernel
noncomputable def F_X3_named (p0 : Int32) (r1 : Nat) (p2 : Int32) (S0 : fS) : Option (Int32 × fS) := bb (p0.toInt = 270) (iv (ge S0 25 r1 4) (fun x2 => some (x2, S0))) (bb (p0.toInt = 271) (iv (ge S0 25 r1 5) (fun x4 => some (x4, S0))) (bb (p0.toInt = 272) (iv (ge S0 25 r1 6) (fun x6 => some (x6, S0))) (bb (p0.toInt = 273) (iv (ge S0 25 r1 7) (fun x8 => some (x8, S0))) (bb (p0.toInt = 274) (iv (ge S0 25 r1 8) (fun x10 => some (x10, S0))) (bb (p0.toInt = 275) (some (p2, S0)) (iv (ge S0 25 r1 9) (fun x12 => some (x12, S0))))))))
set_option maxHeartbeats 4000000 in
set_option maxRecDepth 100000 in
theorem c_X3_named (l : Launch) (D : va_G) (K : Nat → ClassId) (b0 : Nat) (sa : sT) (sz : Nat) (L : List Nat) (f0 : Nat → va_E) (ad : Nat → Nat → Nat) (P : Nat → Nat → Prop) {n : Nat × Nat} (hP : ∀ a i : Nat, isn n a i → P a i) (S0 : fS) (hw : PW K ad P S0 L f0) (hn : S0.2.2.1 = n) (p0 : Int32) (r1 : Nat) (hr1 : r1 < n.1) (p2 : Int32) (v : Int32) (S1 : fS) (h : F_X3_named p0 r1 p2 S0 = some (v, S1)) : Met l yX3_named (.code yX3_named cX3_named 3 (some .int) :: gt) { frames := 0, cells := 0, slots := 0, locals := 0 } (va_Pc [.int p0, .ref (ad 25 r1), .int p2] (hPre D K b0 sa sz L f0)) (hQ D K b0 (fun v9 u9 => ∃ f2 : Nat → va_E, v9 = some (.int v) ∧ u9 = lU L f2 ∧ PW K ad P S1 L f2 ∧ S1.2.2.1 = n ∧ Kp ad P L f0 f2)) 0 0 (fun q => b0 ≤ q) := by
  refine t_of (own := RX3) (by decide) rfl ?_ (Nat.le_of_ble_eq_true rfl)
  intro p e s m below meth c ls C w hsz hr hlk hnm hl
  have hx := C.1
  have hb := C.2.1
  have hl : lv_has ls 3 [(0, .int p0), (1, .ref (ad 25 r1)), (2, .int p2)] := hl
  dsimp only [F_X3_named] at h
  obtain ⟨f, ef⟩ : ∃ z, z = f0 := ⟨_, rfl⟩
  rw [← ef] at w hw
  have hk : Kp ad P L f0 f := by rw [ef]; exact Kp.rf
  obtain ⟨H, eH⟩ : ∃ z, z = s.heap := ⟨_, rfl⟩
  obtain ⟨locs, el⟩ : ∃ z : List Loc, z = [] := ⟨_, rfl⟩
  rw [← eH, ← el] at w ⊢
  refine lv_iload_n hx hb dX3_named_0 rfl (lv_at hl 0 rfl) ?_
  by_cases c1 : p0.toInt = 270
  · have h := bb_t h c1
    refine lv_tableIn (tgt := 40) hx hb dX3_named_1 (by omega) (by omega) (by rw [c1]; rfl) (by decide) ?_
    refine lv_aload_n hx hb dX3_named_40 rfl (lv_at hl 1 rfl) ?_
    refine u_geti C w hw (hP _ _ (isn_t25 hr1)) rfl (N := 17) rfl rfl cin_5 4 (by decide) rfl gw_228 dX3_named_41 ?_
    refine u_iv h (fun x2 h => ?_)
    exact t_iret C hr hlk w ⟨_, so_v h, rfl, so_w h hw, so_n h hn, hk⟩ (by decide) (by decide) dX3_named_44
  have h := bb_f h c1
  by_cases c3 : p0.toInt = 271
  · have h := bb_t h c3
    refine lv_tableIn (tgt := 45) hx hb dX3_named_1 (by omega) (by omega) (by rw [c3]; rfl) (by decide) ?_
    refine lv_aload_n hx hb dX3_named_45 rfl (lv_at hl 1 rfl) ?_
    refine u_geti C w hw (hP _ _ (isn_t25 hr1)) rfl (N := 17) rfl rfl cin_5 5 (by decide) rfl gw_231 dX3_named_46 ?_
    refine u_iv h (fun x4 h => ?_)
    exact t_iret C hr hlk w ⟨_, so_v h, rfl, so_w h hw, so_n h hn, hk⟩ (by decide) (by decide) dX3_named_49
  have h := bb_f h c3
  by_cases c5 : p0.toInt = 272
  · have h := bb_t h c5
    refine lv_tableIn (tgt := 50) hx hb dX3_named_1 (by omega) (by omega) (by rw [c5]; rfl) (by decide) ?_
    refine lv_aload_n hx hb dX3_named_50 rfl (lv_at hl 1 rfl) ?_
    refine u_geti C w hw (hP _ _ (isn_t25 hr1)) rfl (N := 17) rfl rfl cin_5 6 (by decide) rfl gw_234 dX3_named_51 ?_
    refine u_iv h (fun x6 h => ?_)
    exact t_iret C hr hlk w ⟨_, so_v h, rfl, so_w h hw, so_n h hn, hk⟩ (by decide) (by decide) dX3_named_54
  have h := bb_f h c5
  by_cases c7 : p0.toInt = 273
  · have h := bb_t h c7
    refine lv_tableIn (tgt := 55) hx hb dX3_named_1 (by omega) (by omega) (by rw [c7]; rfl) (by decide) ?_
    refine lv_aload_n hx hb dX3_named_55 rfl (lv_at hl 1 rfl) ?_
    refine u_geti C w hw (hP _ _ (isn_t25 hr1)) rfl (N := 17) rfl rfl cin_5 7 (by decide) rfl gw_237 dX3_named_56 ?_
    refine u_iv h (fun x8 h => ?_)
    exact t_iret C hr hlk w ⟨_, so_v h, rfl, so_w h hw, so_n h hn, hk⟩ (by decide) (by decide) dX3_named_59
  have h := bb_f h c7
  by_cases c9 : p0.toInt = 274
  · have h := bb_t h c9
    refine lv_tableIn (tgt := 60) hx hb dX3_named_1 (by omega) (by omega) (by rw [c9]; rfl) (by decide) ?_
    refine lv_aload_n hx hb dX3_named_60 rfl (lv_at hl 1 rfl) ?_
    refine u_geti C w hw (hP _ _ (isn_t25 hr1)) rfl (N := 17) rfl rfl cin_5 8 (by decide) rfl gw_239 dX3_named_61 ?_
    refine u_iv h (fun x10 h => ?_)
    exact t_iret C hr hlk w ⟨_, so_v h, rfl, so_w h hw, so_n h hn, hk⟩ (by decide) (by decide) dX3_named_64
  have h := bb_f h c9
  by_cases c11 : p0.toInt = 275
  · have h := bb_t h c11
    refine lv_tableIn (tgt := 65) hx hb dX3_named_1 (by omega) (by omega) (by rw [c11]; rfl) (by decide) ?_
    refine lv_iload_n hx hb dX3_named_65 rfl (lv_at hl 2 rfl) ?_
    exact t_iret C hr hlk w ⟨_, so_v h, rfl, so_w h hw, so_n h hn, hk⟩ (by decide) (by decide) dX3_named_66
  have h := bb_f h c11
  refine lv_tableOut (tgt := 67) hx hb dX3_named_1 (by omega) (by decide) ?_
  refine lv_aload_n hx hb dX3_named_67 rfl (lv_at hl 1 rfl) ?_
  refine u_geti C w hw (hP _ _ (isn_t25 hr1)) rfl (N := 17) rfl rfl cin_5 9 (by decide) rfl gw_241 dX3_named_68 ?_
  refine u_iv h (fun x12 h => ?_)
  exact t_iret C hr hlk w ⟨_, so_v h, rfl, so_w h hw, so_n h hn, hk⟩ (by decide) (by decide) dX3_named_71
theorem dX3_pop_0 : decode cX3_pop 0 = .ok (.aload_n 0, 1) := by decide +kernel
theorem dX3_pop_1 : decode cX3_pop 1 = .ok (.getfield 15, 3) := by decide +kernel
theorem dX3_pop_4 : decode cX3_pop 4 = .ok (.ifCond .gt 5, 3) := by decide +kernel
theorem dX3_pop_7 : decode cX3_pop 7 = .ok (.iconst 0, 1) := by decide +kernel
theorem dX3_pop_8 : decode cX3_pop 8 = .ok (.ireturn, 1) := by decide +kernel
theorem dX3_pop_9 : decode cX3_pop 9 = .ok (.aload_n 0, 1) := by decide +kernel
theorem dX3_pop_10 : decode cX3_pop 10 = .ok (.dup, 1) := by decide +kernel
theorem dX3_pop_11 : decode cX3_pop 11 = .ok (.getfield 15, 3) := by decide +kernel
theorem dX3_pop_14 : decode cX3_pop 14 = .ok (.iconst 1, 1) := by decide +kernel
theorem dX3_pop_15 : decode cX3_pop 15 = .ok (.isub, 1) := by decide +kernel
theorem dX3_pop_16 : decode cX3_pop 16 = .ok (.putfield 15, 3) := by decide +kernel
theorem dX3_pop_19 : decode cX3_pop 19 = .ok (.aload_n 0, 1) := by decide +kernel
theorem dX3_pop_20 : decode cX3_pop 20 = .ok (.getfield 9, 3) := by decide +kernel
theorem dX3_pop_23 : decode cX3_pop 23 = .ok (.aload_n 0, 1) := by decide +kernel
theorem dX3_pop_24 : decode cX3_pop 24 = .ok (.getfield 15, 3) := by decide +kernel
theorem dX3_pop_27 : decode cX3_pop 27 = .ok (.iaload, 1) := by decide +kernel
theorem dX3_pop_28 : decode cX3_pop 28 = .ok (.ireturn, 1) := by decide +kernel
noncomputable def F_X3_pop  (S0 : fS) : Option (Int32 × fS) := iv (ge S0 22 0 1) (fun x1 => bb ((0 : Int32) < x1) (iv (ge S0 22 0 1) (fun x3 => iv (x3 - (1 : Int32)) (fun x4 => sv (pu S0 22 0 1 x4) (fun S5 => iv (ge S5 22 0 1) (fun x6 => gd (ib x6 300) (iv (ge S5 23 0 (x6 : Int32).toNatClampNeg) (fun x8 => some (x8, S5)))))))) (some (0, S0)))
set_option maxHeartbeats 4000000 in
set_option maxRecDepth 100000 in
theorem c_X3_pop (l : Launch) (D : va_G) (K : Nat → ClassId) (b0 : Nat) (sa : sT) (sz : Nat) (L : List Nat) (f0 : Nat → va_E) (ad : Nat → Nat → Nat) (P : Nat → Nat → Prop) {n : Nat × Nat} (hP : ∀ a i : Nat, isn n a i → P a i) (S0 : fS) (hw : PW K ad P S0 L f0) (hn : S0.2.2.1 = n)  (v : Int32) (S1 : fS) (h : F_X3_pop  S0 = some (v, S1)) : Met l yX3_pop (.code yX3_pop cX3_pop 1 (some .int) :: gt) { frames := 0, cells := 0, slots := 0, locals := 0 } (va_Pc [.ref (ad 22 0)] (hPre D K b0 sa sz L f0)) (hQ D K b0 (fun v9 u9 => ∃ f2 : Nat → va_E, v9 = some (.int v) ∧ u9 = lU L f2 ∧ PW K ad P S1 L f2 ∧ S1.2.2.1 = n ∧ Kp ad P L f0 f2)) 0 0 (fun q => b0 ≤ q) := by
  refine t_of (own := RX3) (by decide) rfl ?_ (Nat.le_of_ble_eq_true rfl)
  intro p e s m below meth c ls C w hsz hr hlk hnm hl
  have hx := C.1
  have hb := C.2.1
  have hl : lv_has ls 1 [(0, .ref (ad 22 0))] := hl
  dsimp only [F_X3_pop] at h
  obtain ⟨f, ef⟩ : ∃ z, z = f0 := ⟨_, rfl⟩
  rw [← ef] at w hw
  have hk : Kp ad P L f0 f := by rw [ef]; exact Kp.rf
  obtain ⟨H, eH⟩ : ∃ z, z = s.heap := ⟨_, rfl⟩
  obtain ⟨locs, el⟩ : ∃ z : List Loc, z = [] := ⟨_, rfl⟩
  rw [← eH, ← el] at w ⊢
  refine lv_aload_n hx hb dX3_pop_0 rfl (lv_at hl 0 rfl) ?_
  refine u_geti C w hw (hP _ _ (isn_f rfl rfl (by decide))) rfl (N := 3) rfl rfl cin_3 1 (by decide) rfl gw_204 dX3_pop_1 ?_
  refine u_iv h (fun x1 h => ?_)
  refine lv_if_gt (tgt := 9) hx hb dX3_pop_4 (by decide) (fun c2 => ?_) (fun c2 => ?_)
  · have h := bb_t h c2
    refine lv_aload_n hx hb dX3_pop_9 rfl (lv_at hl 0 rfl) ?_
    refine lv_dup hx hb dX3_pop_10 rfl ?_
    refine u_geti C w hw (hP _ _ (isn_f rfl rfl (by decide))) rfl (N := 3) rfl rfl cin_3 1 (by decide) rfl gw_204 dX3_pop_11 ?_
    refine u_iv h (fun x3 h => ?_)
    refine lv_iconst (v := 1) hx hb dX3_pop_14 (by decide) ?_
    refine lv_isub hx hb dX3_pop_15 ?_
    refine u_iv h (fun x4 h => ?_)
    refine u_puti C w hw (hP _ _ (isn_f rfl rfl (by decide))) rfl (N := 3) rfl rfl cin_3 tyX3 tyX3_ok nmX3 1 (by decide) rfl rfl rfl rfl gw_204 dX3_pop_16 (fun f H locs w hw hk1 => ?_)
    have hk := hk.tr hk1
    refine u_sv h hw hn (fun S5 h hw hn => ?_)
    refine lv_aload_n hx hb dX3_pop_19 rfl (lv_at hl 0 rfl) ?_
    refine u_getr C w hw (hP _ _ (isn_f rfl rfl (by decide))) rfl (N := 3) rfl rfl cin_3 0 (by decide) (by decide) (a2 := 23) (i2 := 0) rfl gw_203 dX3_pop_20 ?_
    refine lv_aload_n hx hb dX3_pop_23 rfl (lv_at hl 0 rfl) ?_
    refine u_geti C w hw (hP _ _ (isn_f rfl rfl (by decide))) rfl (N := 3) rfl rfl cin_3 1 (by decide) rfl gw_204 dX3_pop_24 ?_
    refine u_iv h (fun x6 h => ?_)
    obtain ⟨g7, h⟩ := gd_some h
    refine u_iald C w hw (hP _ _ (isn_f rfl rfl (by decide))) rfl rfl (n := 300) rfl (vp_in_iff.mpr g7) dX3_pop_27 ?_
    refine u_iv h (fun x8 h => ?_)
    exact t_iret C hr hlk w ⟨_, so_v h, rfl, so_w h hw, so_n h hn, hk⟩ (by decide) (by decide) dX3_pop_28
  · have h := bb_f h c2
    refine lv_iconst (v := 0) hx hb dX3_pop_7 (by decide) ?_
    exact t_iret C hr hlk w ⟨_, so_v h, rfl, so_w h hw, so_n h hn, hk⟩ (by decide) (by decide) dX3_pop_8
theorem dX3_tell_0 : decode cX3_tell 0 = .ok (.iload_n 3, 1) := by decide +kernel
theorem dX3_tell_1 : decode cX3_tell 1 = .ok (.ifCond .eq 23, 3) := by decide +kernel
theorem dX3_tell_4 : decode cX3_tell 4 = .ok (.iload_n 1, 1) := by decide +kernel
theorem dX3_tell_5 : decode cX3_tell 5 = .ok (.ifCond .lt 19, 3) := by decide +kernel
theorem dX3_tell_8 : decode cX3_tell 8 = .ok (.iload_n 1, 1) := by decide +kernel
theorem dX3_tell_9 : decode cX3_tell 9 = .ok (.aload_n 0, 1) := by decide +kernel
theorem dX3_tell_10 : decode cX3_tell 10 = .ok (.getfield 19, 3) := by decide +kernel
theorem dX3_tell_13 : decode cX3_tell 13 = .ok (.arraylength, 1) := by decide +kernel
theorem dX3_tell_14 : decode cX3_tell 14 = .ok (.if_icmp .ge 10, 3) := by decide +kernel
theorem dX3_tell_17 : decode cX3_tell 17 = .ok (.aload_n 0, 1) := by decide +kernel
theorem dX3_tell_18 : decode cX3_tell 18 = .ok (.getfield 19, 3) := by decide +kernel
theorem dX3_tell_21 : decode cX3_tell 21 = .ok (.iload_n 1, 1) := by decide +kernel
theorem dX3_tell_22 : decode cX3_tell 22 = .ok (.iload_n 2, 1) := by decide +kernel
theorem dX3_tell_23 : decode cX3_tell 23 = .ok (.iastore, 1) := by decide +kernel
theorem dX3_tell_24 : decode cX3_tell 24 = .ok (.return_, 1) := by decide +kernel
noncomputable def F_X3_tell (p1 : Int32) (p2 : Int32) (p3 : Int32) (S0 : fS) : Option (Int32 × fS) := bb (p3 = (0 : Int32)) (some (0, S0)) (bb (p1 < (0 : Int32)) (some (0, S0)) (bb ((3 : Int32) ≤ p1) (some (0, S0)) (gd (ib p1 3) (sv (pu S0 24 0 (p1 : Int32).toNatClampNeg p2) (fun S5 => some (0, S5))))))
set_option maxHeartbeats 4000000 in
set_option maxRecDepth 100000 in
theorem c_X3_tell (l : Launch) (D : va_G) (K : Nat → ClassId) (b0 : Nat) (sa : sT) (sz : Nat) (L : List Nat) (f0 : Nat → va_E) (ad : Nat → Nat → Nat) (P : Nat → Nat → Prop) {n : Nat × Nat} (hP : ∀ a i : Nat, isn n a i → P a i) (S0 : fS) (hw : PW K ad P S0 L f0) (hn : S0.2.2.1 = n) (p1 : Int32) (p2 : Int32) (p3 : Int32) (v : Int32) (S1 : fS) (h : F_X3_tell p1 p2 p3 S0 = some (v, S1)) : Met l yX3_tell (.code yX3_tell cX3_tell 4 none :: gt) { frames := 0, cells := 0, slots := 0, locals := 0 } (va_Pc [.ref (ad 22 0), .int p1, .int p2, .int p3] (hPre D K b0 sa sz L f0)) (hQ D K b0 (fun v9 u9 => ∃ f2 : Nat → va_E, v9 = none ∧ u9 = lU L f2 ∧ PW K ad P S1 L f2 ∧ S1.2.2.1 = n ∧ Kp ad P L f0 f2)) 0 0 (fun q => b0 ≤ q) := by
  refine t_of (own := RX3) (by decide) rfl ?_ (Nat.le_of_ble_eq_true rfl)
  intro p e s m below meth c ls C w hsz hr hlk hnm hl
  have hx := C.1
  have hb := C.2.1
  have hl : lv_has ls 4 [(0, .ref (ad 22 0)), (1, .int p1), (2, .int p2), (3, .int p3)] := hl
  dsimp only [F_X3_tell] at h
  obtain ⟨f, ef⟩ : ∃ z, z = f0 := ⟨_, rfl⟩
  rw [← ef] at w hw
  have hk : Kp ad P L f0 f := by rw [ef]; exact Kp.rf
  obtain ⟨H, eH⟩ : ∃ z, z = s.heap := ⟨_, rfl⟩
  obtain ⟨locs, el⟩ : ∃ z : List Loc, z = [] := ⟨_, rfl⟩
  rw [← eH, ← el] at w ⊢
  refine lv_iload_n hx hb dX3_tell_0 rfl (lv_at hl 3 rfl) ?_
  refine lv_if_eq (tgt := 24) hx hb dX3_tell_1 (by decide) (fun c1 => ?_) (fun c1 => ?_)
  · have h := bb_t h c1
    exact t_vret C hr hlk w ⟨_, rfl, rfl, so_w h hw, so_n h hn, hk⟩ (by decide) (by decide) dX3_tell_24
  · have h := bb_f h c1
    refine lv_iload_n hx hb dX3_tell_4 rfl (lv_at hl 1 rfl) ?_
    refine lv_if_lt (tgt := 24) hx hb dX3_tell_5 (by decide) (fun c2 => ?_) (fun c2 => ?_)
    · have h := bb_t h c2
      exact t_vret C hr hlk w ⟨_, rfl, rfl, so_w h hw, so_n h hn, hk⟩ (by decide) (by decide) dX3_tell_24
    · have h := bb_f h c2
      refine lv_iload_n hx hb dX3_tell_8 rfl (lv_at hl 1 rfl) ?_
      refine lv_aload_n hx hb dX3_tell_9 rfl (lv_at hl 0 rfl) ?_
      refine u_getr C w hw (hP _ _ (isn_f rfl rfl (by decide))) rfl (N := 3) rfl rfl cin_3 2 (by decide) (by decide) (a2 := 24) (i2 := 0) rfl gw_205 dX3_tell_10 ?_
      refine u_alen C w hw (hP _ _ (isn_f rfl rfl (by decide))) rfl rfl (v := 3) rfl dX3_tell_13 ?_
      refine lv_icmp_ge (tgt := 24) hx hb dX3_tell_14 (by decide) (fun c3 => ?_) (fun c3 => ?_)
      · have h := bb_t h c3
        exact t_vret C hr hlk w ⟨_, rfl, rfl, so_w h hw, so_n h hn, hk⟩ (by decide) (by decide) dX3_tell_24
      · have h := bb_f h c3
        refine lv_aload_n hx hb dX3_tell_17 rfl (lv_at hl 0 rfl) ?_
        refine u_getr C w hw (hP _ _ (isn_f rfl rfl (by decide))) rfl (N := 3) rfl rfl cin_3 2 (by decide) (by decide) (a2 := 24) (i2 := 0) rfl gw_205 dX3_tell_18 ?_
        refine lv_iload_n hx hb dX3_tell_21 rfl (lv_at hl 1 rfl) ?_
        refine lv_iload_n hx hb dX3_tell_22 rfl (lv_at hl 2 rfl) ?_
        obtain ⟨g4, h⟩ := gd_some h
        refine u_iast C w hw (hP _ _ (isn_f rfl rfl (by decide))) rfl rfl (n := 3) rfl (vp_in_iff.mpr g4) dX3_tell_23 (fun f H locs w hw hk1 => ?_)
        have hk := hk.tr hk1
        refine u_sv h hw hn (fun S5 h hw hn => ?_)
        exact t_vret C hr hlk w ⟨_, rfl, rfl, so_w h hw, so_n h hn, hk⟩ (by decide) (by decide) dX3_tell_24
theorem dX3_joined_0 : decode cX3_joined 0 = .ok (.iload_n 0, 1) := by decide +kernel
theorem dX3_joined_1 : decode cX3_joined 1 = .ok (.tableswitch 128 2000 2009 #[55, 59, 63, 67, 79, 85, 91, 102, 113, 124], 55) := by decide +kernel
theorem dX3_joined_56 : decode cX3_joined 56 = .ok (.iload_n 1, 1) := by decide +kernel
theorem dX3_joined_57 : decode cX3_joined 57 = .ok (.iload_n 2, 1) := by decide +kernel
theorem dX3_joined_58 : decode cX3_joined 58 = .ok (.iadd, 1) := by decide +kernel
theorem dX3_joined_59 : decode cX3_joined 59 = .ok (.ireturn, 1) := by decide +kernel
theorem dX3_joined_60 : decode cX3_joined 60 = .ok (.iload_n 1, 1) := by decide +kernel
theorem dX3_joined_61 : decode cX3_joined 61 = .ok (.iload_n 2, 1) := by decide +kernel
theorem dX3_joined_62 : decode cX3_joined 62 = .ok (.isub, 1) := by decide +kernel
theorem dX3_joined_63 : decode cX3_joined 63 = .ok (.ireturn, 1) := by decide +kernel
theorem dX3_joined_64 : decode cX3_joined 64 = .ok (.iload_n 1, 1) := by decide +kernel
theorem dX3_joined_65 : decode cX3_joined 65 = .ok (.iload_n 2, 1) := by decide +kernel
theorem dX3_joined_66 : decode cX3_joined 66 = .ok (.imul, 1) := by decide +kernel
theorem dX3_joined_67 : decode cX3_joined 67 = .ok (.ireturn, 1) := by decide +kernel
theorem dX3_joined_68 : decode cX3_joined 68 = .ok (.iload_n 2, 1) := by decide +kernel
theorem dX3_joined_69 : decode cX3_joined 69 = .ok (.ifCond .ne 7, 3) := by decide +kernel
theorem dX3_joined_72 : decode cX3_joined 72 = .ok (.iconst 0, 1) := by decide +kernel
theorem dX3_joined_73 : decode cX3_joined 73 = .ok (.goto 6, 3) := by decide +kernel
theorem dX3_joined_76 : decode cX3_joined 76 = .ok (.iload_n 1, 1) := by decide +kernel
theorem dX3_joined_77 : decode cX3_joined 77 = .ok (.iload_n 2, 1) := by decide +kernel
theorem dX3_joined_78 : decode cX3_joined 78 = .ok (.idiv, 1) := by decide +kernel
theorem dX3_joined_79 : decode cX3_joined 79 = .ok (.ireturn, 1) := by decide +kernel
theorem dX3_joined_80 : decode cX3_joined 80 = .ok (.iload_n 1, 1) := by decide +kernel
theorem dX3_joined_81 : decode cX3_joined 81 = .ok (.iload_n 2, 1) := by decide +kernel
theorem dX3_joined_82 : decode cX3_joined 82 = .ok (.invokestatic 22, 3) := by decide +kernel
theorem dX3_joined_85 : decode cX3_joined 85 = .ok (.ireturn, 1) := by decide +kernel
theorem dX3_joined_86 : decode cX3_joined 86 = .ok (.iload_n 1, 1) := by decide +kernel
theorem dX3_joined_87 : decode cX3_joined 87 = .ok (.iload_n 2, 1) := by decide +kernel
theorem dX3_joined_88 : decode cX3_joined 88 = .ok (.invokestatic 28, 3) := by decide +kernel
theorem dX3_joined_91 : decode cX3_joined 91 = .ok (.ireturn, 1) := by decide +kernel
theorem dX3_joined_92 : decode cX3_joined 92 = .ok (.iload_n 1, 1) := by decide +kernel
theorem dX3_joined_93 : decode cX3_joined 93 = .ok (.iload_n 2, 1) := by decide +kernel
theorem dX3_joined_94 : decode cX3_joined 94 = .ok (.if_icmp .ge 7, 3) := by decide +kernel
theorem dX3_joined_97 : decode cX3_joined 97 = .ok (.iconst 1, 1) := by decide +kernel
theorem dX3_joined_98 : decode cX3_joined 98 = .ok (.goto 4, 3) := by decide +kernel
theorem dX3_joined_101 : decode cX3_joined 101 = .ok (.iconst 0, 1) := by decide +kernel
theorem dX3_joined_102 : decode cX3_joined 102 = .ok (.ireturn, 1) := by decide +kernel
theorem dX3_joined_103 : decode cX3_joined 103 = .ok (.iload_n 1, 1) := by decide +kernel
theorem dX3_joined_104 : decode cX3_joined 104 = .ok (.iload_n 2, 1) := by decide +kernel
theorem dX3_joined_105 : decode cX3_joined 105 = .ok (.if_icmp .le 7, 3) := by decide +kernel
theorem dX3_joined_108 : decode cX3_joined 108 = .ok (.iconst 1, 1) := by decide +kernel
theorem dX3_joined_109 : decode cX3_joined 109 = .ok (.goto 4, 3) := by decide +kernel
theorem dX3_joined_112 : decode cX3_joined 112 = .ok (.iconst 0, 1) := by decide +kernel
theorem dX3_joined_113 : decode cX3_joined 113 = .ok (.ireturn, 1) := by decide +kernel
theorem dX3_joined_114 : decode cX3_joined 114 = .ok (.iload_n 1, 1) := by decide +kernel
theorem dX3_joined_115 : decode cX3_joined 115 = .ok (.iload_n 2, 1) := by decide +kernel
theorem dX3_joined_116 : decode cX3_joined 116 = .ok (.if_icmp .ne 7, 3) := by decide +kernel
theorem dX3_joined_119 : decode cX3_joined 119 = .ok (.iconst 1, 1) := by decide +kernel
theorem dX3_joined_120 : decode cX3_joined 120 = .ok (.goto 4, 3) := by decide +kernel
theorem dX3_joined_123 : decode cX3_joined 123 = .ok (.iconst 0, 1) := by decide +kernel
theorem dX3_joined_124 : decode cX3_joined 124 = .ok (.ireturn, 1) := by decide +kernel
theorem dX3_joined_125 : decode cX3_joined 125 = .ok (.iload_n 1, 1) := by decide +kernel
theorem dX3_joined_126 : decode cX3_joined 126 = .ok (.iload_n 2, 1) := by decide +kernel
theorem dX3_joined_127 : decode cX3_joined 127 = .ok (.iand, 1) := by decide +kernel
theorem dX3_joined_128 : decode cX3_joined 128 = .ok (.ireturn, 1) := by decide +kernel
theorem dX3_joined_129 : decode cX3_joined 129 = .ok (.iload_n 1, 1) := by decide +kernel
theorem dX3_joined_130 : decode cX3_joined 130 = .ok (.iload_n 2, 1) := by decide +kernel
theorem dX3_joined_131 : decode cX3_joined 131 = .ok (.ior, 1) := by decide +kernel
theorem dX3_joined_132 : decode cX3_joined 132 = .ok (.ireturn, 1) := by decide +kernel
noncomputable def F_X3_joined (p0 : Int32) (p1 : Int32) (p2 : Int32) (S0 : fS) : Option (Int32 × fS) := bb (p0.toInt = 2000) (iv (p1 + p2) (fun x2 => some (x2, S0))) (bb (p0.toInt = 2001) (iv (p1 - p2) (fun x4 => some (x4, S0))) (bb (p0.toInt = 2002) (iv (p1 * p2) (fun x6 => some (x6, S0))) (bb (p0.toInt = 2003) (bb (p2 = (0 : Int32)) (some (0, S0)) (gd (¬ p2 = 0) (iv (p1 / p2) (fun x10 => some (x10, S0))))) (bb (p0.toInt = 2004) (iv ((if p2 < p1 then p2 else p1)) (fun x12 => some (x12, S0))) (bb (p0.toInt = 2005) (iv ((if p1 < p2 then p2 else p1)) (fun x14 => some (x14, S0))) (bb (p0.toInt = 2006) (bb (p2 ≤ p1) (some (0, S0)) (some (1, S0))) (bb (p0.toInt = 2007) (bb (p1 ≤ p2) (some (0, S0)) (some (1, S0))) (bb (p0.toInt = 2008) (bb (p1 = p2) (some (1, S0)) (some (0, S0))) (bb (p0.toInt = 2009) (iv (p1 &&& p2) (fun x22 => some (x22, S0))) (iv (p1 ||| p2) (fun x23 => some (x23, S0))))))))))))
set_option maxHeartbeats 4000000 in
set_option maxRecDepth 100000 in
theorem c_X3_joined (l : Launch) (D : va_G) (K : Nat → ClassId) (b0 : Nat) (sa : sT) (sz : Nat) (L : List Nat) (f0 : Nat → va_E) (ad : Nat → Nat → Nat) (P : Nat → Nat → Prop) {n : Nat × Nat} (hP : ∀ a i : Nat, isn n a i → P a i) (S0 : fS) (hw : PW K ad P S0 L f0) (hn : S0.2.2.1 = n) (p0 : Int32) (p1 : Int32) (p2 : Int32) (v : Int32) (S1 : fS) (h : F_X3_joined p0 p1 p2 S0 = some (v, S1)) : Met l yX3_joined (.code yX3_joined cX3_joined 3 (some .int) :: gt) { frames := 1, cells := 0, slots := 0, locals := 17 } (va_Pc [.int p0, .int p1, .int p2] (hPre D K b0 sa sz L f0)) (hQ D K b0 (fun v9 u9 => ∃ f2 : Nat → va_E, v9 = some (.int v) ∧ u9 = lU L f2 ∧ PW K ad P S1 L f2 ∧ S1.2.2.1 = n ∧ Kp ad P L f0 f2)) 0 0 (fun q => b0 ≤ q) := by
  refine t_of (own := RX3) (by decide) rfl ?_ (Nat.le_of_ble_eq_true rfl)
  intro p e s m below meth c ls C w hsz hr hlk hnm hl
  have hx := C.1
  have hb := C.2.1
  have hl : lv_has ls 3 [(0, .int p0), (1, .int p1), (2, .int p2)] := hl
  dsimp only [F_X3_joined] at h
  obtain ⟨f, ef⟩ : ∃ z, z = f0 := ⟨_, rfl⟩
  rw [← ef] at w hw
  have hk : Kp ad P L f0 f := by rw [ef]; exact Kp.rf
  obtain ⟨H, eH⟩ : ∃ z, z = s.heap := ⟨_, rfl⟩
  obtain ⟨locs, el⟩ : ∃ z : List Loc, z = [] := ⟨_, rfl⟩
  rw [← eH, ← el] at w ⊢
  refine lv_iload_n hx hb dX3_joined_0 rfl (lv_at hl 0 rfl) ?_
  by_cases c1 : p0.toInt = 2000
  · have h := bb_t h c1
    refine lv_tableIn (tgt := 56) hx hb dX3_joined_1 (by omega) (by omega) (by rw [c1]; rfl) (by decide) ?_
    refine lv_iload_n hx hb dX3_joined_56 rfl (lv_at hl 1 rfl) ?_
    refine lv_iload_n hx hb dX3_joined_57 rfl (lv_at hl 2 rfl) ?_
    refine lv_iadd hx hb dX3_joined_58 ?_
    refine u_iv h (fun x2 h => ?_)
    exact t_iret C hr hlk w ⟨_, so_v h, rfl, so_w h hw, so_n h hn, hk⟩ (by decide) (by decide) dX3_joined_59
  have h := bb_f h c1
  by_cases c3 : p0.toInt = 2001
  · have h := bb_t h c3
    refine lv_tableIn (tgt := 60) hx hb dX3_joined_1 (by omega) (by omega) (by rw [c3]; rfl) (by decide) ?_
    refine lv_iload_n hx hb dX3_joined_60 rfl (lv_at hl 1 rfl) ?_
    refine lv_iload_n hx hb dX3_joined_61 rfl (lv_at hl 2 rfl) ?_
    refine lv_isub hx hb dX3_joined_62 ?_
    refine u_iv h (fun x4 h => ?_)
    exact t_iret C hr hlk w ⟨_, so_v h, rfl, so_w h hw, so_n h hn, hk⟩ (by decide) (by decide) dX3_joined_63
  have h := bb_f h c3
  by_cases c5 : p0.toInt = 2002
  · have h := bb_t h c5
    refine lv_tableIn (tgt := 64) hx hb dX3_joined_1 (by omega) (by omega) (by rw [c5]; rfl) (by decide) ?_
    refine lv_iload_n hx hb dX3_joined_64 rfl (lv_at hl 1 rfl) ?_
    refine lv_iload_n hx hb dX3_joined_65 rfl (lv_at hl 2 rfl) ?_
    refine lv_imul hx hb dX3_joined_66 ?_
    refine u_iv h (fun x6 h => ?_)
    exact t_iret C hr hlk w ⟨_, so_v h, rfl, so_w h hw, so_n h hn, hk⟩ (by decide) (by decide) dX3_joined_67
  have h := bb_f h c5
  by_cases c7 : p0.toInt = 2003
  · have h := bb_t h c7
    refine lv_tableIn (tgt := 68) hx hb dX3_joined_1 (by omega) (by omega) (by rw [c7]; rfl) (by decide) ?_
    refine lv_iload_n hx hb dX3_joined_68 rfl (lv_at hl 2 rfl) ?_
    refine lv_if_ne (tgt := 76) hx hb dX3_joined_69 (by decide) (fun c8 => ?_) (fun c8 => ?_)
    · have h := bb_f h c8
      refine lv_iload_n hx hb dX3_joined_76 rfl (lv_at hl 1 rfl) ?_
      refine lv_iload_n hx hb dX3_joined_77 rfl (lv_at hl 2 rfl) ?_
      obtain ⟨g9, h⟩ := gd_some h
      refine lv_idiv hx hb dX3_joined_78 g9 ?_
      refine u_iv h (fun x10 h => ?_)
      exact t_iret C hr hlk w ⟨_, so_v h, rfl, so_w h hw, so_n h hn, hk⟩ (by decide) (by decide) dX3_joined_79
    · have h := bb_t h c8
      refine lv_iconst (v := 0) hx hb dX3_joined_72 (by decide) ?_
      refine lv_goto (tgt := 79) hx hb dX3_joined_73 (by decide) ?_
      exact t_iret C hr hlk w ⟨_, so_v h, rfl, so_w h hw, so_n h hn, hk⟩ (by decide) (by decide) dX3_joined_79
  have h := bb_f h c7
  by_cases c11 : p0.toInt = 2004
  · have h := bb_t h c11
    refine lv_tableIn (tgt := 80) hx hb dX3_joined_1 (by omega) (by omega) (by rw [c11]; rfl) (by decide) ?_
    refine lv_iload_n hx hb dX3_joined_80 rfl (lv_at hl 1 rfl) ?_
    refine lv_iload_n hx hb dX3_joined_81 rfl (lv_at hl 2 rfl) ?_
    refine va_mmin hx hb (C.2.2.1.trans hl.1.symm) C.2.2.2.1 (C.2.2.2.2 _ gw_408) (C.2.2.2.2 _ gw_409) (C.2.2.2.2 _ gw_15) (C.2.2.2.2 _ gw_410) (by decide) (Nat.le_of_ble_eq_true rfl) (by decide) (by decide) dX3_joined_82 ?_
    refine u_iv h (fun x12 h => ?_)
    exact t_iret C hr hlk w ⟨_, so_v h, rfl, so_w h hw, so_n h hn, hk⟩ (by decide) (by decide) dX3_joined_85
  have h := bb_f h c11
  by_cases c13 : p0.toInt = 2005
  · have h := bb_t h c13
    refine lv_tableIn (tgt := 86) hx hb dX3_joined_1 (by omega) (by omega) (by rw [c13]; rfl) (by decide) ?_
    refine lv_iload_n hx hb dX3_joined_86 rfl (lv_at hl 1 rfl) ?_
    refine lv_iload_n hx hb dX3_joined_87 rfl (lv_at hl 2 rfl) ?_
    refine va_mmax hx hb (C.2.2.1.trans hl.1.symm) C.2.2.2.1 (C.2.2.2.2 _ gw_411) (C.2.2.2.2 _ gw_412) (C.2.2.2.2 _ gw_15) (C.2.2.2.2 _ gw_413) (by decide) (Nat.le_of_ble_eq_true rfl) (by decide) (by decide) dX3_joined_88 ?_
    refine u_iv h (fun x14 h => ?_)
    exact t_iret C hr hlk w ⟨_, so_v h, rfl, so_w h hw, so_n h hn, hk⟩ (by decide) (by decide) dX3_joined_91
  have h := bb_f h c13
  by_cases c15 : p0.toInt = 2006
  · have h := bb_t h c15
    refine lv_tableIn (tgt := 92) hx hb dX3_joined_1 (by omega) (by omega) (by rw [c15]; rfl) (by decide) ?_
    refine lv_iload_n hx hb dX3_joined_92 rfl (lv_at hl 1 rfl) ?_
    refine lv_iload_n hx hb dX3_joined_93 rfl (lv_at hl 2 rfl) ?_
    refine lv_icmp_ge (tgt := 101) hx hb dX3_joined_94 (by decide) (fun c16 => ?_) (fun c16 => ?_)
    · have h := bb_t h c16
      refine lv_iconst (v := 0) hx hb dX3_joined_101 (by decide) ?_
      exact t_iret C hr hlk w ⟨_, so_v h, rfl, so_w h hw, so_n h hn, hk⟩ (by decide) (by decide) dX3_joined_102
    · have h := bb_f h c16
      refine lv_iconst (v := 1) hx hb dX3_joined_97 (by decide) ?_
      refine lv_goto (tgt := 102) hx hb dX3_joined_98 (by decide) ?_
      exact t_iret C hr hlk w ⟨_, so_v h, rfl, so_w h hw, so_n h hn, hk⟩ (by decide) (by decide) dX3_joined_102
  have h := bb_f h c15
  by_cases c17 : p0.toInt = 2007
  · have h := bb_t h c17
    refine lv_tableIn (tgt := 103) hx hb dX3_joined_1 (by omega) (by omega) (by rw [c17]; rfl) (by decide) ?_
    refine lv_iload_n hx hb dX3_joined_103 rfl (lv_at hl 1 rfl) ?_
    refine lv_iload_n hx hb dX3_joined_104 rfl (lv_at hl 2 rfl) ?_
    refine lv_icmp_le (tgt := 112) hx hb dX3_joined_105 (by decide) (fun c18 => ?_) (fun c18 => ?_)
    · have h := bb_t h c18
      refine lv_iconst (v := 0) hx hb dX3_joined_112 (by decide) ?_
      exact t_iret C hr hlk w ⟨_, so_v h, rfl, so_w h hw, so_n h hn, hk⟩ (by decide) (by decide) dX3_joined_113
    · have h := bb_f h c18
      refine lv_iconst (v := 1) hx hb dX3_joined_108 (by decide) ?_
      refine lv_goto (tgt := 113) hx hb dX3_joined_109 (by decide) ?_
      exact t_iret C hr hlk w ⟨_, so_v h, rfl, so_w h hw, so_n h hn, hk⟩ (by decide) (by decide) dX3_joined_113
  have h := bb_f h c17
  by_cases c19 : p0.toInt = 2008
  · have h := bb_t h c19
    refine lv_tableIn (tgt := 114) hx hb dX3_joined_1 (by omega) (by omega) (by rw [c19]; rfl) (by decide) ?_
    refine lv_iload_n hx hb dX3_joined_114 rfl (lv_at hl 1 rfl) ?_
    refine lv_iload_n hx hb dX3_joined_115 rfl (lv_at hl 2 rfl) ?_
    refine lv_icmp_ne (tgt := 123) hx hb dX3_joined_116 (by decide) (fun c20 => ?_) (fun c20 => ?_)
    · have h := bb_f h c20
      refine lv_iconst (v := 0) hx hb dX3_joined_123 (by decide) ?_
      exact t_iret C hr hlk w ⟨_, so_v h, rfl, so_w h hw, so_n h hn, hk⟩ (by decide) (by decide) dX3_joined_124
    · have h := bb_t h c20
      refine lv_iconst (v := 1) hx hb dX3_joined_119 (by decide) ?_
      refine lv_goto (tgt := 124) hx hb dX3_joined_120 (by decide) ?_
      exact t_iret C hr hlk w ⟨_, so_v h, rfl, so_w h hw, so_n h hn, hk⟩ (by decide) (by decide) dX3_joined_124
  have h := bb_f h c19
  by_cases c21 : p0.toInt = 2009
  · have h := bb_t h c21
    refine lv_tableIn (tgt := 125) hx hb dX3_joined_1 (by omega) (by omega) (by rw [c21]; rfl) (by decide) ?_
    refine lv_iload_n hx hb dX3_joined_125 rfl (lv_at hl 1 rfl) ?_
    refine lv_iload_n hx hb dX3_joined_126 rfl (lv_at hl 2 rfl) ?_
    refine lv_iand hx hb dX3_joined_127 ?_
    refine u_iv h (fun x22 h => ?_)
    exact t_iret C hr hlk w ⟨_, so_v h, rfl, so_w h hw, so_n h hn, hk⟩ (by decide) (by decide) dX3_joined_128
  have h := bb_f h c21
  refine lv_tableOut (tgt := 129) hx hb dX3_joined_1 (by omega) (by decide) ?_
  refine lv_iload_n hx hb dX3_joined_129 rfl (lv_at hl 1 rfl) ?_
  refine lv_iload_n hx hb dX3_joined_130 rfl (lv_at hl 2 rfl) ?_
  refine lv_ior hx hb dX3_joined_131 ?_
  refine u_iv h (fun x23 h => ?_)
  exact t_iret C hr hlk w ⟨_, so_v h, rfl, so_w h hw, so_n h hn, hk⟩ (by decide) (by decide) dX3_joined_132
theorem dX3_work_0 : decode cX3_work 0 = .ok (.iload_n 1, 1) := by decide +kernel
theorem dX3_work_1 : decode cX3_work 1 = .ok (.sipush 2011, 3) := by decide +kernel
theorem dX3_work_4 : decode cX3_work 4 = .ok (.if_icmp .ne 22, 3) := by decide +kernel
theorem dX3_work_7 : decode cX3_work 7 = .ok (.aload_n 0, 1) := by decide +kernel
theorem dX3_work_8 : decode cX3_work 8 = .ok (.aload_n 0, 1) := by decide +kernel
theorem dX3_work_9 : decode cX3_work 9 = .ok (.invokevirtual 35, 3) := by decide +kernel
theorem dX3_work_12 : decode cX3_work 12 = .ok (.ifCond .ne 7, 3) := by decide +kernel
theorem dX3_work_15 : decode cX3_work 15 = .ok (.iconst 1, 1) := by decide +kernel
theorem dX3_work_16 : decode cX3_work 16 = .ok (.goto 4, 3) := by decide +kernel
theorem dX3_work_19 : decode cX3_work 19 = .ok (.iconst 0, 1) := by decide +kernel
theorem dX3_work_20 : decode cX3_work 20 = .ok (.invokevirtual 50, 3) := by decide +kernel
theorem dX3_work_23 : decode cX3_work 23 = .ok (.goto 84, 3) := by decide +kernel
theorem dX3_work_26 : decode cX3_work 26 = .ok (.iload_n 1, 1) := by decide +kernel
theorem dX3_work_27 : decode cX3_work 27 = .ok (.sipush 2030, 3) := by decide +kernel
theorem dX3_work_30 : decode cX3_work 30 = .ok (.if_icmp .lt 33, 3) := by decide +kernel
theorem dX3_work_33 : decode cX3_work 33 = .ok (.aload_n 0, 1) := by decide +kernel
theorem dX3_work_34 : decode cX3_work 34 = .ok (.invokevirtual 35, 3) := by decide +kernel
theorem dX3_work_37 : decode cX3_work 37 = .ok (.ifCond .eq 7, 3) := by decide +kernel
theorem dX3_work_40 : decode cX3_work 40 = .ok (.iconst 1, 1) := by decide +kernel
theorem dX3_work_41 : decode cX3_work 41 = .ok (.goto 4, 3) := by decide +kernel
theorem dX3_work_44 : decode cX3_work 44 = .ok (.iconst 0, 1) := by decide +kernel
theorem dX3_work_45 : decode cX3_work 45 = .ok (.istore_n 2, 1) := by decide +kernel
theorem dX3_work_46 : decode cX3_work 46 = .ok (.aload_n 0, 1) := by decide +kernel
theorem dX3_work_47 : decode cX3_work 47 = .ok (.iload_n 1, 1) := by decide +kernel
theorem dX3_work_48 : decode cX3_work 48 = .ok (.sipush 2030, 3) := by decide +kernel
theorem dX3_work_51 : decode cX3_work 51 = .ok (.isub, 1) := by decide +kernel
theorem dX3_work_52 : decode cX3_work 52 = .ok (.aload_n 0, 1) := by decide +kernel
theorem dX3_work_53 : decode cX3_work 53 = .ok (.invokevirtual 35, 3) := by decide +kernel
theorem dX3_work_56 : decode cX3_work 56 = .ok (.iload_n 2, 1) := by decide +kernel
theorem dX3_work_57 : decode cX3_work 57 = .ok (.invokevirtual 81, 3) := by decide +kernel
theorem dX3_work_60 : decode cX3_work 60 = .ok (.goto 47, 3) := by decide +kernel
theorem dX3_work_63 : decode cX3_work 63 = .ok (.iload_n 1, 1) := by decide +kernel
theorem dX3_work_64 : decode cX3_work 64 = .ok (.sipush 2020, 3) := by decide +kernel
theorem dX3_work_67 : decode cX3_work 67 = .ok (.if_icmp .lt 20, 3) := by decide +kernel
theorem dX3_work_70 : decode cX3_work 70 = .ok (.aload_n 0, 1) := by decide +kernel
theorem dX3_work_71 : decode cX3_work 71 = .ok (.iload_n 1, 1) := by decide +kernel
theorem dX3_work_72 : decode cX3_work 72 = .ok (.sipush 2020, 3) := by decide +kernel
theorem dX3_work_75 : decode cX3_work 75 = .ok (.isub, 1) := by decide +kernel
theorem dX3_work_76 : decode cX3_work 76 = .ok (.aload_n 0, 1) := by decide +kernel
theorem dX3_work_77 : decode cX3_work 77 = .ok (.invokevirtual 35, 3) := by decide +kernel
theorem dX3_work_80 : decode cX3_work 80 = .ok (.iconst 1, 1) := by decide +kernel
theorem dX3_work_81 : decode cX3_work 81 = .ok (.invokevirtual 81, 3) := by decide +kernel
theorem dX3_work_84 : decode cX3_work 84 = .ok (.goto 23, 3) := by decide +kernel
theorem dX3_work_87 : decode cX3_work 87 = .ok (.aload_n 0, 1) := by decide +kernel
theorem dX3_work_88 : decode cX3_work 88 = .ok (.invokevirtual 35, 3) := by decide +kernel
theorem dX3_work_91 : decode cX3_work 91 = .ok (.istore_n 2, 1) := by decide +kernel
theorem dX3_work_92 : decode cX3_work 92 = .ok (.aload_n 0, 1) := by decide +kernel
theorem dX3_work_93 : decode cX3_work 93 = .ok (.invokevirtual 35, 3) := by decide +kernel
theorem dX3_work_96 : decode cX3_work 96 = .ok (.istore_n 3, 1) := by decide +kernel
theorem dX3_work_97 : decode cX3_work 97 = .ok (.aload_n 0, 1) := by decide +kernel
theorem dX3_work_98 : decode cX3_work 98 = .ok (.iload_n 1, 1) := by decide +kernel
theorem dX3_work_99 : decode cX3_work 99 = .ok (.iload_n 3, 1) := by decide +kernel
theorem dX3_work_100 : decode cX3_work 100 = .ok (.iload_n 2, 1) := by decide +kernel
theorem dX3_work_101 : decode cX3_work 101 = .ok (.invokestatic 85, 3) := by decide +kernel
theorem dX3_work_104 : decode cX3_work 104 = .ok (.invokevirtual 50, 3) := by decide +kernel
theorem dX3_work_107 : decode cX3_work 107 = .ok (.return_, 1) := by decide +kernel
noncomputable def B_X3_work_20 (t0 : Int32) (S : fS) : Option (Int32 × fS) := bd (F_X3_push t0 S) (fun v1 S2 => some (0, S2))
noncomputable def B_X3_work_45 (a1 : Int32) (t0 : Int32) (S : fS) : Option (Int32 × fS) := iv (a1 - (2030 : Int32)) (fun x4 => bd (F_X3_pop  S) (fun v5 S6 => bd (F_X3_tell x4 v5 t0 S6) (fun v8 S9 => some (0, S9))))
noncomputable def F_X3_work (p1 : Int32) (S0 : fS) : Option (Int32 × fS) := bb (p1 = (2011 : Int32)) (bd (F_X3_pop  S0) (fun v37 S38 => bb (v37 = (0 : Int32)) (B_X3_work_20  1 S38) (B_X3_work_20  0 S38))) (bb (p1 < (2030 : Int32)) (bb (p1 < (2020 : Int32)) (bd (F_X3_pop  S0) (fun v14 S15 => bd (F_X3_pop  S15) (fun v17 S18 => bd (F_X3_joined p1 v17 v14 S18) (fun v20 S21 => bd (F_X3_push v20 S21) (fun v23 S24 => some (0, S24)))))) (iv (p1 - (2020 : Int32)) (fun x26 => bd (F_X3_pop  S0) (fun v27 S28 => bd (F_X3_tell x26 v27 1 S28) (fun v30 S31 => some (0, S31)))))) (bd (F_X3_pop  S0) (fun v33 S34 => bb (v33 = (0 : Int32)) (B_X3_work_45  p1 0 S34) (B_X3_work_45  p1 1 S34))))
set_option maxHeartbeats 4000000 in
set_option maxRecDepth 100000 in
theorem c_X3_work (l : Launch) (D : va_G) (K : Nat → ClassId) (b0 : Nat) (sa : sT) (sz : Nat) (L : List Nat) (f0 : Nat → va_E) (ad : Nat → Nat → Nat) (P : Nat → Nat → Prop) {n : Nat × Nat} (hP : ∀ a i : Nat, isn n a i → P a i) (S0 : fS) (hw : PW K ad P S0 L f0) (hn : S0.2.2.1 = n) (p1 : Int32) (v : Int32) (S1 : fS) (h : F_X3_work p1 S0 = some (v, S1)) : Met l yX3_work (.code yX3_work cX3_work 4 none :: gt) { frames := 2, cells := 0, slots := 0, locals := 39 } (va_Pc [.ref (ad 22 0), .int p1] (hPre D K b0 sa sz L f0)) (hQ D K b0 (fun v9 u9 => ∃ f2 : Nat → va_E, v9 = none ∧ u9 = lU L f2 ∧ PW K ad P S1 L f2 ∧ S1.2.2.1 = n ∧ Kp ad P L f0 f2)) 0 0 (fun q => b0 ≤ q) := by
  refine t_of (own := RX3) (by decide) rfl ?_ (Nat.le_of_ble_eq_true rfl)
  intro p e s m below meth c ls C w hsz hr hlk hnm hl
  have hx := C.1
  have hb := C.2.1
  have hl : lv_has ls 4 [(0, .ref (ad 22 0)), (1, .int p1)] := hl
  have J20 : ∀ (t0 : Int32) (S : fS), B_X3_work_20  t0 S = some (v, S1) → Gw D K b0 sa ad P n L f0 p l e { frames := 2, cells := 0, slots := 0, locals := 39 } s m [.ref (ad 22 0), .int p1].toArray below meth c 4 (MQ below (hQ D K b0 (fun v9 u9 => ∃ f2 : Nat → va_E, v9 = none ∧ u9 = lU L f2 ∧ PW K ad P S1 L f2 ∧ S1.2.2.1 = n ∧ Kp ad P L f0 f2)) [.ref (ad 22 0), .int p1].toArray s 0 0 (fun q => b0 ≤ q)) 0 0 20 [] [.int t0, .ref (ad 22 0)] S := by
    intro t0 S h
    dsimp only [B_X3_work_20] at h
    intro f H locs w hw hn hk ls hl
    obtain ⟨v1, S2, h3, h⟩ := bd_some h
    refine u_callV (n := 1) C w hw (hP _ _ (isn_f rfl rfl (by decide))) rfl rfl rfl (c_X3_push l D K b0 sa _ L _ ad P hP S hw hn t0 v1 S2 h3) gw_389 gw_386 gw_387 gw_388 gw_6 ⟨by decide, by decide, by decide +kernel⟩ rfl rfl ⟨by decide, by decide⟩ rfl hl.1 rfl (Nat.le_of_ble_eq_true rfl) dX3_work_20 ⟨Nat.le_of_ble_eq_true rfl, Nat.le_of_ble_eq_true rfl⟩ (fun v9 u H locs hp w => ?_)
    obtain ⟨f2, rfl, rfl, hw, hn, hk1⟩ := hp
    have hk := hk.tr hk1
    generalize f2 = f at w hw hk
    refine lv_goto (tgt := 107) hx hb dX3_work_23 (by decide) ?_
    exact t_vret C hr hlk w ⟨_, rfl, rfl, so_w h hw, so_n h hn, hk⟩ (by decide) (by decide) dX3_work_107
  have J45 : ∀ (a1 : Int32) (t0 : Int32) (S : fS), B_X3_work_45  a1 t0 S = some (v, S1) → Gw D K b0 sa ad P n L f0 p l e { frames := 2, cells := 0, slots := 0, locals := 39 } s m [.ref (ad 22 0), .int p1].toArray below meth c 4 (MQ below (hQ D K b0 (fun v9 u9 => ∃ f2 : Nat → va_E, v9 = none ∧ u9 = lU L f2 ∧ PW K ad P S1 L f2 ∧ S1.2.2.1 = n ∧ Kp ad P L f0 f2)) [.ref (ad 22 0), .int p1].toArray s 0 0 (fun q => b0 ≤ q)) 0 0 45 [(0, .ref (ad 22 0)), (1, .int a1)] [.int t0] S := by
    intro a1 t0 S h
    dsimp only [B_X3_work_45] at h
    intro f H locs w hw hn hk ls hl
    refine lv_istore_n (lv' := [(2, .int t0), (0, .ref (ad 22 0)), (1, .int a1)]) hx hb dX3_work_45 rfl hl (by decide) rfl (fun ls hl => ?_)
    refine lv_aload_n hx hb dX3_work_46 rfl (lv_at hl 1 rfl) ?_
    refine lv_iload_n hx hb dX3_work_47 rfl (lv_at hl 2 rfl) ?_
    refine lv_sipush (v := 2030) hx hb dX3_work_48 (by decide) ?_
    refine lv_isub hx hb dX3_work_51 ?_
    refine u_iv h (fun x4 h => ?_)
    refine lv_aload_n hx hb dX3_work_52 rfl (lv_at hl 1 rfl) ?_
    obtain ⟨v5, S6, h7, h⟩ := bd_some h
    refine u_callV (n := 0) C w hw (hP _ _ (isn_f rfl rfl (by decide))) rfl rfl rfl (c_X3_pop l D K b0 sa _ L _ ad P hP S hw hn  v5 S6 h7) gw_400 gw_397 gw_398 gw_399 gw_6 ⟨by decide, by decide, by decide +kernel⟩ rfl rfl ⟨by decide, by decide⟩ rfl hl.1 rfl (Nat.le_of_ble_eq_true rfl) dX3_work_53 ⟨Nat.le_of_ble_eq_true rfl, Nat.le_of_ble_eq_true rfl⟩ (fun v9 u H locs hp w => ?_)
    obtain ⟨f2, rfl, rfl, hw, hn, hk1⟩ := hp
    have hk := hk.tr hk1
    generalize f2 = f at w hw hk
    refine lv_iload_n hx hb dX3_work_56 rfl (lv_at hl 0 rfl) ?_
    obtain ⟨v8, S9, h10, h⟩ := bd_some h
    refine u_callV (n := 3) C w hw (hP _ _ (isn_f rfl rfl (by decide))) rfl rfl rfl (c_X3_tell l D K b0 sa _ L _ ad P hP S6 hw hn x4 v5 t0 v8 S9 h10) gw_404 gw_401 gw_402 gw_403 gw_6 ⟨by decide, by decide, by decide +kernel⟩ rfl rfl ⟨by decide, by decide⟩ rfl hl.1 rfl (Nat.le_of_ble_eq_true rfl) dX3_work_57 ⟨Nat.le_of_ble_eq_true rfl, Nat.le_of_ble_eq_true rfl⟩ (fun v9 u H locs hp w => ?_)
    obtain ⟨f2, rfl, rfl, hw, hn, hk1⟩ := hp
    have hk := hk.tr hk1
    generalize f2 = f at w hw hk
    refine lv_goto (tgt := 107) hx hb dX3_work_60 (by decide) ?_
    exact t_vret C hr hlk w ⟨_, rfl, rfl, so_w h hw, so_n h hn, hk⟩ (by decide) (by decide) dX3_work_107
  dsimp only [F_X3_work] at h
  obtain ⟨f, ef⟩ : ∃ z, z = f0 := ⟨_, rfl⟩
  rw [← ef] at w hw
  have hk : Kp ad P L f0 f := by rw [ef]; exact Kp.rf
  obtain ⟨H, eH⟩ : ∃ z, z = s.heap := ⟨_, rfl⟩
  obtain ⟨locs, el⟩ : ∃ z : List Loc, z = [] := ⟨_, rfl⟩
  rw [← eH, ← el] at w ⊢
  refine lv_iload_n hx hb dX3_work_0 rfl (lv_at hl 1 rfl) ?_
  refine lv_sipush (v := 2011) hx hb dX3_work_1 (by decide) ?_
  refine lv_icmp_ne (tgt := 26) hx hb dX3_work_4 (by decide) (fun c11 => ?_) (fun c11 => ?_)
  · have h := bb_f h c11
    refine lv_iload_n hx hb dX3_work_26 rfl (lv_at hl 1 rfl) ?_
    refine lv_sipush (v := 2030) hx hb dX3_work_27 (by decide) ?_
    refine lv_icmp_lt (tgt := 63) hx hb dX3_work_30 (by decide) (fun c12 => ?_) (fun c12 => ?_)
    · have h := bb_t h c12
      refine lv_iload_n hx hb dX3_work_63 rfl (lv_at hl 1 rfl) ?_
      refine lv_sipush (v := 2020) hx hb dX3_work_64 (by decide) ?_
      refine lv_icmp_lt (tgt := 87) hx hb dX3_work_67 (by decide) (fun c13 => ?_) (fun c13 => ?_)
      · have h := bb_t h c13
        refine lv_aload_n hx hb dX3_work_87 rfl (lv_at hl 0 rfl) ?_
        obtain ⟨v14, S15, h16, h⟩ := bd_some h
        refine u_callV (n := 0) C w hw (hP _ _ (isn_f rfl rfl (by decide))) rfl rfl rfl (c_X3_pop l D K b0 sa _ L _ ad P hP S0 hw hn  v14 S15 h16) gw_400 gw_397 gw_398 gw_399 gw_6 ⟨by decide, by decide, by decide +kernel⟩ rfl rfl ⟨by decide, by decide⟩ rfl hl.1 rfl (Nat.le_of_ble_eq_true rfl) dX3_work_88 ⟨Nat.le_of_ble_eq_true rfl, Nat.le_of_ble_eq_true rfl⟩ (fun v9 u H locs hp w => ?_)
        obtain ⟨f2, rfl, rfl, hw, hn, hk1⟩ := hp
        have hk := hk.tr hk1
        generalize f2 = f at w hw hk
        refine lv_istore_n (lv' := [(2, .int v14), (0, .ref (ad 22 0)), (1, .int p1)]) hx hb dX3_work_91 rfl hl (by decide) rfl (fun ls hl => ?_)
        refine lv_aload_n hx hb dX3_work_92 rfl (lv_at hl 1 rfl) ?_
        obtain ⟨v17, S18, h19, h⟩ := bd_some h
        refine u_callV (n := 0) C w hw (hP _ _ (isn_f rfl rfl (by decide))) rfl rfl rfl (c_X3_pop l D K b0 sa _ L _ ad P hP S15 hw hn  v17 S18 h19) gw_400 gw_397 gw_398 gw_399 gw_6 ⟨by decide, by decide, by decide +kernel⟩ rfl rfl ⟨by decide, by decide⟩ rfl hl.1 rfl (Nat.le_of_ble_eq_true rfl) dX3_work_93 ⟨Nat.le_of_ble_eq_true rfl, Nat.le_of_ble_eq_true rfl⟩ (fun v9 u H locs hp w => ?_)
        obtain ⟨f2, rfl, rfl, hw, hn, hk1⟩ := hp
        have hk := hk.tr hk1
        generalize f2 = f at w hw hk
        refine lv_istore_n (lv' := [(3, .int v17), (2, .int v14), (0, .ref (ad 22 0)), (1, .int p1)]) hx hb dX3_work_96 rfl hl (by decide) rfl (fun ls hl => ?_)
        refine lv_aload_n hx hb dX3_work_97 rfl (lv_at hl 2 rfl) ?_
        refine lv_iload_n hx hb dX3_work_98 rfl (lv_at hl 3 rfl) ?_
        refine lv_iload_n hx hb dX3_work_99 rfl (lv_at hl 0 rfl) ?_
        refine lv_iload_n hx hb dX3_work_100 rfl (lv_at hl 1 rfl) ?_
        obtain ⟨v20, S21, h22, h⟩ := bd_some h
        refine t_callS (n := 3) C w (c_X3_joined l D K b0 sa _ L _ ad P hP S18 hw hn p1 v17 v14 v20 S21 h22) gw_407 gw_405 gw_406 gw_6 ⟨by decide, by decide, by decide +kernel⟩ rfl rfl ⟨by decide, by decide⟩ rfl hl.1 rfl (Nat.le_of_ble_eq_true rfl) dX3_work_101 ⟨Nat.le_of_ble_eq_true rfl, Nat.le_of_ble_eq_true rfl⟩ (fun v9 u H locs hp w => ?_)
        obtain ⟨f2, rfl, rfl, hw, hn, hk1⟩ := hp
        have hk := hk.tr hk1
        generalize f2 = f at w hw hk
        obtain ⟨v23, S24, h25, h⟩ := bd_some h
        refine u_callV (n := 1) C w hw (hP _ _ (isn_f rfl rfl (by decide))) rfl rfl rfl (c_X3_push l D K b0 sa _ L _ ad P hP S21 hw hn v20 v23 S24 h25) gw_389 gw_386 gw_387 gw_388 gw_6 ⟨by decide, by decide, by decide +kernel⟩ rfl rfl ⟨by decide, by decide⟩ rfl hl.1 rfl (Nat.le_of_ble_eq_true rfl) dX3_work_104 ⟨Nat.le_of_ble_eq_true rfl, Nat.le_of_ble_eq_true rfl⟩ (fun v9 u H locs hp w => ?_)
        obtain ⟨f2, rfl, rfl, hw, hn, hk1⟩ := hp
        have hk := hk.tr hk1
        generalize f2 = f at w hw hk
        exact t_vret C hr hlk w ⟨_, rfl, rfl, so_w h hw, so_n h hn, hk⟩ (by decide) (by decide) dX3_work_107
      · have h := bb_f h c13
        refine lv_aload_n hx hb dX3_work_70 rfl (lv_at hl 0 rfl) ?_
        refine lv_iload_n hx hb dX3_work_71 rfl (lv_at hl 1 rfl) ?_
        refine lv_sipush (v := 2020) hx hb dX3_work_72 (by decide) ?_
        refine lv_isub hx hb dX3_work_75 ?_
        refine u_iv h (fun x26 h => ?_)
        refine lv_aload_n hx hb dX3_work_76 rfl (lv_at hl 0 rfl) ?_
        obtain ⟨v27, S28, h29, h⟩ := bd_some h
        refine u_callV (n := 0) C w hw (hP _ _ (isn_f rfl rfl (by decide))) rfl rfl rfl (c_X3_pop l D K b0 sa _ L _ ad P hP S0 hw hn  v27 S28 h29) gw_400 gw_397 gw_398 gw_399 gw_6 ⟨by decide, by decide, by decide +kernel⟩ rfl rfl ⟨by decide, by decide⟩ rfl hl.1 rfl (Nat.le_of_ble_eq_true rfl) dX3_work_77 ⟨Nat.le_of_ble_eq_true rfl, Nat.le_of_ble_eq_true rfl⟩ (fun v9 u H locs hp w => ?_)
        obtain ⟨f2, rfl, rfl, hw, hn, hk1⟩ := hp
        have hk := hk.tr hk1
        generalize f2 = f at w hw hk
        refine lv_iconst (v := 1) hx hb dX3_work_80 (by decide) ?_
        obtain ⟨v30, S31, h32, h⟩ := bd_some h
        refine u_callV (n := 3) C w hw (hP _ _ (isn_f rfl rfl (by decide))) rfl rfl rfl (c_X3_tell l D K b0 sa _ L _ ad P hP S28 hw hn x26 v27 1 v30 S31 h32) gw_404 gw_401 gw_402 gw_403 gw_6 ⟨by decide, by decide, by decide +kernel⟩ rfl rfl ⟨by decide, by decide⟩ rfl hl.1 rfl (Nat.le_of_ble_eq_true rfl) dX3_work_81 ⟨Nat.le_of_ble_eq_true rfl, Nat.le_of_ble_eq_true rfl⟩ (fun v9 u H locs hp w => ?_)
        obtain ⟨f2, rfl, rfl, hw, hn, hk1⟩ := hp
        have hk := hk.tr hk1
        generalize f2 = f at w hw hk
        refine lv_goto (tgt := 107) hx hb dX3_work_84 (by decide) ?_
        exact t_vret C hr hlk w ⟨_, rfl, rfl, so_w h hw, so_n h hn, hk⟩ (by decide) (by decide) dX3_work_107
    · have h := bb_f h c12
      refine lv_aload_n hx hb dX3_work_33 rfl (lv_at hl 0 rfl) ?_
      obtain ⟨v33, S34, h35, h⟩ := bd_some h
      refine u_callV (n := 0) C w hw (hP _ _ (isn_f rfl rfl (by decide))) rfl rfl rfl (c_X3_pop l D K b0 sa _ L _ ad P hP S0 hw hn  v33 S34 h35) gw_400 gw_397 gw_398 gw_399 gw_6 ⟨by decide, by decide, by decide +kernel⟩ rfl rfl ⟨by decide, by decide⟩ rfl hl.1 rfl (Nat.le_of_ble_eq_true rfl) dX3_work_34 ⟨Nat.le_of_ble_eq_true rfl, Nat.le_of_ble_eq_true rfl⟩ (fun v9 u H locs hp w => ?_)
      obtain ⟨f2, rfl, rfl, hw, hn, hk1⟩ := hp
      have hk := hk.tr hk1
      generalize f2 = f at w hw hk
      refine lv_if_eq (tgt := 44) hx hb dX3_work_37 (by decide) (fun c36 => ?_) (fun c36 => ?_)
      · have h := bb_t h c36
        refine lv_iconst (v := 0) hx hb dX3_work_44 (by decide) ?_
        exact J45  p1 0 S34 h f H locs w hw hn hk ls (lv_sub hl [0, 1] rfl)
      · have h := bb_f h c36
        refine lv_iconst (v := 1) hx hb dX3_work_40 (by decide) ?_
        refine lv_goto (tgt := 45) hx hb dX3_work_41 (by decide) ?_
        exact J45  p1 1 S34 h f H locs w hw hn hk ls (lv_sub hl [0, 1] rfl)
  · have h := bb_t h c11
    refine lv_aload_n hx hb dX3_work_7 rfl (lv_at hl 0 rfl) ?_
    refine lv_aload_n hx hb dX3_work_8 rfl (lv_at hl 0 rfl) ?_
    obtain ⟨v37, S38, h39, h⟩ := bd_some h
    refine u_callV (n := 0) C w hw (hP _ _ (isn_f rfl rfl (by decide))) rfl rfl rfl (c_X3_pop l D K b0 sa _ L _ ad P hP S0 hw hn  v37 S38 h39) gw_400 gw_397 gw_398 gw_399 gw_6 ⟨by decide, by decide, by decide +kernel⟩ rfl rfl ⟨by decide, by decide⟩ rfl hl.1 rfl (Nat.le_of_ble_eq_true rfl) dX3_work_9 ⟨Nat.le_of_ble_eq_true rfl, Nat.le_of_ble_eq_true rfl⟩ (fun v9 u H locs hp w => ?_)
    obtain ⟨f2, rfl, rfl, hw, hn, hk1⟩ := hp
    have hk := hk.tr hk1
    generalize f2 = f at w hw hk
    refine lv_if_ne (tgt := 19) hx hb dX3_work_12 (by decide) (fun c40 => ?_) (fun c40 => ?_)
    · have h := bb_f h c40
      refine lv_iconst (v := 0) hx hb dX3_work_19 (by decide) ?_
      exact J20  0 S38 h f H locs w hw hn hk ls (lv_sub hl [] rfl)
    · have h := bb_t h c40
      refine lv_iconst (v := 1) hx hb dX3_work_15 (by decide) ?_
      refine lv_goto (tgt := 20) hx hb dX3_work_16 (by decide) ?_
      exact J20  1 S38 h f H locs w hw hn hk ls (lv_sub hl [] rfl)
theorem dX4_runEnd_0 : decode cX4_runEnd 0 = .ok (.iload_n 2, 1) := by decide +kernel
theorem dX4_runEnd_1 : decode cX4_runEnd 1 = .ok (.istore 5, 2) := by decide +kernel
theorem dX4_runEnd_3 : decode cX4_runEnd 3 = .ok (.iload 5, 2) := by decide +kernel
theorem dX4_runEnd_5 : decode cX4_runEnd 5 = .ok (.aload_n 0, 1) := by decide +kernel
theorem dX4_runEnd_6 : decode cX4_runEnd 6 = .ok (.getfield 28, 3) := by decide +kernel
theorem dX4_runEnd_9 : decode cX4_runEnd 9 = .ok (.if_icmp .ge 22, 3) := by decide +kernel
theorem dX4_runEnd_12 : decode cX4_runEnd 12 = .ok (.aload_n 1, 1) := by decide +kernel
theorem dX4_runEnd_13 : decode cX4_runEnd 13 = .ok (.iload 5, 2) := by decide +kernel
theorem dX4_runEnd_15 : decode cX4_runEnd 15 = .ok (.iaload, 1) := by decide +kernel
theorem dX4_runEnd_16 : decode cX4_runEnd 16 = .ok (.iload_n 3, 1) := by decide +kernel
theorem dX4_runEnd_17 : decode cX4_runEnd 17 = .ok (.iload 4, 2) := by decide +kernel
theorem dX4_runEnd_19 : decode cX4_runEnd 19 = .ok (.invokestatic 90, 3) := by decide +kernel
theorem dX4_runEnd_22 : decode cX4_runEnd 22 = .ok (.ifCond .eq 9, 3) := by decide +kernel
theorem dX4_runEnd_25 : decode cX4_runEnd 25 = .ok (.iinc 5 1, 3) := by decide +kernel
theorem dX4_runEnd_28 : decode cX4_runEnd 28 = .ok (.goto (-25), 3) := by decide +kernel
theorem dX4_runEnd_31 : decode cX4_runEnd 31 = .ok (.iload 5, 2) := by decide +kernel
theorem dX4_runEnd_33 : decode cX4_runEnd 33 = .ok (.ireturn, 1) := by decide +kernel
noncomputable def B_X4_runEnd_3 (k3 : (Int32 × Int32 × Int32) → fS → Option (Int32 × fS)) : (Int32 × Int32 × Int32) → fS → Option (Int32 × fS) := fun ⟨a3, a4, a5⟩ S => iv (ge S 17 0 5) (fun x1 => bb (x1 ≤ a5) (some (a5, S)) (gd (ib a5 300) (iv (ge S 16 0 (a5 : Int32).toNatClampNeg) (fun x4 => bd (F_X6_within x4 a3 a4 S) (fun v5 S6 => bb (v5 = (0 : Int32)) (some (a5, S6)) (iv (a5 + Int32.ofInt 1) (fun x9 => k3 (a3, a4, x9) S6)))))))
noncomputable def F_X4_runEnd (p2 : Int32) (p3 : Int32) (p4 : Int32) (S0 : fS) : Option (Int32 × fS) := lp (B_X4_runEnd_3 ) fuel (p3, p4, p2) S0
set_option maxHeartbeats 4000000 in
set_option maxRecDepth 100000 in
theorem c_X4_runEnd (l : Launch) (D : va_G) (K : Nat → ClassId) (b0 : Nat) (sa : sT) (sz : Nat) (L : List Nat) (f0 : Nat → va_E) (ad : Nat → Nat → Nat) (P : Nat → Nat → Prop) {n : Nat × Nat} (hP : ∀ a i : Nat, isn n a i → P a i) (S0 : fS) (hw : PW K ad P S0 L f0) (hn : S0.2.2.1 = n) (p2 : Int32) (p3 : Int32) (p4 : Int32) (v : Int32) (S1 : fS) (h : F_X4_runEnd p2 p3 p4 S0 = some (v, S1)) : Met l yX4_runEnd (.code yX4_runEnd cX4_runEnd 6 (some .int) :: gt) { frames := 1, cells := 0, slots := 0, locals := 22 } (va_Pc [.ref (ad 17 0), .ref (ad 16 0), .int p2, .int p3, .int p4] (hPre D K b0 sa sz L f0)) (hQ D K b0 (fun v9 u9 => ∃ f2 : Nat → va_E, v9 = some (.int v) ∧ u9 = lU L f2 ∧ PW K ad P S1 L f2 ∧ S1.2.2.1 = n ∧ Kp ad P L f0 f2)) 0 0 (fun q => b0 ≤ q) := by
  refine t_of (own := RX4) (by decide) rfl ?_ (Nat.le_of_ble_eq_true rfl)
  intro p e s m below meth c ls C w hsz hr hlk hnm hl
  have hx := C.1
  have hb := C.2.1
  have hl : lv_has ls 6 [(0, .ref (ad 17 0)), (1, .ref (ad 16 0)), (2, .int p2), (3, .int p3), (4, .int p4)] := hl
  have J3 : ∀ (fu : Nat) (a3 : Int32) (a4 : Int32) (a5 : Int32) (S : fS), lp (B_X4_runEnd_3 ) fu (a3, a4, a5) S = some (v, S1) → Gw D K b0 sa ad P n L f0 p l e { frames := 1, cells := 0, slots := 0, locals := 22 } s m [.ref (ad 17 0), .ref (ad 16 0), .int p2, .int p3, .int p4].toArray below meth c 6 (MQ below (hQ D K b0 (fun v9 u9 => ∃ f2 : Nat → va_E, v9 = some (.int v) ∧ u9 = lU L f2 ∧ PW K ad P S1 L f2 ∧ S1.2.2.1 = n ∧ Kp ad P L f0 f2)) [.ref (ad 17 0), .ref (ad 16 0), .int p2, .int p3, .int p4].toArray s 0 0 (fun q => b0 ≤ q)) 0 0 3 [(0, .ref (ad 17 0)), (1, .ref (ad 16 0)), (3, .int a3), (4, .int a4), (5, .int a5)] [] S := by
    intro fu a3 a4 a5 S h
    refine lp_some (G := (fun q S => Gw D K b0 sa ad P n L f0 p l e { frames := 1, cells := 0, slots := 0, locals := 22 } s m [.ref (ad 17 0), .ref (ad 16 0), .int p2, .int p3, .int p4].toArray below meth c 6 (MQ below (hQ D K b0 (fun v9 u9 => ∃ f2 : Nat → va_E, v9 = some (.int v) ∧ u9 = lU L f2 ∧ PW K ad P S1 L f2 ∧ S1.2.2.1 = n ∧ Kp ad P L f0 f2)) [.ref (ad 17 0), .ref (ad 16 0), .int p2, .int p3, .int p4].toArray s 0 0 (fun q => b0 ≤ q)) 0 0 3 [(0, .ref (ad 17 0)), (1, .ref (ad 16 0)), (3, .int q.1), (4, .int q.2.1), (5, .int q.2.2)] [] S)) (fun k3 hk3 q S h => ?_) fu (a3, a4, a5) S h
    obtain ⟨a3, a4, a5⟩ := q
    have hk3 : ∀ (a3 : Int32) (a4 : Int32) (a5 : Int32) (S : fS), k3 (a3, a4, a5) S = some (v, S1) → Gw D K b0 sa ad P n L f0 p l e { frames := 1, cells := 0, slots := 0, locals := 22 } s m [.ref (ad 17 0), .ref (ad 16 0), .int p2, .int p3, .int p4].toArray below meth c 6 (MQ below (hQ D K b0 (fun v9 u9 => ∃ f2 : Nat → va_E, v9 = some (.int v) ∧ u9 = lU L f2 ∧ PW K ad P S1 L f2 ∧ S1.2.2.1 = n ∧ Kp ad P L f0 f2)) [.ref (ad 17 0), .ref (ad 16 0), .int p2, .int p3, .int p4].toArray s 0 0 (fun q => b0 ≤ q)) 0 0 3 [(0, .ref (ad 17 0)), (1, .ref (ad 16 0)), (3, .int a3), (4, .int a4), (5, .int a5)] [] S := fun a3 a4 a5 S h => hk3 (a3, a4, a5) S h
    dsimp only [B_X4_runEnd_3] at h
    intro f H locs w hw hn hk ls hl
    refine lv_iload hx hb dX4_runEnd_3 (lv_at hl 4 rfl) ?_
    refine lv_aload_n hx hb dX4_runEnd_5 rfl (lv_at hl 0 rfl) ?_
    refine u_geti C w hw (hP _ _ (isn_f rfl rfl (by decide))) rfl (N := 12) rfl rfl cin_4 5 (by decide) rfl gw_163 dX4_runEnd_6 ?_
    refine u_iv h (fun x1 h => ?_)
    refine lv_icmp_ge (tgt := 31) hx hb dX4_runEnd_9 (by decide) (fun c2 => ?_) (fun c2 => ?_)
    · have h := bb_t h c2
      refine lv_iload hx hb dX4_runEnd_31 (lv_at hl 4 rfl) ?_
      exact t_iret C hr hlk w ⟨_, so_v h, rfl, so_w h hw, so_n h hn, hk⟩ (by decide) (by decide) dX4_runEnd_33
    · have h := bb_f h c2
      refine lv_aload_n hx hb dX4_runEnd_12 rfl (lv_at hl 1 rfl) ?_
      refine lv_iload hx hb dX4_runEnd_13 (lv_at hl 4 rfl) ?_
      obtain ⟨g3, h⟩ := gd_some h
      refine u_iald C w hw (hP _ _ (isn_f rfl rfl (by decide))) rfl rfl (n := 300) rfl (vp_in_iff.mpr g3) dX4_runEnd_15 ?_
      refine u_iv h (fun x4 h => ?_)
      refine lv_iload_n hx hb dX4_runEnd_16 rfl (lv_at hl 2 rfl) ?_
      refine lv_iload hx hb dX4_runEnd_17 (lv_at hl 3 rfl) ?_
      obtain ⟨v5, S6, h7, h⟩ := bd_some h
      refine t_callSN (host := RX6) (n := 3) C w (c_X6_within l D K b0 sa _ L _ ad P hP S hw hn x4 a3 a4 v5 S6 h7) gw_376 (List.mem_of_getElem? (i := 7) rfl) gw_375 gw_1 ⟨by decide, by decide, by decide +kernel⟩ rfl rfl ⟨by decide, by decide⟩ rfl hl.1 rfl (Nat.le_of_ble_eq_true rfl) dX4_runEnd_19 ⟨Nat.le_of_ble_eq_true rfl, Nat.le_of_ble_eq_true rfl⟩ (fun v9 u H locs hp w => ?_)
      obtain ⟨f2, rfl, rfl, hw, hn, hk1⟩ := hp
      have hk := hk.tr hk1
      generalize f2 = f at w hw hk
      refine lv_if_eq (tgt := 31) hx hb dX4_runEnd_22 (by decide) (fun c8 => ?_) (fun c8 => ?_)
      · have h := bb_t h c8
        refine lv_iload hx hb dX4_runEnd_31 (lv_at hl 4 rfl) ?_
        exact t_iret C hr hlk w ⟨_, so_v h, rfl, so_w h hw, so_n h hn, hk⟩ (by decide) (by decide) dX4_runEnd_33
      · have h := bb_f h c8
        obtain ⟨x9, ex9, h⟩ := iv_some h
        refine lv_iinc (v := x9) (lv' := [(5, .int x9), (0, .ref (ad 17 0)), (1, .ref (ad 16 0)), (3, .int a3), (4, .int a4)]) hx hb dX4_runEnd_25 hl (k := 4) rfl ex9.symm (by decide) rfl (fun ls hl => ?_)
        refine lv_goto (tgt := 3) hx hb dX4_runEnd_28 (by decide) ?_
        exact hk3 a3 a4 x9 S6 h f H locs w hw hn hk ls (lv_sub hl [1, 2, 3, 4, 0] rfl)
  dsimp only [F_X4_runEnd] at h
  obtain ⟨f, ef⟩ : ∃ z, z = f0 := ⟨_, rfl⟩
  rw [← ef] at w hw
  have hk : Kp ad P L f0 f := by rw [ef]; exact Kp.rf
  obtain ⟨H, eH⟩ : ∃ z, z = s.heap := ⟨_, rfl⟩
  obtain ⟨locs, el⟩ : ∃ z : List Loc, z = [] := ⟨_, rfl⟩
  rw [← eH, ← el] at w ⊢
  refine lv_iload_n hx hb dX4_runEnd_0 rfl (lv_at hl 2 rfl) ?_
  refine lv_istore (lv' := [(5, .int p2), (0, .ref (ad 17 0)), (1, .ref (ad 16 0)), (2, .int p2), (3, .int p3), (4, .int p4)]) hx hb dX4_runEnd_1 hl (by decide) rfl (fun ls hl => ?_)
  exact J3  fuel p3 p4 p2 S0 h f H locs w hw hn hk ls (lv_sub hl [1, 2, 4, 5, 0] rfl)
theorem dX4_numberIn_0 : decode cX4_numberIn 0 = .ok (.iconst 0, 1) := by decide +kernel
theorem dX4_numberIn_1 : decode cX4_numberIn 1 = .ok (.istore_n 3, 1) := by decide +kernel
theorem dX4_numberIn_2 : decode cX4_numberIn 2 = .ok (.iload_n 1, 1) := by decide +kernel
theorem dX4_numberIn_3 : decode cX4_numberIn 3 = .ok (.istore 4, 2) := by decide +kernel
theorem dX4_numberIn_5 : decode cX4_numberIn 5 = .ok (.iload 4, 2) := by decide +kernel
theorem dX4_numberIn_7 : decode cX4_numberIn 7 = .ok (.iload_n 2, 1) := by decide +kernel
theorem dX4_numberIn_8 : decode cX4_numberIn 8 = .ok (.if_icmp .ge 28, 3) := by decide +kernel
theorem dX4_numberIn_11 : decode cX4_numberIn 11 = .ok (.sipush 1000, 3) := by decide +kernel
theorem dX4_numberIn_14 : decode cX4_numberIn 14 = .ok (.iload_n 3, 1) := by decide +kernel
theorem dX4_numberIn_15 : decode cX4_numberIn 15 = .ok (.bipush 10, 2) := by decide +kernel
theorem dX4_numberIn_17 : decode cX4_numberIn 17 = .ok (.imul, 1) := by decide +kernel
theorem dX4_numberIn_18 : decode cX4_numberIn 18 = .ok (.aload_n 0, 1) := by decide +kernel
theorem dX4_numberIn_19 : decode cX4_numberIn 19 = .ok (.iload 4, 2) := by decide +kernel
theorem dX4_numberIn_21 : decode cX4_numberIn 21 = .ok (.iaload, 1) := by decide +kernel
theorem dX4_numberIn_22 : decode cX4_numberIn 22 = .ok (.iadd, 1) := by decide +kernel
theorem dX4_numberIn_23 : decode cX4_numberIn 23 = .ok (.bipush 48, 2) := by decide +kernel
theorem dX4_numberIn_25 : decode cX4_numberIn 25 = .ok (.isub, 1) := by decide +kernel
theorem dX4_numberIn_26 : decode cX4_numberIn 26 = .ok (.invokestatic 77, 3) := by decide +kernel
theorem dX4_numberIn_29 : decode cX4_numberIn 29 = .ok (.istore_n 3, 1) := by decide +kernel
theorem dX4_numberIn_30 : decode cX4_numberIn 30 = .ok (.iinc 4 1, 3) := by decide +kernel
theorem dX4_numberIn_33 : decode cX4_numberIn 33 = .ok (.goto (-28), 3) := by decide +kernel
theorem dX4_numberIn_36 : decode cX4_numberIn 36 = .ok (.iload_n 3, 1) := by decide +kernel
theorem dX4_numberIn_37 : decode cX4_numberIn 37 = .ok (.ireturn, 1) := by decide +kernel
noncomputable def B_X4_numberIn_5 (k5 : (Int32 × Int32 × Int32) → fS → Option (Int32 × fS)) : (Int32 × Int32 × Int32) → fS → Option (Int32 × fS) := fun ⟨a2, a3, a4⟩ S => bb (a2 ≤ a4) (some (a3, S)) (iv (a3 * (10 : Int32)) (fun x2 => gd (ib a4 300) (iv (ge S 16 0 (a4 : Int32).toNatClampNeg) (fun x4 => iv (x2 + x4) (fun x5 => iv (x5 - (48 : Int32)) (fun x6 => iv ((if x6 < (1000 : Int32) then x6 else (1000 : Int32))) (fun x7 => iv (a4 + Int32.ofInt 1) (fun x8 => k5 (a2, x7, x8) S))))))))
noncomputable def F_X4_numberIn (p1 : Int32) (p2 : Int32) (S0 : fS) : Option (Int32 × fS) := lp (B_X4_numberIn_5 ) fuel (p2, 0, p1) S0
set_option maxHeartbeats 4000000 in
set_option maxRecDepth 100000 in
theorem c_X4_numberIn (l : Launch) (D : va_G) (K : Nat → ClassId) (b0 : Nat) (sa : sT) (sz : Nat) (L : List Nat) (f0 : Nat → va_E) (ad : Nat → Nat → Nat) (P : Nat → Nat → Prop) {n : Nat × Nat} (hP : ∀ a i : Nat, isn n a i → P a i) (S0 : fS) (hw : PW K ad P S0 L f0) (hn : S0.2.2.1 = n) (p1 : Int32) (p2 : Int32) (v : Int32) (S1 : fS) (h : F_X4_numberIn p1 p2 S0 = some (v, S1)) : Met l yX4_numberIn (.code yX4_numberIn cX4_numberIn 5 (some .int) :: gt) { frames := 1, cells := 0, slots := 0, locals := 17 } (va_Pc [.ref (ad 16 0), .int p1, .int p2] (hPre D K b0 sa sz L f0)) (hQ D K b0 (fun v9 u9 => ∃ f2 : Nat → va_E, v9 = some (.int v) ∧ u9 = lU L f2 ∧ PW K ad P S1 L f2 ∧ S1.2.2.1 = n ∧ Kp ad P L f0 f2)) 0 0 (fun q => b0 ≤ q) := by
  refine t_of (own := RX4) (by decide) rfl ?_ (Nat.le_of_ble_eq_true rfl)
  intro p e s m below meth c ls C w hsz hr hlk hnm hl
  have hx := C.1
  have hb := C.2.1
  have hl : lv_has ls 5 [(0, .ref (ad 16 0)), (1, .int p1), (2, .int p2)] := hl
  have J5 : ∀ (fu : Nat) (a2 : Int32) (a3 : Int32) (a4 : Int32) (S : fS), lp (B_X4_numberIn_5 ) fu (a2, a3, a4) S = some (v, S1) → Gw D K b0 sa ad P n L f0 p l e { frames := 1, cells := 0, slots := 0, locals := 17 } s m [.ref (ad 16 0), .int p1, .int p2].toArray below meth c 5 (MQ below (hQ D K b0 (fun v9 u9 => ∃ f2 : Nat → va_E, v9 = some (.int v) ∧ u9 = lU L f2 ∧ PW K ad P S1 L f2 ∧ S1.2.2.1 = n ∧ Kp ad P L f0 f2)) [.ref (ad 16 0), .int p1, .int p2].toArray s 0 0 (fun q => b0 ≤ q)) 0 0 5 [(0, .ref (ad 16 0)), (2, .int a2), (3, .int a3), (4, .int a4)] [] S := by
    intro fu a2 a3 a4 S h
    refine lp_some (G := (fun q S => Gw D K b0 sa ad P n L f0 p l e { frames := 1, cells := 0, slots := 0, locals := 17 } s m [.ref (ad 16 0), .int p1, .int p2].toArray below meth c 5 (MQ below (hQ D K b0 (fun v9 u9 => ∃ f2 : Nat → va_E, v9 = some (.int v) ∧ u9 = lU L f2 ∧ PW K ad P S1 L f2 ∧ S1.2.2.1 = n ∧ Kp ad P L f0 f2)) [.ref (ad 16 0), .int p1, .int p2].toArray s 0 0 (fun q => b0 ≤ q)) 0 0 5 [(0, .ref (ad 16 0)), (2, .int q.1), (3, .int q.2.1), (4, .int q.2.2)] [] S)) (fun k5 hk5 q S h => ?_) fu (a2, a3, a4) S h
    obtain ⟨a2, a3, a4⟩ := q
    have hk5 : ∀ (a2 : Int32) (a3 : Int32) (a4 : Int32) (S : fS), k5 (a2, a3, a4) S = some (v, S1) → Gw D K b0 sa ad P n L f0 p l e { frames := 1, cells := 0, slots := 0, locals := 17 } s m [.ref (ad 16 0), .int p1, .int p2].toArray below meth c 5 (MQ below (hQ D K b0 (fun v9 u9 => ∃ f2 : Nat → va_E, v9 = some (.int v) ∧ u9 = lU L f2 ∧ PW K ad P S1 L f2 ∧ S1.2.2.1 = n ∧ Kp ad P L f0 f2)) [.ref (ad 16 0), .int p1, .int p2].toArray s 0 0 (fun q => b0 ≤ q)) 0 0 5 [(0, .ref (ad 16 0)), (2, .int a2), (3, .int a3), (4, .int a4)] [] S := fun a2 a3 a4 S h => hk5 (a2, a3, a4) S h
    dsimp only [B_X4_numberIn_5] at h
    intro f H locs w hw hn hk ls hl
    refine lv_iload hx hb dX4_numberIn_5 (lv_at hl 3 rfl) ?_
    refine lv_iload_n hx hb dX4_numberIn_7 rfl (lv_at hl 1 rfl) ?_
    refine lv_icmp_ge (tgt := 36) hx hb dX4_numberIn_8 (by decide) (fun c1 => ?_) (fun c1 => ?_)
    · have h := bb_t h c1
      refine lv_iload_n hx hb dX4_numberIn_36 rfl (lv_at hl 2 rfl) ?_
      exact t_iret C hr hlk w ⟨_, so_v h, rfl, so_w h hw, so_n h hn, hk⟩ (by decide) (by decide) dX4_numberIn_37
    · have h := bb_f h c1
      refine lv_sipush (v := 1000) hx hb dX4_numberIn_11 (by decide) ?_
      refine lv_iload_n hx hb dX4_numberIn_14 rfl (lv_at hl 2 rfl) ?_
      refine lv_bipush (v := 10) hx hb dX4_numberIn_15 (by decide) ?_
      refine lv_imul hx hb dX4_numberIn_17 ?_
      refine u_iv h (fun x2 h => ?_)
      refine lv_aload_n hx hb dX4_numberIn_18 rfl (lv_at hl 0 rfl) ?_
      refine lv_iload hx hb dX4_numberIn_19 (lv_at hl 3 rfl) ?_
      obtain ⟨g3, h⟩ := gd_some h
      refine u_iald C w hw (hP _ _ (isn_f rfl rfl (by decide))) rfl rfl (n := 300) rfl (vp_in_iff.mpr g3) dX4_numberIn_21 ?_
      refine u_iv h (fun x4 h => ?_)
      refine lv_iadd hx hb dX4_numberIn_22 ?_
      refine u_iv h (fun x5 h => ?_)
      refine lv_bipush (v := 48) hx hb dX4_numberIn_23 (by decide) ?_
      refine lv_isub hx hb dX4_numberIn_25 ?_
      refine u_iv h (fun x6 h => ?_)
      refine va_mmin hx hb (C.2.2.1.trans hl.1.symm) C.2.2.2.1 (C.2.2.2.2 _ gw_732) (C.2.2.2.2 _ gw_409) (C.2.2.2.2 _ gw_15) (C.2.2.2.2 _ gw_410) (by decide) (Nat.le_of_ble_eq_true rfl) (by decide) (by decide) dX4_numberIn_26 ?_
      refine u_iv h (fun x7 h => ?_)
      refine lv_istore_n (lv' := [(3, .int x7), (0, .ref (ad 16 0)), (2, .int a2), (4, .int a4)]) hx hb dX4_numberIn_29 rfl hl (by decide) rfl (fun ls hl => ?_)
      obtain ⟨x8, ex8, h⟩ := iv_some h
      refine lv_iinc (v := x8) (lv' := [(4, .int x8), (3, .int x7), (0, .ref (ad 16 0)), (2, .int a2)]) hx hb dX4_numberIn_30 hl (k := 3) rfl ex8.symm (by decide) rfl (fun ls hl => ?_)
      refine lv_goto (tgt := 5) hx hb dX4_numberIn_33 (by decide) ?_
      exact hk5 a2 x7 x8 S h f H locs w hw hn hk ls (lv_sub hl [2, 3, 1, 0] rfl)
  dsimp only [F_X4_numberIn] at h
  obtain ⟨f, ef⟩ : ∃ z, z = f0 := ⟨_, rfl⟩
  rw [← ef] at w hw
  have hk : Kp ad P L f0 f := by rw [ef]; exact Kp.rf
  obtain ⟨H, eH⟩ : ∃ z, z = s.heap := ⟨_, rfl⟩
  obtain ⟨locs, el⟩ : ∃ z : List Loc, z = [] := ⟨_, rfl⟩
  rw [← eH, ← el] at w ⊢
  refine lv_iconst (v := 0) hx hb dX4_numberIn_0 (by decide) ?_
  refine lv_istore_n (lv' := [(3, .int 0), (0, .ref (ad 16 0)), (1, .int p1), (2, .int p2)]) hx hb dX4_numberIn_1 rfl hl (by decide) rfl (fun ls hl => ?_)
  refine lv_iload_n hx hb dX4_numberIn_2 rfl (lv_at hl 2 rfl) ?_
  refine lv_istore (lv' := [(4, .int p1), (3, .int 0), (0, .ref (ad 16 0)), (1, .int p1), (2, .int p2)]) hx hb dX4_numberIn_3 hl (by decide) rfl (fun ls hl => ?_)
  exact J5  fuel p2 0 p1 S0 h f H locs w hw hn hk ls (lv_sub hl [2, 4, 1, 0] rfl)
theorem dX4_keepToken_0 : decode cX4_keepToken 0 = .ok (.aload_n 0, 1) := by decide +kernel
theorem dX4_keepToken_1 : decode cX4_keepToken 1 = .ok (.getfield 21, 3) := by decide +kernel
theorem dX4_keepToken_4 : decode cX4_keepToken 4 = .ok (.aload_n 0, 1) := by decide +kernel
theorem dX4_keepToken_5 : decode cX4_keepToken 5 = .ok (.getfield 9, 3) := by decide +kernel
theorem dX4_keepToken_8 : decode cX4_keepToken 8 = .ok (.arraylength, 1) := by decide +kernel
theorem dX4_keepToken_9 : decode cX4_keepToken 9 = .ok (.if_icmp .ge 43, 3) := by decide +kernel
theorem dX4_keepToken_12 : decode cX4_keepToken 12 = .ok (.aload_n 0, 1) := by decide +kernel
theorem dX4_keepToken_13 : decode cX4_keepToken 13 = .ok (.getfield 9, 3) := by decide +kernel
theorem dX4_keepToken_16 : decode cX4_keepToken 16 = .ok (.aload_n 0, 1) := by decide +kernel
theorem dX4_keepToken_17 : decode cX4_keepToken 17 = .ok (.getfield 21, 3) := by decide +kernel
theorem dX4_keepToken_20 : decode cX4_keepToken 20 = .ok (.iload_n 1, 1) := by decide +kernel
theorem dX4_keepToken_21 : decode cX4_keepToken 21 = .ok (.iastore, 1) := by decide +kernel
theorem dX4_keepToken_22 : decode cX4_keepToken 22 = .ok (.aload_n 0, 1) := by decide +kernel
theorem dX4_keepToken_23 : decode cX4_keepToken 23 = .ok (.getfield 15, 3) := by decide +kernel
theorem dX4_keepToken_26 : decode cX4_keepToken 26 = .ok (.aload_n 0, 1) := by decide +kernel
theorem dX4_keepToken_27 : decode cX4_keepToken 27 = .ok (.getfield 21, 3) := by decide +kernel
theorem dX4_keepToken_30 : decode cX4_keepToken 30 = .ok (.iload_n 2, 1) := by decide +kernel
theorem dX4_keepToken_31 : decode cX4_keepToken 31 = .ok (.iastore, 1) := by decide +kernel
theorem dX4_keepToken_32 : decode cX4_keepToken 32 = .ok (.aload_n 0, 1) := by decide +kernel
theorem dX4_keepToken_33 : decode cX4_keepToken 33 = .ok (.getfield 18, 3) := by decide +kernel
theorem dX4_keepToken_36 : decode cX4_keepToken 36 = .ok (.aload_n 0, 1) := by decide +kernel
theorem dX4_keepToken_37 : decode cX4_keepToken 37 = .ok (.getfield 21, 3) := by decide +kernel
theorem dX4_keepToken_40 : decode cX4_keepToken 40 = .ok (.iload_n 3, 1) := by decide +kernel
theorem dX4_keepToken_41 : decode cX4_keepToken 41 = .ok (.iastore, 1) := by decide +kernel
theorem dX4_keepToken_42 : decode cX4_keepToken 42 = .ok (.aload_n 0, 1) := by decide +kernel
theorem dX4_keepToken_43 : decode cX4_keepToken 43 = .ok (.dup, 1) := by decide +kernel
theorem dX4_keepToken_44 : decode cX4_keepToken 44 = .ok (.getfield 21, 3) := by decide +kernel
theorem dX4_keepToken_47 : decode cX4_keepToken 47 = .ok (.iconst 1, 1) := by decide +kernel
theorem dX4_keepToken_48 : decode cX4_keepToken 48 = .ok (.iadd, 1) := by decide +kernel
theorem dX4_keepToken_49 : decode cX4_keepToken 49 = .ok (.putfield 21, 3) := by decide +kernel
theorem dX4_keepToken_52 : decode cX4_keepToken 52 = .ok (.return_, 1) := by decide +kernel
noncomputable def F_X4_keepToken (p1 : Int32) (p2 : Int32) (p3 : Int32) (S0 : fS) : Option (Int32 × fS) := iv (ge S0 17 0 3) (fun x1 => bb ((300 : Int32) ≤ x1) (some (0, S0)) (iv (ge S0 17 0 3) (fun x3 => gd (ib x3 300) (sv (pu S0 18 0 (x3 : Int32).toNatClampNeg p1) (fun S5 => iv (ge S5 17 0 3) (fun x6 => gd (ib x6 300) (sv (pu S5 19 0 (x6 : Int32).toNatClampNeg p2) (fun S8 => iv (ge S8 17 0 3) (fun x9 => gd (ib x9 300) (sv (pu S8 20 0 (x9 : Int32).toNatClampNeg p3) (fun S11 => iv (ge S11 17 0 3) (fun x12 => iv (x12 + (1 : Int32)) (fun x13 => sv (pu S11 17 0 3 x13) (fun S14 => some (0, S14)))))))))))))))
set_option maxHeartbeats 4000000 in
set_option maxRecDepth 100000 in
theorem c_X4_keepToken (l : Launch) (D : va_G) (K : Nat → ClassId) (b0 : Nat) (sa : sT) (sz : Nat) (L : List Nat) (f0 : Nat → va_E) (ad : Nat → Nat → Nat) (P : Nat → Nat → Prop) {n : Nat × Nat} (hP : ∀ a i : Nat, isn n a i → P a i) (S0 : fS) (hw : PW K ad P S0 L f0) (hn : S0.2.2.1 = n) (p1 : Int32) (p2 : Int32) (p3 : Int32) (v : Int32) (S1 : fS) (h : F_X4_keepToken p1 p2 p3 S0 = some (v, S1)) : Met l yX4_keepToken (.code yX4_keepToken cX4_keepToken 4 none :: gt) { frames := 0, cells := 0, slots := 0, locals := 0 } (va_Pc [.ref (ad 17 0), .int p1, .int p2, .int p3] (hPre D K b0 sa sz L f0)) (hQ D K b0 (fun v9 u9 => ∃ f2 : Nat → va_E, v9 = none ∧ u9 = lU L f2 ∧ PW K ad P S1 L f2 ∧ S1.2.2.1 = n ∧ Kp ad P L f0 f2)) 0 0 (fun q => b0 ≤ q) := by
  refine t_of (own := RX4) (by decide) rfl ?_ (Nat.le_of_ble_eq_true rfl)
  intro p e s m below meth c ls C w hsz hr hlk hnm hl
  have hx := C.1
  have hb := C.2.1
  have hl : lv_has ls 4 [(0, .ref (ad 17 0)), (1, .int p1), (2, .int p2), (3, .int p3)] := hl
  dsimp only [F_X4_keepToken] at h
  obtain ⟨f, ef⟩ : ∃ z, z = f0 := ⟨_, rfl⟩
  rw [← ef] at w hw
  have hk : Kp ad P L f0 f := by rw [ef]; exact Kp.rf
  obtain ⟨H, eH⟩ : ∃ z, z = s.heap := ⟨_, rfl⟩
  obtain ⟨locs, el⟩ : ∃ z : List Loc, z = [] := ⟨_, rfl⟩
  rw [← eH, ← el] at w ⊢
  refine lv_aload_n hx hb dX4_keepToken_0 rfl (lv_at hl 0 rfl) ?_
  refine u_geti C w hw (hP _ _ (isn_f rfl rfl (by decide))) rfl (N := 12) rfl rfl cin_4 3 (by decide) rfl gw_161 dX4_keepToken_1 ?_
  refine u_iv h (fun x1 h => ?_)
  refine lv_aload_n hx hb dX4_keepToken_4 rfl (lv_at hl 0 rfl) ?_
  refine u_getr C w hw (hP _ _ (isn_f rfl rfl (by decide))) rfl (N := 12) rfl rfl cin_4 0 (by decide) (by decide) (a2 := 18) (i2 := 0) rfl gw_158 dX4_keepToken_5 ?_
  refine u_alen C w hw (hP _ _ (isn_f rfl rfl (by decide))) rfl rfl (v := 300) rfl dX4_keepToken_8 ?_
  refine lv_icmp_ge (tgt := 52) hx hb dX4_keepToken_9 (by decide) (fun c2 => ?_) (fun c2 => ?_)
  · have h := bb_t h c2
    exact t_vret C hr hlk w ⟨_, rfl, rfl, so_w h hw, so_n h hn, hk⟩ (by decide) (by decide) dX4_keepToken_52
  · have h := bb_f h c2
    refine lv_aload_n hx hb dX4_keepToken_12 rfl (lv_at hl 0 rfl) ?_
    refine u_getr C w hw (hP _ _ (isn_f rfl rfl (by decide))) rfl (N := 12) rfl rfl cin_4 0 (by decide) (by decide) (a2 := 18) (i2 := 0) rfl gw_158 dX4_keepToken_13 ?_
    refine lv_aload_n hx hb dX4_keepToken_16 rfl (lv_at hl 0 rfl) ?_
    refine u_geti C w hw (hP _ _ (isn_f rfl rfl (by decide))) rfl (N := 12) rfl rfl cin_4 3 (by decide) rfl gw_161 dX4_keepToken_17 ?_
    refine u_iv h (fun x3 h => ?_)
    refine lv_iload_n hx hb dX4_keepToken_20 rfl (lv_at hl 1 rfl) ?_
    obtain ⟨g4, h⟩ := gd_some h
    refine u_iast C w hw (hP _ _ (isn_f rfl rfl (by decide))) rfl rfl (n := 300) rfl (vp_in_iff.mpr g4) dX4_keepToken_21 (fun f H locs w hw hk1 => ?_)
    have hk := hk.tr hk1
    refine u_sv h hw hn (fun S5 h hw hn => ?_)
    refine lv_aload_n hx hb dX4_keepToken_22 rfl (lv_at hl 0 rfl) ?_
    refine u_getr C w hw (hP _ _ (isn_f rfl rfl (by decide))) rfl (N := 12) rfl rfl cin_4 1 (by decide) (by decide) (a2 := 19) (i2 := 0) rfl gw_159 dX4_keepToken_23 ?_
    refine lv_aload_n hx hb dX4_keepToken_26 rfl (lv_at hl 0 rfl) ?_
    refine u_geti C w hw (hP _ _ (isn_f rfl rfl (by decide))) rfl (N := 12) rfl rfl cin_4 3 (by decide) rfl gw_161 dX4_keepToken_27 ?_
    refine u_iv h (fun x6 h => ?_)
    refine lv_iload_n hx hb dX4_keepToken_30 rfl (lv_at hl 2 rfl) ?_
    obtain ⟨g7, h⟩ := gd_some h
    refine u_iast C w hw (hP _ _ (isn_f rfl rfl (by decide))) rfl rfl (n := 300) rfl (vp_in_iff.mpr g7) dX4_keepToken_31 (fun f H locs w hw hk1 => ?_)
    have hk := hk.tr hk1
    refine u_sv h hw hn (fun S8 h hw hn => ?_)
    refine lv_aload_n hx hb dX4_keepToken_32 rfl (lv_at hl 0 rfl) ?_
    refine u_getr C w hw (hP _ _ (isn_f rfl rfl (by decide))) rfl (N := 12) rfl rfl cin_4 2 (by decide) (by decide) (a2 := 20) (i2 := 0) rfl gw_160 dX4_keepToken_33 ?_
    refine lv_aload_n hx hb dX4_keepToken_36 rfl (lv_at hl 0 rfl) ?_
    refine u_geti C w hw (hP _ _ (isn_f rfl rfl (by decide))) rfl (N := 12) rfl rfl cin_4 3 (by decide) rfl gw_161 dX4_keepToken_37 ?_
    refine u_iv h (fun x9 h => ?_)
    refine lv_iload_n hx hb dX4_keepToken_40 rfl (lv_at hl 3 rfl) ?_
    obtain ⟨g10, h⟩ := gd_some h
    refine u_iast C w hw (hP _ _ (isn_f rfl rfl (by decide))) rfl rfl (n := 300) rfl (vp_in_iff.mpr g10) dX4_keepToken_41 (fun f H locs w hw hk1 => ?_)
    have hk := hk.tr hk1
    refine u_sv h hw hn (fun S11 h hw hn => ?_)
    refine lv_aload_n hx hb dX4_keepToken_42 rfl (lv_at hl 0 rfl) ?_
    refine lv_dup hx hb dX4_keepToken_43 rfl ?_
    refine u_geti C w hw (hP _ _ (isn_f rfl rfl (by decide))) rfl (N := 12) rfl rfl cin_4 3 (by decide) rfl gw_161 dX4_keepToken_44 ?_
    refine u_iv h (fun x12 h => ?_)
    refine lv_iconst (v := 1) hx hb dX4_keepToken_47 (by decide) ?_
    refine lv_iadd hx hb dX4_keepToken_48 ?_
    refine u_iv h (fun x13 h => ?_)
    refine u_puti C w hw (hP _ _ (isn_f rfl rfl (by decide))) rfl (N := 12) rfl rfl cin_4 tyX4 tyX4_ok nmX4 3 (by decide) rfl rfl rfl rfl gw_161 dX4_keepToken_49 (fun f H locs w hw hk1 => ?_)
    have hk := hk.tr hk1
    refine u_sv h hw hn (fun S14 h hw hn => ?_)
    exact t_vret C hr hlk w ⟨_, rfl, rfl, so_w h hw, so_n h hn, hk⟩ (by decide) (by decide) dX4_keepToken_52
theorem dX4_here_0 : decode cX4_here 0 = .ok (.aload_n 0, 1) := by decide +kernel
theorem dX4_here_1 : decode cX4_here 1 = .ok (.getfield 25, 3) := by decide +kernel
theorem dX4_here_4 : decode cX4_here 4 = .ok (.ifCond .lt 26, 3) := by decide +kernel
theorem dX4_here_7 : decode cX4_here 7 = .ok (.aload_n 0, 1) := by decide +kernel
theorem dX4_here_8 : decode cX4_here 8 = .ok (.getfield 25, 3) := by decide +kernel
theorem dX4_here_11 : decode cX4_here 11 = .ok (.aload_n 0, 1) := by decide +kernel
theorem dX4_here_12 : decode cX4_here 12 = .ok (.getfield 21, 3) := by decide +kernel
theorem dX4_here_15 : decode cX4_here 15 = .ok (.if_icmp .ge 15, 3) := by decide +kernel
theorem dX4_here_18 : decode cX4_here 18 = .ok (.aload_n 0, 1) := by decide +kernel
theorem dX4_here_19 : decode cX4_here 19 = .ok (.getfield 9, 3) := by decide +kernel
theorem dX4_here_22 : decode cX4_here 22 = .ok (.aload_n 0, 1) := by decide +kernel
theorem dX4_here_23 : decode cX4_here 23 = .ok (.getfield 25, 3) := by decide +kernel
theorem dX4_here_26 : decode cX4_here 26 = .ok (.iaload, 1) := by decide +kernel
theorem dX4_here_27 : decode cX4_here 27 = .ok (.goto 6, 3) := by decide +kernel
theorem dX4_here_30 : decode cX4_here 30 = .ok (.sipush 256, 3) := by decide +kernel
theorem dX4_here_33 : decode cX4_here 33 = .ok (.ireturn, 1) := by decide +kernel
noncomputable def F_X4_here  (S0 : fS) : Option (Int32 × fS) := iv (ge S0 17 0 4) (fun x1 => bb (x1 < (0 : Int32)) (some (256, S0)) (iv (ge S0 17 0 4) (fun x3 => iv (ge S0 17 0 3) (fun x4 => bb (x4 ≤ x3) (some (256, S0)) (iv (ge S0 17 0 4) (fun x6 => gd (ib x6 300) (iv (ge S0 18 0 (x6 : Int32).toNatClampNeg) (fun x8 => some (x8, S0)))))))))
set_option maxHeartbeats 4000000 in
set_option maxRecDepth 100000 in
theorem c_X4_here (l : Launch) (D : va_G) (K : Nat → ClassId) (b0 : Nat) (sa : sT) (sz : Nat) (L : List Nat) (f0 : Nat → va_E) (ad : Nat → Nat → Nat) (P : Nat → Nat → Prop) {n : Nat × Nat} (hP : ∀ a i : Nat, isn n a i → P a i) (S0 : fS) (hw : PW K ad P S0 L f0) (hn : S0.2.2.1 = n)  (v : Int32) (S1 : fS) (h : F_X4_here  S0 = some (v, S1)) : Met l yX4_here (.code yX4_here cX4_here 1 (some .int) :: gt) { frames := 0, cells := 0, slots := 0, locals := 0 } (va_Pc [.ref (ad 17 0)] (hPre D K b0 sa sz L f0)) (hQ D K b0 (fun v9 u9 => ∃ f2 : Nat → va_E, v9 = some (.int v) ∧ u9 = lU L f2 ∧ PW K ad P S1 L f2 ∧ S1.2.2.1 = n ∧ Kp ad P L f0 f2)) 0 0 (fun q => b0 ≤ q) := by
  refine t_of (own := RX4) (by decide) rfl ?_ (Nat.le_of_ble_eq_true rfl)
  intro p e s m below meth c ls C w hsz hr hlk hnm hl
  have hx := C.1
  have hb := C.2.1
  have hl : lv_has ls 1 [(0, .ref (ad 17 0))] := hl
  dsimp only [F_X4_here] at h
  obtain ⟨f, ef⟩ : ∃ z, z = f0 := ⟨_, rfl⟩
  rw [← ef] at w hw
  have hk : Kp ad P L f0 f := by rw [ef]; exact Kp.rf
  obtain ⟨H, eH⟩ : ∃ z, z = s.heap := ⟨_, rfl⟩
  obtain ⟨locs, el⟩ : ∃ z : List Loc, z = [] := ⟨_, rfl⟩
  rw [← eH, ← el] at w ⊢
  refine lv_aload_n hx hb dX4_here_0 rfl (lv_at hl 0 rfl) ?_
  refine u_geti C w hw (hP _ _ (isn_f rfl rfl (by decide))) rfl (N := 12) rfl rfl cin_4 4 (by decide) rfl gw_162 dX4_here_1 ?_
  refine u_iv h (fun x1 h => ?_)
  refine lv_if_lt (tgt := 30) hx hb dX4_here_4 (by decide) (fun c2 => ?_) (fun c2 => ?_)
  · have h := bb_t h c2
    refine lv_sipush (v := 256) hx hb dX4_here_30 (by decide) ?_
    exact t_iret C hr hlk w ⟨_, so_v h, rfl, so_w h hw, so_n h hn, hk⟩ (by decide) (by decide) dX4_here_33
  · have h := bb_f h c2
    refine lv_aload_n hx hb dX4_here_7 rfl (lv_at hl 0 rfl) ?_
    refine u_geti C w hw (hP _ _ (isn_f rfl rfl (by decide))) rfl (N := 12) rfl rfl cin_4 4 (by decide) rfl gw_162 dX4_here_8 ?_
    refine u_iv h (fun x3 h => ?_)
    refine lv_aload_n hx hb dX4_here_11 rfl (lv_at hl 0 rfl) ?_
    refine u_geti C w hw (hP _ _ (isn_f rfl rfl (by decide))) rfl (N := 12) rfl rfl cin_4 3 (by decide) rfl gw_161 dX4_here_12 ?_
    refine u_iv h (fun x4 h => ?_)
    refine lv_icmp_ge (tgt := 30) hx hb dX4_here_15 (by decide) (fun c5 => ?_) (fun c5 => ?_)
    · have h := bb_t h c5
      refine lv_sipush (v := 256) hx hb dX4_here_30 (by decide) ?_
      exact t_iret C hr hlk w ⟨_, so_v h, rfl, so_w h hw, so_n h hn, hk⟩ (by decide) (by decide) dX4_here_33
    · have h := bb_f h c5
      refine lv_aload_n hx hb dX4_here_18 rfl (lv_at hl 0 rfl) ?_
      refine u_getr C w hw (hP _ _ (isn_f rfl rfl (by decide))) rfl (N := 12) rfl rfl cin_4 0 (by decide) (by decide) (a2 := 18) (i2 := 0) rfl gw_158 dX4_here_19 ?_
      refine lv_aload_n hx hb dX4_here_22 rfl (lv_at hl 0 rfl) ?_
      refine u_geti C w hw (hP _ _ (isn_f rfl rfl (by decide))) rfl (N := 12) rfl rfl cin_4 4 (by decide) rfl gw_162 dX4_here_23 ?_
      refine u_iv h (fun x6 h => ?_)
      obtain ⟨g7, h⟩ := gd_some h
      refine u_iald C w hw (hP _ _ (isn_f rfl rfl (by decide))) rfl rfl (n := 300) rfl (vp_in_iff.mpr g7) dX4_here_26 ?_
      refine u_iv h (fun x8 h => ?_)
      refine lv_goto (tgt := 33) hx hb dX4_here_27 (by decide) ?_
      exact t_iret C hr hlk w ⟨_, so_v h, rfl, so_w h hw, so_n h hn, hk⟩ (by decide) (by decide) dX4_here_33
theorem dX4_fail_0 : decode cX4_fail 0 = .ok (.aload_n 0, 1) := by decide +kernel
theorem dX4_fail_1 : decode cX4_fail 1 = .ok (.iload_n 1, 1) := by decide +kernel
theorem dX4_fail_2 : decode cX4_fail 2 = .ok (.putfield 44, 3) := by decide +kernel
theorem dX4_fail_5 : decode cX4_fail 5 = .ok (.aload_n 0, 1) := by decide +kernel
theorem dX4_fail_6 : decode cX4_fail 6 = .ok (.aload_n 0, 1) := by decide +kernel
theorem dX4_fail_7 : decode cX4_fail 7 = .ok (.getfield 25, 3) := by decide +kernel
theorem dX4_fail_10 : decode cX4_fail 10 = .ok (.ifCond .lt 26, 3) := by decide +kernel
theorem dX4_fail_13 : decode cX4_fail 13 = .ok (.aload_n 0, 1) := by decide +kernel
theorem dX4_fail_14 : decode cX4_fail 14 = .ok (.getfield 25, 3) := by decide +kernel
theorem dX4_fail_17 : decode cX4_fail 17 = .ok (.aload_n 0, 1) := by decide +kernel
theorem dX4_fail_18 : decode cX4_fail 18 = .ok (.getfield 21, 3) := by decide +kernel
theorem dX4_fail_21 : decode cX4_fail 21 = .ok (.if_icmp .ge 15, 3) := by decide +kernel
theorem dX4_fail_24 : decode cX4_fail 24 = .ok (.aload_n 0, 1) := by decide +kernel
theorem dX4_fail_25 : decode cX4_fail 25 = .ok (.getfield 15, 3) := by decide +kernel
theorem dX4_fail_28 : decode cX4_fail 28 = .ok (.aload_n 0, 1) := by decide +kernel
theorem dX4_fail_29 : decode cX4_fail 29 = .ok (.getfield 25, 3) := by decide +kernel
theorem dX4_fail_32 : decode cX4_fail 32 = .ok (.iaload, 1) := by decide +kernel
theorem dX4_fail_33 : decode cX4_fail 33 = .ok (.goto 7, 3) := by decide +kernel
theorem dX4_fail_36 : decode cX4_fail 36 = .ok (.aload_n 0, 1) := by decide +kernel
theorem dX4_fail_37 : decode cX4_fail 37 = .ok (.getfield 28, 3) := by decide +kernel
theorem dX4_fail_40 : decode cX4_fail 40 = .ok (.putfield 47, 3) := by decide +kernel
theorem dX4_fail_43 : decode cX4_fail 43 = .ok (.iconst 0, 1) := by decide +kernel
theorem dX4_fail_44 : decode cX4_fail 44 = .ok (.ireturn, 1) := by decide +kernel
noncomputable def B_X4_fail_40 (t0 : Int32) (S : fS) : Option (Int32 × fS) := sv (pu S 17 0 11 t0) (fun S1 => some (0, S1))
noncomputable def B_X4_fail_36 (S : fS) : Option (Int32 × fS) := iv (ge S 17 0 5) (fun x2 => B_X4_fail_40  x2 S)
noncomputable def F_X4_fail (p1 : Int32) (S0 : fS) : Option (Int32 × fS) := sv (pu S0 17 0 10 p1) (fun S3 => iv (ge S3 17 0 4) (fun x4 => bb (x4 < (0 : Int32)) (B_X4_fail_36   S3) (iv (ge S3 17 0 4) (fun x6 => iv (ge S3 17 0 3) (fun x7 => bb (x7 ≤ x6) (B_X4_fail_36   S3) (iv (ge S3 17 0 4) (fun x9 => gd (ib x9 300) (iv (ge S3 19 0 (x9 : Int32).toNatClampNeg) (fun x11 => B_X4_fail_40  x11 S3)))))))))
set_option maxHeartbeats 4000000 in
set_option maxRecDepth 100000 in
theorem c_X4_fail (l : Launch) (D : va_G) (K : Nat → ClassId) (b0 : Nat) (sa : sT) (sz : Nat) (L : List Nat) (f0 : Nat → va_E) (ad : Nat → Nat → Nat) (P : Nat → Nat → Prop) {n : Nat × Nat} (hP : ∀ a i : Nat, isn n a i → P a i) (S0 : fS) (hw : PW K ad P S0 L f0) (hn : S0.2.2.1 = n) (p1 : Int32) (v : Int32) (S1 : fS) (h : F_X4_fail p1 S0 = some (v, S1)) : Met l yX4_fail (.code yX4_fail cX4_fail 2 (some .boolean) :: gt) { frames := 0, cells := 0, slots := 0, locals := 0 } (va_Pc [.ref (ad 17 0), .int p1] (hPre D K b0 sa sz L f0)) (hQ D K b0 (fun v9 u9 => ∃ f2 : Nat → va_E, v9 = some (.int v) ∧ u9 = lU L f2 ∧ PW K ad P S1 L f2 ∧ S1.2.2.1 = n ∧ Kp ad P L f0 f2)) 0 0 (fun q => b0 ≤ q) := by
  refine t_of (own := RX4) (by decide) rfl ?_ (Nat.le_of_ble_eq_true rfl)
  intro p e s m below meth c ls C w hsz hr hlk hnm hl
  have hx := C.1
  have hb := C.2.1
  have hl : lv_has ls 2 [(0, .ref (ad 17 0)), (1, .int p1)] := hl
  have J40 : ∀ (t0 : Int32) (S : fS), B_X4_fail_40  t0 S = some (v, S1) → Gw D K b0 sa ad P n L f0 p l e { frames := 0, cells := 0, slots := 0, locals := 0 } s m [.ref (ad 17 0), .int p1].toArray below meth c 2 (MQ below (hQ D K b0 (fun v9 u9 => ∃ f2 : Nat → va_E, v9 = some (.int v) ∧ u9 = lU L f2 ∧ PW K ad P S1 L f2 ∧ S1.2.2.1 = n ∧ Kp ad P L f0 f2)) [.ref (ad 17 0), .int p1].toArray s 0 0 (fun q => b0 ≤ q)) 0 0 40 [] [.int t0, .ref (ad 17 0)] S := by
    intro t0 S h
    dsimp only [B_X4_fail_40] at h
    intro f H locs w hw hn hk ls hl
    refine u_puti C w hw (hP _ _ (isn_f rfl rfl (by decide))) rfl (N := 12) rfl rfl cin_4 tyX4 tyX4_ok nmX4 11 (by decide) rfl rfl rfl rfl gw_170 dX4_fail_40 (fun f H locs w hw hk1 => ?_)
    have hk := hk.tr hk1
    refine u_sv h hw hn (fun S1 h hw hn => ?_)
    refine lv_iconst (v := 0) hx hb dX4_fail_43 (by decide) ?_
    exact t_zret C hr hlk w (by decide) ⟨_, so_v h, rfl, so_w h hw, so_n h hn, hk⟩ (by decide) (by decide) dX4_fail_44
  have J36 : ∀ (S : fS), B_X4_fail_36   S = some (v, S1) → Gw D K b0 sa ad P n L f0 p l e { frames := 0, cells := 0, slots := 0, locals := 0 } s m [.ref (ad 17 0), .int p1].toArray below meth c 2 (MQ below (hQ D K b0 (fun v9 u9 => ∃ f2 : Nat → va_E, v9 = some (.int v) ∧ u9 = lU L f2 ∧ PW K ad P S1 L f2 ∧ S1.2.2.1 = n ∧ Kp ad P L f0 f2)) [.ref (ad 17 0), .int p1].toArray s 0 0 (fun q => b0 ≤ q)) 0 0 36 [(0, .ref (ad 17 0))] [.ref (ad 17 0)] S := by
    intro S h
    dsimp only [B_X4_fail_36] at h
    intro f H locs w hw hn hk ls hl
    refine lv_aload_n hx hb dX4_fail_36 rfl (lv_at hl 0 rfl) ?_
    refine u_geti C w hw (hP _ _ (isn_f rfl rfl (by decide))) rfl (N := 12) rfl rfl cin_4 5 (by decide) rfl gw_163 dX4_fail_37 ?_
    refine u_iv h (fun x2 h => ?_)
    exact J40  x2 S h f H locs w hw hn hk ls (lv_sub hl [] rfl)
  dsimp only [F_X4_fail] at h
  obtain ⟨f, ef⟩ : ∃ z, z = f0 := ⟨_, rfl⟩
  rw [← ef] at w hw
  have hk : Kp ad P L f0 f := by rw [ef]; exact Kp.rf
  obtain ⟨H, eH⟩ : ∃ z, z = s.heap := ⟨_, rfl⟩
  obtain ⟨locs, el⟩ : ∃ z : List Loc, z = [] := ⟨_, rfl⟩
  rw [← eH, ← el] at w ⊢
  refine lv_aload_n hx hb dX4_fail_0 rfl (lv_at hl 0 rfl) ?_
  refine lv_iload_n hx hb dX4_fail_1 rfl (lv_at hl 1 rfl) ?_
  refine u_puti C w hw (hP _ _ (isn_f rfl rfl (by decide))) rfl (N := 12) rfl rfl cin_4 tyX4 tyX4_ok nmX4 10 (by decide) rfl rfl rfl rfl gw_168 dX4_fail_2 (fun f H locs w hw hk1 => ?_)
  have hk := hk.tr hk1
  refine u_sv h hw hn (fun S3 h hw hn => ?_)
  refine lv_aload_n hx hb dX4_fail_5 rfl (lv_at hl 0 rfl) ?_
  refine lv_aload_n hx hb dX4_fail_6 rfl (lv_at hl 0 rfl) ?_
  refine u_geti C w hw (hP _ _ (isn_f rfl rfl (by decide))) rfl (N := 12) rfl rfl cin_4 4 (by decide) rfl gw_162 dX4_fail_7 ?_
  refine u_iv h (fun x4 h => ?_)
  refine lv_if_lt (tgt := 36) hx hb dX4_fail_10 (by decide) (fun c5 => ?_) (fun c5 => ?_)
  · have h := bb_t h c5
    exact J36   S3 h f H locs w hw hn hk ls (lv_sub hl [0] rfl)
  · have h := bb_f h c5
    refine lv_aload_n hx hb dX4_fail_13 rfl (lv_at hl 0 rfl) ?_
    refine u_geti C w hw (hP _ _ (isn_f rfl rfl (by decide))) rfl (N := 12) rfl rfl cin_4 4 (by decide) rfl gw_162 dX4_fail_14 ?_
    refine u_iv h (fun x6 h => ?_)
    refine lv_aload_n hx hb dX4_fail_17 rfl (lv_at hl 0 rfl) ?_
    refine u_geti C w hw (hP _ _ (isn_f rfl rfl (by decide))) rfl (N := 12) rfl rfl cin_4 3 (by decide) rfl gw_161 dX4_fail_18 ?_
    refine u_iv h (fun x7 h => ?_)
    refine lv_icmp_ge (tgt := 36) hx hb dX4_fail_21 (by decide) (fun c8 => ?_) (fun c8 => ?_)
    · have h := bb_t h c8
      exact J36   S3 h f H locs w hw hn hk ls (lv_sub hl [0] rfl)
    · have h := bb_f h c8
      refine lv_aload_n hx hb dX4_fail_24 rfl (lv_at hl 0 rfl) ?_
      refine u_getr C w hw (hP _ _ (isn_f rfl rfl (by decide))) rfl (N := 12) rfl rfl cin_4 1 (by decide) (by decide) (a2 := 19) (i2 := 0) rfl gw_159 dX4_fail_25 ?_
      refine lv_aload_n hx hb dX4_fail_28 rfl (lv_at hl 0 rfl) ?_
      refine u_geti C w hw (hP _ _ (isn_f rfl rfl (by decide))) rfl (N := 12) rfl rfl cin_4 4 (by decide) rfl gw_162 dX4_fail_29 ?_
      refine u_iv h (fun x9 h => ?_)
      obtain ⟨g10, h⟩ := gd_some h
      refine u_iald C w hw (hP _ _ (isn_f rfl rfl (by decide))) rfl rfl (n := 300) rfl (vp_in_iff.mpr g10) dX4_fail_32 ?_
      refine u_iv h (fun x11 h => ?_)
      refine lv_goto (tgt := 40) hx hb dX4_fail_33 (by decide) ?_
      exact J40  x11 S3 h f H locs w hw hn hk ls (lv_sub hl [] rfl)
theorem dX4_emit_0 : decode cX4_emit 0 = .ok (.aload_n 0, 1) := by decide +kernel
theorem dX4_emit_1 : decode cX4_emit 1 = .ok (.getfield 34, 3) := by decide +kernel
theorem dX4_emit_4 : decode cX4_emit 4 = .ok (.aload_n 0, 1) := by decide +kernel
theorem dX4_emit_5 : decode cX4_emit 5 = .ok (.getfield 31, 3) := by decide +kernel
theorem dX4_emit_8 : decode cX4_emit 8 = .ok (.arraylength, 1) := by decide +kernel
theorem dX4_emit_9 : decode cX4_emit 9 = .ok (.if_icmp .ge 23, 3) := by decide +kernel
theorem dX4_emit_12 : decode cX4_emit 12 = .ok (.aload_n 0, 1) := by decide +kernel
theorem dX4_emit_13 : decode cX4_emit 13 = .ok (.getfield 31, 3) := by decide +kernel
theorem dX4_emit_16 : decode cX4_emit 16 = .ok (.aload_n 0, 1) := by decide +kernel
theorem dX4_emit_17 : decode cX4_emit 17 = .ok (.getfield 34, 3) := by decide +kernel
theorem dX4_emit_20 : decode cX4_emit 20 = .ok (.iload_n 1, 1) := by decide +kernel
theorem dX4_emit_21 : decode cX4_emit 21 = .ok (.iastore, 1) := by decide +kernel
theorem dX4_emit_22 : decode cX4_emit 22 = .ok (.aload_n 0, 1) := by decide +kernel
theorem dX4_emit_23 : decode cX4_emit 23 = .ok (.dup, 1) := by decide +kernel
theorem dX4_emit_24 : decode cX4_emit 24 = .ok (.getfield 34, 3) := by decide +kernel
theorem dX4_emit_27 : decode cX4_emit 27 = .ok (.iconst 1, 1) := by decide +kernel
theorem dX4_emit_28 : decode cX4_emit 28 = .ok (.iadd, 1) := by decide +kernel
theorem dX4_emit_29 : decode cX4_emit 29 = .ok (.putfield 34, 3) := by decide +kernel
theorem dX4_emit_32 : decode cX4_emit 32 = .ok (.return_, 1) := by decide +kernel
noncomputable def F_X4_emit (p1 : Int32) (S0 : fS) : Option (Int32 × fS) := iv (ge S0 17 0 7) (fun x1 => bb ((300 : Int32) ≤ x1) (some (0, S0)) (iv (ge S0 17 0 7) (fun x3 => gd (ib x3 300) (sv (pu S0 21 0 (x3 : Int32).toNatClampNeg p1) (fun S5 => iv (ge S5 17 0 7) (fun x6 => iv (x6 + (1 : Int32)) (fun x7 => sv (pu S5 17 0 7 x7) (fun S8 => some (0, S8)))))))))
set_option maxHeartbeats 4000000 in
set_option maxRecDepth 100000 in
theorem c_X4_emit (l : Launch) (D : va_G) (K : Nat → ClassId) (b0 : Nat) (sa : sT) (sz : Nat) (L : List Nat) (f0 : Nat → va_E) (ad : Nat → Nat → Nat) (P : Nat → Nat → Prop) {n : Nat × Nat} (hP : ∀ a i : Nat, isn n a i → P a i) (S0 : fS) (hw : PW K ad P S0 L f0) (hn : S0.2.2.1 = n) (p1 : Int32) (v : Int32) (S1 : fS) (h : F_X4_emit p1 S0 = some (v, S1)) : Met l yX4_emit (.code yX4_emit cX4_emit 2 none :: gt) { frames := 0, cells := 0, slots := 0, locals := 0 } (va_Pc [.ref (ad 17 0), .int p1] (hPre D K b0 sa sz L f0)) (hQ D K b0 (fun v9 u9 => ∃ f2 : Nat → va_E, v9 = none ∧ u9 = lU L f2 ∧ PW K ad P S1 L f2 ∧ S1.2.2.1 = n ∧ Kp ad P L f0 f2)) 0 0 (fun q => b0 ≤ q) := by
  refine t_of (own := RX4) (by decide) rfl ?_ (Nat.le_of_ble_eq_true rfl)
  intro p e s m below meth c ls C w hsz hr hlk hnm hl
  have hx := C.1
  have hb := C.2.1
  have hl : lv_has ls 2 [(0, .ref (ad 17 0)), (1, .int p1)] := hl
  dsimp only [F_X4_emit] at h
  obtain ⟨f, ef⟩ : ∃ z, z = f0 := ⟨_, rfl⟩
  rw [← ef] at w hw
  have hk : Kp ad P L f0 f := by rw [ef]; exact Kp.rf
  obtain ⟨H, eH⟩ : ∃ z, z = s.heap := ⟨_, rfl⟩
  obtain ⟨locs, el⟩ : ∃ z : List Loc, z = [] := ⟨_, rfl⟩
  rw [← eH, ← el] at w ⊢
  refine lv_aload_n hx hb dX4_emit_0 rfl (lv_at hl 0 rfl) ?_
  refine u_geti C w hw (hP _ _ (isn_f rfl rfl (by decide))) rfl (N := 12) rfl rfl cin_4 7 (by decide) rfl gw_165 dX4_emit_1 ?_
  refine u_iv h (fun x1 h => ?_)
  refine lv_aload_n hx hb dX4_emit_4 rfl (lv_at hl 0 rfl) ?_
  refine u_getr C w hw (hP _ _ (isn_f rfl rfl (by decide))) rfl (N := 12) rfl rfl cin_4 6 (by decide) (by decide) (a2 := 21) (i2 := 0) rfl gw_164 dX4_emit_5 ?_
  refine u_alen C w hw (hP _ _ (isn_f rfl rfl (by decide))) rfl rfl (v := 300) rfl dX4_emit_8 ?_
  refine lv_icmp_ge (tgt := 32) hx hb dX4_emit_9 (by decide) (fun c2 => ?_) (fun c2 => ?_)
  · have h := bb_t h c2
    exact t_vret C hr hlk w ⟨_, rfl, rfl, so_w h hw, so_n h hn, hk⟩ (by decide) (by decide) dX4_emit_32
  · have h := bb_f h c2
    refine lv_aload_n hx hb dX4_emit_12 rfl (lv_at hl 0 rfl) ?_
    refine u_getr C w hw (hP _ _ (isn_f rfl rfl (by decide))) rfl (N := 12) rfl rfl cin_4 6 (by decide) (by decide) (a2 := 21) (i2 := 0) rfl gw_164 dX4_emit_13 ?_
    refine lv_aload_n hx hb dX4_emit_16 rfl (lv_at hl 0 rfl) ?_
    refine u_geti C w hw (hP _ _ (isn_f rfl rfl (by decide))) rfl (N := 12) rfl rfl cin_4 7 (by decide) rfl gw_165 dX4_emit_17 ?_
    refine u_iv h (fun x3 h => ?_)
    refine lv_iload_n hx hb dX4_emit_20 rfl (lv_at hl 1 rfl) ?_
    obtain ⟨g4, h⟩ := gd_some h
    refine u_iast C w hw (hP _ _ (isn_f rfl rfl (by decide))) rfl rfl (n := 300) rfl (vp_in_iff.mpr g4) dX4_emit_21 (fun f H locs w hw hk1 => ?_)
    have hk := hk.tr hk1
    refine u_sv h hw hn (fun S5 h hw hn => ?_)
    refine lv_aload_n hx hb dX4_emit_22 rfl (lv_at hl 0 rfl) ?_
    refine lv_dup hx hb dX4_emit_23 rfl ?_
    refine u_geti C w hw (hP _ _ (isn_f rfl rfl (by decide))) rfl (N := 12) rfl rfl cin_4 7 (by decide) rfl gw_165 dX4_emit_24 ?_
    refine u_iv h (fun x6 h => ?_)
    refine lv_iconst (v := 1) hx hb dX4_emit_27 (by decide) ?_
    refine lv_iadd hx hb dX4_emit_28 ?_
    refine u_iv h (fun x7 h => ?_)
    refine u_puti C w hw (hP _ _ (isn_f rfl rfl (by decide))) rfl (N := 12) rfl rfl cin_4 tyX4 tyX4_ok nmX4 7 (by decide) rfl rfl rfl rfl gw_165 dX4_emit_29 (fun f H locs w hw hk1 => ?_)
    have hk := hk.tr hk1
    refine u_sv h hw hn (fun S8 h hw hn => ?_)
    exact t_vret C hr hlk w ⟨_, rfl, rfl, so_w h hw, so_n h hn, hk⟩ (by decide) (by decide) dX4_emit_32
theorem dX4_number_0 : decode cX4_number 0 = .ok (.aload_n 0, 1) := by decide +kernel
theorem dX4_number_1 : decode cX4_number 1 = .ok (.getfield 25, 3) := by decide +kernel
theorem dX4_number_4 : decode cX4_number 4 = .ok (.ifCond .lt 26, 3) := by decide +kernel
theorem dX4_number_7 : decode cX4_number 7 = .ok (.aload_n 0, 1) := by decide +kernel
theorem dX4_number_8 : decode cX4_number 8 = .ok (.getfield 25, 3) := by decide +kernel
theorem dX4_number_11 : decode cX4_number 11 = .ok (.aload_n 0, 1) := by decide +kernel
theorem dX4_number_12 : decode cX4_number 12 = .ok (.getfield 21, 3) := by decide +kernel
theorem dX4_number_15 : decode cX4_number 15 = .ok (.if_icmp .ge 15, 3) := by decide +kernel
theorem dX4_number_18 : decode cX4_number 18 = .ok (.aload_n 0, 1) := by decide +kernel
theorem dX4_number_19 : decode cX4_number 19 = .ok (.getfield 18, 3) := by decide +kernel
theorem dX4_number_22 : decode cX4_number 22 = .ok (.aload_n 0, 1) := by decide +kernel
theorem dX4_number_23 : decode cX4_number 23 = .ok (.getfield 25, 3) := by decide +kernel
theorem dX4_number_26 : decode cX4_number 26 = .ok (.iaload, 1) := by decide +kernel
theorem dX4_number_27 : decode cX4_number 27 = .ok (.goto 4, 3) := by decide +kernel
theorem dX4_number_30 : decode cX4_number 30 = .ok (.iconst 0, 1) := by decide +kernel
theorem dX4_number_31 : decode cX4_number 31 = .ok (.istore_n 1, 1) := by decide +kernel
theorem dX4_number_32 : decode cX4_number 32 = .ok (.iload_n 1, 1) := by decide +kernel
theorem dX4_number_33 : decode cX4_number 33 = .ok (.sipush 999, 3) := by decide +kernel
theorem dX4_number_36 : decode cX4_number 36 = .ok (.if_icmp .le 9, 3) := by decide +kernel
theorem dX4_number_39 : decode cX4_number 39 = .ok (.aload_n 0, 1) := by decide +kernel
theorem dX4_number_40 : decode cX4_number 40 = .ok (.iconst 2, 1) := by decide +kernel
theorem dX4_number_41 : decode cX4_number 41 = .ok (.invokevirtual 69, 3) := by decide +kernel
theorem dX4_number_44 : decode cX4_number 44 = .ok (.ireturn, 1) := by decide +kernel
theorem dX4_number_45 : decode cX4_number 45 = .ok (.aload_n 0, 1) := by decide +kernel
theorem dX4_number_46 : decode cX4_number 46 = .ok (.iload_n 1, 1) := by decide +kernel
theorem dX4_number_47 : decode cX4_number 47 = .ok (.invokevirtual 159, 3) := by decide +kernel
theorem dX4_number_50 : decode cX4_number 50 = .ok (.aload_n 0, 1) := by decide +kernel
theorem dX4_number_51 : decode cX4_number 51 = .ok (.dup, 1) := by decide +kernel
theorem dX4_number_52 : decode cX4_number 52 = .ok (.getfield 25, 3) := by decide +kernel
theorem dX4_number_55 : decode cX4_number 55 = .ok (.iconst 1, 1) := by decide +kernel
theorem dX4_number_56 : decode cX4_number 56 = .ok (.iadd, 1) := by decide +kernel
theorem dX4_number_57 : decode cX4_number 57 = .ok (.putfield 25, 3) := by decide +kernel
theorem dX4_number_60 : decode cX4_number 60 = .ok (.iconst 1, 1) := by decide +kernel
theorem dX4_number_61 : decode cX4_number 61 = .ok (.ireturn, 1) := by decide +kernel
noncomputable def B_X4_number_31 (t0 : Int32) (S : fS) : Option (Int32 × fS) := bb (t0 ≤ (999 : Int32)) (bd (F_X4_emit t0 S) (fun v2 S3 => iv (ge S3 17 0 4) (fun x5 => iv (x5 + (1 : Int32)) (fun x6 => sv (pu S3 17 0 4 x6) (fun S7 => some (1, S7)))))) (bd (F_X4_fail 2 S) (fun v8 S9 => gd (v8 = 0 ∨ v8 = 1) (some (v8, S9))))
noncomputable def B_X4_number_30 (S : fS) : Option (Int32 × fS) := B_X4_number_31  0 S
noncomputable def F_X4_number  (S0 : fS) : Option (Int32 × fS) := iv (ge S0 17 0 4) (fun x12 => bb (x12 < (0 : Int32)) (B_X4_number_30   S0) (iv (ge S0 17 0 4) (fun x14 => iv (ge S0 17 0 3) (fun x15 => bb (x15 ≤ x14) (B_X4_number_30   S0) (iv (ge S0 17 0 4) (fun x17 => gd (ib x17 300) (iv (ge S0 20 0 (x17 : Int32).toNatClampNeg) (fun x19 => B_X4_number_31  x19 S0))))))))
set_option maxHeartbeats 4000000 in
set_option maxRecDepth 100000 in
theorem c_X4_number (l : Launch) (D : va_G) (K : Nat → ClassId) (b0 : Nat) (sa : sT) (sz : Nat) (L : List Nat) (f0 : Nat → va_E) (ad : Nat → Nat → Nat) (P : Nat → Nat → Prop) {n : Nat × Nat} (hP : ∀ a i : Nat, isn n a i → P a i) (S0 : fS) (hw : PW K ad P S0 L f0) (hn : S0.2.2.1 = n)  (v : Int32) (S1 : fS) (h : F_X4_number  S0 = some (v, S1)) : Met l yX4_number (.code yX4_number cX4_number 2 (some .boolean) :: gt) { frames := 1, cells := 0, slots := 0, locals := 21 } (va_Pc [.ref (ad 17 0)] (hPre D K b0 sa sz L f0)) (hQ D K b0 (fun v9 u9 => ∃ f2 : Nat → va_E, v9 = some (.int v) ∧ u9 = lU L f2 ∧ PW K ad P S1 L f2 ∧ S1.2.2.1 = n ∧ Kp ad P L f0 f2)) 0 0 (fun q => b0 ≤ q) := by
  refine t_of (own := RX4) (by decide) rfl ?_ (Nat.le_of_ble_eq_true rfl)
  intro p e s m below meth c ls C w hsz hr hlk hnm hl
  have hx := C.1
  have hb := C.2.1
  have hl : lv_has ls 2 [(0, .ref (ad 17 0))] := hl
  have J31 : ∀ (t0 : Int32) (S : fS), B_X4_number_31  t0 S = some (v, S1) → Gw D K b0 sa ad P n L f0 p l e { frames := 1, cells := 0, slots := 0, locals := 21 } s m [.ref (ad 17 0)].toArray below meth c 2 (MQ below (hQ D K b0 (fun v9 u9 => ∃ f2 : Nat → va_E, v9 = some (.int v) ∧ u9 = lU L f2 ∧ PW K ad P S1 L f2 ∧ S1.2.2.1 = n ∧ Kp ad P L f0 f2)) [.ref (ad 17 0)].toArray s 0 0 (fun q => b0 ≤ q)) 0 0 31 [(0, .ref (ad 17 0))] [.int t0] S := by
    intro t0 S h
    dsimp only [B_X4_number_31] at h
    intro f H locs w hw hn hk ls hl
    refine lv_istore_n (lv' := [(1, .int t0), (0, .ref (ad 17 0))]) hx hb dX4_number_31 rfl hl (by decide) rfl (fun ls hl => ?_)
    refine lv_iload_n hx hb dX4_number_32 rfl (lv_at hl 0 rfl) ?_
    refine lv_sipush (v := 999) hx hb dX4_number_33 (by decide) ?_
    refine lv_icmp_le (tgt := 45) hx hb dX4_number_36 (by decide) (fun c1 => ?_) (fun c1 => ?_)
    · have h := bb_t h c1
      refine lv_aload_n hx hb dX4_number_45 rfl (lv_at hl 1 rfl) ?_
      refine lv_iload_n hx hb dX4_number_46 rfl (lv_at hl 0 rfl) ?_
      obtain ⟨v2, S3, h4, h⟩ := bd_some h
      refine u_callV (n := 1) C w hw (hP _ _ (isn_f rfl rfl (by decide))) rfl rfl rfl (c_X4_emit l D K b0 sa _ L _ ad P hP S hw hn t0 v2 S3 h4) gw_850 gw_847 gw_848 gw_849 gw_5 ⟨by decide, by decide, by decide +kernel⟩ rfl rfl ⟨by decide, by decide⟩ rfl hl.1 rfl (Nat.le_of_ble_eq_true rfl) dX4_number_47 ⟨Nat.le_of_ble_eq_true rfl, Nat.le_of_ble_eq_true rfl⟩ (fun v9 u H locs hp w => ?_)
      obtain ⟨f2, rfl, rfl, hw, hn, hk1⟩ := hp
      have hk := hk.tr hk1
      generalize f2 = f at w hw hk
      refine lv_aload_n hx hb dX4_number_50 rfl (lv_at hl 1 rfl) ?_
      refine lv_dup hx hb dX4_number_51 rfl ?_
      refine u_geti C w hw (hP _ _ (isn_f rfl rfl (by decide))) rfl (N := 12) rfl rfl cin_4 4 (by decide) rfl gw_162 dX4_number_52 ?_
      refine u_iv h (fun x5 h => ?_)
      refine lv_iconst (v := 1) hx hb dX4_number_55 (by decide) ?_
      refine lv_iadd hx hb dX4_number_56 ?_
      refine u_iv h (fun x6 h => ?_)
      refine u_puti C w hw (hP _ _ (isn_f rfl rfl (by decide))) rfl (N := 12) rfl rfl cin_4 tyX4 tyX4_ok nmX4 4 (by decide) rfl rfl rfl rfl gw_162 dX4_number_57 (fun f H locs w hw hk1 => ?_)
      have hk := hk.tr hk1
      refine u_sv h hw hn (fun S7 h hw hn => ?_)
      refine lv_iconst (v := 1) hx hb dX4_number_60 (by decide) ?_
      exact t_zret C hr hlk w (by decide) ⟨_, so_v h, rfl, so_w h hw, so_n h hn, hk⟩ (by decide) (by decide) dX4_number_61
    · have h := bb_f h c1
      refine lv_aload_n hx hb dX4_number_39 rfl (lv_at hl 1 rfl) ?_
      refine lv_iconst (v := 2) hx hb dX4_number_40 (by decide) ?_
      obtain ⟨v8, S9, h10, h⟩ := bd_some h
      refine u_callV (n := 1) C w hw (hP _ _ (isn_f rfl rfl (by decide))) rfl rfl rfl (c_X4_fail l D K b0 sa _ L _ ad P hP S hw hn 2 v8 S9 h10) gw_846 gw_843 gw_844 gw_845 gw_5 ⟨by decide, by decide, by decide +kernel⟩ rfl rfl ⟨by decide, by decide⟩ rfl hl.1 rfl (Nat.le_of_ble_eq_true rfl) dX4_number_41 ⟨Nat.le_of_ble_eq_true rfl, Nat.le_of_ble_eq_true rfl⟩ (fun v9 u H locs hp w => ?_)
      obtain ⟨f2, rfl, rfl, hw, hn, hk1⟩ := hp
      have hk := hk.tr hk1
      generalize f2 = f at w hw hk
      obtain ⟨g11, h⟩ := gd_some h
      exact t_zret C hr hlk w (narb g11) ⟨_, so_v h, rfl, so_w h hw, so_n h hn, hk⟩ (by decide) (by decide) dX4_number_44
  have J30 : ∀ (S : fS), B_X4_number_30   S = some (v, S1) → Gw D K b0 sa ad P n L f0 p l e { frames := 1, cells := 0, slots := 0, locals := 21 } s m [.ref (ad 17 0)].toArray below meth c 2 (MQ below (hQ D K b0 (fun v9 u9 => ∃ f2 : Nat → va_E, v9 = some (.int v) ∧ u9 = lU L f2 ∧ PW K ad P S1 L f2 ∧ S1.2.2.1 = n ∧ Kp ad P L f0 f2)) [.ref (ad 17 0)].toArray s 0 0 (fun q => b0 ≤ q)) 0 0 30 [(0, .ref (ad 17 0))] [] S := by
    intro S h
    dsimp only [B_X4_number_30] at h
    intro f H locs w hw hn hk ls hl
    refine lv_iconst (v := 0) hx hb dX4_number_30 (by decide) ?_
    exact J31  0 S h f H locs w hw hn hk ls (lv_sub hl [0] rfl)
  dsimp only [F_X4_number] at h
  obtain ⟨f, ef⟩ : ∃ z, z = f0 := ⟨_, rfl⟩
  rw [← ef] at w hw
  have hk : Kp ad P L f0 f := by rw [ef]; exact Kp.rf
  obtain ⟨H, eH⟩ : ∃ z, z = s.heap := ⟨_, rfl⟩
  obtain ⟨locs, el⟩ : ∃ z : List Loc, z = [] := ⟨_, rfl⟩
  rw [← eH, ← el] at w ⊢
  refine lv_aload_n hx hb dX4_number_0 rfl (lv_at hl 0 rfl) ?_
  refine u_geti C w hw (hP _ _ (isn_f rfl rfl (by decide))) rfl (N := 12) rfl rfl cin_4 4 (by decide) rfl gw_162 dX4_number_1 ?_
  refine u_iv h (fun x12 h => ?_)
  refine lv_if_lt (tgt := 30) hx hb dX4_number_4 (by decide) (fun c13 => ?_) (fun c13 => ?_)
  · have h := bb_t h c13
    exact J30   S0 h f H locs w hw hn hk ls (lv_sub hl [0] rfl)
  · have h := bb_f h c13
    refine lv_aload_n hx hb dX4_number_7 rfl (lv_at hl 0 rfl) ?_
    refine u_geti C w hw (hP _ _ (isn_f rfl rfl (by decide))) rfl (N := 12) rfl rfl cin_4 4 (by decide) rfl gw_162 dX4_number_8 ?_
    refine u_iv h (fun x14 h => ?_)
    refine lv_aload_n hx hb dX4_number_11 rfl (lv_at hl 0 rfl) ?_
    refine u_geti C w hw (hP _ _ (isn_f rfl rfl (by decide))) rfl (N := 12) rfl rfl cin_4 3 (by decide) rfl gw_161 dX4_number_12 ?_
    refine u_iv h (fun x15 h => ?_)
    refine lv_icmp_ge (tgt := 30) hx hb dX4_number_15 (by decide) (fun c16 => ?_) (fun c16 => ?_)
    · have h := bb_t h c16
      exact J30   S0 h f H locs w hw hn hk ls (lv_sub hl [0] rfl)
    · have h := bb_f h c16
      refine lv_aload_n hx hb dX4_number_18 rfl (lv_at hl 0 rfl) ?_
      refine u_getr C w hw (hP _ _ (isn_f rfl rfl (by decide))) rfl (N := 12) rfl rfl cin_4 2 (by decide) (by decide) (a2 := 20) (i2 := 0) rfl gw_160 dX4_number_19 ?_
      refine lv_aload_n hx hb dX4_number_22 rfl (lv_at hl 0 rfl) ?_
      refine u_geti C w hw (hP _ _ (isn_f rfl rfl (by decide))) rfl (N := 12) rfl rfl cin_4 4 (by decide) rfl gw_162 dX4_number_23 ?_
      refine u_iv h (fun x17 h => ?_)
      obtain ⟨g18, h⟩ := gd_some h
      refine u_iald C w hw (hP _ _ (isn_f rfl rfl (by decide))) rfl rfl (n := 300) rfl (vp_in_iff.mpr g18) dX4_number_26 ?_
      refine u_iv h (fun x19 h => ?_)
      refine lv_goto (tgt := 31) hx hb dX4_number_27 (by decide) ?_
      exact J31  x19 S0 h f H locs w hw hn hk ls (lv_sub hl [0] rfl)
theorem dX4_opened_0 : decode cX4_opened 0 = .ok (.aload_n 0, 1) := by decide +kernel
theorem dX4_opened_1 : decode cX4_opened 1 = .ok (.invokevirtual 54, 3) := by decide +kernel
theorem dX4_opened_4 : decode cX4_opened 4 = .ok (.iload_n 1, 1) := by decide +kernel
theorem dX4_opened_5 : decode cX4_opened 5 = .ok (.if_icmp .eq 9, 3) := by decide +kernel
theorem dX4_opened_8 : decode cX4_opened 8 = .ok (.aload_n 0, 1) := by decide +kernel
theorem dX4_opened_9 : decode cX4_opened 9 = .ok (.iconst 1, 1) := by decide +kernel
theorem dX4_opened_10 : decode cX4_opened 10 = .ok (.invokevirtual 69, 3) := by decide +kernel
theorem dX4_opened_13 : decode cX4_opened 13 = .ok (.ireturn, 1) := by decide +kernel
theorem dX4_opened_14 : decode cX4_opened 14 = .ok (.aload_n 0, 1) := by decide +kernel
theorem dX4_opened_15 : decode cX4_opened 15 = .ok (.getfield 37, 3) := by decide +kernel
theorem dX4_opened_18 : decode cX4_opened 18 = .ok (.bipush 6, 2) := by decide +kernel
theorem dX4_opened_20 : decode cX4_opened 20 = .ok (.if_icmp .lt 9, 3) := by decide +kernel
theorem dX4_opened_23 : decode cX4_opened 23 = .ok (.aload_n 0, 1) := by decide +kernel
theorem dX4_opened_24 : decode cX4_opened 24 = .ok (.iconst 3, 1) := by decide +kernel
theorem dX4_opened_25 : decode cX4_opened 25 = .ok (.invokevirtual 69, 3) := by decide +kernel
theorem dX4_opened_28 : decode cX4_opened 28 = .ok (.ireturn, 1) := by decide +kernel
theorem dX4_opened_29 : decode cX4_opened 29 = .ok (.aload_n 0, 1) := by decide +kernel
theorem dX4_opened_30 : decode cX4_opened 30 = .ok (.dup, 1) := by decide +kernel
theorem dX4_opened_31 : decode cX4_opened 31 = .ok (.getfield 37, 3) := by decide +kernel
theorem dX4_opened_34 : decode cX4_opened 34 = .ok (.iconst 1, 1) := by decide +kernel
theorem dX4_opened_35 : decode cX4_opened 35 = .ok (.iadd, 1) := by decide +kernel
theorem dX4_opened_36 : decode cX4_opened 36 = .ok (.putfield 37, 3) := by decide +kernel
theorem dX4_opened_39 : decode cX4_opened 39 = .ok (.aload_n 0, 1) := by decide +kernel
theorem dX4_opened_40 : decode cX4_opened 40 = .ok (.dup, 1) := by decide +kernel
theorem dX4_opened_41 : decode cX4_opened 41 = .ok (.getfield 25, 3) := by decide +kernel
theorem dX4_opened_44 : decode cX4_opened 44 = .ok (.iconst 1, 1) := by decide +kernel
theorem dX4_opened_45 : decode cX4_opened 45 = .ok (.iadd, 1) := by decide +kernel
theorem dX4_opened_46 : decode cX4_opened 46 = .ok (.putfield 25, 3) := by decide +kernel
theorem dX4_opened_49 : decode cX4_opened 49 = .ok (.iconst 1, 1) := by decide +kernel
theorem dX4_opened_50 : decode cX4_opened 50 = .ok (.ireturn, 1) := by decide +kernel
noncomputable def F_X4_opened (p1 : Int32) (S0 : fS) : Option (Int32 × fS) := bd (F_X4_here  S0) (fun v1 S2 => bb (v1 = p1) (iv (ge S2 17 0 8) (fun x5 => bb (x5 < (6 : Int32)) (iv (ge S2 17 0 8) (fun x7 => iv (x7 + (1 : Int32)) (fun x8 => sv (pu S2 17 0 8 x8) (fun S9 => iv (ge S9 17 0 4) (fun x10 => iv (x10 + (1 : Int32)) (fun x11 => sv (pu S9 17 0 4 x11) (fun S12 => some (1, S12)))))))) (bd (F_X4_fail 3 S2) (fun v13 S14 => gd (v13 = 0 ∨ v13 = 1) (some (v13, S14)))))) (bd (F_X4_fail 1 S2) (fun v17 S18 => gd (v17 = 0 ∨ v17 = 1) (some (v17, S18)))))
set_option maxHeartbeats 4000000 in
set_option maxRecDepth 100000 in
theorem c_X4_opened (l : Launch) (D : va_G) (K : Nat → ClassId) (b0 : Nat) (sa : sT) (sz : Nat) (L : List Nat) (f0 : Nat → va_E) (ad : Nat → Nat → Nat) (P : Nat → Nat → Prop) {n : Nat × Nat} (hP : ∀ a i : Nat, isn n a i → P a i) (S0 : fS) (hw : PW K ad P S0 L f0) (hn : S0.2.2.1 = n) (p1 : Int32) (v : Int32) (S1 : fS) (h : F_X4_opened p1 S0 = some (v, S1)) : Met l yX4_opened (.code yX4_opened cX4_opened 2 (some .boolean) :: gt) { frames := 1, cells := 0, slots := 0, locals := 21 } (va_Pc [.ref (ad 17 0), .int p1] (hPre D K b0 sa sz L f0)) (hQ D K b0 (fun v9 u9 => ∃ f2 : Nat → va_E, v9 = some (.int v) ∧ u9 = lU L f2 ∧ PW K ad P S1 L f2 ∧ S1.2.2.1 = n ∧ Kp ad P L f0 f2)) 0 0 (fun q => b0 ≤ q) := by
  refine t_of (own := RX4) (by decide) rfl ?_ (Nat.le_of_ble_eq_true rfl)
  intro p e s m below meth c ls C w hsz hr hlk hnm hl
  have hx := C.1
  have hb := C.2.1
  have hl : lv_has ls 2 [(0, .ref (ad 17 0)), (1, .int p1)] := hl
  dsimp only [F_X4_opened] at h
  obtain ⟨f, ef⟩ : ∃ z, z = f0 := ⟨_, rfl⟩
  rw [← ef] at w hw
  have hk : Kp ad P L f0 f := by rw [ef]; exact Kp.rf
  obtain ⟨H, eH⟩ : ∃ z, z = s.heap := ⟨_, rfl⟩
  obtain ⟨locs, el⟩ : ∃ z : List Loc, z = [] := ⟨_, rfl⟩
  rw [← eH, ← el] at w ⊢
  refine lv_aload_n hx hb dX4_opened_0 rfl (lv_at hl 0 rfl) ?_
  obtain ⟨v1, S2, h3, h⟩ := bd_some h
  refine u_callV (n := 0) C w hw (hP _ _ (isn_f rfl rfl (by decide))) rfl rfl rfl (c_X4_here l D K b0 sa _ L _ ad P hP S0 hw hn  v1 S2 h3) gw_834 gw_831 gw_832 gw_833 gw_5 ⟨by decide, by decide, by decide +kernel⟩ rfl rfl ⟨by decide, by decide⟩ rfl hl.1 rfl (Nat.le_of_ble_eq_true rfl) dX4_opened_1 ⟨Nat.le_of_ble_eq_true rfl, Nat.le_of_ble_eq_true rfl⟩ (fun v9 u H locs hp w => ?_)
  obtain ⟨f2, rfl, rfl, hw, hn, hk1⟩ := hp
  have hk := hk.tr hk1
  generalize f2 = f at w hw hk
  refine lv_iload_n hx hb dX4_opened_4 rfl (lv_at hl 1 rfl) ?_
  refine lv_icmp_eq (tgt := 14) hx hb dX4_opened_5 (by decide) (fun c4 => ?_) (fun c4 => ?_)
  · have h := bb_t h c4
    refine lv_aload_n hx hb dX4_opened_14 rfl (lv_at hl 0 rfl) ?_
    refine u_geti C w hw (hP _ _ (isn_f rfl rfl (by decide))) rfl (N := 12) rfl rfl cin_4 8 (by decide) rfl gw_166 dX4_opened_15 ?_
    refine u_iv h (fun x5 h => ?_)
    refine lv_bipush (v := 6) hx hb dX4_opened_18 (by decide) ?_
    refine lv_icmp_lt (tgt := 29) hx hb dX4_opened_20 (by decide) (fun c6 => ?_) (fun c6 => ?_)
    · have h := bb_t h c6
      refine lv_aload_n hx hb dX4_opened_29 rfl (lv_at hl 0 rfl) ?_
      refine lv_dup hx hb dX4_opened_30 rfl ?_
      refine u_geti C w hw (hP _ _ (isn_f rfl rfl (by decide))) rfl (N := 12) rfl rfl cin_4 8 (by decide) rfl gw_166 dX4_opened_31 ?_
      refine u_iv h (fun x7 h => ?_)
      refine lv_iconst (v := 1) hx hb dX4_opened_34 (by decide) ?_
      refine lv_iadd hx hb dX4_opened_35 ?_
      refine u_iv h (fun x8 h => ?_)
      refine u_puti C w hw (hP _ _ (isn_f rfl rfl (by decide))) rfl (N := 12) rfl rfl cin_4 tyX4 tyX4_ok nmX4 8 (by decide) rfl rfl rfl rfl gw_166 dX4_opened_36 (fun f H locs w hw hk1 => ?_)
      have hk := hk.tr hk1
      refine u_sv h hw hn (fun S9 h hw hn => ?_)
      refine lv_aload_n hx hb dX4_opened_39 rfl (lv_at hl 0 rfl) ?_
      refine lv_dup hx hb dX4_opened_40 rfl ?_
      refine u_geti C w hw (hP _ _ (isn_f rfl rfl (by decide))) rfl (N := 12) rfl rfl cin_4 4 (by decide) rfl gw_162 dX4_opened_41 ?_
      refine u_iv h (fun x10 h => ?_)
      refine lv_iconst (v := 1) hx hb dX4_opened_44 (by decide) ?_
      refine lv_iadd hx hb dX4_opened_45 ?_
      refine u_iv h (fun x11 h => ?_)
      refine u_puti C w hw (hP _ _ (isn_f rfl rfl (by decide))) rfl (N := 12) rfl rfl cin_4 tyX4 tyX4_ok nmX4 4 (by decide) rfl rfl rfl rfl gw_162 dX4_opened_46 (fun f H locs w hw hk1 => ?_)
      have hk := hk.tr hk1
      refine u_sv h hw hn (fun S12 h hw hn => ?_)
      refine lv_iconst (v := 1) hx hb dX4_opened_49 (by decide) ?_
      exact t_zret C hr hlk w (by decide) ⟨_, so_v h, rfl, so_w h hw, so_n h hn, hk⟩ (by decide) (by decide) dX4_opened_50
    · have h := bb_f h c6
      refine lv_aload_n hx hb dX4_opened_23 rfl (lv_at hl 0 rfl) ?_
      refine lv_iconst (v := 3) hx hb dX4_opened_24 (by decide) ?_
      obtain ⟨v13, S14, h15, h⟩ := bd_some h
      refine u_callV (n := 1) C w hw (hP _ _ (isn_f rfl rfl (by decide))) rfl rfl rfl (c_X4_fail l D K b0 sa _ L _ ad P hP S2 hw hn 3 v13 S14 h15) gw_846 gw_843 gw_844 gw_845 gw_5 ⟨by decide, by decide, by decide +kernel⟩ rfl rfl ⟨by decide, by decide⟩ rfl hl.1 rfl (Nat.le_of_ble_eq_true rfl) dX4_opened_25 ⟨Nat.le_of_ble_eq_true rfl, Nat.le_of_ble_eq_true rfl⟩ (fun v9 u H locs hp w => ?_)
      obtain ⟨f2, rfl, rfl, hw, hn, hk1⟩ := hp
      have hk := hk.tr hk1
      generalize f2 = f at w hw hk
      obtain ⟨g16, h⟩ := gd_some h
      exact t_zret C hr hlk w (narb g16) ⟨_, so_v h, rfl, so_w h hw, so_n h hn, hk⟩ (by decide) (by decide) dX4_opened_28
  · have h := bb_f h c4
    refine lv_aload_n hx hb dX4_opened_8 rfl (lv_at hl 0 rfl) ?_
    refine lv_iconst (v := 1) hx hb dX4_opened_9 (by decide) ?_
    obtain ⟨v17, S18, h19, h⟩ := bd_some h
    refine u_callV (n := 1) C w hw (hP _ _ (isn_f rfl rfl (by decide))) rfl rfl rfl (c_X4_fail l D K b0 sa _ L _ ad P hP S2 hw hn 1 v17 S18 h19) gw_846 gw_843 gw_844 gw_845 gw_5 ⟨by decide, by decide, by decide +kernel⟩ rfl rfl ⟨by decide, by decide⟩ rfl hl.1 rfl (Nat.le_of_ble_eq_true rfl) dX4_opened_10 ⟨Nat.le_of_ble_eq_true rfl, Nat.le_of_ble_eq_true rfl⟩ (fun v9 u H locs hp w => ?_)
    obtain ⟨f2, rfl, rfl, hw, hn, hk1⟩ := hp
    have hk := hk.tr hk1
    generalize f2 = f at w hw hk
    obtain ⟨g20, h⟩ := gd_some h
    exact t_zret C hr hlk w (narb g20) ⟨_, so_v h, rfl, so_w h hw, so_n h hn, hk⟩ (by decide) (by decide) dX4_opened_13
theorem dX4_passed_0 : decode cX4_passed 0 = .ok (.aload_n 0, 1) := by decide +kernel
theorem dX4_passed_1 : decode cX4_passed 1 = .ok (.invokevirtual 54, 3) := by decide +kernel
theorem dX4_passed_4 : decode cX4_passed 4 = .ok (.iload_n 1, 1) := by decide +kernel
theorem dX4_passed_5 : decode cX4_passed 5 = .ok (.if_icmp .eq 5, 3) := by decide +kernel
theorem dX4_passed_8 : decode cX4_passed 8 = .ok (.iconst 0, 1) := by decide +kernel
theorem dX4_passed_9 : decode cX4_passed 9 = .ok (.ireturn, 1) := by decide +kernel
theorem dX4_passed_10 : decode cX4_passed 10 = .ok (.aload_n 0, 1) := by decide +kernel
theorem dX4_passed_11 : decode cX4_passed 11 = .ok (.dup, 1) := by decide +kernel
theorem dX4_passed_12 : decode cX4_passed 12 = .ok (.getfield 25, 3) := by decide +kernel
theorem dX4_passed_15 : decode cX4_passed 15 = .ok (.iconst 1, 1) := by decide +kernel
theorem dX4_passed_16 : decode cX4_passed 16 = .ok (.iadd, 1) := by decide +kernel
theorem dX4_passed_17 : decode cX4_passed 17 = .ok (.putfield 25, 3) := by decide +kernel
theorem dX4_passed_20 : decode cX4_passed 20 = .ok (.iconst 1, 1) := by decide +kernel
theorem dX4_passed_21 : decode cX4_passed 21 = .ok (.ireturn, 1) := by decide +kernel
noncomputable def F_X4_passed (p1 : Int32) (S0 : fS) : Option (Int32 × fS) := bd (F_X4_here  S0) (fun v1 S2 => bb (v1 = p1) (iv (ge S2 17 0 4) (fun x5 => iv (x5 + (1 : Int32)) (fun x6 => sv (pu S2 17 0 4 x6) (fun S7 => some (1, S7))))) (some (0, S2)))
set_option maxHeartbeats 4000000 in
set_option maxRecDepth 100000 in
theorem c_X4_passed (l : Launch) (D : va_G) (K : Nat → ClassId) (b0 : Nat) (sa : sT) (sz : Nat) (L : List Nat) (f0 : Nat → va_E) (ad : Nat → Nat → Nat) (P : Nat → Nat → Prop) {n : Nat × Nat} (hP : ∀ a i : Nat, isn n a i → P a i) (S0 : fS) (hw : PW K ad P S0 L f0) (hn : S0.2.2.1 = n) (p1 : Int32) (v : Int32) (S1 : fS) (h : F_X4_passed p1 S0 = some (v, S1)) : Met l yX4_passed (.code yX4_passed cX4_passed 2 (some .boolean) :: gt) { frames := 1, cells := 0, slots := 0, locals := 20 } (va_Pc [.ref (ad 17 0), .int p1] (hPre D K b0 sa sz L f0)) (hQ D K b0 (fun v9 u9 => ∃ f2 : Nat → va_E, v9 = some (.int v) ∧ u9 = lU L f2 ∧ PW K ad P S1 L f2 ∧ S1.2.2.1 = n ∧ Kp ad P L f0 f2)) 0 0 (fun q => b0 ≤ q) := by
  refine t_of (own := RX4) (by decide) rfl ?_ (Nat.le_of_ble_eq_true rfl)
  intro p e s m below meth c ls C w hsz hr hlk hnm hl
  have hx := C.1
  have hb := C.2.1
  have hl : lv_has ls 2 [(0, .ref (ad 17 0)), (1, .int p1)] := hl
  dsimp only [F_X4_passed] at h
  obtain ⟨f, ef⟩ : ∃ z, z = f0 := ⟨_, rfl⟩
  rw [← ef] at w hw
  have hk : Kp ad P L f0 f := by rw [ef]; exact Kp.rf
  obtain ⟨H, eH⟩ : ∃ z, z = s.heap := ⟨_, rfl⟩
  obtain ⟨locs, el⟩ : ∃ z : List Loc, z = [] := ⟨_, rfl⟩
  rw [← eH, ← el] at w ⊢
  refine lv_aload_n hx hb dX4_passed_0 rfl (lv_at hl 0 rfl) ?_
  obtain ⟨v1, S2, h3, h⟩ := bd_some h
  refine u_callV (n := 0) C w hw (hP _ _ (isn_f rfl rfl (by decide))) rfl rfl rfl (c_X4_here l D K b0 sa _ L _ ad P hP S0 hw hn  v1 S2 h3) gw_834 gw_831 gw_832 gw_833 gw_5 ⟨by decide, by decide, by decide +kernel⟩ rfl rfl ⟨by decide, by decide⟩ rfl hl.1 rfl (Nat.le_of_ble_eq_true rfl) dX4_passed_1 ⟨Nat.le_of_ble_eq_true rfl, Nat.le_of_ble_eq_true rfl⟩ (fun v9 u H locs hp w => ?_)
  obtain ⟨f2, rfl, rfl, hw, hn, hk1⟩ := hp
  have hk := hk.tr hk1
  generalize f2 = f at w hw hk
  refine lv_iload_n hx hb dX4_passed_4 rfl (lv_at hl 1 rfl) ?_
  refine lv_icmp_eq (tgt := 10) hx hb dX4_passed_5 (by decide) (fun c4 => ?_) (fun c4 => ?_)
  · have h := bb_t h c4
    refine lv_aload_n hx hb dX4_passed_10 rfl (lv_at hl 0 rfl) ?_
    refine lv_dup hx hb dX4_passed_11 rfl ?_
    refine u_geti C w hw (hP _ _ (isn_f rfl rfl (by decide))) rfl (N := 12) rfl rfl cin_4 4 (by decide) rfl gw_162 dX4_passed_12 ?_
    refine u_iv h (fun x5 h => ?_)
    refine lv_iconst (v := 1) hx hb dX4_passed_15 (by decide) ?_
    refine lv_iadd hx hb dX4_passed_16 ?_
    refine u_iv h (fun x6 h => ?_)
    refine u_puti C w hw (hP _ _ (isn_f rfl rfl (by decide))) rfl (N := 12) rfl rfl cin_4 tyX4 tyX4_ok nmX4 4 (by decide) rfl rfl rfl rfl gw_162 dX4_passed_17 (fun f H locs w hw hk1 => ?_)
    have hk := hk.tr hk1
    refine u_sv h hw hn (fun S7 h hw hn => ?_)
    refine lv_iconst (v := 1) hx hb dX4_passed_20 (by decide) ?_
    exact t_zret C hr hlk w (by decide) ⟨_, so_v h, rfl, so_w h hw, so_n h hn, hk⟩ (by decide) (by decide) dX4_passed_21
  · have h := bb_f h c4
    refine lv_iconst (v := 0) hx hb dX4_passed_8 (by decide) ?_
    exact t_zret C hr hlk w (by decide) ⟨_, so_v h, rfl, so_w h hw, so_n h hn, hk⟩ (by decide) (by decide) dX4_passed_9
theorem dX4_closed_0 : decode cX4_closed 0 = .ok (.aload_n 0, 1) := by decide +kernel
theorem dX4_closed_1 : decode cX4_closed 1 = .ok (.iload_n 1, 1) := by decide +kernel
theorem dX4_closed_2 : decode cX4_closed 2 = .ok (.invokevirtual 66, 3) := by decide +kernel
theorem dX4_closed_5 : decode cX4_closed 5 = .ok (.ifCond .ne 9, 3) := by decide +kernel
theorem dX4_closed_8 : decode cX4_closed 8 = .ok (.aload_n 0, 1) := by decide +kernel
theorem dX4_closed_9 : decode cX4_closed 9 = .ok (.iconst 1, 1) := by decide +kernel
theorem dX4_closed_10 : decode cX4_closed 10 = .ok (.invokevirtual 69, 3) := by decide +kernel
theorem dX4_closed_13 : decode cX4_closed 13 = .ok (.ireturn, 1) := by decide +kernel
theorem dX4_closed_14 : decode cX4_closed 14 = .ok (.aload_n 0, 1) := by decide +kernel
theorem dX4_closed_15 : decode cX4_closed 15 = .ok (.dup, 1) := by decide +kernel
theorem dX4_closed_16 : decode cX4_closed 16 = .ok (.getfield 37, 3) := by decide +kernel
theorem dX4_closed_19 : decode cX4_closed 19 = .ok (.iconst 1, 1) := by decide +kernel
theorem dX4_closed_20 : decode cX4_closed 20 = .ok (.isub, 1) := by decide +kernel
theorem dX4_closed_21 : decode cX4_closed 21 = .ok (.putfield 37, 3) := by decide +kernel
theorem dX4_closed_24 : decode cX4_closed 24 = .ok (.iconst 1, 1) := by decide +kernel
theorem dX4_closed_25 : decode cX4_closed 25 = .ok (.ireturn, 1) := by decide +kernel
noncomputable def F_X4_closed (p1 : Int32) (S0 : fS) : Option (Int32 × fS) := bd (F_X4_passed p1 S0) (fun v1 S2 => bb (v1 = (0 : Int32)) (bd (F_X4_fail 1 S2) (fun v8 S9 => gd (v8 = 0 ∨ v8 = 1) (some (v8, S9)))) (iv (ge S2 17 0 8) (fun x5 => iv (x5 - (1 : Int32)) (fun x6 => sv (pu S2 17 0 8 x6) (fun S7 => some (1, S7))))))
set_option maxHeartbeats 4000000 in
set_option maxRecDepth 100000 in
theorem c_X4_closed (l : Launch) (D : va_G) (K : Nat → ClassId) (b0 : Nat) (sa : sT) (sz : Nat) (L : List Nat) (f0 : Nat → va_E) (ad : Nat → Nat → Nat) (P : Nat → Nat → Prop) {n : Nat × Nat} (hP : ∀ a i : Nat, isn n a i → P a i) (S0 : fS) (hw : PW K ad P S0 L f0) (hn : S0.2.2.1 = n) (p1 : Int32) (v : Int32) (S1 : fS) (h : F_X4_closed p1 S0 = some (v, S1)) : Met l yX4_closed (.code yX4_closed cX4_closed 2 (some .boolean) :: gt) { frames := 2, cells := 0, slots := 0, locals := 41 } (va_Pc [.ref (ad 17 0), .int p1] (hPre D K b0 sa sz L f0)) (hQ D K b0 (fun v9 u9 => ∃ f2 : Nat → va_E, v9 = some (.int v) ∧ u9 = lU L f2 ∧ PW K ad P S1 L f2 ∧ S1.2.2.1 = n ∧ Kp ad P L f0 f2)) 0 0 (fun q => b0 ≤ q) := by
  refine t_of (own := RX4) (by decide) rfl ?_ (Nat.le_of_ble_eq_true rfl)
  intro p e s m below meth c ls C w hsz hr hlk hnm hl
  have hx := C.1
  have hb := C.2.1
  have hl : lv_has ls 2 [(0, .ref (ad 17 0)), (1, .int p1)] := hl
  dsimp only [F_X4_closed] at h
  obtain ⟨f, ef⟩ : ∃ z, z = f0 := ⟨_, rfl⟩
  rw [← ef] at w hw
  have hk : Kp ad P L f0 f := by rw [ef]; exact Kp.rf
  obtain ⟨H, eH⟩ : ∃ z, z = s.heap := ⟨_, rfl⟩
  obtain ⟨locs, el⟩ : ∃ z : List Loc, z = [] := ⟨_, rfl⟩
  rw [← eH, ← el] at w ⊢
  refine lv_aload_n hx hb dX4_closed_0 rfl (lv_at hl 0 rfl) ?_
  refine lv_iload_n hx hb dX4_closed_1 rfl (lv_at hl 1 rfl) ?_
  obtain ⟨v1, S2, h3, h⟩ := bd_some h
  refine u_callV (n := 1) C w hw (hP _ _ (isn_f rfl rfl (by decide))) rfl rfl rfl (c_X4_passed l D K b0 sa _ L _ ad P hP S0 hw hn p1 v1 S2 h3) gw_858 gw_855 gw_856 gw_857 gw_5 ⟨by decide, by decide, by decide +kernel⟩ rfl rfl ⟨by decide, by decide⟩ rfl hl.1 rfl (Nat.le_of_ble_eq_true rfl) dX4_closed_2 ⟨Nat.le_of_ble_eq_true rfl, Nat.le_of_ble_eq_true rfl⟩ (fun v9 u H locs hp w => ?_)
  obtain ⟨f2, rfl, rfl, hw, hn, hk1⟩ := hp
  have hk := hk.tr hk1
  generalize f2 = f at w hw hk
  refine lv_if_ne (tgt := 14) hx hb dX4_closed_5 (by decide) (fun c4 => ?_) (fun c4 => ?_)
  · have h := bb_f h c4
    refine lv_aload_n hx hb dX4_closed_14 rfl (lv_at hl 0 rfl) ?_
    refine lv_dup hx hb dX4_closed_15 rfl ?_
    refine u_geti C w hw (hP _ _ (isn_f rfl rfl (by decide))) rfl (N := 12) rfl rfl cin_4 8 (by decide) rfl gw_166 dX4_closed_16 ?_
    refine u_iv h (fun x5 h => ?_)
    refine lv_iconst (v := 1) hx hb dX4_closed_19 (by decide) ?_
    refine lv_isub hx hb dX4_closed_20 ?_
    refine u_iv h (fun x6 h => ?_)
    refine u_puti C w hw (hP _ _ (isn_f rfl rfl (by decide))) rfl (N := 12) rfl rfl cin_4 tyX4 tyX4_ok nmX4 8 (by decide) rfl rfl rfl rfl gw_166 dX4_closed_21 (fun f H locs w hw hk1 => ?_)
    have hk := hk.tr hk1
    refine u_sv h hw hn (fun S7 h hw hn => ?_)
    refine lv_iconst (v := 1) hx hb dX4_closed_24 (by decide) ?_
    exact t_zret C hr hlk w (by decide) ⟨_, so_v h, rfl, so_w h hw, so_n h hn, hk⟩ (by decide) (by decide) dX4_closed_25
  · have h := bb_t h c4
    refine lv_aload_n hx hb dX4_closed_8 rfl (lv_at hl 0 rfl) ?_
    refine lv_iconst (v := 1) hx hb dX4_closed_9 (by decide) ?_
    obtain ⟨v8, S9, h10, h⟩ := bd_some h
    refine u_callV (n := 1) C w hw (hP _ _ (isn_f rfl rfl (by decide))) rfl rfl rfl (c_X4_fail l D K b0 sa _ L _ ad P hP S2 hw hn 1 v8 S9 h10) gw_846 gw_843 gw_844 gw_845 gw_5 ⟨by decide, by decide, by decide +kernel⟩ rfl rfl ⟨by decide, by decide⟩ rfl hl.1 rfl (Nat.le_of_ble_eq_true rfl) dX4_closed_10 ⟨Nat.le_of_ble_eq_true rfl, Nat.le_of_ble_eq_true rfl⟩ (fun v9 u H locs hp w => ?_)
    obtain ⟨f2, rfl, rfl, hw, hn, hk1⟩ := hp
    have hk := hk.tr hk1
    generalize f2 = f at w hw hk
    obtain ⟨g11, h⟩ := gd_some h
    exact t_zret C hr hlk w (narb g11) ⟨_, so_v h, rfl, so_w h hw, so_n h hn, hk⟩ (by decide) (by decide) dX4_closed_13
theorem dX4_comparison_0 : decode cX4_comparison 0 = .ok (.aload_n 0, 1) := by decide +kernel
theorem dX4_comparison_1 : decode cX4_comparison 1 = .ok (.invokevirtual 54, 3) := by decide +kernel
theorem dX4_comparison_4 : decode cX4_comparison 4 = .ok (.tableswitch 40 60 62 #[28, 36, 32], 28) := by decide +kernel
theorem dX4_comparison_32 : decode cX4_comparison 32 = .ok (.sipush 2006, 3) := by decide +kernel
theorem dX4_comparison_35 : decode cX4_comparison 35 = .ok (.ireturn, 1) := by decide +kernel
theorem dX4_comparison_36 : decode cX4_comparison 36 = .ok (.sipush 2007, 3) := by decide +kernel
theorem dX4_comparison_39 : decode cX4_comparison 39 = .ok (.ireturn, 1) := by decide +kernel
theorem dX4_comparison_40 : decode cX4_comparison 40 = .ok (.sipush 2008, 3) := by decide +kernel
theorem dX4_comparison_43 : decode cX4_comparison 43 = .ok (.ireturn, 1) := by decide +kernel
theorem dX4_comparison_44 : decode cX4_comparison 44 = .ok (.iconst (-1), 1) := by decide +kernel
theorem dX4_comparison_45 : decode cX4_comparison 45 = .ok (.ireturn, 1) := by decide +kernel
noncomputable def F_X4_comparison  (S0 : fS) : Option (Int32 × fS) := bd (F_X4_here  S0) (fun v1 S2 => bb (v1.toInt = 60) (some (2006, S2)) (bb (v1.toInt = 61) (some (2008, S2)) (bb (v1.toInt = 62) (some (2007, S2)) (some ((-1), S2)))))
set_option maxHeartbeats 4000000 in
set_option maxRecDepth 100000 in
theorem c_X4_comparison (l : Launch) (D : va_G) (K : Nat → ClassId) (b0 : Nat) (sa : sT) (sz : Nat) (L : List Nat) (f0 : Nat → va_E) (ad : Nat → Nat → Nat) (P : Nat → Nat → Prop) {n : Nat × Nat} (hP : ∀ a i : Nat, isn n a i → P a i) (S0 : fS) (hw : PW K ad P S0 L f0) (hn : S0.2.2.1 = n)  (v : Int32) (S1 : fS) (h : F_X4_comparison  S0 = some (v, S1)) : Met l yX4_comparison (.code yX4_comparison cX4_comparison 1 (some .int) :: gt) { frames := 1, cells := 0, slots := 0, locals := 20 } (va_Pc [.ref (ad 17 0)] (hPre D K b0 sa sz L f0)) (hQ D K b0 (fun v9 u9 => ∃ f2 : Nat → va_E, v9 = some (.int v) ∧ u9 = lU L f2 ∧ PW K ad P S1 L f2 ∧ S1.2.2.1 = n ∧ Kp ad P L f0 f2)) 0 0 (fun q => b0 ≤ q) := by
  refine t_of (own := RX4) (by decide) rfl ?_ (Nat.le_of_ble_eq_true rfl)
  intro p e s m below meth c ls C w hsz hr hlk hnm hl
  have hx := C.1
  have hb := C.2.1
  have hl : lv_has ls 1 [(0, .ref (ad 17 0))] := hl
  dsimp only [F_X4_comparison] at h
  obtain ⟨f, ef⟩ : ∃ z, z = f0 := ⟨_, rfl⟩
  rw [← ef] at w hw
  have hk : Kp ad P L f0 f := by rw [ef]; exact Kp.rf
  obtain ⟨H, eH⟩ : ∃ z, z = s.heap := ⟨_, rfl⟩
  obtain ⟨locs, el⟩ : ∃ z : List Loc, z = [] := ⟨_, rfl⟩
  rw [← eH, ← el] at w ⊢
  refine lv_aload_n hx hb dX4_comparison_0 rfl (lv_at hl 0 rfl) ?_
  obtain ⟨v1, S2, h3, h⟩ := bd_some h
  refine u_callV (n := 0) C w hw (hP _ _ (isn_f rfl rfl (by decide))) rfl rfl rfl (c_X4_here l D K b0 sa _ L _ ad P hP S0 hw hn  v1 S2 h3) gw_834 gw_831 gw_832 gw_833 gw_5 ⟨by decide, by decide, by decide +kernel⟩ rfl rfl ⟨by decide, by decide⟩ rfl hl.1 rfl (Nat.le_of_ble_eq_true rfl) dX4_comparison_1 ⟨Nat.le_of_ble_eq_true rfl, Nat.le_of_ble_eq_true rfl⟩ (fun v9 u H locs hp w => ?_)
  obtain ⟨f2, rfl, rfl, hw, hn, hk1⟩ := hp
  have hk := hk.tr hk1
  generalize f2 = f at w hw hk
  by_cases c4 : v1.toInt = 60
  · have h := bb_t h c4
    refine lv_tableIn (tgt := 32) hx hb dX4_comparison_4 (by omega) (by omega) (by rw [c4]; rfl) (by decide) ?_
    refine lv_sipush (v := 2006) hx hb dX4_comparison_32 (by decide) ?_
    exact t_iret C hr hlk w ⟨_, so_v h, rfl, so_w h hw, so_n h hn, hk⟩ (by decide) (by decide) dX4_comparison_35
  have h := bb_f h c4
  by_cases c5 : v1.toInt = 61
  · have h := bb_t h c5
    refine lv_tableIn (tgt := 40) hx hb dX4_comparison_4 (by omega) (by omega) (by rw [c5]; rfl) (by decide) ?_
    refine lv_sipush (v := 2008) hx hb dX4_comparison_40 (by decide) ?_
    exact t_iret C hr hlk w ⟨_, so_v h, rfl, so_w h hw, so_n h hn, hk⟩ (by decide) (by decide) dX4_comparison_43
  have h := bb_f h c5
  by_cases c6 : v1.toInt = 62
  · have h := bb_t h c6
    refine lv_tableIn (tgt := 36) hx hb dX4_comparison_4 (by omega) (by omega) (by rw [c6]; rfl) (by decide) ?_
    refine lv_sipush (v := 2007) hx hb dX4_comparison_36 (by decide) ?_
    exact t_iret C hr hlk w ⟨_, so_v h, rfl, so_w h hw, so_n h hn, hk⟩ (by decide) (by decide) dX4_comparison_39
  have h := bb_f h c6
  refine lv_tableOut (tgt := 44) hx hb dX4_comparison_4 (by omega) (by decide) ?_
  refine lv_iconst (v := (-1)) hx hb dX4_comparison_44 (by decide) ?_
  exact t_iret C hr hlk w ⟨_, so_v h, rfl, so_w h hw, so_n h hn, hk⟩ (by decide) (by decide) dX4_comparison_45
