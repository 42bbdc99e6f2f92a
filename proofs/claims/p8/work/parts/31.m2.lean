theorem dX7_isWord_0 : decode cX7_isWord 0 = .ok (.aload_n 0, 1) := by decide +kernel
theorem dX7_isWord_1 : decode cX7_isWord 1 = .ok (.invokevirtual 137, 3) := by decide +kernel
theorem dX7_isWord_4 : decode cX7_isWord 4 = .ok (.iload_n 1, 1) := by decide +kernel
theorem dX7_isWord_5 : decode cX7_isWord 5 = .ok (.iload_n 2, 1) := by decide +kernel
theorem dX7_isWord_6 : decode cX7_isWord 6 = .ok (.iload_n 3, 1) := by decide +kernel
theorem dX7_isWord_7 : decode cX7_isWord 7 = .ok (.iload 4, 2) := by decide +kernel
theorem dX7_isWord_9 : decode cX7_isWord 9 = .ok (.iload 5, 2) := by decide +kernel
theorem dX7_isWord_11 : decode cX7_isWord 11 = .ok (.invokestatic 141, 3) := by decide +kernel
theorem dX7_isWord_14 : decode cX7_isWord 14 = .ok (.if_icmp .ne 7, 3) := by decide +kernel
theorem dX7_isWord_17 : decode cX7_isWord 17 = .ok (.iconst 1, 1) := by decide +kernel
theorem dX7_isWord_18 : decode cX7_isWord 18 = .ok (.goto 4, 3) := by decide +kernel
theorem dX7_isWord_21 : decode cX7_isWord 21 = .ok (.iconst 0, 1) := by decide +kernel
theorem dX7_isWord_22 : decode cX7_isWord 22 = .ok (.ireturn, 1) := by decide +kernel
noncomputable def F_X7_isWord (p1 : Int32) (p2 : Int32) (p3 : Int32) (p4 : Int32) (p5 : Int32) (S0 : fS) : Option (Int32 × fS) := bd (F_X7_wordHere  S0) (fun v1 S2 => bd (F_X7_word p1 p2 p3 p4 p5 S2) (fun v4 S5 => bb (v1 = v4) (some (1, S5)) (some (0, S5))))
set_option maxHeartbeats 4000000 in
set_option maxRecDepth 100000 in
theorem c_X7_isWord (l : Launch) (D : va_G) (K : Nat → ClassId) (b0 : Nat) (sa : sT) (sz : Nat) (L : List Nat) (f0 : Nat → va_E) (ad : Nat → Nat → Nat) (P : Nat → Nat → Prop) {n : Nat × Nat} (hP : ∀ a i : Nat, isn n a i → P a i) (S0 : fS) (hw : PW K ad P S0 L f0) (hn : S0.2.2.1 = n) (p1 : Int32) (p2 : Int32) (p3 : Int32) (p4 : Int32) (p5 : Int32) (v : Int32) (S1 : fS) (h : F_X7_isWord p1 p2 p3 p4 p5 S0 = some (v, S1)) : Met l yX7_isWord (.code yX7_isWord cX7_isWord 6 (some .boolean) :: gt) { frames := 3, cells := 0, slots := 0, locals := 63 } (va_Pc [.ref (ad 40 0), .int p1, .int p2, .int p3, .int p4, .int p5] (hPre D K b0 sa sz L f0)) (hQ D K b0 (fun v9 u9 => ∃ f2 : Nat → va_E, v9 = some (.int v) ∧ u9 = lU L f2 ∧ PW K ad P S1 L f2 ∧ S1.2.2.1 = n ∧ Kp ad P L f0 f2)) 0 0 (fun q => b0 ≤ q) := by
  refine t_of (own := RX7) (by decide) rfl ?_ (Nat.le_of_ble_eq_true rfl)
  intro p e s m below meth c ls C w hsz hr hlk hnm hl
  have hx := C.1
  have hb := C.2.1
  have hl : lv_has ls 6 [(0, .ref (ad 40 0)), (1, .int p1), (2, .int p2), (3, .int p3), (4, .int p4), (5, .int p5)] := hl
  dsimp only [F_X7_isWord] at h
  obtain ⟨f, ef⟩ : ∃ z, z = f0 := ⟨_, rfl⟩
  rw [← ef] at w hw
  have hk : Kp ad P L f0 f := by rw [ef]; exact Kp.rf
  obtain ⟨H, eH⟩ : ∃ z, z = s.heap := ⟨_, rfl⟩
  obtain ⟨locs, el⟩ : ∃ z : List Loc, z = [] := ⟨_, rfl⟩
  rw [← eH, ← el] at w ⊢
  refine lv_aload_n hx hb dX7_isWord_0 rfl (lv_at hl 0 rfl) ?_
  obtain ⟨v1, S2, h3, h⟩ := bd_some h
  refine u_callV (n := 0) C w hw (hP _ _ (isn_f rfl rfl (by decide))) rfl rfl rfl (c_X7_wordHere l D K b0 sa _ L _ ad P hP S0 hw hn  v1 S2 h3) gw_1371 gw_1368 gw_1370 gs_28 gw_8 ⟨by decide, by decide, by decide +kernel⟩ rfl rfl ⟨by decide, by decide⟩ rfl hl.1 rfl (Nat.le_of_ble_eq_true rfl) dX7_isWord_1 ⟨Nat.le_of_ble_eq_true rfl, Nat.le_of_ble_eq_true rfl⟩ (fun v9 u H locs hp w => ?_)
  obtain ⟨f2, rfl, rfl, hw, hn, hk1⟩ := hp
  have hk := hk.tr hk1
  generalize f2 = f at w hw hk
  refine lv_iload_n hx hb dX7_isWord_4 rfl (lv_at hl 1 rfl) ?_
  refine lv_iload_n hx hb dX7_isWord_5 rfl (lv_at hl 2 rfl) ?_
  refine lv_iload_n hx hb dX7_isWord_6 rfl (lv_at hl 3 rfl) ?_
  refine lv_iload hx hb dX7_isWord_7 (lv_at hl 4 rfl) ?_
  refine lv_iload hx hb dX7_isWord_9 (lv_at hl 5 rfl) ?_
  obtain ⟨v4, S5, h6, h⟩ := bd_some h
  refine t_callS (n := 5) C w (c_X7_word l D K b0 sa _ L _ ad P hP S2 hw hn p1 p2 p3 p4 p5 v4 S5 h6) gw_1382 gw_1380 gw_1381 gw_8 ⟨by decide, by decide, by decide +kernel⟩ rfl rfl ⟨by decide, by decide⟩ rfl hl.1 rfl (Nat.le_of_ble_eq_true rfl) dX7_isWord_11 ⟨Nat.le_of_ble_eq_true rfl, Nat.le_of_ble_eq_true rfl⟩ (fun v9 u H locs hp w => ?_)
  obtain ⟨f2, rfl, rfl, hw, hn, hk1⟩ := hp
  have hk := hk.tr hk1
  generalize f2 = f at w hw hk
  refine lv_icmp_ne (tgt := 21) hx hb dX7_isWord_14 (by decide) (fun c7 => ?_) (fun c7 => ?_)
  · have h := bb_f h c7
    refine lv_iconst (v := 0) hx hb dX7_isWord_21 (by decide) ?_
    exact t_zret C hr hlk w (by decide) ⟨_, so_v h, rfl, so_w h hw, so_n h hn, hk⟩ (by decide) (by decide) dX7_isWord_22
  · have h := bb_t h c7
    refine lv_iconst (v := 1) hx hb dX7_isWord_17 (by decide) ?_
    refine lv_goto (tgt := 22) hx hb dX7_isWord_18 (by decide) ?_
    exact t_zret C hr hlk w (by decide) ⟨_, so_v h, rfl, so_w h hw, so_n h hn, hk⟩ (by decide) (by decide) dX7_isWord_22
theorem dX7_skipWord_0 : decode cX7_skipWord 0 = .ok (.aload_n 0, 1) := by decide +kernel
theorem dX7_skipWord_1 : decode cX7_skipWord 1 = .ok (.aload_n 0, 1) := by decide +kernel
theorem dX7_skipWord_2 : decode cX7_skipWord 2 = .ok (.getfield 113, 3) := by decide +kernel
theorem dX7_skipWord_5 : decode cX7_skipWord 5 = .ok (.invokevirtual 116, 3) := by decide +kernel
theorem dX7_skipWord_8 : decode cX7_skipWord 8 = .ok (.bipush 97, 2) := by decide +kernel
theorem dX7_skipWord_10 : decode cX7_skipWord 10 = .ok (.if_icmp .lt 29, 3) := by decide +kernel
theorem dX7_skipWord_13 : decode cX7_skipWord 13 = .ok (.aload_n 0, 1) := by decide +kernel
theorem dX7_skipWord_14 : decode cX7_skipWord 14 = .ok (.aload_n 0, 1) := by decide +kernel
theorem dX7_skipWord_15 : decode cX7_skipWord 15 = .ok (.getfield 113, 3) := by decide +kernel
theorem dX7_skipWord_18 : decode cX7_skipWord 18 = .ok (.invokevirtual 116, 3) := by decide +kernel
theorem dX7_skipWord_21 : decode cX7_skipWord 21 = .ok (.bipush 122, 2) := by decide +kernel
theorem dX7_skipWord_23 : decode cX7_skipWord 23 = .ok (.if_icmp .gt 16, 3) := by decide +kernel
theorem dX7_skipWord_26 : decode cX7_skipWord 26 = .ok (.aload_n 0, 1) := by decide +kernel
theorem dX7_skipWord_27 : decode cX7_skipWord 27 = .ok (.dup, 1) := by decide +kernel
theorem dX7_skipWord_28 : decode cX7_skipWord 28 = .ok (.getfield 113, 3) := by decide +kernel
theorem dX7_skipWord_31 : decode cX7_skipWord 31 = .ok (.iconst 1, 1) := by decide +kernel
theorem dX7_skipWord_32 : decode cX7_skipWord 32 = .ok (.iadd, 1) := by decide +kernel
theorem dX7_skipWord_33 : decode cX7_skipWord 33 = .ok (.putfield 113, 3) := by decide +kernel
theorem dX7_skipWord_36 : decode cX7_skipWord 36 = .ok (.goto (-36), 3) := by decide +kernel
theorem dX7_skipWord_39 : decode cX7_skipWord 39 = .ok (.return_, 1) := by decide +kernel
noncomputable def B_X7_skipWord_0 (k0 : (Unit) → fS → Option (Int32 × fS)) : (Unit) → fS → Option (Int32 × fS) := fun _ S => iv (ge S 40 0 4) (fun x1 => bd (F_X7_byteAt x1 S) (fun v2 S3 => bb (v2 < (97 : Int32)) (some (0, S3)) (iv (ge S3 40 0 4) (fun x6 => bd (F_X7_byteAt x6 S3) (fun v7 S8 => bb ((122 : Int32) < v7) (some (0, S8)) (iv (ge S8 40 0 4) (fun x11 => iv (x11 + (1 : Int32)) (fun x12 => sv (pu S8 40 0 4 x12) (fun S13 => k0 () S13)))))))))
noncomputable def F_X7_skipWord  (S0 : fS) : Option (Int32 × fS) := lp (B_X7_skipWord_0 ) fuel () S0
set_option maxHeartbeats 4000000 in
set_option maxRecDepth 100000 in
theorem c_X7_skipWord (l : Launch) (D : va_G) (K : Nat → ClassId) (b0 : Nat) (sa : sT) (sz : Nat) (L : List Nat) (f0 : Nat → va_E) (ad : Nat → Nat → Nat) (P : Nat → Nat → Prop) {n : Nat × Nat} (hP : ∀ a i : Nat, isn n a i → P a i) (S0 : fS) (hw : PW K ad P S0 L f0) (hn : S0.2.2.1 = n)  (v : Int32) (S1 : fS) (h : F_X7_skipWord  S0 = some (v, S1)) : Met l yX7_skipWord (.code yX7_skipWord cX7_skipWord 1 none :: gt) { frames := 1, cells := 0, slots := 0, locals := 21 } (va_Pc [.ref (ad 40 0)] (hPre D K b0 sa sz L f0)) (hQ D K b0 (fun v9 u9 => ∃ f2 : Nat → va_E, v9 = none ∧ u9 = lU L f2 ∧ PW K ad P S1 L f2 ∧ S1.2.2.1 = n ∧ Kp ad P L f0 f2)) 0 0 (fun q => b0 ≤ q) := by
  refine t_of (own := RX7) (by decide) rfl ?_ (Nat.le_of_ble_eq_true rfl)
  intro p e s m below meth c ls C w hsz hr hlk hnm hl
  have hx := C.1
  have hb := C.2.1
  have hl : lv_has ls 1 [(0, .ref (ad 40 0))] := hl
  have J0 : ∀ (fu : Nat) (S : fS), lp (B_X7_skipWord_0 ) fu () S = some (v, S1) → Gw D K b0 sa ad P n L f0 p l e { frames := 1, cells := 0, slots := 0, locals := 21 } s m [.ref (ad 40 0)].toArray below meth c 1 (MQ below (hQ D K b0 (fun v9 u9 => ∃ f2 : Nat → va_E, v9 = none ∧ u9 = lU L f2 ∧ PW K ad P S1 L f2 ∧ S1.2.2.1 = n ∧ Kp ad P L f0 f2)) [.ref (ad 40 0)].toArray s 0 0 (fun q => b0 ≤ q)) 0 0 0 [(0, .ref (ad 40 0))] [] S := by
    intro fu S h
    refine lp_some (G := (fun q S => Gw D K b0 sa ad P n L f0 p l e { frames := 1, cells := 0, slots := 0, locals := 21 } s m [.ref (ad 40 0)].toArray below meth c 1 (MQ below (hQ D K b0 (fun v9 u9 => ∃ f2 : Nat → va_E, v9 = none ∧ u9 = lU L f2 ∧ PW K ad P S1 L f2 ∧ S1.2.2.1 = n ∧ Kp ad P L f0 f2)) [.ref (ad 40 0)].toArray s 0 0 (fun q => b0 ≤ q)) 0 0 0 [(0, .ref (ad 40 0))] [] S)) (fun k0 hk0 q S h => ?_) fu () S h
    have hk0 : ∀ (S : fS), k0 () S = some (v, S1) → Gw D K b0 sa ad P n L f0 p l e { frames := 1, cells := 0, slots := 0, locals := 21 } s m [.ref (ad 40 0)].toArray below meth c 1 (MQ below (hQ D K b0 (fun v9 u9 => ∃ f2 : Nat → va_E, v9 = none ∧ u9 = lU L f2 ∧ PW K ad P S1 L f2 ∧ S1.2.2.1 = n ∧ Kp ad P L f0 f2)) [.ref (ad 40 0)].toArray s 0 0 (fun q => b0 ≤ q)) 0 0 0 [(0, .ref (ad 40 0))] [] S := fun S h => hk0 () S h
    dsimp only [B_X7_skipWord_0] at h
    intro f H locs w hw hn hk ls hl
    refine lv_aload_n hx hb dX7_skipWord_0 rfl (lv_at hl 0 rfl) ?_
    refine lv_aload_n hx hb dX7_skipWord_1 rfl (lv_at hl 0 rfl) ?_
    refine u_geti C w hw (hP _ _ (isn_f rfl rfl (by decide))) rfl (N := 57) rfl rfl cin_7 4 (by decide) rfl gw_1160 dX7_skipWord_2 ?_
    refine u_iv h (fun x1 h => ?_)
    obtain ⟨v2, S3, h4, h⟩ := bd_some h
    refine u_callV (n := 1) C w hw (hP _ _ (isn_f rfl rfl (by decide))) rfl rfl rfl (c_X7_byteAt l D K b0 sa _ L _ ad P hP S hw hn x1 v2 S3 h4) gw_1379 gw_1376 gw_1378 gs_30 gw_8 ⟨by decide, by decide, by decide +kernel⟩ rfl rfl ⟨by decide, by decide⟩ rfl hl.1 rfl (Nat.le_of_ble_eq_true rfl) dX7_skipWord_5 ⟨Nat.le_of_ble_eq_true rfl, Nat.le_of_ble_eq_true rfl⟩ (fun v9 u H locs hp w => ?_)
    obtain ⟨f2, rfl, rfl, hw, hn, hk1⟩ := hp
    have hk := hk.tr hk1
    generalize f2 = f at w hw hk
    refine lv_bipush (v := 97) hx hb dX7_skipWord_8 (by decide) ?_
    refine lv_icmp_lt (tgt := 39) hx hb dX7_skipWord_10 (by decide) (fun c5 => ?_) (fun c5 => ?_)
    · have h := bb_t h c5
      exact t_vret C hr hlk w ⟨_, rfl, rfl, so_w h hw, so_n h hn, hk⟩ (by decide) (by decide) dX7_skipWord_39
    · have h := bb_f h c5
      refine lv_aload_n hx hb dX7_skipWord_13 rfl (lv_at hl 0 rfl) ?_
      refine lv_aload_n hx hb dX7_skipWord_14 rfl (lv_at hl 0 rfl) ?_
      refine u_geti C w hw (hP _ _ (isn_f rfl rfl (by decide))) rfl (N := 57) rfl rfl cin_7 4 (by decide) rfl gw_1160 dX7_skipWord_15 ?_
      refine u_iv h (fun x6 h => ?_)
      obtain ⟨v7, S8, h9, h⟩ := bd_some h
      refine u_callV (n := 1) C w hw (hP _ _ (isn_f rfl rfl (by decide))) rfl rfl rfl (c_X7_byteAt l D K b0 sa _ L _ ad P hP S3 hw hn x6 v7 S8 h9) gw_1379 gw_1376 gw_1378 gs_30 gw_8 ⟨by decide, by decide, by decide +kernel⟩ rfl rfl ⟨by decide, by decide⟩ rfl hl.1 rfl (Nat.le_of_ble_eq_true rfl) dX7_skipWord_18 ⟨Nat.le_of_ble_eq_true rfl, Nat.le_of_ble_eq_true rfl⟩ (fun v9 u H locs hp w => ?_)
      obtain ⟨f2, rfl, rfl, hw, hn, hk1⟩ := hp
      have hk := hk.tr hk1
      generalize f2 = f at w hw hk
      refine lv_bipush (v := 122) hx hb dX7_skipWord_21 (by decide) ?_
      refine lv_icmp_gt (tgt := 39) hx hb dX7_skipWord_23 (by decide) (fun c10 => ?_) (fun c10 => ?_)
      · have h := bb_t h c10
        exact t_vret C hr hlk w ⟨_, rfl, rfl, so_w h hw, so_n h hn, hk⟩ (by decide) (by decide) dX7_skipWord_39
      · have h := bb_f h c10
        refine lv_aload_n hx hb dX7_skipWord_26 rfl (lv_at hl 0 rfl) ?_
        refine lv_dup hx hb dX7_skipWord_27 rfl ?_
        refine u_geti C w hw (hP _ _ (isn_f rfl rfl (by decide))) rfl (N := 57) rfl rfl cin_7 4 (by decide) rfl gw_1160 dX7_skipWord_28 ?_
        refine u_iv h (fun x11 h => ?_)
        refine lv_iconst (v := 1) hx hb dX7_skipWord_31 (by decide) ?_
        refine lv_iadd hx hb dX7_skipWord_32 ?_
        refine u_iv h (fun x12 h => ?_)
        refine u_puti C w hw (hP _ _ (isn_f rfl rfl (by decide))) rfl (N := 57) rfl rfl cin_7 tyX7 tyX7_ok nmX7 4 (by decide) rfl rfl rfl rfl gw_1160 dX7_skipWord_33 (fun f H locs w hw hk1 => ?_)
        have hk := hk.tr hk1
        refine u_sv h hw hn (fun S13 h hw hn => ?_)
        refine lv_goto (tgt := 0) hx hb dX7_skipWord_36 (by decide) ?_
        exact hk0  S13 h f H locs w hw hn hk ls (lv_sub hl [0] rfl)
  dsimp only [F_X7_skipWord] at h
  obtain ⟨f, ef⟩ : ∃ z, z = f0 := ⟨_, rfl⟩
  rw [← ef] at w hw
  have hk : Kp ad P L f0 f := by rw [ef]; exact Kp.rf
  obtain ⟨H, eH⟩ : ∃ z, z = s.heap := ⟨_, rfl⟩
  obtain ⟨locs, el⟩ : ∃ z : List Loc, z = [] := ⟨_, rfl⟩
  rw [← eH, ← el] at w ⊢
  exact J0  fuel  S0 h f H locs w hw hn hk ls (lv_sub hl [0] rfl)
theorem dX7_sign_0 : decode cX7_sign 0 = .ok (.aload_n 0, 1) := by decide +kernel
theorem dX7_sign_1 : decode cX7_sign 1 = .ok (.invokevirtual 134, 3) := by decide +kernel
theorem dX7_sign_4 : decode cX7_sign 4 = .ok (.aload_n 0, 1) := by decide +kernel
theorem dX7_sign_5 : decode cX7_sign 5 = .ok (.aload_n 0, 1) := by decide +kernel
theorem dX7_sign_6 : decode cX7_sign 6 = .ok (.getfield 113, 3) := by decide +kernel
theorem dX7_sign_9 : decode cX7_sign 9 = .ok (.invokevirtual 116, 3) := by decide +kernel
theorem dX7_sign_12 : decode cX7_sign 12 = .ok (.iload_n 1, 1) := by decide +kernel
theorem dX7_sign_13 : decode cX7_sign 13 = .ok (.if_icmp .ne 16, 3) := by decide +kernel
theorem dX7_sign_16 : decode cX7_sign 16 = .ok (.aload_n 0, 1) := by decide +kernel
theorem dX7_sign_17 : decode cX7_sign 17 = .ok (.dup, 1) := by decide +kernel
theorem dX7_sign_18 : decode cX7_sign 18 = .ok (.getfield 113, 3) := by decide +kernel
theorem dX7_sign_21 : decode cX7_sign 21 = .ok (.iconst 1, 1) := by decide +kernel
theorem dX7_sign_22 : decode cX7_sign 22 = .ok (.iadd, 1) := by decide +kernel
theorem dX7_sign_23 : decode cX7_sign 23 = .ok (.putfield 113, 3) := by decide +kernel
theorem dX7_sign_26 : decode cX7_sign 26 = .ok (.goto 12, 3) := by decide +kernel
theorem dX7_sign_29 : decode cX7_sign 29 = .ok (.aload_n 0, 1) := by decide +kernel
theorem dX7_sign_30 : decode cX7_sign 30 = .ok (.iconst 1, 1) := by decide +kernel
theorem dX7_sign_31 : decode cX7_sign 31 = .ok (.aload_n 0, 1) := by decide +kernel
theorem dX7_sign_32 : decode cX7_sign 32 = .ok (.getfield 113, 3) := by decide +kernel
theorem dX7_sign_35 : decode cX7_sign 35 = .ok (.invokevirtual 130, 3) := by decide +kernel
theorem dX7_sign_38 : decode cX7_sign 38 = .ok (.return_, 1) := by decide +kernel
noncomputable def F_X7_sign (p1 : Int32) (S0 : fS) : Option (Int32 × fS) := bd (F_X7_blanks  S0) (fun v1 S2 => iv (ge S2 40 0 4) (fun x4 => bd (F_X7_byteAt x4 S2) (fun v5 S6 => bb (v5 = p1) (iv (ge S6 40 0 4) (fun x13 => iv (x13 + (1 : Int32)) (fun x14 => sv (pu S6 40 0 4 x14) (fun S15 => some (0, S15))))) (iv (ge S6 40 0 4) (fun x9 => bd (F_X7_wrong 1 x9 S6) (fun v10 S11 => some (0, S11)))))))
set_option maxHeartbeats 4000000 in
set_option maxRecDepth 100000 in
theorem c_X7_sign (l : Launch) (D : va_G) (K : Nat → ClassId) (b0 : Nat) (sa : sT) (sz : Nat) (L : List Nat) (f0 : Nat → va_E) (ad : Nat → Nat → Nat) (P : Nat → Nat → Prop) {n : Nat × Nat} (hP : ∀ a i : Nat, isn n a i → P a i) (S0 : fS) (hw : PW K ad P S0 L f0) (hn : S0.2.2.1 = n) (p1 : Int32) (v : Int32) (S1 : fS) (h : F_X7_sign p1 S0 = some (v, S1)) : Met l yX7_sign (.code yX7_sign cX7_sign 2 none :: gt) { frames := 2, cells := 0, slots := 0, locals := 41 } (va_Pc [.ref (ad 40 0), .int p1] (hPre D K b0 sa sz L f0)) (hQ D K b0 (fun v9 u9 => ∃ f2 : Nat → va_E, v9 = none ∧ u9 = lU L f2 ∧ PW K ad P S1 L f2 ∧ S1.2.2.1 = n ∧ Kp ad P L f0 f2)) 0 0 (fun q => b0 ≤ q) := by
  refine t_of (own := RX7) (by decide) rfl ?_ (Nat.le_of_ble_eq_true rfl)
  intro p e s m below meth c ls C w hsz hr hlk hnm hl
  have hx := C.1
  have hb := C.2.1
  have hl : lv_has ls 2 [(0, .ref (ad 40 0)), (1, .int p1)] := hl
  dsimp only [F_X7_sign] at h
  obtain ⟨f, ef⟩ : ∃ z, z = f0 := ⟨_, rfl⟩
  rw [← ef] at w hw
  have hk : Kp ad P L f0 f := by rw [ef]; exact Kp.rf
  obtain ⟨H, eH⟩ : ∃ z, z = s.heap := ⟨_, rfl⟩
  obtain ⟨locs, el⟩ : ∃ z : List Loc, z = [] := ⟨_, rfl⟩
  rw [← eH, ← el] at w ⊢
  refine lv_aload_n hx hb dX7_sign_0 rfl (lv_at hl 0 rfl) ?_
  obtain ⟨v1, S2, h3, h⟩ := bd_some h
  refine u_callV (n := 0) C w hw (hP _ _ (isn_f rfl rfl (by decide))) rfl rfl rfl (c_X7_blanks l D K b0 sa _ L _ ad P hP S0 hw hn  v1 S2 h3) gw_1375 gw_1372 gw_1374 gs_29 gw_8 ⟨by decide, by decide, by decide +kernel⟩ rfl rfl ⟨by decide, by decide⟩ rfl hl.1 rfl (Nat.le_of_ble_eq_true rfl) dX7_sign_1 ⟨Nat.le_of_ble_eq_true rfl, Nat.le_of_ble_eq_true rfl⟩ (fun v9 u H locs hp w => ?_)
  obtain ⟨f2, rfl, rfl, hw, hn, hk1⟩ := hp
  have hk := hk.tr hk1
  generalize f2 = f at w hw hk
  refine lv_aload_n hx hb dX7_sign_4 rfl (lv_at hl 0 rfl) ?_
  refine lv_aload_n hx hb dX7_sign_5 rfl (lv_at hl 0 rfl) ?_
  refine u_geti C w hw (hP _ _ (isn_f rfl rfl (by decide))) rfl (N := 57) rfl rfl cin_7 4 (by decide) rfl gw_1160 dX7_sign_6 ?_
  refine u_iv h (fun x4 h => ?_)
  obtain ⟨v5, S6, h7, h⟩ := bd_some h
  refine u_callV (n := 1) C w hw (hP _ _ (isn_f rfl rfl (by decide))) rfl rfl rfl (c_X7_byteAt l D K b0 sa _ L _ ad P hP S2 hw hn x4 v5 S6 h7) gw_1379 gw_1376 gw_1378 gs_30 gw_8 ⟨by decide, by decide, by decide +kernel⟩ rfl rfl ⟨by decide, by decide⟩ rfl hl.1 rfl (Nat.le_of_ble_eq_true rfl) dX7_sign_9 ⟨Nat.le_of_ble_eq_true rfl, Nat.le_of_ble_eq_true rfl⟩ (fun v9 u H locs hp w => ?_)
  obtain ⟨f2, rfl, rfl, hw, hn, hk1⟩ := hp
  have hk := hk.tr hk1
  generalize f2 = f at w hw hk
  refine lv_iload_n hx hb dX7_sign_12 rfl (lv_at hl 1 rfl) ?_
  refine lv_icmp_ne (tgt := 29) hx hb dX7_sign_13 (by decide) (fun c8 => ?_) (fun c8 => ?_)
  · have h := bb_f h c8
    refine lv_aload_n hx hb dX7_sign_29 rfl (lv_at hl 0 rfl) ?_
    refine lv_iconst (v := 1) hx hb dX7_sign_30 (by decide) ?_
    refine lv_aload_n hx hb dX7_sign_31 rfl (lv_at hl 0 rfl) ?_
    refine u_geti C w hw (hP _ _ (isn_f rfl rfl (by decide))) rfl (N := 57) rfl rfl cin_7 4 (by decide) rfl gw_1160 dX7_sign_32 ?_
    refine u_iv h (fun x9 h => ?_)
    obtain ⟨v10, S11, h12, h⟩ := bd_some h
    refine u_callV (n := 2) C w hw (hP _ _ (isn_f rfl rfl (by decide))) rfl rfl rfl (c_X7_wrong l D K b0 sa _ L _ ad P hP S6 hw hn 1 x9 v10 S11 h12) gw_1390 gw_1387 gw_1389 gs_32 gw_8 ⟨by decide, by decide, by decide +kernel⟩ rfl rfl ⟨by decide, by decide⟩ rfl hl.1 rfl (Nat.le_of_ble_eq_true rfl) dX7_sign_35 ⟨Nat.le_of_ble_eq_true rfl, Nat.le_of_ble_eq_true rfl⟩ (fun v9 u H locs hp w => ?_)
    obtain ⟨f2, rfl, rfl, hw, hn, hk1⟩ := hp
    have hk := hk.tr hk1
    generalize f2 = f at w hw hk
    exact t_vret C hr hlk w ⟨_, rfl, rfl, so_w h hw, so_n h hn, hk⟩ (by decide) (by decide) dX7_sign_38
  · have h := bb_t h c8
    refine lv_aload_n hx hb dX7_sign_16 rfl (lv_at hl 0 rfl) ?_
    refine lv_dup hx hb dX7_sign_17 rfl ?_
    refine u_geti C w hw (hP _ _ (isn_f rfl rfl (by decide))) rfl (N := 57) rfl rfl cin_7 4 (by decide) rfl gw_1160 dX7_sign_18 ?_
    refine u_iv h (fun x13 h => ?_)
    refine lv_iconst (v := 1) hx hb dX7_sign_21 (by decide) ?_
    refine lv_iadd hx hb dX7_sign_22 ?_
    refine u_iv h (fun x14 h => ?_)
    refine u_puti C w hw (hP _ _ (isn_f rfl rfl (by decide))) rfl (N := 57) rfl rfl cin_7 tyX7 tyX7_ok nmX7 4 (by decide) rfl rfl rfl rfl gw_1160 dX7_sign_23 (fun f H locs w hw hk1 => ?_)
    have hk := hk.tr hk1
    refine u_sv h hw hn (fun S15 h hw hn => ?_)
    refine lv_goto (tgt := 38) hx hb dX7_sign_26 (by decide) ?_
    exact t_vret C hr hlk w ⟨_, rfl, rfl, so_w h hw, so_n h hn, hk⟩ (by decide) (by decide) dX7_sign_38
theorem dX7_opens_0 : decode cX7_opens 0 = .ok (.aload_n 0, 1) := by decide +kernel
theorem dX7_opens_1 : decode cX7_opens 1 = .ok (.getfield 145, 3) := by decide +kernel
theorem dX7_opens_4 : decode cX7_opens 4 = .ok (.bipush 6, 2) := by decide +kernel
theorem dX7_opens_6 : decode cX7_opens 6 = .ok (.if_icmp .ne 12, 3) := by decide +kernel
theorem dX7_opens_9 : decode cX7_opens 9 = .ok (.aload_n 0, 1) := by decide +kernel
theorem dX7_opens_10 : decode cX7_opens 10 = .ok (.iconst 3, 1) := by decide +kernel
theorem dX7_opens_11 : decode cX7_opens 11 = .ok (.aload_n 0, 1) := by decide +kernel
theorem dX7_opens_12 : decode cX7_opens 12 = .ok (.getfield 113, 3) := by decide +kernel
theorem dX7_opens_15 : decode cX7_opens 15 = .ok (.invokevirtual 130, 3) := by decide +kernel
theorem dX7_opens_18 : decode cX7_opens 18 = .ok (.aload_n 0, 1) := by decide +kernel
theorem dX7_opens_19 : decode cX7_opens 19 = .ok (.dup, 1) := by decide +kernel
theorem dX7_opens_20 : decode cX7_opens 20 = .ok (.getfield 145, 3) := by decide +kernel
theorem dX7_opens_23 : decode cX7_opens 23 = .ok (.iconst 1, 1) := by decide +kernel
theorem dX7_opens_24 : decode cX7_opens 24 = .ok (.iadd, 1) := by decide +kernel
theorem dX7_opens_25 : decode cX7_opens 25 = .ok (.putfield 145, 3) := by decide +kernel
theorem dX7_opens_28 : decode cX7_opens 28 = .ok (.aload_n 0, 1) := by decide +kernel
theorem dX7_opens_29 : decode cX7_opens 29 = .ok (.dup, 1) := by decide +kernel
theorem dX7_opens_30 : decode cX7_opens 30 = .ok (.getfield 113, 3) := by decide +kernel
theorem dX7_opens_33 : decode cX7_opens 33 = .ok (.iload_n 1, 1) := by decide +kernel
theorem dX7_opens_34 : decode cX7_opens 34 = .ok (.iadd, 1) := by decide +kernel
theorem dX7_opens_35 : decode cX7_opens 35 = .ok (.putfield 113, 3) := by decide +kernel
theorem dX7_opens_38 : decode cX7_opens 38 = .ok (.return_, 1) := by decide +kernel
noncomputable def B_X7_opens_18 (a1 : Int32) (S : fS) : Option (Int32 × fS) := iv (ge S 40 0 5) (fun x1 => iv (x1 + (1 : Int32)) (fun x2 => sv (pu S 40 0 5 x2) (fun S3 => iv (ge S3 40 0 4) (fun x4 => iv (x4 + a1) (fun x5 => sv (pu S3 40 0 4 x5) (fun S6 => some (0, S6)))))))
noncomputable def F_X7_opens (p1 : Int32) (S0 : fS) : Option (Int32 × fS) := iv (ge S0 40 0 5) (fun x7 => bb (x7 = (6 : Int32)) (iv (ge S0 40 0 4) (fun x9 => bd (F_X7_wrong 3 x9 S0) (fun v10 S11 => B_X7_opens_18  p1 S11))) (B_X7_opens_18  p1 S0))
set_option maxHeartbeats 4000000 in
set_option maxRecDepth 100000 in
theorem c_X7_opens (l : Launch) (D : va_G) (K : Nat → ClassId) (b0 : Nat) (sa : sT) (sz : Nat) (L : List Nat) (f0 : Nat → va_E) (ad : Nat → Nat → Nat) (P : Nat → Nat → Prop) {n : Nat × Nat} (hP : ∀ a i : Nat, isn n a i → P a i) (S0 : fS) (hw : PW K ad P S0 L f0) (hn : S0.2.2.1 = n) (p1 : Int32) (v : Int32) (S1 : fS) (h : F_X7_opens p1 S0 = some (v, S1)) : Met l yX7_opens (.code yX7_opens cX7_opens 2 none :: gt) { frames := 1, cells := 0, slots := 0, locals := 22 } (va_Pc [.ref (ad 40 0), .int p1] (hPre D K b0 sa sz L f0)) (hQ D K b0 (fun v9 u9 => ∃ f2 : Nat → va_E, v9 = none ∧ u9 = lU L f2 ∧ PW K ad P S1 L f2 ∧ S1.2.2.1 = n ∧ Kp ad P L f0 f2)) 0 0 (fun q => b0 ≤ q) := by
  refine t_of (own := RX7) (by decide) rfl ?_ (Nat.le_of_ble_eq_true rfl)
  intro p e s m below meth c ls C w hsz hr hlk hnm hl
  have hx := C.1
  have hb := C.2.1
  have hl : lv_has ls 2 [(0, .ref (ad 40 0)), (1, .int p1)] := hl
  have J18 : ∀ (a1 : Int32) (S : fS), B_X7_opens_18  a1 S = some (v, S1) → Gw D K b0 sa ad P n L f0 p l e { frames := 1, cells := 0, slots := 0, locals := 22 } s m [.ref (ad 40 0), .int p1].toArray below meth c 2 (MQ below (hQ D K b0 (fun v9 u9 => ∃ f2 : Nat → va_E, v9 = none ∧ u9 = lU L f2 ∧ PW K ad P S1 L f2 ∧ S1.2.2.1 = n ∧ Kp ad P L f0 f2)) [.ref (ad 40 0), .int p1].toArray s 0 0 (fun q => b0 ≤ q)) 0 0 18 [(0, .ref (ad 40 0)), (1, .int a1)] [] S := by
    intro a1 S h
    dsimp only [B_X7_opens_18] at h
    intro f H locs w hw hn hk ls hl
    refine lv_aload_n hx hb dX7_opens_18 rfl (lv_at hl 0 rfl) ?_
    refine lv_dup hx hb dX7_opens_19 rfl ?_
    refine u_geti C w hw (hP _ _ (isn_f rfl rfl (by decide))) rfl (N := 57) rfl rfl cin_7 5 (by decide) rfl gw_1161 dX7_opens_20 ?_
    refine u_iv h (fun x1 h => ?_)
    refine lv_iconst (v := 1) hx hb dX7_opens_23 (by decide) ?_
    refine lv_iadd hx hb dX7_opens_24 ?_
    refine u_iv h (fun x2 h => ?_)
    refine u_puti C w hw (hP _ _ (isn_f rfl rfl (by decide))) rfl (N := 57) rfl rfl cin_7 tyX7 tyX7_ok nmX7 5 (by decide) rfl rfl rfl rfl gw_1161 dX7_opens_25 (fun f H locs w hw hk1 => ?_)
    have hk := hk.tr hk1
    refine u_sv h hw hn (fun S3 h hw hn => ?_)
    refine lv_aload_n hx hb dX7_opens_28 rfl (lv_at hl 0 rfl) ?_
    refine lv_dup hx hb dX7_opens_29 rfl ?_
    refine u_geti C w hw (hP _ _ (isn_f rfl rfl (by decide))) rfl (N := 57) rfl rfl cin_7 4 (by decide) rfl gw_1160 dX7_opens_30 ?_
    refine u_iv h (fun x4 h => ?_)
    refine lv_iload_n hx hb dX7_opens_33 rfl (lv_at hl 1 rfl) ?_
    refine lv_iadd hx hb dX7_opens_34 ?_
    refine u_iv h (fun x5 h => ?_)
    refine u_puti C w hw (hP _ _ (isn_f rfl rfl (by decide))) rfl (N := 57) rfl rfl cin_7 tyX7 tyX7_ok nmX7 4 (by decide) rfl rfl rfl rfl gw_1160 dX7_opens_35 (fun f H locs w hw hk1 => ?_)
    have hk := hk.tr hk1
    refine u_sv h hw hn (fun S6 h hw hn => ?_)
    exact t_vret C hr hlk w ⟨_, rfl, rfl, so_w h hw, so_n h hn, hk⟩ (by decide) (by decide) dX7_opens_38
  dsimp only [F_X7_opens] at h
  obtain ⟨f, ef⟩ : ∃ z, z = f0 := ⟨_, rfl⟩
  rw [← ef] at w hw
  have hk : Kp ad P L f0 f := by rw [ef]; exact Kp.rf
  obtain ⟨H, eH⟩ : ∃ z, z = s.heap := ⟨_, rfl⟩
  obtain ⟨locs, el⟩ : ∃ z : List Loc, z = [] := ⟨_, rfl⟩
  rw [← eH, ← el] at w ⊢
  refine lv_aload_n hx hb dX7_opens_0 rfl (lv_at hl 0 rfl) ?_
  refine u_geti C w hw (hP _ _ (isn_f rfl rfl (by decide))) rfl (N := 57) rfl rfl cin_7 5 (by decide) rfl gw_1161 dX7_opens_1 ?_
  refine u_iv h (fun x7 h => ?_)
  refine lv_bipush (v := 6) hx hb dX7_opens_4 (by decide) ?_
  refine lv_icmp_ne (tgt := 18) hx hb dX7_opens_6 (by decide) (fun c8 => ?_) (fun c8 => ?_)
  · have h := bb_f h c8
    exact J18  p1 S0 h f H locs w hw hn hk ls (lv_sub hl [0, 1] rfl)
  · have h := bb_t h c8
    refine lv_aload_n hx hb dX7_opens_9 rfl (lv_at hl 0 rfl) ?_
    refine lv_iconst (v := 3) hx hb dX7_opens_10 (by decide) ?_
    refine lv_aload_n hx hb dX7_opens_11 rfl (lv_at hl 0 rfl) ?_
    refine u_geti C w hw (hP _ _ (isn_f rfl rfl (by decide))) rfl (N := 57) rfl rfl cin_7 4 (by decide) rfl gw_1160 dX7_opens_12 ?_
    refine u_iv h (fun x9 h => ?_)
    obtain ⟨v10, S11, h12, h⟩ := bd_some h
    refine u_callV (n := 2) C w hw (hP _ _ (isn_f rfl rfl (by decide))) rfl rfl rfl (c_X7_wrong l D K b0 sa _ L _ ad P hP S0 hw hn 3 x9 v10 S11 h12) gw_1390 gw_1387 gw_1389 gs_32 gw_8 ⟨by decide, by decide, by decide +kernel⟩ rfl rfl ⟨by decide, by decide⟩ rfl hl.1 rfl (Nat.le_of_ble_eq_true rfl) dX7_opens_15 ⟨Nat.le_of_ble_eq_true rfl, Nat.le_of_ble_eq_true rfl⟩ (fun v9 u H locs hp w => ?_)
    obtain ⟨f2, rfl, rfl, hw, hn, hk1⟩ := hp
    have hk := hk.tr hk1
    generalize f2 = f at w hw hk
    exact J18  p1 S11 h f H locs w hw hn hk ls (lv_sub hl [0, 1] rfl)
theorem dX7_nameHere_0 : decode cX7_nameHere 0 = .ok (.aload_n 0, 1) := by decide +kernel
theorem dX7_nameHere_1 : decode cX7_nameHere 1 = .ok (.bipush 20, 2) := by decide +kernel
theorem dX7_nameHere_3 : decode cX7_nameHere 3 = .ok (.bipush 18, 2) := by decide +kernel
theorem dX7_nameHere_5 : decode cX7_nameHere 5 = .ok (.bipush 9, 2) := by decide +kernel
theorem dX7_nameHere_7 : decode cX7_nameHere 7 = .ok (.iconst 5, 1) := by decide +kernel
theorem dX7_nameHere_8 : decode cX7_nameHere 8 = .ok (.bipush 19, 2) := by decide +kernel
theorem dX7_nameHere_10 : decode cX7_nameHere 10 = .ok (.invokevirtual 148, 3) := by decide +kernel
theorem dX7_nameHere_13 : decode cX7_nameHere 13 = .ok (.ifCond .eq 5, 3) := by decide +kernel
theorem dX7_nameHere_16 : decode cX7_nameHere 16 = .ok (.iconst 0, 1) := by decide +kernel
theorem dX7_nameHere_17 : decode cX7_nameHere 17 = .ok (.ireturn, 1) := by decide +kernel
theorem dX7_nameHere_18 : decode cX7_nameHere 18 = .ok (.aload_n 0, 1) := by decide +kernel
theorem dX7_nameHere_19 : decode cX7_nameHere 19 = .ok (.bipush 19, 2) := by decide +kernel
theorem dX7_nameHere_21 : decode cX7_nameHere 21 = .ok (.bipush 9, 2) := by decide +kernel
theorem dX7_nameHere_23 : decode cX7_nameHere 23 = .ok (.bipush 14, 2) := by decide +kernel
theorem dX7_nameHere_25 : decode cX7_nameHere 25 = .ok (.iconst 3, 1) := by decide +kernel
theorem dX7_nameHere_26 : decode cX7_nameHere 26 = .ok (.iconst 5, 1) := by decide +kernel
theorem dX7_nameHere_27 : decode cX7_nameHere 27 = .ok (.invokevirtual 148, 3) := by decide +kernel
theorem dX7_nameHere_30 : decode cX7_nameHere 30 = .ok (.ifCond .eq 5, 3) := by decide +kernel
theorem dX7_nameHere_33 : decode cX7_nameHere 33 = .ok (.iconst 1, 1) := by decide +kernel
theorem dX7_nameHere_34 : decode cX7_nameHere 34 = .ok (.ireturn, 1) := by decide +kernel
theorem dX7_nameHere_35 : decode cX7_nameHere 35 = .ok (.aload_n 0, 1) := by decide +kernel
theorem dX7_nameHere_36 : decode cX7_nameHere 36 = .ok (.iconst 3, 1) := by decide +kernel
theorem dX7_nameHere_37 : decode cX7_nameHere 37 = .ok (.bipush 15, 2) := by decide +kernel
theorem dX7_nameHere_39 : decode cX7_nameHere 39 = .ok (.bipush 9, 2) := by decide +kernel
theorem dX7_nameHere_41 : decode cX7_nameHere 41 = .ok (.bipush 14, 2) := by decide +kernel
theorem dX7_nameHere_43 : decode cX7_nameHere 43 = .ok (.bipush 19, 2) := by decide +kernel
theorem dX7_nameHere_45 : decode cX7_nameHere 45 = .ok (.invokevirtual 148, 3) := by decide +kernel
theorem dX7_nameHere_48 : decode cX7_nameHere 48 = .ok (.ifCond .eq 5, 3) := by decide +kernel
theorem dX7_nameHere_51 : decode cX7_nameHere 51 = .ok (.iconst 2, 1) := by decide +kernel
theorem dX7_nameHere_52 : decode cX7_nameHere 52 = .ok (.ireturn, 1) := by decide +kernel
theorem dX7_nameHere_53 : decode cX7_nameHere 53 = .ok (.aload_n 0, 1) := by decide +kernel
theorem dX7_nameHere_54 : decode cX7_nameHere 54 = .ok (.bipush 16, 2) := by decide +kernel
theorem dX7_nameHere_56 : decode cX7_nameHere 56 = .ok (.iconst 1, 1) := by decide +kernel
theorem dX7_nameHere_57 : decode cX7_nameHere 57 = .ok (.bipush 9, 2) := by decide +kernel
theorem dX7_nameHere_59 : decode cX7_nameHere 59 = .ok (.iconst 4, 1) := by decide +kernel
theorem dX7_nameHere_60 : decode cX7_nameHere 60 = .ok (.iconst 0, 1) := by decide +kernel
theorem dX7_nameHere_61 : decode cX7_nameHere 61 = .ok (.invokevirtual 148, 3) := by decide +kernel
theorem dX7_nameHere_64 : decode cX7_nameHere 64 = .ok (.ifCond .eq 5, 3) := by decide +kernel
theorem dX7_nameHere_67 : decode cX7_nameHere 67 = .ok (.iconst 3, 1) := by decide +kernel
theorem dX7_nameHere_68 : decode cX7_nameHere 68 = .ok (.ireturn, 1) := by decide +kernel
theorem dX7_nameHere_69 : decode cX7_nameHere 69 = .ok (.aload_n 0, 1) := by decide +kernel
theorem dX7_nameHere_70 : decode cX7_nameHere 70 = .ok (.bipush 8, 2) := by decide +kernel
theorem dX7_nameHere_72 : decode cX7_nameHere 72 = .ok (.bipush 15, 2) := by decide +kernel
theorem dX7_nameHere_74 : decode cX7_nameHere 74 = .ok (.bipush 21, 2) := by decide +kernel
theorem dX7_nameHere_76 : decode cX7_nameHere 76 = .ok (.bipush 18, 2) := by decide +kernel
theorem dX7_nameHere_78 : decode cX7_nameHere 78 = .ok (.iconst 0, 1) := by decide +kernel
theorem dX7_nameHere_79 : decode cX7_nameHere 79 = .ok (.invokevirtual 148, 3) := by decide +kernel
theorem dX7_nameHere_82 : decode cX7_nameHere 82 = .ok (.ifCond .eq 5, 3) := by decide +kernel
theorem dX7_nameHere_85 : decode cX7_nameHere 85 = .ok (.iconst 4, 1) := by decide +kernel
theorem dX7_nameHere_86 : decode cX7_nameHere 86 = .ok (.ireturn, 1) := by decide +kernel
theorem dX7_nameHere_87 : decode cX7_nameHere 87 = .ok (.aload_n 0, 1) := by decide +kernel
theorem dX7_nameHere_88 : decode cX7_nameHere 88 = .ok (.bipush 12, 2) := by decide +kernel
theorem dX7_nameHere_90 : decode cX7_nameHere 90 = .ok (.bipush 15, 2) := by decide +kernel
theorem dX7_nameHere_92 : decode cX7_nameHere 92 = .ok (.bipush 20, 2) := by decide +kernel
theorem dX7_nameHere_94 : decode cX7_nameHere 94 = .ok (.iconst 0, 1) := by decide +kernel
theorem dX7_nameHere_95 : decode cX7_nameHere 95 = .ok (.iconst 0, 1) := by decide +kernel
theorem dX7_nameHere_96 : decode cX7_nameHere 96 = .ok (.invokevirtual 148, 3) := by decide +kernel
theorem dX7_nameHere_99 : decode cX7_nameHere 99 = .ok (.ifCond .eq 5, 3) := by decide +kernel
theorem dX7_nameHere_102 : decode cX7_nameHere 102 = .ok (.iconst 5, 1) := by decide +kernel
theorem dX7_nameHere_103 : decode cX7_nameHere 103 = .ok (.ireturn, 1) := by decide +kernel
theorem dX7_nameHere_104 : decode cX7_nameHere 104 = .ok (.aload_n 0, 1) := by decide +kernel
theorem dX7_nameHere_105 : decode cX7_nameHere 105 = .ok (.getfield 152, 3) := by decide +kernel
theorem dX7_nameHere_108 : decode cX7_nameHere 108 = .ok (.ifCond .eq 21, 3) := by decide +kernel
theorem dX7_nameHere_111 : decode cX7_nameHere 111 = .ok (.aload_n 0, 1) := by decide +kernel
theorem dX7_nameHere_112 : decode cX7_nameHere 112 = .ok (.iconst 3, 1) := by decide +kernel
theorem dX7_nameHere_113 : decode cX7_nameHere 113 = .ok (.iconst 1, 1) := by decide +kernel
theorem dX7_nameHere_114 : decode cX7_nameHere 114 = .ok (.bipush 14, 2) := by decide +kernel
theorem dX7_nameHere_116 : decode cX7_nameHere 116 = .ok (.iconst 0, 1) := by decide +kernel
theorem dX7_nameHere_117 : decode cX7_nameHere 117 = .ok (.iconst 0, 1) := by decide +kernel
theorem dX7_nameHere_118 : decode cX7_nameHere 118 = .ok (.invokevirtual 148, 3) := by decide +kernel
theorem dX7_nameHere_121 : decode cX7_nameHere 121 = .ok (.ifCond .eq 8, 3) := by decide +kernel
theorem dX7_nameHere_124 : decode cX7_nameHere 124 = .ok (.bipush 6, 2) := by decide +kernel
theorem dX7_nameHere_126 : decode cX7_nameHere 126 = .ok (.goto 4, 3) := by decide +kernel
theorem dX7_nameHere_129 : decode cX7_nameHere 129 = .ok (.iconst (-1), 1) := by decide +kernel
theorem dX7_nameHere_130 : decode cX7_nameHere 130 = .ok (.ireturn, 1) := by decide +kernel
noncomputable def F_X7_nameHere  (S0 : fS) : Option (Int32 × fS) := bd (F_X7_isWord 20 18 9 5 19 S0) (fun v1 S2 => bb (v1 = (0 : Int32)) (bd (F_X7_isWord 19 9 14 3 5 S2) (fun v5 S6 => bb (v5 = (0 : Int32)) (bd (F_X7_isWord 3 15 9 14 19 S6) (fun v9 S10 => bb (v9 = (0 : Int32)) (bd (F_X7_isWord 16 1 9 4 0 S10) (fun v13 S14 => bb (v13 = (0 : Int32)) (bd (F_X7_isWord 8 15 21 18 0 S14) (fun v17 S18 => bb (v17 = (0 : Int32)) (bd (F_X7_isWord 12 15 20 0 0 S18) (fun v21 S22 => bb (v21 = (0 : Int32)) (iv (ge S22 40 0 16) (fun x25 => bb (x25 = (0 : Int32)) (some ((-1), S22)) (bd (F_X7_isWord 3 1 14 0 0 S22) (fun v27 S28 => bb (v27 = (0 : Int32)) (some ((-1), S28)) (some (6, S28)))))) (some (5, S22)))) (some (4, S18)))) (some (3, S14)))) (some (2, S10)))) (some (1, S6)))) (some (0, S2)))
set_option maxHeartbeats 4000000 in
set_option maxRecDepth 100000 in
theorem c_X7_nameHere (l : Launch) (D : va_G) (K : Nat → ClassId) (b0 : Nat) (sa : sT) (sz : Nat) (L : List Nat) (f0 : Nat → va_E) (ad : Nat → Nat → Nat) (P : Nat → Nat → Prop) {n : Nat × Nat} (hP : ∀ a i : Nat, isn n a i → P a i) (S0 : fS) (hw : PW K ad P S0 L f0) (hn : S0.2.2.1 = n)  (v : Int32) (S1 : fS) (h : F_X7_nameHere  S0 = some (v, S1)) : Met l yX7_nameHere (.code yX7_nameHere cX7_nameHere 1 (some .int) :: gt) { frames := 4, cells := 0, slots := 0, locals := 88 } (va_Pc [.ref (ad 40 0)] (hPre D K b0 sa sz L f0)) (hQ D K b0 (fun v9 u9 => ∃ f2 : Nat → va_E, v9 = some (.int v) ∧ u9 = lU L f2 ∧ PW K ad P S1 L f2 ∧ S1.2.2.1 = n ∧ Kp ad P L f0 f2)) 0 0 (fun q => b0 ≤ q) := by
  refine t_of (own := RX7) (by decide) rfl ?_ (Nat.le_of_ble_eq_true rfl)
  intro p e s m below meth c ls C w hsz hr hlk hnm hl
  have hx := C.1
  have hb := C.2.1
  have hl : lv_has ls 1 [(0, .ref (ad 40 0))] := hl
  dsimp only [F_X7_nameHere] at h
  obtain ⟨f, ef⟩ : ∃ z, z = f0 := ⟨_, rfl⟩
  rw [← ef] at w hw
  have hk : Kp ad P L f0 f := by rw [ef]; exact Kp.rf
  obtain ⟨H, eH⟩ : ∃ z, z = s.heap := ⟨_, rfl⟩
  obtain ⟨locs, el⟩ : ∃ z : List Loc, z = [] := ⟨_, rfl⟩
  rw [← eH, ← el] at w ⊢
  refine lv_aload_n hx hb dX7_nameHere_0 rfl (lv_at hl 0 rfl) ?_
  refine lv_bipush (v := 20) hx hb dX7_nameHere_1 (by decide) ?_
  refine lv_bipush (v := 18) hx hb dX7_nameHere_3 (by decide) ?_
  refine lv_bipush (v := 9) hx hb dX7_nameHere_5 (by decide) ?_
  refine lv_iconst (v := 5) hx hb dX7_nameHere_7 (by decide) ?_
  refine lv_bipush (v := 19) hx hb dX7_nameHere_8 (by decide) ?_
  obtain ⟨v1, S2, h3, h⟩ := bd_some h
  refine u_callV (n := 5) C w hw (hP _ _ (isn_f rfl rfl (by decide))) rfl rfl rfl (c_X7_isWord l D K b0 sa _ L _ ad P hP S0 hw hn 20 18 9 5 19 v1 S2 h3) gw_1367 gw_1364 gw_1366 gs_27 gw_8 ⟨by decide, by decide, by decide +kernel⟩ rfl rfl ⟨by decide, by decide⟩ rfl hl.1 rfl (Nat.le_of_ble_eq_true rfl) dX7_nameHere_10 ⟨Nat.le_of_ble_eq_true rfl, Nat.le_of_ble_eq_true rfl⟩ (fun v9 u H locs hp w => ?_)
  obtain ⟨f2, rfl, rfl, hw, hn, hk1⟩ := hp
  have hk := hk.tr hk1
  generalize f2 = f at w hw hk
  refine lv_if_eq (tgt := 18) hx hb dX7_nameHere_13 (by decide) (fun c4 => ?_) (fun c4 => ?_)
  · have h := bb_t h c4
    refine lv_aload_n hx hb dX7_nameHere_18 rfl (lv_at hl 0 rfl) ?_
    refine lv_bipush (v := 19) hx hb dX7_nameHere_19 (by decide) ?_
    refine lv_bipush (v := 9) hx hb dX7_nameHere_21 (by decide) ?_
    refine lv_bipush (v := 14) hx hb dX7_nameHere_23 (by decide) ?_
    refine lv_iconst (v := 3) hx hb dX7_nameHere_25 (by decide) ?_
    refine lv_iconst (v := 5) hx hb dX7_nameHere_26 (by decide) ?_
    obtain ⟨v5, S6, h7, h⟩ := bd_some h
    refine u_callV (n := 5) C w hw (hP _ _ (isn_f rfl rfl (by decide))) rfl rfl rfl (c_X7_isWord l D K b0 sa _ L _ ad P hP S2 hw hn 19 9 14 3 5 v5 S6 h7) gw_1367 gw_1364 gw_1366 gs_27 gw_8 ⟨by decide, by decide, by decide +kernel⟩ rfl rfl ⟨by decide, by decide⟩ rfl hl.1 rfl (Nat.le_of_ble_eq_true rfl) dX7_nameHere_27 ⟨Nat.le_of_ble_eq_true rfl, Nat.le_of_ble_eq_true rfl⟩ (fun v9 u H locs hp w => ?_)
    obtain ⟨f2, rfl, rfl, hw, hn, hk1⟩ := hp
    have hk := hk.tr hk1
    generalize f2 = f at w hw hk
    refine lv_if_eq (tgt := 35) hx hb dX7_nameHere_30 (by decide) (fun c8 => ?_) (fun c8 => ?_)
    · have h := bb_t h c8
      refine lv_aload_n hx hb dX7_nameHere_35 rfl (lv_at hl 0 rfl) ?_
      refine lv_iconst (v := 3) hx hb dX7_nameHere_36 (by decide) ?_
      refine lv_bipush (v := 15) hx hb dX7_nameHere_37 (by decide) ?_
      refine lv_bipush (v := 9) hx hb dX7_nameHere_39 (by decide) ?_
      refine lv_bipush (v := 14) hx hb dX7_nameHere_41 (by decide) ?_
      refine lv_bipush (v := 19) hx hb dX7_nameHere_43 (by decide) ?_
      obtain ⟨v9, S10, h11, h⟩ := bd_some h
      refine u_callV (n := 5) C w hw (hP _ _ (isn_f rfl rfl (by decide))) rfl rfl rfl (c_X7_isWord l D K b0 sa _ L _ ad P hP S6 hw hn 3 15 9 14 19 v9 S10 h11) gw_1367 gw_1364 gw_1366 gs_27 gw_8 ⟨by decide, by decide, by decide +kernel⟩ rfl rfl ⟨by decide, by decide⟩ rfl hl.1 rfl (Nat.le_of_ble_eq_true rfl) dX7_nameHere_45 ⟨Nat.le_of_ble_eq_true rfl, Nat.le_of_ble_eq_true rfl⟩ (fun v9 u H locs hp w => ?_)
      obtain ⟨f2, rfl, rfl, hw, hn, hk1⟩ := hp
      have hk := hk.tr hk1
      generalize f2 = f at w hw hk
      refine lv_if_eq (tgt := 53) hx hb dX7_nameHere_48 (by decide) (fun c12 => ?_) (fun c12 => ?_)
      · have h := bb_t h c12
        refine lv_aload_n hx hb dX7_nameHere_53 rfl (lv_at hl 0 rfl) ?_
        refine lv_bipush (v := 16) hx hb dX7_nameHere_54 (by decide) ?_
        refine lv_iconst (v := 1) hx hb dX7_nameHere_56 (by decide) ?_
        refine lv_bipush (v := 9) hx hb dX7_nameHere_57 (by decide) ?_
        refine lv_iconst (v := 4) hx hb dX7_nameHere_59 (by decide) ?_
        refine lv_iconst (v := 0) hx hb dX7_nameHere_60 (by decide) ?_
        obtain ⟨v13, S14, h15, h⟩ := bd_some h
        refine u_callV (n := 5) C w hw (hP _ _ (isn_f rfl rfl (by decide))) rfl rfl rfl (c_X7_isWord l D K b0 sa _ L _ ad P hP S10 hw hn 16 1 9 4 0 v13 S14 h15) gw_1367 gw_1364 gw_1366 gs_27 gw_8 ⟨by decide, by decide, by decide +kernel⟩ rfl rfl ⟨by decide, by decide⟩ rfl hl.1 rfl (Nat.le_of_ble_eq_true rfl) dX7_nameHere_61 ⟨Nat.le_of_ble_eq_true rfl, Nat.le_of_ble_eq_true rfl⟩ (fun v9 u H locs hp w => ?_)
        obtain ⟨f2, rfl, rfl, hw, hn, hk1⟩ := hp
        have hk := hk.tr hk1
        generalize f2 = f at w hw hk
        refine lv_if_eq (tgt := 69) hx hb dX7_nameHere_64 (by decide) (fun c16 => ?_) (fun c16 => ?_)
        · have h := bb_t h c16
          refine lv_aload_n hx hb dX7_nameHere_69 rfl (lv_at hl 0 rfl) ?_
          refine lv_bipush (v := 8) hx hb dX7_nameHere_70 (by decide) ?_
          refine lv_bipush (v := 15) hx hb dX7_nameHere_72 (by decide) ?_
          refine lv_bipush (v := 21) hx hb dX7_nameHere_74 (by decide) ?_
          refine lv_bipush (v := 18) hx hb dX7_nameHere_76 (by decide) ?_
          refine lv_iconst (v := 0) hx hb dX7_nameHere_78 (by decide) ?_
          obtain ⟨v17, S18, h19, h⟩ := bd_some h
          refine u_callV (n := 5) C w hw (hP _ _ (isn_f rfl rfl (by decide))) rfl rfl rfl (c_X7_isWord l D K b0 sa _ L _ ad P hP S14 hw hn 8 15 21 18 0 v17 S18 h19) gw_1367 gw_1364 gw_1366 gs_27 gw_8 ⟨by decide, by decide, by decide +kernel⟩ rfl rfl ⟨by decide, by decide⟩ rfl hl.1 rfl (Nat.le_of_ble_eq_true rfl) dX7_nameHere_79 ⟨Nat.le_of_ble_eq_true rfl, Nat.le_of_ble_eq_true rfl⟩ (fun v9 u H locs hp w => ?_)
          obtain ⟨f2, rfl, rfl, hw, hn, hk1⟩ := hp
          have hk := hk.tr hk1
          generalize f2 = f at w hw hk
          refine lv_if_eq (tgt := 87) hx hb dX7_nameHere_82 (by decide) (fun c20 => ?_) (fun c20 => ?_)
          · have h := bb_t h c20
            refine lv_aload_n hx hb dX7_nameHere_87 rfl (lv_at hl 0 rfl) ?_
            refine lv_bipush (v := 12) hx hb dX7_nameHere_88 (by decide) ?_
            refine lv_bipush (v := 15) hx hb dX7_nameHere_90 (by decide) ?_
            refine lv_bipush (v := 20) hx hb dX7_nameHere_92 (by decide) ?_
            refine lv_iconst (v := 0) hx hb dX7_nameHere_94 (by decide) ?_
            refine lv_iconst (v := 0) hx hb dX7_nameHere_95 (by decide) ?_
            obtain ⟨v21, S22, h23, h⟩ := bd_some h
            refine u_callV (n := 5) C w hw (hP _ _ (isn_f rfl rfl (by decide))) rfl rfl rfl (c_X7_isWord l D K b0 sa _ L _ ad P hP S18 hw hn 12 15 20 0 0 v21 S22 h23) gw_1367 gw_1364 gw_1366 gs_27 gw_8 ⟨by decide, by decide, by decide +kernel⟩ rfl rfl ⟨by decide, by decide⟩ rfl hl.1 rfl (Nat.le_of_ble_eq_true rfl) dX7_nameHere_96 ⟨Nat.le_of_ble_eq_true rfl, Nat.le_of_ble_eq_true rfl⟩ (fun v9 u H locs hp w => ?_)
            obtain ⟨f2, rfl, rfl, hw, hn, hk1⟩ := hp
            have hk := hk.tr hk1
            generalize f2 = f at w hw hk
            refine lv_if_eq (tgt := 104) hx hb dX7_nameHere_99 (by decide) (fun c24 => ?_) (fun c24 => ?_)
            · have h := bb_t h c24
              refine lv_aload_n hx hb dX7_nameHere_104 rfl (lv_at hl 0 rfl) ?_
              refine u_geti C w hw (hP _ _ (isn_f rfl rfl (by decide))) rfl (N := 57) rfl rfl cin_7 16 (by decide) rfl gw_1172 dX7_nameHere_105 ?_
              refine u_iv h (fun x25 h => ?_)
              refine lv_if_eq (tgt := 129) hx hb dX7_nameHere_108 (by decide) (fun c26 => ?_) (fun c26 => ?_)
              · have h := bb_t h c26
                refine lv_iconst (v := (-1)) hx hb dX7_nameHere_129 (by decide) ?_
                exact t_iret C hr hlk w ⟨_, so_v h, rfl, so_w h hw, so_n h hn, hk⟩ (by decide) (by decide) dX7_nameHere_130
              · have h := bb_f h c26
                refine lv_aload_n hx hb dX7_nameHere_111 rfl (lv_at hl 0 rfl) ?_
                refine lv_iconst (v := 3) hx hb dX7_nameHere_112 (by decide) ?_
                refine lv_iconst (v := 1) hx hb dX7_nameHere_113 (by decide) ?_
                refine lv_bipush (v := 14) hx hb dX7_nameHere_114 (by decide) ?_
                refine lv_iconst (v := 0) hx hb dX7_nameHere_116 (by decide) ?_
                refine lv_iconst (v := 0) hx hb dX7_nameHere_117 (by decide) ?_
                obtain ⟨v27, S28, h29, h⟩ := bd_some h
                refine u_callV (n := 5) C w hw (hP _ _ (isn_f rfl rfl (by decide))) rfl rfl rfl (c_X7_isWord l D K b0 sa _ L _ ad P hP S22 hw hn 3 1 14 0 0 v27 S28 h29) gw_1367 gw_1364 gw_1366 gs_27 gw_8 ⟨by decide, by decide, by decide +kernel⟩ rfl rfl ⟨by decide, by decide⟩ rfl hl.1 rfl (Nat.le_of_ble_eq_true rfl) dX7_nameHere_118 ⟨Nat.le_of_ble_eq_true rfl, Nat.le_of_ble_eq_true rfl⟩ (fun v9 u H locs hp w => ?_)
                obtain ⟨f2, rfl, rfl, hw, hn, hk1⟩ := hp
                have hk := hk.tr hk1
                generalize f2 = f at w hw hk
                refine lv_if_eq (tgt := 129) hx hb dX7_nameHere_121 (by decide) (fun c30 => ?_) (fun c30 => ?_)
                · have h := bb_t h c30
                  refine lv_iconst (v := (-1)) hx hb dX7_nameHere_129 (by decide) ?_
                  exact t_iret C hr hlk w ⟨_, so_v h, rfl, so_w h hw, so_n h hn, hk⟩ (by decide) (by decide) dX7_nameHere_130
                · have h := bb_f h c30
                  refine lv_bipush (v := 6) hx hb dX7_nameHere_124 (by decide) ?_
                  refine lv_goto (tgt := 130) hx hb dX7_nameHere_126 (by decide) ?_
                  exact t_iret C hr hlk w ⟨_, so_v h, rfl, so_w h hw, so_n h hn, hk⟩ (by decide) (by decide) dX7_nameHere_130
            · have h := bb_f h c24
              refine lv_iconst (v := 5) hx hb dX7_nameHere_102 (by decide) ?_
              exact t_iret C hr hlk w ⟨_, so_v h, rfl, so_w h hw, so_n h hn, hk⟩ (by decide) (by decide) dX7_nameHere_103
          · have h := bb_f h c20
            refine lv_iconst (v := 4) hx hb dX7_nameHere_85 (by decide) ?_
            exact t_iret C hr hlk w ⟨_, so_v h, rfl, so_w h hw, so_n h hn, hk⟩ (by decide) (by decide) dX7_nameHere_86
        · have h := bb_f h c16
          refine lv_iconst (v := 3) hx hb dX7_nameHere_67 (by decide) ?_
          exact t_iret C hr hlk w ⟨_, so_v h, rfl, so_w h hw, so_n h hn, hk⟩ (by decide) (by decide) dX7_nameHere_68
      · have h := bb_f h c12
        refine lv_iconst (v := 2) hx hb dX7_nameHere_51 (by decide) ?_
        exact t_iret C hr hlk w ⟨_, so_v h, rfl, so_w h hw, so_n h hn, hk⟩ (by decide) (by decide) dX7_nameHere_52
    · have h := bb_f h c8
      refine lv_iconst (v := 1) hx hb dX7_nameHere_33 (by decide) ?_
      exact t_iret C hr hlk w ⟨_, so_v h, rfl, so_w h hw, so_n h hn, hk⟩ (by decide) (by decide) dX7_nameHere_34
  · have h := bb_f h c4
    refine lv_iconst (v := 0) hx hb dX7_nameHere_16 (by decide) ?_
    exact t_iret C hr hlk w ⟨_, so_v h, rfl, so_w h hw, so_n h hn, hk⟩ (by decide) (by decide) dX7_nameHere_17
theorem dX7_fault_0 : decode cX7_fault 0 = .ok (.aload_n 0, 1) := by decide +kernel
theorem dX7_fault_1 : decode cX7_fault 1 = .ok (.iconst 0, 1) := by decide +kernel
theorem dX7_fault_2 : decode cX7_fault 2 = .ok (.putfield 97, 3) := by decide +kernel
theorem dX7_fault_5 : decode cX7_fault 5 = .ok (.aload_n 0, 1) := by decide +kernel
theorem dX7_fault_6 : decode cX7_fault 6 = .ok (.getfield 11, 3) := by decide +kernel
theorem dX7_fault_9 : decode cX7_fault 9 = .ok (.ireturn, 1) := by decide +kernel
noncomputable def F_X7_fault  (S0 : fS) : Option (Int32 × fS) := sv (pu S0 40 0 0 0) (fun S1 => iv (ge S1 40 0 3) (fun x2 => some (x2, S1)))
set_option maxHeartbeats 4000000 in
set_option maxRecDepth 100000 in
theorem c_X7_fault (l : Launch) (D : va_G) (K : Nat → ClassId) (b0 : Nat) (sa : sT) (sz : Nat) (L : List Nat) (f0 : Nat → va_E) (ad : Nat → Nat → Nat) (P : Nat → Nat → Prop) {n : Nat × Nat} (hP : ∀ a i : Nat, isn n a i → P a i) (S0 : fS) (hw : PW K ad P S0 L f0) (hn : S0.2.2.1 = n)  (v : Int32) (S1 : fS) (h : F_X7_fault  S0 = some (v, S1)) : Met l yX7_fault (.code yX7_fault cX7_fault 1 (some .int) :: gt) { frames := 0, cells := 0, slots := 0, locals := 0 } (va_Pc [.ref (ad 40 0)] (hPre D K b0 sa sz L f0)) (hQ D K b0 (fun v9 u9 => ∃ f2 : Nat → va_E, v9 = some (.int v) ∧ u9 = lU L f2 ∧ PW K ad P S1 L f2 ∧ S1.2.2.1 = n ∧ Kp ad P L f0 f2)) 0 0 (fun q => b0 ≤ q) := by
  refine t_of (own := RX7) (by decide) rfl ?_ (Nat.le_of_ble_eq_true rfl)
  intro p e s m below meth c ls C w hsz hr hlk hnm hl
  have hx := C.1
  have hb := C.2.1
  have hl : lv_has ls 1 [(0, .ref (ad 40 0))] := hl
  dsimp only [F_X7_fault] at h
  obtain ⟨f, ef⟩ : ∃ z, z = f0 := ⟨_, rfl⟩
  rw [← ef] at w hw
  have hk : Kp ad P L f0 f := by rw [ef]; exact Kp.rf
  obtain ⟨H, eH⟩ : ∃ z, z = s.heap := ⟨_, rfl⟩
  obtain ⟨locs, el⟩ : ∃ z : List Loc, z = [] := ⟨_, rfl⟩
  rw [← eH, ← el] at w ⊢
  refine lv_aload_n hx hb dX7_fault_0 rfl (lv_at hl 0 rfl) ?_
  refine lv_iconst (v := 0) hx hb dX7_fault_1 (by decide) ?_
  refine u_puti C w hw (hP _ _ (isn_f rfl rfl (by decide))) rfl (N := 57) rfl rfl cin_7 tyX7 tyX7_ok nmX7 0 (by decide) rfl rfl rfl rfl gw_1156 dX7_fault_2 (fun f H locs w hw hk1 => ?_)
  have hk := hk.tr hk1
  refine u_sv h hw hn (fun S1 h hw hn => ?_)
  refine lv_aload_n hx hb dX7_fault_5 rfl (lv_at hl 0 rfl) ?_
  refine u_geti C w hw (hP _ _ (isn_f rfl rfl (by decide))) rfl (N := 57) rfl rfl cin_7 3 (by decide) rfl gw_1159 dX7_fault_6 ?_
  refine u_iv h (fun x2 h => ?_)
  exact t_iret C hr hlk w ⟨_, so_v h, rfl, so_w h hw, so_n h hn, hk⟩ (by decide) (by decide) dX7_fault_9
theorem dX7_reads_0 : decode cX7_reads 0 = .ok (.aload_n 0, 1) := by decide +kernel
theorem dX7_reads_1 : decode cX7_reads 1 = .ok (.iload_n 1, 1) := by decide +kernel
theorem dX7_reads_2 : decode cX7_reads 2 = .ok (.putfield 110, 3) := by decide +kernel
theorem dX7_reads_5 : decode cX7_reads 5 = .ok (.aload_n 0, 1) := by decide +kernel
theorem dX7_reads_6 : decode cX7_reads 6 = .ok (.aload_n 0, 1) := by decide +kernel
theorem dX7_reads_7 : decode cX7_reads 7 = .ok (.getfield 24, 3) := by decide +kernel
theorem dX7_reads_10 : decode cX7_reads 10 = .ok (.iload_n 1, 1) := by decide +kernel
theorem dX7_reads_11 : decode cX7_reads 11 = .ok (.iaload, 1) := by decide +kernel
theorem dX7_reads_12 : decode cX7_reads 12 = .ok (.putfield 107, 3) := by decide +kernel
theorem dX7_reads_15 : decode cX7_reads 15 = .ok (.aload_n 0, 1) := by decide +kernel
theorem dX7_reads_16 : decode cX7_reads 16 = .ok (.iload_n 1, 1) := by decide +kernel
theorem dX7_reads_17 : decode cX7_reads 17 = .ok (.iconst 5, 1) := by decide +kernel
theorem dX7_reads_18 : decode cX7_reads 18 = .ok (.if_icmp .le 7, 3) := by decide +kernel
theorem dX7_reads_21 : decode cX7_reads 21 = .ok (.iconst 1, 1) := by decide +kernel
theorem dX7_reads_22 : decode cX7_reads 22 = .ok (.goto 4, 3) := by decide +kernel
theorem dX7_reads_25 : decode cX7_reads 25 = .ok (.iconst 0, 1) := by decide +kernel
theorem dX7_reads_26 : decode cX7_reads 26 = .ok (.putfield 152, 3) := by decide +kernel
theorem dX7_reads_29 : decode cX7_reads 29 = .ok (.return_, 1) := by decide +kernel
noncomputable def B_X7_reads_26 (t0 : Int32) (S : fS) : Option (Int32 × fS) := gd (t0 = 0 ∨ t0 = 1) (sv (pu S 40 0 16 t0) (fun S2 => some (0, S2)))
noncomputable def F_X7_reads (p1 : Int32) (S0 : fS) : Option (Int32 × fS) := sv (pu S0 40 0 8 p1) (fun S3 => gd (ib p1 9) (iv (ge S3 44 0 (p1 : Int32).toNatClampNeg) (fun x5 => sv (pu S3 40 0 2 x5) (fun S6 => bb (p1 ≤ (5 : Int32)) (B_X7_reads_26  0 S6) (B_X7_reads_26  1 S6)))))
set_option maxHeartbeats 4000000 in
set_option maxRecDepth 100000 in
theorem c_X7_reads (l : Launch) (D : va_G) (K : Nat → ClassId) (b0 : Nat) (sa : sT) (sz : Nat) (L : List Nat) (f0 : Nat → va_E) (ad : Nat → Nat → Nat) (P : Nat → Nat → Prop) {n : Nat × Nat} (hP : ∀ a i : Nat, isn n a i → P a i) (S0 : fS) (hw : PW K ad P S0 L f0) (hn : S0.2.2.1 = n) (p1 : Int32) (v : Int32) (S1 : fS) (h : F_X7_reads p1 S0 = some (v, S1)) : Met l yX7_reads (.code yX7_reads cX7_reads 2 none :: gt) { frames := 0, cells := 0, slots := 0, locals := 0 } (va_Pc [.ref (ad 40 0), .int p1] (hPre D K b0 sa sz L f0)) (hQ D K b0 (fun v9 u9 => ∃ f2 : Nat → va_E, v9 = none ∧ u9 = lU L f2 ∧ PW K ad P S1 L f2 ∧ S1.2.2.1 = n ∧ Kp ad P L f0 f2)) 0 0 (fun q => b0 ≤ q) := by
  refine t_of (own := RX7) (by decide) rfl ?_ (Nat.le_of_ble_eq_true rfl)
  intro p e s m below meth c ls C w hsz hr hlk hnm hl
  have hx := C.1
  have hb := C.2.1
  have hl : lv_has ls 2 [(0, .ref (ad 40 0)), (1, .int p1)] := hl
  have J26 : ∀ (t0 : Int32) (S : fS), B_X7_reads_26  t0 S = some (v, S1) → Gw D K b0 sa ad P n L f0 p l e { frames := 0, cells := 0, slots := 0, locals := 0 } s m [.ref (ad 40 0), .int p1].toArray below meth c 2 (MQ below (hQ D K b0 (fun v9 u9 => ∃ f2 : Nat → va_E, v9 = none ∧ u9 = lU L f2 ∧ PW K ad P S1 L f2 ∧ S1.2.2.1 = n ∧ Kp ad P L f0 f2)) [.ref (ad 40 0), .int p1].toArray s 0 0 (fun q => b0 ≤ q)) 0 0 26 [] [.int t0, .ref (ad 40 0)] S := by
    intro t0 S h
    dsimp only [B_X7_reads_26] at h
    intro f H locs w hw hn hk ls hl
    obtain ⟨g1, h⟩ := gd_some h
    refine u_puti C w hw (hP _ _ (isn_f rfl rfl (by decide))) rfl (N := 57) rfl rfl cin_7 tyX7 tyX7_ok nmX7 16 (by decide) rfl rfl (narb g1) (fitb g1) gw_1172 dX7_reads_26 (fun f H locs w hw hk1 => ?_)
    have hk := hk.tr hk1
    refine u_sv h hw hn (fun S2 h hw hn => ?_)
    exact t_vret C hr hlk w ⟨_, rfl, rfl, so_w h hw, so_n h hn, hk⟩ (by decide) (by decide) dX7_reads_29
  dsimp only [F_X7_reads] at h
  obtain ⟨f, ef⟩ : ∃ z, z = f0 := ⟨_, rfl⟩
  rw [← ef] at w hw
  have hk : Kp ad P L f0 f := by rw [ef]; exact Kp.rf
  obtain ⟨H, eH⟩ : ∃ z, z = s.heap := ⟨_, rfl⟩
  obtain ⟨locs, el⟩ : ∃ z : List Loc, z = [] := ⟨_, rfl⟩
  rw [← eH, ← el] at w ⊢
  refine lv_aload_n hx hb dX7_reads_0 rfl (lv_at hl 0 rfl) ?_
  refine lv_iload_n hx hb dX7_reads_1 rfl (lv_at hl 1 rfl) ?_
  refine u_puti C w hw (hP _ _ (isn_f rfl rfl (by decide))) rfl (N := 57) rfl rfl cin_7 tyX7 tyX7_ok nmX7 8 (by decide) rfl rfl rfl rfl gw_1164 dX7_reads_2 (fun f H locs w hw hk1 => ?_)
  have hk := hk.tr hk1
  refine u_sv h hw hn (fun S3 h hw hn => ?_)
  refine lv_aload_n hx hb dX7_reads_5 rfl (lv_at hl 0 rfl) ?_
  refine lv_aload_n hx hb dX7_reads_6 rfl (lv_at hl 0 rfl) ?_
  refine u_getr C w hw (hP _ _ (isn_f rfl rfl (by decide))) rfl (N := 57) rfl rfl cin_7 12 (by decide) (by decide) (a2 := 44) (i2 := 0) rfl gw_1168 dX7_reads_7 ?_
  refine lv_iload_n hx hb dX7_reads_10 rfl (lv_at hl 1 rfl) ?_
  obtain ⟨g4, h⟩ := gd_some h
  refine u_iald C w hw (hP _ _ (isn_f rfl rfl (by decide))) rfl rfl (n := 9) rfl (vp_in_iff.mpr g4) dX7_reads_11 ?_
  refine u_iv h (fun x5 h => ?_)
  refine u_puti C w hw (hP _ _ (isn_f rfl rfl (by decide))) rfl (N := 57) rfl rfl cin_7 tyX7 tyX7_ok nmX7 2 (by decide) rfl rfl rfl rfl gw_1158 dX7_reads_12 (fun f H locs w hw hk1 => ?_)
  have hk := hk.tr hk1
  refine u_sv h hw hn (fun S6 h hw hn => ?_)
  refine lv_aload_n hx hb dX7_reads_15 rfl (lv_at hl 0 rfl) ?_
  refine lv_iload_n hx hb dX7_reads_16 rfl (lv_at hl 1 rfl) ?_
  refine lv_iconst (v := 5) hx hb dX7_reads_17 (by decide) ?_
  refine lv_icmp_le (tgt := 25) hx hb dX7_reads_18 (by decide) (fun c7 => ?_) (fun c7 => ?_)
  · have h := bb_t h c7
    refine lv_iconst (v := 0) hx hb dX7_reads_25 (by decide) ?_
    exact J26  0 S6 h f H locs w hw hn hk ls (lv_sub hl [] rfl)
  · have h := bb_f h c7
    refine lv_iconst (v := 1) hx hb dX7_reads_21 (by decide) ?_
    refine lv_goto (tgt := 26) hx hb dX7_reads_22 (by decide) ?_
    exact J26  1 S6 h f H locs w hw hn hk ls (lv_sub hl [] rfl)
theorem dX7_namesOf_0 : decode cX7_namesOf 0 = .ok (.aload_n 0, 1) := by decide +kernel
theorem dX7_namesOf_1 : decode cX7_namesOf 1 = .ok (.getfield 30, 3) := by decide +kernel
theorem dX7_namesOf_4 : decode cX7_namesOf 4 = .ok (.iconst 0, 1) := by decide +kernel
theorem dX7_namesOf_5 : decode cX7_namesOf 5 = .ok (.aload_n 0, 1) := by decide +kernel
theorem dX7_namesOf_6 : decode cX7_namesOf 6 = .ok (.getfield 222, 3) := by decide +kernel
theorem dX7_namesOf_9 : decode cX7_namesOf 9 = .ok (.iload_n 1, 1) := by decide +kernel
theorem dX7_namesOf_10 : decode cX7_namesOf 10 = .ok (.iadd, 1) := by decide +kernel
theorem dX7_namesOf_11 : decode cX7_namesOf 11 = .ok (.iastore, 1) := by decide +kernel
theorem dX7_namesOf_12 : decode cX7_namesOf 12 = .ok (.aload_n 0, 1) := by decide +kernel
theorem dX7_namesOf_13 : decode cX7_namesOf 13 = .ok (.getfield 30, 3) := by decide +kernel
theorem dX7_namesOf_16 : decode cX7_namesOf 16 = .ok (.iconst 1, 1) := by decide +kernel
theorem dX7_namesOf_17 : decode cX7_namesOf 17 = .ok (.aload_n 0, 1) := by decide +kernel
theorem dX7_namesOf_18 : decode cX7_namesOf 18 = .ok (.getfield 225, 3) := by decide +kernel
theorem dX7_namesOf_21 : decode cX7_namesOf 21 = .ok (.iload_n 1, 1) := by decide +kernel
theorem dX7_namesOf_22 : decode cX7_namesOf 22 = .ok (.iadd, 1) := by decide +kernel
theorem dX7_namesOf_23 : decode cX7_namesOf 23 = .ok (.iastore, 1) := by decide +kernel
theorem dX7_namesOf_24 : decode cX7_namesOf 24 = .ok (.aload_n 0, 1) := by decide +kernel
theorem dX7_namesOf_25 : decode cX7_namesOf 25 = .ok (.getfield 30, 3) := by decide +kernel
theorem dX7_namesOf_28 : decode cX7_namesOf 28 = .ok (.iconst 2, 1) := by decide +kernel
theorem dX7_namesOf_29 : decode cX7_namesOf 29 = .ok (.aload_n 0, 1) := by decide +kernel
theorem dX7_namesOf_30 : decode cX7_namesOf 30 = .ok (.getfield 228, 3) := by decide +kernel
theorem dX7_namesOf_33 : decode cX7_namesOf 33 = .ok (.iload_n 1, 1) := by decide +kernel
theorem dX7_namesOf_34 : decode cX7_namesOf 34 = .ok (.aload_n 0, 1) := by decide +kernel
theorem dX7_namesOf_35 : decode cX7_namesOf 35 = .ok (.getfield 64, 3) := by decide +kernel
theorem dX7_namesOf_38 : decode cX7_namesOf 38 = .ok (.imul, 1) := by decide +kernel
theorem dX7_namesOf_39 : decode cX7_namesOf 39 = .ok (.iadd, 1) := by decide +kernel
theorem dX7_namesOf_40 : decode cX7_namesOf 40 = .ok (.iastore, 1) := by decide +kernel
theorem dX7_namesOf_41 : decode cX7_namesOf 41 = .ok (.aload_n 0, 1) := by decide +kernel
theorem dX7_namesOf_42 : decode cX7_namesOf 42 = .ok (.getfield 30, 3) := by decide +kernel
theorem dX7_namesOf_45 : decode cX7_namesOf 45 = .ok (.iconst 3, 1) := by decide +kernel
theorem dX7_namesOf_46 : decode cX7_namesOf 46 = .ok (.aload_n 0, 1) := by decide +kernel
theorem dX7_namesOf_47 : decode cX7_namesOf 47 = .ok (.getfield 231, 3) := by decide +kernel
theorem dX7_namesOf_50 : decode cX7_namesOf 50 = .ok (.iastore, 1) := by decide +kernel
theorem dX7_namesOf_51 : decode cX7_namesOf 51 = .ok (.aload_n 0, 1) := by decide +kernel
theorem dX7_namesOf_52 : decode cX7_namesOf 52 = .ok (.getfield 30, 3) := by decide +kernel
theorem dX7_namesOf_55 : decode cX7_namesOf 55 = .ok (.iconst 4, 1) := by decide +kernel
theorem dX7_namesOf_56 : decode cX7_namesOf 56 = .ok (.aload_n 0, 1) := by decide +kernel
theorem dX7_namesOf_57 : decode cX7_namesOf 57 = .ok (.getfield 234, 3) := by decide +kernel
theorem dX7_namesOf_60 : decode cX7_namesOf 60 = .ok (.iastore, 1) := by decide +kernel
theorem dX7_namesOf_61 : decode cX7_namesOf 61 = .ok (.aload_n 0, 1) := by decide +kernel
theorem dX7_namesOf_62 : decode cX7_namesOf 62 = .ok (.getfield 30, 3) := by decide +kernel
theorem dX7_namesOf_65 : decode cX7_namesOf 65 = .ok (.iconst 5, 1) := by decide +kernel
theorem dX7_namesOf_66 : decode cX7_namesOf 66 = .ok (.iconst 0, 1) := by decide +kernel
theorem dX7_namesOf_67 : decode cX7_namesOf 67 = .ok (.iastore, 1) := by decide +kernel
theorem dX7_namesOf_68 : decode cX7_namesOf 68 = .ok (.aload_n 0, 1) := by decide +kernel
theorem dX7_namesOf_69 : decode cX7_namesOf 69 = .ok (.getfield 30, 3) := by decide +kernel
theorem dX7_namesOf_72 : decode cX7_namesOf 72 = .ok (.bipush 6, 2) := by decide +kernel
theorem dX7_namesOf_74 : decode cX7_namesOf 74 = .ok (.iconst 0, 1) := by decide +kernel
theorem dX7_namesOf_75 : decode cX7_namesOf 75 = .ok (.iastore, 1) := by decide +kernel
theorem dX7_namesOf_76 : decode cX7_namesOf 76 = .ok (.return_, 1) := by decide +kernel
noncomputable def F_X7_namesOf (p1 : Int32) (S0 : fS) : Option (Int32 × fS) := iv (ge S0 40 0 35) (fun x1 => iv (x1 + p1) (fun x2 => sv (pu S0 45 0 (0 : Int32).toNatClampNeg x2) (fun S3 => iv (ge S3 40 0 36) (fun x4 => iv (x4 + p1) (fun x5 => sv (pu S3 45 0 (1 : Int32).toNatClampNeg x5) (fun S6 => iv (ge S6 40 0 37) (fun x7 => iv (ge S6 40 0 32) (fun x8 => iv (p1 * x8) (fun x9 => iv (x7 + x9) (fun x10 => sv (pu S6 45 0 (2 : Int32).toNatClampNeg x10) (fun S11 => iv (ge S11 40 0 38) (fun x12 => sv (pu S11 45 0 (3 : Int32).toNatClampNeg x12) (fun S13 => iv (ge S13 40 0 33) (fun x14 => sv (pu S13 45 0 (4 : Int32).toNatClampNeg x14) (fun S15 => sv (pu S15 45 0 (5 : Int32).toNatClampNeg 0) (fun S16 => sv (pu S16 45 0 (6 : Int32).toNatClampNeg 0) (fun S17 => some (0, S17))))))))))))))))))
set_option maxHeartbeats 4000000 in
set_option maxRecDepth 100000 in
theorem c_X7_namesOf (l : Launch) (D : va_G) (K : Nat → ClassId) (b0 : Nat) (sa : sT) (sz : Nat) (L : List Nat) (f0 : Nat → va_E) (ad : Nat → Nat → Nat) (P : Nat → Nat → Prop) {n : Nat × Nat} (hP : ∀ a i : Nat, isn n a i → P a i) (S0 : fS) (hw : PW K ad P S0 L f0) (hn : S0.2.2.1 = n) (p1 : Int32) (v : Int32) (S1 : fS) (h : F_X7_namesOf p1 S0 = some (v, S1)) : Met l yX7_namesOf (.code yX7_namesOf cX7_namesOf 2 none :: gt) { frames := 0, cells := 0, slots := 0, locals := 0 } (va_Pc [.ref (ad 40 0), .int p1] (hPre D K b0 sa sz L f0)) (hQ D K b0 (fun v9 u9 => ∃ f2 : Nat → va_E, v9 = none ∧ u9 = lU L f2 ∧ PW K ad P S1 L f2 ∧ S1.2.2.1 = n ∧ Kp ad P L f0 f2)) 0 0 (fun q => b0 ≤ q) := by
  refine t_of (own := RX7) (by decide) rfl ?_ (Nat.le_of_ble_eq_true rfl)
  intro p e s m below meth c ls C w hsz hr hlk hnm hl
  have hx := C.1
  have hb := C.2.1
  have hl : lv_has ls 2 [(0, .ref (ad 40 0)), (1, .int p1)] := hl
  dsimp only [F_X7_namesOf] at h
  obtain ⟨f, ef⟩ : ∃ z, z = f0 := ⟨_, rfl⟩
  rw [← ef] at w hw
  have hk : Kp ad P L f0 f := by rw [ef]; exact Kp.rf
  obtain ⟨H, eH⟩ : ∃ z, z = s.heap := ⟨_, rfl⟩
  obtain ⟨locs, el⟩ : ∃ z : List Loc, z = [] := ⟨_, rfl⟩
  rw [← eH, ← el] at w ⊢
  refine lv_aload_n hx hb dX7_namesOf_0 rfl (lv_at hl 0 rfl) ?_
  refine u_getr C w hw (hP _ _ (isn_f rfl rfl (by decide))) rfl (N := 57) rfl rfl cin_7 17 (by decide) (by decide) (a2 := 45) (i2 := 0) rfl gw_1173 dX7_namesOf_1 ?_
  refine lv_iconst (v := 0) hx hb dX7_namesOf_4 (by decide) ?_
  refine lv_aload_n hx hb dX7_namesOf_5 rfl (lv_at hl 0 rfl) ?_
  refine u_geti C w hw (hP _ _ (isn_f rfl rfl (by decide))) rfl (N := 57) rfl rfl cin_7 35 (by decide) rfl gw_1191 dX7_namesOf_6 ?_
  refine u_iv h (fun x1 h => ?_)
  refine lv_iload_n hx hb dX7_namesOf_9 rfl (lv_at hl 1 rfl) ?_
  refine lv_iadd hx hb dX7_namesOf_10 ?_
  refine u_iv h (fun x2 h => ?_)
  refine u_iast C w hw (hP _ _ (isn_f rfl rfl (by decide))) rfl rfl (n := 7) rfl (vp_in_iff.mpr ⟨by decide, by decide⟩) dX7_namesOf_11 (fun f H locs w hw hk1 => ?_)
  have hk := hk.tr hk1
  refine u_sv h hw hn (fun S3 h hw hn => ?_)
  refine lv_aload_n hx hb dX7_namesOf_12 rfl (lv_at hl 0 rfl) ?_
  refine u_getr C w hw (hP _ _ (isn_f rfl rfl (by decide))) rfl (N := 57) rfl rfl cin_7 17 (by decide) (by decide) (a2 := 45) (i2 := 0) rfl gw_1173 dX7_namesOf_13 ?_
  refine lv_iconst (v := 1) hx hb dX7_namesOf_16 (by decide) ?_
  refine lv_aload_n hx hb dX7_namesOf_17 rfl (lv_at hl 0 rfl) ?_
  refine u_geti C w hw (hP _ _ (isn_f rfl rfl (by decide))) rfl (N := 57) rfl rfl cin_7 36 (by decide) rfl gw_1192 dX7_namesOf_18 ?_
  refine u_iv h (fun x4 h => ?_)
  refine lv_iload_n hx hb dX7_namesOf_21 rfl (lv_at hl 1 rfl) ?_
  refine lv_iadd hx hb dX7_namesOf_22 ?_
  refine u_iv h (fun x5 h => ?_)
  refine u_iast C w hw (hP _ _ (isn_f rfl rfl (by decide))) rfl rfl (n := 7) rfl (vp_in_iff.mpr ⟨by decide, by decide⟩) dX7_namesOf_23 (fun f H locs w hw hk1 => ?_)
  have hk := hk.tr hk1
  refine u_sv h hw hn (fun S6 h hw hn => ?_)
  refine lv_aload_n hx hb dX7_namesOf_24 rfl (lv_at hl 0 rfl) ?_
  refine u_getr C w hw (hP _ _ (isn_f rfl rfl (by decide))) rfl (N := 57) rfl rfl cin_7 17 (by decide) (by decide) (a2 := 45) (i2 := 0) rfl gw_1173 dX7_namesOf_25 ?_
  refine lv_iconst (v := 2) hx hb dX7_namesOf_28 (by decide) ?_
  refine lv_aload_n hx hb dX7_namesOf_29 rfl (lv_at hl 0 rfl) ?_
  refine u_geti C w hw (hP _ _ (isn_f rfl rfl (by decide))) rfl (N := 57) rfl rfl cin_7 37 (by decide) rfl gw_1193 dX7_namesOf_30 ?_
  refine u_iv h (fun x7 h => ?_)
  refine lv_iload_n hx hb dX7_namesOf_33 rfl (lv_at hl 1 rfl) ?_
  refine lv_aload_n hx hb dX7_namesOf_34 rfl (lv_at hl 0 rfl) ?_
  refine u_geti C w hw (hP _ _ (isn_f rfl rfl (by decide))) rfl (N := 57) rfl rfl cin_7 32 (by decide) rfl gw_1188 dX7_namesOf_35 ?_
  refine u_iv h (fun x8 h => ?_)
  refine lv_imul hx hb dX7_namesOf_38 ?_
  refine u_iv h (fun x9 h => ?_)
  refine lv_iadd hx hb dX7_namesOf_39 ?_
  refine u_iv h (fun x10 h => ?_)
  refine u_iast C w hw (hP _ _ (isn_f rfl rfl (by decide))) rfl rfl (n := 7) rfl (vp_in_iff.mpr ⟨by decide, by decide⟩) dX7_namesOf_40 (fun f H locs w hw hk1 => ?_)
  have hk := hk.tr hk1
  refine u_sv h hw hn (fun S11 h hw hn => ?_)
  refine lv_aload_n hx hb dX7_namesOf_41 rfl (lv_at hl 0 rfl) ?_
  refine u_getr C w hw (hP _ _ (isn_f rfl rfl (by decide))) rfl (N := 57) rfl rfl cin_7 17 (by decide) (by decide) (a2 := 45) (i2 := 0) rfl gw_1173 dX7_namesOf_42 ?_
  refine lv_iconst (v := 3) hx hb dX7_namesOf_45 (by decide) ?_
  refine lv_aload_n hx hb dX7_namesOf_46 rfl (lv_at hl 0 rfl) ?_
  refine u_geti C w hw (hP _ _ (isn_f rfl rfl (by decide))) rfl (N := 57) rfl rfl cin_7 38 (by decide) rfl gw_1194 dX7_namesOf_47 ?_
  refine u_iv h (fun x12 h => ?_)
  refine u_iast C w hw (hP _ _ (isn_f rfl rfl (by decide))) rfl rfl (n := 7) rfl (vp_in_iff.mpr ⟨by decide, by decide⟩) dX7_namesOf_50 (fun f H locs w hw hk1 => ?_)
  have hk := hk.tr hk1
  refine u_sv h hw hn (fun S13 h hw hn => ?_)
  refine lv_aload_n hx hb dX7_namesOf_51 rfl (lv_at hl 0 rfl) ?_
  refine u_getr C w hw (hP _ _ (isn_f rfl rfl (by decide))) rfl (N := 57) rfl rfl cin_7 17 (by decide) (by decide) (a2 := 45) (i2 := 0) rfl gw_1173 dX7_namesOf_52 ?_
  refine lv_iconst (v := 4) hx hb dX7_namesOf_55 (by decide) ?_
  refine lv_aload_n hx hb dX7_namesOf_56 rfl (lv_at hl 0 rfl) ?_
  refine u_geti C w hw (hP _ _ (isn_f rfl rfl (by decide))) rfl (N := 57) rfl rfl cin_7 33 (by decide) rfl gw_1189 dX7_namesOf_57 ?_
  refine u_iv h (fun x14 h => ?_)
  refine u_iast C w hw (hP _ _ (isn_f rfl rfl (by decide))) rfl rfl (n := 7) rfl (vp_in_iff.mpr ⟨by decide, by decide⟩) dX7_namesOf_60 (fun f H locs w hw hk1 => ?_)
  have hk := hk.tr hk1
  refine u_sv h hw hn (fun S15 h hw hn => ?_)
  refine lv_aload_n hx hb dX7_namesOf_61 rfl (lv_at hl 0 rfl) ?_
  refine u_getr C w hw (hP _ _ (isn_f rfl rfl (by decide))) rfl (N := 57) rfl rfl cin_7 17 (by decide) (by decide) (a2 := 45) (i2 := 0) rfl gw_1173 dX7_namesOf_62 ?_
  refine lv_iconst (v := 5) hx hb dX7_namesOf_65 (by decide) ?_
  refine lv_iconst (v := 0) hx hb dX7_namesOf_66 (by decide) ?_
  refine u_iast C w hw (hP _ _ (isn_f rfl rfl (by decide))) rfl rfl (n := 7) rfl (vp_in_iff.mpr ⟨by decide, by decide⟩) dX7_namesOf_67 (fun f H locs w hw hk1 => ?_)
  have hk := hk.tr hk1
  refine u_sv h hw hn (fun S16 h hw hn => ?_)
  refine lv_aload_n hx hb dX7_namesOf_68 rfl (lv_at hl 0 rfl) ?_
  refine u_getr C w hw (hP _ _ (isn_f rfl rfl (by decide))) rfl (N := 57) rfl rfl cin_7 17 (by decide) (by decide) (a2 := 45) (i2 := 0) rfl gw_1173 dX7_namesOf_69 ?_
  refine lv_bipush (v := 6) hx hb dX7_namesOf_72 (by decide) ?_
  refine lv_iconst (v := 0) hx hb dX7_namesOf_74 (by decide) ?_
  refine u_iast C w hw (hP _ _ (isn_f rfl rfl (by decide))) rfl rfl (n := 7) rfl (vp_in_iff.mpr ⟨by decide, by decide⟩) dX7_namesOf_75 (fun f H locs w hw hk1 => ?_)
  have hk := hk.tr hk1
  refine u_sv h hw hn (fun S17 h hw hn => ?_)
  exact t_vret C hr hlk w ⟨_, rfl, rfl, so_w h hw, so_n h hn, hk⟩ (by decide) (by decide) dX7_namesOf_76
theorem dX7_within_0 : decode cX7_within 0 = .ok (.iload_n 0, 1) := by decide +kernel
theorem dX7_within_1 : decode cX7_within 1 = .ok (.iload_n 1, 1) := by decide +kernel
theorem dX7_within_2 : decode cX7_within 2 = .ok (.if_icmp .ge 7, 3) := by decide +kernel
theorem dX7_within_5 : decode cX7_within 5 = .ok (.iload_n 1, 1) := by decide +kernel
theorem dX7_within_6 : decode cX7_within 6 = .ok (.goto 13, 3) := by decide +kernel
theorem dX7_within_9 : decode cX7_within 9 = .ok (.iload_n 0, 1) := by decide +kernel
theorem dX7_within_10 : decode cX7_within 10 = .ok (.iload_n 2, 1) := by decide +kernel
theorem dX7_within_11 : decode cX7_within 11 = .ok (.if_icmp .le 7, 3) := by decide +kernel
theorem dX7_within_14 : decode cX7_within 14 = .ok (.iload_n 2, 1) := by decide +kernel
theorem dX7_within_15 : decode cX7_within 15 = .ok (.goto 4, 3) := by decide +kernel
theorem dX7_within_18 : decode cX7_within 18 = .ok (.iload_n 0, 1) := by decide +kernel
theorem dX7_within_19 : decode cX7_within 19 = .ok (.ireturn, 1) := by decide +kernel
noncomputable def F_X7_within (p0 : Int32) (p1 : Int32) (p2 : Int32) (S0 : fS) : Option (Int32 × fS) := bb (p1 ≤ p0) (bb (p0 ≤ p2) (some (p0, S0)) (some (p2, S0))) (some (p1, S0))
set_option maxHeartbeats 4000000 in
set_option maxRecDepth 100000 in
theorem c_X7_within (l : Launch) (D : va_G) (K : Nat → ClassId) (b0 : Nat) (sa : sT) (sz : Nat) (L : List Nat) (f0 : Nat → va_E) (ad : Nat → Nat → Nat) (P : Nat → Nat → Prop) {n : Nat × Nat} (hP : ∀ a i : Nat, isn n a i → P a i) (S0 : fS) (hw : PW K ad P S0 L f0) (hn : S0.2.2.1 = n) (p0 : Int32) (p1 : Int32) (p2 : Int32) (v : Int32) (S1 : fS) (h : F_X7_within p0 p1 p2 S0 = some (v, S1)) : Met l yX7_within (.code yX7_within cX7_within 3 (some .int) :: gt) { frames := 0, cells := 0, slots := 0, locals := 0 } (va_Pc [.int p0, .int p1, .int p2] (hPre D K b0 sa sz L f0)) (hQ D K b0 (fun v9 u9 => ∃ f2 : Nat → va_E, v9 = some (.int v) ∧ u9 = lU L f2 ∧ PW K ad P S1 L f2 ∧ S1.2.2.1 = n ∧ Kp ad P L f0 f2)) 0 0 (fun q => b0 ≤ q) := by
  refine t_of (own := RX7) (by decide) rfl ?_ (Nat.le_of_ble_eq_true rfl)
  intro p e s m below meth c ls C w hsz hr hlk hnm hl
  have hx := C.1
  have hb := C.2.1
  have hl : lv_has ls 3 [(0, .int p0), (1, .int p1), (2, .int p2)] := hl
  dsimp only [F_X7_within] at h
  obtain ⟨f, ef⟩ : ∃ z, z = f0 := ⟨_, rfl⟩
  rw [← ef] at w hw
  have hk : Kp ad P L f0 f := by rw [ef]; exact Kp.rf
  obtain ⟨H, eH⟩ : ∃ z, z = s.heap := ⟨_, rfl⟩
  obtain ⟨locs, el⟩ : ∃ z : List Loc, z = [] := ⟨_, rfl⟩
  rw [← eH, ← el] at w ⊢
  refine lv_iload_n hx hb dX7_within_0 rfl (lv_at hl 0 rfl) ?_
  refine lv_iload_n hx hb dX7_within_1 rfl (lv_at hl 1 rfl) ?_
  refine lv_icmp_ge (tgt := 9) hx hb dX7_within_2 (by decide) (fun c1 => ?_) (fun c1 => ?_)
  · have h := bb_t h c1
    refine lv_iload_n hx hb dX7_within_9 rfl (lv_at hl 0 rfl) ?_
    refine lv_iload_n hx hb dX7_within_10 rfl (lv_at hl 2 rfl) ?_
    refine lv_icmp_le (tgt := 18) hx hb dX7_within_11 (by decide) (fun c2 => ?_) (fun c2 => ?_)
    · have h := bb_t h c2
      refine lv_iload_n hx hb dX7_within_18 rfl (lv_at hl 0 rfl) ?_
      exact t_iret C hr hlk w ⟨_, so_v h, rfl, so_w h hw, so_n h hn, hk⟩ (by decide) (by decide) dX7_within_19
    · have h := bb_f h c2
      refine lv_iload_n hx hb dX7_within_14 rfl (lv_at hl 2 rfl) ?_
      refine lv_goto (tgt := 19) hx hb dX7_within_15 (by decide) ?_
      exact t_iret C hr hlk w ⟨_, so_v h, rfl, so_w h hw, so_n h hn, hk⟩ (by decide) (by decide) dX7_within_19
  · have h := bb_f h c1
    refine lv_iload_n hx hb dX7_within_5 rfl (lv_at hl 1 rfl) ?_
    refine lv_goto (tgt := 19) hx hb dX7_within_6 (by decide) ?_
    exact t_iret C hr hlk w ⟨_, so_v h, rfl, so_w h hw, so_n h hn, hk⟩ (by decide) (by decide) dX7_within_19
theorem dX7_force_0 : decode cX7_force 0 = .ok (.aload_n 0, 1) := by decide +kernel
theorem dX7_force_1 : decode cX7_force 1 = .ok (.iconst 0, 1) := by decide +kernel
theorem dX7_force_2 : decode cX7_force 2 = .ok (.putfield 97, 3) := by decide +kernel
theorem dX7_force_5 : decode cX7_force 5 = .ok (.aload_n 0, 1) := by decide +kernel
theorem dX7_force_6 : decode cX7_force 6 = .ok (.iload_n 1, 1) := by decide +kernel
theorem dX7_force_7 : decode cX7_force 7 = .ok (.iconst (-1), 1) := by decide +kernel
theorem dX7_force_8 : decode cX7_force 8 = .ok (.aload_n 0, 1) := by decide +kernel
theorem dX7_force_9 : decode cX7_force 9 = .ok (.getfield 213, 3) := by decide +kernel
theorem dX7_force_12 : decode cX7_force 12 = .ok (.iconst 1, 1) := by decide +kernel
theorem dX7_force_13 : decode cX7_force 13 = .ok (.isub, 1) := by decide +kernel
theorem dX7_force_14 : decode cX7_force 14 = .ok (.invokestatic 100, 3) := by decide +kernel
theorem dX7_force_17 : decode cX7_force 17 = .ok (.ifCond .ne 7, 3) := by decide +kernel
theorem dX7_force_20 : decode cX7_force 20 = .ok (.iconst 1, 1) := by decide +kernel
theorem dX7_force_21 : decode cX7_force 21 = .ok (.goto 4, 3) := by decide +kernel
theorem dX7_force_24 : decode cX7_force 24 = .ok (.iconst 0, 1) := by decide +kernel
theorem dX7_force_25 : decode cX7_force 25 = .ok (.iconst 1, 1) := by decide +kernel
theorem dX7_force_26 : decode cX7_force 26 = .ok (.invokevirtual 206, 3) := by decide +kernel
theorem dX7_force_29 : decode cX7_force 29 = .ok (.ifCond .eq 5, 3) := by decide +kernel
theorem dX7_force_32 : decode cX7_force 32 = .ok (.iconst 0, 1) := by decide +kernel
theorem dX7_force_33 : decode cX7_force 33 = .ok (.ireturn, 1) := by decide +kernel
theorem dX7_force_34 : decode cX7_force 34 = .ok (.aload_n 0, 1) := by decide +kernel
theorem dX7_force_35 : decode cX7_force 35 = .ok (.getfield 27, 3) := by decide +kernel
theorem dX7_force_38 : decode cX7_force 38 = .ok (.istore_n 2, 1) := by decide +kernel
theorem dX7_force_39 : decode cX7_force 39 = .ok (.aload_n 0, 1) := by decide +kernel
theorem dX7_force_40 : decode cX7_force 40 = .ok (.iload_n 1, 1) := by decide +kernel
theorem dX7_force_41 : decode cX7_force 41 = .ok (.putfield 27, 3) := by decide +kernel
theorem dX7_force_44 : decode cX7_force 44 = .ok (.iload_n 2, 1) := by decide +kernel
theorem dX7_force_45 : decode cX7_force 45 = .ok (.ireturn, 1) := by decide +kernel
noncomputable def B_X7_force_25 (a1 : Int32) (t0 : Int32) (S : fS) : Option (Int32 × fS) := bd (F_X7_bad t0 1 S) (fun v1 S2 => bb (v1 = (0 : Int32)) (iv (ge S2 40 0 15) (fun x5 => sv (pu S2 40 0 15 a1) (fun S6 => some (x5, S6)))) (some (0, S2)))
noncomputable def F_X7_force (p1 : Int32) (S0 : fS) : Option (Int32 × fS) := sv (pu S0 40 0 0 0) (fun S7 => iv (ge S7 40 0 13) (fun x8 => iv (x8 - (1 : Int32)) (fun x9 => bd (F_X7_in p1 (-1) x9 S7) (fun v10 S11 => bb (v10 = (0 : Int32)) (B_X7_force_25  p1 1 S11) (B_X7_force_25  p1 0 S11)))))
set_option maxHeartbeats 4000000 in
set_option maxRecDepth 100000 in
theorem c_X7_force (l : Launch) (D : va_G) (K : Nat → ClassId) (b0 : Nat) (sa : sT) (sz : Nat) (L : List Nat) (f0 : Nat → va_E) (ad : Nat → Nat → Nat) (P : Nat → Nat → Prop) {n : Nat × Nat} (hP : ∀ a i : Nat, isn n a i → P a i) (S0 : fS) (hw : PW K ad P S0 L f0) (hn : S0.2.2.1 = n) (p1 : Int32) (v : Int32) (S1 : fS) (h : F_X7_force p1 S0 = some (v, S1)) : Met l yX7_force (.code yX7_force cX7_force 3 (some .int) :: gt) { frames := 1, cells := 0, slots := 0, locals := 22 } (va_Pc [.ref (ad 40 0), .int p1] (hPre D K b0 sa sz L f0)) (hQ D K b0 (fun v9 u9 => ∃ f2 : Nat → va_E, v9 = some (.int v) ∧ u9 = lU L f2 ∧ PW K ad P S1 L f2 ∧ S1.2.2.1 = n ∧ Kp ad P L f0 f2)) 0 0 (fun q => b0 ≤ q) := by
  refine t_of (own := RX7) (by decide) rfl ?_ (Nat.le_of_ble_eq_true rfl)
  intro p e s m below meth c ls C w hsz hr hlk hnm hl
  have hx := C.1
  have hb := C.2.1
  have hl : lv_has ls 3 [(0, .ref (ad 40 0)), (1, .int p1)] := hl
  have J25 : ∀ (a1 : Int32) (t0 : Int32) (S : fS), B_X7_force_25  a1 t0 S = some (v, S1) → Gw D K b0 sa ad P n L f0 p l e { frames := 1, cells := 0, slots := 0, locals := 22 } s m [.ref (ad 40 0), .int p1].toArray below meth c 3 (MQ below (hQ D K b0 (fun v9 u9 => ∃ f2 : Nat → va_E, v9 = some (.int v) ∧ u9 = lU L f2 ∧ PW K ad P S1 L f2 ∧ S1.2.2.1 = n ∧ Kp ad P L f0 f2)) [.ref (ad 40 0), .int p1].toArray s 0 0 (fun q => b0 ≤ q)) 0 0 25 [(0, .ref (ad 40 0)), (1, .int a1)] [.int t0, .ref (ad 40 0)] S := by
    intro a1 t0 S h
    dsimp only [B_X7_force_25] at h
    intro f H locs w hw hn hk ls hl
    refine lv_iconst (v := 1) hx hb dX7_force_25 (by decide) ?_
    obtain ⟨v1, S2, h3, h⟩ := bd_some h
    refine u_callV (n := 2) C w hw (hP _ _ (isn_f rfl rfl (by decide))) rfl rfl rfl (c_X7_bad l D K b0 sa _ L _ ad P hP S hw hn t0 1 v1 S2 h3) gw_1347 gw_1344 gw_1346 gs_22 gw_8 ⟨by decide, by decide, by decide +kernel⟩ rfl rfl ⟨by decide, by decide⟩ rfl hl.1 rfl (Nat.le_of_ble_eq_true rfl) dX7_force_26 ⟨Nat.le_of_ble_eq_true rfl, Nat.le_of_ble_eq_true rfl⟩ (fun v9 u H locs hp w => ?_)
    obtain ⟨f2, rfl, rfl, hw, hn, hk1⟩ := hp
    have hk := hk.tr hk1
    generalize f2 = f at w hw hk
    refine lv_if_eq (tgt := 34) hx hb dX7_force_29 (by decide) (fun c4 => ?_) (fun c4 => ?_)
    · have h := bb_t h c4
      refine lv_aload_n hx hb dX7_force_34 rfl (lv_at hl 0 rfl) ?_
      refine u_geti C w hw (hP _ _ (isn_f rfl rfl (by decide))) rfl (N := 57) rfl rfl cin_7 15 (by decide) rfl gw_1171 dX7_force_35 ?_
      refine u_iv h (fun x5 h => ?_)
      refine lv_istore_n (lv' := [(2, .int x5), (0, .ref (ad 40 0)), (1, .int a1)]) hx hb dX7_force_38 rfl hl (by decide) rfl (fun ls hl => ?_)
      refine lv_aload_n hx hb dX7_force_39 rfl (lv_at hl 1 rfl) ?_
      refine lv_iload_n hx hb dX7_force_40 rfl (lv_at hl 2 rfl) ?_
      refine u_puti C w hw (hP _ _ (isn_f rfl rfl (by decide))) rfl (N := 57) rfl rfl cin_7 tyX7 tyX7_ok nmX7 15 (by decide) rfl rfl rfl rfl gw_1171 dX7_force_41 (fun f H locs w hw hk1 => ?_)
      have hk := hk.tr hk1
      refine u_sv h hw hn (fun S6 h hw hn => ?_)
      refine lv_iload_n hx hb dX7_force_44 rfl (lv_at hl 0 rfl) ?_
      exact t_iret C hr hlk w ⟨_, so_v h, rfl, so_w h hw, so_n h hn, hk⟩ (by decide) (by decide) dX7_force_45
    · have h := bb_f h c4
      refine lv_iconst (v := 0) hx hb dX7_force_32 (by decide) ?_
      exact t_iret C hr hlk w ⟨_, so_v h, rfl, so_w h hw, so_n h hn, hk⟩ (by decide) (by decide) dX7_force_33
  dsimp only [F_X7_force] at h
  obtain ⟨f, ef⟩ : ∃ z, z = f0 := ⟨_, rfl⟩
  rw [← ef] at w hw
  have hk : Kp ad P L f0 f := by rw [ef]; exact Kp.rf
  obtain ⟨H, eH⟩ : ∃ z, z = s.heap := ⟨_, rfl⟩
  obtain ⟨locs, el⟩ : ∃ z : List Loc, z = [] := ⟨_, rfl⟩
  rw [← eH, ← el] at w ⊢
  refine lv_aload_n hx hb dX7_force_0 rfl (lv_at hl 0 rfl) ?_
  refine lv_iconst (v := 0) hx hb dX7_force_1 (by decide) ?_
  refine u_puti C w hw (hP _ _ (isn_f rfl rfl (by decide))) rfl (N := 57) rfl rfl cin_7 tyX7 tyX7_ok nmX7 0 (by decide) rfl rfl rfl rfl gw_1156 dX7_force_2 (fun f H locs w hw hk1 => ?_)
  have hk := hk.tr hk1
  refine u_sv h hw hn (fun S7 h hw hn => ?_)
  refine lv_aload_n hx hb dX7_force_5 rfl (lv_at hl 0 rfl) ?_
  refine lv_iload_n hx hb dX7_force_6 rfl (lv_at hl 1 rfl) ?_
  refine lv_iconst (v := (-1)) hx hb dX7_force_7 (by decide) ?_
  refine lv_aload_n hx hb dX7_force_8 rfl (lv_at hl 0 rfl) ?_
  refine u_geti C w hw (hP _ _ (isn_f rfl rfl (by decide))) rfl (N := 57) rfl rfl cin_7 13 (by decide) rfl gw_1169 dX7_force_9 ?_
  refine u_iv h (fun x8 h => ?_)
  refine lv_iconst (v := 1) hx hb dX7_force_12 (by decide) ?_
  refine lv_isub hx hb dX7_force_13 ?_
  refine u_iv h (fun x9 h => ?_)
  obtain ⟨v10, S11, h12, h⟩ := bd_some h
  refine t_callS (n := 3) C w (c_X7_in l D K b0 sa _ L _ ad P hP S7 hw hn p1 (-1) x9 v10 S11 h12) gw_1343 gw_1341 gw_1342 gw_8 ⟨by decide, by decide, by decide +kernel⟩ rfl rfl ⟨by decide, by decide⟩ rfl hl.1 rfl (Nat.le_of_ble_eq_true rfl) dX7_force_14 ⟨Nat.le_of_ble_eq_true rfl, Nat.le_of_ble_eq_true rfl⟩ (fun v9 u H locs hp w => ?_)
  obtain ⟨f2, rfl, rfl, hw, hn, hk1⟩ := hp
  have hk := hk.tr hk1
  generalize f2 = f at w hw hk
  refine lv_if_ne (tgt := 24) hx hb dX7_force_17 (by decide) (fun c13 => ?_) (fun c13 => ?_)
  · have h := bb_f h c13
    refine lv_iconst (v := 0) hx hb dX7_force_24 (by decide) ?_
    exact J25  p1 0 S11 h f H locs w hw hn hk ls (lv_sub hl [0, 1] rfl)
  · have h := bb_t h c13
    refine lv_iconst (v := 1) hx hb dX7_force_20 (by decide) ?_
    refine lv_goto (tgt := 25) hx hb dX7_force_21 (by decide) ?_
    exact J25  p1 1 S11 h f H locs w hw hn hk ls (lv_sub hl [0, 1] rfl)
theorem dX7_puts_0 : decode cX7_puts 0 = .ok (.aload_n 0, 1) := by decide +kernel
theorem dX7_puts_1 : decode cX7_puts 1 = .ok (.getfield 52, 3) := by decide +kernel
theorem dX7_puts_4 : decode cX7_puts 4 = .ok (.iload_n 2, 1) := by decide +kernel
theorem dX7_puts_5 : decode cX7_puts 5 = .ok (.aaload, 1) := by decide +kernel
theorem dX7_puts_6 : decode cX7_puts 6 = .ok (.aload_n 0, 1) := by decide +kernel
theorem dX7_puts_7 : decode cX7_puts 7 = .ok (.getfield 55, 3) := by decide +kernel
theorem dX7_puts_10 : decode cX7_puts 10 = .ok (.iload_n 2, 1) := by decide +kernel
theorem dX7_puts_11 : decode cX7_puts 11 = .ok (.iaload, 1) := by decide +kernel
theorem dX7_puts_12 : decode cX7_puts 12 = .ok (.iload_n 1, 1) := by decide +kernel
theorem dX7_puts_13 : decode cX7_puts 13 = .ok (.iastore, 1) := by decide +kernel
theorem dX7_puts_14 : decode cX7_puts 14 = .ok (.aload_n 0, 1) := by decide +kernel
theorem dX7_puts_15 : decode cX7_puts 15 = .ok (.getfield 55, 3) := by decide +kernel
theorem dX7_puts_18 : decode cX7_puts 18 = .ok (.iload_n 2, 1) := by decide +kernel
theorem dX7_puts_19 : decode cX7_puts 19 = .ok (.dup2, 1) := by decide +kernel
theorem dX7_puts_20 : decode cX7_puts 20 = .ok (.iaload, 1) := by decide +kernel
theorem dX7_puts_21 : decode cX7_puts 21 = .ok (.iconst 1, 1) := by decide +kernel
theorem dX7_puts_22 : decode cX7_puts 22 = .ok (.iadd, 1) := by decide +kernel
theorem dX7_puts_23 : decode cX7_puts 23 = .ok (.iastore, 1) := by decide +kernel
theorem dX7_puts_24 : decode cX7_puts 24 = .ok (.aload_n 0, 1) := by decide +kernel
theorem dX7_puts_25 : decode cX7_puts 25 = .ok (.getfield 45, 3) := by decide +kernel
theorem dX7_puts_28 : decode cX7_puts 28 = .ok (.iload_n 1, 1) := by decide +kernel
theorem dX7_puts_29 : decode cX7_puts 29 = .ok (.iload_n 2, 1) := by decide +kernel
theorem dX7_puts_30 : decode cX7_puts 30 = .ok (.iastore, 1) := by decide +kernel
theorem dX7_puts_31 : decode cX7_puts 31 = .ok (.return_, 1) := by decide +kernel
noncomputable def F_X7_puts (p1 : Int32) (p2 : Int32) (S0 : fS) : Option (Int32 × fS) := gd (ib p2 64) (gd (ib p2 64) (iv (ge S0 54 0 (p2 : Int32).toNatClampNeg) (fun x3 => gd (ib x3 24) (sv (pu S0 53 (p2.toNatClampNeg) (x3 : Int32).toNatClampNeg p1) (fun S5 => gd (ib p2 64) (iv (ge S5 54 0 (p2 : Int32).toNatClampNeg) (fun x7 => iv (x7 + (1 : Int32)) (fun x8 => gd (ib p2 64) (sv (pu S5 54 0 (p2 : Int32).toNatClampNeg x8) (fun S10 => gd (ib p1 24) (sv (pu S10 50 0 (p1 : Int32).toNatClampNeg p2) (fun S12 => some (0, S12)))))))))))))
set_option maxHeartbeats 4000000 in
set_option maxRecDepth 100000 in
theorem c_X7_puts (l : Launch) (D : va_G) (K : Nat → ClassId) (b0 : Nat) (sa : sT) (sz : Nat) (L : List Nat) (f0 : Nat → va_E) (ad : Nat → Nat → Nat) (P : Nat → Nat → Prop) {n : Nat × Nat} (hP : ∀ a i : Nat, isn n a i → P a i) (S0 : fS) (hw : PW K ad P S0 L f0) (hn : S0.2.2.1 = n) (p1 : Int32) (p2 : Int32) (v : Int32) (S1 : fS) (h : F_X7_puts p1 p2 S0 = some (v, S1)) : Met l yX7_puts (.code yX7_puts cX7_puts 3 none :: gt) { frames := 0, cells := 0, slots := 0, locals := 0 } (va_Pc [.ref (ad 40 0), .int p1, .int p2] (hPre D K b0 sa sz L f0)) (hQ D K b0 (fun v9 u9 => ∃ f2 : Nat → va_E, v9 = none ∧ u9 = lU L f2 ∧ PW K ad P S1 L f2 ∧ S1.2.2.1 = n ∧ Kp ad P L f0 f2)) 0 0 (fun q => b0 ≤ q) := by
  refine t_of (own := RX7) (by decide) rfl ?_ (Nat.le_of_ble_eq_true rfl)
  intro p e s m below meth c ls C w hsz hr hlk hnm hl
  have hx := C.1
  have hb := C.2.1
  have hl : lv_has ls 3 [(0, .ref (ad 40 0)), (1, .int p1), (2, .int p2)] := hl
  dsimp only [F_X7_puts] at h
  obtain ⟨f, ef⟩ : ∃ z, z = f0 := ⟨_, rfl⟩
  rw [← ef] at w hw
  have hk : Kp ad P L f0 f := by rw [ef]; exact Kp.rf
  obtain ⟨H, eH⟩ : ∃ z, z = s.heap := ⟨_, rfl⟩
  obtain ⟨locs, el⟩ : ∃ z : List Loc, z = [] := ⟨_, rfl⟩
  rw [← eH, ← el] at w ⊢
  refine lv_aload_n hx hb dX7_puts_0 rfl (lv_at hl 0 rfl) ?_
  refine u_getr C w hw (hP _ _ (isn_f rfl rfl (by decide))) rfl (N := 57) rfl rfl cin_7 28 (by decide) (by decide) (a2 := 52) (i2 := 0) rfl gw_1184 dX7_puts_1 ?_
  refine lv_iload_n hx hb dX7_puts_4 rfl (lv_at hl 2 rfl) ?_
  obtain ⟨g1, h⟩ := gd_some h
  refine u_aald C w hw (hP _ _ (isn_f rfl rfl (by decide))) rfl rfl rfl (n := 64) rfl (vp_in_iff.mpr g1) (a2 := 53) (i2 := (p2.toNatClampNeg)) (by exact congrArg (Prod.mk _) (Nat.zero_add _)) dX7_puts_5 ?_
  refine lv_aload_n hx hb dX7_puts_6 rfl (lv_at hl 0 rfl) ?_
  refine u_getr C w hw (hP _ _ (isn_f rfl rfl (by decide))) rfl (N := 57) rfl rfl cin_7 29 (by decide) (by decide) (a2 := 54) (i2 := 0) rfl gw_1185 dX7_puts_7 ?_
  refine lv_iload_n hx hb dX7_puts_10 rfl (lv_at hl 2 rfl) ?_
  obtain ⟨g2, h⟩ := gd_some h
  refine u_iald C w hw (hP _ _ (isn_f rfl rfl (by decide))) rfl rfl (n := 64) rfl (vp_in_iff.mpr g2) dX7_puts_11 ?_
  refine u_iv h (fun x3 h => ?_)
  refine lv_iload_n hx hb dX7_puts_12 rfl (lv_at hl 1 rfl) ?_
  obtain ⟨g4, h⟩ := gd_some h
  refine u_iast C w hw (hP _ _ (isn_f rfl rfl (ib_lt g1))) rfl rfl (n := 24) rfl (vp_in_iff.mpr g4) dX7_puts_13 (fun f H locs w hw hk1 => ?_)
  have hk := hk.tr hk1
  refine u_sv h hw hn (fun S5 h hw hn => ?_)
  refine lv_aload_n hx hb dX7_puts_14 rfl (lv_at hl 0 rfl) ?_
  refine u_getr C w hw (hP _ _ (isn_f rfl rfl (by decide))) rfl (N := 57) rfl rfl cin_7 29 (by decide) (by decide) (a2 := 54) (i2 := 0) rfl gw_1185 dX7_puts_15 ?_
  refine lv_iload_n hx hb dX7_puts_18 rfl (lv_at hl 2 rfl) ?_
  refine lv_dup2_11 hx hb dX7_puts_19 rfl rfl ?_
  obtain ⟨g6, h⟩ := gd_some h
  refine u_iald C w hw (hP _ _ (isn_f rfl rfl (by decide))) rfl rfl (n := 64) rfl (vp_in_iff.mpr g6) dX7_puts_20 ?_
  refine u_iv h (fun x7 h => ?_)
  refine lv_iconst (v := 1) hx hb dX7_puts_21 (by decide) ?_
  refine lv_iadd hx hb dX7_puts_22 ?_
  refine u_iv h (fun x8 h => ?_)
  obtain ⟨g9, h⟩ := gd_some h
  refine u_iast C w hw (hP _ _ (isn_f rfl rfl (by decide))) rfl rfl (n := 64) rfl (vp_in_iff.mpr g9) dX7_puts_23 (fun f H locs w hw hk1 => ?_)
  have hk := hk.tr hk1
  refine u_sv h hw hn (fun S10 h hw hn => ?_)
  refine lv_aload_n hx hb dX7_puts_24 rfl (lv_at hl 0 rfl) ?_
  refine u_getr C w hw (hP _ _ (isn_f rfl rfl (by decide))) rfl (N := 57) rfl rfl cin_7 26 (by decide) (by decide) (a2 := 50) (i2 := 0) rfl gw_1182 dX7_puts_25 ?_
  refine lv_iload_n hx hb dX7_puts_28 rfl (lv_at hl 1 rfl) ?_
  refine lv_iload_n hx hb dX7_puts_29 rfl (lv_at hl 2 rfl) ?_
  obtain ⟨g11, h⟩ := gd_some h
  refine u_iast C w hw (hP _ _ (isn_f rfl rfl (by decide))) rfl rfl (n := 24) rfl (vp_in_iff.mpr g11) dX7_puts_30 (fun f H locs w hw hk1 => ?_)
  have hk := hk.tr hk1
  refine u_sv h hw hn (fun S12 h hw hn => ?_)
  exact t_vret C hr hlk w ⟨_, rfl, rfl, so_w h hw, so_n h hn, hk⟩ (by decide) (by decide) dX7_puts_31
theorem dX7_lay_0 : decode cX7_lay 0 = .ok (.aload_n 0, 1) := by decide +kernel
theorem dX7_lay_1 : decode cX7_lay 1 = .ok (.iconst 0, 1) := by decide +kernel
theorem dX7_lay_2 : decode cX7_lay 2 = .ok (.putfield 97, 3) := by decide +kernel
theorem dX7_lay_5 : decode cX7_lay 5 = .ok (.aload_n 0, 1) := by decide +kernel
theorem dX7_lay_6 : decode cX7_lay 6 = .ok (.iload_n 1, 1) := by decide +kernel
theorem dX7_lay_7 : decode cX7_lay 7 = .ok (.invokestatic 253, 3) := by decide +kernel
theorem dX7_lay_10 : decode cX7_lay 10 = .ok (.ifCond .ne 7, 3) := by decide +kernel
theorem dX7_lay_13 : decode cX7_lay 13 = .ok (.iconst 1, 1) := by decide +kernel
theorem dX7_lay_14 : decode cX7_lay 14 = .ok (.goto 4, 3) := by decide +kernel
theorem dX7_lay_17 : decode cX7_lay 17 = .ok (.iconst 0, 1) := by decide +kernel
theorem dX7_lay_18 : decode cX7_lay 18 = .ok (.iconst 1, 1) := by decide +kernel
theorem dX7_lay_19 : decode cX7_lay 19 = .ok (.invokevirtual 206, 3) := by decide +kernel
theorem dX7_lay_22 : decode cX7_lay 22 = .ok (.ifCond .ne 56, 3) := by decide +kernel
theorem dX7_lay_25 : decode cX7_lay 25 = .ok (.aload_n 0, 1) := by decide +kernel
theorem dX7_lay_26 : decode cX7_lay 26 = .ok (.iload_n 1, 1) := by decide +kernel
theorem dX7_lay_27 : decode cX7_lay 27 = .ok (.aload_n 0, 1) := by decide +kernel
theorem dX7_lay_28 : decode cX7_lay 28 = .ok (.getfield 58, 3) := by decide +kernel
theorem dX7_lay_31 : decode cX7_lay 31 = .ok (.if_icmp .eq 35, 3) := by decide +kernel
theorem dX7_lay_34 : decode cX7_lay 34 = .ok (.iload_n 2, 1) := by decide +kernel
theorem dX7_lay_35 : decode cX7_lay 35 = .ok (.iconst 1, 1) := by decide +kernel
theorem dX7_lay_36 : decode cX7_lay 36 = .ok (.bipush 99, 2) := by decide +kernel
theorem dX7_lay_38 : decode cX7_lay 38 = .ok (.invokestatic 100, 3) := by decide +kernel
theorem dX7_lay_41 : decode cX7_lay 41 = .ok (.ifCond .eq 25, 3) := by decide +kernel
theorem dX7_lay_44 : decode cX7_lay 44 = .ok (.iload_n 3, 1) := by decide +kernel
theorem dX7_lay_45 : decode cX7_lay 45 = .ok (.iconst 0, 1) := by decide +kernel
theorem dX7_lay_46 : decode cX7_lay 46 = .ok (.bipush 7, 2) := by decide +kernel
theorem dX7_lay_48 : decode cX7_lay 48 = .ok (.invokestatic 100, 3) := by decide +kernel
theorem dX7_lay_51 : decode cX7_lay 51 = .ok (.ifCond .eq 15, 3) := by decide +kernel
theorem dX7_lay_54 : decode cX7_lay 54 = .ok (.iload 4, 2) := by decide +kernel
theorem dX7_lay_56 : decode cX7_lay 56 = .ok (.iconst 0, 1) := by decide +kernel
theorem dX7_lay_57 : decode cX7_lay 57 = .ok (.sipush 999, 3) := by decide +kernel
theorem dX7_lay_60 : decode cX7_lay 60 = .ok (.invokestatic 100, 3) := by decide +kernel
theorem dX7_lay_63 : decode cX7_lay 63 = .ok (.ifCond .ne 7, 3) := by decide +kernel
theorem dX7_lay_66 : decode cX7_lay 66 = .ok (.iconst 1, 1) := by decide +kernel
theorem dX7_lay_67 : decode cX7_lay 67 = .ok (.goto 4, 3) := by decide +kernel
theorem dX7_lay_70 : decode cX7_lay 70 = .ok (.iconst 0, 1) := by decide +kernel
theorem dX7_lay_71 : decode cX7_lay 71 = .ok (.iconst 2, 1) := by decide +kernel
theorem dX7_lay_72 : decode cX7_lay 72 = .ok (.invokevirtual 206, 3) := by decide +kernel
theorem dX7_lay_75 : decode cX7_lay 75 = .ok (.ifCond .eq 5, 3) := by decide +kernel
theorem dX7_lay_78 : decode cX7_lay 78 = .ok (.iconst 0, 1) := by decide +kernel
theorem dX7_lay_79 : decode cX7_lay 79 = .ok (.ireturn, 1) := by decide +kernel
theorem dX7_lay_80 : decode cX7_lay 80 = .ok (.aload_n 0, 1) := by decide +kernel
theorem dX7_lay_81 : decode cX7_lay 81 = .ok (.getfield 256, 3) := by decide +kernel
theorem dX7_lay_84 : decode cX7_lay 84 = .ok (.bipush 24, 2) := by decide +kernel
theorem dX7_lay_86 : decode cX7_lay 86 = .ok (.if_icmp .ne 5, 3) := by decide +kernel
theorem dX7_lay_89 : decode cX7_lay 89 = .ok (.iconst (-1), 1) := by decide +kernel
theorem dX7_lay_90 : decode cX7_lay 90 = .ok (.ireturn, 1) := by decide +kernel
theorem dX7_lay_91 : decode cX7_lay 91 = .ok (.aload_n 0, 1) := by decide +kernel
theorem dX7_lay_92 : decode cX7_lay 92 = .ok (.getfield 33, 3) := by decide +kernel
theorem dX7_lay_95 : decode cX7_lay 95 = .ok (.aload_n 0, 1) := by decide +kernel
theorem dX7_lay_96 : decode cX7_lay 96 = .ok (.getfield 256, 3) := by decide +kernel
theorem dX7_lay_99 : decode cX7_lay 99 = .ok (.iload_n 2, 1) := by decide +kernel
theorem dX7_lay_100 : decode cX7_lay 100 = .ok (.iastore, 1) := by decide +kernel
theorem dX7_lay_101 : decode cX7_lay 101 = .ok (.aload_n 0, 1) := by decide +kernel
theorem dX7_lay_102 : decode cX7_lay 102 = .ok (.getfield 36, 3) := by decide +kernel
theorem dX7_lay_105 : decode cX7_lay 105 = .ok (.aload_n 0, 1) := by decide +kernel
theorem dX7_lay_106 : decode cX7_lay 106 = .ok (.getfield 256, 3) := by decide +kernel
theorem dX7_lay_109 : decode cX7_lay 109 = .ok (.iload_n 3, 1) := by decide +kernel
theorem dX7_lay_110 : decode cX7_lay 110 = .ok (.iastore, 1) := by decide +kernel
theorem dX7_lay_111 : decode cX7_lay 111 = .ok (.aload_n 0, 1) := by decide +kernel
theorem dX7_lay_112 : decode cX7_lay 112 = .ok (.getfield 39, 3) := by decide +kernel
theorem dX7_lay_115 : decode cX7_lay 115 = .ok (.aload_n 0, 1) := by decide +kernel
theorem dX7_lay_116 : decode cX7_lay 116 = .ok (.getfield 256, 3) := by decide +kernel
theorem dX7_lay_119 : decode cX7_lay 119 = .ok (.iload 4, 2) := by decide +kernel
theorem dX7_lay_121 : decode cX7_lay 121 = .ok (.iastore, 1) := by decide +kernel
theorem dX7_lay_122 : decode cX7_lay 122 = .ok (.aload_n 0, 1) := by decide +kernel
theorem dX7_lay_123 : decode cX7_lay 123 = .ok (.getfield 42, 3) := by decide +kernel
theorem dX7_lay_126 : decode cX7_lay 126 = .ok (.aload_n 0, 1) := by decide +kernel
theorem dX7_lay_127 : decode cX7_lay 127 = .ok (.getfield 256, 3) := by decide +kernel
theorem dX7_lay_130 : decode cX7_lay 130 = .ok (.iload_n 1, 1) := by decide +kernel
theorem dX7_lay_131 : decode cX7_lay 131 = .ok (.iastore, 1) := by decide +kernel
theorem dX7_lay_132 : decode cX7_lay 132 = .ok (.aload_n 0, 1) := by decide +kernel
theorem dX7_lay_133 : decode cX7_lay 133 = .ok (.getfield 48, 3) := by decide +kernel
theorem dX7_lay_136 : decode cX7_lay 136 = .ok (.aload_n 0, 1) := by decide +kernel
theorem dX7_lay_137 : decode cX7_lay 137 = .ok (.getfield 256, 3) := by decide +kernel
theorem dX7_lay_140 : decode cX7_lay 140 = .ok (.iconst 0, 1) := by decide +kernel
theorem dX7_lay_141 : decode cX7_lay 141 = .ok (.bastore, 1) := by decide +kernel
theorem dX7_lay_142 : decode cX7_lay 142 = .ok (.aload_n 0, 1) := by decide +kernel
theorem dX7_lay_143 : decode cX7_lay 143 = .ok (.aload_n 0, 1) := by decide +kernel
theorem dX7_lay_144 : decode cX7_lay 144 = .ok (.getfield 256, 3) := by decide +kernel
theorem dX7_lay_147 : decode cX7_lay 147 = .ok (.iload_n 1, 1) := by decide +kernel
theorem dX7_lay_148 : decode cX7_lay 148 = .ok (.invokevirtual 259, 3) := by decide +kernel
theorem dX7_lay_151 : decode cX7_lay 151 = .ok (.aload_n 0, 1) := by decide +kernel
theorem dX7_lay_152 : decode cX7_lay 152 = .ok (.dup, 1) := by decide +kernel
theorem dX7_lay_153 : decode cX7_lay 153 = .ok (.getfield 256, 3) := by decide +kernel
theorem dX7_lay_156 : decode cX7_lay 156 = .ok (.iconst 1, 1) := by decide +kernel
theorem dX7_lay_157 : decode cX7_lay 157 = .ok (.iadd, 1) := by decide +kernel
theorem dX7_lay_158 : decode cX7_lay 158 = .ok (.putfield 256, 3) := by decide +kernel
theorem dX7_lay_161 : decode cX7_lay 161 = .ok (.aload_n 0, 1) := by decide +kernel
theorem dX7_lay_162 : decode cX7_lay 162 = .ok (.getfield 256, 3) := by decide +kernel
theorem dX7_lay_165 : decode cX7_lay 165 = .ok (.iconst 1, 1) := by decide +kernel
theorem dX7_lay_166 : decode cX7_lay 166 = .ok (.isub, 1) := by decide +kernel
theorem dX7_lay_167 : decode cX7_lay 167 = .ok (.ireturn, 1) := by decide +kernel
noncomputable def B_X7_lay_71 (a1 : Int32) (a2 : Int32) (a3 : Int32) (a4 : Int32) (t0 : Int32) (S : fS) : Option (Int32 × fS) := bd (F_X7_bad t0 2 S) (fun v1 S2 => bb (v1 = (0 : Int32)) (iv (ge S2 40 0 21) (fun x5 => bb (x5 = (24 : Int32)) (some ((-1), S2)) (iv (ge S2 40 0 21) (fun x7 => gd (ib x7 24) (sv (pu S2 46 0 (x7 : Int32).toNatClampNeg a2) (fun S9 => iv (ge S9 40 0 21) (fun x10 => gd (ib x10 24) (sv (pu S9 47 0 (x10 : Int32).toNatClampNeg a3) (fun S12 => iv (ge S12 40 0 21) (fun x13 => gd (ib x13 24) (sv (pu S12 48 0 (x13 : Int32).toNatClampNeg a4) (fun S15 => iv (ge S15 40 0 21) (fun x16 => gd (ib x16 24) (sv (pu S15 49 0 (x16 : Int32).toNatClampNeg a1) (fun S18 => iv (ge S18 40 0 21) (fun x19 => gd (ib x19 24) (sv (pu S18 51 0 (x19 : Int32).toNatClampNeg (vp_nar .boolean 0)) (fun S21 => iv (ge S21 40 0 21) (fun x22 => bd (F_X7_puts x22 a1 S21) (fun v23 S24 => iv (ge S24 40 0 21) (fun x26 => iv (x26 + (1 : Int32)) (fun x27 => sv (pu S24 40 0 21 x27) (fun S28 => iv (ge S28 40 0 21) (fun x29 => iv (x29 - (1 : Int32)) (fun x30 => some (x30, S28)))))))))))))))))))))))))) (some (0, S2)))
noncomputable def B_X7_lay_66 (a1 : Int32) (a2 : Int32) (a3 : Int32) (a4 : Int32) (S : fS) : Option (Int32 × fS) := B_X7_lay_71  a1 a2 a3 a4 1 S
noncomputable def B_X7_lay_18 (a1 : Int32) (a2 : Int32) (a3 : Int32) (a4 : Int32) (t0 : Int32) (S : fS) : Option (Int32 × fS) := bd (F_X7_bad t0 1 S) (fun v31 S32 => bb (v31 = (0 : Int32)) (iv (ge S32 40 0 30) (fun x35 => bb (a1 = x35) (B_X7_lay_66  a1 a2 a3 a4 S32) (bd (F_X7_in a2 1 99 S32) (fun v37 S38 => bb (v37 = (0 : Int32)) (B_X7_lay_66  a1 a2 a3 a4 S38) (bd (F_X7_in a3 0 7 S38) (fun v41 S42 => bb (v41 = (0 : Int32)) (B_X7_lay_66  a1 a2 a3 a4 S42) (bd (F_X7_in a4 0 999 S42) (fun v45 S46 => bb (v45 = (0 : Int32)) (B_X7_lay_66  a1 a2 a3 a4 S46) (B_X7_lay_71  a1 a2 a3 a4 0 S46))))))))) (some (0, S32)))
noncomputable def F_X7_lay (p1 : Int32) (p2 : Int32) (p3 : Int32) (p4 : Int32) (S0 : fS) : Option (Int32 × fS) := sv (pu S0 40 0 0 0) (fun S49 => bd (F_X7_isCell p1 S49) (fun v50 S51 => bb (v50 = (0 : Int32)) (B_X7_lay_18  p1 p2 p3 p4 1 S51) (B_X7_lay_18  p1 p2 p3 p4 0 S51)))
set_option maxHeartbeats 4000000 in
set_option maxRecDepth 100000 in
theorem c_X7_lay (l : Launch) (D : va_G) (K : Nat → ClassId) (b0 : Nat) (sa : sT) (sz : Nat) (L : List Nat) (f0 : Nat → va_E) (ad : Nat → Nat → Nat) (P : Nat → Nat → Prop) {n : Nat × Nat} (hP : ∀ a i : Nat, isn n a i → P a i) (S0 : fS) (hw : PW K ad P S0 L f0) (hn : S0.2.2.1 = n) (p1 : Int32) (p2 : Int32) (p3 : Int32) (p4 : Int32) (v : Int32) (S1 : fS) (h : F_X7_lay p1 p2 p3 p4 S0 = some (v, S1)) : Met l yX7_lay (.code yX7_lay cX7_lay 5 (some .int) :: gt) { frames := 2, cells := 0, slots := 0, locals := 42 } (va_Pc [.ref (ad 40 0), .int p1, .int p2, .int p3, .int p4] (hPre D K b0 sa sz L f0)) (hQ D K b0 (fun v9 u9 => ∃ f2 : Nat → va_E, v9 = some (.int v) ∧ u9 = lU L f2 ∧ PW K ad P S1 L f2 ∧ S1.2.2.1 = n ∧ Kp ad P L f0 f2)) 0 0 (fun q => b0 ≤ q) := by
  refine t_of (own := RX7) (by decide) rfl ?_ (Nat.le_of_ble_eq_true rfl)
  intro p e s m below meth c ls C w hsz hr hlk hnm hl
  have hx := C.1
  have hb := C.2.1
  have hl : lv_has ls 5 [(0, .ref (ad 40 0)), (1, .int p1), (2, .int p2), (3, .int p3), (4, .int p4)] := hl
  have J71 : ∀ (a1 : Int32) (a2 : Int32) (a3 : Int32) (a4 : Int32) (t0 : Int32) (S : fS), B_X7_lay_71  a1 a2 a3 a4 t0 S = some (v, S1) → Gw D K b0 sa ad P n L f0 p l e { frames := 2, cells := 0, slots := 0, locals := 42 } s m [.ref (ad 40 0), .int p1, .int p2, .int p3, .int p4].toArray below meth c 5 (MQ below (hQ D K b0 (fun v9 u9 => ∃ f2 : Nat → va_E, v9 = some (.int v) ∧ u9 = lU L f2 ∧ PW K ad P S1 L f2 ∧ S1.2.2.1 = n ∧ Kp ad P L f0 f2)) [.ref (ad 40 0), .int p1, .int p2, .int p3, .int p4].toArray s 0 0 (fun q => b0 ≤ q)) 0 0 71 [(0, .ref (ad 40 0)), (1, .int a1), (2, .int a2), (3, .int a3), (4, .int a4)] [.int t0, .ref (ad 40 0)] S := by
    intro a1 a2 a3 a4 t0 S h
    dsimp only [B_X7_lay_71] at h
    intro f H locs w hw hn hk ls hl
    refine lv_iconst (v := 2) hx hb dX7_lay_71 (by decide) ?_
    obtain ⟨v1, S2, h3, h⟩ := bd_some h
    refine u_callV (n := 2) C w hw (hP _ _ (isn_f rfl rfl (by decide))) rfl rfl rfl (c_X7_bad l D K b0 sa _ L _ ad P hP S hw hn t0 2 v1 S2 h3) gw_1347 gw_1344 gw_1346 gs_22 gw_8 ⟨by decide, by decide, by decide +kernel⟩ rfl rfl ⟨by decide, by decide⟩ rfl hl.1 rfl (Nat.le_of_ble_eq_true rfl) dX7_lay_72 ⟨Nat.le_of_ble_eq_true rfl, Nat.le_of_ble_eq_true rfl⟩ (fun v9 u H locs hp w => ?_)
    obtain ⟨f2, rfl, rfl, hw, hn, hk1⟩ := hp
    have hk := hk.tr hk1
    generalize f2 = f at w hw hk
    refine lv_if_eq (tgt := 80) hx hb dX7_lay_75 (by decide) (fun c4 => ?_) (fun c4 => ?_)
    · have h := bb_t h c4
      refine lv_aload_n hx hb dX7_lay_80 rfl (lv_at hl 0 rfl) ?_
      refine u_geti C w hw (hP _ _ (isn_f rfl rfl (by decide))) rfl (N := 57) rfl rfl cin_7 21 (by decide) rfl gw_1177 dX7_lay_81 ?_
      refine u_iv h (fun x5 h => ?_)
      refine lv_bipush (v := 24) hx hb dX7_lay_84 (by decide) ?_
      refine lv_icmp_ne (tgt := 91) hx hb dX7_lay_86 (by decide) (fun c6 => ?_) (fun c6 => ?_)
      · have h := bb_f h c6
        refine lv_aload_n hx hb dX7_lay_91 rfl (lv_at hl 0 rfl) ?_
        refine u_getr C w hw (hP _ _ (isn_f rfl rfl (by decide))) rfl (N := 57) rfl rfl cin_7 22 (by decide) (by decide) (a2 := 46) (i2 := 0) rfl gw_1178 dX7_lay_92 ?_
        refine lv_aload_n hx hb dX7_lay_95 rfl (lv_at hl 0 rfl) ?_
        refine u_geti C w hw (hP _ _ (isn_f rfl rfl (by decide))) rfl (N := 57) rfl rfl cin_7 21 (by decide) rfl gw_1177 dX7_lay_96 ?_
        refine u_iv h (fun x7 h => ?_)
        refine lv_iload_n hx hb dX7_lay_99 rfl (lv_at hl 2 rfl) ?_
        obtain ⟨g8, h⟩ := gd_some h
        refine u_iast C w hw (hP _ _ (isn_f rfl rfl (by decide))) rfl rfl (n := 24) rfl (vp_in_iff.mpr g8) dX7_lay_100 (fun f H locs w hw hk1 => ?_)
        have hk := hk.tr hk1
        refine u_sv h hw hn (fun S9 h hw hn => ?_)
        refine lv_aload_n hx hb dX7_lay_101 rfl (lv_at hl 0 rfl) ?_
        refine u_getr C w hw (hP _ _ (isn_f rfl rfl (by decide))) rfl (N := 57) rfl rfl cin_7 23 (by decide) (by decide) (a2 := 47) (i2 := 0) rfl gw_1179 dX7_lay_102 ?_
        refine lv_aload_n hx hb dX7_lay_105 rfl (lv_at hl 0 rfl) ?_
        refine u_geti C w hw (hP _ _ (isn_f rfl rfl (by decide))) rfl (N := 57) rfl rfl cin_7 21 (by decide) rfl gw_1177 dX7_lay_106 ?_
        refine u_iv h (fun x10 h => ?_)
        refine lv_iload_n hx hb dX7_lay_109 rfl (lv_at hl 3 rfl) ?_
        obtain ⟨g11, h⟩ := gd_some h
        refine u_iast C w hw (hP _ _ (isn_f rfl rfl (by decide))) rfl rfl (n := 24) rfl (vp_in_iff.mpr g11) dX7_lay_110 (fun f H locs w hw hk1 => ?_)
        have hk := hk.tr hk1
        refine u_sv h hw hn (fun S12 h hw hn => ?_)
        refine lv_aload_n hx hb dX7_lay_111 rfl (lv_at hl 0 rfl) ?_
        refine u_getr C w hw (hP _ _ (isn_f rfl rfl (by decide))) rfl (N := 57) rfl rfl cin_7 24 (by decide) (by decide) (a2 := 48) (i2 := 0) rfl gw_1180 dX7_lay_112 ?_
        refine lv_aload_n hx hb dX7_lay_115 rfl (lv_at hl 0 rfl) ?_
        refine u_geti C w hw (hP _ _ (isn_f rfl rfl (by decide))) rfl (N := 57) rfl rfl cin_7 21 (by decide) rfl gw_1177 dX7_lay_116 ?_
        refine u_iv h (fun x13 h => ?_)
        refine lv_iload hx hb dX7_lay_119 (lv_at hl 4 rfl) ?_
        obtain ⟨g14, h⟩ := gd_some h
        refine u_iast C w hw (hP _ _ (isn_f rfl rfl (by decide))) rfl rfl (n := 24) rfl (vp_in_iff.mpr g14) dX7_lay_121 (fun f H locs w hw hk1 => ?_)
        have hk := hk.tr hk1
        refine u_sv h hw hn (fun S15 h hw hn => ?_)
        refine lv_aload_n hx hb dX7_lay_122 rfl (lv_at hl 0 rfl) ?_
        refine u_getr C w hw (hP _ _ (isn_f rfl rfl (by decide))) rfl (N := 57) rfl rfl cin_7 25 (by decide) (by decide) (a2 := 49) (i2 := 0) rfl gw_1181 dX7_lay_123 ?_
        refine lv_aload_n hx hb dX7_lay_126 rfl (lv_at hl 0 rfl) ?_
        refine u_geti C w hw (hP _ _ (isn_f rfl rfl (by decide))) rfl (N := 57) rfl rfl cin_7 21 (by decide) rfl gw_1177 dX7_lay_127 ?_
        refine u_iv h (fun x16 h => ?_)
        refine lv_iload_n hx hb dX7_lay_130 rfl (lv_at hl 1 rfl) ?_
        obtain ⟨g17, h⟩ := gd_some h
        refine u_iast C w hw (hP _ _ (isn_f rfl rfl (by decide))) rfl rfl (n := 24) rfl (vp_in_iff.mpr g17) dX7_lay_131 (fun f H locs w hw hk1 => ?_)
        have hk := hk.tr hk1
        refine u_sv h hw hn (fun S18 h hw hn => ?_)
        refine lv_aload_n hx hb dX7_lay_132 rfl (lv_at hl 0 rfl) ?_
        refine u_getr C w hw (hP _ _ (isn_f rfl rfl (by decide))) rfl (N := 57) rfl rfl cin_7 27 (by decide) (by decide) (a2 := 51) (i2 := 0) rfl gw_1183 dX7_lay_133 ?_
        refine lv_aload_n hx hb dX7_lay_136 rfl (lv_at hl 0 rfl) ?_
        refine u_geti C w hw (hP _ _ (isn_f rfl rfl (by decide))) rfl (N := 57) rfl rfl cin_7 21 (by decide) rfl gw_1177 dX7_lay_137 ?_
        refine u_iv h (fun x19 h => ?_)
        refine lv_iconst (v := 0) hx hb dX7_lay_140 (by decide) ?_
        obtain ⟨g20, h⟩ := gd_some h
        refine u_zast C w hw (hP _ _ (isn_f rfl rfl (by decide))) rfl rfl (n := 24) rfl (vp_in_iff.mpr g20) dX7_lay_141 (fun f H locs w hw hk1 => ?_)
        have hk := hk.tr hk1
        refine u_sv h hw hn (fun S21 h hw hn => ?_)
        refine lv_aload_n hx hb dX7_lay_142 rfl (lv_at hl 0 rfl) ?_
        refine lv_aload_n hx hb dX7_lay_143 rfl (lv_at hl 0 rfl) ?_
        refine u_geti C w hw (hP _ _ (isn_f rfl rfl (by decide))) rfl (N := 57) rfl rfl cin_7 21 (by decide) rfl gw_1177 dX7_lay_144 ?_
        refine u_iv h (fun x22 h => ?_)
        refine lv_iload_n hx hb dX7_lay_147 rfl (lv_at hl 1 rfl) ?_
        obtain ⟨v23, S24, h25, h⟩ := bd_some h
        refine u_callV (n := 2) C w hw (hP _ _ (isn_f rfl rfl (by decide))) rfl rfl rfl (c_X7_puts l D K b0 sa _ L _ ad P hP S21 hw hn x22 a1 v23 S24 h25) gw_1471 gw_1468 gw_1470 gs_46 gw_8 ⟨by decide, by decide, by decide +kernel⟩ rfl rfl ⟨by decide, by decide⟩ rfl hl.1 rfl (Nat.le_of_ble_eq_true rfl) dX7_lay_148 ⟨Nat.le_of_ble_eq_true rfl, Nat.le_of_ble_eq_true rfl⟩ (fun v9 u H locs hp w => ?_)
        obtain ⟨f2, rfl, rfl, hw, hn, hk1⟩ := hp
        have hk := hk.tr hk1
        generalize f2 = f at w hw hk
        refine lv_aload_n hx hb dX7_lay_151 rfl (lv_at hl 0 rfl) ?_
        refine lv_dup hx hb dX7_lay_152 rfl ?_
        refine u_geti C w hw (hP _ _ (isn_f rfl rfl (by decide))) rfl (N := 57) rfl rfl cin_7 21 (by decide) rfl gw_1177 dX7_lay_153 ?_
        refine u_iv h (fun x26 h => ?_)
        refine lv_iconst (v := 1) hx hb dX7_lay_156 (by decide) ?_
        refine lv_iadd hx hb dX7_lay_157 ?_
        refine u_iv h (fun x27 h => ?_)
        refine u_puti C w hw (hP _ _ (isn_f rfl rfl (by decide))) rfl (N := 57) rfl rfl cin_7 tyX7 tyX7_ok nmX7 21 (by decide) rfl rfl rfl rfl gw_1177 dX7_lay_158 (fun f H locs w hw hk1 => ?_)
        have hk := hk.tr hk1
        refine u_sv h hw hn (fun S28 h hw hn => ?_)
        refine lv_aload_n hx hb dX7_lay_161 rfl (lv_at hl 0 rfl) ?_
        refine u_geti C w hw (hP _ _ (isn_f rfl rfl (by decide))) rfl (N := 57) rfl rfl cin_7 21 (by decide) rfl gw_1177 dX7_lay_162 ?_
        refine u_iv h (fun x29 h => ?_)
        refine lv_iconst (v := 1) hx hb dX7_lay_165 (by decide) ?_
        refine lv_isub hx hb dX7_lay_166 ?_
        refine u_iv h (fun x30 h => ?_)
        exact t_iret C hr hlk w ⟨_, so_v h, rfl, so_w h hw, so_n h hn, hk⟩ (by decide) (by decide) dX7_lay_167
      · have h := bb_t h c6
        refine lv_iconst (v := (-1)) hx hb dX7_lay_89 (by decide) ?_
        exact t_iret C hr hlk w ⟨_, so_v h, rfl, so_w h hw, so_n h hn, hk⟩ (by decide) (by decide) dX7_lay_90
    · have h := bb_f h c4
      refine lv_iconst (v := 0) hx hb dX7_lay_78 (by decide) ?_
      exact t_iret C hr hlk w ⟨_, so_v h, rfl, so_w h hw, so_n h hn, hk⟩ (by decide) (by decide) dX7_lay_79
  have J66 : ∀ (a1 : Int32) (a2 : Int32) (a3 : Int32) (a4 : Int32) (S : fS), B_X7_lay_66  a1 a2 a3 a4 S = some (v, S1) → Gw D K b0 sa ad P n L f0 p l e { frames := 2, cells := 0, slots := 0, locals := 42 } s m [.ref (ad 40 0), .int p1, .int p2, .int p3, .int p4].toArray below meth c 5 (MQ below (hQ D K b0 (fun v9 u9 => ∃ f2 : Nat → va_E, v9 = some (.int v) ∧ u9 = lU L f2 ∧ PW K ad P S1 L f2 ∧ S1.2.2.1 = n ∧ Kp ad P L f0 f2)) [.ref (ad 40 0), .int p1, .int p2, .int p3, .int p4].toArray s 0 0 (fun q => b0 ≤ q)) 0 0 66 [(0, .ref (ad 40 0)), (1, .int a1), (2, .int a2), (3, .int a3), (4, .int a4)] [.ref (ad 40 0)] S := by
    intro a1 a2 a3 a4 S h
    dsimp only [B_X7_lay_66] at h
    intro f H locs w hw hn hk ls hl
    refine lv_iconst (v := 1) hx hb dX7_lay_66 (by decide) ?_
    refine lv_goto (tgt := 71) hx hb dX7_lay_67 (by decide) ?_
    exact J71  a1 a2 a3 a4 1 S h f H locs w hw hn hk ls (lv_sub hl [0, 1, 2, 3, 4] rfl)
  have J18 : ∀ (a1 : Int32) (a2 : Int32) (a3 : Int32) (a4 : Int32) (t0 : Int32) (S : fS), B_X7_lay_18  a1 a2 a3 a4 t0 S = some (v, S1) → Gw D K b0 sa ad P n L f0 p l e { frames := 2, cells := 0, slots := 0, locals := 42 } s m [.ref (ad 40 0), .int p1, .int p2, .int p3, .int p4].toArray below meth c 5 (MQ below (hQ D K b0 (fun v9 u9 => ∃ f2 : Nat → va_E, v9 = some (.int v) ∧ u9 = lU L f2 ∧ PW K ad P S1 L f2 ∧ S1.2.2.1 = n ∧ Kp ad P L f0 f2)) [.ref (ad 40 0), .int p1, .int p2, .int p3, .int p4].toArray s 0 0 (fun q => b0 ≤ q)) 0 0 18 [(0, .ref (ad 40 0)), (1, .int a1), (2, .int a2), (3, .int a3), (4, .int a4)] [.int t0, .ref (ad 40 0)] S := by
    intro a1 a2 a3 a4 t0 S h
    dsimp only [B_X7_lay_18] at h
    intro f H locs w hw hn hk ls hl
    refine lv_iconst (v := 1) hx hb dX7_lay_18 (by decide) ?_
    obtain ⟨v31, S32, h33, h⟩ := bd_some h
    refine u_callV (n := 2) C w hw (hP _ _ (isn_f rfl rfl (by decide))) rfl rfl rfl (c_X7_bad l D K b0 sa _ L _ ad P hP S hw hn t0 1 v31 S32 h33) gw_1347 gw_1344 gw_1346 gs_22 gw_8 ⟨by decide, by decide, by decide +kernel⟩ rfl rfl ⟨by decide, by decide⟩ rfl hl.1 rfl (Nat.le_of_ble_eq_true rfl) dX7_lay_19 ⟨Nat.le_of_ble_eq_true rfl, Nat.le_of_ble_eq_true rfl⟩ (fun v9 u H locs hp w => ?_)
    obtain ⟨f2, rfl, rfl, hw, hn, hk1⟩ := hp
    have hk := hk.tr hk1
    generalize f2 = f at w hw hk
    refine lv_if_ne (tgt := 78) hx hb dX7_lay_22 (by decide) (fun c34 => ?_) (fun c34 => ?_)
    · have h := bb_f h c34
      refine lv_iconst (v := 0) hx hb dX7_lay_78 (by decide) ?_
      exact t_iret C hr hlk w ⟨_, so_v h, rfl, so_w h hw, so_n h hn, hk⟩ (by decide) (by decide) dX7_lay_79
    · have h := bb_t h c34
      refine lv_aload_n hx hb dX7_lay_25 rfl (lv_at hl 0 rfl) ?_
      refine lv_iload_n hx hb dX7_lay_26 rfl (lv_at hl 1 rfl) ?_
      refine lv_aload_n hx hb dX7_lay_27 rfl (lv_at hl 0 rfl) ?_
      refine u_geti C w hw (hP _ _ (isn_f rfl rfl (by decide))) rfl (N := 57) rfl rfl cin_7 30 (by decide) rfl gw_1186 dX7_lay_28 ?_
      refine u_iv h (fun x35 h => ?_)
      refine lv_icmp_eq (tgt := 66) hx hb dX7_lay_31 (by decide) (fun c36 => ?_) (fun c36 => ?_)
      · have h := bb_t h c36
        exact J66  a1 a2 a3 a4 S32 h f H locs w hw hn hk ls (lv_sub hl [0, 1, 2, 3, 4] rfl)
      · have h := bb_f h c36
        refine lv_iload_n hx hb dX7_lay_34 rfl (lv_at hl 2 rfl) ?_
        refine lv_iconst (v := 1) hx hb dX7_lay_35 (by decide) ?_
        refine lv_bipush (v := 99) hx hb dX7_lay_36 (by decide) ?_
        obtain ⟨v37, S38, h39, h⟩ := bd_some h
        refine t_callS (n := 3) C w (c_X7_in l D K b0 sa _ L _ ad P hP S32 hw hn a2 1 99 v37 S38 h39) gw_1343 gw_1341 gw_1342 gw_8 ⟨by decide, by decide, by decide +kernel⟩ rfl rfl ⟨by decide, by decide⟩ rfl hl.1 rfl (Nat.le_of_ble_eq_true rfl) dX7_lay_38 ⟨Nat.le_of_ble_eq_true rfl, Nat.le_of_ble_eq_true rfl⟩ (fun v9 u H locs hp w => ?_)
        obtain ⟨f2, rfl, rfl, hw, hn, hk1⟩ := hp
        have hk := hk.tr hk1
        generalize f2 = f at w hw hk
        refine lv_if_eq (tgt := 66) hx hb dX7_lay_41 (by decide) (fun c40 => ?_) (fun c40 => ?_)
        · have h := bb_t h c40
          exact J66  a1 a2 a3 a4 S38 h f H locs w hw hn hk ls (lv_sub hl [0, 1, 2, 3, 4] rfl)
        · have h := bb_f h c40
          refine lv_iload_n hx hb dX7_lay_44 rfl (lv_at hl 3 rfl) ?_
          refine lv_iconst (v := 0) hx hb dX7_lay_45 (by decide) ?_
          refine lv_bipush (v := 7) hx hb dX7_lay_46 (by decide) ?_
          obtain ⟨v41, S42, h43, h⟩ := bd_some h
          refine t_callS (n := 3) C w (c_X7_in l D K b0 sa _ L _ ad P hP S38 hw hn a3 0 7 v41 S42 h43) gw_1343 gw_1341 gw_1342 gw_8 ⟨by decide, by decide, by decide +kernel⟩ rfl rfl ⟨by decide, by decide⟩ rfl hl.1 rfl (Nat.le_of_ble_eq_true rfl) dX7_lay_48 ⟨Nat.le_of_ble_eq_true rfl, Nat.le_of_ble_eq_true rfl⟩ (fun v9 u H locs hp w => ?_)
          obtain ⟨f2, rfl, rfl, hw, hn, hk1⟩ := hp
          have hk := hk.tr hk1
          generalize f2 = f at w hw hk
          refine lv_if_eq (tgt := 66) hx hb dX7_lay_51 (by decide) (fun c44 => ?_) (fun c44 => ?_)
          · have h := bb_t h c44
            exact J66  a1 a2 a3 a4 S42 h f H locs w hw hn hk ls (lv_sub hl [0, 1, 2, 3, 4] rfl)
          · have h := bb_f h c44
            refine lv_iload hx hb dX7_lay_54 (lv_at hl 4 rfl) ?_
            refine lv_iconst (v := 0) hx hb dX7_lay_56 (by decide) ?_
            refine lv_sipush (v := 999) hx hb dX7_lay_57 (by decide) ?_
            obtain ⟨v45, S46, h47, h⟩ := bd_some h
            refine t_callS (n := 3) C w (c_X7_in l D K b0 sa _ L _ ad P hP S42 hw hn a4 0 999 v45 S46 h47) gw_1343 gw_1341 gw_1342 gw_8 ⟨by decide, by decide, by decide +kernel⟩ rfl rfl ⟨by decide, by decide⟩ rfl hl.1 rfl (Nat.le_of_ble_eq_true rfl) dX7_lay_60 ⟨Nat.le_of_ble_eq_true rfl, Nat.le_of_ble_eq_true rfl⟩ (fun v9 u H locs hp w => ?_)
            obtain ⟨f2, rfl, rfl, hw, hn, hk1⟩ := hp
            have hk := hk.tr hk1
            generalize f2 = f at w hw hk
            refine lv_if_ne (tgt := 70) hx hb dX7_lay_63 (by decide) (fun c48 => ?_) (fun c48 => ?_)
            · have h := bb_f h c48
              refine lv_iconst (v := 0) hx hb dX7_lay_70 (by decide) ?_
              exact J71  a1 a2 a3 a4 0 S46 h f H locs w hw hn hk ls (lv_sub hl [0, 1, 2, 3, 4] rfl)
            · have h := bb_t h c48
              exact J66  a1 a2 a3 a4 S46 h f H locs w hw hn hk ls (lv_sub hl [0, 1, 2, 3, 4] rfl)
  dsimp only [F_X7_lay] at h
  obtain ⟨f, ef⟩ : ∃ z, z = f0 := ⟨_, rfl⟩
  rw [← ef] at w hw
  have hk : Kp ad P L f0 f := by rw [ef]; exact Kp.rf
  obtain ⟨H, eH⟩ : ∃ z, z = s.heap := ⟨_, rfl⟩
  obtain ⟨locs, el⟩ : ∃ z : List Loc, z = [] := ⟨_, rfl⟩
  rw [← eH, ← el] at w ⊢
  refine lv_aload_n hx hb dX7_lay_0 rfl (lv_at hl 0 rfl) ?_
  refine lv_iconst (v := 0) hx hb dX7_lay_1 (by decide) ?_
  refine u_puti C w hw (hP _ _ (isn_f rfl rfl (by decide))) rfl (N := 57) rfl rfl cin_7 tyX7 tyX7_ok nmX7 0 (by decide) rfl rfl rfl rfl gw_1156 dX7_lay_2 (fun f H locs w hw hk1 => ?_)
  have hk := hk.tr hk1
  refine u_sv h hw hn (fun S49 h hw hn => ?_)
  refine lv_aload_n hx hb dX7_lay_5 rfl (lv_at hl 0 rfl) ?_
  refine lv_iload_n hx hb dX7_lay_6 rfl (lv_at hl 1 rfl) ?_
  obtain ⟨v50, S51, h52, h⟩ := bd_some h
  refine t_callS (n := 1) C w (c_X7_isCell l D K b0 sa _ L _ ad P hP S49 hw hn p1 v50 S51 h52) gw_1467 gw_1465 gw_1466 gw_8 ⟨by decide, by decide, by decide +kernel⟩ rfl rfl ⟨by decide, by decide⟩ rfl hl.1 rfl (Nat.le_of_ble_eq_true rfl) dX7_lay_7 ⟨Nat.le_of_ble_eq_true rfl, Nat.le_of_ble_eq_true rfl⟩ (fun v9 u H locs hp w => ?_)
  obtain ⟨f2, rfl, rfl, hw, hn, hk1⟩ := hp
  have hk := hk.tr hk1
  generalize f2 = f at w hw hk
  refine lv_if_ne (tgt := 17) hx hb dX7_lay_10 (by decide) (fun c53 => ?_) (fun c53 => ?_)
  · have h := bb_f h c53
    refine lv_iconst (v := 0) hx hb dX7_lay_17 (by decide) ?_
    exact J18  p1 p2 p3 p4 0 S51 h f H locs w hw hn hk ls (lv_sub hl [0, 1, 2, 3, 4] rfl)
  · have h := bb_t h c53
    refine lv_iconst (v := 1) hx hb dX7_lay_13 (by decide) ?_
    refine lv_goto (tgt := 18) hx hb dX7_lay_14 (by decide) ?_
    exact J18  p1 p2 p3 p4 1 S51 h f H locs w hw hn hk ls (lv_sub hl [0, 1, 2, 3, 4] rfl)
theorem dX7_levelOf_0 : decode cX7_levelOf 0 = .ok (.iconst 0, 1) := by decide +kernel
theorem dX7_levelOf_1 : decode cX7_levelOf 1 = .ok (.istore_n 2, 1) := by decide +kernel
theorem dX7_levelOf_2 : decode cX7_levelOf 2 = .ok (.aload_n 0, 1) := by decide +kernel
theorem dX7_levelOf_3 : decode cX7_levelOf 3 = .ok (.getfield 52, 3) := by decide +kernel
theorem dX7_levelOf_6 : decode cX7_levelOf 6 = .ok (.aload_n 0, 1) := by decide +kernel
theorem dX7_levelOf_7 : decode cX7_levelOf 7 = .ok (.getfield 45, 3) := by decide +kernel
theorem dX7_levelOf_10 : decode cX7_levelOf 10 = .ok (.iload_n 1, 1) := by decide +kernel
theorem dX7_levelOf_11 : decode cX7_levelOf 11 = .ok (.iaload, 1) := by decide +kernel
theorem dX7_levelOf_12 : decode cX7_levelOf 12 = .ok (.aaload, 1) := by decide +kernel
theorem dX7_levelOf_13 : decode cX7_levelOf 13 = .ok (.iload_n 2, 1) := by decide +kernel
theorem dX7_levelOf_14 : decode cX7_levelOf 14 = .ok (.iaload, 1) := by decide +kernel
theorem dX7_levelOf_15 : decode cX7_levelOf 15 = .ok (.iload_n 1, 1) := by decide +kernel
theorem dX7_levelOf_16 : decode cX7_levelOf 16 = .ok (.if_icmp .eq 9, 3) := by decide +kernel
theorem dX7_levelOf_19 : decode cX7_levelOf 19 = .ok (.iinc 2 1, 3) := by decide +kernel
theorem dX7_levelOf_22 : decode cX7_levelOf 22 = .ok (.goto (-20), 3) := by decide +kernel
theorem dX7_levelOf_25 : decode cX7_levelOf 25 = .ok (.iload_n 2, 1) := by decide +kernel
theorem dX7_levelOf_26 : decode cX7_levelOf 26 = .ok (.ireturn, 1) := by decide +kernel
noncomputable def B_X7_levelOf_2 (k2 : (Int32 × Int32) → fS → Option (Int32 × fS)) : (Int32 × Int32) → fS → Option (Int32 × fS) := fun ⟨a1, a2⟩ S => gd (ib a1 24) (iv (ge S 50 0 (a1 : Int32).toNatClampNeg) (fun x2 => gd (ib x2 64) (gd (ib a2 24) (iv (ge S 53 (x2.toNatClampNeg) (a2 : Int32).toNatClampNeg) (fun x5 => bb (x5 = a1) (some (a2, S)) (iv (a2 + Int32.ofInt 1) (fun x7 => k2 (a1, x7) S)))))))
noncomputable def F_X7_levelOf (p1 : Int32) (S0 : fS) : Option (Int32 × fS) := lp (B_X7_levelOf_2 ) fuel (p1, 0) S0
set_option maxHeartbeats 4000000 in
set_option maxRecDepth 100000 in
theorem c_X7_levelOf (l : Launch) (D : va_G) (K : Nat → ClassId) (b0 : Nat) (sa : sT) (sz : Nat) (L : List Nat) (f0 : Nat → va_E) (ad : Nat → Nat → Nat) (P : Nat → Nat → Prop) {n : Nat × Nat} (hP : ∀ a i : Nat, isn n a i → P a i) (S0 : fS) (hw : PW K ad P S0 L f0) (hn : S0.2.2.1 = n) (p1 : Int32) (v : Int32) (S1 : fS) (h : F_X7_levelOf p1 S0 = some (v, S1)) : Met l yX7_levelOf (.code yX7_levelOf cX7_levelOf 3 (some .int) :: gt) { frames := 0, cells := 0, slots := 0, locals := 0 } (va_Pc [.ref (ad 40 0), .int p1] (hPre D K b0 sa sz L f0)) (hQ D K b0 (fun v9 u9 => ∃ f2 : Nat → va_E, v9 = some (.int v) ∧ u9 = lU L f2 ∧ PW K ad P S1 L f2 ∧ S1.2.2.1 = n ∧ Kp ad P L f0 f2)) 0 0 (fun q => b0 ≤ q) := by
  refine t_of (own := RX7) (by decide) rfl ?_ (Nat.le_of_ble_eq_true rfl)
  intro p e s m below meth c ls C w hsz hr hlk hnm hl
  have hx := C.1
  have hb := C.2.1
  have hl : lv_has ls 3 [(0, .ref (ad 40 0)), (1, .int p1)] := hl
  have J2 : ∀ (fu : Nat) (a1 : Int32) (a2 : Int32) (S : fS), lp (B_X7_levelOf_2 ) fu (a1, a2) S = some (v, S1) → Gw D K b0 sa ad P n L f0 p l e { frames := 0, cells := 0, slots := 0, locals := 0 } s m [.ref (ad 40 0), .int p1].toArray below meth c 3 (MQ below (hQ D K b0 (fun v9 u9 => ∃ f2 : Nat → va_E, v9 = some (.int v) ∧ u9 = lU L f2 ∧ PW K ad P S1 L f2 ∧ S1.2.2.1 = n ∧ Kp ad P L f0 f2)) [.ref (ad 40 0), .int p1].toArray s 0 0 (fun q => b0 ≤ q)) 0 0 2 [(0, .ref (ad 40 0)), (1, .int a1), (2, .int a2)] [] S := by
    intro fu a1 a2 S h
    refine lp_some (G := (fun q S => Gw D K b0 sa ad P n L f0 p l e { frames := 0, cells := 0, slots := 0, locals := 0 } s m [.ref (ad 40 0), .int p1].toArray below meth c 3 (MQ below (hQ D K b0 (fun v9 u9 => ∃ f2 : Nat → va_E, v9 = some (.int v) ∧ u9 = lU L f2 ∧ PW K ad P S1 L f2 ∧ S1.2.2.1 = n ∧ Kp ad P L f0 f2)) [.ref (ad 40 0), .int p1].toArray s 0 0 (fun q => b0 ≤ q)) 0 0 2 [(0, .ref (ad 40 0)), (1, .int q.1), (2, .int q.2)] [] S)) (fun k2 hk2 q S h => ?_) fu (a1, a2) S h
    obtain ⟨a1, a2⟩ := q
    have hk2 : ∀ (a1 : Int32) (a2 : Int32) (S : fS), k2 (a1, a2) S = some (v, S1) → Gw D K b0 sa ad P n L f0 p l e { frames := 0, cells := 0, slots := 0, locals := 0 } s m [.ref (ad 40 0), .int p1].toArray below meth c 3 (MQ below (hQ D K b0 (fun v9 u9 => ∃ f2 : Nat → va_E, v9 = some (.int v) ∧ u9 = lU L f2 ∧ PW K ad P S1 L f2 ∧ S1.2.2.1 = n ∧ Kp ad P L f0 f2)) [.ref (ad 40 0), .int p1].toArray s 0 0 (fun q => b0 ≤ q)) 0 0 2 [(0, .ref (ad 40 0)), (1, .int a1), (2, .int a2)] [] S := fun a1 a2 S h => hk2 (a1, a2) S h
    dsimp only [B_X7_levelOf_2] at h
    intro f H locs w hw hn hk ls hl
    refine lv_aload_n hx hb dX7_levelOf_2 rfl (lv_at hl 0 rfl) ?_
    refine u_getr C w hw (hP _ _ (isn_f rfl rfl (by decide))) rfl (N := 57) rfl rfl cin_7 28 (by decide) (by decide) (a2 := 52) (i2 := 0) rfl gw_1184 dX7_levelOf_3 ?_
    refine lv_aload_n hx hb dX7_levelOf_6 rfl (lv_at hl 0 rfl) ?_
    refine u_getr C w hw (hP _ _ (isn_f rfl rfl (by decide))) rfl (N := 57) rfl rfl cin_7 26 (by decide) (by decide) (a2 := 50) (i2 := 0) rfl gw_1182 dX7_levelOf_7 ?_
    refine lv_iload_n hx hb dX7_levelOf_10 rfl (lv_at hl 1 rfl) ?_
    obtain ⟨g1, h⟩ := gd_some h
    refine u_iald C w hw (hP _ _ (isn_f rfl rfl (by decide))) rfl rfl (n := 24) rfl (vp_in_iff.mpr g1) dX7_levelOf_11 ?_
    refine u_iv h (fun x2 h => ?_)
    obtain ⟨g3, h⟩ := gd_some h
    refine u_aald C w hw (hP _ _ (isn_f rfl rfl (by decide))) rfl rfl rfl (n := 64) rfl (vp_in_iff.mpr g3) (a2 := 53) (i2 := (x2.toNatClampNeg)) (by exact congrArg (Prod.mk _) (Nat.zero_add _)) dX7_levelOf_12 ?_
    refine lv_iload_n hx hb dX7_levelOf_13 rfl (lv_at hl 2 rfl) ?_
    obtain ⟨g4, h⟩ := gd_some h
    refine u_iald C w hw (hP _ _ (isn_f rfl rfl (ib_lt g3))) rfl rfl (n := 24) rfl (vp_in_iff.mpr g4) dX7_levelOf_14 ?_
    refine u_iv h (fun x5 h => ?_)
    refine lv_iload_n hx hb dX7_levelOf_15 rfl (lv_at hl 1 rfl) ?_
    refine lv_icmp_eq (tgt := 25) hx hb dX7_levelOf_16 (by decide) (fun c6 => ?_) (fun c6 => ?_)
    · have h := bb_t h c6
      refine lv_iload_n hx hb dX7_levelOf_25 rfl (lv_at hl 2 rfl) ?_
      exact t_iret C hr hlk w ⟨_, so_v h, rfl, so_w h hw, so_n h hn, hk⟩ (by decide) (by decide) dX7_levelOf_26
    · have h := bb_f h c6
      obtain ⟨x7, ex7, h⟩ := iv_some h
      refine lv_iinc (v := x7) (lv' := [(2, .int x7), (0, .ref (ad 40 0)), (1, .int a1)]) hx hb dX7_levelOf_19 hl (k := 2) rfl ex7.symm (by decide) rfl (fun ls hl => ?_)
      refine lv_goto (tgt := 2) hx hb dX7_levelOf_22 (by decide) ?_
      exact hk2 a1 x7 S h f H locs w hw hn hk ls (lv_sub hl [1, 2, 0] rfl)
  dsimp only [F_X7_levelOf] at h
  obtain ⟨f, ef⟩ : ∃ z, z = f0 := ⟨_, rfl⟩
  rw [← ef] at w hw
  have hk : Kp ad P L f0 f := by rw [ef]; exact Kp.rf
  obtain ⟨H, eH⟩ : ∃ z, z = s.heap := ⟨_, rfl⟩
  obtain ⟨locs, el⟩ : ∃ z : List Loc, z = [] := ⟨_, rfl⟩
  rw [← eH, ← el] at w ⊢
  refine lv_iconst (v := 0) hx hb dX7_levelOf_0 (by decide) ?_
  refine lv_istore_n (lv' := [(2, .int 0), (0, .ref (ad 40 0)), (1, .int p1)]) hx hb dX7_levelOf_1 rfl hl (by decide) rfl (fun ls hl => ?_)
  exact J2  fuel p1 0 S0 h f H locs w hw hn hk ls (lv_sub hl [1, 2, 0] rfl)
theorem dX7_goes_0 : decode cX7_goes 0 = .ok (.aload_n 0, 1) := by decide +kernel
theorem dX7_goes_1 : decode cX7_goes 1 = .ok (.getfield 45, 3) := by decide +kernel
theorem dX7_goes_4 : decode cX7_goes 4 = .ok (.iload_n 1, 1) := by decide +kernel
theorem dX7_goes_5 : decode cX7_goes 5 = .ok (.iaload, 1) := by decide +kernel
theorem dX7_goes_6 : decode cX7_goes 6 = .ok (.istore_n 3, 1) := by decide +kernel
theorem dX7_goes_7 : decode cX7_goes 7 = .ok (.aload_n 0, 1) := by decide +kernel
theorem dX7_goes_8 : decode cX7_goes 8 = .ok (.iload_n 1, 1) := by decide +kernel
theorem dX7_goes_9 : decode cX7_goes 9 = .ok (.invokevirtual 262, 3) := by decide +kernel
theorem dX7_goes_12 : decode cX7_goes 12 = .ok (.istore 4, 2) := by decide +kernel
theorem dX7_goes_14 : decode cX7_goes 14 = .ok (.iload 4, 2) := by decide +kernel
theorem dX7_goes_16 : decode cX7_goes 16 = .ok (.iconst 1, 1) := by decide +kernel
theorem dX7_goes_17 : decode cX7_goes 17 = .ok (.iadd, 1) := by decide +kernel
theorem dX7_goes_18 : decode cX7_goes 18 = .ok (.aload_n 0, 1) := by decide +kernel
theorem dX7_goes_19 : decode cX7_goes 19 = .ok (.getfield 55, 3) := by decide +kernel
theorem dX7_goes_22 : decode cX7_goes 22 = .ok (.iload_n 3, 1) := by decide +kernel
theorem dX7_goes_23 : decode cX7_goes 23 = .ok (.iaload, 1) := by decide +kernel
theorem dX7_goes_24 : decode cX7_goes 24 = .ok (.if_icmp .ge 29, 3) := by decide +kernel
theorem dX7_goes_27 : decode cX7_goes 27 = .ok (.aload_n 0, 1) := by decide +kernel
theorem dX7_goes_28 : decode cX7_goes 28 = .ok (.getfield 52, 3) := by decide +kernel
theorem dX7_goes_31 : decode cX7_goes 31 = .ok (.iload_n 3, 1) := by decide +kernel
theorem dX7_goes_32 : decode cX7_goes 32 = .ok (.aaload, 1) := by decide +kernel
theorem dX7_goes_33 : decode cX7_goes 33 = .ok (.iload 4, 2) := by decide +kernel
theorem dX7_goes_35 : decode cX7_goes 35 = .ok (.aload_n 0, 1) := by decide +kernel
theorem dX7_goes_36 : decode cX7_goes 36 = .ok (.getfield 52, 3) := by decide +kernel
theorem dX7_goes_39 : decode cX7_goes 39 = .ok (.iload_n 3, 1) := by decide +kernel
theorem dX7_goes_40 : decode cX7_goes 40 = .ok (.aaload, 1) := by decide +kernel
theorem dX7_goes_41 : decode cX7_goes 41 = .ok (.iload 4, 2) := by decide +kernel
theorem dX7_goes_43 : decode cX7_goes 43 = .ok (.iconst 1, 1) := by decide +kernel
theorem dX7_goes_44 : decode cX7_goes 44 = .ok (.iadd, 1) := by decide +kernel
theorem dX7_goes_45 : decode cX7_goes 45 = .ok (.iaload, 1) := by decide +kernel
theorem dX7_goes_46 : decode cX7_goes 46 = .ok (.iastore, 1) := by decide +kernel
theorem dX7_goes_47 : decode cX7_goes 47 = .ok (.iinc 4 1, 3) := by decide +kernel
theorem dX7_goes_50 : decode cX7_goes 50 = .ok (.goto (-36), 3) := by decide +kernel
theorem dX7_goes_53 : decode cX7_goes 53 = .ok (.aload_n 0, 1) := by decide +kernel
theorem dX7_goes_54 : decode cX7_goes 54 = .ok (.getfield 55, 3) := by decide +kernel
theorem dX7_goes_57 : decode cX7_goes 57 = .ok (.iload_n 3, 1) := by decide +kernel
theorem dX7_goes_58 : decode cX7_goes 58 = .ok (.dup2, 1) := by decide +kernel
theorem dX7_goes_59 : decode cX7_goes 59 = .ok (.iaload, 1) := by decide +kernel
theorem dX7_goes_60 : decode cX7_goes 60 = .ok (.iconst 1, 1) := by decide +kernel
theorem dX7_goes_61 : decode cX7_goes 61 = .ok (.isub, 1) := by decide +kernel
theorem dX7_goes_62 : decode cX7_goes 62 = .ok (.iastore, 1) := by decide +kernel
theorem dX7_goes_63 : decode cX7_goes 63 = .ok (.aload_n 0, 1) := by decide +kernel
theorem dX7_goes_64 : decode cX7_goes 64 = .ok (.getfield 45, 3) := by decide +kernel
theorem dX7_goes_67 : decode cX7_goes 67 = .ok (.iload_n 1, 1) := by decide +kernel
theorem dX7_goes_68 : decode cX7_goes 68 = .ok (.iload_n 2, 1) := by decide +kernel
theorem dX7_goes_69 : decode cX7_goes 69 = .ok (.iastore, 1) := by decide +kernel
theorem dX7_goes_70 : decode cX7_goes 70 = .ok (.return_, 1) := by decide +kernel
noncomputable def B_X7_goes_14 (k14 : (Int32 × Int32 × Int32 × Int32) → fS → Option (Int32 × fS)) : (Int32 × Int32 × Int32 × Int32) → fS → Option (Int32 × fS) := fun ⟨a1, a2, a3, a4⟩ S => iv (a4 + (1 : Int32)) (fun x1 => gd (ib a3 64) (iv (ge S 54 0 (a3 : Int32).toNatClampNeg) (fun x3 => bb (x3 ≤ x1) (gd (ib a3 64) (iv (ge S 54 0 (a3 : Int32).toNatClampNeg) (fun x6 => iv (x6 - (1 : Int32)) (fun x7 => gd (ib a3 64) (sv (pu S 54 0 (a3 : Int32).toNatClampNeg x7) (fun S9 => gd (ib a1 24) (sv (pu S9 50 0 (a1 : Int32).toNatClampNeg a2) (fun S11 => some (0, S11))))))))) (gd (ib a3 64) (gd (ib a3 64) (iv (a4 + (1 : Int32)) (fun x14 => gd (ib x14 24) (iv (ge S 53 (a3.toNatClampNeg) (x14 : Int32).toNatClampNeg) (fun x16 => gd (ib a4 24) (sv (pu S 53 (a3.toNatClampNeg) (a4 : Int32).toNatClampNeg x16) (fun S18 => iv (a4 + Int32.ofInt 1) (fun x19 => k14 (a1, a2, a3, x19) S18))))))))))))
noncomputable def F_X7_goes (p1 : Int32) (p2 : Int32) (S0 : fS) : Option (Int32 × fS) := gd (ib p1 24) (iv (ge S0 50 0 (p1 : Int32).toNatClampNeg) (fun x21 => bd (F_X7_levelOf p1 S0) (fun v22 S23 => lp (B_X7_goes_14 ) fuel (p1, p2, x21, v22) S23)))
set_option maxHeartbeats 4000000 in
set_option maxRecDepth 100000 in
theorem c_X7_goes (l : Launch) (D : va_G) (K : Nat → ClassId) (b0 : Nat) (sa : sT) (sz : Nat) (L : List Nat) (f0 : Nat → va_E) (ad : Nat → Nat → Nat) (P : Nat → Nat → Prop) {n : Nat × Nat} (hP : ∀ a i : Nat, isn n a i → P a i) (S0 : fS) (hw : PW K ad P S0 L f0) (hn : S0.2.2.1 = n) (p1 : Int32) (p2 : Int32) (v : Int32) (S1 : fS) (h : F_X7_goes p1 p2 S0 = some (v, S1)) : Met l yX7_goes (.code yX7_goes cX7_goes 5 none :: gt) { frames := 1, cells := 0, slots := 0, locals := 22 } (va_Pc [.ref (ad 40 0), .int p1, .int p2] (hPre D K b0 sa sz L f0)) (hQ D K b0 (fun v9 u9 => ∃ f2 : Nat → va_E, v9 = none ∧ u9 = lU L f2 ∧ PW K ad P S1 L f2 ∧ S1.2.2.1 = n ∧ Kp ad P L f0 f2)) 0 0 (fun q => b0 ≤ q) := by
  refine t_of (own := RX7) (by decide) rfl ?_ (Nat.le_of_ble_eq_true rfl)
  intro p e s m below meth c ls C w hsz hr hlk hnm hl
  have hx := C.1
  have hb := C.2.1
  have hl : lv_has ls 5 [(0, .ref (ad 40 0)), (1, .int p1), (2, .int p2)] := hl
  have J14 : ∀ (fu : Nat) (a1 : Int32) (a2 : Int32) (a3 : Int32) (a4 : Int32) (S : fS), lp (B_X7_goes_14 ) fu (a1, a2, a3, a4) S = some (v, S1) → Gw D K b0 sa ad P n L f0 p l e { frames := 1, cells := 0, slots := 0, locals := 22 } s m [.ref (ad 40 0), .int p1, .int p2].toArray below meth c 5 (MQ below (hQ D K b0 (fun v9 u9 => ∃ f2 : Nat → va_E, v9 = none ∧ u9 = lU L f2 ∧ PW K ad P S1 L f2 ∧ S1.2.2.1 = n ∧ Kp ad P L f0 f2)) [.ref (ad 40 0), .int p1, .int p2].toArray s 0 0 (fun q => b0 ≤ q)) 0 0 14 [(0, .ref (ad 40 0)), (1, .int a1), (2, .int a2), (3, .int a3), (4, .int a4)] [] S := by
    intro fu a1 a2 a3 a4 S h
    refine lp_some (G := (fun q S => Gw D K b0 sa ad P n L f0 p l e { frames := 1, cells := 0, slots := 0, locals := 22 } s m [.ref (ad 40 0), .int p1, .int p2].toArray below meth c 5 (MQ below (hQ D K b0 (fun v9 u9 => ∃ f2 : Nat → va_E, v9 = none ∧ u9 = lU L f2 ∧ PW K ad P S1 L f2 ∧ S1.2.2.1 = n ∧ Kp ad P L f0 f2)) [.ref (ad 40 0), .int p1, .int p2].toArray s 0 0 (fun q => b0 ≤ q)) 0 0 14 [(0, .ref (ad 40 0)), (1, .int q.1), (2, .int q.2.1), (3, .int q.2.2.1), (4, .int q.2.2.2)] [] S)) (fun k14 hk14 q S h => ?_) fu (a1, a2, a3, a4) S h
    obtain ⟨a1, a2, a3, a4⟩ := q
    have hk14 : ∀ (a1 : Int32) (a2 : Int32) (a3 : Int32) (a4 : Int32) (S : fS), k14 (a1, a2, a3, a4) S = some (v, S1) → Gw D K b0 sa ad P n L f0 p l e { frames := 1, cells := 0, slots := 0, locals := 22 } s m [.ref (ad 40 0), .int p1, .int p2].toArray below meth c 5 (MQ below (hQ D K b0 (fun v9 u9 => ∃ f2 : Nat → va_E, v9 = none ∧ u9 = lU L f2 ∧ PW K ad P S1 L f2 ∧ S1.2.2.1 = n ∧ Kp ad P L f0 f2)) [.ref (ad 40 0), .int p1, .int p2].toArray s 0 0 (fun q => b0 ≤ q)) 0 0 14 [(0, .ref (ad 40 0)), (1, .int a1), (2, .int a2), (3, .int a3), (4, .int a4)] [] S := fun a1 a2 a3 a4 S h => hk14 (a1, a2, a3, a4) S h
    dsimp only [B_X7_goes_14] at h
    intro f H locs w hw hn hk ls hl
    refine lv_iload hx hb dX7_goes_14 (lv_at hl 4 rfl) ?_
    refine lv_iconst (v := 1) hx hb dX7_goes_16 (by decide) ?_
    refine lv_iadd hx hb dX7_goes_17 ?_
    refine u_iv h (fun x1 h => ?_)
    refine lv_aload_n hx hb dX7_goes_18 rfl (lv_at hl 0 rfl) ?_
    refine u_getr C w hw (hP _ _ (isn_f rfl rfl (by decide))) rfl (N := 57) rfl rfl cin_7 29 (by decide) (by decide) (a2 := 54) (i2 := 0) rfl gw_1185 dX7_goes_19 ?_
    refine lv_iload_n hx hb dX7_goes_22 rfl (lv_at hl 3 rfl) ?_
    obtain ⟨g2, h⟩ := gd_some h
    refine u_iald C w hw (hP _ _ (isn_f rfl rfl (by decide))) rfl rfl (n := 64) rfl (vp_in_iff.mpr g2) dX7_goes_23 ?_
    refine u_iv h (fun x3 h => ?_)
    refine lv_icmp_ge (tgt := 53) hx hb dX7_goes_24 (by decide) (fun c4 => ?_) (fun c4 => ?_)
    · have h := bb_t h c4
      refine lv_aload_n hx hb dX7_goes_53 rfl (lv_at hl 0 rfl) ?_
      refine u_getr C w hw (hP _ _ (isn_f rfl rfl (by decide))) rfl (N := 57) rfl rfl cin_7 29 (by decide) (by decide) (a2 := 54) (i2 := 0) rfl gw_1185 dX7_goes_54 ?_
      refine lv_iload_n hx hb dX7_goes_57 rfl (lv_at hl 3 rfl) ?_
      refine lv_dup2_11 hx hb dX7_goes_58 rfl rfl ?_
      obtain ⟨g5, h⟩ := gd_some h
      refine u_iald C w hw (hP _ _ (isn_f rfl rfl (by decide))) rfl rfl (n := 64) rfl (vp_in_iff.mpr g5) dX7_goes_59 ?_
      refine u_iv h (fun x6 h => ?_)
      refine lv_iconst (v := 1) hx hb dX7_goes_60 (by decide) ?_
      refine lv_isub hx hb dX7_goes_61 ?_
      refine u_iv h (fun x7 h => ?_)
      obtain ⟨g8, h⟩ := gd_some h
      refine u_iast C w hw (hP _ _ (isn_f rfl rfl (by decide))) rfl rfl (n := 64) rfl (vp_in_iff.mpr g8) dX7_goes_62 (fun f H locs w hw hk1 => ?_)
      have hk := hk.tr hk1
      refine u_sv h hw hn (fun S9 h hw hn => ?_)
      refine lv_aload_n hx hb dX7_goes_63 rfl (lv_at hl 0 rfl) ?_
      refine u_getr C w hw (hP _ _ (isn_f rfl rfl (by decide))) rfl (N := 57) rfl rfl cin_7 26 (by decide) (by decide) (a2 := 50) (i2 := 0) rfl gw_1182 dX7_goes_64 ?_
      refine lv_iload_n hx hb dX7_goes_67 rfl (lv_at hl 1 rfl) ?_
      refine lv_iload_n hx hb dX7_goes_68 rfl (lv_at hl 2 rfl) ?_
      obtain ⟨g10, h⟩ := gd_some h
      refine u_iast C w hw (hP _ _ (isn_f rfl rfl (by decide))) rfl rfl (n := 24) rfl (vp_in_iff.mpr g10) dX7_goes_69 (fun f H locs w hw hk1 => ?_)
      have hk := hk.tr hk1
      refine u_sv h hw hn (fun S11 h hw hn => ?_)
      exact t_vret C hr hlk w ⟨_, rfl, rfl, so_w h hw, so_n h hn, hk⟩ (by decide) (by decide) dX7_goes_70
    · have h := bb_f h c4
      refine lv_aload_n hx hb dX7_goes_27 rfl (lv_at hl 0 rfl) ?_
      refine u_getr C w hw (hP _ _ (isn_f rfl rfl (by decide))) rfl (N := 57) rfl rfl cin_7 28 (by decide) (by decide) (a2 := 52) (i2 := 0) rfl gw_1184 dX7_goes_28 ?_
      refine lv_iload_n hx hb dX7_goes_31 rfl (lv_at hl 3 rfl) ?_
      obtain ⟨g12, h⟩ := gd_some h
      refine u_aald C w hw (hP _ _ (isn_f rfl rfl (by decide))) rfl rfl rfl (n := 64) rfl (vp_in_iff.mpr g12) (a2 := 53) (i2 := (a3.toNatClampNeg)) (by exact congrArg (Prod.mk _) (Nat.zero_add _)) dX7_goes_32 ?_
      refine lv_iload hx hb dX7_goes_33 (lv_at hl 4 rfl) ?_
      refine lv_aload_n hx hb dX7_goes_35 rfl (lv_at hl 0 rfl) ?_
      refine u_getr C w hw (hP _ _ (isn_f rfl rfl (by decide))) rfl (N := 57) rfl rfl cin_7 28 (by decide) (by decide) (a2 := 52) (i2 := 0) rfl gw_1184 dX7_goes_36 ?_
      refine lv_iload_n hx hb dX7_goes_39 rfl (lv_at hl 3 rfl) ?_
      obtain ⟨g13, h⟩ := gd_some h
      refine u_aald C w hw (hP _ _ (isn_f rfl rfl (by decide))) rfl rfl rfl (n := 64) rfl (vp_in_iff.mpr g13) (a2 := 53) (i2 := (a3.toNatClampNeg)) (by exact congrArg (Prod.mk _) (Nat.zero_add _)) dX7_goes_40 ?_
      refine lv_iload hx hb dX7_goes_41 (lv_at hl 4 rfl) ?_
      refine lv_iconst (v := 1) hx hb dX7_goes_43 (by decide) ?_
      refine lv_iadd hx hb dX7_goes_44 ?_
      refine u_iv h (fun x14 h => ?_)
      obtain ⟨g15, h⟩ := gd_some h
      refine u_iald C w hw (hP _ _ (isn_f rfl rfl (ib_lt g13))) rfl rfl (n := 24) rfl (vp_in_iff.mpr g15) dX7_goes_45 ?_
      refine u_iv h (fun x16 h => ?_)
      obtain ⟨g17, h⟩ := gd_some h
      refine u_iast C w hw (hP _ _ (isn_f rfl rfl (ib_lt g12))) rfl rfl (n := 24) rfl (vp_in_iff.mpr g17) dX7_goes_46 (fun f H locs w hw hk1 => ?_)
      have hk := hk.tr hk1
      refine u_sv h hw hn (fun S18 h hw hn => ?_)
      obtain ⟨x19, ex19, h⟩ := iv_some h
      refine lv_iinc (v := x19) (lv' := [(4, .int x19), (0, .ref (ad 40 0)), (1, .int a1), (2, .int a2), (3, .int a3)]) hx hb dX7_goes_47 hl (k := 4) rfl ex19.symm (by decide) rfl (fun ls hl => ?_)
      refine lv_goto (tgt := 14) hx hb dX7_goes_50 (by decide) ?_
      exact hk14 a1 a2 a3 x19 S18 h f H locs w hw hn hk ls (lv_sub hl [1, 2, 3, 4, 0] rfl)
  dsimp only [F_X7_goes] at h
  obtain ⟨f, ef⟩ : ∃ z, z = f0 := ⟨_, rfl⟩
  rw [← ef] at w hw
  have hk : Kp ad P L f0 f := by rw [ef]; exact Kp.rf
  obtain ⟨H, eH⟩ : ∃ z, z = s.heap := ⟨_, rfl⟩
  obtain ⟨locs, el⟩ : ∃ z : List Loc, z = [] := ⟨_, rfl⟩
  rw [← eH, ← el] at w ⊢
  refine lv_aload_n hx hb dX7_goes_0 rfl (lv_at hl 0 rfl) ?_
  refine u_getr C w hw (hP _ _ (isn_f rfl rfl (by decide))) rfl (N := 57) rfl rfl cin_7 26 (by decide) (by decide) (a2 := 50) (i2 := 0) rfl gw_1182 dX7_goes_1 ?_
  refine lv_iload_n hx hb dX7_goes_4 rfl (lv_at hl 1 rfl) ?_
  obtain ⟨g20, h⟩ := gd_some h
  refine u_iald C w hw (hP _ _ (isn_f rfl rfl (by decide))) rfl rfl (n := 24) rfl (vp_in_iff.mpr g20) dX7_goes_5 ?_
  refine u_iv h (fun x21 h => ?_)
  refine lv_istore_n (lv' := [(3, .int x21), (0, .ref (ad 40 0)), (1, .int p1), (2, .int p2)]) hx hb dX7_goes_6 rfl hl (by decide) rfl (fun ls hl => ?_)
  refine lv_aload_n hx hb dX7_goes_7 rfl (lv_at hl 1 rfl) ?_
  refine lv_iload_n hx hb dX7_goes_8 rfl (lv_at hl 2 rfl) ?_
  obtain ⟨v22, S23, h24, h⟩ := bd_some h
  refine u_callV (n := 1) C w hw (hP _ _ (isn_f rfl rfl (by decide))) rfl rfl rfl (c_X7_levelOf l D K b0 sa _ L _ ad P hP S0 hw hn p1 v22 S23 h24) gw_1487 gw_1484 gw_1486 gs_48 gw_8 ⟨by decide, by decide, by decide +kernel⟩ rfl rfl ⟨by decide, by decide⟩ rfl hl.1 rfl (Nat.le_of_ble_eq_true rfl) dX7_goes_9 ⟨Nat.le_of_ble_eq_true rfl, Nat.le_of_ble_eq_true rfl⟩ (fun v9 u H locs hp w => ?_)
  obtain ⟨f2, rfl, rfl, hw, hn, hk1⟩ := hp
  have hk := hk.tr hk1
  generalize f2 = f at w hw hk
  refine lv_istore (lv' := [(4, .int v22), (3, .int x21), (0, .ref (ad 40 0)), (1, .int p1), (2, .int p2)]) hx hb dX7_goes_12 hl (by decide) rfl (fun ls hl => ?_)
  exact J14  fuel p1 p2 x21 v22 S23 h f H locs w hw hn hk ls (lv_sub hl [2, 3, 4, 1, 0] rfl)
