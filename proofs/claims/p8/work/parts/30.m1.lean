theorem dX7_bad_0 : decode cX7_bad 0 = .ok (.iload_n 1, 1) := by decide +kernel
theorem dX7_bad_1 : decode cX7_bad 1 = .ok (.ifCond .eq 15, 3) := by decide +kernel
theorem dX7_bad_4 : decode cX7_bad 4 = .ok (.aload_n 0, 1) := by decide +kernel
theorem dX7_bad_5 : decode cX7_bad 5 = .ok (.getfield 97, 3) := by decide +kernel
theorem dX7_bad_8 : decode cX7_bad 8 = .ok (.ifCond .ne 8, 3) := by decide +kernel
theorem dX7_bad_11 : decode cX7_bad 11 = .ok (.aload_n 0, 1) := by decide +kernel
theorem dX7_bad_12 : decode cX7_bad 12 = .ok (.iload_n 2, 1) := by decide +kernel
theorem dX7_bad_13 : decode cX7_bad 13 = .ok (.putfield 97, 3) := by decide +kernel
theorem dX7_bad_16 : decode cX7_bad 16 = .ok (.aload_n 0, 1) := by decide +kernel
theorem dX7_bad_17 : decode cX7_bad 17 = .ok (.getfield 97, 3) := by decide +kernel
theorem dX7_bad_20 : decode cX7_bad 20 = .ok (.ifCond .eq 7, 3) := by decide +kernel
theorem dX7_bad_23 : decode cX7_bad 23 = .ok (.iconst 1, 1) := by decide +kernel
theorem dX7_bad_24 : decode cX7_bad 24 = .ok (.goto 4, 3) := by decide +kernel
theorem dX7_bad_27 : decode cX7_bad 27 = .ok (.iconst 0, 1) := by decide +kernel
theorem dX7_bad_28 : decode cX7_bad 28 = .ok (.ireturn, 1) := by decide +kernel
noncomputable def B_X7_bad_16 (S : fS) : Option (Int32 × fS) := iv (ge S 40 0 0) (fun x1 => bb (x1 = (0 : Int32)) (some (0, S)) (some (1, S)))
noncomputable def F_X7_bad (p1 : Int32) (p2 : Int32) (S0 : fS) : Option (Int32 × fS) := bb (p1 = (0 : Int32)) (B_X7_bad_16   S0) (iv (ge S0 40 0 0) (fun x4 => bb (x4 = (0 : Int32)) (sv (pu S0 40 0 0 p2) (fun S6 => B_X7_bad_16   S6)) (B_X7_bad_16   S0)))
set_option maxHeartbeats 4000000 in
set_option maxRecDepth 100000 in
theorem c_X7_bad (l : Launch) (D : va_G) (K : Nat → ClassId) (b0 : Nat) (sa : sT) (sz : Nat) (L : List Nat) (f0 : Nat → va_E) (ad : Nat → Nat → Nat) (P : Nat → Nat → Prop) {n : Nat × Nat} (hP : ∀ a i : Nat, isn n a i → P a i) (S0 : fS) (hw : PW K ad P S0 L f0) (hn : S0.2.2.1 = n) (p1 : Int32) (p2 : Int32) (v : Int32) (S1 : fS) (h : F_X7_bad p1 p2 S0 = some (v, S1)) : Met l yX7_bad (.code yX7_bad cX7_bad 3 (some .boolean) :: gt) { frames := 0, cells := 0, slots := 0, locals := 0 } (va_Pc [.ref (ad 40 0), .int p1, .int p2] (hPre D K b0 sa sz L f0)) (hQ D K b0 (fun v9 u9 => ∃ f2 : Nat → va_E, v9 = some (.int v) ∧ u9 = lU L f2 ∧ PW K ad P S1 L f2 ∧ S1.2.2.1 = n ∧ Kp ad P L f0 f2)) 0 0 (fun q => b0 ≤ q) := by
  refine t_of (own := RX7) (by decide) rfl ?_ (Nat.le_of_ble_eq_true rfl)
  intro p e s m below meth c ls C w hsz hr hlk hnm hl
  have hx := C.1
  have hb := C.2.1
  have hl : lv_has ls 3 [(0, .ref (ad 40 0)), (1, .int p1), (2, .int p2)] := hl
  have J16 : ∀ (S : fS), B_X7_bad_16   S = some (v, S1) → Gw D K b0 sa ad P n L f0 p l e { frames := 0, cells := 0, slots := 0, locals := 0 } s m [.ref (ad 40 0), .int p1, .int p2].toArray below meth c 3 (MQ below (hQ D K b0 (fun v9 u9 => ∃ f2 : Nat → va_E, v9 = some (.int v) ∧ u9 = lU L f2 ∧ PW K ad P S1 L f2 ∧ S1.2.2.1 = n ∧ Kp ad P L f0 f2)) [.ref (ad 40 0), .int p1, .int p2].toArray s 0 0 (fun q => b0 ≤ q)) 0 0 16 [(0, .ref (ad 40 0))] [] S := by
    intro S h
    dsimp only [B_X7_bad_16] at h
    intro f H locs w hw hn hk ls hl
    refine lv_aload_n hx hb dX7_bad_16 rfl (lv_at hl 0 rfl) ?_
    refine u_geti C w hw (hP _ _ (isn_f rfl rfl (by decide))) rfl (N := 57) rfl rfl cin_7 0 (by decide) rfl gw_1156 dX7_bad_17 ?_
    refine u_iv h (fun x1 h => ?_)
    refine lv_if_eq (tgt := 27) hx hb dX7_bad_20 (by decide) (fun c2 => ?_) (fun c2 => ?_)
    · have h := bb_t h c2
      refine lv_iconst (v := 0) hx hb dX7_bad_27 (by decide) ?_
      exact t_zret C hr hlk w (by decide) ⟨_, so_v h, rfl, so_w h hw, so_n h hn, hk⟩ (by decide) (by decide) dX7_bad_28
    · have h := bb_f h c2
      refine lv_iconst (v := 1) hx hb dX7_bad_23 (by decide) ?_
      refine lv_goto (tgt := 28) hx hb dX7_bad_24 (by decide) ?_
      exact t_zret C hr hlk w (by decide) ⟨_, so_v h, rfl, so_w h hw, so_n h hn, hk⟩ (by decide) (by decide) dX7_bad_28
  dsimp only [F_X7_bad] at h
  obtain ⟨f, ef⟩ : ∃ z, z = f0 := ⟨_, rfl⟩
  rw [← ef] at w hw
  have hk : Kp ad P L f0 f := by rw [ef]; exact Kp.rf
  obtain ⟨H, eH⟩ : ∃ z, z = s.heap := ⟨_, rfl⟩
  obtain ⟨locs, el⟩ : ∃ z : List Loc, z = [] := ⟨_, rfl⟩
  rw [← eH, ← el] at w ⊢
  refine lv_iload_n hx hb dX7_bad_0 rfl (lv_at hl 1 rfl) ?_
  refine lv_if_eq (tgt := 16) hx hb dX7_bad_1 (by decide) (fun c3 => ?_) (fun c3 => ?_)
  · have h := bb_t h c3
    exact J16   S0 h f H locs w hw hn hk ls (lv_sub hl [0] rfl)
  · have h := bb_f h c3
    refine lv_aload_n hx hb dX7_bad_4 rfl (lv_at hl 0 rfl) ?_
    refine u_geti C w hw (hP _ _ (isn_f rfl rfl (by decide))) rfl (N := 57) rfl rfl cin_7 0 (by decide) rfl gw_1156 dX7_bad_5 ?_
    refine u_iv h (fun x4 h => ?_)
    refine lv_if_ne (tgt := 16) hx hb dX7_bad_8 (by decide) (fun c5 => ?_) (fun c5 => ?_)
    · have h := bb_f h c5
      exact J16   S0 h f H locs w hw hn hk ls (lv_sub hl [0] rfl)
    · have h := bb_t h c5
      refine lv_aload_n hx hb dX7_bad_11 rfl (lv_at hl 0 rfl) ?_
      refine lv_iload_n hx hb dX7_bad_12 rfl (lv_at hl 2 rfl) ?_
      refine u_puti C w hw (hP _ _ (isn_f rfl rfl (by decide))) rfl (N := 57) rfl rfl cin_7 tyX7 tyX7_ok nmX7 0 (by decide) rfl rfl rfl rfl gw_1156 dX7_bad_13 (fun f H locs w hw hk1 => ?_)
      have hk := hk.tr hk1
      refine u_sv h hw hn (fun S6 h hw hn => ?_)
      exact J16   S6 h f H locs w hw hn hk ls (lv_sub hl [0] rfl)
theorem dX7_in_0 : decode cX7_in 0 = .ok (.iload_n 0, 1) := by decide +kernel
theorem dX7_in_1 : decode cX7_in 1 = .ok (.iload_n 1, 1) := by decide +kernel
theorem dX7_in_2 : decode cX7_in 2 = .ok (.if_icmp .lt 12, 3) := by decide +kernel
theorem dX7_in_5 : decode cX7_in 5 = .ok (.iload_n 0, 1) := by decide +kernel
theorem dX7_in_6 : decode cX7_in 6 = .ok (.iload_n 2, 1) := by decide +kernel
theorem dX7_in_7 : decode cX7_in 7 = .ok (.if_icmp .gt 7, 3) := by decide +kernel
theorem dX7_in_10 : decode cX7_in 10 = .ok (.iconst 1, 1) := by decide +kernel
theorem dX7_in_11 : decode cX7_in 11 = .ok (.goto 4, 3) := by decide +kernel
theorem dX7_in_14 : decode cX7_in 14 = .ok (.iconst 0, 1) := by decide +kernel
theorem dX7_in_15 : decode cX7_in 15 = .ok (.ireturn, 1) := by decide +kernel
noncomputable def F_X7_in (p0 : Int32) (p1 : Int32) (p2 : Int32) (S0 : fS) : Option (Int32 × fS) := bb (p0 < p1) (some (0, S0)) (bb (p2 < p0) (some (0, S0)) (some (1, S0)))
set_option maxHeartbeats 4000000 in
set_option maxRecDepth 100000 in
theorem c_X7_in (l : Launch) (D : va_G) (K : Nat → ClassId) (b0 : Nat) (sa : sT) (sz : Nat) (L : List Nat) (f0 : Nat → va_E) (ad : Nat → Nat → Nat) (P : Nat → Nat → Prop) {n : Nat × Nat} (hP : ∀ a i : Nat, isn n a i → P a i) (S0 : fS) (hw : PW K ad P S0 L f0) (hn : S0.2.2.1 = n) (p0 : Int32) (p1 : Int32) (p2 : Int32) (v : Int32) (S1 : fS) (h : F_X7_in p0 p1 p2 S0 = some (v, S1)) : Met l yX7_in (.code yX7_in cX7_in 3 (some .boolean) :: gt) { frames := 0, cells := 0, slots := 0, locals := 0 } (va_Pc [.int p0, .int p1, .int p2] (hPre D K b0 sa sz L f0)) (hQ D K b0 (fun v9 u9 => ∃ f2 : Nat → va_E, v9 = some (.int v) ∧ u9 = lU L f2 ∧ PW K ad P S1 L f2 ∧ S1.2.2.1 = n ∧ Kp ad P L f0 f2)) 0 0 (fun q => b0 ≤ q) := by
  refine t_of (own := RX7) (by decide) rfl ?_ (Nat.le_of_ble_eq_true rfl)
  intro p e s m below meth c ls C w hsz hr hlk hnm hl
  have hx := C.1
  have hb := C.2.1
  have hl : lv_has ls 3 [(0, .int p0), (1, .int p1), (2, .int p2)] := hl
  dsimp only [F_X7_in] at h
  obtain ⟨f, ef⟩ : ∃ z, z = f0 := ⟨_, rfl⟩
  rw [← ef] at w hw
  have hk : Kp ad P L f0 f := by rw [ef]; exact Kp.rf
  obtain ⟨H, eH⟩ : ∃ z, z = s.heap := ⟨_, rfl⟩
  obtain ⟨locs, el⟩ : ∃ z : List Loc, z = [] := ⟨_, rfl⟩
  rw [← eH, ← el] at w ⊢
  refine lv_iload_n hx hb dX7_in_0 rfl (lv_at hl 0 rfl) ?_
  refine lv_iload_n hx hb dX7_in_1 rfl (lv_at hl 1 rfl) ?_
  refine lv_icmp_lt (tgt := 14) hx hb dX7_in_2 (by decide) (fun c1 => ?_) (fun c1 => ?_)
  · have h := bb_t h c1
    refine lv_iconst (v := 0) hx hb dX7_in_14 (by decide) ?_
    exact t_zret C hr hlk w (by decide) ⟨_, so_v h, rfl, so_w h hw, so_n h hn, hk⟩ (by decide) (by decide) dX7_in_15
  · have h := bb_f h c1
    refine lv_iload_n hx hb dX7_in_5 rfl (lv_at hl 0 rfl) ?_
    refine lv_iload_n hx hb dX7_in_6 rfl (lv_at hl 2 rfl) ?_
    refine lv_icmp_gt (tgt := 14) hx hb dX7_in_7 (by decide) (fun c2 => ?_) (fun c2 => ?_)
    · have h := bb_t h c2
      refine lv_iconst (v := 0) hx hb dX7_in_14 (by decide) ?_
      exact t_zret C hr hlk w (by decide) ⟨_, so_v h, rfl, so_w h hw, so_n h hn, hk⟩ (by decide) (by decide) dX7_in_15
    · have h := bb_f h c2
      refine lv_iconst (v := 1) hx hb dX7_in_10 (by decide) ?_
      refine lv_goto (tgt := 15) hx hb dX7_in_11 (by decide) ?_
      exact t_zret C hr hlk w (by decide) ⟨_, so_v h, rfl, so_w h hw, so_n h hn, hk⟩ (by decide) (by decide) dX7_in_15
theorem dX7_isCell_0 : decode cX7_isCell 0 = .ok (.iload_n 0, 1) := by decide +kernel
theorem dX7_isCell_1 : decode cX7_isCell 1 = .ok (.iconst 0, 1) := by decide +kernel
theorem dX7_isCell_2 : decode cX7_isCell 2 = .ok (.bipush 63, 2) := by decide +kernel
theorem dX7_isCell_4 : decode cX7_isCell 4 = .ok (.invokestatic 100, 3) := by decide +kernel
theorem dX7_isCell_7 : decode cX7_isCell 7 = .ok (.ireturn, 1) := by decide +kernel
noncomputable def F_X7_isCell (p0 : Int32) (S0 : fS) : Option (Int32 × fS) := bd (F_X7_in p0 0 63 S0) (fun v1 S2 => gd (v1 = 0 ∨ v1 = 1) (some (v1, S2)))
set_option maxHeartbeats 4000000 in
set_option maxRecDepth 100000 in
theorem c_X7_isCell (l : Launch) (D : va_G) (K : Nat → ClassId) (b0 : Nat) (sa : sT) (sz : Nat) (L : List Nat) (f0 : Nat → va_E) (ad : Nat → Nat → Nat) (P : Nat → Nat → Prop) {n : Nat × Nat} (hP : ∀ a i : Nat, isn n a i → P a i) (S0 : fS) (hw : PW K ad P S0 L f0) (hn : S0.2.2.1 = n) (p0 : Int32) (v : Int32) (S1 : fS) (h : F_X7_isCell p0 S0 = some (v, S1)) : Met l yX7_isCell (.code yX7_isCell cX7_isCell 1 (some .boolean) :: gt) { frames := 1, cells := 0, slots := 0, locals := 22 } (va_Pc [.int p0] (hPre D K b0 sa sz L f0)) (hQ D K b0 (fun v9 u9 => ∃ f2 : Nat → va_E, v9 = some (.int v) ∧ u9 = lU L f2 ∧ PW K ad P S1 L f2 ∧ S1.2.2.1 = n ∧ Kp ad P L f0 f2)) 0 0 (fun q => b0 ≤ q) := by
  refine t_of (own := RX7) (by decide) rfl ?_ (Nat.le_of_ble_eq_true rfl)
  intro p e s m below meth c ls C w hsz hr hlk hnm hl
  have hx := C.1
  have hb := C.2.1
  have hl : lv_has ls 1 [(0, .int p0)] := hl
  dsimp only [F_X7_isCell] at h
  obtain ⟨f, ef⟩ : ∃ z, z = f0 := ⟨_, rfl⟩
  rw [← ef] at w hw
  have hk : Kp ad P L f0 f := by rw [ef]; exact Kp.rf
  obtain ⟨H, eH⟩ : ∃ z, z = s.heap := ⟨_, rfl⟩
  obtain ⟨locs, el⟩ : ∃ z : List Loc, z = [] := ⟨_, rfl⟩
  rw [← eH, ← el] at w ⊢
  refine lv_iload_n hx hb dX7_isCell_0 rfl (lv_at hl 0 rfl) ?_
  refine lv_iconst (v := 0) hx hb dX7_isCell_1 (by decide) ?_
  refine lv_bipush (v := 63) hx hb dX7_isCell_2 (by decide) ?_
  obtain ⟨v1, S2, h3, h⟩ := bd_some h
  refine t_callS (n := 3) C w (c_X7_in l D K b0 sa _ L _ ad P hP S0 hw hn p0 0 63 v1 S2 h3) gw_1343 gw_1341 gw_1342 gw_8 ⟨by decide, by decide, by decide +kernel⟩ rfl rfl ⟨by decide, by decide⟩ rfl hl.1 rfl (Nat.le_of_ble_eq_true rfl) dX7_isCell_4 ⟨Nat.le_of_ble_eq_true rfl, Nat.le_of_ble_eq_true rfl⟩ (fun v9 u H locs hp w => ?_)
  obtain ⟨f2, rfl, rfl, hw, hn, hk1⟩ := hp
  have hk := hk.tr hk1
  generalize f2 = f at w hw hk
  obtain ⟨g4, h⟩ := gd_some h
  exact t_zret C hr hlk w (narb g4) ⟨_, so_v h, rfl, so_w h hw, so_n h hn, hk⟩ (by decide) (by decide) dX7_isCell_7
theorem dX7_apart_0 : decode cX7_apart 0 = .ok (.iload_n 0, 1) := by decide +kernel
theorem dX7_apart_1 : decode cX7_apart 1 = .ok (.iload_n 1, 1) := by decide +kernel
theorem dX7_apart_2 : decode cX7_apart 2 = .ok (.if_icmp .ge 9, 3) := by decide +kernel
theorem dX7_apart_5 : decode cX7_apart 5 = .ok (.iload_n 1, 1) := by decide +kernel
theorem dX7_apart_6 : decode cX7_apart 6 = .ok (.iload_n 0, 1) := by decide +kernel
theorem dX7_apart_7 : decode cX7_apart 7 = .ok (.isub, 1) := by decide +kernel
theorem dX7_apart_8 : decode cX7_apart 8 = .ok (.goto 6, 3) := by decide +kernel
theorem dX7_apart_11 : decode cX7_apart 11 = .ok (.iload_n 0, 1) := by decide +kernel
theorem dX7_apart_12 : decode cX7_apart 12 = .ok (.iload_n 1, 1) := by decide +kernel
theorem dX7_apart_13 : decode cX7_apart 13 = .ok (.isub, 1) := by decide +kernel
theorem dX7_apart_14 : decode cX7_apart 14 = .ok (.ireturn, 1) := by decide +kernel
noncomputable def F_X7_apart (p0 : Int32) (p1 : Int32) (S0 : fS) : Option (Int32 × fS) := bb (p1 ≤ p0) (iv (p0 - p1) (fun x2 => some (x2, S0))) (iv (p1 - p0) (fun x3 => some (x3, S0)))
set_option maxHeartbeats 4000000 in
set_option maxRecDepth 100000 in
theorem c_X7_apart (l : Launch) (D : va_G) (K : Nat → ClassId) (b0 : Nat) (sa : sT) (sz : Nat) (L : List Nat) (f0 : Nat → va_E) (ad : Nat → Nat → Nat) (P : Nat → Nat → Prop) {n : Nat × Nat} (hP : ∀ a i : Nat, isn n a i → P a i) (S0 : fS) (hw : PW K ad P S0 L f0) (hn : S0.2.2.1 = n) (p0 : Int32) (p1 : Int32) (v : Int32) (S1 : fS) (h : F_X7_apart p0 p1 S0 = some (v, S1)) : Met l yX7_apart (.code yX7_apart cX7_apart 2 (some .int) :: gt) { frames := 0, cells := 0, slots := 0, locals := 0 } (va_Pc [.int p0, .int p1] (hPre D K b0 sa sz L f0)) (hQ D K b0 (fun v9 u9 => ∃ f2 : Nat → va_E, v9 = some (.int v) ∧ u9 = lU L f2 ∧ PW K ad P S1 L f2 ∧ S1.2.2.1 = n ∧ Kp ad P L f0 f2)) 0 0 (fun q => b0 ≤ q) := by
  refine t_of (own := RX7) (by decide) rfl ?_ (Nat.le_of_ble_eq_true rfl)
  intro p e s m below meth c ls C w hsz hr hlk hnm hl
  have hx := C.1
  have hb := C.2.1
  have hl : lv_has ls 2 [(0, .int p0), (1, .int p1)] := hl
  dsimp only [F_X7_apart] at h
  obtain ⟨f, ef⟩ : ∃ z, z = f0 := ⟨_, rfl⟩
  rw [← ef] at w hw
  have hk : Kp ad P L f0 f := by rw [ef]; exact Kp.rf
  obtain ⟨H, eH⟩ : ∃ z, z = s.heap := ⟨_, rfl⟩
  obtain ⟨locs, el⟩ : ∃ z : List Loc, z = [] := ⟨_, rfl⟩
  rw [← eH, ← el] at w ⊢
  refine lv_iload_n hx hb dX7_apart_0 rfl (lv_at hl 0 rfl) ?_
  refine lv_iload_n hx hb dX7_apart_1 rfl (lv_at hl 1 rfl) ?_
  refine lv_icmp_ge (tgt := 11) hx hb dX7_apart_2 (by decide) (fun c1 => ?_) (fun c1 => ?_)
  · have h := bb_t h c1
    refine lv_iload_n hx hb dX7_apart_11 rfl (lv_at hl 0 rfl) ?_
    refine lv_iload_n hx hb dX7_apart_12 rfl (lv_at hl 1 rfl) ?_
    refine lv_isub hx hb dX7_apart_13 ?_
    refine u_iv h (fun x2 h => ?_)
    exact t_iret C hr hlk w ⟨_, so_v h, rfl, so_w h hw, so_n h hn, hk⟩ (by decide) (by decide) dX7_apart_14
  · have h := bb_f h c1
    refine lv_iload_n hx hb dX7_apart_5 rfl (lv_at hl 1 rfl) ?_
    refine lv_iload_n hx hb dX7_apart_6 rfl (lv_at hl 0 rfl) ?_
    refine lv_isub hx hb dX7_apart_7 ?_
    refine u_iv h (fun x3 h => ?_)
    refine lv_goto (tgt := 14) hx hb dX7_apart_8 (by decide) ?_
    exact t_iret C hr hlk w ⟨_, so_v h, rfl, so_w h hw, so_n h hn, hk⟩ (by decide) (by decide) dX7_apart_14
theorem dX7_feed_0 : decode cX7_feed 0 = .ok (.aload_n 0, 1) := by decide +kernel
theorem dX7_feed_1 : decode cX7_feed 1 = .ok (.iconst 0, 1) := by decide +kernel
theorem dX7_feed_2 : decode cX7_feed 2 = .ok (.putfield 97, 3) := by decide +kernel
theorem dX7_feed_5 : decode cX7_feed 5 = .ok (.aload_n 0, 1) := by decide +kernel
theorem dX7_feed_6 : decode cX7_feed 6 = .ok (.getfield 104, 3) := by decide +kernel
theorem dX7_feed_9 : decode cX7_feed 9 = .ok (.bipush 20, 2) := by decide +kernel
theorem dX7_feed_11 : decode cX7_feed 11 = .ok (.iadd, 1) := by decide +kernel
theorem dX7_feed_12 : decode cX7_feed 12 = .ok (.sipush 300, 3) := by decide +kernel
theorem dX7_feed_15 : decode cX7_feed 15 = .ok (.if_icmp .le 5, 3) := by decide +kernel
theorem dX7_feed_18 : decode cX7_feed 18 = .ok (.iconst (-1), 1) := by decide +kernel
theorem dX7_feed_19 : decode cX7_feed 19 = .ok (.ireturn, 1) := by decide +kernel
theorem dX7_feed_20 : decode cX7_feed 20 = .ok (.iconst 0, 1) := by decide +kernel
theorem dX7_feed_21 : decode cX7_feed 21 = .ok (.istore 6, 2) := by decide +kernel
theorem dX7_feed_23 : decode cX7_feed 23 = .ok (.iload 6, 2) := by decide +kernel
theorem dX7_feed_25 : decode cX7_feed 25 = .ok (.bipush 20, 2) := by decide +kernel
theorem dX7_feed_27 : decode cX7_feed 27 = .ok (.if_icmp .ge 93, 3) := by decide +kernel
theorem dX7_feed_30 : decode cX7_feed 30 = .ok (.iload 6, 2) := by decide +kernel
theorem dX7_feed_32 : decode cX7_feed 32 = .ok (.iconst 4, 1) := by decide +kernel
theorem dX7_feed_33 : decode cX7_feed 33 = .ok (.if_icmp .ge 7, 3) := by decide +kernel
theorem dX7_feed_36 : decode cX7_feed 36 = .ok (.iload_n 1, 1) := by decide +kernel
theorem dX7_feed_37 : decode cX7_feed 37 = .ok (.goto 39, 3) := by decide +kernel
theorem dX7_feed_40 : decode cX7_feed 40 = .ok (.iload 6, 2) := by decide +kernel
theorem dX7_feed_42 : decode cX7_feed 42 = .ok (.bipush 8, 2) := by decide +kernel
theorem dX7_feed_44 : decode cX7_feed 44 = .ok (.if_icmp .ge 7, 3) := by decide +kernel
theorem dX7_feed_47 : decode cX7_feed 47 = .ok (.iload_n 2, 1) := by decide +kernel
theorem dX7_feed_48 : decode cX7_feed 48 = .ok (.goto 28, 3) := by decide +kernel
theorem dX7_feed_51 : decode cX7_feed 51 = .ok (.iload 6, 2) := by decide +kernel
theorem dX7_feed_53 : decode cX7_feed 53 = .ok (.bipush 12, 2) := by decide +kernel
theorem dX7_feed_55 : decode cX7_feed 55 = .ok (.if_icmp .ge 7, 3) := by decide +kernel
theorem dX7_feed_58 : decode cX7_feed 58 = .ok (.iload_n 3, 1) := by decide +kernel
theorem dX7_feed_59 : decode cX7_feed 59 = .ok (.goto 17, 3) := by decide +kernel
theorem dX7_feed_62 : decode cX7_feed 62 = .ok (.iload 6, 2) := by decide +kernel
theorem dX7_feed_64 : decode cX7_feed 64 = .ok (.bipush 16, 2) := by decide +kernel
theorem dX7_feed_66 : decode cX7_feed 66 = .ok (.if_icmp .ge 8, 3) := by decide +kernel
theorem dX7_feed_69 : decode cX7_feed 69 = .ok (.iload 4, 2) := by decide +kernel
theorem dX7_feed_71 : decode cX7_feed 71 = .ok (.goto 5, 3) := by decide +kernel
theorem dX7_feed_74 : decode cX7_feed 74 = .ok (.iload 5, 2) := by decide +kernel
theorem dX7_feed_76 : decode cX7_feed 76 = .ok (.istore 7, 2) := by decide +kernel
theorem dX7_feed_78 : decode cX7_feed 78 = .ok (.aload_n 0, 1) := by decide +kernel
theorem dX7_feed_79 : decode cX7_feed 79 = .ok (.getfield 15, 3) := by decide +kernel
theorem dX7_feed_82 : decode cX7_feed 82 = .ok (.aload_n 0, 1) := by decide +kernel
theorem dX7_feed_83 : decode cX7_feed 83 = .ok (.getfield 104, 3) := by decide +kernel
theorem dX7_feed_86 : decode cX7_feed 86 = .ok (.iload 7, 2) := by decide +kernel
theorem dX7_feed_88 : decode cX7_feed 88 = .ok (.bipush 24, 2) := by decide +kernel
theorem dX7_feed_90 : decode cX7_feed 90 = .ok (.bipush 8, 2) := by decide +kernel
theorem dX7_feed_92 : decode cX7_feed 92 = .ok (.iload 6, 2) := by decide +kernel
theorem dX7_feed_94 : decode cX7_feed 94 = .ok (.iconst 4, 1) := by decide +kernel
theorem dX7_feed_95 : decode cX7_feed 95 = .ok (.irem, 1) := by decide +kernel
theorem dX7_feed_96 : decode cX7_feed 96 = .ok (.imul, 1) := by decide +kernel
theorem dX7_feed_97 : decode cX7_feed 97 = .ok (.isub, 1) := by decide +kernel
theorem dX7_feed_98 : decode cX7_feed 98 = .ok (.ishr, 1) := by decide +kernel
theorem dX7_feed_99 : decode cX7_feed 99 = .ok (.sipush 255, 3) := by decide +kernel
theorem dX7_feed_102 : decode cX7_feed 102 = .ok (.iand, 1) := by decide +kernel
theorem dX7_feed_103 : decode cX7_feed 103 = .ok (.iastore, 1) := by decide +kernel
theorem dX7_feed_104 : decode cX7_feed 104 = .ok (.aload_n 0, 1) := by decide +kernel
theorem dX7_feed_105 : decode cX7_feed 105 = .ok (.dup, 1) := by decide +kernel
theorem dX7_feed_106 : decode cX7_feed 106 = .ok (.getfield 104, 3) := by decide +kernel
theorem dX7_feed_109 : decode cX7_feed 109 = .ok (.iconst 1, 1) := by decide +kernel
theorem dX7_feed_110 : decode cX7_feed 110 = .ok (.iadd, 1) := by decide +kernel
theorem dX7_feed_111 : decode cX7_feed 111 = .ok (.putfield 104, 3) := by decide +kernel
theorem dX7_feed_114 : decode cX7_feed 114 = .ok (.iinc 6 1, 3) := by decide +kernel
theorem dX7_feed_117 : decode cX7_feed 117 = .ok (.goto (-94), 3) := by decide +kernel
theorem dX7_feed_120 : decode cX7_feed 120 = .ok (.aload_n 0, 1) := by decide +kernel
theorem dX7_feed_121 : decode cX7_feed 121 = .ok (.getfield 104, 3) := by decide +kernel
theorem dX7_feed_124 : decode cX7_feed 124 = .ok (.ireturn, 1) := by decide +kernel
noncomputable def B_X7_feed_76 (k23 : (Int32 × Int32 × Int32 × Int32 × Int32 × Int32) → fS → Option (Int32 × fS)) (a1 : Int32) (a2 : Int32) (a3 : Int32) (a4 : Int32) (a5 : Int32) (a6 : Int32) (t0 : Int32) (S : fS) : Option (Int32 × fS) := iv (ge S 40 0 1) (fun x1 => iv (a6 - a6 / (4 : Int32) * (4 : Int32)) (fun x2 => iv ((8 : Int32) * x2) (fun x3 => iv ((24 : Int32) - x3) (fun x4 => iv (t0 >>> (x4 &&& 31)) (fun x5 => iv (x5 &&& (255 : Int32)) (fun x6 => gd (ib x1 300) (sv (pu S 41 0 (x1 : Int32).toNatClampNeg x6) (fun S8 => iv (ge S8 40 0 1) (fun x9 => iv (x9 + (1 : Int32)) (fun x10 => sv (pu S8 40 0 1 x10) (fun S11 => iv (a6 + Int32.ofInt 1) (fun x12 => k23 (a1, a2, a3, a4, a5, x12) S11))))))))))))
noncomputable def B_X7_feed_23 (k23 : (Int32 × Int32 × Int32 × Int32 × Int32 × Int32) → fS → Option (Int32 × fS)) : (Int32 × Int32 × Int32 × Int32 × Int32 × Int32) → fS → Option (Int32 × fS) := fun ⟨a1, a2, a3, a4, a5, a6⟩ S => bb ((20 : Int32) ≤ a6) (iv (ge S 40 0 1) (fun x14 => some (x14, S))) (bb ((4 : Int32) ≤ a6) (bb ((8 : Int32) ≤ a6) (bb ((12 : Int32) ≤ a6) (bb ((16 : Int32) ≤ a6) (B_X7_feed_76 k23 a1 a2 a3 a4 a5 a6 a5 S) (B_X7_feed_76 k23 a1 a2 a3 a4 a5 a6 a4 S)) (B_X7_feed_76 k23 a1 a2 a3 a4 a5 a6 a3 S)) (B_X7_feed_76 k23 a1 a2 a3 a4 a5 a6 a2 S)) (B_X7_feed_76 k23 a1 a2 a3 a4 a5 a6 a1 S))
noncomputable def F_X7_feed (p1 : Int32) (p2 : Int32) (p3 : Int32) (p4 : Int32) (p5 : Int32) (S0 : fS) : Option (Int32 × fS) := sv (pu S0 40 0 0 0) (fun S19 => iv (ge S19 40 0 1) (fun x20 => iv (x20 + (20 : Int32)) (fun x21 => bb (x21 ≤ (300 : Int32)) (lp (B_X7_feed_23 ) fuel (p1, p2, p3, p4, p5, 0) S19) (some ((-1), S19)))))
set_option maxHeartbeats 4000000 in
set_option maxRecDepth 100000 in
theorem c_X7_feed (l : Launch) (D : va_G) (K : Nat → ClassId) (b0 : Nat) (sa : sT) (sz : Nat) (L : List Nat) (f0 : Nat → va_E) (ad : Nat → Nat → Nat) (P : Nat → Nat → Prop) {n : Nat × Nat} (hP : ∀ a i : Nat, isn n a i → P a i) (S0 : fS) (hw : PW K ad P S0 L f0) (hn : S0.2.2.1 = n) (p1 : Int32) (p2 : Int32) (p3 : Int32) (p4 : Int32) (p5 : Int32) (v : Int32) (S1 : fS) (h : F_X7_feed p1 p2 p3 p4 p5 S0 = some (v, S1)) : Met l yX7_feed (.code yX7_feed cX7_feed 8 (some .int) :: gt) { frames := 0, cells := 0, slots := 0, locals := 0 } (va_Pc [.ref (ad 40 0), .int p1, .int p2, .int p3, .int p4, .int p5] (hPre D K b0 sa sz L f0)) (hQ D K b0 (fun v9 u9 => ∃ f2 : Nat → va_E, v9 = some (.int v) ∧ u9 = lU L f2 ∧ PW K ad P S1 L f2 ∧ S1.2.2.1 = n ∧ Kp ad P L f0 f2)) 0 0 (fun q => b0 ≤ q) := by
  refine t_of (own := RX7) (by decide) rfl ?_ (Nat.le_of_ble_eq_true rfl)
  intro p e s m below meth c ls C w hsz hr hlk hnm hl
  have hx := C.1
  have hb := C.2.1
  have hl : lv_has ls 8 [(0, .ref (ad 40 0)), (1, .int p1), (2, .int p2), (3, .int p3), (4, .int p4), (5, .int p5)] := hl
  have J76 : ∀ (k23 : (Int32 × Int32 × Int32 × Int32 × Int32 × Int32) → fS → Option (Int32 × fS)) (hk23 : ∀ (a1 : Int32) (a2 : Int32) (a3 : Int32) (a4 : Int32) (a5 : Int32) (a6 : Int32) (S : fS), k23 (a1, a2, a3, a4, a5, a6) S = some (v, S1) → Gw D K b0 sa ad P n L f0 p l e { frames := 0, cells := 0, slots := 0, locals := 0 } s m [.ref (ad 40 0), .int p1, .int p2, .int p3, .int p4, .int p5].toArray below meth c 8 (MQ below (hQ D K b0 (fun v9 u9 => ∃ f2 : Nat → va_E, v9 = some (.int v) ∧ u9 = lU L f2 ∧ PW K ad P S1 L f2 ∧ S1.2.2.1 = n ∧ Kp ad P L f0 f2)) [.ref (ad 40 0), .int p1, .int p2, .int p3, .int p4, .int p5].toArray s 0 0 (fun q => b0 ≤ q)) 0 0 23 [(0, .ref (ad 40 0)), (1, .int a1), (2, .int a2), (3, .int a3), (4, .int a4), (5, .int a5), (6, .int a6)] [] S) (a1 : Int32) (a2 : Int32) (a3 : Int32) (a4 : Int32) (a5 : Int32) (a6 : Int32) (t0 : Int32) (S : fS), B_X7_feed_76 k23 a1 a2 a3 a4 a5 a6 t0 S = some (v, S1) → Gw D K b0 sa ad P n L f0 p l e { frames := 0, cells := 0, slots := 0, locals := 0 } s m [.ref (ad 40 0), .int p1, .int p2, .int p3, .int p4, .int p5].toArray below meth c 8 (MQ below (hQ D K b0 (fun v9 u9 => ∃ f2 : Nat → va_E, v9 = some (.int v) ∧ u9 = lU L f2 ∧ PW K ad P S1 L f2 ∧ S1.2.2.1 = n ∧ Kp ad P L f0 f2)) [.ref (ad 40 0), .int p1, .int p2, .int p3, .int p4, .int p5].toArray s 0 0 (fun q => b0 ≤ q)) 0 0 76 [(0, .ref (ad 40 0)), (1, .int a1), (2, .int a2), (3, .int a3), (4, .int a4), (5, .int a5), (6, .int a6)] [.int t0] S := by
    intro k23 hk23 a1 a2 a3 a4 a5 a6 t0 S h
    dsimp only [B_X7_feed_76] at h
    intro f H locs w hw hn hk ls hl
    refine lv_istore (lv' := [(7, .int t0), (0, .ref (ad 40 0)), (1, .int a1), (2, .int a2), (3, .int a3), (4, .int a4), (5, .int a5), (6, .int a6)]) hx hb dX7_feed_76 hl (by decide) rfl (fun ls hl => ?_)
    refine lv_aload_n hx hb dX7_feed_78 rfl (lv_at hl 1 rfl) ?_
    refine u_getr C w hw (hP _ _ (isn_f rfl rfl (by decide))) rfl (N := 57) rfl rfl cin_7 10 (by decide) (by decide) (a2 := 41) (i2 := 0) rfl gw_1166 dX7_feed_79 ?_
    refine lv_aload_n hx hb dX7_feed_82 rfl (lv_at hl 1 rfl) ?_
    refine u_geti C w hw (hP _ _ (isn_f rfl rfl (by decide))) rfl (N := 57) rfl rfl cin_7 1 (by decide) rfl gw_1157 dX7_feed_83 ?_
    refine u_iv h (fun x1 h => ?_)
    refine lv_iload hx hb dX7_feed_86 (lv_at hl 0 rfl) ?_
    refine lv_bipush (v := 24) hx hb dX7_feed_88 (by decide) ?_
    refine lv_bipush (v := 8) hx hb dX7_feed_90 (by decide) ?_
    refine lv_iload hx hb dX7_feed_92 (lv_at hl 7 rfl) ?_
    refine lv_iconst (v := 4) hx hb dX7_feed_94 (by decide) ?_
    refine lv_irem hx hb dX7_feed_95 (by decide) ?_
    refine u_iv h (fun x2 h => ?_)
    refine lv_imul hx hb dX7_feed_96 ?_
    refine u_iv h (fun x3 h => ?_)
    refine lv_isub hx hb dX7_feed_97 ?_
    refine u_iv h (fun x4 h => ?_)
    refine lv_ishr hx hb dX7_feed_98 ?_
    refine u_iv h (fun x5 h => ?_)
    refine lv_sipush (v := 255) hx hb dX7_feed_99 (by decide) ?_
    refine lv_iand hx hb dX7_feed_102 ?_
    refine u_iv h (fun x6 h => ?_)
    obtain ⟨g7, h⟩ := gd_some h
    refine u_iast C w hw (hP _ _ (isn_f rfl rfl (by decide))) rfl rfl (n := 300) rfl (vp_in_iff.mpr g7) dX7_feed_103 (fun f H locs w hw hk1 => ?_)
    have hk := hk.tr hk1
    refine u_sv h hw hn (fun S8 h hw hn => ?_)
    refine lv_aload_n hx hb dX7_feed_104 rfl (lv_at hl 1 rfl) ?_
    refine lv_dup hx hb dX7_feed_105 rfl ?_
    refine u_geti C w hw (hP _ _ (isn_f rfl rfl (by decide))) rfl (N := 57) rfl rfl cin_7 1 (by decide) rfl gw_1157 dX7_feed_106 ?_
    refine u_iv h (fun x9 h => ?_)
    refine lv_iconst (v := 1) hx hb dX7_feed_109 (by decide) ?_
    refine lv_iadd hx hb dX7_feed_110 ?_
    refine u_iv h (fun x10 h => ?_)
    refine u_puti C w hw (hP _ _ (isn_f rfl rfl (by decide))) rfl (N := 57) rfl rfl cin_7 tyX7 tyX7_ok nmX7 1 (by decide) rfl rfl rfl rfl gw_1157 dX7_feed_111 (fun f H locs w hw hk1 => ?_)
    have hk := hk.tr hk1
    refine u_sv h hw hn (fun S11 h hw hn => ?_)
    obtain ⟨x12, ex12, h⟩ := iv_some h
    refine lv_iinc (v := x12) (lv' := [(6, .int x12), (7, .int t0), (0, .ref (ad 40 0)), (1, .int a1), (2, .int a2), (3, .int a3), (4, .int a4), (5, .int a5)]) hx hb dX7_feed_114 hl (k := 7) rfl ex12.symm (by decide) rfl (fun ls hl => ?_)
    refine lv_goto (tgt := 23) hx hb dX7_feed_117 (by decide) ?_
    exact hk23 a1 a2 a3 a4 a5 x12 S11 h f H locs w hw hn hk ls (lv_sub hl [2, 3, 4, 5, 6, 7, 0] rfl)
  have J23 : ∀ (fu : Nat) (a1 : Int32) (a2 : Int32) (a3 : Int32) (a4 : Int32) (a5 : Int32) (a6 : Int32) (S : fS), lp (B_X7_feed_23 ) fu (a1, a2, a3, a4, a5, a6) S = some (v, S1) → Gw D K b0 sa ad P n L f0 p l e { frames := 0, cells := 0, slots := 0, locals := 0 } s m [.ref (ad 40 0), .int p1, .int p2, .int p3, .int p4, .int p5].toArray below meth c 8 (MQ below (hQ D K b0 (fun v9 u9 => ∃ f2 : Nat → va_E, v9 = some (.int v) ∧ u9 = lU L f2 ∧ PW K ad P S1 L f2 ∧ S1.2.2.1 = n ∧ Kp ad P L f0 f2)) [.ref (ad 40 0), .int p1, .int p2, .int p3, .int p4, .int p5].toArray s 0 0 (fun q => b0 ≤ q)) 0 0 23 [(0, .ref (ad 40 0)), (1, .int a1), (2, .int a2), (3, .int a3), (4, .int a4), (5, .int a5), (6, .int a6)] [] S := by
    intro fu a1 a2 a3 a4 a5 a6 S h
    refine lp_some (G := (fun q S => Gw D K b0 sa ad P n L f0 p l e { frames := 0, cells := 0, slots := 0, locals := 0 } s m [.ref (ad 40 0), .int p1, .int p2, .int p3, .int p4, .int p5].toArray below meth c 8 (MQ below (hQ D K b0 (fun v9 u9 => ∃ f2 : Nat → va_E, v9 = some (.int v) ∧ u9 = lU L f2 ∧ PW K ad P S1 L f2 ∧ S1.2.2.1 = n ∧ Kp ad P L f0 f2)) [.ref (ad 40 0), .int p1, .int p2, .int p3, .int p4, .int p5].toArray s 0 0 (fun q => b0 ≤ q)) 0 0 23 [(0, .ref (ad 40 0)), (1, .int q.1), (2, .int q.2.1), (3, .int q.2.2.1), (4, .int q.2.2.2.1), (5, .int q.2.2.2.2.1), (6, .int q.2.2.2.2.2)] [] S)) (fun k23 hk23 q S h => ?_) fu (a1, a2, a3, a4, a5, a6) S h
    obtain ⟨a1, a2, a3, a4, a5, a6⟩ := q
    have hk23 : ∀ (a1 : Int32) (a2 : Int32) (a3 : Int32) (a4 : Int32) (a5 : Int32) (a6 : Int32) (S : fS), k23 (a1, a2, a3, a4, a5, a6) S = some (v, S1) → Gw D K b0 sa ad P n L f0 p l e { frames := 0, cells := 0, slots := 0, locals := 0 } s m [.ref (ad 40 0), .int p1, .int p2, .int p3, .int p4, .int p5].toArray below meth c 8 (MQ below (hQ D K b0 (fun v9 u9 => ∃ f2 : Nat → va_E, v9 = some (.int v) ∧ u9 = lU L f2 ∧ PW K ad P S1 L f2 ∧ S1.2.2.1 = n ∧ Kp ad P L f0 f2)) [.ref (ad 40 0), .int p1, .int p2, .int p3, .int p4, .int p5].toArray s 0 0 (fun q => b0 ≤ q)) 0 0 23 [(0, .ref (ad 40 0)), (1, .int a1), (2, .int a2), (3, .int a3), (4, .int a4), (5, .int a5), (6, .int a6)] [] S := fun a1 a2 a3 a4 a5 a6 S h => hk23 (a1, a2, a3, a4, a5, a6) S h
    dsimp only [B_X7_feed_23] at h
    intro f H locs w hw hn hk ls hl
    refine lv_iload hx hb dX7_feed_23 (lv_at hl 6 rfl) ?_
    refine lv_bipush (v := 20) hx hb dX7_feed_25 (by decide) ?_
    refine lv_icmp_ge (tgt := 120) hx hb dX7_feed_27 (by decide) (fun c13 => ?_) (fun c13 => ?_)
    · have h := bb_t h c13
      refine lv_aload_n hx hb dX7_feed_120 rfl (lv_at hl 0 rfl) ?_
      refine u_geti C w hw (hP _ _ (isn_f rfl rfl (by decide))) rfl (N := 57) rfl rfl cin_7 1 (by decide) rfl gw_1157 dX7_feed_121 ?_
      refine u_iv h (fun x14 h => ?_)
      exact t_iret C hr hlk w ⟨_, so_v h, rfl, so_w h hw, so_n h hn, hk⟩ (by decide) (by decide) dX7_feed_124
    · have h := bb_f h c13
      refine lv_iload hx hb dX7_feed_30 (lv_at hl 6 rfl) ?_
      refine lv_iconst (v := 4) hx hb dX7_feed_32 (by decide) ?_
      refine lv_icmp_ge (tgt := 40) hx hb dX7_feed_33 (by decide) (fun c15 => ?_) (fun c15 => ?_)
      · have h := bb_t h c15
        refine lv_iload hx hb dX7_feed_40 (lv_at hl 6 rfl) ?_
        refine lv_bipush (v := 8) hx hb dX7_feed_42 (by decide) ?_
        refine lv_icmp_ge (tgt := 51) hx hb dX7_feed_44 (by decide) (fun c16 => ?_) (fun c16 => ?_)
        · have h := bb_t h c16
          refine lv_iload hx hb dX7_feed_51 (lv_at hl 6 rfl) ?_
          refine lv_bipush (v := 12) hx hb dX7_feed_53 (by decide) ?_
          refine lv_icmp_ge (tgt := 62) hx hb dX7_feed_55 (by decide) (fun c17 => ?_) (fun c17 => ?_)
          · have h := bb_t h c17
            refine lv_iload hx hb dX7_feed_62 (lv_at hl 6 rfl) ?_
            refine lv_bipush (v := 16) hx hb dX7_feed_64 (by decide) ?_
            refine lv_icmp_ge (tgt := 74) hx hb dX7_feed_66 (by decide) (fun c18 => ?_) (fun c18 => ?_)
            · have h := bb_t h c18
              refine lv_iload hx hb dX7_feed_74 (lv_at hl 5 rfl) ?_
              exact J76 k23 hk23 a1 a2 a3 a4 a5 a6 a5 S h f H locs w hw hn hk ls (lv_sub hl [0, 1, 2, 3, 4, 5, 6] rfl)
            · have h := bb_f h c18
              refine lv_iload hx hb dX7_feed_69 (lv_at hl 4 rfl) ?_
              refine lv_goto (tgt := 76) hx hb dX7_feed_71 (by decide) ?_
              exact J76 k23 hk23 a1 a2 a3 a4 a5 a6 a4 S h f H locs w hw hn hk ls (lv_sub hl [0, 1, 2, 3, 4, 5, 6] rfl)
          · have h := bb_f h c17
            refine lv_iload_n hx hb dX7_feed_58 rfl (lv_at hl 3 rfl) ?_
            refine lv_goto (tgt := 76) hx hb dX7_feed_59 (by decide) ?_
            exact J76 k23 hk23 a1 a2 a3 a4 a5 a6 a3 S h f H locs w hw hn hk ls (lv_sub hl [0, 1, 2, 3, 4, 5, 6] rfl)
        · have h := bb_f h c16
          refine lv_iload_n hx hb dX7_feed_47 rfl (lv_at hl 2 rfl) ?_
          refine lv_goto (tgt := 76) hx hb dX7_feed_48 (by decide) ?_
          exact J76 k23 hk23 a1 a2 a3 a4 a5 a6 a2 S h f H locs w hw hn hk ls (lv_sub hl [0, 1, 2, 3, 4, 5, 6] rfl)
      · have h := bb_f h c15
        refine lv_iload_n hx hb dX7_feed_36 rfl (lv_at hl 1 rfl) ?_
        refine lv_goto (tgt := 76) hx hb dX7_feed_37 (by decide) ?_
        exact J76 k23 hk23 a1 a2 a3 a4 a5 a6 a1 S h f H locs w hw hn hk ls (lv_sub hl [0, 1, 2, 3, 4, 5, 6] rfl)
  dsimp only [F_X7_feed] at h
  obtain ⟨f, ef⟩ : ∃ z, z = f0 := ⟨_, rfl⟩
  rw [← ef] at w hw
  have hk : Kp ad P L f0 f := by rw [ef]; exact Kp.rf
  obtain ⟨H, eH⟩ : ∃ z, z = s.heap := ⟨_, rfl⟩
  obtain ⟨locs, el⟩ : ∃ z : List Loc, z = [] := ⟨_, rfl⟩
  rw [← eH, ← el] at w ⊢
  refine lv_aload_n hx hb dX7_feed_0 rfl (lv_at hl 0 rfl) ?_
  refine lv_iconst (v := 0) hx hb dX7_feed_1 (by decide) ?_
  refine u_puti C w hw (hP _ _ (isn_f rfl rfl (by decide))) rfl (N := 57) rfl rfl cin_7 tyX7 tyX7_ok nmX7 0 (by decide) rfl rfl rfl rfl gw_1156 dX7_feed_2 (fun f H locs w hw hk1 => ?_)
  have hk := hk.tr hk1
  refine u_sv h hw hn (fun S19 h hw hn => ?_)
  refine lv_aload_n hx hb dX7_feed_5 rfl (lv_at hl 0 rfl) ?_
  refine u_geti C w hw (hP _ _ (isn_f rfl rfl (by decide))) rfl (N := 57) rfl rfl cin_7 1 (by decide) rfl gw_1157 dX7_feed_6 ?_
  refine u_iv h (fun x20 h => ?_)
  refine lv_bipush (v := 20) hx hb dX7_feed_9 (by decide) ?_
  refine lv_iadd hx hb dX7_feed_11 ?_
  refine u_iv h (fun x21 h => ?_)
  refine lv_sipush (v := 300) hx hb dX7_feed_12 (by decide) ?_
  refine lv_icmp_le (tgt := 20) hx hb dX7_feed_15 (by decide) (fun c22 => ?_) (fun c22 => ?_)
  · have h := bb_t h c22
    refine lv_iconst (v := 0) hx hb dX7_feed_20 (by decide) ?_
    refine lv_istore (lv' := [(6, .int 0), (0, .ref (ad 40 0)), (1, .int p1), (2, .int p2), (3, .int p3), (4, .int p4), (5, .int p5)]) hx hb dX7_feed_21 hl (by decide) rfl (fun ls hl => ?_)
    exact J23  fuel p1 p2 p3 p4 p5 0 S19 h f H locs w hw hn hk ls (lv_sub hl [1, 2, 3, 4, 5, 6, 0] rfl)
  · have h := bb_f h c22
    refine lv_iconst (v := (-1)) hx hb dX7_feed_18 (by decide) ?_
    exact t_iret C hr hlk w ⟨_, so_v h, rfl, so_w h hw, so_n h hn, hk⟩ (by decide) (by decide) dX7_feed_19
theorem dX7_byteAt_0 : decode cX7_byteAt 0 = .ok (.iload_n 1, 1) := by decide +kernel
theorem dX7_byteAt_1 : decode cX7_byteAt 1 = .ok (.aload_n 0, 1) := by decide +kernel
theorem dX7_byteAt_2 : decode cX7_byteAt 2 = .ok (.getfield 107, 3) := by decide +kernel
theorem dX7_byteAt_5 : decode cX7_byteAt 5 = .ok (.if_icmp .lt 7, 3) := by decide +kernel
theorem dX7_byteAt_8 : decode cX7_byteAt 8 = .ok (.iconst (-1), 1) := by decide +kernel
theorem dX7_byteAt_9 : decode cX7_byteAt 9 = .ok (.goto 31, 3) := by decide +kernel
theorem dX7_byteAt_12 : decode cX7_byteAt 12 = .ok (.aload_n 0, 1) := by decide +kernel
theorem dX7_byteAt_13 : decode cX7_byteAt 13 = .ok (.getfield 110, 3) := by decide +kernel
theorem dX7_byteAt_16 : decode cX7_byteAt 16 = .ok (.iconst (-1), 1) := by decide +kernel
theorem dX7_byteAt_17 : decode cX7_byteAt 17 = .ok (.if_icmp .ne 12, 3) := by decide +kernel
theorem dX7_byteAt_20 : decode cX7_byteAt 20 = .ok (.aload_n 0, 1) := by decide +kernel
theorem dX7_byteAt_21 : decode cX7_byteAt 21 = .ok (.getfield 15, 3) := by decide +kernel
theorem dX7_byteAt_24 : decode cX7_byteAt 24 = .ok (.iload_n 1, 1) := by decide +kernel
theorem dX7_byteAt_25 : decode cX7_byteAt 25 = .ok (.iaload, 1) := by decide +kernel
theorem dX7_byteAt_26 : decode cX7_byteAt 26 = .ok (.goto 14, 3) := by decide +kernel
theorem dX7_byteAt_29 : decode cX7_byteAt 29 = .ok (.aload_n 0, 1) := by decide +kernel
theorem dX7_byteAt_30 : decode cX7_byteAt 30 = .ok (.getfield 21, 3) := by decide +kernel
theorem dX7_byteAt_33 : decode cX7_byteAt 33 = .ok (.aload_n 0, 1) := by decide +kernel
theorem dX7_byteAt_34 : decode cX7_byteAt 34 = .ok (.getfield 110, 3) := by decide +kernel
theorem dX7_byteAt_37 : decode cX7_byteAt 37 = .ok (.aaload, 1) := by decide +kernel
theorem dX7_byteAt_38 : decode cX7_byteAt 38 = .ok (.iload_n 1, 1) := by decide +kernel
theorem dX7_byteAt_39 : decode cX7_byteAt 39 = .ok (.iaload, 1) := by decide +kernel
theorem dX7_byteAt_40 : decode cX7_byteAt 40 = .ok (.ireturn, 1) := by decide +kernel
noncomputable def F_X7_byteAt (p1 : Int32) (S0 : fS) : Option (Int32 × fS) := iv (ge S0 40 0 2) (fun x1 => bb (p1 < x1) (iv (ge S0 40 0 8) (fun x3 => bb (x3 = ((-1) : Int32)) (gd (ib p1 300) (iv (ge S0 41 0 (p1 : Int32).toNatClampNeg) (fun x10 => some (x10, S0)))) (iv (ge S0 40 0 8) (fun x5 => gd (ib x5 9) (gd (ib p1 300) (iv (ge S0 43 (x5.toNatClampNeg) (p1 : Int32).toNatClampNeg) (fun x8 => some (x8, S0)))))))) (some ((-1), S0)))
set_option maxHeartbeats 4000000 in
set_option maxRecDepth 100000 in
theorem c_X7_byteAt (l : Launch) (D : va_G) (K : Nat → ClassId) (b0 : Nat) (sa : sT) (sz : Nat) (L : List Nat) (f0 : Nat → va_E) (ad : Nat → Nat → Nat) (P : Nat → Nat → Prop) {n : Nat × Nat} (hP : ∀ a i : Nat, isn n a i → P a i) (S0 : fS) (hw : PW K ad P S0 L f0) (hn : S0.2.2.1 = n) (p1 : Int32) (v : Int32) (S1 : fS) (h : F_X7_byteAt p1 S0 = some (v, S1)) : Met l yX7_byteAt (.code yX7_byteAt cX7_byteAt 2 (some .int) :: gt) { frames := 0, cells := 0, slots := 0, locals := 0 } (va_Pc [.ref (ad 40 0), .int p1] (hPre D K b0 sa sz L f0)) (hQ D K b0 (fun v9 u9 => ∃ f2 : Nat → va_E, v9 = some (.int v) ∧ u9 = lU L f2 ∧ PW K ad P S1 L f2 ∧ S1.2.2.1 = n ∧ Kp ad P L f0 f2)) 0 0 (fun q => b0 ≤ q) := by
  refine t_of (own := RX7) (by decide) rfl ?_ (Nat.le_of_ble_eq_true rfl)
  intro p e s m below meth c ls C w hsz hr hlk hnm hl
  have hx := C.1
  have hb := C.2.1
  have hl : lv_has ls 2 [(0, .ref (ad 40 0)), (1, .int p1)] := hl
  dsimp only [F_X7_byteAt] at h
  obtain ⟨f, ef⟩ : ∃ z, z = f0 := ⟨_, rfl⟩
  rw [← ef] at w hw
  have hk : Kp ad P L f0 f := by rw [ef]; exact Kp.rf
  obtain ⟨H, eH⟩ : ∃ z, z = s.heap := ⟨_, rfl⟩
  obtain ⟨locs, el⟩ : ∃ z : List Loc, z = [] := ⟨_, rfl⟩
  rw [← eH, ← el] at w ⊢
  refine lv_iload_n hx hb dX7_byteAt_0 rfl (lv_at hl 1 rfl) ?_
  refine lv_aload_n hx hb dX7_byteAt_1 rfl (lv_at hl 0 rfl) ?_
  refine u_geti C w hw (hP _ _ (isn_f rfl rfl (by decide))) rfl (N := 57) rfl rfl cin_7 2 (by decide) rfl gw_1158 dX7_byteAt_2 ?_
  refine u_iv h (fun x1 h => ?_)
  refine lv_icmp_lt (tgt := 12) hx hb dX7_byteAt_5 (by decide) (fun c2 => ?_) (fun c2 => ?_)
  · have h := bb_t h c2
    refine lv_aload_n hx hb dX7_byteAt_12 rfl (lv_at hl 0 rfl) ?_
    refine u_geti C w hw (hP _ _ (isn_f rfl rfl (by decide))) rfl (N := 57) rfl rfl cin_7 8 (by decide) rfl gw_1164 dX7_byteAt_13 ?_
    refine u_iv h (fun x3 h => ?_)
    refine lv_iconst (v := (-1)) hx hb dX7_byteAt_16 (by decide) ?_
    refine lv_icmp_ne (tgt := 29) hx hb dX7_byteAt_17 (by decide) (fun c4 => ?_) (fun c4 => ?_)
    · have h := bb_f h c4
      refine lv_aload_n hx hb dX7_byteAt_29 rfl (lv_at hl 0 rfl) ?_
      refine u_getr C w hw (hP _ _ (isn_f rfl rfl (by decide))) rfl (N := 57) rfl rfl cin_7 11 (by decide) (by decide) (a2 := 42) (i2 := 0) rfl gw_1167 dX7_byteAt_30 ?_
      refine lv_aload_n hx hb dX7_byteAt_33 rfl (lv_at hl 0 rfl) ?_
      refine u_geti C w hw (hP _ _ (isn_f rfl rfl (by decide))) rfl (N := 57) rfl rfl cin_7 8 (by decide) rfl gw_1164 dX7_byteAt_34 ?_
      refine u_iv h (fun x5 h => ?_)
      obtain ⟨g6, h⟩ := gd_some h
      refine u_aald C w hw (hP _ _ (isn_f rfl rfl (by decide))) rfl rfl rfl (n := 9) rfl (vp_in_iff.mpr g6) (a2 := 43) (i2 := (x5.toNatClampNeg)) (by exact congrArg (Prod.mk _) (Nat.zero_add _)) dX7_byteAt_37 ?_
      refine lv_iload_n hx hb dX7_byteAt_38 rfl (lv_at hl 1 rfl) ?_
      obtain ⟨g7, h⟩ := gd_some h
      refine u_iald C w hw (hP _ _ (isn_f rfl rfl (ib_lt g6))) rfl rfl (n := 300) rfl (vp_in_iff.mpr g7) dX7_byteAt_39 ?_
      refine u_iv h (fun x8 h => ?_)
      exact t_iret C hr hlk w ⟨_, so_v h, rfl, so_w h hw, so_n h hn, hk⟩ (by decide) (by decide) dX7_byteAt_40
    · have h := bb_t h c4
      refine lv_aload_n hx hb dX7_byteAt_20 rfl (lv_at hl 0 rfl) ?_
      refine u_getr C w hw (hP _ _ (isn_f rfl rfl (by decide))) rfl (N := 57) rfl rfl cin_7 10 (by decide) (by decide) (a2 := 41) (i2 := 0) rfl gw_1166 dX7_byteAt_21 ?_
      refine lv_iload_n hx hb dX7_byteAt_24 rfl (lv_at hl 1 rfl) ?_
      obtain ⟨g9, h⟩ := gd_some h
      refine u_iald C w hw (hP _ _ (isn_f rfl rfl (by decide))) rfl rfl (n := 300) rfl (vp_in_iff.mpr g9) dX7_byteAt_25 ?_
      refine u_iv h (fun x10 h => ?_)
      refine lv_goto (tgt := 40) hx hb dX7_byteAt_26 (by decide) ?_
      exact t_iret C hr hlk w ⟨_, so_v h, rfl, so_w h hw, so_n h hn, hk⟩ (by decide) (by decide) dX7_byteAt_40
  · have h := bb_f h c2
    refine lv_iconst (v := (-1)) hx hb dX7_byteAt_8 (by decide) ?_
    refine lv_goto (tgt := 40) hx hb dX7_byteAt_9 (by decide) ?_
    exact t_iret C hr hlk w ⟨_, so_v h, rfl, so_w h hw, so_n h hn, hk⟩ (by decide) (by decide) dX7_byteAt_40
theorem dX7_blanks_0 : decode cX7_blanks 0 = .ok (.aload_n 0, 1) := by decide +kernel
theorem dX7_blanks_1 : decode cX7_blanks 1 = .ok (.aload_n 0, 1) := by decide +kernel
theorem dX7_blanks_2 : decode cX7_blanks 2 = .ok (.getfield 113, 3) := by decide +kernel
theorem dX7_blanks_5 : decode cX7_blanks 5 = .ok (.invokevirtual 116, 3) := by decide +kernel
theorem dX7_blanks_8 : decode cX7_blanks 8 = .ok (.bipush 32, 2) := by decide +kernel
theorem dX7_blanks_10 : decode cX7_blanks 10 = .ok (.if_icmp .ne 16, 3) := by decide +kernel
theorem dX7_blanks_13 : decode cX7_blanks 13 = .ok (.aload_n 0, 1) := by decide +kernel
theorem dX7_blanks_14 : decode cX7_blanks 14 = .ok (.dup, 1) := by decide +kernel
theorem dX7_blanks_15 : decode cX7_blanks 15 = .ok (.getfield 113, 3) := by decide +kernel
theorem dX7_blanks_18 : decode cX7_blanks 18 = .ok (.iconst 1, 1) := by decide +kernel
theorem dX7_blanks_19 : decode cX7_blanks 19 = .ok (.iadd, 1) := by decide +kernel
theorem dX7_blanks_20 : decode cX7_blanks 20 = .ok (.putfield 113, 3) := by decide +kernel
theorem dX7_blanks_23 : decode cX7_blanks 23 = .ok (.goto (-23), 3) := by decide +kernel
theorem dX7_blanks_26 : decode cX7_blanks 26 = .ok (.return_, 1) := by decide +kernel
noncomputable def B_X7_blanks_0 (k0 : (Unit) → fS → Option (Int32 × fS)) : (Unit) → fS → Option (Int32 × fS) := fun _ S => iv (ge S 40 0 4) (fun x1 => bd (F_X7_byteAt x1 S) (fun v2 S3 => bb (v2 = (32 : Int32)) (iv (ge S3 40 0 4) (fun x6 => iv (x6 + (1 : Int32)) (fun x7 => sv (pu S3 40 0 4 x7) (fun S8 => k0 () S8)))) (some (0, S3))))
noncomputable def F_X7_blanks  (S0 : fS) : Option (Int32 × fS) := lp (B_X7_blanks_0 ) fuel () S0
set_option maxHeartbeats 4000000 in
set_option maxRecDepth 100000 in
theorem c_X7_blanks (l : Launch) (D : va_G) (K : Nat → ClassId) (b0 : Nat) (sa : sT) (sz : Nat) (L : List Nat) (f0 : Nat → va_E) (ad : Nat → Nat → Nat) (P : Nat → Nat → Prop) {n : Nat × Nat} (hP : ∀ a i : Nat, isn n a i → P a i) (S0 : fS) (hw : PW K ad P S0 L f0) (hn : S0.2.2.1 = n)  (v : Int32) (S1 : fS) (h : F_X7_blanks  S0 = some (v, S1)) : Met l yX7_blanks (.code yX7_blanks cX7_blanks 1 none :: gt) { frames := 1, cells := 0, slots := 0, locals := 21 } (va_Pc [.ref (ad 40 0)] (hPre D K b0 sa sz L f0)) (hQ D K b0 (fun v9 u9 => ∃ f2 : Nat → va_E, v9 = none ∧ u9 = lU L f2 ∧ PW K ad P S1 L f2 ∧ S1.2.2.1 = n ∧ Kp ad P L f0 f2)) 0 0 (fun q => b0 ≤ q) := by
  refine t_of (own := RX7) (by decide) rfl ?_ (Nat.le_of_ble_eq_true rfl)
  intro p e s m below meth c ls C w hsz hr hlk hnm hl
  have hx := C.1
  have hb := C.2.1
  have hl : lv_has ls 1 [(0, .ref (ad 40 0))] := hl
  have J0 : ∀ (fu : Nat) (S : fS), lp (B_X7_blanks_0 ) fu () S = some (v, S1) → Gw D K b0 sa ad P n L f0 p l e { frames := 1, cells := 0, slots := 0, locals := 21 } s m [.ref (ad 40 0)].toArray below meth c 1 (MQ below (hQ D K b0 (fun v9 u9 => ∃ f2 : Nat → va_E, v9 = none ∧ u9 = lU L f2 ∧ PW K ad P S1 L f2 ∧ S1.2.2.1 = n ∧ Kp ad P L f0 f2)) [.ref (ad 40 0)].toArray s 0 0 (fun q => b0 ≤ q)) 0 0 0 [(0, .ref (ad 40 0))] [] S := by
    intro fu S h
    refine lp_some (G := (fun q S => Gw D K b0 sa ad P n L f0 p l e { frames := 1, cells := 0, slots := 0, locals := 21 } s m [.ref (ad 40 0)].toArray below meth c 1 (MQ below (hQ D K b0 (fun v9 u9 => ∃ f2 : Nat → va_E, v9 = none ∧ u9 = lU L f2 ∧ PW K ad P S1 L f2 ∧ S1.2.2.1 = n ∧ Kp ad P L f0 f2)) [.ref (ad 40 0)].toArray s 0 0 (fun q => b0 ≤ q)) 0 0 0 [(0, .ref (ad 40 0))] [] S)) (fun k0 hk0 q S h => ?_) fu () S h
    have hk0 : ∀ (S : fS), k0 () S = some (v, S1) → Gw D K b0 sa ad P n L f0 p l e { frames := 1, cells := 0, slots := 0, locals := 21 } s m [.ref (ad 40 0)].toArray below meth c 1 (MQ below (hQ D K b0 (fun v9 u9 => ∃ f2 : Nat → va_E, v9 = none ∧ u9 = lU L f2 ∧ PW K ad P S1 L f2 ∧ S1.2.2.1 = n ∧ Kp ad P L f0 f2)) [.ref (ad 40 0)].toArray s 0 0 (fun q => b0 ≤ q)) 0 0 0 [(0, .ref (ad 40 0))] [] S := fun S h => hk0 () S h
    dsimp only [B_X7_blanks_0] at h
    intro f H locs w hw hn hk ls hl
    refine lv_aload_n hx hb dX7_blanks_0 rfl (lv_at hl 0 rfl) ?_
    refine lv_aload_n hx hb dX7_blanks_1 rfl (lv_at hl 0 rfl) ?_
    refine u_geti C w hw (hP _ _ (isn_f rfl rfl (by decide))) rfl (N := 57) rfl rfl cin_7 4 (by decide) rfl gw_1160 dX7_blanks_2 ?_
    refine u_iv h (fun x1 h => ?_)
    obtain ⟨v2, S3, h4, h⟩ := bd_some h
    refine u_callV (n := 1) C w hw (hP _ _ (isn_f rfl rfl (by decide))) rfl rfl rfl (c_X7_byteAt l D K b0 sa _ L _ ad P hP S hw hn x1 v2 S3 h4) gw_1379 gw_1376 gw_1378 gs_30 gw_8 ⟨by decide, by decide, by decide +kernel⟩ rfl rfl ⟨by decide, by decide⟩ rfl hl.1 rfl (Nat.le_of_ble_eq_true rfl) dX7_blanks_5 ⟨Nat.le_of_ble_eq_true rfl, Nat.le_of_ble_eq_true rfl⟩ (fun v9 u H locs hp w => ?_)
    obtain ⟨f2, rfl, rfl, hw, hn, hk1⟩ := hp
    have hk := hk.tr hk1
    generalize f2 = f at w hw hk
    refine lv_bipush (v := 32) hx hb dX7_blanks_8 (by decide) ?_
    refine lv_icmp_ne (tgt := 26) hx hb dX7_blanks_10 (by decide) (fun c5 => ?_) (fun c5 => ?_)
    · have h := bb_f h c5
      exact t_vret C hr hlk w ⟨_, rfl, rfl, so_w h hw, so_n h hn, hk⟩ (by decide) (by decide) dX7_blanks_26
    · have h := bb_t h c5
      refine lv_aload_n hx hb dX7_blanks_13 rfl (lv_at hl 0 rfl) ?_
      refine lv_dup hx hb dX7_blanks_14 rfl ?_
      refine u_geti C w hw (hP _ _ (isn_f rfl rfl (by decide))) rfl (N := 57) rfl rfl cin_7 4 (by decide) rfl gw_1160 dX7_blanks_15 ?_
      refine u_iv h (fun x6 h => ?_)
      refine lv_iconst (v := 1) hx hb dX7_blanks_18 (by decide) ?_
      refine lv_iadd hx hb dX7_blanks_19 ?_
      refine u_iv h (fun x7 h => ?_)
      refine u_puti C w hw (hP _ _ (isn_f rfl rfl (by decide))) rfl (N := 57) rfl rfl cin_7 tyX7 tyX7_ok nmX7 4 (by decide) rfl rfl rfl rfl gw_1160 dX7_blanks_20 (fun f H locs w hw hk1 => ?_)
      have hk := hk.tr hk1
      refine u_sv h hw hn (fun S8 h hw hn => ?_)
      refine lv_goto (tgt := 0) hx hb dX7_blanks_23 (by decide) ?_
      exact hk0  S8 h f H locs w hw hn hk ls (lv_sub hl [0] rfl)
  dsimp only [F_X7_blanks] at h
  obtain ⟨f, ef⟩ : ∃ z, z = f0 := ⟨_, rfl⟩
  rw [← ef] at w hw
  have hk : Kp ad P L f0 f := by rw [ef]; exact Kp.rf
  obtain ⟨H, eH⟩ : ∃ z, z = s.heap := ⟨_, rfl⟩
  obtain ⟨locs, el⟩ : ∃ z : List Loc, z = [] := ⟨_, rfl⟩
  rw [← eH, ← el] at w ⊢
  exact J0  fuel  S0 h f H locs w hw hn hk ls (lv_sub hl [0] rfl)
theorem dX7_wrong_0 : decode cX7_wrong 0 = .ok (.aload_n 0, 1) := by decide +kernel
theorem dX7_wrong_1 : decode cX7_wrong 1 = .ok (.getfield 120, 3) := by decide +kernel
theorem dX7_wrong_4 : decode cX7_wrong 4 = .ok (.ifCond .ne 13, 3) := by decide +kernel
theorem dX7_wrong_7 : decode cX7_wrong 7 = .ok (.aload_n 0, 1) := by decide +kernel
theorem dX7_wrong_8 : decode cX7_wrong 8 = .ok (.iload_n 1, 1) := by decide +kernel
theorem dX7_wrong_9 : decode cX7_wrong 9 = .ok (.putfield 120, 3) := by decide +kernel
theorem dX7_wrong_12 : decode cX7_wrong 12 = .ok (.aload_n 0, 1) := by decide +kernel
theorem dX7_wrong_13 : decode cX7_wrong 13 = .ok (.iload_n 2, 1) := by decide +kernel
theorem dX7_wrong_14 : decode cX7_wrong 14 = .ok (.putfield 123, 3) := by decide +kernel
theorem dX7_wrong_17 : decode cX7_wrong 17 = .ok (.return_, 1) := by decide +kernel
noncomputable def F_X7_wrong (p1 : Int32) (p2 : Int32) (S0 : fS) : Option (Int32 × fS) := iv (ge S0 40 0 6) (fun x1 => bb (x1 = (0 : Int32)) (sv (pu S0 40 0 6 p1) (fun S3 => sv (pu S3 40 0 7 p2) (fun S4 => some (0, S4)))) (some (0, S0)))
set_option maxHeartbeats 4000000 in
set_option maxRecDepth 100000 in
theorem c_X7_wrong (l : Launch) (D : va_G) (K : Nat → ClassId) (b0 : Nat) (sa : sT) (sz : Nat) (L : List Nat) (f0 : Nat → va_E) (ad : Nat → Nat → Nat) (P : Nat → Nat → Prop) {n : Nat × Nat} (hP : ∀ a i : Nat, isn n a i → P a i) (S0 : fS) (hw : PW K ad P S0 L f0) (hn : S0.2.2.1 = n) (p1 : Int32) (p2 : Int32) (v : Int32) (S1 : fS) (h : F_X7_wrong p1 p2 S0 = some (v, S1)) : Met l yX7_wrong (.code yX7_wrong cX7_wrong 3 none :: gt) { frames := 0, cells := 0, slots := 0, locals := 0 } (va_Pc [.ref (ad 40 0), .int p1, .int p2] (hPre D K b0 sa sz L f0)) (hQ D K b0 (fun v9 u9 => ∃ f2 : Nat → va_E, v9 = none ∧ u9 = lU L f2 ∧ PW K ad P S1 L f2 ∧ S1.2.2.1 = n ∧ Kp ad P L f0 f2)) 0 0 (fun q => b0 ≤ q) := by
  refine t_of (own := RX7) (by decide) rfl ?_ (Nat.le_of_ble_eq_true rfl)
  intro p e s m below meth c ls C w hsz hr hlk hnm hl
  have hx := C.1
  have hb := C.2.1
  have hl : lv_has ls 3 [(0, .ref (ad 40 0)), (1, .int p1), (2, .int p2)] := hl
  dsimp only [F_X7_wrong] at h
  obtain ⟨f, ef⟩ : ∃ z, z = f0 := ⟨_, rfl⟩
  rw [← ef] at w hw
  have hk : Kp ad P L f0 f := by rw [ef]; exact Kp.rf
  obtain ⟨H, eH⟩ : ∃ z, z = s.heap := ⟨_, rfl⟩
  obtain ⟨locs, el⟩ : ∃ z : List Loc, z = [] := ⟨_, rfl⟩
  rw [← eH, ← el] at w ⊢
  refine lv_aload_n hx hb dX7_wrong_0 rfl (lv_at hl 0 rfl) ?_
  refine u_geti C w hw (hP _ _ (isn_f rfl rfl (by decide))) rfl (N := 57) rfl rfl cin_7 6 (by decide) rfl gw_1162 dX7_wrong_1 ?_
  refine u_iv h (fun x1 h => ?_)
  refine lv_if_ne (tgt := 17) hx hb dX7_wrong_4 (by decide) (fun c2 => ?_) (fun c2 => ?_)
  · have h := bb_f h c2
    exact t_vret C hr hlk w ⟨_, rfl, rfl, so_w h hw, so_n h hn, hk⟩ (by decide) (by decide) dX7_wrong_17
  · have h := bb_t h c2
    refine lv_aload_n hx hb dX7_wrong_7 rfl (lv_at hl 0 rfl) ?_
    refine lv_iload_n hx hb dX7_wrong_8 rfl (lv_at hl 1 rfl) ?_
    refine u_puti C w hw (hP _ _ (isn_f rfl rfl (by decide))) rfl (N := 57) rfl rfl cin_7 tyX7 tyX7_ok nmX7 6 (by decide) rfl rfl rfl rfl gw_1162 dX7_wrong_9 (fun f H locs w hw hk1 => ?_)
    have hk := hk.tr hk1
    refine u_sv h hw hn (fun S3 h hw hn => ?_)
    refine lv_aload_n hx hb dX7_wrong_12 rfl (lv_at hl 0 rfl) ?_
    refine lv_iload_n hx hb dX7_wrong_13 rfl (lv_at hl 2 rfl) ?_
    refine u_puti C w hw (hP _ _ (isn_f rfl rfl (by decide))) rfl (N := 57) rfl rfl cin_7 tyX7 tyX7_ok nmX7 7 (by decide) rfl rfl rfl rfl gw_1163 dX7_wrong_14 (fun f H locs w hw hk1 => ?_)
    have hk := hk.tr hk1
    refine u_sv h hw hn (fun S4 h hw hn => ?_)
    exact t_vret C hr hlk w ⟨_, rfl, rfl, so_w h hw, so_n h hn, hk⟩ (by decide) (by decide) dX7_wrong_17
theorem dX7_isDigit_0 : decode cX7_isDigit 0 = .ok (.iload_n 0, 1) := by decide +kernel
theorem dX7_isDigit_1 : decode cX7_isDigit 1 = .ok (.bipush 48, 2) := by decide +kernel
theorem dX7_isDigit_3 : decode cX7_isDigit 3 = .ok (.if_icmp .lt 13, 3) := by decide +kernel
theorem dX7_isDigit_6 : decode cX7_isDigit 6 = .ok (.iload_n 0, 1) := by decide +kernel
theorem dX7_isDigit_7 : decode cX7_isDigit 7 = .ok (.bipush 57, 2) := by decide +kernel
theorem dX7_isDigit_9 : decode cX7_isDigit 9 = .ok (.if_icmp .gt 7, 3) := by decide +kernel
theorem dX7_isDigit_12 : decode cX7_isDigit 12 = .ok (.iconst 1, 1) := by decide +kernel
theorem dX7_isDigit_13 : decode cX7_isDigit 13 = .ok (.goto 4, 3) := by decide +kernel
theorem dX7_isDigit_16 : decode cX7_isDigit 16 = .ok (.iconst 0, 1) := by decide +kernel
theorem dX7_isDigit_17 : decode cX7_isDigit 17 = .ok (.ireturn, 1) := by decide +kernel
noncomputable def F_X7_isDigit (p0 : Int32) (S0 : fS) : Option (Int32 × fS) := bb (p0 < (48 : Int32)) (some (0, S0)) (bb ((57 : Int32) < p0) (some (0, S0)) (some (1, S0)))
set_option maxHeartbeats 4000000 in
set_option maxRecDepth 100000 in
theorem c_X7_isDigit (l : Launch) (D : va_G) (K : Nat → ClassId) (b0 : Nat) (sa : sT) (sz : Nat) (L : List Nat) (f0 : Nat → va_E) (ad : Nat → Nat → Nat) (P : Nat → Nat → Prop) {n : Nat × Nat} (hP : ∀ a i : Nat, isn n a i → P a i) (S0 : fS) (hw : PW K ad P S0 L f0) (hn : S0.2.2.1 = n) (p0 : Int32) (v : Int32) (S1 : fS) (h : F_X7_isDigit p0 S0 = some (v, S1)) : Met l yX7_isDigit (.code yX7_isDigit cX7_isDigit 1 (some .boolean) :: gt) { frames := 0, cells := 0, slots := 0, locals := 0 } (va_Pc [.int p0] (hPre D K b0 sa sz L f0)) (hQ D K b0 (fun v9 u9 => ∃ f2 : Nat → va_E, v9 = some (.int v) ∧ u9 = lU L f2 ∧ PW K ad P S1 L f2 ∧ S1.2.2.1 = n ∧ Kp ad P L f0 f2)) 0 0 (fun q => b0 ≤ q) := by
  refine t_of (own := RX7) (by decide) rfl ?_ (Nat.le_of_ble_eq_true rfl)
  intro p e s m below meth c ls C w hsz hr hlk hnm hl
  have hx := C.1
  have hb := C.2.1
  have hl : lv_has ls 1 [(0, .int p0)] := hl
  dsimp only [F_X7_isDigit] at h
  obtain ⟨f, ef⟩ : ∃ z, z = f0 := ⟨_, rfl⟩
  rw [← ef] at w hw
  have hk : Kp ad P L f0 f := by rw [ef]; exact Kp.rf
  obtain ⟨H, eH⟩ : ∃ z, z = s.heap := ⟨_, rfl⟩
  obtain ⟨locs, el⟩ : ∃ z : List Loc, z = [] := ⟨_, rfl⟩
  rw [← eH, ← el] at w ⊢
  refine lv_iload_n hx hb dX7_isDigit_0 rfl (lv_at hl 0 rfl) ?_
  refine lv_bipush (v := 48) hx hb dX7_isDigit_1 (by decide) ?_
  refine lv_icmp_lt (tgt := 16) hx hb dX7_isDigit_3 (by decide) (fun c1 => ?_) (fun c1 => ?_)
  · have h := bb_t h c1
    refine lv_iconst (v := 0) hx hb dX7_isDigit_16 (by decide) ?_
    exact t_zret C hr hlk w (by decide) ⟨_, so_v h, rfl, so_w h hw, so_n h hn, hk⟩ (by decide) (by decide) dX7_isDigit_17
  · have h := bb_f h c1
    refine lv_iload_n hx hb dX7_isDigit_6 rfl (lv_at hl 0 rfl) ?_
    refine lv_bipush (v := 57) hx hb dX7_isDigit_7 (by decide) ?_
    refine lv_icmp_gt (tgt := 16) hx hb dX7_isDigit_9 (by decide) (fun c2 => ?_) (fun c2 => ?_)
    · have h := bb_t h c2
      refine lv_iconst (v := 0) hx hb dX7_isDigit_16 (by decide) ?_
      exact t_zret C hr hlk w (by decide) ⟨_, so_v h, rfl, so_w h hw, so_n h hn, hk⟩ (by decide) (by decide) dX7_isDigit_17
    · have h := bb_f h c2
      refine lv_iconst (v := 1) hx hb dX7_isDigit_12 (by decide) ?_
      refine lv_goto (tgt := 17) hx hb dX7_isDigit_13 (by decide) ?_
      exact t_zret C hr hlk w (by decide) ⟨_, so_v h, rfl, so_w h hw, so_n h hn, hk⟩ (by decide) (by decide) dX7_isDigit_17
theorem dX7_number_0 : decode cX7_number 0 = .ok (.aload_n 0, 1) := by decide +kernel
theorem dX7_number_1 : decode cX7_number 1 = .ok (.getfield 113, 3) := by decide +kernel
theorem dX7_number_4 : decode cX7_number 4 = .ok (.istore_n 1, 1) := by decide +kernel
theorem dX7_number_5 : decode cX7_number 5 = .ok (.iconst 0, 1) := by decide +kernel
theorem dX7_number_6 : decode cX7_number 6 = .ok (.istore_n 2, 1) := by decide +kernel
theorem dX7_number_7 : decode cX7_number 7 = .ok (.aload_n 0, 1) := by decide +kernel
theorem dX7_number_8 : decode cX7_number 8 = .ok (.aload_n 0, 1) := by decide +kernel
theorem dX7_number_9 : decode cX7_number 9 = .ok (.getfield 113, 3) := by decide +kernel
theorem dX7_number_12 : decode cX7_number 12 = .ok (.invokevirtual 116, 3) := by decide +kernel
theorem dX7_number_15 : decode cX7_number 15 = .ok (.invokestatic 126, 3) := by decide +kernel
theorem dX7_number_18 : decode cX7_number 18 = .ok (.ifCond .eq 48, 3) := by decide +kernel
theorem dX7_number_21 : decode cX7_number 21 = .ok (.bipush 10, 2) := by decide +kernel
theorem dX7_number_23 : decode cX7_number 23 = .ok (.iload_n 2, 1) := by decide +kernel
theorem dX7_number_24 : decode cX7_number 24 = .ok (.imul, 1) := by decide +kernel
theorem dX7_number_25 : decode cX7_number 25 = .ok (.aload_n 0, 1) := by decide +kernel
theorem dX7_number_26 : decode cX7_number 26 = .ok (.aload_n 0, 1) := by decide +kernel
theorem dX7_number_27 : decode cX7_number 27 = .ok (.getfield 113, 3) := by decide +kernel
theorem dX7_number_30 : decode cX7_number 30 = .ok (.invokevirtual 116, 3) := by decide +kernel
theorem dX7_number_33 : decode cX7_number 33 = .ok (.iadd, 1) := by decide +kernel
theorem dX7_number_34 : decode cX7_number 34 = .ok (.bipush 48, 2) := by decide +kernel
theorem dX7_number_36 : decode cX7_number 36 = .ok (.isub, 1) := by decide +kernel
theorem dX7_number_37 : decode cX7_number 37 = .ok (.istore_n 2, 1) := by decide +kernel
theorem dX7_number_38 : decode cX7_number 38 = .ok (.iload_n 2, 1) := by decide +kernel
theorem dX7_number_39 : decode cX7_number 39 = .ok (.sipush 10000, 3) := by decide +kernel
theorem dX7_number_42 : decode cX7_number 42 = .ok (.if_icmp .le 9, 3) := by decide +kernel
theorem dX7_number_45 : decode cX7_number 45 = .ok (.sipush 10000, 3) := by decide +kernel
theorem dX7_number_48 : decode cX7_number 48 = .ok (.goto 4, 3) := by decide +kernel
theorem dX7_number_51 : decode cX7_number 51 = .ok (.iload_n 2, 1) := by decide +kernel
theorem dX7_number_52 : decode cX7_number 52 = .ok (.istore_n 2, 1) := by decide +kernel
theorem dX7_number_53 : decode cX7_number 53 = .ok (.aload_n 0, 1) := by decide +kernel
theorem dX7_number_54 : decode cX7_number 54 = .ok (.dup, 1) := by decide +kernel
theorem dX7_number_55 : decode cX7_number 55 = .ok (.getfield 113, 3) := by decide +kernel
theorem dX7_number_58 : decode cX7_number 58 = .ok (.iconst 1, 1) := by decide +kernel
theorem dX7_number_59 : decode cX7_number 59 = .ok (.iadd, 1) := by decide +kernel
theorem dX7_number_60 : decode cX7_number 60 = .ok (.putfield 113, 3) := by decide +kernel
theorem dX7_number_63 : decode cX7_number 63 = .ok (.goto (-56), 3) := by decide +kernel
theorem dX7_number_66 : decode cX7_number 66 = .ok (.iload_n 2, 1) := by decide +kernel
theorem dX7_number_67 : decode cX7_number 67 = .ok (.sipush 999, 3) := by decide +kernel
theorem dX7_number_70 : decode cX7_number 70 = .ok (.if_icmp .le 9, 3) := by decide +kernel
theorem dX7_number_73 : decode cX7_number 73 = .ok (.aload_n 0, 1) := by decide +kernel
theorem dX7_number_74 : decode cX7_number 74 = .ok (.iconst 2, 1) := by decide +kernel
theorem dX7_number_75 : decode cX7_number 75 = .ok (.iload_n 1, 1) := by decide +kernel
theorem dX7_number_76 : decode cX7_number 76 = .ok (.invokevirtual 130, 3) := by decide +kernel
theorem dX7_number_79 : decode cX7_number 79 = .ok (.iload_n 2, 1) := by decide +kernel
theorem dX7_number_80 : decode cX7_number 80 = .ok (.ireturn, 1) := by decide +kernel
noncomputable def B_X7_number_52 (k7 : (Int32 × Int32) → fS → Option (Int32 × fS)) (a1 : Int32) (t0 : Int32) (S : fS) : Option (Int32 × fS) := iv (ge S 40 0 4) (fun x1 => iv (x1 + (1 : Int32)) (fun x2 => sv (pu S 40 0 4 x2) (fun S3 => k7 (a1, t0) S3)))
noncomputable def B_X7_number_7 (k7 : (Int32 × Int32) → fS → Option (Int32 × fS)) : (Int32 × Int32) → fS → Option (Int32 × fS) := fun ⟨a1, a2⟩ S => iv (ge S 40 0 4) (fun x4 => bd (F_X7_byteAt x4 S) (fun v5 S6 => bd (F_X7_isDigit v5 S6) (fun v8 S9 => bb (v8 = (0 : Int32)) (bb (a2 ≤ (999 : Int32)) (some (a2, S9)) (bd (F_X7_wrong 2 a1 S9) (fun v13 S14 => some (a2, S14)))) (iv ((10 : Int32) * a2) (fun x16 => iv (ge S9 40 0 4) (fun x17 => bd (F_X7_byteAt x17 S9) (fun v18 S19 => iv (x16 + v18) (fun x21 => iv (x21 - (48 : Int32)) (fun x22 => bb (x22 ≤ (10000 : Int32)) (B_X7_number_52 k7 a1 x22 S19) (B_X7_number_52 k7 a1 10000 S19))))))))))
noncomputable def F_X7_number  (S0 : fS) : Option (Int32 × fS) := iv (ge S0 40 0 4) (fun x24 => lp (B_X7_number_7 ) fuel (x24, 0) S0)
set_option maxHeartbeats 4000000 in
set_option maxRecDepth 100000 in
theorem c_X7_number (l : Launch) (D : va_G) (K : Nat → ClassId) (b0 : Nat) (sa : sT) (sz : Nat) (L : List Nat) (f0 : Nat → va_E) (ad : Nat → Nat → Nat) (P : Nat → Nat → Prop) {n : Nat × Nat} (hP : ∀ a i : Nat, isn n a i → P a i) (S0 : fS) (hw : PW K ad P S0 L f0) (hn : S0.2.2.1 = n)  (v : Int32) (S1 : fS) (h : F_X7_number  S0 = some (v, S1)) : Met l yX7_number (.code yX7_number cX7_number 3 (some .int) :: gt) { frames := 1, cells := 0, slots := 0, locals := 22 } (va_Pc [.ref (ad 40 0)] (hPre D K b0 sa sz L f0)) (hQ D K b0 (fun v9 u9 => ∃ f2 : Nat → va_E, v9 = some (.int v) ∧ u9 = lU L f2 ∧ PW K ad P S1 L f2 ∧ S1.2.2.1 = n ∧ Kp ad P L f0 f2)) 0 0 (fun q => b0 ≤ q) := by
  refine t_of (own := RX7) (by decide) rfl ?_ (Nat.le_of_ble_eq_true rfl)
  intro p e s m below meth c ls C w hsz hr hlk hnm hl
  have hx := C.1
  have hb := C.2.1
  have hl : lv_has ls 3 [(0, .ref (ad 40 0))] := hl
  have J52 : ∀ (k7 : (Int32 × Int32) → fS → Option (Int32 × fS)) (hk7 : ∀ (a1 : Int32) (a2 : Int32) (S : fS), k7 (a1, a2) S = some (v, S1) → Gw D K b0 sa ad P n L f0 p l e { frames := 1, cells := 0, slots := 0, locals := 22 } s m [.ref (ad 40 0)].toArray below meth c 3 (MQ below (hQ D K b0 (fun v9 u9 => ∃ f2 : Nat → va_E, v9 = some (.int v) ∧ u9 = lU L f2 ∧ PW K ad P S1 L f2 ∧ S1.2.2.1 = n ∧ Kp ad P L f0 f2)) [.ref (ad 40 0)].toArray s 0 0 (fun q => b0 ≤ q)) 0 0 7 [(0, .ref (ad 40 0)), (1, .int a1), (2, .int a2)] [] S) (a1 : Int32) (t0 : Int32) (S : fS), B_X7_number_52 k7 a1 t0 S = some (v, S1) → Gw D K b0 sa ad P n L f0 p l e { frames := 1, cells := 0, slots := 0, locals := 22 } s m [.ref (ad 40 0)].toArray below meth c 3 (MQ below (hQ D K b0 (fun v9 u9 => ∃ f2 : Nat → va_E, v9 = some (.int v) ∧ u9 = lU L f2 ∧ PW K ad P S1 L f2 ∧ S1.2.2.1 = n ∧ Kp ad P L f0 f2)) [.ref (ad 40 0)].toArray s 0 0 (fun q => b0 ≤ q)) 0 0 52 [(0, .ref (ad 40 0)), (1, .int a1)] [.int t0] S := by
    intro k7 hk7 a1 t0 S h
    dsimp only [B_X7_number_52] at h
    intro f H locs w hw hn hk ls hl
    refine lv_istore_n (lv' := [(2, .int t0), (0, .ref (ad 40 0)), (1, .int a1)]) hx hb dX7_number_52 rfl hl (by decide) rfl (fun ls hl => ?_)
    refine lv_aload_n hx hb dX7_number_53 rfl (lv_at hl 1 rfl) ?_
    refine lv_dup hx hb dX7_number_54 rfl ?_
    refine u_geti C w hw (hP _ _ (isn_f rfl rfl (by decide))) rfl (N := 57) rfl rfl cin_7 4 (by decide) rfl gw_1160 dX7_number_55 ?_
    refine u_iv h (fun x1 h => ?_)
    refine lv_iconst (v := 1) hx hb dX7_number_58 (by decide) ?_
    refine lv_iadd hx hb dX7_number_59 ?_
    refine u_iv h (fun x2 h => ?_)
    refine u_puti C w hw (hP _ _ (isn_f rfl rfl (by decide))) rfl (N := 57) rfl rfl cin_7 tyX7 tyX7_ok nmX7 4 (by decide) rfl rfl rfl rfl gw_1160 dX7_number_60 (fun f H locs w hw hk1 => ?_)
    have hk := hk.tr hk1
    refine u_sv h hw hn (fun S3 h hw hn => ?_)
    refine lv_goto (tgt := 7) hx hb dX7_number_63 (by decide) ?_
    exact hk7 a1 t0 S3 h f H locs w hw hn hk ls (lv_sub hl [1, 2, 0] rfl)
  have J7 : ∀ (fu : Nat) (a1 : Int32) (a2 : Int32) (S : fS), lp (B_X7_number_7 ) fu (a1, a2) S = some (v, S1) → Gw D K b0 sa ad P n L f0 p l e { frames := 1, cells := 0, slots := 0, locals := 22 } s m [.ref (ad 40 0)].toArray below meth c 3 (MQ below (hQ D K b0 (fun v9 u9 => ∃ f2 : Nat → va_E, v9 = some (.int v) ∧ u9 = lU L f2 ∧ PW K ad P S1 L f2 ∧ S1.2.2.1 = n ∧ Kp ad P L f0 f2)) [.ref (ad 40 0)].toArray s 0 0 (fun q => b0 ≤ q)) 0 0 7 [(0, .ref (ad 40 0)), (1, .int a1), (2, .int a2)] [] S := by
    intro fu a1 a2 S h
    refine lp_some (G := (fun q S => Gw D K b0 sa ad P n L f0 p l e { frames := 1, cells := 0, slots := 0, locals := 22 } s m [.ref (ad 40 0)].toArray below meth c 3 (MQ below (hQ D K b0 (fun v9 u9 => ∃ f2 : Nat → va_E, v9 = some (.int v) ∧ u9 = lU L f2 ∧ PW K ad P S1 L f2 ∧ S1.2.2.1 = n ∧ Kp ad P L f0 f2)) [.ref (ad 40 0)].toArray s 0 0 (fun q => b0 ≤ q)) 0 0 7 [(0, .ref (ad 40 0)), (1, .int q.1), (2, .int q.2)] [] S)) (fun k7 hk7 q S h => ?_) fu (a1, a2) S h
    obtain ⟨a1, a2⟩ := q
    have hk7 : ∀ (a1 : Int32) (a2 : Int32) (S : fS), k7 (a1, a2) S = some (v, S1) → Gw D K b0 sa ad P n L f0 p l e { frames := 1, cells := 0, slots := 0, locals := 22 } s m [.ref (ad 40 0)].toArray below meth c 3 (MQ below (hQ D K b0 (fun v9 u9 => ∃ f2 : Nat → va_E, v9 = some (.int v) ∧ u9 = lU L f2 ∧ PW K ad P S1 L f2 ∧ S1.2.2.1 = n ∧ Kp ad P L f0 f2)) [.ref (ad 40 0)].toArray s 0 0 (fun q => b0 ≤ q)) 0 0 7 [(0, .ref (ad 40 0)), (1, .int a1), (2, .int a2)] [] S := fun a1 a2 S h => hk7 (a1, a2) S h
    dsimp only [B_X7_number_7] at h
    intro f H locs w hw hn hk ls hl
    refine lv_aload_n hx hb dX7_number_7 rfl (lv_at hl 0 rfl) ?_
    refine lv_aload_n hx hb dX7_number_8 rfl (lv_at hl 0 rfl) ?_
    refine u_geti C w hw (hP _ _ (isn_f rfl rfl (by decide))) rfl (N := 57) rfl rfl cin_7 4 (by decide) rfl gw_1160 dX7_number_9 ?_
    refine u_iv h (fun x4 h => ?_)
    obtain ⟨v5, S6, h7, h⟩ := bd_some h
    refine u_callV (n := 1) C w hw (hP _ _ (isn_f rfl rfl (by decide))) rfl rfl rfl (c_X7_byteAt l D K b0 sa _ L _ ad P hP S hw hn x4 v5 S6 h7) gw_1379 gw_1376 gw_1378 gs_30 gw_8 ⟨by decide, by decide, by decide +kernel⟩ rfl rfl ⟨by decide, by decide⟩ rfl hl.1 rfl (Nat.le_of_ble_eq_true rfl) dX7_number_12 ⟨Nat.le_of_ble_eq_true rfl, Nat.le_of_ble_eq_true rfl⟩ (fun v9 u H locs hp w => ?_)
    obtain ⟨f2, rfl, rfl, hw, hn, hk1⟩ := hp
    have hk := hk.tr hk1
    generalize f2 = f at w hw hk
    obtain ⟨v8, S9, h10, h⟩ := bd_some h
    refine t_callS (n := 1) C w (c_X7_isDigit l D K b0 sa _ L _ ad P hP S6 hw hn v5 v8 S9 h10) gw_1409 gw_1407 gw_1408 gw_8 ⟨by decide, by decide, by decide +kernel⟩ rfl rfl ⟨by decide, by decide⟩ rfl hl.1 rfl (Nat.le_of_ble_eq_true rfl) dX7_number_15 ⟨Nat.le_of_ble_eq_true rfl, Nat.le_of_ble_eq_true rfl⟩ (fun v9 u H locs hp w => ?_)
    obtain ⟨f2, rfl, rfl, hw, hn, hk1⟩ := hp
    have hk := hk.tr hk1
    generalize f2 = f at w hw hk
    refine lv_if_eq (tgt := 66) hx hb dX7_number_18 (by decide) (fun c11 => ?_) (fun c11 => ?_)
    · have h := bb_t h c11
      refine lv_iload_n hx hb dX7_number_66 rfl (lv_at hl 2 rfl) ?_
      refine lv_sipush (v := 999) hx hb dX7_number_67 (by decide) ?_
      refine lv_icmp_le (tgt := 79) hx hb dX7_number_70 (by decide) (fun c12 => ?_) (fun c12 => ?_)
      · have h := bb_t h c12
        refine lv_iload_n hx hb dX7_number_79 rfl (lv_at hl 2 rfl) ?_
        exact t_iret C hr hlk w ⟨_, so_v h, rfl, so_w h hw, so_n h hn, hk⟩ (by decide) (by decide) dX7_number_80
      · have h := bb_f h c12
        refine lv_aload_n hx hb dX7_number_73 rfl (lv_at hl 0 rfl) ?_
        refine lv_iconst (v := 2) hx hb dX7_number_74 (by decide) ?_
        refine lv_iload_n hx hb dX7_number_75 rfl (lv_at hl 1 rfl) ?_
        obtain ⟨v13, S14, h15, h⟩ := bd_some h
        refine u_callV (n := 2) C w hw (hP _ _ (isn_f rfl rfl (by decide))) rfl rfl rfl (c_X7_wrong l D K b0 sa _ L _ ad P hP S9 hw hn 2 a1 v13 S14 h15) gw_1390 gw_1387 gw_1389 gs_32 gw_8 ⟨by decide, by decide, by decide +kernel⟩ rfl rfl ⟨by decide, by decide⟩ rfl hl.1 rfl (Nat.le_of_ble_eq_true rfl) dX7_number_76 ⟨Nat.le_of_ble_eq_true rfl, Nat.le_of_ble_eq_true rfl⟩ (fun v9 u H locs hp w => ?_)
        obtain ⟨f2, rfl, rfl, hw, hn, hk1⟩ := hp
        have hk := hk.tr hk1
        generalize f2 = f at w hw hk
        refine lv_iload_n hx hb dX7_number_79 rfl (lv_at hl 2 rfl) ?_
        exact t_iret C hr hlk w ⟨_, so_v h, rfl, so_w h hw, so_n h hn, hk⟩ (by decide) (by decide) dX7_number_80
    · have h := bb_f h c11
      refine lv_bipush (v := 10) hx hb dX7_number_21 (by decide) ?_
      refine lv_iload_n hx hb dX7_number_23 rfl (lv_at hl 2 rfl) ?_
      refine lv_imul hx hb dX7_number_24 ?_
      refine u_iv h (fun x16 h => ?_)
      refine lv_aload_n hx hb dX7_number_25 rfl (lv_at hl 0 rfl) ?_
      refine lv_aload_n hx hb dX7_number_26 rfl (lv_at hl 0 rfl) ?_
      refine u_geti C w hw (hP _ _ (isn_f rfl rfl (by decide))) rfl (N := 57) rfl rfl cin_7 4 (by decide) rfl gw_1160 dX7_number_27 ?_
      refine u_iv h (fun x17 h => ?_)
      obtain ⟨v18, S19, h20, h⟩ := bd_some h
      refine u_callV (n := 1) C w hw (hP _ _ (isn_f rfl rfl (by decide))) rfl rfl rfl (c_X7_byteAt l D K b0 sa _ L _ ad P hP S9 hw hn x17 v18 S19 h20) gw_1379 gw_1376 gw_1378 gs_30 gw_8 ⟨by decide, by decide, by decide +kernel⟩ rfl rfl ⟨by decide, by decide⟩ rfl hl.1 rfl (Nat.le_of_ble_eq_true rfl) dX7_number_30 ⟨Nat.le_of_ble_eq_true rfl, Nat.le_of_ble_eq_true rfl⟩ (fun v9 u H locs hp w => ?_)
      obtain ⟨f2, rfl, rfl, hw, hn, hk1⟩ := hp
      have hk := hk.tr hk1
      generalize f2 = f at w hw hk
      refine lv_iadd hx hb dX7_number_33 ?_
      refine u_iv h (fun x21 h => ?_)
      refine lv_bipush (v := 48) hx hb dX7_number_34 (by decide) ?_
      refine lv_isub hx hb dX7_number_36 ?_
      refine u_iv h (fun x22 h => ?_)
      refine lv_istore_n (lv' := [(2, .int x22), (0, .ref (ad 40 0)), (1, .int a1)]) hx hb dX7_number_37 rfl hl (by decide) rfl (fun ls hl => ?_)
      refine lv_iload_n hx hb dX7_number_38 rfl (lv_at hl 0 rfl) ?_
      refine lv_sipush (v := 10000) hx hb dX7_number_39 (by decide) ?_
      refine lv_icmp_le (tgt := 51) hx hb dX7_number_42 (by decide) (fun c23 => ?_) (fun c23 => ?_)
      · have h := bb_t h c23
        refine lv_iload_n hx hb dX7_number_51 rfl (lv_at hl 0 rfl) ?_
        exact J52 k7 hk7 a1 x22 S19 h f H locs w hw hn hk ls (lv_sub hl [1, 2] rfl)
      · have h := bb_f h c23
        refine lv_sipush (v := 10000) hx hb dX7_number_45 (by decide) ?_
        refine lv_goto (tgt := 52) hx hb dX7_number_48 (by decide) ?_
        exact J52 k7 hk7 a1 10000 S19 h f H locs w hw hn hk ls (lv_sub hl [1, 2] rfl)
  dsimp only [F_X7_number] at h
  obtain ⟨f, ef⟩ : ∃ z, z = f0 := ⟨_, rfl⟩
  rw [← ef] at w hw
  have hk : Kp ad P L f0 f := by rw [ef]; exact Kp.rf
  obtain ⟨H, eH⟩ : ∃ z, z = s.heap := ⟨_, rfl⟩
  obtain ⟨locs, el⟩ : ∃ z : List Loc, z = [] := ⟨_, rfl⟩
  rw [← eH, ← el] at w ⊢
  refine lv_aload_n hx hb dX7_number_0 rfl (lv_at hl 0 rfl) ?_
  refine u_geti C w hw (hP _ _ (isn_f rfl rfl (by decide))) rfl (N := 57) rfl rfl cin_7 4 (by decide) rfl gw_1160 dX7_number_1 ?_
  refine u_iv h (fun x24 h => ?_)
  refine lv_istore_n (lv' := [(1, .int x24), (0, .ref (ad 40 0))]) hx hb dX7_number_4 rfl hl (by decide) rfl (fun ls hl => ?_)
  refine lv_iconst (v := 0) hx hb dX7_number_5 (by decide) ?_
  refine lv_istore_n (lv' := [(2, .int 0), (1, .int x24), (0, .ref (ad 40 0))]) hx hb dX7_number_6 rfl hl (by decide) rfl (fun ls hl => ?_)
  exact J7  fuel x24 0 S0 h f H locs w hw hn hk ls (lv_sub hl [2, 1, 0] rfl)
theorem dX7_wordHere_0 : decode cX7_wordHere 0 = .ok (.aload_n 0, 1) := by decide +kernel
theorem dX7_wordHere_1 : decode cX7_wordHere 1 = .ok (.invokevirtual 134, 3) := by decide +kernel
theorem dX7_wordHere_4 : decode cX7_wordHere 4 = .ok (.iconst 0, 1) := by decide +kernel
theorem dX7_wordHere_5 : decode cX7_wordHere 5 = .ok (.istore_n 1, 1) := by decide +kernel
theorem dX7_wordHere_6 : decode cX7_wordHere 6 = .ok (.iconst 0, 1) := by decide +kernel
theorem dX7_wordHere_7 : decode cX7_wordHere 7 = .ok (.istore_n 2, 1) := by decide +kernel
theorem dX7_wordHere_8 : decode cX7_wordHere 8 = .ok (.aload_n 0, 1) := by decide +kernel
theorem dX7_wordHere_9 : decode cX7_wordHere 9 = .ok (.aload_n 0, 1) := by decide +kernel
theorem dX7_wordHere_10 : decode cX7_wordHere 10 = .ok (.getfield 113, 3) := by decide +kernel
theorem dX7_wordHere_13 : decode cX7_wordHere 13 = .ok (.iload_n 2, 1) := by decide +kernel
theorem dX7_wordHere_14 : decode cX7_wordHere 14 = .ok (.iadd, 1) := by decide +kernel
theorem dX7_wordHere_15 : decode cX7_wordHere 15 = .ok (.invokevirtual 116, 3) := by decide +kernel
theorem dX7_wordHere_18 : decode cX7_wordHere 18 = .ok (.bipush 97, 2) := by decide +kernel
theorem dX7_wordHere_20 : decode cX7_wordHere 20 = .ok (.if_icmp .lt 54, 3) := by decide +kernel
theorem dX7_wordHere_23 : decode cX7_wordHere 23 = .ok (.aload_n 0, 1) := by decide +kernel
theorem dX7_wordHere_24 : decode cX7_wordHere 24 = .ok (.aload_n 0, 1) := by decide +kernel
theorem dX7_wordHere_25 : decode cX7_wordHere 25 = .ok (.getfield 113, 3) := by decide +kernel
theorem dX7_wordHere_28 : decode cX7_wordHere 28 = .ok (.iload_n 2, 1) := by decide +kernel
theorem dX7_wordHere_29 : decode cX7_wordHere 29 = .ok (.iadd, 1) := by decide +kernel
theorem dX7_wordHere_30 : decode cX7_wordHere 30 = .ok (.invokevirtual 116, 3) := by decide +kernel
theorem dX7_wordHere_33 : decode cX7_wordHere 33 = .ok (.bipush 122, 2) := by decide +kernel
theorem dX7_wordHere_35 : decode cX7_wordHere 35 = .ok (.if_icmp .gt 39, 3) := by decide +kernel
theorem dX7_wordHere_38 : decode cX7_wordHere 38 = .ok (.iload_n 2, 1) := by decide +kernel
theorem dX7_wordHere_39 : decode cX7_wordHere 39 = .ok (.iconst 5, 1) := by decide +kernel
theorem dX7_wordHere_40 : decode cX7_wordHere 40 = .ok (.if_icmp .ge 26, 3) := by decide +kernel
theorem dX7_wordHere_43 : decode cX7_wordHere 43 = .ok (.bipush 27, 2) := by decide +kernel
theorem dX7_wordHere_45 : decode cX7_wordHere 45 = .ok (.iload_n 1, 1) := by decide +kernel
theorem dX7_wordHere_46 : decode cX7_wordHere 46 = .ok (.imul, 1) := by decide +kernel
theorem dX7_wordHere_47 : decode cX7_wordHere 47 = .ok (.aload_n 0, 1) := by decide +kernel
theorem dX7_wordHere_48 : decode cX7_wordHere 48 = .ok (.aload_n 0, 1) := by decide +kernel
theorem dX7_wordHere_49 : decode cX7_wordHere 49 = .ok (.getfield 113, 3) := by decide +kernel
theorem dX7_wordHere_52 : decode cX7_wordHere 52 = .ok (.iload_n 2, 1) := by decide +kernel
theorem dX7_wordHere_53 : decode cX7_wordHere 53 = .ok (.iadd, 1) := by decide +kernel
theorem dX7_wordHere_54 : decode cX7_wordHere 54 = .ok (.invokevirtual 116, 3) := by decide +kernel
theorem dX7_wordHere_57 : decode cX7_wordHere 57 = .ok (.iadd, 1) := by decide +kernel
theorem dX7_wordHere_58 : decode cX7_wordHere 58 = .ok (.bipush 97, 2) := by decide +kernel
theorem dX7_wordHere_60 : decode cX7_wordHere 60 = .ok (.isub, 1) := by decide +kernel
theorem dX7_wordHere_61 : decode cX7_wordHere 61 = .ok (.iconst 1, 1) := by decide +kernel
theorem dX7_wordHere_62 : decode cX7_wordHere 62 = .ok (.iadd, 1) := by decide +kernel
theorem dX7_wordHere_63 : decode cX7_wordHere 63 = .ok (.goto 4, 3) := by decide +kernel
theorem dX7_wordHere_66 : decode cX7_wordHere 66 = .ok (.iload_n 1, 1) := by decide +kernel
theorem dX7_wordHere_67 : decode cX7_wordHere 67 = .ok (.istore_n 1, 1) := by decide +kernel
theorem dX7_wordHere_68 : decode cX7_wordHere 68 = .ok (.iinc 2 1, 3) := by decide +kernel
theorem dX7_wordHere_71 : decode cX7_wordHere 71 = .ok (.goto (-63), 3) := by decide +kernel
theorem dX7_wordHere_74 : decode cX7_wordHere 74 = .ok (.iload_n 2, 1) := by decide +kernel
theorem dX7_wordHere_75 : decode cX7_wordHere 75 = .ok (.iconst 5, 1) := by decide +kernel
theorem dX7_wordHere_76 : decode cX7_wordHere 76 = .ok (.if_icmp .le 7, 3) := by decide +kernel
theorem dX7_wordHere_79 : decode cX7_wordHere 79 = .ok (.iconst (-1), 1) := by decide +kernel
theorem dX7_wordHere_80 : decode cX7_wordHere 80 = .ok (.goto 4, 3) := by decide +kernel
theorem dX7_wordHere_83 : decode cX7_wordHere 83 = .ok (.iload_n 1, 1) := by decide +kernel
theorem dX7_wordHere_84 : decode cX7_wordHere 84 = .ok (.ireturn, 1) := by decide +kernel
noncomputable def B_X7_wordHere_67 (k8 : (Int32 × Int32) → fS → Option (Int32 × fS)) (a2 : Int32) (t0 : Int32) (S : fS) : Option (Int32 × fS) := iv (a2 + Int32.ofInt 1) (fun x1 => k8 (t0, x1) S)
noncomputable def B_X7_wordHere_74 (a1 : Int32) (a2 : Int32) (S : fS) : Option (Int32 × fS) := bb (a2 ≤ (5 : Int32)) (some (a1, S)) (some ((-1), S))
noncomputable def B_X7_wordHere_8 (k8 : (Int32 × Int32) → fS → Option (Int32 × fS)) : (Int32 × Int32) → fS → Option (Int32 × fS) := fun ⟨a1, a2⟩ S => iv (ge S 40 0 4) (fun x3 => iv (x3 + a2) (fun x4 => bd (F_X7_byteAt x4 S) (fun v5 S6 => bb (v5 < (97 : Int32)) (B_X7_wordHere_74  a1 a2 S6) (iv (ge S6 40 0 4) (fun x9 => iv (x9 + a2) (fun x10 => bd (F_X7_byteAt x10 S6) (fun v11 S12 => bb ((122 : Int32) < v11) (B_X7_wordHere_74  a1 a2 S12) (bb ((5 : Int32) ≤ a2) (B_X7_wordHere_67 k8 a2 a1 S12) (iv ((27 : Int32) * a1) (fun x16 => iv (ge S12 40 0 4) (fun x17 => iv (x17 + a2) (fun x18 => bd (F_X7_byteAt x18 S12) (fun v19 S20 => iv (x16 + v19) (fun x22 => iv (x22 - (97 : Int32)) (fun x23 => iv (x23 + (1 : Int32)) (fun x24 => B_X7_wordHere_67 k8 a2 x24 S20))))))))))))))))
noncomputable def F_X7_wordHere  (S0 : fS) : Option (Int32 × fS) := bd (F_X7_blanks  S0) (fun v25 S26 => lp (B_X7_wordHere_8 ) fuel (0, 0) S26)
set_option maxHeartbeats 4000000 in
set_option maxRecDepth 100000 in
theorem c_X7_wordHere (l : Launch) (D : va_G) (K : Nat → ClassId) (b0 : Nat) (sa : sT) (sz : Nat) (L : List Nat) (f0 : Nat → va_E) (ad : Nat → Nat → Nat) (P : Nat → Nat → Prop) {n : Nat × Nat} (hP : ∀ a i : Nat, isn n a i → P a i) (S0 : fS) (hw : PW K ad P S0 L f0) (hn : S0.2.2.1 = n)  (v : Int32) (S1 : fS) (h : F_X7_wordHere  S0 = some (v, S1)) : Met l yX7_wordHere (.code yX7_wordHere cX7_wordHere 3 (some .int) :: gt) { frames := 2, cells := 0, slots := 0, locals := 41 } (va_Pc [.ref (ad 40 0)] (hPre D K b0 sa sz L f0)) (hQ D K b0 (fun v9 u9 => ∃ f2 : Nat → va_E, v9 = some (.int v) ∧ u9 = lU L f2 ∧ PW K ad P S1 L f2 ∧ S1.2.2.1 = n ∧ Kp ad P L f0 f2)) 0 0 (fun q => b0 ≤ q) := by
  refine t_of (own := RX7) (by decide) rfl ?_ (Nat.le_of_ble_eq_true rfl)
  intro p e s m below meth c ls C w hsz hr hlk hnm hl
  have hx := C.1
  have hb := C.2.1
  have hl : lv_has ls 3 [(0, .ref (ad 40 0))] := hl
  have J67 : ∀ (k8 : (Int32 × Int32) → fS → Option (Int32 × fS)) (hk8 : ∀ (a1 : Int32) (a2 : Int32) (S : fS), k8 (a1, a2) S = some (v, S1) → Gw D K b0 sa ad P n L f0 p l e { frames := 2, cells := 0, slots := 0, locals := 41 } s m [.ref (ad 40 0)].toArray below meth c 3 (MQ below (hQ D K b0 (fun v9 u9 => ∃ f2 : Nat → va_E, v9 = some (.int v) ∧ u9 = lU L f2 ∧ PW K ad P S1 L f2 ∧ S1.2.2.1 = n ∧ Kp ad P L f0 f2)) [.ref (ad 40 0)].toArray s 0 0 (fun q => b0 ≤ q)) 0 0 8 [(0, .ref (ad 40 0)), (1, .int a1), (2, .int a2)] [] S) (a2 : Int32) (t0 : Int32) (S : fS), B_X7_wordHere_67 k8 a2 t0 S = some (v, S1) → Gw D K b0 sa ad P n L f0 p l e { frames := 2, cells := 0, slots := 0, locals := 41 } s m [.ref (ad 40 0)].toArray below meth c 3 (MQ below (hQ D K b0 (fun v9 u9 => ∃ f2 : Nat → va_E, v9 = some (.int v) ∧ u9 = lU L f2 ∧ PW K ad P S1 L f2 ∧ S1.2.2.1 = n ∧ Kp ad P L f0 f2)) [.ref (ad 40 0)].toArray s 0 0 (fun q => b0 ≤ q)) 0 0 67 [(0, .ref (ad 40 0)), (2, .int a2)] [.int t0] S := by
    intro k8 hk8 a2 t0 S h
    dsimp only [B_X7_wordHere_67] at h
    intro f H locs w hw hn hk ls hl
    refine lv_istore_n (lv' := [(1, .int t0), (0, .ref (ad 40 0)), (2, .int a2)]) hx hb dX7_wordHere_67 rfl hl (by decide) rfl (fun ls hl => ?_)
    obtain ⟨x1, ex1, h⟩ := iv_some h
    refine lv_iinc (v := x1) (lv' := [(2, .int x1), (1, .int t0), (0, .ref (ad 40 0))]) hx hb dX7_wordHere_68 hl (k := 2) rfl ex1.symm (by decide) rfl (fun ls hl => ?_)
    refine lv_goto (tgt := 8) hx hb dX7_wordHere_71 (by decide) ?_
    exact hk8 t0 x1 S h f H locs w hw hn hk ls (lv_sub hl [2, 1, 0] rfl)
  have J74 : ∀ (a1 : Int32) (a2 : Int32) (S : fS), B_X7_wordHere_74  a1 a2 S = some (v, S1) → Gw D K b0 sa ad P n L f0 p l e { frames := 2, cells := 0, slots := 0, locals := 41 } s m [.ref (ad 40 0)].toArray below meth c 3 (MQ below (hQ D K b0 (fun v9 u9 => ∃ f2 : Nat → va_E, v9 = some (.int v) ∧ u9 = lU L f2 ∧ PW K ad P S1 L f2 ∧ S1.2.2.1 = n ∧ Kp ad P L f0 f2)) [.ref (ad 40 0)].toArray s 0 0 (fun q => b0 ≤ q)) 0 0 74 [(1, .int a1), (2, .int a2)] [] S := by
    intro a1 a2 S h
    dsimp only [B_X7_wordHere_74] at h
    intro f H locs w hw hn hk ls hl
    refine lv_iload_n hx hb dX7_wordHere_74 rfl (lv_at hl 1 rfl) ?_
    refine lv_iconst (v := 5) hx hb dX7_wordHere_75 (by decide) ?_
    refine lv_icmp_le (tgt := 83) hx hb dX7_wordHere_76 (by decide) (fun c2 => ?_) (fun c2 => ?_)
    · have h := bb_t h c2
      refine lv_iload_n hx hb dX7_wordHere_83 rfl (lv_at hl 0 rfl) ?_
      exact t_iret C hr hlk w ⟨_, so_v h, rfl, so_w h hw, so_n h hn, hk⟩ (by decide) (by decide) dX7_wordHere_84
    · have h := bb_f h c2
      refine lv_iconst (v := (-1)) hx hb dX7_wordHere_79 (by decide) ?_
      refine lv_goto (tgt := 84) hx hb dX7_wordHere_80 (by decide) ?_
      exact t_iret C hr hlk w ⟨_, so_v h, rfl, so_w h hw, so_n h hn, hk⟩ (by decide) (by decide) dX7_wordHere_84
  have J8 : ∀ (fu : Nat) (a1 : Int32) (a2 : Int32) (S : fS), lp (B_X7_wordHere_8 ) fu (a1, a2) S = some (v, S1) → Gw D K b0 sa ad P n L f0 p l e { frames := 2, cells := 0, slots := 0, locals := 41 } s m [.ref (ad 40 0)].toArray below meth c 3 (MQ below (hQ D K b0 (fun v9 u9 => ∃ f2 : Nat → va_E, v9 = some (.int v) ∧ u9 = lU L f2 ∧ PW K ad P S1 L f2 ∧ S1.2.2.1 = n ∧ Kp ad P L f0 f2)) [.ref (ad 40 0)].toArray s 0 0 (fun q => b0 ≤ q)) 0 0 8 [(0, .ref (ad 40 0)), (1, .int a1), (2, .int a2)] [] S := by
    intro fu a1 a2 S h
    refine lp_some (G := (fun q S => Gw D K b0 sa ad P n L f0 p l e { frames := 2, cells := 0, slots := 0, locals := 41 } s m [.ref (ad 40 0)].toArray below meth c 3 (MQ below (hQ D K b0 (fun v9 u9 => ∃ f2 : Nat → va_E, v9 = some (.int v) ∧ u9 = lU L f2 ∧ PW K ad P S1 L f2 ∧ S1.2.2.1 = n ∧ Kp ad P L f0 f2)) [.ref (ad 40 0)].toArray s 0 0 (fun q => b0 ≤ q)) 0 0 8 [(0, .ref (ad 40 0)), (1, .int q.1), (2, .int q.2)] [] S)) (fun k8 hk8 q S h => ?_) fu (a1, a2) S h
    obtain ⟨a1, a2⟩ := q
    have hk8 : ∀ (a1 : Int32) (a2 : Int32) (S : fS), k8 (a1, a2) S = some (v, S1) → Gw D K b0 sa ad P n L f0 p l e { frames := 2, cells := 0, slots := 0, locals := 41 } s m [.ref (ad 40 0)].toArray below meth c 3 (MQ below (hQ D K b0 (fun v9 u9 => ∃ f2 : Nat → va_E, v9 = some (.int v) ∧ u9 = lU L f2 ∧ PW K ad P S1 L f2 ∧ S1.2.2.1 = n ∧ Kp ad P L f0 f2)) [.ref (ad 40 0)].toArray s 0 0 (fun q => b0 ≤ q)) 0 0 8 [(0, .ref (ad 40 0)), (1, .int a1), (2, .int a2)] [] S := fun a1 a2 S h => hk8 (a1, a2) S h
    dsimp only [B_X7_wordHere_8] at h
    intro f H locs w hw hn hk ls hl
    refine lv_aload_n hx hb dX7_wordHere_8 rfl (lv_at hl 0 rfl) ?_
    refine lv_aload_n hx hb dX7_wordHere_9 rfl (lv_at hl 0 rfl) ?_
    refine u_geti C w hw (hP _ _ (isn_f rfl rfl (by decide))) rfl (N := 57) rfl rfl cin_7 4 (by decide) rfl gw_1160 dX7_wordHere_10 ?_
    refine u_iv h (fun x3 h => ?_)
    refine lv_iload_n hx hb dX7_wordHere_13 rfl (lv_at hl 2 rfl) ?_
    refine lv_iadd hx hb dX7_wordHere_14 ?_
    refine u_iv h (fun x4 h => ?_)
    obtain ⟨v5, S6, h7, h⟩ := bd_some h
    refine u_callV (n := 1) C w hw (hP _ _ (isn_f rfl rfl (by decide))) rfl rfl rfl (c_X7_byteAt l D K b0 sa _ L _ ad P hP S hw hn x4 v5 S6 h7) gw_1379 gw_1376 gw_1378 gs_30 gw_8 ⟨by decide, by decide, by decide +kernel⟩ rfl rfl ⟨by decide, by decide⟩ rfl hl.1 rfl (Nat.le_of_ble_eq_true rfl) dX7_wordHere_15 ⟨Nat.le_of_ble_eq_true rfl, Nat.le_of_ble_eq_true rfl⟩ (fun v9 u H locs hp w => ?_)
    obtain ⟨f2, rfl, rfl, hw, hn, hk1⟩ := hp
    have hk := hk.tr hk1
    generalize f2 = f at w hw hk
    refine lv_bipush (v := 97) hx hb dX7_wordHere_18 (by decide) ?_
    refine lv_icmp_lt (tgt := 74) hx hb dX7_wordHere_20 (by decide) (fun c8 => ?_) (fun c8 => ?_)
    · have h := bb_t h c8
      exact J74  a1 a2 S6 h f H locs w hw hn hk ls (lv_sub hl [1, 2] rfl)
    · have h := bb_f h c8
      refine lv_aload_n hx hb dX7_wordHere_23 rfl (lv_at hl 0 rfl) ?_
      refine lv_aload_n hx hb dX7_wordHere_24 rfl (lv_at hl 0 rfl) ?_
      refine u_geti C w hw (hP _ _ (isn_f rfl rfl (by decide))) rfl (N := 57) rfl rfl cin_7 4 (by decide) rfl gw_1160 dX7_wordHere_25 ?_
      refine u_iv h (fun x9 h => ?_)
      refine lv_iload_n hx hb dX7_wordHere_28 rfl (lv_at hl 2 rfl) ?_
      refine lv_iadd hx hb dX7_wordHere_29 ?_
      refine u_iv h (fun x10 h => ?_)
      obtain ⟨v11, S12, h13, h⟩ := bd_some h
      refine u_callV (n := 1) C w hw (hP _ _ (isn_f rfl rfl (by decide))) rfl rfl rfl (c_X7_byteAt l D K b0 sa _ L _ ad P hP S6 hw hn x10 v11 S12 h13) gw_1379 gw_1376 gw_1378 gs_30 gw_8 ⟨by decide, by decide, by decide +kernel⟩ rfl rfl ⟨by decide, by decide⟩ rfl hl.1 rfl (Nat.le_of_ble_eq_true rfl) dX7_wordHere_30 ⟨Nat.le_of_ble_eq_true rfl, Nat.le_of_ble_eq_true rfl⟩ (fun v9 u H locs hp w => ?_)
      obtain ⟨f2, rfl, rfl, hw, hn, hk1⟩ := hp
      have hk := hk.tr hk1
      generalize f2 = f at w hw hk
      refine lv_bipush (v := 122) hx hb dX7_wordHere_33 (by decide) ?_
      refine lv_icmp_gt (tgt := 74) hx hb dX7_wordHere_35 (by decide) (fun c14 => ?_) (fun c14 => ?_)
      · have h := bb_t h c14
        exact J74  a1 a2 S12 h f H locs w hw hn hk ls (lv_sub hl [1, 2] rfl)
      · have h := bb_f h c14
        refine lv_iload_n hx hb dX7_wordHere_38 rfl (lv_at hl 2 rfl) ?_
        refine lv_iconst (v := 5) hx hb dX7_wordHere_39 (by decide) ?_
        refine lv_icmp_ge (tgt := 66) hx hb dX7_wordHere_40 (by decide) (fun c15 => ?_) (fun c15 => ?_)
        · have h := bb_t h c15
          refine lv_iload_n hx hb dX7_wordHere_66 rfl (lv_at hl 1 rfl) ?_
          exact J67 k8 hk8 a2 a1 S12 h f H locs w hw hn hk ls (lv_sub hl [0, 2] rfl)
        · have h := bb_f h c15
          refine lv_bipush (v := 27) hx hb dX7_wordHere_43 (by decide) ?_
          refine lv_iload_n hx hb dX7_wordHere_45 rfl (lv_at hl 1 rfl) ?_
          refine lv_imul hx hb dX7_wordHere_46 ?_
          refine u_iv h (fun x16 h => ?_)
          refine lv_aload_n hx hb dX7_wordHere_47 rfl (lv_at hl 0 rfl) ?_
          refine lv_aload_n hx hb dX7_wordHere_48 rfl (lv_at hl 0 rfl) ?_
          refine u_geti C w hw (hP _ _ (isn_f rfl rfl (by decide))) rfl (N := 57) rfl rfl cin_7 4 (by decide) rfl gw_1160 dX7_wordHere_49 ?_
          refine u_iv h (fun x17 h => ?_)
          refine lv_iload_n hx hb dX7_wordHere_52 rfl (lv_at hl 2 rfl) ?_
          refine lv_iadd hx hb dX7_wordHere_53 ?_
          refine u_iv h (fun x18 h => ?_)
          obtain ⟨v19, S20, h21, h⟩ := bd_some h
          refine u_callV (n := 1) C w hw (hP _ _ (isn_f rfl rfl (by decide))) rfl rfl rfl (c_X7_byteAt l D K b0 sa _ L _ ad P hP S12 hw hn x18 v19 S20 h21) gw_1379 gw_1376 gw_1378 gs_30 gw_8 ⟨by decide, by decide, by decide +kernel⟩ rfl rfl ⟨by decide, by decide⟩ rfl hl.1 rfl (Nat.le_of_ble_eq_true rfl) dX7_wordHere_54 ⟨Nat.le_of_ble_eq_true rfl, Nat.le_of_ble_eq_true rfl⟩ (fun v9 u H locs hp w => ?_)
          obtain ⟨f2, rfl, rfl, hw, hn, hk1⟩ := hp
          have hk := hk.tr hk1
          generalize f2 = f at w hw hk
          refine lv_iadd hx hb dX7_wordHere_57 ?_
          refine u_iv h (fun x22 h => ?_)
          refine lv_bipush (v := 97) hx hb dX7_wordHere_58 (by decide) ?_
          refine lv_isub hx hb dX7_wordHere_60 ?_
          refine u_iv h (fun x23 h => ?_)
          refine lv_iconst (v := 1) hx hb dX7_wordHere_61 (by decide) ?_
          refine lv_iadd hx hb dX7_wordHere_62 ?_
          refine u_iv h (fun x24 h => ?_)
          refine lv_goto (tgt := 67) hx hb dX7_wordHere_63 (by decide) ?_
          exact J67 k8 hk8 a2 x24 S20 h f H locs w hw hn hk ls (lv_sub hl [0, 2] rfl)
  dsimp only [F_X7_wordHere] at h
  obtain ⟨f, ef⟩ : ∃ z, z = f0 := ⟨_, rfl⟩
  rw [← ef] at w hw
  have hk : Kp ad P L f0 f := by rw [ef]; exact Kp.rf
  obtain ⟨H, eH⟩ : ∃ z, z = s.heap := ⟨_, rfl⟩
  obtain ⟨locs, el⟩ : ∃ z : List Loc, z = [] := ⟨_, rfl⟩
  rw [← eH, ← el] at w ⊢
  refine lv_aload_n hx hb dX7_wordHere_0 rfl (lv_at hl 0 rfl) ?_
  obtain ⟨v25, S26, h27, h⟩ := bd_some h
  refine u_callV (n := 0) C w hw (hP _ _ (isn_f rfl rfl (by decide))) rfl rfl rfl (c_X7_blanks l D K b0 sa _ L _ ad P hP S0 hw hn  v25 S26 h27) gw_1375 gw_1372 gw_1374 gs_29 gw_8 ⟨by decide, by decide, by decide +kernel⟩ rfl rfl ⟨by decide, by decide⟩ rfl hl.1 rfl (Nat.le_of_ble_eq_true rfl) dX7_wordHere_1 ⟨Nat.le_of_ble_eq_true rfl, Nat.le_of_ble_eq_true rfl⟩ (fun v9 u H locs hp w => ?_)
  obtain ⟨f2, rfl, rfl, hw, hn, hk1⟩ := hp
  have hk := hk.tr hk1
  generalize f2 = f at w hw hk
  refine lv_iconst (v := 0) hx hb dX7_wordHere_4 (by decide) ?_
  refine lv_istore_n (lv' := [(1, .int 0), (0, .ref (ad 40 0))]) hx hb dX7_wordHere_5 rfl hl (by decide) rfl (fun ls hl => ?_)
  refine lv_iconst (v := 0) hx hb dX7_wordHere_6 (by decide) ?_
  refine lv_istore_n (lv' := [(2, .int 0), (1, .int 0), (0, .ref (ad 40 0))]) hx hb dX7_wordHere_7 rfl hl (by decide) rfl (fun ls hl => ?_)
  exact J8  fuel 0 0 S26 h f H locs w hw hn hk ls (lv_sub hl [2, 1, 0] rfl)
theorem dX7_word_0 : decode cX7_word 0 = .ok (.bipush 27, 2) := by decide +kernel
theorem dX7_word_2 : decode cX7_word 2 = .ok (.iload_n 0, 1) := by decide +kernel
theorem dX7_word_3 : decode cX7_word 3 = .ok (.imul, 1) := by decide +kernel
theorem dX7_word_4 : decode cX7_word 4 = .ok (.iload_n 1, 1) := by decide +kernel
theorem dX7_word_5 : decode cX7_word 5 = .ok (.iadd, 1) := by decide +kernel
theorem dX7_word_6 : decode cX7_word 6 = .ok (.istore 5, 2) := by decide +kernel
theorem dX7_word_8 : decode cX7_word 8 = .ok (.iload_n 2, 1) := by decide +kernel
theorem dX7_word_9 : decode cX7_word 9 = .ok (.ifCond .ne 8, 3) := by decide +kernel
theorem dX7_word_12 : decode cX7_word 12 = .ok (.iload 5, 2) := by decide +kernel
theorem dX7_word_14 : decode cX7_word 14 = .ok (.goto 10, 3) := by decide +kernel
theorem dX7_word_17 : decode cX7_word 17 = .ok (.bipush 27, 2) := by decide +kernel
theorem dX7_word_19 : decode cX7_word 19 = .ok (.iload 5, 2) := by decide +kernel
theorem dX7_word_21 : decode cX7_word 21 = .ok (.imul, 1) := by decide +kernel
theorem dX7_word_22 : decode cX7_word 22 = .ok (.iload_n 2, 1) := by decide +kernel
theorem dX7_word_23 : decode cX7_word 23 = .ok (.iadd, 1) := by decide +kernel
theorem dX7_word_24 : decode cX7_word 24 = .ok (.istore 5, 2) := by decide +kernel
theorem dX7_word_26 : decode cX7_word 26 = .ok (.iload_n 3, 1) := by decide +kernel
theorem dX7_word_27 : decode cX7_word 27 = .ok (.ifCond .ne 8, 3) := by decide +kernel
theorem dX7_word_30 : decode cX7_word 30 = .ok (.iload 5, 2) := by decide +kernel
theorem dX7_word_32 : decode cX7_word 32 = .ok (.goto 10, 3) := by decide +kernel
theorem dX7_word_35 : decode cX7_word 35 = .ok (.bipush 27, 2) := by decide +kernel
theorem dX7_word_37 : decode cX7_word 37 = .ok (.iload 5, 2) := by decide +kernel
theorem dX7_word_39 : decode cX7_word 39 = .ok (.imul, 1) := by decide +kernel
theorem dX7_word_40 : decode cX7_word 40 = .ok (.iload_n 3, 1) := by decide +kernel
theorem dX7_word_41 : decode cX7_word 41 = .ok (.iadd, 1) := by decide +kernel
theorem dX7_word_42 : decode cX7_word 42 = .ok (.istore 5, 2) := by decide +kernel
theorem dX7_word_44 : decode cX7_word 44 = .ok (.iload 4, 2) := by decide +kernel
theorem dX7_word_46 : decode cX7_word 46 = .ok (.ifCond .ne 8, 3) := by decide +kernel
theorem dX7_word_49 : decode cX7_word 49 = .ok (.iload 5, 2) := by decide +kernel
theorem dX7_word_51 : decode cX7_word 51 = .ok (.goto 11, 3) := by decide +kernel
theorem dX7_word_54 : decode cX7_word 54 = .ok (.bipush 27, 2) := by decide +kernel
theorem dX7_word_56 : decode cX7_word 56 = .ok (.iload 5, 2) := by decide +kernel
theorem dX7_word_58 : decode cX7_word 58 = .ok (.imul, 1) := by decide +kernel
theorem dX7_word_59 : decode cX7_word 59 = .ok (.iload 4, 2) := by decide +kernel
theorem dX7_word_61 : decode cX7_word 61 = .ok (.iadd, 1) := by decide +kernel
theorem dX7_word_62 : decode cX7_word 62 = .ok (.ireturn, 1) := by decide +kernel
noncomputable def B_X7_word_42 (a4 : Int32) (t0 : Int32) (S : fS) : Option (Int32 × fS) := bb (a4 = (0 : Int32)) (some (t0, S)) (iv ((27 : Int32) * t0) (fun x2 => iv (x2 + a4) (fun x3 => some (x3, S))))
noncomputable def B_X7_word_24 (a3 : Int32) (a4 : Int32) (t0 : Int32) (S : fS) : Option (Int32 × fS) := bb (a3 = (0 : Int32)) (B_X7_word_42  a4 t0 S) (iv ((27 : Int32) * t0) (fun x5 => iv (x5 + a3) (fun x6 => B_X7_word_42  a4 x6 S)))
noncomputable def F_X7_word (p0 : Int32) (p1 : Int32) (p2 : Int32) (p3 : Int32) (p4 : Int32) (S0 : fS) : Option (Int32 × fS) := iv ((27 : Int32) * p0) (fun x7 => iv (x7 + p1) (fun x8 => bb (p2 = (0 : Int32)) (B_X7_word_24  p3 p4 x8 S0) (iv ((27 : Int32) * x8) (fun x10 => iv (x10 + p2) (fun x11 => B_X7_word_24  p3 p4 x11 S0)))))
set_option maxHeartbeats 4000000 in
set_option maxRecDepth 100000 in
theorem c_X7_word (l : Launch) (D : va_G) (K : Nat → ClassId) (b0 : Nat) (sa : sT) (sz : Nat) (L : List Nat) (f0 : Nat → va_E) (ad : Nat → Nat → Nat) (P : Nat → Nat → Prop) {n : Nat × Nat} (hP : ∀ a i : Nat, isn n a i → P a i) (S0 : fS) (hw : PW K ad P S0 L f0) (hn : S0.2.2.1 = n) (p0 : Int32) (p1 : Int32) (p2 : Int32) (p3 : Int32) (p4 : Int32) (v : Int32) (S1 : fS) (h : F_X7_word p0 p1 p2 p3 p4 S0 = some (v, S1)) : Met l yX7_word (.code yX7_word cX7_word 6 (some .int) :: gt) { frames := 0, cells := 0, slots := 0, locals := 0 } (va_Pc [.int p0, .int p1, .int p2, .int p3, .int p4] (hPre D K b0 sa sz L f0)) (hQ D K b0 (fun v9 u9 => ∃ f2 : Nat → va_E, v9 = some (.int v) ∧ u9 = lU L f2 ∧ PW K ad P S1 L f2 ∧ S1.2.2.1 = n ∧ Kp ad P L f0 f2)) 0 0 (fun q => b0 ≤ q) := by
  refine t_of (own := RX7) (by decide) rfl ?_ (Nat.le_of_ble_eq_true rfl)
  intro p e s m below meth c ls C w hsz hr hlk hnm hl
  have hx := C.1
  have hb := C.2.1
  have hl : lv_has ls 6 [(0, .int p0), (1, .int p1), (2, .int p2), (3, .int p3), (4, .int p4)] := hl
  have J42 : ∀ (a4 : Int32) (t0 : Int32) (S : fS), B_X7_word_42  a4 t0 S = some (v, S1) → Gw D K b0 sa ad P n L f0 p l e { frames := 0, cells := 0, slots := 0, locals := 0 } s m [.int p0, .int p1, .int p2, .int p3, .int p4].toArray below meth c 6 (MQ below (hQ D K b0 (fun v9 u9 => ∃ f2 : Nat → va_E, v9 = some (.int v) ∧ u9 = lU L f2 ∧ PW K ad P S1 L f2 ∧ S1.2.2.1 = n ∧ Kp ad P L f0 f2)) [.int p0, .int p1, .int p2, .int p3, .int p4].toArray s 0 0 (fun q => b0 ≤ q)) 0 0 42 [(4, .int a4)] [.int t0] S := by
    intro a4 t0 S h
    dsimp only [B_X7_word_42] at h
    intro f H locs w hw hn hk ls hl
    refine lv_istore (lv' := [(5, .int t0), (4, .int a4)]) hx hb dX7_word_42 hl (by decide) rfl (fun ls hl => ?_)
    refine lv_iload hx hb dX7_word_44 (lv_at hl 1 rfl) ?_
    refine lv_if_ne (tgt := 54) hx hb dX7_word_46 (by decide) (fun c1 => ?_) (fun c1 => ?_)
    · have h := bb_f h c1
      refine lv_bipush (v := 27) hx hb dX7_word_54 (by decide) ?_
      refine lv_iload hx hb dX7_word_56 (lv_at hl 0 rfl) ?_
      refine lv_imul hx hb dX7_word_58 ?_
      refine u_iv h (fun x2 h => ?_)
      refine lv_iload hx hb dX7_word_59 (lv_at hl 1 rfl) ?_
      refine lv_iadd hx hb dX7_word_61 ?_
      refine u_iv h (fun x3 h => ?_)
      exact t_iret C hr hlk w ⟨_, so_v h, rfl, so_w h hw, so_n h hn, hk⟩ (by decide) (by decide) dX7_word_62
    · have h := bb_t h c1
      refine lv_iload hx hb dX7_word_49 (lv_at hl 0 rfl) ?_
      refine lv_goto (tgt := 62) hx hb dX7_word_51 (by decide) ?_
      exact t_iret C hr hlk w ⟨_, so_v h, rfl, so_w h hw, so_n h hn, hk⟩ (by decide) (by decide) dX7_word_62
  have J24 : ∀ (a3 : Int32) (a4 : Int32) (t0 : Int32) (S : fS), B_X7_word_24  a3 a4 t0 S = some (v, S1) → Gw D K b0 sa ad P n L f0 p l e { frames := 0, cells := 0, slots := 0, locals := 0 } s m [.int p0, .int p1, .int p2, .int p3, .int p4].toArray below meth c 6 (MQ below (hQ D K b0 (fun v9 u9 => ∃ f2 : Nat → va_E, v9 = some (.int v) ∧ u9 = lU L f2 ∧ PW K ad P S1 L f2 ∧ S1.2.2.1 = n ∧ Kp ad P L f0 f2)) [.int p0, .int p1, .int p2, .int p3, .int p4].toArray s 0 0 (fun q => b0 ≤ q)) 0 0 24 [(3, .int a3), (4, .int a4)] [.int t0] S := by
    intro a3 a4 t0 S h
    dsimp only [B_X7_word_24] at h
    intro f H locs w hw hn hk ls hl
    refine lv_istore (lv' := [(5, .int t0), (3, .int a3), (4, .int a4)]) hx hb dX7_word_24 hl (by decide) rfl (fun ls hl => ?_)
    refine lv_iload_n hx hb dX7_word_26 rfl (lv_at hl 1 rfl) ?_
    refine lv_if_ne (tgt := 35) hx hb dX7_word_27 (by decide) (fun c4 => ?_) (fun c4 => ?_)
    · have h := bb_f h c4
      refine lv_bipush (v := 27) hx hb dX7_word_35 (by decide) ?_
      refine lv_iload hx hb dX7_word_37 (lv_at hl 0 rfl) ?_
      refine lv_imul hx hb dX7_word_39 ?_
      refine u_iv h (fun x5 h => ?_)
      refine lv_iload_n hx hb dX7_word_40 rfl (lv_at hl 1 rfl) ?_
      refine lv_iadd hx hb dX7_word_41 ?_
      refine u_iv h (fun x6 h => ?_)
      exact J42  a4 x6 S h f H locs w hw hn hk ls (lv_sub hl [2] rfl)
    · have h := bb_t h c4
      refine lv_iload hx hb dX7_word_30 (lv_at hl 0 rfl) ?_
      refine lv_goto (tgt := 42) hx hb dX7_word_32 (by decide) ?_
      exact J42  a4 t0 S h f H locs w hw hn hk ls (lv_sub hl [2] rfl)
  dsimp only [F_X7_word] at h
  obtain ⟨f, ef⟩ : ∃ z, z = f0 := ⟨_, rfl⟩
  rw [← ef] at w hw
  have hk : Kp ad P L f0 f := by rw [ef]; exact Kp.rf
  obtain ⟨H, eH⟩ : ∃ z, z = s.heap := ⟨_, rfl⟩
  obtain ⟨locs, el⟩ : ∃ z : List Loc, z = [] := ⟨_, rfl⟩
  rw [← eH, ← el] at w ⊢
  refine lv_bipush (v := 27) hx hb dX7_word_0 (by decide) ?_
  refine lv_iload_n hx hb dX7_word_2 rfl (lv_at hl 0 rfl) ?_
  refine lv_imul hx hb dX7_word_3 ?_
  refine u_iv h (fun x7 h => ?_)
  refine lv_iload_n hx hb dX7_word_4 rfl (lv_at hl 1 rfl) ?_
  refine lv_iadd hx hb dX7_word_5 ?_
  refine u_iv h (fun x8 h => ?_)
  refine lv_istore (lv' := [(5, .int x8), (0, .int p0), (1, .int p1), (2, .int p2), (3, .int p3), (4, .int p4)]) hx hb dX7_word_6 hl (by decide) rfl (fun ls hl => ?_)
  refine lv_iload_n hx hb dX7_word_8 rfl (lv_at hl 3 rfl) ?_
  refine lv_if_ne (tgt := 17) hx hb dX7_word_9 (by decide) (fun c9 => ?_) (fun c9 => ?_)
  · have h := bb_f h c9
    refine lv_bipush (v := 27) hx hb dX7_word_17 (by decide) ?_
    refine lv_iload hx hb dX7_word_19 (lv_at hl 0 rfl) ?_
    refine lv_imul hx hb dX7_word_21 ?_
    refine u_iv h (fun x10 h => ?_)
    refine lv_iload_n hx hb dX7_word_22 rfl (lv_at hl 3 rfl) ?_
    refine lv_iadd hx hb dX7_word_23 ?_
    refine u_iv h (fun x11 h => ?_)
    exact J24  p3 p4 x11 S0 h f H locs w hw hn hk ls (lv_sub hl [4, 5] rfl)
  · have h := bb_t h c9
    refine lv_iload hx hb dX7_word_12 (lv_at hl 0 rfl) ?_
    refine lv_goto (tgt := 24) hx hb dX7_word_14 (by decide) ?_
    exact J24  p3 p4 x8 S0 h f H locs w hw hn hk ls (lv_sub hl [4, 5] rfl)
theorem dX7_thrown_0 : decode cX7_thrown 0 = .ok (.aload_n 0, 1) := by decide +kernel
theorem dX7_thrown_1 : decode cX7_thrown 1 = .ok (.getfield 97, 3) := by decide +kernel
theorem dX7_thrown_4 : decode cX7_thrown 4 = .ok (.ireturn, 1) := by decide +kernel
noncomputable def F_X7_thrown  (S0 : fS) : Option (Int32 × fS) := iv (ge S0 40 0 0) (fun x1 => some (x1, S0))
set_option maxHeartbeats 4000000 in
set_option maxRecDepth 100000 in
theorem c_X7_thrown (l : Launch) (D : va_G) (K : Nat → ClassId) (b0 : Nat) (sa : sT) (sz : Nat) (L : List Nat) (f0 : Nat → va_E) (ad : Nat → Nat → Nat) (P : Nat → Nat → Prop) {n : Nat × Nat} (hP : ∀ a i : Nat, isn n a i → P a i) (S0 : fS) (hw : PW K ad P S0 L f0) (hn : S0.2.2.1 = n)  (v : Int32) (S1 : fS) (h : F_X7_thrown  S0 = some (v, S1)) : Met l yX7_thrown (.code yX7_thrown cX7_thrown 1 (some .int) :: gt) { frames := 0, cells := 0, slots := 0, locals := 0 } (va_Pc [.ref (ad 40 0)] (hPre D K b0 sa sz L f0)) (hQ D K b0 (fun v9 u9 => ∃ f2 : Nat → va_E, v9 = some (.int v) ∧ u9 = lU L f2 ∧ PW K ad P S1 L f2 ∧ S1.2.2.1 = n ∧ Kp ad P L f0 f2)) 0 0 (fun q => b0 ≤ q) := by
  refine t_of (own := RX7) (by decide) rfl ?_ (Nat.le_of_ble_eq_true rfl)
  intro p e s m below meth c ls C w hsz hr hlk hnm hl
  have hx := C.1
  have hb := C.2.1
  have hl : lv_has ls 1 [(0, .ref (ad 40 0))] := hl
  dsimp only [F_X7_thrown] at h
  obtain ⟨f, ef⟩ : ∃ z, z = f0 := ⟨_, rfl⟩
  rw [← ef] at w hw
  have hk : Kp ad P L f0 f := by rw [ef]; exact Kp.rf
  obtain ⟨H, eH⟩ : ∃ z, z = s.heap := ⟨_, rfl⟩
  obtain ⟨locs, el⟩ : ∃ z : List Loc, z = [] := ⟨_, rfl⟩
  rw [← eH, ← el] at w ⊢
  refine lv_aload_n hx hb dX7_thrown_0 rfl (lv_at hl 0 rfl) ?_
  refine u_geti C w hw (hP _ _ (isn_f rfl rfl (by decide))) rfl (N := 57) rfl rfl cin_7 0 (by decide) rfl gw_1156 dX7_thrown_1 ?_
  refine u_iv h (fun x1 h => ?_)
  exact t_iret C hr hlk w ⟨_, so_v h, rfl, so_w h hw, so_n h hn, hk⟩ (by decide) (by decide) dX7_thrown_4
