theorem dX7_in_0 : decode cX7_in 0 = .ok (.iload_n 0, 1) := by decide +kernel
theorem dX7_in_1 : decode cX7_in 1 = .ok (.iload_n 1, 1) := by decide +kernel
theorem dX7_in_2 : decode cX7_in 2 = .ok (.if_icmp .lt 12, 3) := by decide +kernel
theorem dX7_in_5 : decode cX7_in 5 = .ok (.iload_n 0, 1) := by decide +kernel
theorem dX7_in_6 : decode cX7_in 6 = .ok (.iload_n 2, 1) := by decide +kernel
theorem dX7_in_7 : decode cX7_in 7 = .ok (.if_icmp .gt 7, 3) := by decide +kernel
theorem dX7_in_10 : decode cX7_in 10 = .ok (.iconst 1, 1) := by decide +kernel
theorem dX7_in_11 : decode cX7_in 11 = .ok (.goto 4, 3) := by decide +kernel
theorem dX7_in_14 : decode cX7_in 14 = .ok (.iconst 0, 1) := by decide +kernel
theorem dX7_in_15 : decode cX7_in 15 = .ok (.ireturn, 1) := by decide +kernel
def F_X7_in (p0 : Int32) (p1 : Int32) (p2 : Int32) (S0 : fS) : Option (Int32 × fS) := bb (p0 < p1) (some (0, S0)) (bb (p2 < p0) (some (0, S0)) (some (1, S0)))
set_option maxHeartbeats 4000000 in
set_option maxRecDepth 100000 in
theorem c_X7_in (l : Launch) (D : va_G) (K : Nat → ClassId) (b0 : Nat) (sa : Nat × Nat × Nat) (sz : Nat) (L : List Nat) (f0 : Nat → va_E) (ad : Nat → Nat → Nat) (n : Nat × Nat) (S0 : fS) (hw : PW K ad (isn n) S0 L f0) (hn : S0.2.2.1 = n) (p0 : Int32) (p1 : Int32) (p2 : Int32) (v : Int32) (S1 : fS) (h : F_X7_in p0 p1 p2 S0 = some (v, S1)) : Met l yX7_in (.code yX7_in cX7_in 3 (some .boolean) :: gt) { frames := 0, cells := 0, slots := 0, locals := 0 } (va_Pc [.int p0, .int p1, .int p2] (hPre D K b0 sa sz L f0)) (hQ D K b0 (fun v9 u9 => ∃ f2 : Nat → va_E, v9 = some (.int v) ∧ u9 = lU L f2 ∧ PW K ad (isn n) S1 L f2 ∧ S1.2.2.1 = n ∧ Kp ad (isn n) L f0 f2)) 0 0 (fun q => b0 ≤ q) := by
  refine t_of (own := RX7) (by decide) rfl ?_ (Nat.le_of_ble_eq_true rfl)
  intro p e s m below meth c ls C w hsz hr hlk hnm hl
  have hx := C.1
  have hb := C.2.1
  have hl : lv_has ls 3 [(0, .int p0), (1, .int p1), (2, .int p2)] := hl
  have hk : Kp ad (isn n) L f0 f0 := Kp.rf
  dsimp only [F_X7_in] at h
  obtain ⟨f, ef⟩ : ∃ z, z = f0 := ⟨_, rfl⟩
  rw [← ef] at w hw
  have hk : Kp ad (isn n) L f0 f := by rw [ef]; exact Kp.rf
  obtain ⟨H, eH⟩ : ∃ z, z = s.heap := ⟨_, rfl⟩
  obtain ⟨locs, el⟩ : ∃ z : List Loc, z = [] := ⟨_, rfl⟩
  rw [← eH, ← el] at w ⊢
  refine lv_iload_n hx hb dX7_in_0 rfl (lv_at hl 0 rfl) ?_
  refine lv_iload_n hx hb dX7_in_1 rfl (lv_at hl 1 rfl) ?_
  refine lv_icmp_lt (tgt := 14) hx hb dX7_in_2 (by decide) (fun c1 => ?_) (fun c1 => ?_)
  · have h := bb_t h c1
    refine lv_iconst (v := 0) hx hb dX7_in_14 (by decide) ?_
    cases h
    exact t_zret C hr hlk w (by decide) ⟨_, rfl, rfl, hw, hn, hk⟩ (by decide) (by decide) dX7_in_15
  · have h := bb_f h c1
    refine lv_iload_n hx hb dX7_in_5 rfl (lv_at hl 0 rfl) ?_
    refine lv_iload_n hx hb dX7_in_6 rfl (lv_at hl 2 rfl) ?_
    refine lv_icmp_gt (tgt := 14) hx hb dX7_in_7 (by decide) (fun c2 => ?_) (fun c2 => ?_)
    · have h := bb_t h c2
      refine lv_iconst (v := 0) hx hb dX7_in_14 (by decide) ?_
      cases h
      exact t_zret C hr hlk w (by decide) ⟨_, rfl, rfl, hw, hn, hk⟩ (by decide) (by decide) dX7_in_15
    · have h := bb_f h c2
      refine lv_iconst (v := 1) hx hb dX7_in_10 (by decide) ?_
      refine lv_goto (tgt := 15) hx hb dX7_in_11 (by decide) ?_
      cases h
      exact t_zret C hr hlk w (by decide) ⟨_, rfl, rfl, hw, hn, hk⟩ (by decide) (by decide) dX7_in_15
theorem dX7_isCell_0 : decode cX7_isCell 0 = .ok (.iload_n 0, 1) := by decide +kernel
theorem dX7_isCell_1 : decode cX7_isCell 1 = .ok (.iconst 0, 1) := by decide +kernel
theorem dX7_isCell_2 : decode cX7_isCell 2 = .ok (.bipush 63, 2) := by decide +kernel
theorem dX7_isCell_4 : decode cX7_isCell 4 = .ok (.invokestatic 100, 3) := by decide +kernel
theorem dX7_isCell_7 : decode cX7_isCell 7 = .ok (.ireturn, 1) := by decide +kernel
def F_X7_isCell (p0 : Int32) (S0 : fS) : Option (Int32 × fS) := bd (F_X7_in p0 0 63 S0) (fun v1 S2 => gd (v1 = 0 ∨ v1 = 1) (some (v1, S2)))
set_option maxHeartbeats 4000000 in
set_option maxRecDepth 100000 in
theorem c_X7_isCell (l : Launch) (D : va_G) (K : Nat → ClassId) (b0 : Nat) (sa : Nat × Nat × Nat) (sz : Nat) (L : List Nat) (f0 : Nat → va_E) (ad : Nat → Nat → Nat) (n : Nat × Nat) (S0 : fS) (hw : PW K ad (isn n) S0 L f0) (hn : S0.2.2.1 = n) (p0 : Int32) (v : Int32) (S1 : fS) (h : F_X7_isCell p0 S0 = some (v, S1)) : Met l yX7_isCell (.code yX7_isCell cX7_isCell 1 (some .boolean) :: gt) { frames := 1, cells := 0, slots := 0, locals := 22 } (va_Pc [.int p0] (hPre D K b0 sa sz L f0)) (hQ D K b0 (fun v9 u9 => ∃ f2 : Nat → va_E, v9 = some (.int v) ∧ u9 = lU L f2 ∧ PW K ad (isn n) S1 L f2 ∧ S1.2.2.1 = n ∧ Kp ad (isn n) L f0 f2)) 0 0 (fun q => b0 ≤ q) := by
  refine t_of (own := RX7) (by decide) rfl ?_ (Nat.le_of_ble_eq_true rfl)
  intro p e s m below meth c ls C w hsz hr hlk hnm hl
  have hx := C.1
  have hb := C.2.1
  have hl : lv_has ls 1 [(0, .int p0)] := hl
  have hk : Kp ad (isn n) L f0 f0 := Kp.rf
  dsimp only [F_X7_isCell] at h
  obtain ⟨f, ef⟩ : ∃ z, z = f0 := ⟨_, rfl⟩
  rw [← ef] at w hw
  have hk : Kp ad (isn n) L f0 f := by rw [ef]; exact Kp.rf
  obtain ⟨H, eH⟩ : ∃ z, z = s.heap := ⟨_, rfl⟩
  obtain ⟨locs, el⟩ : ∃ z : List Loc, z = [] := ⟨_, rfl⟩
  rw [← eH, ← el] at w ⊢
  refine lv_iload_n hx hb dX7_isCell_0 rfl (lv_at hl 0 rfl) ?_
  refine lv_iconst (v := 0) hx hb dX7_isCell_1 (by decide) ?_
  refine lv_bipush (v := 63) hx hb dX7_isCell_2 (by decide) ?_
  obtain ⟨v1, S2, h3, h⟩ := bd_some h
  refine t_callS (n := 3) C w (c_X7_in l D K b0 sa _ L _ ad n S0 hw hn p0 0 63 v1 S2 h3) gw_1339 gw_1337 gw_1338 gw_8 ⟨by decide, by decide, by decide +kernel⟩ rfl rfl ⟨by decide, by decide⟩ rfl hl.1 rfl (Nat.le_of_ble_eq_true rfl) dX7_isCell_4 ⟨by decide, by decide⟩ (fun v9 u H locs hp w => ?_)
  obtain ⟨f2, rfl, rfl, hw, hn, hk1⟩ := hp
  have hk := hk.tr hk1
  generalize f2 = f at w hw hk
  obtain ⟨g4, h⟩ := gd_some h
  cases h
  exact t_zret C hr hlk w (narb g4) ⟨_, rfl, rfl, hw, hn, hk⟩ (by decide) (by decide) dX7_isCell_7
theorem dX7_bad_0 : decode cX7_bad 0 = .ok (.iload_n 1, 1) := by decide +kernel
theorem dX7_bad_1 : decode cX7_bad 1 = .ok (.ifCond .eq 15, 3) := by decide +kernel
theorem dX7_bad_4 : decode cX7_bad 4 = .ok (.aload_n 0, 1) := by decide +kernel
theorem dX7_bad_5 : decode cX7_bad 5 = .ok (.getfield 97, 3) := by decide +kernel
theorem dX7_bad_8 : decode cX7_bad 8 = .ok (.ifCond .ne 8, 3) := by decide +kernel
theorem dX7_bad_11 : decode cX7_bad 11 = .ok (.aload_n 0, 1) := by decide +kernel
theorem dX7_bad_12 : decode cX7_bad 12 = .ok (.iload_n 2, 1) := by decide +kernel
theorem dX7_bad_13 : decode cX7_bad 13 = .ok (.putfield 97, 3) := by decide +kernel
theorem dX7_bad_16 : decode cX7_bad 16 = .ok (.aload_n 0, 1) := by decide +kernel
theorem dX7_bad_17 : decode cX7_bad 17 = .ok (.getfield 97, 3) := by decide +kernel
theorem dX7_bad_20 : decode cX7_bad 20 = .ok (.ifCond .eq 7, 3) := by decide +kernel
theorem dX7_bad_23 : decode cX7_bad 23 = .ok (.iconst 1, 1) := by decide +kernel
theorem dX7_bad_24 : decode cX7_bad 24 = .ok (.goto 4, 3) := by decide +kernel
theorem dX7_bad_27 : decode cX7_bad 27 = .ok (.iconst 0, 1) := by decide +kernel
theorem dX7_bad_28 : decode cX7_bad 28 = .ok (.ireturn, 1) := by decide +kernel
def B_X7_bad_16 (S : fS) : Option (Int32 × fS) := iv (ge S 40 0 0) (fun x1 => bb (x1 = (0 : Int32)) (some (0, S)) (some (1, S)))
def F_X7_bad (p1 : Int32) (p2 : Int32) (S0 : fS) : Option (Int32 × fS) := bb (p1 = (0 : Int32)) (B_X7_bad_16   S0) (iv (ge S0 40 0 0) (fun x4 => bb (x4 = (0 : Int32)) (sv (pu S0 40 0 0 p2) (fun S6 => B_X7_bad_16   S6)) (B_X7_bad_16   S0)))
set_option maxHeartbeats 4000000 in
set_option maxRecDepth 100000 in
theorem c_X7_bad (l : Launch) (D : va_G) (K : Nat → ClassId) (b0 : Nat) (sa : Nat × Nat × Nat) (sz : Nat) (L : List Nat) (f0 : Nat → va_E) (ad : Nat → Nat → Nat) (n : Nat × Nat) (S0 : fS) (hw : PW K ad (isn n) S0 L f0) (hn : S0.2.2.1 = n) (p1 : Int32) (p2 : Int32) (v : Int32) (S1 : fS) (h : F_X7_bad p1 p2 S0 = some (v, S1)) : Met l yX7_bad (.code yX7_bad cX7_bad 3 (some .boolean) :: gt) { frames := 0, cells := 0, slots := 0, locals := 0 } (va_Pc [.ref (ad 40 0), .int p1, .int p2] (hPre D K b0 sa sz L f0)) (hQ D K b0 (fun v9 u9 => ∃ f2 : Nat → va_E, v9 = some (.int v) ∧ u9 = lU L f2 ∧ PW K ad (isn n) S1 L f2 ∧ S1.2.2.1 = n ∧ Kp ad (isn n) L f0 f2)) 0 0 (fun q => b0 ≤ q) := by
  refine t_of (own := RX7) (by decide) rfl ?_ (Nat.le_of_ble_eq_true rfl)
  intro p e s m below meth c ls C w hsz hr hlk hnm hl
  have hx := C.1
  have hb := C.2.1
  have hl : lv_has ls 3 [(0, .ref (ad 40 0)), (1, .int p1), (2, .int p2)] := hl
  have hk : Kp ad (isn n) L f0 f0 := Kp.rf
  have J16 : ∀ (S : fS), B_X7_bad_16   S = some (v, S1) → Gw D K b0 sa ad n L f0 p l e { frames := 0, cells := 0, slots := 0, locals := 0 } s m [.ref (ad 40 0), .int p1, .int p2].toArray below meth c 3 (MQ below (hQ D K b0 (fun v9 u9 => ∃ f2 : Nat → va_E, v9 = some (.int v) ∧ u9 = lU L f2 ∧ PW K ad (isn n) S1 L f2 ∧ S1.2.2.1 = n ∧ Kp ad (isn n) L f0 f2)) [.ref (ad 40 0), .int p1, .int p2].toArray s 0 0 (fun q => b0 ≤ q)) 0 0 16 [(0, .ref (ad 40 0))] [] S := by
    intro S h
    dsimp only [B_X7_bad_16] at h
    intro f H locs w hw hn hk ls hl
    refine lv_aload_n hx hb dX7_bad_16 rfl (lv_at hl 0 rfl) ?_
    refine u_geti C w hw (isn_f rfl rfl (by decide)) rfl (N := 57) rfl rfl cin_7 0 (by decide) rfl gw_1156 dX7_bad_17 ?_
    refine u_iv h (fun x1 h => ?_)
    refine lv_if_eq (tgt := 27) hx hb dX7_bad_20 (by decide) (fun c2 => ?_) (fun c2 => ?_)
    · have h := bb_t h c2
      refine lv_iconst (v := 0) hx hb dX7_bad_27 (by decide) ?_
      cases h
      exact t_zret C hr hlk w (by decide) ⟨_, rfl, rfl, hw, hn, hk⟩ (by decide) (by decide) dX7_bad_28
    · have h := bb_f h c2
      refine lv_iconst (v := 1) hx hb dX7_bad_23 (by decide) ?_
      refine lv_goto (tgt := 28) hx hb dX7_bad_24 (by decide) ?_
      cases h
      exact t_zret C hr hlk w (by decide) ⟨_, rfl, rfl, hw, hn, hk⟩ (by decide) (by decide) dX7_bad_28
  dsimp only [F_X7_bad] at h
  obtain ⟨f, ef⟩ : ∃ z, z = f0 := ⟨_, rfl⟩
  rw [← ef] at w hw
  have hk : Kp ad (isn n) L f0 f := by rw [ef]; exact Kp.rf
  obtain ⟨H, eH⟩ : ∃ z, z = s.heap := ⟨_, rfl⟩
  obtain ⟨locs, el⟩ : ∃ z : List Loc, z = [] := ⟨_, rfl⟩
  rw [← eH, ← el] at w ⊢
  refine lv_iload_n hx hb dX7_bad_0 rfl (lv_at hl 1 rfl) ?_
  refine lv_if_eq (tgt := 16) hx hb dX7_bad_1 (by decide) (fun c3 => ?_) (fun c3 => ?_)
  · have h := bb_t h c3
    exact J16   S0 h f H locs w hw hn hk ls (lv_sub hl [0] rfl)
  · have h := bb_f h c3
    refine lv_aload_n hx hb dX7_bad_4 rfl (lv_at hl 0 rfl) ?_
    refine u_geti C w hw (isn_f rfl rfl (by decide)) rfl (N := 57) rfl rfl cin_7 0 (by decide) rfl gw_1156 dX7_bad_5 ?_
    refine u_iv h (fun x4 h => ?_)
    refine lv_if_ne (tgt := 16) hx hb dX7_bad_8 (by decide) (fun c5 => ?_) (fun c5 => ?_)
    · have h := bb_f h c5
      exact J16   S0 h f H locs w hw hn hk ls (lv_sub hl [0] rfl)
    · have h := bb_t h c5
      refine lv_aload_n hx hb dX7_bad_11 rfl (lv_at hl 0 rfl) ?_
      refine lv_iload_n hx hb dX7_bad_12 rfl (lv_at hl 2 rfl) ?_
      refine u_puti C w hw (isn_f rfl rfl (by decide)) rfl (N := 57) rfl rfl cin_7 tyX7 tyX7_ok nmX7 0 (by decide) rfl rfl rfl rfl gw_1156 dX7_bad_13 (fun f H locs w hw hk1 => ?_)
      have hk := hk.tr hk1
      refine u_sv h hw hn (fun S6 h hw hn => ?_)
      exact J16   S6 h f H locs w hw hn hk ls (lv_sub hl [0] rfl)
theorem dX7_within_0 : decode cX7_within 0 = .ok (.iload_n 0, 1) := by decide +kernel
theorem dX7_within_1 : decode cX7_within 1 = .ok (.iload_n 1, 1) := by decide +kernel
theorem dX7_within_2 : decode cX7_within 2 = .ok (.if_icmp .ge 7, 3) := by decide +kernel
theorem dX7_within_5 : decode cX7_within 5 = .ok (.iload_n 1, 1) := by decide +kernel
theorem dX7_within_6 : decode cX7_within 6 = .ok (.goto 13, 3) := by decide +kernel
theorem dX7_within_9 : decode cX7_within 9 = .ok (.iload_n 0, 1) := by decide +kernel
theorem dX7_within_10 : decode cX7_within 10 = .ok (.iload_n 2, 1) := by decide +kernel
theorem dX7_within_11 : decode cX7_within 11 = .ok (.if_icmp .le 7, 3) := by decide +kernel
theorem dX7_within_14 : decode cX7_within 14 = .ok (.iload_n 2, 1) := by decide +kernel
theorem dX7_within_15 : decode cX7_within 15 = .ok (.goto 4, 3) := by decide +kernel
theorem dX7_within_18 : decode cX7_within 18 = .ok (.iload_n 0, 1) := by decide +kernel
theorem dX7_within_19 : decode cX7_within 19 = .ok (.ireturn, 1) := by decide +kernel
def F_X7_within (p0 : Int32) (p1 : Int32) (p2 : Int32) (S0 : fS) : Option (Int32 × fS) := bb (p1 ≤ p0) (bb (p0 ≤ p2) (some (p0, S0)) (some (p2, S0))) (some (p1, S0))
set_option maxHeartbeats 4000000 in
set_option maxRecDepth 100000 in
theorem c_X7_within (l : Launch) (D : va_G) (K : Nat → ClassId) (b0 : Nat) (sa : Nat × Nat × Nat) (sz : Nat) (L : List Nat) (f0 : Nat → va_E) (ad : Nat → Nat → Nat) (n : Nat × Nat) (S0 : fS) (hw : PW K ad (isn n) S0 L f0) (hn : S0.2.2.1 = n) (p0 : Int32) (p1 : Int32) (p2 : Int32) (v : Int32) (S1 : fS) (h : F_X7_within p0 p1 p2 S0 = some (v, S1)) : Met l yX7_within (.code yX7_within cX7_within 3 (some .int) :: gt) { frames := 0, cells := 0, slots := 0, locals := 0 } (va_Pc [.int p0, .int p1, .int p2] (hPre D K b0 sa sz L f0)) (hQ D K b0 (fun v9 u9 => ∃ f2 : Nat → va_E, v9 = some (.int v) ∧ u9 = lU L f2 ∧ PW K ad (isn n) S1 L f2 ∧ S1.2.2.1 = n ∧ Kp ad (isn n) L f0 f2)) 0 0 (fun q => b0 ≤ q) := by
  refine t_of (own := RX7) (by decide) rfl ?_ (Nat.le_of_ble_eq_true rfl)
  intro p e s m below meth c ls C w hsz hr hlk hnm hl
  have hx := C.1
  have hb := C.2.1
  have hl : lv_has ls 3 [(0, .int p0), (1, .int p1), (2, .int p2)] := hl
  have hk : Kp ad (isn n) L f0 f0 := Kp.rf
  dsimp only [F_X7_within] at h
  obtain ⟨f, ef⟩ : ∃ z, z = f0 := ⟨_, rfl⟩
  rw [← ef] at w hw
  have hk : Kp ad (isn n) L f0 f := by rw [ef]; exact Kp.rf
  obtain ⟨H, eH⟩ : ∃ z, z = s.heap := ⟨_, rfl⟩
  obtain ⟨locs, el⟩ : ∃ z : List Loc, z = [] := ⟨_, rfl⟩
  rw [← eH, ← el] at w ⊢
  refine lv_iload_n hx hb dX7_within_0 rfl (lv_at hl 0 rfl) ?_
  refine lv_iload_n hx hb dX7_within_1 rfl (lv_at hl 1 rfl) ?_
  refine lv_icmp_ge (tgt := 9) hx hb dX7_within_2 (by decide) (fun c1 => ?_) (fun c1 => ?_)
  · have h := bb_t h c1
    refine lv_iload_n hx hb dX7_within_9 rfl (lv_at hl 0 rfl) ?_
    refine lv_iload_n hx hb dX7_within_10 rfl (lv_at hl 2 rfl) ?_
    refine lv_icmp_le (tgt := 18) hx hb dX7_within_11 (by decide) (fun c2 => ?_) (fun c2 => ?_)
    · have h := bb_t h c2
      refine lv_iload_n hx hb dX7_within_18 rfl (lv_at hl 0 rfl) ?_
      cases h
      exact t_iret C hr hlk w ⟨_, rfl, rfl, hw, hn, hk⟩ (by decide) (by decide) dX7_within_19
    · have h := bb_f h c2
      refine lv_iload_n hx hb dX7_within_14 rfl (lv_at hl 2 rfl) ?_
      refine lv_goto (tgt := 19) hx hb dX7_within_15 (by decide) ?_
      cases h
      exact t_iret C hr hlk w ⟨_, rfl, rfl, hw, hn, hk⟩ (by decide) (by decide) dX7_within_19
  · have h := bb_f h c1
    refine lv_iload_n hx hb dX7_within_5 rfl (lv_at hl 1 rfl) ?_
    refine lv_goto (tgt := 19) hx hb dX7_within_6 (by decide) ?_
    cases h
    exact t_iret C hr hlk w ⟨_, rfl, rfl, hw, hn, hk⟩ (by decide) (by decide) dX7_within_19
theorem dX7_apart_0 : decode cX7_apart 0 = .ok (.iload_n 0, 1) := by decide +kernel
theorem dX7_apart_1 : decode cX7_apart 1 = .ok (.iload_n 1, 1) := by decide +kernel
theorem dX7_apart_2 : decode cX7_apart 2 = .ok (.if_icmp .ge 9, 3) := by decide +kernel
theorem dX7_apart_5 : decode cX7_apart 5 = .ok (.iload_n 1, 1) := by decide +kernel
theorem dX7_apart_6 : decode cX7_apart 6 = .ok (.iload_n 0, 1) := by decide +kernel
theorem dX7_apart_7 : decode cX7_apart 7 = .ok (.isub, 1) := by decide +kernel
theorem dX7_apart_8 : decode cX7_apart 8 = .ok (.goto 6, 3) := by decide +kernel
theorem dX7_apart_11 : decode cX7_apart 11 = .ok (.iload_n 0, 1) := by decide +kernel
theorem dX7_apart_12 : decode cX7_apart 12 = .ok (.iload_n 1, 1) := by decide +kernel
theorem dX7_apart_13 : decode cX7_apart 13 = .ok (.isub, 1) := by decide +kernel
theorem dX7_apart_14 : decode cX7_apart 14 = .ok (.ireturn, 1) := by decide +kernel
def F_X7_apart (p0 : Int32) (p1 : Int32) (S0 : fS) : Option (Int32 × fS) := bb (p1 ≤ p0) (iv (p0 - p1) (fun x2 => some (x2, S0))) (iv (p1 - p0) (fun x3 => some (x3, S0)))
set_option maxHeartbeats 4000000 in
set_option maxRecDepth 100000 in
theorem c_X7_apart (l : Launch) (D : va_G) (K : Nat → ClassId) (b0 : Nat) (sa : Nat × Nat × Nat) (sz : Nat) (L : List Nat) (f0 : Nat → va_E) (ad : Nat → Nat → Nat) (n : Nat × Nat) (S0 : fS) (hw : PW K ad (isn n) S0 L f0) (hn : S0.2.2.1 = n) (p0 : Int32) (p1 : Int32) (v : Int32) (S1 : fS) (h : F_X7_apart p0 p1 S0 = some (v, S1)) : Met l yX7_apart (.code yX7_apart cX7_apart 2 (some .int) :: gt) { frames := 0, cells := 0, slots := 0, locals := 0 } (va_Pc [.int p0, .int p1] (hPre D K b0 sa sz L f0)) (hQ D K b0 (fun v9 u9 => ∃ f2 : Nat → va_E, v9 = some (.int v) ∧ u9 = lU L f2 ∧ PW K ad (isn n) S1 L f2 ∧ S1.2.2.1 = n ∧ Kp ad (isn n) L f0 f2)) 0 0 (fun q => b0 ≤ q) := by
  refine t_of (own := RX7) (by decide) rfl ?_ (Nat.le_of_ble_eq_true rfl)
  intro p e s m below meth c ls C w hsz hr hlk hnm hl
  have hx := C.1
  have hb := C.2.1
  have hl : lv_has ls 2 [(0, .int p0), (1, .int p1)] := hl
  have hk : Kp ad (isn n) L f0 f0 := Kp.rf
  dsimp only [F_X7_apart] at h
  obtain ⟨f, ef⟩ : ∃ z, z = f0 := ⟨_, rfl⟩
  rw [← ef] at w hw
  have hk : Kp ad (isn n) L f0 f := by rw [ef]; exact Kp.rf
  obtain ⟨H, eH⟩ : ∃ z, z = s.heap := ⟨_, rfl⟩
  obtain ⟨locs, el⟩ : ∃ z : List Loc, z = [] := ⟨_, rfl⟩
  rw [← eH, ← el] at w ⊢
  refine lv_iload_n hx hb dX7_apart_0 rfl (lv_at hl 0 rfl) ?_
  refine lv_iload_n hx hb dX7_apart_1 rfl (lv_at hl 1 rfl) ?_
  refine lv_icmp_ge (tgt := 11) hx hb dX7_apart_2 (by decide) (fun c1 => ?_) (fun c1 => ?_)
  · have h := bb_t h c1
    refine lv_iload_n hx hb dX7_apart_11 rfl (lv_at hl 0 rfl) ?_
    refine lv_iload_n hx hb dX7_apart_12 rfl (lv_at hl 1 rfl) ?_
    refine lv_isub hx hb dX7_apart_13 ?_
    refine u_iv h (fun x2 h => ?_)
    cases h
    exact t_iret C hr hlk w ⟨_, rfl, rfl, hw, hn, hk⟩ (by decide) (by decide) dX7_apart_14
  · have h := bb_f h c1
    refine lv_iload_n hx hb dX7_apart_5 rfl (lv_at hl 1 rfl) ?_
    refine lv_iload_n hx hb dX7_apart_6 rfl (lv_at hl 0 rfl) ?_
    refine lv_isub hx hb dX7_apart_7 ?_
    refine u_iv h (fun x3 h => ?_)
    refine lv_goto (tgt := 14) hx hb dX7_apart_8 (by decide) ?_
    cases h
    exact t_iret C hr hlk w ⟨_, rfl, rfl, hw, hn, hk⟩ (by decide) (by decide) dX7_apart_14
theorem dX7_puts_0 : decode cX7_puts 0 = .ok (.aload_n 0, 1) := by decide +kernel
theorem dX7_puts_1 : decode cX7_puts 1 = .ok (.getfield 52, 3) := by decide +kernel
theorem dX7_puts_4 : decode cX7_puts 4 = .ok (.iload_n 2, 1) := by decide +kernel
theorem dX7_puts_5 : decode cX7_puts 5 = .ok (.aaload, 1) := by decide +kernel
theorem dX7_puts_6 : decode cX7_puts 6 = .ok (.aload_n 0, 1) := by decide +kernel
theorem dX7_puts_7 : decode cX7_puts 7 = .ok (.getfield 55, 3) := by decide +kernel
theorem dX7_puts_10 : decode cX7_puts 10 = .ok (.iload_n 2, 1) := by decide +kernel
theorem dX7_puts_11 : decode cX7_puts 11 = .ok (.iaload, 1) := by decide +kernel
theorem dX7_puts_12 : decode cX7_puts 12 = .ok (.iload_n 1, 1) := by decide +kernel
theorem dX7_puts_13 : decode cX7_puts 13 = .ok (.iastore, 1) := by decide +kernel
theorem dX7_puts_14 : decode cX7_puts 14 = .ok (.aload_n 0, 1) := by decide +kernel
theorem dX7_puts_15 : decode cX7_puts 15 = .ok (.getfield 55, 3) := by decide +kernel
theorem dX7_puts_18 : decode cX7_puts 18 = .ok (.iload_n 2, 1) := by decide +kernel
theorem dX7_puts_19 : decode cX7_puts 19 = .ok (.dup2, 1) := by decide +kernel
theorem dX7_puts_20 : decode cX7_puts 20 = .ok (.iaload, 1) := by decide +kernel
theorem dX7_puts_21 : decode cX7_puts 21 = .ok (.iconst 1, 1) := by decide +kernel
theorem dX7_puts_22 : decode cX7_puts 22 = .ok (.iadd, 1) := by decide +kernel
theorem dX7_puts_23 : decode cX7_puts 23 = .ok (.iastore, 1) := by decide +kernel
theorem dX7_puts_24 : decode cX7_puts 24 = .ok (.aload_n 0, 1) := by decide +kernel
theorem dX7_puts_25 : decode cX7_puts 25 = .ok (.getfield 45, 3) := by decide +kernel
theorem dX7_puts_28 : decode cX7_puts 28 = .ok (.iload_n 1, 1) := by decide +kernel
theorem dX7_puts_29 : decode cX7_puts 29 = .ok (.iload_n 2, 1) := by decide +kernel
theorem dX7_puts_30 : decode cX7_puts 30 = .ok (.iastore, 1) := by decide +kernel
theorem dX7_puts_31 : decode cX7_puts 31 = .ok (.return_, 1) := by decide +kernel
def F_X7_puts (p1 : Int32) (p2 : Int32) (S0 : fS) : Option (Int32 × fS) := gd (ib p2 64) (gd (ib p2 64) (iv (ge S0 54 0 (p2 : Int32).toNatClampNeg) (fun x3 => gd (ib x3 24) (sv (pu S0 53 (p2.toNatClampNeg) (x3 : Int32).toNatClampNeg p1) (fun S5 => gd (ib p2 64) (iv (ge S5 54 0 (p2 : Int32).toNatClampNeg) (fun x7 => iv (x7 + (1 : Int32)) (fun x8 => gd (ib p2 64) (sv (pu S5 54 0 (p2 : Int32).toNatClampNeg x8) (fun S10 => gd (ib p1 24) (sv (pu S10 50 0 (p1 : Int32).toNatClampNeg p2) (fun S12 => some (0, S12)))))))))))))
set_option maxHeartbeats 4000000 in
set_option maxRecDepth 100000 in
theorem c_X7_puts (l : Launch) (D : va_G) (K : Nat → ClassId) (b0 : Nat) (sa : Nat × Nat × Nat) (sz : Nat) (L : List Nat) (f0 : Nat → va_E) (ad : Nat → Nat → Nat) (n : Nat × Nat) (S0 : fS) (hw : PW K ad (isn n) S0 L f0) (hn : S0.2.2.1 = n) (p1 : Int32) (p2 : Int32) (v : Int32) (S1 : fS) (h : F_X7_puts p1 p2 S0 = some (v, S1)) : Met l yX7_puts (.code yX7_puts cX7_puts 3 none :: gt) { frames := 0, cells := 0, slots := 0, locals := 0 } (va_Pc [.ref (ad 40 0), .int p1, .int p2] (hPre D K b0 sa sz L f0)) (hQ D K b0 (fun v9 u9 => ∃ f2 : Nat → va_E, v9 = none ∧ u9 = lU L f2 ∧ PW K ad (isn n) S1 L f2 ∧ S1.2.2.1 = n ∧ Kp ad (isn n) L f0 f2)) 0 0 (fun q => b0 ≤ q) := by
  refine t_of (own := RX7) (by decide) rfl ?_ (Nat.le_of_ble_eq_true rfl)
  intro p e s m below meth c ls C w hsz hr hlk hnm hl
  have hx := C.1
  have hb := C.2.1
  have hl : lv_has ls 3 [(0, .ref (ad 40 0)), (1, .int p1), (2, .int p2)] := hl
  have hk : Kp ad (isn n) L f0 f0 := Kp.rf
  dsimp only [F_X7_puts] at h
  obtain ⟨f, ef⟩ : ∃ z, z = f0 := ⟨_, rfl⟩
  rw [← ef] at w hw
  have hk : Kp ad (isn n) L f0 f := by rw [ef]; exact Kp.rf
  obtain ⟨H, eH⟩ : ∃ z, z = s.heap := ⟨_, rfl⟩
  obtain ⟨locs, el⟩ : ∃ z : List Loc, z = [] := ⟨_, rfl⟩
  rw [← eH, ← el] at w ⊢
  refine lv_aload_n hx hb dX7_puts_0 rfl (lv_at hl 0 rfl) ?_
  refine u_getr C w hw (isn_f rfl rfl (by decide)) rfl (N := 57) rfl rfl cin_7 28 (by decide) (by decide) (a2 := 52) (i2 := 0) rfl gw_1184 dX7_puts_1 ?_
  refine lv_iload_n hx hb dX7_puts_4 rfl (lv_at hl 2 rfl) ?_
  obtain ⟨g1, h⟩ := gd_some h
  refine u_aald C w hw (isn_f rfl rfl (by decide)) rfl rfl rfl (n := 64) rfl (vp_in_iff.mpr g1) (a2 := 53) (i2 := (p2.toNatClampNeg)) (by exact congrArg (Prod.mk _) (Nat.zero_add _)) dX7_puts_5 ?_
  refine lv_aload_n hx hb dX7_puts_6 rfl (lv_at hl 0 rfl) ?_
  refine u_getr C w hw (isn_f rfl rfl (by decide)) rfl (N := 57) rfl rfl cin_7 29 (by decide) (by decide) (a2 := 54) (i2 := 0) rfl gw_1185 dX7_puts_7 ?_
  refine lv_iload_n hx hb dX7_puts_10 rfl (lv_at hl 2 rfl) ?_
  obtain ⟨g2, h⟩ := gd_some h
  refine u_iald C w hw (isn_f rfl rfl (by decide)) rfl rfl (n := 64) rfl (vp_in_iff.mpr g2) dX7_puts_11 ?_
  refine u_iv h (fun x3 h => ?_)
  refine lv_iload_n hx hb dX7_puts_12 rfl (lv_at hl 1 rfl) ?_
  obtain ⟨g4, h⟩ := gd_some h
  refine u_iast C w hw (isn_f rfl rfl (ib_lt g1)) rfl rfl (n := 24) rfl (vp_in_iff.mpr g4) dX7_puts_13 (fun f H locs w hw hk1 => ?_)
  have hk := hk.tr hk1
  refine u_sv h hw hn (fun S5 h hw hn => ?_)
  refine lv_aload_n hx hb dX7_puts_14 rfl (lv_at hl 0 rfl) ?_
  refine u_getr C w hw (isn_f rfl rfl (by decide)) rfl (N := 57) rfl rfl cin_7 29 (by decide) (by decide) (a2 := 54) (i2 := 0) rfl gw_1185 dX7_puts_15 ?_
  refine lv_iload_n hx hb dX7_puts_18 rfl (lv_at hl 2 rfl) ?_
  refine lv_dup2_11 hx hb dX7_puts_19 rfl rfl ?_
  obtain ⟨g6, h⟩ := gd_some h
  refine u_iald C w hw (isn_f rfl rfl (by decide)) rfl rfl (n := 64) rfl (vp_in_iff.mpr g6) dX7_puts_20 ?_
  refine u_iv h (fun x7 h => ?_)
  refine lv_iconst (v := 1) hx hb dX7_puts_21 (by decide) ?_
  refine lv_iadd hx hb dX7_puts_22 ?_
  refine u_iv h (fun x8 h => ?_)
  obtain ⟨g9, h⟩ := gd_some h
  refine u_iast C w hw (isn_f rfl rfl (by decide)) rfl rfl (n := 64) rfl (vp_in_iff.mpr g9) dX7_puts_23 (fun f H locs w hw hk1 => ?_)
  have hk := hk.tr hk1
  refine u_sv h hw hn (fun S10 h hw hn => ?_)
  refine lv_aload_n hx hb dX7_puts_24 rfl (lv_at hl 0 rfl) ?_
  refine u_getr C w hw (isn_f rfl rfl (by decide)) rfl (N := 57) rfl rfl cin_7 26 (by decide) (by decide) (a2 := 50) (i2 := 0) rfl gw_1182 dX7_puts_25 ?_
  refine lv_iload_n hx hb dX7_puts_28 rfl (lv_at hl 1 rfl) ?_
  refine lv_iload_n hx hb dX7_puts_29 rfl (lv_at hl 2 rfl) ?_
  obtain ⟨g11, h⟩ := gd_some h
  refine u_iast C w hw (isn_f rfl rfl (by decide)) rfl rfl (n := 24) rfl (vp_in_iff.mpr g11) dX7_puts_30 (fun f H locs w hw hk1 => ?_)
  have hk := hk.tr hk1
  refine u_sv h hw hn (fun S12 h hw hn => ?_)
  cases h
  exact t_vret C hr hlk w ⟨_, rfl, rfl, hw, hn, hk⟩ (by decide) (by decide) dX7_puts_31
theorem dX7_topOf_0 : decode cX7_topOf 0 = .ok (.aload_n 0, 1) := by decide +kernel
theorem dX7_topOf_1 : decode cX7_topOf 1 = .ok (.getfield 55, 3) := by decide +kernel
theorem dX7_topOf_4 : decode cX7_topOf 4 = .ok (.iload_n 1, 1) := by decide +kernel
theorem dX7_topOf_5 : decode cX7_topOf 5 = .ok (.iaload, 1) := by decide +kernel
theorem dX7_topOf_6 : decode cX7_topOf 6 = .ok (.ifCond .ne 7, 3) := by decide +kernel
theorem dX7_topOf_9 : decode cX7_topOf 9 = .ok (.iconst (-1), 1) := by decide +kernel
theorem dX7_topOf_10 : decode cX7_topOf 10 = .ok (.goto 18, 3) := by decide +kernel
theorem dX7_topOf_13 : decode cX7_topOf 13 = .ok (.aload_n 0, 1) := by decide +kernel
theorem dX7_topOf_14 : decode cX7_topOf 14 = .ok (.getfield 52, 3) := by decide +kernel
theorem dX7_topOf_17 : decode cX7_topOf 17 = .ok (.iload_n 1, 1) := by decide +kernel
theorem dX7_topOf_18 : decode cX7_topOf 18 = .ok (.aaload, 1) := by decide +kernel
theorem dX7_topOf_19 : decode cX7_topOf 19 = .ok (.aload_n 0, 1) := by decide +kernel
theorem dX7_topOf_20 : decode cX7_topOf 20 = .ok (.getfield 55, 3) := by decide +kernel
theorem dX7_topOf_23 : decode cX7_topOf 23 = .ok (.iload_n 1, 1) := by decide +kernel
theorem dX7_topOf_24 : decode cX7_topOf 24 = .ok (.iaload, 1) := by decide +kernel
theorem dX7_topOf_25 : decode cX7_topOf 25 = .ok (.iconst 1, 1) := by decide +kernel
theorem dX7_topOf_26 : decode cX7_topOf 26 = .ok (.isub, 1) := by decide +kernel
theorem dX7_topOf_27 : decode cX7_topOf 27 = .ok (.iaload, 1) := by decide +kernel
theorem dX7_topOf_28 : decode cX7_topOf 28 = .ok (.ireturn, 1) := by decide +kernel
def F_X7_topOf (p1 : Int32) (S0 : fS) : Option (Int32 × fS) := gd (ib p1 64) (iv (ge S0 54 0 (p1 : Int32).toNatClampNeg) (fun x2 => bb (x2 = (0 : Int32)) (some ((-1), S0)) (gd (ib p1 64) (gd (ib p1 64) (iv (ge S0 54 0 (p1 : Int32).toNatClampNeg) (fun x6 => iv (x6 - (1 : Int32)) (fun x7 => gd (ib x7 24) (iv (ge S0 53 (p1.toNatClampNeg) (x7 : Int32).toNatClampNeg) (fun x9 => some (x9, S0))))))))))
set_option maxHeartbeats 4000000 in
set_option maxRecDepth 100000 in
theorem c_X7_topOf (l : Launch) (D : va_G) (K : Nat → ClassId) (b0 : Nat) (sa : Nat × Nat × Nat) (sz : Nat) (L : List Nat) (f0 : Nat → va_E) (ad : Nat → Nat → Nat) (n : Nat × Nat) (S0 : fS) (hw : PW K ad (isn n) S0 L f0) (hn : S0.2.2.1 = n) (p1 : Int32) (v : Int32) (S1 : fS) (h : F_X7_topOf p1 S0 = some (v, S1)) : Met l yX7_topOf (.code yX7_topOf cX7_topOf 2 (some .int) :: gt) { frames := 0, cells := 0, slots := 0, locals := 0 } (va_Pc [.ref (ad 40 0), .int p1] (hPre D K b0 sa sz L f0)) (hQ D K b0 (fun v9 u9 => ∃ f2 : Nat → va_E, v9 = some (.int v) ∧ u9 = lU L f2 ∧ PW K ad (isn n) S1 L f2 ∧ S1.2.2.1 = n ∧ Kp ad (isn n) L f0 f2)) 0 0 (fun q => b0 ≤ q) := by
  refine t_of (own := RX7) (by decide) rfl ?_ (Nat.le_of_ble_eq_true rfl)
  intro p e s m below meth c ls C w hsz hr hlk hnm hl
  have hx := C.1
  have hb := C.2.1
  have hl : lv_has ls 2 [(0, .ref (ad 40 0)), (1, .int p1)] := hl
  have hk : Kp ad (isn n) L f0 f0 := Kp.rf
  dsimp only [F_X7_topOf] at h
  obtain ⟨f, ef⟩ : ∃ z, z = f0 := ⟨_, rfl⟩
  rw [← ef] at w hw
  have hk : Kp ad (isn n) L f0 f := by rw [ef]; exact Kp.rf
  obtain ⟨H, eH⟩ : ∃ z, z = s.heap := ⟨_, rfl⟩
  obtain ⟨locs, el⟩ : ∃ z : List Loc, z = [] := ⟨_, rfl⟩
  rw [← eH, ← el] at w ⊢
  refine lv_aload_n hx hb dX7_topOf_0 rfl (lv_at hl 0 rfl) ?_
  refine u_getr C w hw (isn_f rfl rfl (by decide)) rfl (N := 57) rfl rfl cin_7 29 (by decide) (by decide) (a2 := 54) (i2 := 0) rfl gw_1185 dX7_topOf_1 ?_
  refine lv_iload_n hx hb dX7_topOf_4 rfl (lv_at hl 1 rfl) ?_
  obtain ⟨g1, h⟩ := gd_some h
  refine u_iald C w hw (isn_f rfl rfl (by decide)) rfl rfl (n := 64) rfl (vp_in_iff.mpr g1) dX7_topOf_5 ?_
  refine u_iv h (fun x2 h => ?_)
  refine lv_if_ne (tgt := 13) hx hb dX7_topOf_6 (by decide) (fun c3 => ?_) (fun c3 => ?_)
  · have h := bb_f h c3
    refine lv_aload_n hx hb dX7_topOf_13 rfl (lv_at hl 0 rfl) ?_
    refine u_getr C w hw (isn_f rfl rfl (by decide)) rfl (N := 57) rfl rfl cin_7 28 (by decide) (by decide) (a2 := 52) (i2 := 0) rfl gw_1184 dX7_topOf_14 ?_
    refine lv_iload_n hx hb dX7_topOf_17 rfl (lv_at hl 1 rfl) ?_
    obtain ⟨g4, h⟩ := gd_some h
    refine u_aald C w hw (isn_f rfl rfl (by decide)) rfl rfl rfl (n := 64) rfl (vp_in_iff.mpr g4) (a2 := 53) (i2 := (p1.toNatClampNeg)) (by exact congrArg (Prod.mk _) (Nat.zero_add _)) dX7_topOf_18 ?_
    refine lv_aload_n hx hb dX7_topOf_19 rfl (lv_at hl 0 rfl) ?_
    refine u_getr C w hw (isn_f rfl rfl (by decide)) rfl (N := 57) rfl rfl cin_7 29 (by decide) (by decide) (a2 := 54) (i2 := 0) rfl gw_1185 dX7_topOf_20 ?_
    refine lv_iload_n hx hb dX7_topOf_23 rfl (lv_at hl 1 rfl) ?_
    obtain ⟨g5, h⟩ := gd_some h
    refine u_iald C w hw (isn_f rfl rfl (by decide)) rfl rfl (n := 64) rfl (vp_in_iff.mpr g5) dX7_topOf_24 ?_
    refine u_iv h (fun x6 h => ?_)
    refine lv_iconst (v := 1) hx hb dX7_topOf_25 (by decide) ?_
    refine lv_isub hx hb dX7_topOf_26 ?_
    refine u_iv h (fun x7 h => ?_)
    obtain ⟨g8, h⟩ := gd_some h
    refine u_iald C w hw (isn_f rfl rfl (ib_lt g4)) rfl rfl (n := 24) rfl (vp_in_iff.mpr g8) dX7_topOf_27 ?_
    refine u_iv h (fun x9 h => ?_)
    cases h
    exact t_iret C hr hlk w ⟨_, rfl, rfl, hw, hn, hk⟩ (by decide) (by decide) dX7_topOf_28
  · have h := bb_t h c3
    refine lv_iconst (v := (-1)) hx hb dX7_topOf_9 (by decide) ?_
    refine lv_goto (tgt := 28) hx hb dX7_topOf_10 (by decide) ?_
    cases h
    exact t_iret C hr hlk w ⟨_, rfl, rfl, hw, hn, hk⟩ (by decide) (by decide) dX7_topOf_28
theorem dX7_levelOf_0 : decode cX7_levelOf 0 = .ok (.iconst 0, 1) := by decide +kernel
theorem dX7_levelOf_1 : decode cX7_levelOf 1 = .ok (.istore_n 2, 1) := by decide +kernel
theorem dX7_levelOf_2 : decode cX7_levelOf 2 = .ok (.aload_n 0, 1) := by decide +kernel
theorem dX7_levelOf_3 : decode cX7_levelOf 3 = .ok (.getfield 52, 3) := by decide +kernel
theorem dX7_levelOf_6 : decode cX7_levelOf 6 = .ok (.aload_n 0, 1) := by decide +kernel
theorem dX7_levelOf_7 : decode cX7_levelOf 7 = .ok (.getfield 45, 3) := by decide +kernel
theorem dX7_levelOf_10 : decode cX7_levelOf 10 = .ok (.iload_n 1, 1) := by decide +kernel
theorem dX7_levelOf_11 : decode cX7_levelOf 11 = .ok (.iaload, 1) := by decide +kernel
theorem dX7_levelOf_12 : decode cX7_levelOf 12 = .ok (.aaload, 1) := by decide +kernel
theorem dX7_levelOf_13 : decode cX7_levelOf 13 = .ok (.iload_n 2, 1) := by decide +kernel
theorem dX7_levelOf_14 : decode cX7_levelOf 14 = .ok (.iaload, 1) := by decide +kernel
theorem dX7_levelOf_15 : decode cX7_levelOf 15 = .ok (.iload_n 1, 1) := by decide +kernel
theorem dX7_levelOf_16 : decode cX7_levelOf 16 = .ok (.if_icmp .eq 9, 3) := by decide +kernel
theorem dX7_levelOf_19 : decode cX7_levelOf 19 = .ok (.iinc 2 1, 3) := by decide +kernel
theorem dX7_levelOf_22 : decode cX7_levelOf 22 = .ok (.goto (-20), 3) := by decide +kernel
theorem dX7_levelOf_25 : decode cX7_levelOf 25 = .ok (.iload_n 2, 1) := by decide +kernel
theorem dX7_levelOf_26 : decode cX7_levelOf 26 = .ok (.ireturn, 1) := by decide +kernel
def B_X7_levelOf_2 (k2 : (Int32 × Int32) → fS → Option (Int32 × fS)) : (Int32 × Int32) → fS → Option (Int32 × fS) := fun ⟨a1, a2⟩ S => gd (ib a1 24) (iv (ge S 50 0 (a1 : Int32).toNatClampNeg) (fun x2 => gd (ib x2 64) (gd (ib a2 24) (iv (ge S 53 (x2.toNatClampNeg) (a2 : Int32).toNatClampNeg) (fun x5 => bb (x5 = a1) (some (a2, S)) (iv (a2 + Int32.ofInt 1) (fun x7 => k2 (a1, x7) S)))))))
def F_X7_levelOf (p1 : Int32) (S0 : fS) : Option (Int32 × fS) := lp (B_X7_levelOf_2 ) fuel (p1, 0) S0
set_option maxHeartbeats 4000000 in
set_option maxRecDepth 100000 in
theorem c_X7_levelOf (l : Launch) (D : va_G) (K : Nat → ClassId) (b0 : Nat) (sa : Nat × Nat × Nat) (sz : Nat) (L : List Nat) (f0 : Nat → va_E) (ad : Nat → Nat → Nat) (n : Nat × Nat) (S0 : fS) (hw : PW K ad (isn n) S0 L f0) (hn : S0.2.2.1 = n) (p1 : Int32) (v : Int32) (S1 : fS) (h : F_X7_levelOf p1 S0 = some (v, S1)) : Met l yX7_levelOf (.code yX7_levelOf cX7_levelOf 3 (some .int) :: gt) { frames := 0, cells := 0, slots := 0, locals := 0 } (va_Pc [.ref (ad 40 0), .int p1] (hPre D K b0 sa sz L f0)) (hQ D K b0 (fun v9 u9 => ∃ f2 : Nat → va_E, v9 = some (.int v) ∧ u9 = lU L f2 ∧ PW K ad (isn n) S1 L f2 ∧ S1.2.2.1 = n ∧ Kp ad (isn n) L f0 f2)) 0 0 (fun q => b0 ≤ q) := by
  refine t_of (own := RX7) (by decide) rfl ?_ (Nat.le_of_ble_eq_true rfl)
  intro p e s m below meth c ls C w hsz hr hlk hnm hl
  have hx := C.1
  have hb := C.2.1
  have hl : lv_has ls 3 [(0, .ref (ad 40 0)), (1, .int p1)] := hl
  have hk : Kp ad (isn n) L f0 f0 := Kp.rf
  have J2 : ∀ (fu : Nat) (a1 : Int32) (a2 : Int32) (S : fS), lp (B_X7_levelOf_2 ) fu (a1, a2) S = some (v, S1) → Gw D K b0 sa ad n L f0 p l e { frames := 0, cells := 0, slots := 0, locals := 0 } s m [.ref (ad 40 0), .int p1].toArray below meth c 3 (MQ below (hQ D K b0 (fun v9 u9 => ∃ f2 : Nat → va_E, v9 = some (.int v) ∧ u9 = lU L f2 ∧ PW K ad (isn n) S1 L f2 ∧ S1.2.2.1 = n ∧ Kp ad (isn n) L f0 f2)) [.ref (ad 40 0), .int p1].toArray s 0 0 (fun q => b0 ≤ q)) 0 0 2 [(0, .ref (ad 40 0)), (1, .int a1), (2, .int a2)] [] S := by
    intro fu a1 a2 S h
    refine lp_some (G := (fun q S => Gw D K b0 sa ad n L f0 p l e { frames := 0, cells := 0, slots := 0, locals := 0 } s m [.ref (ad 40 0), .int p1].toArray below meth c 3 (MQ below (hQ D K b0 (fun v9 u9 => ∃ f2 : Nat → va_E, v9 = some (.int v) ∧ u9 = lU L f2 ∧ PW K ad (isn n) S1 L f2 ∧ S1.2.2.1 = n ∧ Kp ad (isn n) L f0 f2)) [.ref (ad 40 0), .int p1].toArray s 0 0 (fun q => b0 ≤ q)) 0 0 2 [(0, .ref (ad 40 0)), (1, .int q.1), (2, .int q.2)] [] S)) (fun k2 hk2 q S h => ?_) fu (a1, a2) S h
    obtain ⟨a1, a2⟩ := q
    have hk2 : ∀ (a1 : Int32) (a2 : Int32) (S : fS), k2 (a1, a2) S = some (v, S1) → Gw D K b0 sa ad n L f0 p l e { frames := 0, cells := 0, slots := 0, locals := 0 } s m [.ref (ad 40 0), .int p1].toArray below meth c 3 (MQ below (hQ D K b0 (fun v9 u9 => ∃ f2 : Nat → va_E, v9 = some (.int v) ∧ u9 = lU L f2 ∧ PW K ad (isn n) S1 L f2 ∧ S1.2.2.1 = n ∧ Kp ad (isn n) L f0 f2)) [.ref (ad 40 0), .int p1].toArray s 0 0 (fun q => b0 ≤ q)) 0 0 2 [(0, .ref (ad 40 0)), (1, .int a1), (2, .int a2)] [] S := fun a1 a2 S h => hk2 (a1, a2) S h
    dsimp only [B_X7_levelOf_2] at h
    intro f H locs w hw hn hk ls hl
    refine lv_aload_n hx hb dX7_levelOf_2 rfl (lv_at hl 0 rfl) ?_
    refine u_getr C w hw (isn_f rfl rfl (by decide)) rfl (N := 57) rfl rfl cin_7 28 (by decide) (by decide) (a2 := 52) (i2 := 0) rfl gw_1184 dX7_levelOf_3 ?_
    refine lv_aload_n hx hb dX7_levelOf_6 rfl (lv_at hl 0 rfl) ?_
    refine u_getr C w hw (isn_f rfl rfl (by decide)) rfl (N := 57) rfl rfl cin_7 26 (by decide) (by decide) (a2 := 50) (i2 := 0) rfl gw_1182 dX7_levelOf_7 ?_
    refine lv_iload_n hx hb dX7_levelOf_10 rfl (lv_at hl 1 rfl) ?_
    obtain ⟨g1, h⟩ := gd_some h
    refine u_iald C w hw (isn_f rfl rfl (by decide)) rfl rfl (n := 24) rfl (vp_in_iff.mpr g1) dX7_levelOf_11 ?_
    refine u_iv h (fun x2 h => ?_)
    obtain ⟨g3, h⟩ := gd_some h
    refine u_aald C w hw (isn_f rfl rfl (by decide)) rfl rfl rfl (n := 64) rfl (vp_in_iff.mpr g3) (a2 := 53) (i2 := (x2.toNatClampNeg)) (by exact congrArg (Prod.mk _) (Nat.zero_add _)) dX7_levelOf_12 ?_
    refine lv_iload_n hx hb dX7_levelOf_13 rfl (lv_at hl 2 rfl) ?_
    obtain ⟨g4, h⟩ := gd_some h
    refine u_iald C w hw (isn_f rfl rfl (ib_lt g3)) rfl rfl (n := 24) rfl (vp_in_iff.mpr g4) dX7_levelOf_14 ?_
    refine u_iv h (fun x5 h => ?_)
    refine lv_iload_n hx hb dX7_levelOf_15 rfl (lv_at hl 1 rfl) ?_
    refine lv_icmp_eq (tgt := 25) hx hb dX7_levelOf_16 (by decide) (fun c6 => ?_) (fun c6 => ?_)
    · have h := bb_t h c6
      refine lv_iload_n hx hb dX7_levelOf_25 rfl (lv_at hl 2 rfl) ?_
      cases h
      exact t_iret C hr hlk w ⟨_, rfl, rfl, hw, hn, hk⟩ (by decide) (by decide) dX7_levelOf_26
    · have h := bb_f h c6
      obtain ⟨x7, ex7, h⟩ := iv_some h
      refine lv_iinc (v := x7) (lv' := [(2, .int x7), (0, .ref (ad 40 0)), (1, .int a1)]) hx hb dX7_levelOf_19 hl (k := 2) rfl ex7.symm (by decide) rfl (fun ls hl => ?_)
      refine lv_goto (tgt := 2) hx hb dX7_levelOf_22 (by decide) ?_
      exact hk2 a1 x7 S h f H locs w hw hn hk ls (lv_sub hl [1, 2, 0] rfl)
  dsimp only [F_X7_levelOf] at h
  obtain ⟨f, ef⟩ : ∃ z, z = f0 := ⟨_, rfl⟩
  rw [← ef] at w hw
  have hk : Kp ad (isn n) L f0 f := by rw [ef]; exact Kp.rf
  obtain ⟨H, eH⟩ : ∃ z, z = s.heap := ⟨_, rfl⟩
  obtain ⟨locs, el⟩ : ∃ z : List Loc, z = [] := ⟨_, rfl⟩
  rw [← eH, ← el] at w ⊢
  refine lv_iconst (v := 0) hx hb dX7_levelOf_0 (by decide) ?_
  refine lv_istore_n (lv' := [(2, .int 0), (0, .ref (ad 40 0)), (1, .int p1)]) hx hb dX7_levelOf_1 rfl hl (by decide) rfl (fun ls hl => ?_)
  exact J2  fuel p1 0 S0 h f H locs w hw hn hk ls (lv_sub hl [1, 2, 0] rfl)
theorem dX7_goes_0 : decode cX7_goes 0 = .ok (.aload_n 0, 1) := by decide +kernel
theorem dX7_goes_1 : decode cX7_goes 1 = .ok (.getfield 45, 3) := by decide +kernel
theorem dX7_goes_4 : decode cX7_goes 4 = .ok (.iload_n 1, 1) := by decide +kernel
theorem dX7_goes_5 : decode cX7_goes 5 = .ok (.iaload, 1) := by decide +kernel
theorem dX7_goes_6 : decode cX7_goes 6 = .ok (.istore_n 3, 1) := by decide +kernel
theorem dX7_goes_7 : decode cX7_goes 7 = .ok (.aload_n 0, 1) := by decide +kernel
theorem dX7_goes_8 : decode cX7_goes 8 = .ok (.iload_n 1, 1) := by decide +kernel
theorem dX7_goes_9 : decode cX7_goes 9 = .ok (.invokevirtual 262, 3) := by decide +kernel
theorem dX7_goes_12 : decode cX7_goes 12 = .ok (.istore 4, 2) := by decide +kernel
theorem dX7_goes_14 : decode cX7_goes 14 = .ok (.iload 4, 2) := by decide +kernel
theorem dX7_goes_16 : decode cX7_goes 16 = .ok (.iconst 1, 1) := by decide +kernel
theorem dX7_goes_17 : decode cX7_goes 17 = .ok (.iadd, 1) := by decide +kernel
theorem dX7_goes_18 : decode cX7_goes 18 = .ok (.aload_n 0, 1) := by decide +kernel
theorem dX7_goes_19 : decode cX7_goes 19 = .ok (.getfield 55, 3) := by decide +kernel
theorem dX7_goes_22 : decode cX7_goes 22 = .ok (.iload_n 3, 1) := by decide +kernel
theorem dX7_goes_23 : decode cX7_goes 23 = .ok (.iaload, 1) := by decide +kernel
theorem dX7_goes_24 : decode cX7_goes 24 = .ok (.if_icmp .ge 29, 3) := by decide +kernel
theorem dX7_goes_27 : decode cX7_goes 27 = .ok (.aload_n 0, 1) := by decide +kernel
theorem dX7_goes_28 : decode cX7_goes 28 = .ok (.getfield 52, 3) := by decide +kernel
theorem dX7_goes_31 : decode cX7_goes 31 = .ok (.iload_n 3, 1) := by decide +kernel
theorem dX7_goes_32 : decode cX7_goes 32 = .ok (.aaload, 1) := by decide +kernel
theorem dX7_goes_33 : decode cX7_goes 33 = .ok (.iload 4, 2) := by decide +kernel
theorem dX7_goes_35 : decode cX7_goes 35 = .ok (.aload_n 0, 1) := by decide +kernel
theorem dX7_goes_36 : decode cX7_goes 36 = .ok (.getfield 52, 3) := by decide +kernel
theorem dX7_goes_39 : decode cX7_goes 39 = .ok (.iload_n 3, 1) := by decide +kernel
theorem dX7_goes_40 : decode cX7_goes 40 = .ok (.aaload, 1) := by decide +kernel
theorem dX7_goes_41 : decode cX7_goes 41 = .ok (.iload 4, 2) := by decide +kernel
theorem dX7_goes_43 : decode cX7_goes 43 = .ok (.iconst 1, 1) := by decide +kernel
theorem dX7_goes_44 : decode cX7_goes 44 = .ok (.iadd, 1) := by decide +kernel
theorem dX7_goes_45 : decode cX7_goes 45 = .ok (.iaload, 1) := by decide +kernel
theorem dX7_goes_46 : decode cX7_goes 46 = .ok (.iastore, 1) := by decide +kernel
theorem dX7_goes_47 : decode cX7_goes 47 = .ok (.iinc 4 1, 3) := by decide +kernel
theorem dX7_goes_50 : decode cX7_goes 50 = .ok (.goto (-36), 3) := by decide +kernel
theorem dX7_goes_53 : decode cX7_goes 53 = .ok (.aload_n 0, 1) := by decide +kernel
theorem dX7_goes_54 : decode cX7_goes 54 = .ok (.getfield 55, 3) := by decide +kernel
theorem dX7_goes_57 : decode cX7_goes 57 = .ok (.iload_n 3, 1) := by decide +kernel
theorem dX7_goes_58 : decode cX7_goes 58 = .ok (.dup2, 1) := by decide +kernel
theorem dX7_goes_59 : decode cX7_goes 59 = .ok (.iaload, 1) := by decide +kernel
theorem dX7_goes_60 : decode cX7_goes 60 = .ok (.iconst 1, 1) := by decide +kernel
theorem dX7_goes_61 : decode cX7_goes 61 = .ok (.isub, 1) := by decide +kernel
theorem dX7_goes_62 : decode cX7_goes 62 = .ok (.iastore, 1) := by decide +kernel
theorem dX7_goes_63 : decode cX7_goes 63 = .ok (.aload_n 0, 1) := by decide +kernel
theorem dX7_goes_64 : decode cX7_goes 64 = .ok (.getfield 45, 3) := by decide +kernel
theorem dX7_goes_67 : decode cX7_goes 67 = .ok (.iload_n 1, 1) := by decide +kernel
theorem dX7_goes_68 : decode cX7_goes 68 = .ok (.iload_n 2, 1) := by decide +kernel
theorem dX7_goes_69 : decode cX7_goes 69 = .ok (.iastore, 1) := by decide +kernel
theorem dX7_goes_70 : decode cX7_goes 70 = .ok (.return_, 1) := by decide +kernel
def B_X7_goes_14 (k14 : (Int32 × Int32 × Int32 × Int32) → fS → Option (Int32 × fS)) : (Int32 × Int32 × Int32 × Int32) → fS → Option (Int32 × fS) := fun ⟨a1, a2, a3, a4⟩ S => iv (a4 + (1 : Int32)) (fun x1 => gd (ib a3 64) (iv (ge S 54 0 (a3 : Int32).toNatClampNeg) (fun x3 => bb (x3 ≤ x1) (gd (ib a3 64) (iv (ge S 54 0 (a3 : Int32).toNatClampNeg) (fun x6 => iv (x6 - (1 : Int32)) (fun x7 => gd (ib a3 64) (sv (pu S 54 0 (a3 : Int32).toNatClampNeg x7) (fun S9 => gd (ib a1 24) (sv (pu S9 50 0 (a1 : Int32).toNatClampNeg a2) (fun S11 => some (0, S11))))))))) (gd (ib a3 64) (gd (ib a3 64) (iv (a4 + (1 : Int32)) (fun x14 => gd (ib x14 24) (iv (ge S 53 (a3.toNatClampNeg) (x14 : Int32).toNatClampNeg) (fun x16 => gd (ib a4 24) (sv (pu S 53 (a3.toNatClampNeg) (a4 : Int32).toNatClampNeg x16) (fun S18 => iv (a4 + Int32.ofInt 1) (fun x19 => k14 (a1, a2, a3, x19) S18))))))))))))
def F_X7_goes (p1 : Int32) (p2 : Int32) (S0 : fS) : Option (Int32 × fS) := gd (ib p1 24) (iv (ge S0 50 0 (p1 : Int32).toNatClampNeg) (fun x21 => bd (F_X7_levelOf p1 S0) (fun v22 S23 => lp (B_X7_goes_14 ) fuel (p1, p2, x21, v22) S23)))
set_option maxHeartbeats 4000000 in
set_option maxRecDepth 100000 in
theorem c_X7_goes (l : Launch) (D : va_G) (K : Nat → ClassId) (b0 : Nat) (sa : Nat × Nat × Nat) (sz : Nat) (L : List Nat) (f0 : Nat → va_E) (ad : Nat → Nat → Nat) (n : Nat × Nat) (S0 : fS) (hw : PW K ad (isn n) S0 L f0) (hn : S0.2.2.1 = n) (p1 : Int32) (p2 : Int32) (v : Int32) (S1 : fS) (h : F_X7_goes p1 p2 S0 = some (v, S1)) : Met l yX7_goes (.code yX7_goes cX7_goes 5 none :: gt) { frames := 1, cells := 0, slots := 0, locals := 22 } (va_Pc [.ref (ad 40 0), .int p1, .int p2] (hPre D K b0 sa sz L f0)) (hQ D K b0 (fun v9 u9 => ∃ f2 : Nat → va_E, v9 = none ∧ u9 = lU L f2 ∧ PW K ad (isn n) S1 L f2 ∧ S1.2.2.1 = n ∧ Kp ad (isn n) L f0 f2)) 0 0 (fun q => b0 ≤ q) := by
  refine t_of (own := RX7) (by decide) rfl ?_ (Nat.le_of_ble_eq_true rfl)
  intro p e s m below meth c ls C w hsz hr hlk hnm hl
  have hx := C.1
  have hb := C.2.1
  have hl : lv_has ls 5 [(0, .ref (ad 40 0)), (1, .int p1), (2, .int p2)] := hl
  have hk : Kp ad (isn n) L f0 f0 := Kp.rf
  have J14 : ∀ (fu : Nat) (a1 : Int32) (a2 : Int32) (a3 : Int32) (a4 : Int32) (S : fS), lp (B_X7_goes_14 ) fu (a1, a2, a3, a4) S = some (v, S1) → Gw D K b0 sa ad n L f0 p l e { frames := 1, cells := 0, slots := 0, locals := 22 } s m [.ref (ad 40 0), .int p1, .int p2].toArray below meth c 5 (MQ below (hQ D K b0 (fun v9 u9 => ∃ f2 : Nat → va_E, v9 = none ∧ u9 = lU L f2 ∧ PW K ad (isn n) S1 L f2 ∧ S1.2.2.1 = n ∧ Kp ad (isn n) L f0 f2)) [.ref (ad 40 0), .int p1, .int p2].toArray s 0 0 (fun q => b0 ≤ q)) 0 0 14 [(0, .ref (ad 40 0)), (1, .int a1), (2, .int a2), (3, .int a3), (4, .int a4)] [] S := by
    intro fu a1 a2 a3 a4 S h
    refine lp_some (G := (fun q S => Gw D K b0 sa ad n L f0 p l e { frames := 1, cells := 0, slots := 0, locals := 22 } s m [.ref (ad 40 0), .int p1, .int p2].toArray below meth c 5 (MQ below (hQ D K b0 (fun v9 u9 => ∃ f2 : Nat → va_E, v9 = none ∧ u9 = lU L f2 ∧ PW K ad (isn n) S1 L f2 ∧ S1.2.2.1 = n ∧ Kp ad (isn n) L f0 f2)) [.ref (ad 40 0), .int p1, .int p2].toArray s 0 0 (fun q => b0 ≤ q)) 0 0 14 [(0, .ref (ad 40 0)), (1, .int q.1), (2, .int q.2.1), (3, .int q.2.2.1), (4, .int q.2.2.2)] [] S)) (fun k14 hk14 q S h => ?_) fu (a1, a2, a3, a4) S h
    obtain ⟨a1, a2, a3, a4⟩ := q
    have hk14 : ∀ (a1 : Int32) (a2 : Int32) (a3 : Int32) (a4 : Int32) (S : fS), k14 (a1, a2, a3, a4) S = some (v, S1) → Gw D K b0 sa ad n L f0 p l e { frames := 1, cells := 0, slots := 0, locals := 22 } s m [.ref (ad 40 0), .int p1, .int p2].toArray below meth c 5 (MQ below (hQ D K b0 (fun v9 u9 => ∃ f2 : Nat → va_E, v9 = none ∧ u9 = lU L f2 ∧ PW K ad (isn n) S1 L f2 ∧ S1.2.2.1 = n ∧ Kp ad (isn n) L f0 f2)) [.ref (ad 40 0), .int p1, .int p2].toArray s 0 0 (fun q => b0 ≤ q)) 0 0 14 [(0, .ref (ad 40 0)), (1, .int a1), (2, .int a2), (3, .int a3), (4, .int a4)] [] S := fun a1 a2 a3 a4 S h => hk14 (a1, a2, a3, a4) S h
    dsimp only [B_X7_goes_14] at h
    intro f H locs w hw hn hk ls hl
    refine lv_iload hx hb dX7_goes_14 (lv_at hl 4 rfl) ?_
    refine lv_iconst (v := 1) hx hb dX7_goes_16 (by decide) ?_
    refine lv_iadd hx hb dX7_goes_17 ?_
    refine u_iv h (fun x1 h => ?_)
    refine lv_aload_n hx hb dX7_goes_18 rfl (lv_at hl 0 rfl) ?_
    refine u_getr C w hw (isn_f rfl rfl (by decide)) rfl (N := 57) rfl rfl cin_7 29 (by decide) (by decide) (a2 := 54) (i2 := 0) rfl gw_1185 dX7_goes_19 ?_
    refine lv_iload_n hx hb dX7_goes_22 rfl (lv_at hl 3 rfl) ?_
    obtain ⟨g2, h⟩ := gd_some h
    refine u_iald C w hw (isn_f rfl rfl (by decide)) rfl rfl (n := 64) rfl (vp_in_iff.mpr g2) dX7_goes_23 ?_
    refine u_iv h (fun x3 h => ?_)
    refine lv_icmp_ge (tgt := 53) hx hb dX7_goes_24 (by decide) (fun c4 => ?_) (fun c4 => ?_)
    · have h := bb_t h c4
      refine lv_aload_n hx hb dX7_goes_53 rfl (lv_at hl 0 rfl) ?_
      refine u_getr C w hw (isn_f rfl rfl (by decide)) rfl (N := 57) rfl rfl cin_7 29 (by decide) (by decide) (a2 := 54) (i2 := 0) rfl gw_1185 dX7_goes_54 ?_
      refine lv_iload_n hx hb dX7_goes_57 rfl (lv_at hl 3 rfl) ?_
      refine lv_dup2_11 hx hb dX7_goes_58 rfl rfl ?_
      obtain ⟨g5, h⟩ := gd_some h
      refine u_iald C w hw (isn_f rfl rfl (by decide)) rfl rfl (n := 64) rfl (vp_in_iff.mpr g5) dX7_goes_59 ?_
      refine u_iv h (fun x6 h => ?_)
      refine lv_iconst (v := 1) hx hb dX7_goes_60 (by decide) ?_
      refine lv_isub hx hb dX7_goes_61 ?_
      refine u_iv h (fun x7 h => ?_)
      obtain ⟨g8, h⟩ := gd_some h
      refine u_iast C w hw (isn_f rfl rfl (by decide)) rfl rfl (n := 64) rfl (vp_in_iff.mpr g8) dX7_goes_62 (fun f H locs w hw hk1 => ?_)
      have hk := hk.tr hk1
      refine u_sv h hw hn (fun S9 h hw hn => ?_)
      refine lv_aload_n hx hb dX7_goes_63 rfl (lv_at hl 0 rfl) ?_
      refine u_getr C w hw (isn_f rfl rfl (by decide)) rfl (N := 57) rfl rfl cin_7 26 (by decide) (by decide) (a2 := 50) (i2 := 0) rfl gw_1182 dX7_goes_64 ?_
      refine lv_iload_n hx hb dX7_goes_67 rfl (lv_at hl 1 rfl) ?_
      refine lv_iload_n hx hb dX7_goes_68 rfl (lv_at hl 2 rfl) ?_
      obtain ⟨g10, h⟩ := gd_some h
      refine u_iast C w hw (isn_f rfl rfl (by decide)) rfl rfl (n := 24) rfl (vp_in_iff.mpr g10) dX7_goes_69 (fun f H locs w hw hk1 => ?_)
      have hk := hk.tr hk1
      refine u_sv h hw hn (fun S11 h hw hn => ?_)
      cases h
      exact t_vret C hr hlk w ⟨_, rfl, rfl, hw, hn, hk⟩ (by decide) (by decide) dX7_goes_70
    · have h := bb_f h c4
      refine lv_aload_n hx hb dX7_goes_27 rfl (lv_at hl 0 rfl) ?_
      refine u_getr C w hw (isn_f rfl rfl (by decide)) rfl (N := 57) rfl rfl cin_7 28 (by decide) (by decide) (a2 := 52) (i2 := 0) rfl gw_1184 dX7_goes_28 ?_
      refine lv_iload_n hx hb dX7_goes_31 rfl (lv_at hl 3 rfl) ?_
      obtain ⟨g12, h⟩ := gd_some h
      refine u_aald C w hw (isn_f rfl rfl (by decide)) rfl rfl rfl (n := 64) rfl (vp_in_iff.mpr g12) (a2 := 53) (i2 := (a3.toNatClampNeg)) (by exact congrArg (Prod.mk _) (Nat.zero_add _)) dX7_goes_32 ?_
      refine lv_iload hx hb dX7_goes_33 (lv_at hl 4 rfl) ?_
      refine lv_aload_n hx hb dX7_goes_35 rfl (lv_at hl 0 rfl) ?_
      refine u_getr C w hw (isn_f rfl rfl (by decide)) rfl (N := 57) rfl rfl cin_7 28 (by decide) (by decide) (a2 := 52) (i2 := 0) rfl gw_1184 dX7_goes_36 ?_
      refine lv_iload_n hx hb dX7_goes_39 rfl (lv_at hl 3 rfl) ?_
      obtain ⟨g13, h⟩ := gd_some h
      refine u_aald C w hw (isn_f rfl rfl (by decide)) rfl rfl rfl (n := 64) rfl (vp_in_iff.mpr g13) (a2 := 53) (i2 := (a3.toNatClampNeg)) (by exact congrArg (Prod.mk _) (Nat.zero_add _)) dX7_goes_40 ?_
      refine lv_iload hx hb dX7_goes_41 (lv_at hl 4 rfl) ?_
      refine lv_iconst (v := 1) hx hb dX7_goes_43 (by decide) ?_
      refine lv_iadd hx hb dX7_goes_44 ?_
      refine u_iv h (fun x14 h => ?_)
      obtain ⟨g15, h⟩ := gd_some h
      refine u_iald C w hw (isn_f rfl rfl (ib_lt g13)) rfl rfl (n := 24) rfl (vp_in_iff.mpr g15) dX7_goes_45 ?_
      refine u_iv h (fun x16 h => ?_)
      obtain ⟨g17, h⟩ := gd_some h
      refine u_iast C w hw (isn_f rfl rfl (ib_lt g12)) rfl rfl (n := 24) rfl (vp_in_iff.mpr g17) dX7_goes_46 (fun f H locs w hw hk1 => ?_)
      have hk := hk.tr hk1
      refine u_sv h hw hn (fun S18 h hw hn => ?_)
      obtain ⟨x19, ex19, h⟩ := iv_some h
      refine lv_iinc (v := x19) (lv' := [(4, .int x19), (0, .ref (ad 40 0)), (1, .int a1), (2, .int a2), (3, .int a3)]) hx hb dX7_goes_47 hl (k := 4) rfl ex19.symm (by decide) rfl (fun ls hl => ?_)
      refine lv_goto (tgt := 14) hx hb dX7_goes_50 (by decide) ?_
      exact hk14 a1 a2 a3 x19 S18 h f H locs w hw hn hk ls (lv_sub hl [1, 2, 3, 4, 0] rfl)
  dsimp only [F_X7_goes] at h
  obtain ⟨f, ef⟩ : ∃ z, z = f0 := ⟨_, rfl⟩
  rw [← ef] at w hw
  have hk : Kp ad (isn n) L f0 f := by rw [ef]; exact Kp.rf
  obtain ⟨H, eH⟩ : ∃ z, z = s.heap := ⟨_, rfl⟩
  obtain ⟨locs, el⟩ : ∃ z : List Loc, z = [] := ⟨_, rfl⟩
  rw [← eH, ← el] at w ⊢
  refine lv_aload_n hx hb dX7_goes_0 rfl (lv_at hl 0 rfl) ?_
  refine u_getr C w hw (isn_f rfl rfl (by decide)) rfl (N := 57) rfl rfl cin_7 26 (by decide) (by decide) (a2 := 50) (i2 := 0) rfl gw_1182 dX7_goes_1 ?_
  refine lv_iload_n hx hb dX7_goes_4 rfl (lv_at hl 1 rfl) ?_
  obtain ⟨g20, h⟩ := gd_some h
  refine u_iald C w hw (isn_f rfl rfl (by decide)) rfl rfl (n := 24) rfl (vp_in_iff.mpr g20) dX7_goes_5 ?_
  refine u_iv h (fun x21 h => ?_)
  refine lv_istore_n (lv' := [(3, .int x21), (0, .ref (ad 40 0)), (1, .int p1), (2, .int p2)]) hx hb dX7_goes_6 rfl hl (by decide) rfl (fun ls hl => ?_)
  refine lv_aload_n hx hb dX7_goes_7 rfl (lv_at hl 1 rfl) ?_
  refine lv_iload_n hx hb dX7_goes_8 rfl (lv_at hl 2 rfl) ?_
  obtain ⟨v22, S23, h24, h⟩ := bd_some h
  refine u_callV (n := 1) C w hw (isn_f rfl rfl (by decide)) rfl rfl rfl (c_X7_levelOf l D K b0 sa _ L _ ad n S0 hw hn p1 v22 S23 h24) gw_1483 gw_1480 gw_1482 gs_48 gw_8 ⟨by decide, by decide, by decide +kernel⟩ rfl rfl ⟨by decide, by decide⟩ rfl hl.1 rfl (Nat.le_of_ble_eq_true rfl) dX7_goes_9 ⟨by decide, by decide⟩ (fun v9 u H locs hp w => ?_)
  obtain ⟨f2, rfl, rfl, hw, hn, hk1⟩ := hp
  have hk := hk.tr hk1
  generalize f2 = f at w hw hk
  refine lv_istore (lv' := [(4, .int v22), (3, .int x21), (0, .ref (ad 40 0)), (1, .int p1), (2, .int p2)]) hx hb dX7_goes_12 hl (by decide) rfl (fun ls hl => ?_)
  exact J14  fuel p1 p2 x21 v22 S23 h f H locs w hw hn hk ls (lv_sub hl [2, 3, 4, 1, 0] rfl)
