theorem dJ7_fill_53178_0 : decode cJ7_fill_53178 0 = .ok (.iconst 0, 1) := by decide +kernel
theorem dJ7_fill_53178_1 : decode cJ7_fill_53178 1 = .ok (.istore_n 2, 1) := by decide +kernel
theorem dJ7_fill_53178_2 : decode cJ7_fill_53178 2 = .ok (.aload_n 0, 1) := by decide +kernel
theorem dJ7_fill_53178_3 : decode cJ7_fill_53178 3 = .ok (.arraylength, 1) := by decide +kernel
theorem dJ7_fill_53178_4 : decode cJ7_fill_53178 4 = .ok (.istore_n 3, 1) := by decide +kernel
theorem dJ7_fill_53178_5 : decode cJ7_fill_53178 5 = .ok (.iload_n 2, 1) := by decide +kernel
theorem dJ7_fill_53178_6 : decode cJ7_fill_53178 6 = .ok (.iload_n 3, 1) := by decide +kernel
theorem dJ7_fill_53178_7 : decode cJ7_fill_53178 7 = .ok (.if_icmp .ge 13, 3) := by decide +kernel
theorem dJ7_fill_53178_10 : decode cJ7_fill_53178 10 = .ok (.aload_n 0, 1) := by decide +kernel
theorem dJ7_fill_53178_11 : decode cJ7_fill_53178 11 = .ok (.iload_n 2, 1) := by decide +kernel
theorem dJ7_fill_53178_12 : decode cJ7_fill_53178 12 = .ok (.iload_n 1, 1) := by decide +kernel
theorem dJ7_fill_53178_13 : decode cJ7_fill_53178 13 = .ok (.iastore, 1) := by decide +kernel
theorem dJ7_fill_53178_14 : decode cJ7_fill_53178 14 = .ok (.iinc 2 1, 3) := by decide +kernel
theorem dJ7_fill_53178_17 : decode cJ7_fill_53178 17 = .ok (.goto (-12), 3) := by decide +kernel
theorem dJ7_fill_53178_20 : decode cJ7_fill_53178 20 = .ok (.return_, 1) := by decide +kernel
noncomputable def B_fill10_5 (r0 : Nat) (k5 : (Int32 × Int32 × Int32) → fS → Option (Int32 × fS)) : (Int32 × Int32 × Int32) → fS → Option (Int32 × fS) := fun ⟨a1, a2, a3⟩ S => bb (a3 ≤ a2) (some (0, S)) (gd (ib a2 64) (sv (pu S 10 r0 (a2 : Int32).toNatClampNeg a1) (fun S3 => iv (a2 + Int32.ofInt 1) (fun x4 => k5 (a1, x4, a3) S3))))
noncomputable def F_fill10 (r0 : Nat) (p1 : Int32) (S0 : fS) : Option (Int32 × fS) := lp (B_fill10_5 r0 ) fuel (p1, 0, 64) S0
set_option maxHeartbeats 4000000 in
set_option maxRecDepth 100000 in
theorem c_fill10 (l : Launch) (D : va_G) (K : Nat → ClassId) (b0 : Nat) (sa : sT) (sz : Nat) (L : List Nat) (f0 : Nat → va_E) (ad : Nat → Nat → Nat) (P : Nat → Nat → Prop) {n : Nat × Nat} (hP : ∀ a i : Nat, isn n a i → P a i) (S0 : fS) (hw : PW K ad P S0 L f0) (hn : S0.2.2.1 = n) (r0 : Nat) (hr0 : r0 < 5) (p1 : Int32) (v : Int32) (S1 : fS) (h : F_fill10 r0 p1 S0 = some (v, S1)) : Met l yJ7_fill_53178 (.code yJ7_fill_53178 cJ7_fill_53178 4 none :: gt) { frames := 0, cells := 0, slots := 0, locals := 0 } (va_Pc [.ref (ad 10 r0), .int p1] (hPre D K b0 sa sz L f0)) (hQ D K b0 (fun v9 u9 => ∃ f2 : Nat → va_E, v9 = none ∧ u9 = lU L f2 ∧ PW K ad P S1 L f2 ∧ S1.2.2.1 = n ∧ Kp ad P L f0 f2)) 0 0 (fun q => b0 ≤ q) := by
  refine t_of (own := RJ7) (by decide) rfl ?_ (Nat.le_of_ble_eq_true rfl)
  intro p e s m below meth c ls C w hsz hr hlk hnm hl
  have hx := C.1
  have hb := C.2.1
  have hl : lv_has ls 4 [(0, .ref (ad 10 r0)), (1, .int p1)] := hl
  have J5 : ∀ (fu : Nat) (a1 : Int32) (a2 : Int32) (a3 : Int32) (S : fS), lp (B_fill10_5 r0 ) fu (a1, a2, a3) S = some (v, S1) → Gw D K b0 sa ad P n L f0 p l e { frames := 0, cells := 0, slots := 0, locals := 0 } s m [.ref (ad 10 r0), .int p1].toArray below meth c 4 (MQ below (hQ D K b0 (fun v9 u9 => ∃ f2 : Nat → va_E, v9 = none ∧ u9 = lU L f2 ∧ PW K ad P S1 L f2 ∧ S1.2.2.1 = n ∧ Kp ad P L f0 f2)) [.ref (ad 10 r0), .int p1].toArray s 0 0 (fun q => b0 ≤ q)) 0 0 5 [(0, .ref (ad 10 r0)), (1, .int a1), (2, .int a2), (3, .int a3)] [] S := by
    intro fu a1 a2 a3 S h
    refine lp_some (G := (fun q S => Gw D K b0 sa ad P n L f0 p l e { frames := 0, cells := 0, slots := 0, locals := 0 } s m [.ref (ad 10 r0), .int p1].toArray below meth c 4 (MQ below (hQ D K b0 (fun v9 u9 => ∃ f2 : Nat → va_E, v9 = none ∧ u9 = lU L f2 ∧ PW K ad P S1 L f2 ∧ S1.2.2.1 = n ∧ Kp ad P L f0 f2)) [.ref (ad 10 r0), .int p1].toArray s 0 0 (fun q => b0 ≤ q)) 0 0 5 [(0, .ref (ad 10 r0)), (1, .int q.1), (2, .int q.2.1), (3, .int q.2.2)] [] S)) (fun k5 hk5 q S h => ?_) fu (a1, a2, a3) S h
    obtain ⟨a1, a2, a3⟩ := q
    have hk5 : ∀ (a1 : Int32) (a2 : Int32) (a3 : Int32) (S : fS), k5 (a1, a2, a3) S = some (v, S1) → Gw D K b0 sa ad P n L f0 p l e { frames := 0, cells := 0, slots := 0, locals := 0 } s m [.ref (ad 10 r0), .int p1].toArray below meth c 4 (MQ below (hQ D K b0 (fun v9 u9 => ∃ f2 : Nat → va_E, v9 = none ∧ u9 = lU L f2 ∧ PW K ad P S1 L f2 ∧ S1.2.2.1 = n ∧ Kp ad P L f0 f2)) [.ref (ad 10 r0), .int p1].toArray s 0 0 (fun q => b0 ≤ q)) 0 0 5 [(0, .ref (ad 10 r0)), (1, .int a1), (2, .int a2), (3, .int a3)] [] S := fun a1 a2 a3 S h => hk5 (a1, a2, a3) S h
    dsimp only [B_fill10_5] at h
    intro f H locs w hw hn hk ls hl
    refine lv_iload_n hx hb dJ7_fill_53178_5 rfl (lv_at hl 2 rfl) ?_
    refine lv_iload_n hx hb dJ7_fill_53178_6 rfl (lv_at hl 3 rfl) ?_
    refine lv_icmp_ge (tgt := 20) hx hb dJ7_fill_53178_7 (by decide) (fun c1 => ?_) (fun c1 => ?_)
    · have h := bb_t h c1
      exact t_vret C hr hlk w ⟨_, rfl, rfl, so_w h hw, so_n h hn, hk⟩ (by decide) (by decide) dJ7_fill_53178_20
    · have h := bb_f h c1
      refine lv_aload_n hx hb dJ7_fill_53178_10 rfl (lv_at hl 0 rfl) ?_
      refine lv_iload_n hx hb dJ7_fill_53178_11 rfl (lv_at hl 2 rfl) ?_
      refine lv_iload_n hx hb dJ7_fill_53178_12 rfl (lv_at hl 1 rfl) ?_
      obtain ⟨g2, h⟩ := gd_some h
      refine u_iast C w hw (hP _ _ (isn_f rfl rfl hr0)) rfl rfl (n := 64) rfl (vp_in_iff.mpr g2) dJ7_fill_53178_13 (fun f H locs w hw hk1 => ?_)
      have hk := hk.tr hk1
      refine u_sv h hw hn (fun S3 h hw hn => ?_)
      obtain ⟨x4, ex4, h⟩ := iv_some h
      refine lv_iinc (v := x4) (lv' := [(2, .int x4), (0, .ref (ad 10 r0)), (1, .int a1), (3, .int a3)]) hx hb dJ7_fill_53178_14 hl (k := 2) rfl ex4.symm (by decide) rfl (fun ls hl => ?_)
      refine lv_goto (tgt := 5) hx hb dJ7_fill_53178_17 (by decide) ?_
      exact hk5 a1 x4 a3 S3 h f H locs w hw hn hk ls (lv_sub hl [1, 2, 0, 3] rfl)
  dsimp only [F_fill10] at h
  obtain ⟨f, ef⟩ : ∃ z, z = f0 := ⟨_, rfl⟩
  rw [← ef] at w hw
  have hk : Kp ad P L f0 f := by rw [ef]; exact Kp.rf
  obtain ⟨H, eH⟩ : ∃ z, z = s.heap := ⟨_, rfl⟩
  obtain ⟨locs, el⟩ : ∃ z : List Loc, z = [] := ⟨_, rfl⟩
  rw [← eH, ← el] at w ⊢
  refine lv_iconst (v := 0) hx hb dJ7_fill_53178_0 (by decide) ?_
  refine lv_istore_n (lv' := [(2, .int 0), (0, .ref (ad 10 r0)), (1, .int p1)]) hx hb dJ7_fill_53178_1 rfl hl (by decide) rfl (fun ls hl => ?_)
  refine lv_aload_n hx hb dJ7_fill_53178_2 rfl (lv_at hl 1 rfl) ?_
  refine u_alen C w hw (hP _ _ (isn_f rfl rfl hr0)) rfl rfl (v := 64) rfl dJ7_fill_53178_3 ?_
  refine lv_istore_n (lv' := [(3, .int 64), (2, .int 0), (0, .ref (ad 10 r0)), (1, .int p1)]) hx hb dJ7_fill_53178_4 rfl hl (by decide) rfl (fun ls hl => ?_)
  exact J5  fuel p1 0 64 S0 h f H locs w hw hn hk ls (lv_sub hl [2, 3, 1, 0] rfl)
noncomputable def B_fill24_5 (k5 : (Int32 × Int32 × Int32) → fS → Option (Int32 × fS)) : (Int32 × Int32 × Int32) → fS → Option (Int32 × fS) := fun ⟨a1, a2, a3⟩ S => bb (a3 ≤ a2) (some (0, S)) (gd (ib a2 3) (sv (pu S 24 0 (a2 : Int32).toNatClampNeg a1) (fun S3 => iv (a2 + Int32.ofInt 1) (fun x4 => k5 (a1, x4, a3) S3))))
noncomputable def F_fill24 (p1 : Int32) (S0 : fS) : Option (Int32 × fS) := lp (B_fill24_5 ) fuel (p1, 0, 3) S0
set_option maxHeartbeats 4000000 in
set_option maxRecDepth 100000 in
theorem c_fill24 (l : Launch) (D : va_G) (K : Nat → ClassId) (b0 : Nat) (sa : sT) (sz : Nat) (L : List Nat) (f0 : Nat → va_E) (ad : Nat → Nat → Nat) (P : Nat → Nat → Prop) {n : Nat × Nat} (hP : ∀ a i : Nat, isn n a i → P a i) (S0 : fS) (hw : PW K ad P S0 L f0) (hn : S0.2.2.1 = n) (p1 : Int32) (v : Int32) (S1 : fS) (h : F_fill24 p1 S0 = some (v, S1)) : Met l yJ7_fill_53178 (.code yJ7_fill_53178 cJ7_fill_53178 4 none :: gt) { frames := 0, cells := 0, slots := 0, locals := 0 } (va_Pc [.ref (ad 24 0), .int p1] (hPre D K b0 sa sz L f0)) (hQ D K b0 (fun v9 u9 => ∃ f2 : Nat → va_E, v9 = none ∧ u9 = lU L f2 ∧ PW K ad P S1 L f2 ∧ S1.2.2.1 = n ∧ Kp ad P L f0 f2)) 0 0 (fun q => b0 ≤ q) := by
  refine t_of (own := RJ7) (by decide) rfl ?_ (Nat.le_of_ble_eq_true rfl)
  intro p e s m below meth c ls C w hsz hr hlk hnm hl
  have hx := C.1
  have hb := C.2.1
  have hl : lv_has ls 4 [(0, .ref (ad 24 0)), (1, .int p1)] := hl
  have J5 : ∀ (fu : Nat) (a1 : Int32) (a2 : Int32) (a3 : Int32) (S : fS), lp (B_fill24_5 ) fu (a1, a2, a3) S = some (v, S1) → Gw D K b0 sa ad P n L f0 p l e { frames := 0, cells := 0, slots := 0, locals := 0 } s m [.ref (ad 24 0), .int p1].toArray below meth c 4 (MQ below (hQ D K b0 (fun v9 u9 => ∃ f2 : Nat → va_E, v9 = none ∧ u9 = lU L f2 ∧ PW K ad P S1 L f2 ∧ S1.2.2.1 = n ∧ Kp ad P L f0 f2)) [.ref (ad 24 0), .int p1].toArray s 0 0 (fun q => b0 ≤ q)) 0 0 5 [(0, .ref (ad 24 0)), (1, .int a1), (2, .int a2), (3, .int a3)] [] S := by
    intro fu a1 a2 a3 S h
    refine lp_some (G := (fun q S => Gw D K b0 sa ad P n L f0 p l e { frames := 0, cells := 0, slots := 0, locals := 0 } s m [.ref (ad 24 0), .int p1].toArray below meth c 4 (MQ below (hQ D K b0 (fun v9 u9 => ∃ f2 : Nat → va_E, v9 = none ∧ u9 = lU L f2 ∧ PW K ad P S1 L f2 ∧ S1.2.2.1 = n ∧ Kp ad P L f0 f2)) [.ref (ad 24 0), .int p1].toArray s 0 0 (fun q => b0 ≤ q)) 0 0 5 [(0, .ref (ad 24 0)), (1, .int q.1), (2, .int q.2.1), (3, .int q.2.2)] [] S)) (fun k5 hk5 q S h => ?_) fu (a1, a2, a3) S h
    obtain ⟨a1, a2, a3⟩ := q
    have hk5 : ∀ (a1 : Int32) (a2 : Int32) (a3 : Int32) (S : fS), k5 (a1, a2, a3) S = some (v, S1) → Gw D K b0 sa ad P n L f0 p l e { frames := 0, cells := 0, slots := 0, locals := 0 } s m [.ref (ad 24 0), .int p1].toArray below meth c 4 (MQ below (hQ D K b0 (fun v9 u9 => ∃ f2 : Nat → va_E, v9 = none ∧ u9 = lU L f2 ∧ PW K ad P S1 L f2 ∧ S1.2.2.1 = n ∧ Kp ad P L f0 f2)) [.ref (ad 24 0), .int p1].toArray s 0 0 (fun q => b0 ≤ q)) 0 0 5 [(0, .ref (ad 24 0)), (1, .int a1), (2, .int a2), (3, .int a3)] [] S := fun a1 a2 a3 S h => hk5 (a1, a2, a3) S h
    dsimp only [B_fill24_5] at h
    intro f H locs w hw hn hk ls hl
    refine lv_iload_n hx hb dJ7_fill_53178_5 rfl (lv_at hl 2 rfl) ?_
    refine lv_iload_n hx hb dJ7_fill_53178_6 rfl (lv_at hl 3 rfl) ?_
    refine lv_icmp_ge (tgt := 20) hx hb dJ7_fill_53178_7 (by decide) (fun c1 => ?_) (fun c1 => ?_)
    · have h := bb_t h c1
      exact t_vret C hr hlk w ⟨_, rfl, rfl, so_w h hw, so_n h hn, hk⟩ (by decide) (by decide) dJ7_fill_53178_20
    · have h := bb_f h c1
      refine lv_aload_n hx hb dJ7_fill_53178_10 rfl (lv_at hl 0 rfl) ?_
      refine lv_iload_n hx hb dJ7_fill_53178_11 rfl (lv_at hl 2 rfl) ?_
      refine lv_iload_n hx hb dJ7_fill_53178_12 rfl (lv_at hl 1 rfl) ?_
      obtain ⟨g2, h⟩ := gd_some h
      refine u_iast C w hw (hP _ _ (isn_f rfl rfl (by decide))) rfl rfl (n := 3) rfl (vp_in_iff.mpr g2) dJ7_fill_53178_13 (fun f H locs w hw hk1 => ?_)
      have hk := hk.tr hk1
      refine u_sv h hw hn (fun S3 h hw hn => ?_)
      obtain ⟨x4, ex4, h⟩ := iv_some h
      refine lv_iinc (v := x4) (lv' := [(2, .int x4), (0, .ref (ad 24 0)), (1, .int a1), (3, .int a3)]) hx hb dJ7_fill_53178_14 hl (k := 2) rfl ex4.symm (by decide) rfl (fun ls hl => ?_)
      refine lv_goto (tgt := 5) hx hb dJ7_fill_53178_17 (by decide) ?_
      exact hk5 a1 x4 a3 S3 h f H locs w hw hn hk ls (lv_sub hl [1, 2, 0, 3] rfl)
  dsimp only [F_fill24] at h
  obtain ⟨f, ef⟩ : ∃ z, z = f0 := ⟨_, rfl⟩
  rw [← ef] at w hw
  have hk : Kp ad P L f0 f := by rw [ef]; exact Kp.rf
  obtain ⟨H, eH⟩ : ∃ z, z = s.heap := ⟨_, rfl⟩
  obtain ⟨locs, el⟩ : ∃ z : List Loc, z = [] := ⟨_, rfl⟩
  rw [← eH, ← el] at w ⊢
  refine lv_iconst (v := 0) hx hb dJ7_fill_53178_0 (by decide) ?_
  refine lv_istore_n (lv' := [(2, .int 0), (0, .ref (ad 24 0)), (1, .int p1)]) hx hb dJ7_fill_53178_1 rfl hl (by decide) rfl (fun ls hl => ?_)
  refine lv_aload_n hx hb dJ7_fill_53178_2 rfl (lv_at hl 1 rfl) ?_
  refine u_alen C w hw (hP _ _ (isn_f rfl rfl (by decide))) rfl rfl (v := 3) rfl dJ7_fill_53178_3 ?_
  refine lv_istore_n (lv' := [(3, .int 3), (2, .int 0), (0, .ref (ad 24 0)), (1, .int p1)]) hx hb dJ7_fill_53178_4 rfl hl (by decide) rfl (fun ls hl => ?_)
  exact J5  fuel p1 0 3 S0 h f H locs w hw hn hk ls (lv_sub hl [2, 3, 1, 0] rfl)
theorem dX2_layAgain_0 : decode cX2_layAgain 0 = .ok (.iconst 0, 1) := by decide +kernel
theorem dX2_layAgain_1 : decode cX2_layAgain 1 = .ok (.istore_n 2, 1) := by decide +kernel
theorem dX2_layAgain_2 : decode cX2_layAgain 2 = .ok (.aload_n 0, 1) := by decide +kernel
theorem dX2_layAgain_3 : decode cX2_layAgain 3 = .ok (.getfield 37, 3) := by decide +kernel
theorem dX2_layAgain_6 : decode cX2_layAgain 6 = .ok (.iconst (-1), 1) := by decide +kernel
theorem dX2_layAgain_7 : decode cX2_layAgain 7 = .ok (.invokestatic 40, 3) := by decide +kernel
theorem dX2_layAgain_10 : decode cX2_layAgain 10 = .ok (.iconst 0, 1) := by decide +kernel
theorem dX2_layAgain_11 : decode cX2_layAgain 11 = .ok (.istore_n 3, 1) := by decide +kernel
theorem dX2_layAgain_12 : decode cX2_layAgain 12 = .ok (.iload_n 3, 1) := by decide +kernel
theorem dX2_layAgain_13 : decode cX2_layAgain 13 = .ok (.aload_n 0, 1) := by decide +kernel
theorem dX2_layAgain_14 : decode cX2_layAgain 14 = .ok (.getfield 9, 3) := by decide +kernel
theorem dX2_layAgain_17 : decode cX2_layAgain 17 = .ok (.if_icmp .ge 74, 3) := by decide +kernel
theorem dX2_layAgain_20 : decode cX2_layAgain 20 = .ok (.aload_n 0, 1) := by decide +kernel
theorem dX2_layAgain_21 : decode cX2_layAgain 21 = .ok (.getfield 31, 3) := by decide +kernel
theorem dX2_layAgain_24 : decode cX2_layAgain 24 = .ok (.iload_n 3, 1) := by decide +kernel
theorem dX2_layAgain_25 : decode cX2_layAgain 25 = .ok (.iaload, 1) := by decide +kernel
theorem dX2_layAgain_26 : decode cX2_layAgain 26 = .ok (.istore 4, 2) := by decide +kernel
theorem dX2_layAgain_28 : decode cX2_layAgain 28 = .ok (.aload_n 0, 1) := by decide +kernel
theorem dX2_layAgain_29 : decode cX2_layAgain 29 = .ok (.getfield 28, 3) := by decide +kernel
theorem dX2_layAgain_32 : decode cX2_layAgain 32 = .ok (.iload_n 3, 1) := by decide +kernel
theorem dX2_layAgain_33 : decode cX2_layAgain 33 = .ok (.iaload, 1) := by decide +kernel
theorem dX2_layAgain_34 : decode cX2_layAgain 34 = .ok (.iload_n 1, 1) := by decide +kernel
theorem dX2_layAgain_35 : decode cX2_layAgain 35 = .ok (.if_icmp .ne 20, 3) := by decide +kernel
theorem dX2_layAgain_38 : decode cX2_layAgain 38 = .ok (.aload_n 0, 1) := by decide +kernel
theorem dX2_layAgain_39 : decode cX2_layAgain 39 = .ok (.getfield 31, 3) := by decide +kernel
theorem dX2_layAgain_42 : decode cX2_layAgain 42 = .ok (.iload_n 3, 1) := by decide +kernel
theorem dX2_layAgain_43 : decode cX2_layAgain 43 = .ok (.iconst (-1), 1) := by decide +kernel
theorem dX2_layAgain_44 : decode cX2_layAgain 44 = .ok (.iastore, 1) := by decide +kernel
theorem dX2_layAgain_45 : decode cX2_layAgain 45 = .ok (.aload_n 0, 1) := by decide +kernel
theorem dX2_layAgain_46 : decode cX2_layAgain 46 = .ok (.getfield 34, 3) := by decide +kernel
theorem dX2_layAgain_49 : decode cX2_layAgain 49 = .ok (.iload_n 3, 1) := by decide +kernel
theorem dX2_layAgain_50 : decode cX2_layAgain 50 = .ok (.iconst (-1), 1) := by decide +kernel
theorem dX2_layAgain_51 : decode cX2_layAgain 51 = .ok (.iastore, 1) := by decide +kernel
theorem dX2_layAgain_52 : decode cX2_layAgain 52 = .ok (.goto 14, 3) := by decide +kernel
theorem dX2_layAgain_55 : decode cX2_layAgain 55 = .ok (.aload_n 0, 1) := by decide +kernel
theorem dX2_layAgain_56 : decode cX2_layAgain 56 = .ok (.iload_n 3, 1) := by decide +kernel
theorem dX2_layAgain_57 : decode cX2_layAgain 57 = .ok (.aload_n 0, 1) := by decide +kernel
theorem dX2_layAgain_58 : decode cX2_layAgain 58 = .ok (.getfield 28, 3) := by decide +kernel
theorem dX2_layAgain_61 : decode cX2_layAgain 61 = .ok (.iload_n 3, 1) := by decide +kernel
theorem dX2_layAgain_62 : decode cX2_layAgain 62 = .ok (.iaload, 1) := by decide +kernel
theorem dX2_layAgain_63 : decode cX2_layAgain 63 = .ok (.invokevirtual 46, 3) := by decide +kernel
theorem dX2_layAgain_66 : decode cX2_layAgain 66 = .ok (.iload_n 2, 1) := by decide +kernel
theorem dX2_layAgain_67 : decode cX2_layAgain 67 = .ok (.aload_n 0, 1) := by decide +kernel
theorem dX2_layAgain_68 : decode cX2_layAgain 68 = .ok (.getfield 31, 3) := by decide +kernel
theorem dX2_layAgain_71 : decode cX2_layAgain 71 = .ok (.iload_n 3, 1) := by decide +kernel
theorem dX2_layAgain_72 : decode cX2_layAgain 72 = .ok (.iaload, 1) := by decide +kernel
theorem dX2_layAgain_73 : decode cX2_layAgain 73 = .ok (.iload 4, 2) := by decide +kernel
theorem dX2_layAgain_75 : decode cX2_layAgain 75 = .ok (.if_icmp .ne 7, 3) := by decide +kernel
theorem dX2_layAgain_78 : decode cX2_layAgain 78 = .ok (.iconst 0, 1) := by decide +kernel
theorem dX2_layAgain_79 : decode cX2_layAgain 79 = .ok (.goto 4, 3) := by decide +kernel
theorem dX2_layAgain_82 : decode cX2_layAgain 82 = .ok (.iconst 1, 1) := by decide +kernel
theorem dX2_layAgain_83 : decode cX2_layAgain 83 = .ok (.iadd, 1) := by decide +kernel
theorem dX2_layAgain_84 : decode cX2_layAgain 84 = .ok (.istore_n 2, 1) := by decide +kernel
theorem dX2_layAgain_85 : decode cX2_layAgain 85 = .ok (.iinc 3 1, 3) := by decide +kernel
theorem dX2_layAgain_88 : decode cX2_layAgain 88 = .ok (.goto (-76), 3) := by decide +kernel
theorem dX2_layAgain_91 : decode cX2_layAgain 91 = .ok (.iload_n 2, 1) := by decide +kernel
theorem dX2_layAgain_92 : decode cX2_layAgain 92 = .ok (.ireturn, 1) := by decide +kernel
noncomputable def B_X2_layAgain_83 (r0 : Nat) (k12 : (Int32 × Int32 × Int32) → fS → Option (Int32 × fS)) (a1 : Int32) (a3 : Int32) (t0 : Int32) (t1 : Int32) (S : fS) : Option (Int32 × fS) := iv (t1 + t0) (fun x1 => iv (a3 + Int32.ofInt 1) (fun x2 => k12 (a1, x1, x2) S))
noncomputable def B_X2_layAgain_66 (r0 : Nat) (k12 : (Int32 × Int32 × Int32) → fS → Option (Int32 × fS)) (a1 : Int32) (a2 : Int32) (a3 : Int32) (a4 : Int32) (S : fS) : Option (Int32 × fS) := gd (ib a3 24) (iv (ge S 8 r0 (a3 : Int32).toNatClampNeg) (fun x4 => bb (x4 = a4) (B_X2_layAgain_83 r0 k12 a1 a3 0 a2 S) (B_X2_layAgain_83 r0 k12 a1 a3 1 a2 S)))
noncomputable def B_X2_layAgain_12 (r0 : Nat) (k12 : (Int32 × Int32 × Int32) → fS → Option (Int32 × fS)) : (Int32 × Int32 × Int32) → fS → Option (Int32 × fS) := fun ⟨a1, a2, a3⟩ S => iv (ge S 2 r0 0) (fun x6 => bb (x6 ≤ a3) (some (a2, S)) (gd (ib a3 24) (iv (ge S 8 r0 (a3 : Int32).toNatClampNeg) (fun x9 => gd (ib a3 24) (iv (ge S 7 r0 (a3 : Int32).toNatClampNeg) (fun x11 => bb (x11 = a1) (gd (ib a3 24) (sv (pu S 8 r0 (a3 : Int32).toNatClampNeg (-1)) (fun S19 => gd (ib a3 24) (sv (pu S19 9 r0 (a3 : Int32).toNatClampNeg (-1)) (fun S21 => B_X2_layAgain_66 r0 k12 a1 a2 a3 x9 S21))))) (gd (ib a3 24) (iv (ge S 7 r0 (a3 : Int32).toNatClampNeg) (fun x14 => bd (F_X2_put r0 a3 x14 S) (fun v15 S16 => B_X2_layAgain_66 r0 k12 a1 a2 a3 x9 S16))))))))))
noncomputable def F_X2_layAgain (r0 : Nat) (p1 : Int32) (S0 : fS) : Option (Int32 × fS) := bd (F_fill10 r0 (-1) S0) (fun v22 S23 => lp (B_X2_layAgain_12 r0 ) fuel (p1, 0, 0) S23)
set_option maxHeartbeats 4000000 in
set_option maxRecDepth 100000 in
theorem c_X2_layAgain (l : Launch) (D : va_G) (K : Nat → ClassId) (b0 : Nat) (sa : sT) (sz : Nat) (L : List Nat) (f0 : Nat → va_E) (ad : Nat → Nat → Nat) (P : Nat → Nat → Prop) {n : Nat × Nat} (hP : ∀ a i : Nat, isn n a i → P a i) (S0 : fS) (hw : PW K ad P S0 L f0) (hn : S0.2.2.1 = n) (r0 : Nat) (hr0 : r0 < 5) (p1 : Int32) (v : Int32) (S1 : fS) (h : F_X2_layAgain r0 p1 S0 = some (v, S1)) : Met l yX2_layAgain (.code yX2_layAgain cX2_layAgain 5 (some .int) :: gt) { frames := 2, cells := 0, slots := 0, locals := 44 } (va_Pc [.ref (ad 2 r0), .int p1] (hPre D K b0 sa sz L f0)) (hQ D K b0 (fun v9 u9 => ∃ f2 : Nat → va_E, v9 = some (.int v) ∧ u9 = lU L f2 ∧ PW K ad P S1 L f2 ∧ S1.2.2.1 = n ∧ Kp ad P L f0 f2)) 0 0 (fun q => b0 ≤ q) := by
  refine t_of (own := RX2) (by decide) rfl ?_ (Nat.le_of_ble_eq_true rfl)
  intro p e s m below meth c ls C w hsz hr hlk hnm hl
  have hx := C.1
  have hb := C.2.1
  have hl : lv_has ls 5 [(0, .ref (ad 2 r0)), (1, .int p1)] := hl
  have J83 : ∀ (k12 : (Int32 × Int32 × Int32) → fS → Option (Int32 × fS)) (hk12 : ∀ (a1 : Int32) (a2 : Int32) (a3 : Int32) (S : fS), k12 (a1, a2, a3) S = some (v, S1) → Gw D K b0 sa ad P n L f0 p l e { frames := 2, cells := 0, slots := 0, locals := 44 } s m [.ref (ad 2 r0), .int p1].toArray below meth c 5 (MQ below (hQ D K b0 (fun v9 u9 => ∃ f2 : Nat → va_E, v9 = some (.int v) ∧ u9 = lU L f2 ∧ PW K ad P S1 L f2 ∧ S1.2.2.1 = n ∧ Kp ad P L f0 f2)) [.ref (ad 2 r0), .int p1].toArray s 0 0 (fun q => b0 ≤ q)) 0 0 12 [(0, .ref (ad 2 r0)), (1, .int a1), (2, .int a2), (3, .int a3)] [] S) (a1 : Int32) (a3 : Int32) (t0 : Int32) (t1 : Int32) (S : fS), B_X2_layAgain_83 r0 k12 a1 a3 t0 t1 S = some (v, S1) → Gw D K b0 sa ad P n L f0 p l e { frames := 2, cells := 0, slots := 0, locals := 44 } s m [.ref (ad 2 r0), .int p1].toArray below meth c 5 (MQ below (hQ D K b0 (fun v9 u9 => ∃ f2 : Nat → va_E, v9 = some (.int v) ∧ u9 = lU L f2 ∧ PW K ad P S1 L f2 ∧ S1.2.2.1 = n ∧ Kp ad P L f0 f2)) [.ref (ad 2 r0), .int p1].toArray s 0 0 (fun q => b0 ≤ q)) 0 0 83 [(0, .ref (ad 2 r0)), (1, .int a1), (3, .int a3)] [.int t0, .int t1] S := by
    intro k12 hk12 a1 a3 t0 t1 S h
    dsimp only [B_X2_layAgain_83] at h
    intro f H locs w hw hn hk ls hl
    refine lv_iadd hx hb dX2_layAgain_83 ?_
    refine u_iv h (fun x1 h => ?_)
    refine lv_istore_n (lv' := [(2, .int x1), (0, .ref (ad 2 r0)), (1, .int a1), (3, .int a3)]) hx hb dX2_layAgain_84 rfl hl (by decide) rfl (fun ls hl => ?_)
    obtain ⟨x2, ex2, h⟩ := iv_some h
    refine lv_iinc (v := x2) (lv' := [(3, .int x2), (2, .int x1), (0, .ref (ad 2 r0)), (1, .int a1)]) hx hb dX2_layAgain_85 hl (k := 3) rfl ex2.symm (by decide) rfl (fun ls hl => ?_)
    refine lv_goto (tgt := 12) hx hb dX2_layAgain_88 (by decide) ?_
    exact hk12 a1 x1 x2 S h f H locs w hw hn hk ls (lv_sub hl [2, 3, 1, 0] rfl)
  have J66 : ∀ (k12 : (Int32 × Int32 × Int32) → fS → Option (Int32 × fS)) (hk12 : ∀ (a1 : Int32) (a2 : Int32) (a3 : Int32) (S : fS), k12 (a1, a2, a3) S = some (v, S1) → Gw D K b0 sa ad P n L f0 p l e { frames := 2, cells := 0, slots := 0, locals := 44 } s m [.ref (ad 2 r0), .int p1].toArray below meth c 5 (MQ below (hQ D K b0 (fun v9 u9 => ∃ f2 : Nat → va_E, v9 = some (.int v) ∧ u9 = lU L f2 ∧ PW K ad P S1 L f2 ∧ S1.2.2.1 = n ∧ Kp ad P L f0 f2)) [.ref (ad 2 r0), .int p1].toArray s 0 0 (fun q => b0 ≤ q)) 0 0 12 [(0, .ref (ad 2 r0)), (1, .int a1), (2, .int a2), (3, .int a3)] [] S) (a1 : Int32) (a2 : Int32) (a3 : Int32) (a4 : Int32) (S : fS), B_X2_layAgain_66 r0 k12 a1 a2 a3 a4 S = some (v, S1) → Gw D K b0 sa ad P n L f0 p l e { frames := 2, cells := 0, slots := 0, locals := 44 } s m [.ref (ad 2 r0), .int p1].toArray below meth c 5 (MQ below (hQ D K b0 (fun v9 u9 => ∃ f2 : Nat → va_E, v9 = some (.int v) ∧ u9 = lU L f2 ∧ PW K ad P S1 L f2 ∧ S1.2.2.1 = n ∧ Kp ad P L f0 f2)) [.ref (ad 2 r0), .int p1].toArray s 0 0 (fun q => b0 ≤ q)) 0 0 66 [(0, .ref (ad 2 r0)), (1, .int a1), (2, .int a2), (3, .int a3), (4, .int a4)] [] S := by
    intro k12 hk12 a1 a2 a3 a4 S h
    dsimp only [B_X2_layAgain_66] at h
    intro f H locs w hw hn hk ls hl
    refine lv_iload_n hx hb dX2_layAgain_66 rfl (lv_at hl 2 rfl) ?_
    refine lv_aload_n hx hb dX2_layAgain_67 rfl (lv_at hl 0 rfl) ?_
    refine u_getr C w hw (hP _ _ (isn_f rfl rfl hr0)) rfl (N := 9) rfl rfl cin_2 6 (by decide) (by decide) (a2 := 8) (i2 := r0) rfl gw_60 dX2_layAgain_68 ?_
    refine lv_iload_n hx hb dX2_layAgain_71 rfl (lv_at hl 3 rfl) ?_
    obtain ⟨g3, h⟩ := gd_some h
    refine u_iald C w hw (hP _ _ (isn_f rfl rfl hr0)) rfl rfl (n := 24) rfl (vp_in_iff.mpr g3) dX2_layAgain_72 ?_
    refine u_iv h (fun x4 h => ?_)
    refine lv_iload hx hb dX2_layAgain_73 (lv_at hl 4 rfl) ?_
    refine lv_icmp_ne (tgt := 82) hx hb dX2_layAgain_75 (by decide) (fun c5 => ?_) (fun c5 => ?_)
    · have h := bb_f h c5
      refine lv_iconst (v := 1) hx hb dX2_layAgain_82 (by decide) ?_
      exact J83 k12 hk12 a1 a3 1 a2 S h f H locs w hw hn hk ls (lv_sub hl [0, 1, 3] rfl)
    · have h := bb_t h c5
      refine lv_iconst (v := 0) hx hb dX2_layAgain_78 (by decide) ?_
      refine lv_goto (tgt := 83) hx hb dX2_layAgain_79 (by decide) ?_
      exact J83 k12 hk12 a1 a3 0 a2 S h f H locs w hw hn hk ls (lv_sub hl [0, 1, 3] rfl)
  have J12 : ∀ (fu : Nat) (a1 : Int32) (a2 : Int32) (a3 : Int32) (S : fS), lp (B_X2_layAgain_12 r0 ) fu (a1, a2, a3) S = some (v, S1) → Gw D K b0 sa ad P n L f0 p l e { frames := 2, cells := 0, slots := 0, locals := 44 } s m [.ref (ad 2 r0), .int p1].toArray below meth c 5 (MQ below (hQ D K b0 (fun v9 u9 => ∃ f2 : Nat → va_E, v9 = some (.int v) ∧ u9 = lU L f2 ∧ PW K ad P S1 L f2 ∧ S1.2.2.1 = n ∧ Kp ad P L f0 f2)) [.ref (ad 2 r0), .int p1].toArray s 0 0 (fun q => b0 ≤ q)) 0 0 12 [(0, .ref (ad 2 r0)), (1, .int a1), (2, .int a2), (3, .int a3)] [] S := by
    intro fu a1 a2 a3 S h
    refine lp_some (G := (fun q S => Gw D K b0 sa ad P n L f0 p l e { frames := 2, cells := 0, slots := 0, locals := 44 } s m [.ref (ad 2 r0), .int p1].toArray below meth c 5 (MQ below (hQ D K b0 (fun v9 u9 => ∃ f2 : Nat → va_E, v9 = some (.int v) ∧ u9 = lU L f2 ∧ PW K ad P S1 L f2 ∧ S1.2.2.1 = n ∧ Kp ad P L f0 f2)) [.ref (ad 2 r0), .int p1].toArray s 0 0 (fun q => b0 ≤ q)) 0 0 12 [(0, .ref (ad 2 r0)), (1, .int q.1), (2, .int q.2.1), (3, .int q.2.2)] [] S)) (fun k12 hk12 q S h => ?_) fu (a1, a2, a3) S h
    obtain ⟨a1, a2, a3⟩ := q
    have hk12 : ∀ (a1 : Int32) (a2 : Int32) (a3 : Int32) (S : fS), k12 (a1, a2, a3) S = some (v, S1) → Gw D K b0 sa ad P n L f0 p l e { frames := 2, cells := 0, slots := 0, locals := 44 } s m [.ref (ad 2 r0), .int p1].toArray below meth c 5 (MQ below (hQ D K b0 (fun v9 u9 => ∃ f2 : Nat → va_E, v9 = some (.int v) ∧ u9 = lU L f2 ∧ PW K ad P S1 L f2 ∧ S1.2.2.1 = n ∧ Kp ad P L f0 f2)) [.ref (ad 2 r0), .int p1].toArray s 0 0 (fun q => b0 ≤ q)) 0 0 12 [(0, .ref (ad 2 r0)), (1, .int a1), (2, .int a2), (3, .int a3)] [] S := fun a1 a2 a3 S h => hk12 (a1, a2, a3) S h
    dsimp only [B_X2_layAgain_12] at h
    intro f H locs w hw hn hk ls hl
    refine lv_iload_n hx hb dX2_layAgain_12 rfl (lv_at hl 3 rfl) ?_
    refine lv_aload_n hx hb dX2_layAgain_13 rfl (lv_at hl 0 rfl) ?_
    refine u_geti C w hw (hP _ _ (isn_f rfl rfl hr0)) rfl (N := 9) rfl rfl cin_2 0 (by decide) rfl gw_46 dX2_layAgain_14 ?_
    refine u_iv h (fun x6 h => ?_)
    refine lv_icmp_ge (tgt := 91) hx hb dX2_layAgain_17 (by decide) (fun c7 => ?_) (fun c7 => ?_)
    · have h := bb_t h c7
      refine lv_iload_n hx hb dX2_layAgain_91 rfl (lv_at hl 2 rfl) ?_
      exact t_iret C hr hlk w ⟨_, so_v h, rfl, so_w h hw, so_n h hn, hk⟩ (by decide) (by decide) dX2_layAgain_92
    · have h := bb_f h c7
      refine lv_aload_n hx hb dX2_layAgain_20 rfl (lv_at hl 0 rfl) ?_
      refine u_getr C w hw (hP _ _ (isn_f rfl rfl hr0)) rfl (N := 9) rfl rfl cin_2 6 (by decide) (by decide) (a2 := 8) (i2 := r0) rfl gw_60 dX2_layAgain_21 ?_
      refine lv_iload_n hx hb dX2_layAgain_24 rfl (lv_at hl 3 rfl) ?_
      obtain ⟨g8, h⟩ := gd_some h
      refine u_iald C w hw (hP _ _ (isn_f rfl rfl hr0)) rfl rfl (n := 24) rfl (vp_in_iff.mpr g8) dX2_layAgain_25 ?_
      refine u_iv h (fun x9 h => ?_)
      refine lv_istore (lv' := [(4, .int x9), (0, .ref (ad 2 r0)), (1, .int a1), (2, .int a2), (3, .int a3)]) hx hb dX2_layAgain_26 hl (by decide) rfl (fun ls hl => ?_)
      refine lv_aload_n hx hb dX2_layAgain_28 rfl (lv_at hl 1 rfl) ?_
      refine u_getr C w hw (hP _ _ (isn_f rfl rfl hr0)) rfl (N := 9) rfl rfl cin_2 5 (by decide) (by decide) (a2 := 7) (i2 := r0) rfl gw_59 dX2_layAgain_29 ?_
      refine lv_iload_n hx hb dX2_layAgain_32 rfl (lv_at hl 4 rfl) ?_
      obtain ⟨g10, h⟩ := gd_some h
      refine u_iald C w hw (hP _ _ (isn_f rfl rfl hr0)) rfl rfl (n := 24) rfl (vp_in_iff.mpr g10) dX2_layAgain_33 ?_
      refine u_iv h (fun x11 h => ?_)
      refine lv_iload_n hx hb dX2_layAgain_34 rfl (lv_at hl 2 rfl) ?_
      refine lv_icmp_ne (tgt := 55) hx hb dX2_layAgain_35 (by decide) (fun c12 => ?_) (fun c12 => ?_)
      · have h := bb_f h c12
        refine lv_aload_n hx hb dX2_layAgain_55 rfl (lv_at hl 1 rfl) ?_
        refine lv_iload_n hx hb dX2_layAgain_56 rfl (lv_at hl 4 rfl) ?_
        refine lv_aload_n hx hb dX2_layAgain_57 rfl (lv_at hl 1 rfl) ?_
        refine u_getr C w hw (hP _ _ (isn_f rfl rfl hr0)) rfl (N := 9) rfl rfl cin_2 5 (by decide) (by decide) (a2 := 7) (i2 := r0) rfl gw_59 dX2_layAgain_58 ?_
        refine lv_iload_n hx hb dX2_layAgain_61 rfl (lv_at hl 4 rfl) ?_
        obtain ⟨g13, h⟩ := gd_some h
        refine u_iald C w hw (hP _ _ (isn_f rfl rfl hr0)) rfl rfl (n := 24) rfl (vp_in_iff.mpr g13) dX2_layAgain_62 ?_
        refine u_iv h (fun x14 h => ?_)
        obtain ⟨v15, S16, h17, h⟩ := bd_some h
        refine u_callV (n := 2) C w hw (hP _ _ (isn_f rfl rfl hr0)) rfl rfl rfl (c_X2_put l D K b0 sa _ L _ ad P hP S hw hn r0 hr0 a3 x14 v15 S16 h17) gw_514 gw_511 gw_512 gw_513 gw_3 ⟨by decide, by decide, by decide +kernel⟩ rfl rfl ⟨by decide, by decide⟩ rfl hl.1 rfl (Nat.le_of_ble_eq_true rfl) dX2_layAgain_63 ⟨Nat.le_of_ble_eq_true rfl, Nat.le_of_ble_eq_true rfl⟩ (fun v9 u H locs hp w => ?_)
        obtain ⟨f2, rfl, rfl, hw, hn, hk1⟩ := hp
        have hk := hk.tr hk1
        generalize f2 = f at w hw hk
        exact J66 k12 hk12 a1 a2 a3 x9 S16 h f H locs w hw hn hk ls (lv_sub hl [1, 2, 3, 4, 0] rfl)
      · have h := bb_t h c12
        refine lv_aload_n hx hb dX2_layAgain_38 rfl (lv_at hl 1 rfl) ?_
        refine u_getr C w hw (hP _ _ (isn_f rfl rfl hr0)) rfl (N := 9) rfl rfl cin_2 6 (by decide) (by decide) (a2 := 8) (i2 := r0) rfl gw_60 dX2_layAgain_39 ?_
        refine lv_iload_n hx hb dX2_layAgain_42 rfl (lv_at hl 4 rfl) ?_
        refine lv_iconst (v := (-1)) hx hb dX2_layAgain_43 (by decide) ?_
        obtain ⟨g18, h⟩ := gd_some h
        refine u_iast C w hw (hP _ _ (isn_f rfl rfl hr0)) rfl rfl (n := 24) rfl (vp_in_iff.mpr g18) dX2_layAgain_44 (fun f H locs w hw hk1 => ?_)
        have hk := hk.tr hk1
        refine u_sv h hw hn (fun S19 h hw hn => ?_)
        refine lv_aload_n hx hb dX2_layAgain_45 rfl (lv_at hl 1 rfl) ?_
        refine u_getr C w hw (hP _ _ (isn_f rfl rfl hr0)) rfl (N := 9) rfl rfl cin_2 7 (by decide) (by decide) (a2 := 9) (i2 := r0) rfl gw_62 dX2_layAgain_46 ?_
        refine lv_iload_n hx hb dX2_layAgain_49 rfl (lv_at hl 4 rfl) ?_
        refine lv_iconst (v := (-1)) hx hb dX2_layAgain_50 (by decide) ?_
        obtain ⟨g20, h⟩ := gd_some h
        refine u_iast C w hw (hP _ _ (isn_f rfl rfl hr0)) rfl rfl (n := 24) rfl (vp_in_iff.mpr g20) dX2_layAgain_51 (fun f H locs w hw hk1 => ?_)
        have hk := hk.tr hk1
        refine u_sv h hw hn (fun S21 h hw hn => ?_)
        refine lv_goto (tgt := 66) hx hb dX2_layAgain_52 (by decide) ?_
        exact J66 k12 hk12 a1 a2 a3 x9 S21 h f H locs w hw hn hk ls (lv_sub hl [1, 2, 3, 4, 0] rfl)
  dsimp only [F_X2_layAgain] at h
  obtain ⟨f, ef⟩ : ∃ z, z = f0 := ⟨_, rfl⟩
  rw [← ef] at w hw
  have hk : Kp ad P L f0 f := by rw [ef]; exact Kp.rf
  obtain ⟨H, eH⟩ : ∃ z, z = s.heap := ⟨_, rfl⟩
  obtain ⟨locs, el⟩ : ∃ z : List Loc, z = [] := ⟨_, rfl⟩
  rw [← eH, ← el] at w ⊢
  refine lv_iconst (v := 0) hx hb dX2_layAgain_0 (by decide) ?_
  refine lv_istore_n (lv' := [(2, .int 0), (0, .ref (ad 2 r0)), (1, .int p1)]) hx hb dX2_layAgain_1 rfl hl (by decide) rfl (fun ls hl => ?_)
  refine lv_aload_n hx hb dX2_layAgain_2 rfl (lv_at hl 1 rfl) ?_
  refine u_getr C w hw (hP _ _ (isn_f rfl rfl hr0)) rfl (N := 9) rfl rfl cin_2 8 (by decide) (by decide) (a2 := 10) (i2 := r0) rfl gw_63 dX2_layAgain_3 ?_
  refine lv_iconst (v := (-1)) hx hb dX2_layAgain_6 (by decide) ?_
  obtain ⟨v22, S23, h24, h⟩ := bd_some h
  refine t_callS (n := 2) C w (c_fill10 l D K b0 sa _ L _ ad P hP S0 hw hn r0 hr0 (-1) v22 S23 h24) gw_45 gw_43 gw_44 gw_4 ⟨by decide, by decide, by decide +kernel⟩ rfl rfl ⟨by decide, by decide⟩ rfl hl.1 rfl (Nat.le_of_ble_eq_true rfl) dX2_layAgain_7 ⟨Nat.le_of_ble_eq_true rfl, Nat.le_of_ble_eq_true rfl⟩ (fun v9 u H locs hp w => ?_)
  obtain ⟨f2, rfl, rfl, hw, hn, hk1⟩ := hp
  have hk := hk.tr hk1
  generalize f2 = f at w hw hk
  refine lv_iconst (v := 0) hx hb dX2_layAgain_10 (by decide) ?_
  refine lv_istore_n (lv' := [(3, .int 0), (2, .int 0), (0, .ref (ad 2 r0)), (1, .int p1)]) hx hb dX2_layAgain_11 rfl hl (by decide) rfl (fun ls hl => ?_)
  exact J12  fuel p1 0 0 S23 h f H locs w hw hn hk ls (lv_sub hl [2, 3, 1, 0] rfl)
theorem dX2_copyFrom_0 : decode cX2_copyFrom 0 = .ok (.aload_n 0, 1) := by decide +kernel
theorem dX2_copyFrom_1 : decode cX2_copyFrom 1 = .ok (.aload_n 1, 1) := by decide +kernel
theorem dX2_copyFrom_2 : decode cX2_copyFrom 2 = .ok (.getfield 9, 3) := by decide +kernel
theorem dX2_copyFrom_5 : decode cX2_copyFrom 5 = .ok (.putfield 9, 3) := by decide +kernel
theorem dX2_copyFrom_8 : decode cX2_copyFrom 8 = .ok (.aload_n 1, 1) := by decide +kernel
theorem dX2_copyFrom_9 : decode cX2_copyFrom 9 = .ok (.getfield 15, 3) := by decide +kernel
theorem dX2_copyFrom_12 : decode cX2_copyFrom 12 = .ok (.iconst 0, 1) := by decide +kernel
theorem dX2_copyFrom_13 : decode cX2_copyFrom 13 = .ok (.aload_n 0, 1) := by decide +kernel
theorem dX2_copyFrom_14 : decode cX2_copyFrom 14 = .ok (.getfield 15, 3) := by decide +kernel
theorem dX2_copyFrom_17 : decode cX2_copyFrom 17 = .ok (.iconst 0, 1) := by decide +kernel
theorem dX2_copyFrom_18 : decode cX2_copyFrom 18 = .ok (.bipush 24, 2) := by decide +kernel
theorem dX2_copyFrom_20 : decode cX2_copyFrom 20 = .ok (.invokestatic 73, 3) := by decide +kernel
theorem dX2_copyFrom_23 : decode cX2_copyFrom 23 = .ok (.aload_n 1, 1) := by decide +kernel
theorem dX2_copyFrom_24 : decode cX2_copyFrom 24 = .ok (.getfield 19, 3) := by decide +kernel
theorem dX2_copyFrom_27 : decode cX2_copyFrom 27 = .ok (.iconst 0, 1) := by decide +kernel
theorem dX2_copyFrom_28 : decode cX2_copyFrom 28 = .ok (.aload_n 0, 1) := by decide +kernel
theorem dX2_copyFrom_29 : decode cX2_copyFrom 29 = .ok (.getfield 19, 3) := by decide +kernel
theorem dX2_copyFrom_32 : decode cX2_copyFrom 32 = .ok (.iconst 0, 1) := by decide +kernel
theorem dX2_copyFrom_33 : decode cX2_copyFrom 33 = .ok (.bipush 24, 2) := by decide +kernel
theorem dX2_copyFrom_35 : decode cX2_copyFrom 35 = .ok (.invokestatic 73, 3) := by decide +kernel
theorem dX2_copyFrom_38 : decode cX2_copyFrom 38 = .ok (.aload_n 1, 1) := by decide +kernel
theorem dX2_copyFrom_39 : decode cX2_copyFrom 39 = .ok (.getfield 22, 3) := by decide +kernel
theorem dX2_copyFrom_42 : decode cX2_copyFrom 42 = .ok (.iconst 0, 1) := by decide +kernel
theorem dX2_copyFrom_43 : decode cX2_copyFrom 43 = .ok (.aload_n 0, 1) := by decide +kernel
theorem dX2_copyFrom_44 : decode cX2_copyFrom 44 = .ok (.getfield 22, 3) := by decide +kernel
theorem dX2_copyFrom_47 : decode cX2_copyFrom 47 = .ok (.iconst 0, 1) := by decide +kernel
theorem dX2_copyFrom_48 : decode cX2_copyFrom 48 = .ok (.bipush 24, 2) := by decide +kernel
theorem dX2_copyFrom_50 : decode cX2_copyFrom 50 = .ok (.invokestatic 73, 3) := by decide +kernel
theorem dX2_copyFrom_53 : decode cX2_copyFrom 53 = .ok (.aload_n 1, 1) := by decide +kernel
theorem dX2_copyFrom_54 : decode cX2_copyFrom 54 = .ok (.getfield 25, 3) := by decide +kernel
theorem dX2_copyFrom_57 : decode cX2_copyFrom 57 = .ok (.iconst 0, 1) := by decide +kernel
theorem dX2_copyFrom_58 : decode cX2_copyFrom 58 = .ok (.aload_n 0, 1) := by decide +kernel
theorem dX2_copyFrom_59 : decode cX2_copyFrom 59 = .ok (.getfield 25, 3) := by decide +kernel
theorem dX2_copyFrom_62 : decode cX2_copyFrom 62 = .ok (.iconst 0, 1) := by decide +kernel
theorem dX2_copyFrom_63 : decode cX2_copyFrom 63 = .ok (.bipush 24, 2) := by decide +kernel
theorem dX2_copyFrom_65 : decode cX2_copyFrom 65 = .ok (.invokestatic 73, 3) := by decide +kernel
theorem dX2_copyFrom_68 : decode cX2_copyFrom 68 = .ok (.aload_n 1, 1) := by decide +kernel
theorem dX2_copyFrom_69 : decode cX2_copyFrom 69 = .ok (.getfield 28, 3) := by decide +kernel
theorem dX2_copyFrom_72 : decode cX2_copyFrom 72 = .ok (.iconst 0, 1) := by decide +kernel
theorem dX2_copyFrom_73 : decode cX2_copyFrom 73 = .ok (.aload_n 0, 1) := by decide +kernel
theorem dX2_copyFrom_74 : decode cX2_copyFrom 74 = .ok (.getfield 28, 3) := by decide +kernel
theorem dX2_copyFrom_77 : decode cX2_copyFrom 77 = .ok (.iconst 0, 1) := by decide +kernel
theorem dX2_copyFrom_78 : decode cX2_copyFrom 78 = .ok (.bipush 24, 2) := by decide +kernel
theorem dX2_copyFrom_80 : decode cX2_copyFrom 80 = .ok (.invokestatic 73, 3) := by decide +kernel
theorem dX2_copyFrom_83 : decode cX2_copyFrom 83 = .ok (.aload_n 1, 1) := by decide +kernel
theorem dX2_copyFrom_84 : decode cX2_copyFrom 84 = .ok (.getfield 31, 3) := by decide +kernel
theorem dX2_copyFrom_87 : decode cX2_copyFrom 87 = .ok (.iconst 0, 1) := by decide +kernel
theorem dX2_copyFrom_88 : decode cX2_copyFrom 88 = .ok (.aload_n 0, 1) := by decide +kernel
theorem dX2_copyFrom_89 : decode cX2_copyFrom 89 = .ok (.getfield 31, 3) := by decide +kernel
theorem dX2_copyFrom_92 : decode cX2_copyFrom 92 = .ok (.iconst 0, 1) := by decide +kernel
theorem dX2_copyFrom_93 : decode cX2_copyFrom 93 = .ok (.bipush 24, 2) := by decide +kernel
theorem dX2_copyFrom_95 : decode cX2_copyFrom 95 = .ok (.invokestatic 73, 3) := by decide +kernel
theorem dX2_copyFrom_98 : decode cX2_copyFrom 98 = .ok (.aload_n 1, 1) := by decide +kernel
theorem dX2_copyFrom_99 : decode cX2_copyFrom 99 = .ok (.getfield 34, 3) := by decide +kernel
theorem dX2_copyFrom_102 : decode cX2_copyFrom 102 = .ok (.iconst 0, 1) := by decide +kernel
theorem dX2_copyFrom_103 : decode cX2_copyFrom 103 = .ok (.aload_n 0, 1) := by decide +kernel
theorem dX2_copyFrom_104 : decode cX2_copyFrom 104 = .ok (.getfield 34, 3) := by decide +kernel
theorem dX2_copyFrom_107 : decode cX2_copyFrom 107 = .ok (.iconst 0, 1) := by decide +kernel
theorem dX2_copyFrom_108 : decode cX2_copyFrom 108 = .ok (.bipush 24, 2) := by decide +kernel
theorem dX2_copyFrom_110 : decode cX2_copyFrom 110 = .ok (.invokestatic 73, 3) := by decide +kernel
theorem dX2_copyFrom_113 : decode cX2_copyFrom 113 = .ok (.aload_n 1, 1) := by decide +kernel
theorem dX2_copyFrom_114 : decode cX2_copyFrom 114 = .ok (.getfield 37, 3) := by decide +kernel
theorem dX2_copyFrom_117 : decode cX2_copyFrom 117 = .ok (.iconst 0, 1) := by decide +kernel
theorem dX2_copyFrom_118 : decode cX2_copyFrom 118 = .ok (.aload_n 0, 1) := by decide +kernel
theorem dX2_copyFrom_119 : decode cX2_copyFrom 119 = .ok (.getfield 37, 3) := by decide +kernel
theorem dX2_copyFrom_122 : decode cX2_copyFrom 122 = .ok (.iconst 0, 1) := by decide +kernel
theorem dX2_copyFrom_123 : decode cX2_copyFrom 123 = .ok (.bipush 64, 2) := by decide +kernel
theorem dX2_copyFrom_125 : decode cX2_copyFrom 125 = .ok (.invokestatic 73, 3) := by decide +kernel
theorem dX2_copyFrom_128 : decode cX2_copyFrom 128 = .ok (.return_, 1) := by decide +kernel
noncomputable def F_X2_copyFrom (r0 : Nat) (r1 : Nat) (S0 : fS) : Option (Int32 × fS) := iv (ge S0 2 r1 0) (fun x1 => sv (pu S0 2 r0 0 x1) (fun S2 => sv (pb S2 3 r0 (fun j => if j < (24 : Int32).toNatClampNeg then ge S2 3 r1 j else ge S2 3 r0 j)) (fun S3 => sv (pb S3 4 r0 (fun j => if j < (24 : Int32).toNatClampNeg then ge S3 4 r1 j else ge S3 4 r0 j)) (fun S4 => sv (pb S4 5 r0 (fun j => if j < (24 : Int32).toNatClampNeg then ge S4 5 r1 j else ge S4 5 r0 j)) (fun S5 => sv (pb S5 6 r0 (fun j => if j < (24 : Int32).toNatClampNeg then ge S5 6 r1 j else ge S5 6 r0 j)) (fun S6 => sv (pb S6 7 r0 (fun j => if j < (24 : Int32).toNatClampNeg then ge S6 7 r1 j else ge S6 7 r0 j)) (fun S7 => sv (pb S7 8 r0 (fun j => if j < (24 : Int32).toNatClampNeg then ge S7 8 r1 j else ge S7 8 r0 j)) (fun S8 => sv (pb S8 9 r0 (fun j => if j < (24 : Int32).toNatClampNeg then ge S8 9 r1 j else ge S8 9 r0 j)) (fun S9 => sv (pb S9 10 r0 (fun j => if j < (64 : Int32).toNatClampNeg then ge S9 10 r1 j else ge S9 10 r0 j)) (fun S10 => some (0, S10)))))))))))
set_option maxHeartbeats 4000000 in
set_option maxRecDepth 100000 in
theorem c_X2_copyFrom (l : Launch) (D : va_G) (K : Nat → ClassId) (b0 : Nat) (sa : sT) (sz : Nat) (L : List Nat) (f0 : Nat → va_E) (ad : Nat → Nat → Nat) (P : Nat → Nat → Prop) {n : Nat × Nat} (hP : ∀ a i : Nat, isn n a i → P a i) (S0 : fS) (hw : PW K ad P S0 L f0) (hn : S0.2.2.1 = n) (r0 : Nat) (hr0 : r0 < 5) (r1 : Nat) (hr1 : r1 < 5) (v : Int32) (S1 : fS) (h : F_X2_copyFrom r0 r1 S0 = some (v, S1)) : Met l yX2_copyFrom (.code yX2_copyFrom cX2_copyFrom 2 none :: gt) { frames := 1, cells := 0, slots := 0, locals := 60 } (va_Pc [.ref (ad 2 r0), .ref (ad 2 r1)] (hPre D K b0 sa sz L f0)) (hQ D K b0 (fun v9 u9 => ∃ f2 : Nat → va_E, v9 = none ∧ u9 = lU L f2 ∧ PW K ad P S1 L f2 ∧ S1.2.2.1 = n ∧ Kp ad P L f0 f2)) 0 0 (fun q => b0 ≤ q) := by
  refine t_of (own := RX2) (by decide) rfl ?_ (Nat.le_of_ble_eq_true rfl)
  intro p e s m below meth c ls C w hsz hr hlk hnm hl
  have hx := C.1
  have hb := C.2.1
  have hl : lv_has ls 2 [(0, .ref (ad 2 r0)), (1, .ref (ad 2 r1))] := hl
  dsimp only [F_X2_copyFrom] at h
  obtain ⟨f, ef⟩ : ∃ z, z = f0 := ⟨_, rfl⟩
  rw [← ef] at w hw
  have hk : Kp ad P L f0 f := by rw [ef]; exact Kp.rf
  obtain ⟨H, eH⟩ : ∃ z, z = s.heap := ⟨_, rfl⟩
  obtain ⟨locs, el⟩ : ∃ z : List Loc, z = [] := ⟨_, rfl⟩
  rw [← eH, ← el] at w ⊢
  refine lv_aload_n hx hb dX2_copyFrom_0 rfl (lv_at hl 0 rfl) ?_
  refine lv_aload_n hx hb dX2_copyFrom_1 rfl (lv_at hl 1 rfl) ?_
  refine u_geti C w hw (hP _ _ (isn_f rfl rfl hr1)) rfl (N := 9) rfl rfl cin_2 0 (by decide) rfl gw_46 dX2_copyFrom_2 ?_
  refine u_iv h (fun x1 h => ?_)
  refine u_puti C w hw (hP _ _ (isn_f rfl rfl hr0)) rfl (N := 9) rfl rfl cin_2 tyX2 tyX2_ok nmX2 0 (by decide) rfl rfl rfl rfl gw_46 dX2_copyFrom_5 (fun f H locs w hw hk1 => ?_)
  have hk := hk.tr hk1
  refine u_sv h hw hn (fun S2 h hw hn => ?_)
  refine lv_aload_n hx hb dX2_copyFrom_8 rfl (lv_at hl 1 rfl) ?_
  refine u_getr C w hw (hP _ _ (isn_f rfl rfl hr1)) rfl (N := 9) rfl rfl cin_2 1 (by decide) (by decide) (a2 := 3) (i2 := r1) rfl gw_48 dX2_copyFrom_9 ?_
  refine lv_iconst (v := 0) hx hb dX2_copyFrom_12 (by decide) ?_
  refine lv_aload_n hx hb dX2_copyFrom_13 rfl (lv_at hl 0 rfl) ?_
  refine u_getr C w hw (hP _ _ (isn_f rfl rfl hr0)) rfl (N := 9) rfl rfl cin_2 1 (by decide) (by decide) (a2 := 3) (i2 := r0) rfl gw_48 dX2_copyFrom_14 ?_
  refine lv_iconst (v := 0) hx hb dX2_copyFrom_17 (by decide) ?_
  refine lv_bipush (v := 24) hx hb dX2_copyFrom_18 (by decide) ?_
  refine u_copy C w hw (hP _ _ (isn_f rfl rfl hr1)) rfl rfl (hP _ _ (isn_f rfl rfl hr0)) rfl rfl (n1 := 24) (n2 := 24) rfl rfl hl.1 gw_528 gw_530 gw_529 gw_21 (n := 24) (by decide) (by decide) (by decide) (by decide) (by decide) dX2_copyFrom_20 (fun f H locs w hw hk1 => ?_)
  have hk := hk.tr hk1
  refine u_sv h hw hn (fun S3 h hw hn => ?_)
  refine lv_aload_n hx hb dX2_copyFrom_23 rfl (lv_at hl 1 rfl) ?_
  refine u_getr C w hw (hP _ _ (isn_f rfl rfl hr1)) rfl (N := 9) rfl rfl cin_2 2 (by decide) (by decide) (a2 := 4) (i2 := r1) rfl gw_51 dX2_copyFrom_24 ?_
  refine lv_iconst (v := 0) hx hb dX2_copyFrom_27 (by decide) ?_
  refine lv_aload_n hx hb dX2_copyFrom_28 rfl (lv_at hl 0 rfl) ?_
  refine u_getr C w hw (hP _ _ (isn_f rfl rfl hr0)) rfl (N := 9) rfl rfl cin_2 2 (by decide) (by decide) (a2 := 4) (i2 := r0) rfl gw_51 dX2_copyFrom_29 ?_
  refine lv_iconst (v := 0) hx hb dX2_copyFrom_32 (by decide) ?_
  refine lv_bipush (v := 24) hx hb dX2_copyFrom_33 (by decide) ?_
  refine u_copy C w hw (hP _ _ (isn_f rfl rfl hr1)) rfl rfl (hP _ _ (isn_f rfl rfl hr0)) rfl rfl (n1 := 24) (n2 := 24) rfl rfl hl.1 gw_528 gw_530 gw_529 gw_21 (n := 24) (by decide) (by decide) (by decide) (by decide) (by decide) dX2_copyFrom_35 (fun f H locs w hw hk1 => ?_)
  have hk := hk.tr hk1
  refine u_sv h hw hn (fun S4 h hw hn => ?_)
  refine lv_aload_n hx hb dX2_copyFrom_38 rfl (lv_at hl 1 rfl) ?_
  refine u_getr C w hw (hP _ _ (isn_f rfl rfl hr1)) rfl (N := 9) rfl rfl cin_2 3 (by decide) (by decide) (a2 := 5) (i2 := r1) rfl gw_54 dX2_copyFrom_39 ?_
  refine lv_iconst (v := 0) hx hb dX2_copyFrom_42 (by decide) ?_
  refine lv_aload_n hx hb dX2_copyFrom_43 rfl (lv_at hl 0 rfl) ?_
  refine u_getr C w hw (hP _ _ (isn_f rfl rfl hr0)) rfl (N := 9) rfl rfl cin_2 3 (by decide) (by decide) (a2 := 5) (i2 := r0) rfl gw_54 dX2_copyFrom_44 ?_
  refine lv_iconst (v := 0) hx hb dX2_copyFrom_47 (by decide) ?_
  refine lv_bipush (v := 24) hx hb dX2_copyFrom_48 (by decide) ?_
  refine u_copy C w hw (hP _ _ (isn_f rfl rfl hr1)) rfl rfl (hP _ _ (isn_f rfl rfl hr0)) rfl rfl (n1 := 24) (n2 := 24) rfl rfl hl.1 gw_528 gw_530 gw_529 gw_21 (n := 24) (by decide) (by decide) (by decide) (by decide) (by decide) dX2_copyFrom_50 (fun f H locs w hw hk1 => ?_)
  have hk := hk.tr hk1
  refine u_sv h hw hn (fun S5 h hw hn => ?_)
  refine lv_aload_n hx hb dX2_copyFrom_53 rfl (lv_at hl 1 rfl) ?_
  refine u_getr C w hw (hP _ _ (isn_f rfl rfl hr1)) rfl (N := 9) rfl rfl cin_2 4 (by decide) (by decide) (a2 := 6) (i2 := r1) rfl gw_56 dX2_copyFrom_54 ?_
  refine lv_iconst (v := 0) hx hb dX2_copyFrom_57 (by decide) ?_
  refine lv_aload_n hx hb dX2_copyFrom_58 rfl (lv_at hl 0 rfl) ?_
  refine u_getr C w hw (hP _ _ (isn_f rfl rfl hr0)) rfl (N := 9) rfl rfl cin_2 4 (by decide) (by decide) (a2 := 6) (i2 := r0) rfl gw_56 dX2_copyFrom_59 ?_
  refine lv_iconst (v := 0) hx hb dX2_copyFrom_62 (by decide) ?_
  refine lv_bipush (v := 24) hx hb dX2_copyFrom_63 (by decide) ?_
  refine u_copy C w hw (hP _ _ (isn_f rfl rfl hr1)) rfl rfl (hP _ _ (isn_f rfl rfl hr0)) rfl rfl (n1 := 24) (n2 := 24) rfl rfl hl.1 gw_528 gw_530 gw_529 gw_21 (n := 24) (by decide) (by decide) (by decide) (by decide) (by decide) dX2_copyFrom_65 (fun f H locs w hw hk1 => ?_)
  have hk := hk.tr hk1
  refine u_sv h hw hn (fun S6 h hw hn => ?_)
  refine lv_aload_n hx hb dX2_copyFrom_68 rfl (lv_at hl 1 rfl) ?_
  refine u_getr C w hw (hP _ _ (isn_f rfl rfl hr1)) rfl (N := 9) rfl rfl cin_2 5 (by decide) (by decide) (a2 := 7) (i2 := r1) rfl gw_59 dX2_copyFrom_69 ?_
  refine lv_iconst (v := 0) hx hb dX2_copyFrom_72 (by decide) ?_
  refine lv_aload_n hx hb dX2_copyFrom_73 rfl (lv_at hl 0 rfl) ?_
  refine u_getr C w hw (hP _ _ (isn_f rfl rfl hr0)) rfl (N := 9) rfl rfl cin_2 5 (by decide) (by decide) (a2 := 7) (i2 := r0) rfl gw_59 dX2_copyFrom_74 ?_
  refine lv_iconst (v := 0) hx hb dX2_copyFrom_77 (by decide) ?_
  refine lv_bipush (v := 24) hx hb dX2_copyFrom_78 (by decide) ?_
  refine u_copy C w hw (hP _ _ (isn_f rfl rfl hr1)) rfl rfl (hP _ _ (isn_f rfl rfl hr0)) rfl rfl (n1 := 24) (n2 := 24) rfl rfl hl.1 gw_528 gw_530 gw_529 gw_21 (n := 24) (by decide) (by decide) (by decide) (by decide) (by decide) dX2_copyFrom_80 (fun f H locs w hw hk1 => ?_)
  have hk := hk.tr hk1
  refine u_sv h hw hn (fun S7 h hw hn => ?_)
  refine lv_aload_n hx hb dX2_copyFrom_83 rfl (lv_at hl 1 rfl) ?_
  refine u_getr C w hw (hP _ _ (isn_f rfl rfl hr1)) rfl (N := 9) rfl rfl cin_2 6 (by decide) (by decide) (a2 := 8) (i2 := r1) rfl gw_60 dX2_copyFrom_84 ?_
  refine lv_iconst (v := 0) hx hb dX2_copyFrom_87 (by decide) ?_
  refine lv_aload_n hx hb dX2_copyFrom_88 rfl (lv_at hl 0 rfl) ?_
  refine u_getr C w hw (hP _ _ (isn_f rfl rfl hr0)) rfl (N := 9) rfl rfl cin_2 6 (by decide) (by decide) (a2 := 8) (i2 := r0) rfl gw_60 dX2_copyFrom_89 ?_
  refine lv_iconst (v := 0) hx hb dX2_copyFrom_92 (by decide) ?_
  refine lv_bipush (v := 24) hx hb dX2_copyFrom_93 (by decide) ?_
  refine u_copy C w hw (hP _ _ (isn_f rfl rfl hr1)) rfl rfl (hP _ _ (isn_f rfl rfl hr0)) rfl rfl (n1 := 24) (n2 := 24) rfl rfl hl.1 gw_528 gw_530 gw_529 gw_21 (n := 24) (by decide) (by decide) (by decide) (by decide) (by decide) dX2_copyFrom_95 (fun f H locs w hw hk1 => ?_)
  have hk := hk.tr hk1
  refine u_sv h hw hn (fun S8 h hw hn => ?_)
  refine lv_aload_n hx hb dX2_copyFrom_98 rfl (lv_at hl 1 rfl) ?_
  refine u_getr C w hw (hP _ _ (isn_f rfl rfl hr1)) rfl (N := 9) rfl rfl cin_2 7 (by decide) (by decide) (a2 := 9) (i2 := r1) rfl gw_62 dX2_copyFrom_99 ?_
  refine lv_iconst (v := 0) hx hb dX2_copyFrom_102 (by decide) ?_
  refine lv_aload_n hx hb dX2_copyFrom_103 rfl (lv_at hl 0 rfl) ?_
  refine u_getr C w hw (hP _ _ (isn_f rfl rfl hr0)) rfl (N := 9) rfl rfl cin_2 7 (by decide) (by decide) (a2 := 9) (i2 := r0) rfl gw_62 dX2_copyFrom_104 ?_
  refine lv_iconst (v := 0) hx hb dX2_copyFrom_107 (by decide) ?_
  refine lv_bipush (v := 24) hx hb dX2_copyFrom_108 (by decide) ?_
  refine u_copy C w hw (hP _ _ (isn_f rfl rfl hr1)) rfl rfl (hP _ _ (isn_f rfl rfl hr0)) rfl rfl (n1 := 24) (n2 := 24) rfl rfl hl.1 gw_528 gw_530 gw_529 gw_21 (n := 24) (by decide) (by decide) (by decide) (by decide) (by decide) dX2_copyFrom_110 (fun f H locs w hw hk1 => ?_)
  have hk := hk.tr hk1
  refine u_sv h hw hn (fun S9 h hw hn => ?_)
  refine lv_aload_n hx hb dX2_copyFrom_113 rfl (lv_at hl 1 rfl) ?_
  refine u_getr C w hw (hP _ _ (isn_f rfl rfl hr1)) rfl (N := 9) rfl rfl cin_2 8 (by decide) (by decide) (a2 := 10) (i2 := r1) rfl gw_63 dX2_copyFrom_114 ?_
  refine lv_iconst (v := 0) hx hb dX2_copyFrom_117 (by decide) ?_
  refine lv_aload_n hx hb dX2_copyFrom_118 rfl (lv_at hl 0 rfl) ?_
  refine u_getr C w hw (hP _ _ (isn_f rfl rfl hr0)) rfl (N := 9) rfl rfl cin_2 8 (by decide) (by decide) (a2 := 10) (i2 := r0) rfl gw_63 dX2_copyFrom_119 ?_
  refine lv_iconst (v := 0) hx hb dX2_copyFrom_122 (by decide) ?_
  refine lv_bipush (v := 64) hx hb dX2_copyFrom_123 (by decide) ?_
  refine u_copy C w hw (hP _ _ (isn_f rfl rfl hr1)) rfl rfl (hP _ _ (isn_f rfl rfl hr0)) rfl rfl (n1 := 64) (n2 := 64) rfl rfl hl.1 gw_528 gw_530 gw_529 gw_21 (n := 64) (by decide) (by decide) (by decide) (by decide) (by decide) dX2_copyFrom_125 (fun f H locs w hw hk1 => ?_)
  have hk := hk.tr hk1
  refine u_sv h hw hn (fun S10 h hw hn => ?_)
  exact t_vret C hr hlk w ⟨_, rfl, rfl, so_w h hw, so_n h hn, hk⟩ (by decide) (by decide) dX2_copyFrom_128
theorem dX0_copyFrom_0 : decode cX0_copyFrom 0 = .ok (.aload_n 0, 1) := by decide +kernel
theorem dX0_copyFrom_1 : decode cX0_copyFrom 1 = .ok (.getfield 12, 3) := by decide +kernel
theorem dX0_copyFrom_4 : decode cX0_copyFrom 4 = .ok (.aload_n 1, 1) := by decide +kernel
theorem dX0_copyFrom_5 : decode cX0_copyFrom 5 = .ok (.getfield 12, 3) := by decide +kernel
theorem dX0_copyFrom_8 : decode cX0_copyFrom 8 = .ok (.invokevirtual 84, 3) := by decide +kernel
theorem dX0_copyFrom_11 : decode cX0_copyFrom 11 = .ok (.aload_n 0, 1) := by decide +kernel
theorem dX0_copyFrom_12 : decode cX0_copyFrom 12 = .ok (.aload_n 1, 1) := by decide +kernel
theorem dX0_copyFrom_13 : decode cX0_copyFrom 13 = .ok (.getfield 18, 3) := by decide +kernel
theorem dX0_copyFrom_16 : decode cX0_copyFrom 16 = .ok (.putfield 18, 3) := by decide +kernel
theorem dX0_copyFrom_19 : decode cX0_copyFrom 19 = .ok (.aload_n 0, 1) := by decide +kernel
theorem dX0_copyFrom_20 : decode cX0_copyFrom 20 = .ok (.aload_n 1, 1) := by decide +kernel
theorem dX0_copyFrom_21 : decode cX0_copyFrom 21 = .ok (.getfield 22, 3) := by decide +kernel
theorem dX0_copyFrom_24 : decode cX0_copyFrom 24 = .ok (.putfield 22, 3) := by decide +kernel
theorem dX0_copyFrom_27 : decode cX0_copyFrom 27 = .ok (.aload_n 0, 1) := by decide +kernel
theorem dX0_copyFrom_28 : decode cX0_copyFrom 28 = .ok (.aload_n 1, 1) := by decide +kernel
theorem dX0_copyFrom_29 : decode cX0_copyFrom 29 = .ok (.getfield 25, 3) := by decide +kernel
theorem dX0_copyFrom_32 : decode cX0_copyFrom 32 = .ok (.putfield 25, 3) := by decide +kernel
theorem dX0_copyFrom_35 : decode cX0_copyFrom 35 = .ok (.aload_n 0, 1) := by decide +kernel
theorem dX0_copyFrom_36 : decode cX0_copyFrom 36 = .ok (.aload_n 1, 1) := by decide +kernel
theorem dX0_copyFrom_37 : decode cX0_copyFrom 37 = .ok (.getfield 28, 3) := by decide +kernel
theorem dX0_copyFrom_40 : decode cX0_copyFrom 40 = .ok (.putfield 28, 3) := by decide +kernel
theorem dX0_copyFrom_43 : decode cX0_copyFrom 43 = .ok (.aload_n 0, 1) := by decide +kernel
theorem dX0_copyFrom_44 : decode cX0_copyFrom 44 = .ok (.aload_n 1, 1) := by decide +kernel
theorem dX0_copyFrom_45 : decode cX0_copyFrom 45 = .ok (.getfield 31, 3) := by decide +kernel
theorem dX0_copyFrom_48 : decode cX0_copyFrom 48 = .ok (.putfield 31, 3) := by decide +kernel
theorem dX0_copyFrom_51 : decode cX0_copyFrom 51 = .ok (.aload_n 0, 1) := by decide +kernel
theorem dX0_copyFrom_52 : decode cX0_copyFrom 52 = .ok (.aload_n 1, 1) := by decide +kernel
theorem dX0_copyFrom_53 : decode cX0_copyFrom 53 = .ok (.getfield 34, 3) := by decide +kernel
theorem dX0_copyFrom_56 : decode cX0_copyFrom 56 = .ok (.putfield 34, 3) := by decide +kernel
theorem dX0_copyFrom_59 : decode cX0_copyFrom 59 = .ok (.aload_n 0, 1) := by decide +kernel
theorem dX0_copyFrom_60 : decode cX0_copyFrom 60 = .ok (.aload_n 1, 1) := by decide +kernel
theorem dX0_copyFrom_61 : decode cX0_copyFrom 61 = .ok (.getfield 37, 3) := by decide +kernel
theorem dX0_copyFrom_64 : decode cX0_copyFrom 64 = .ok (.putfield 37, 3) := by decide +kernel
theorem dX0_copyFrom_67 : decode cX0_copyFrom 67 = .ok (.aload_n 0, 1) := by decide +kernel
theorem dX0_copyFrom_68 : decode cX0_copyFrom 68 = .ok (.aload_n 1, 1) := by decide +kernel
theorem dX0_copyFrom_69 : decode cX0_copyFrom 69 = .ok (.getfield 40, 3) := by decide +kernel
theorem dX0_copyFrom_72 : decode cX0_copyFrom 72 = .ok (.putfield 40, 3) := by decide +kernel
theorem dX0_copyFrom_75 : decode cX0_copyFrom 75 = .ok (.aload_n 0, 1) := by decide +kernel
theorem dX0_copyFrom_76 : decode cX0_copyFrom 76 = .ok (.aload_n 1, 1) := by decide +kernel
theorem dX0_copyFrom_77 : decode cX0_copyFrom 77 = .ok (.getfield 43, 3) := by decide +kernel
theorem dX0_copyFrom_80 : decode cX0_copyFrom 80 = .ok (.putfield 43, 3) := by decide +kernel
theorem dX0_copyFrom_83 : decode cX0_copyFrom 83 = .ok (.aload_n 0, 1) := by decide +kernel
theorem dX0_copyFrom_84 : decode cX0_copyFrom 84 = .ok (.aload_n 1, 1) := by decide +kernel
theorem dX0_copyFrom_85 : decode cX0_copyFrom 85 = .ok (.getfield 46, 3) := by decide +kernel
theorem dX0_copyFrom_88 : decode cX0_copyFrom 88 = .ok (.putfield 46, 3) := by decide +kernel
theorem dX0_copyFrom_91 : decode cX0_copyFrom 91 = .ok (.aload_n 0, 1) := by decide +kernel
theorem dX0_copyFrom_92 : decode cX0_copyFrom 92 = .ok (.aload_n 1, 1) := by decide +kernel
theorem dX0_copyFrom_93 : decode cX0_copyFrom 93 = .ok (.getfield 55, 3) := by decide +kernel
theorem dX0_copyFrom_96 : decode cX0_copyFrom 96 = .ok (.putfield 55, 3) := by decide +kernel
theorem dX0_copyFrom_99 : decode cX0_copyFrom 99 = .ok (.iconst 0, 1) := by decide +kernel
theorem dX0_copyFrom_100 : decode cX0_copyFrom 100 = .ok (.istore_n 2, 1) := by decide +kernel
theorem dX0_copyFrom_101 : decode cX0_copyFrom 101 = .ok (.iload_n 2, 1) := by decide +kernel
theorem dX0_copyFrom_102 : decode cX0_copyFrom 102 = .ok (.aload_n 0, 1) := by decide +kernel
theorem dX0_copyFrom_103 : decode cX0_copyFrom 103 = .ok (.getfield 55, 3) := by decide +kernel
theorem dX0_copyFrom_106 : decode cX0_copyFrom 106 = .ok (.if_icmp .ge 28, 3) := by decide +kernel
theorem dX0_copyFrom_109 : decode cX0_copyFrom 109 = .ok (.iload_n 2, 1) := by decide +kernel
theorem dX0_copyFrom_110 : decode cX0_copyFrom 110 = .ok (.sipush 200, 3) := by decide +kernel
theorem dX0_copyFrom_113 : decode cX0_copyFrom 113 = .ok (.if_icmp .ge 21, 3) := by decide +kernel
theorem dX0_copyFrom_116 : decode cX0_copyFrom 116 = .ok (.aload_n 0, 1) := by decide +kernel
theorem dX0_copyFrom_117 : decode cX0_copyFrom 117 = .ok (.getfield 51, 3) := by decide +kernel
theorem dX0_copyFrom_120 : decode cX0_copyFrom 120 = .ok (.iload_n 2, 1) := by decide +kernel
theorem dX0_copyFrom_121 : decode cX0_copyFrom 121 = .ok (.aload_n 1, 1) := by decide +kernel
theorem dX0_copyFrom_122 : decode cX0_copyFrom 122 = .ok (.getfield 51, 3) := by decide +kernel
theorem dX0_copyFrom_125 : decode cX0_copyFrom 125 = .ok (.iload_n 2, 1) := by decide +kernel
theorem dX0_copyFrom_126 : decode cX0_copyFrom 126 = .ok (.aaload, 1) := by decide +kernel
theorem dX0_copyFrom_127 : decode cX0_copyFrom 127 = .ok (.aastore, 1) := by decide +kernel
theorem dX0_copyFrom_128 : decode cX0_copyFrom 128 = .ok (.iinc 2 1, 3) := by decide +kernel
theorem dX0_copyFrom_131 : decode cX0_copyFrom 131 = .ok (.goto (-30), 3) := by decide +kernel
theorem dX0_copyFrom_134 : decode cX0_copyFrom 134 = .ok (.return_, 1) := by decide +kernel
noncomputable def B_X0_copyFrom_101 (r0 : Nat) (r1 : Nat) (k101 : (Int32) → fS → Option (Int32 × fS)) : (Int32) → fS → Option (Int32 × fS) := fun a2 S => iv (ge S 1 r0 12) (fun x1 => bb (x1 ≤ a2) (some (0, S)) (bb ((200 : Int32) ≤ a2) (some (0, S)) (gd (ib a2 200) (qv (gr S 11 r1 (a2 : Int32).toNatClampNeg) (fun o5 => gd (ib a2 200) (gd (okb o5 (nT S) = true) (sv (pr S 11 r0 (a2 : Int32).toNatClampNeg (o5)) (fun S8 => iv (a2 + Int32.ofInt 1) (fun x9 => k101 x9 S8)))))))))
noncomputable def F_X0_copyFrom (r0 : Nat) (r1 : Nat) (S0 : fS) : Option (Int32 × fS) := bd (F_X2_copyFrom r0 r1 S0) (fun v10 S11 => iv (ge S11 1 r1 1) (fun x13 => sv (pu S11 1 r0 1 x13) (fun S14 => iv (ge S14 1 r1 2) (fun x15 => sv (pu S14 1 r0 2 x15) (fun S16 => iv (ge S16 1 r1 3) (fun x17 => sv (pu S16 1 r0 3 x17) (fun S18 => iv (ge S18 1 r1 4) (fun x19 => sv (pu S18 1 r0 4 x19) (fun S20 => iv (ge S20 1 r1 5) (fun x21 => sv (pu S20 1 r0 5 x21) (fun S22 => iv (ge S22 1 r1 6) (fun x23 => sv (pu S22 1 r0 6 x23) (fun S24 => iv (ge S24 1 r1 7) (fun x25 => sv (pu S24 1 r0 7 x25) (fun S26 => iv (ge S26 1 r1 8) (fun x27 => sv (pu S26 1 r0 8 x27) (fun S28 => iv (ge S28 1 r1 9) (fun x29 => sv (pu S28 1 r0 9 x29) (fun S30 => iv (ge S30 1 r1 10) (fun x31 => sv (pu S30 1 r0 10 x31) (fun S32 => iv (ge S32 1 r1 12) (fun x33 => sv (pu S32 1 r0 12 x33) (fun S34 => lp (B_X0_copyFrom_101 r0 r1 ) fuel 0 S34)))))))))))))))))))))))
set_option maxHeartbeats 4000000 in
set_option maxRecDepth 100000 in
theorem c_X0_copyFrom (l : Launch) (D : va_G) (K : Nat → ClassId) (b0 : Nat) (sa : sT) (sz : Nat) (L : List Nat) (f0 : Nat → va_E) (ad : Nat → Nat → Nat) (P : Nat → Nat → Prop) {n : Nat × Nat} (hP : ∀ a i : Nat, isn n a i → P a i) (S0 : fS) (hw : PW K ad P S0 L f0) (hn : S0.2.2.1 = n) (r0 : Nat) (hr0 : r0 < 5) (r1 : Nat) (hr1 : r1 < 5) (v : Int32) (S1 : fS) (h : F_X0_copyFrom r0 r1 S0 = some (v, S1)) : Met l yX0_copyFrom (.code yX0_copyFrom cX0_copyFrom 3 none :: gt) { frames := 2, cells := 0, slots := 0, locals := 81 } (va_Pc [.ref (ad 1 r0), .ref (ad 1 r1)] (hPre D K b0 sa sz L f0)) (hQ D K b0 (fun v9 u9 => ∃ f2 : Nat → va_E, v9 = none ∧ u9 = lU L f2 ∧ PW K ad P S1 L f2 ∧ S1.2.2.1 = n ∧ Kp ad P L f0 f2)) 0 0 (fun q => b0 ≤ q) := by
  refine t_of (own := RX0) (by decide) rfl ?_ (Nat.le_of_ble_eq_true rfl)
  intro p e s m below meth c ls C w hsz hr hlk hnm hl
  have hx := C.1
  have hb := C.2.1
  have hl : lv_has ls 3 [(0, .ref (ad 1 r0)), (1, .ref (ad 1 r1))] := hl
  have J101 : ∀ (fu : Nat) (a2 : Int32) (S : fS), lp (B_X0_copyFrom_101 r0 r1 ) fu a2 S = some (v, S1) → Gw D K b0 sa ad P n L f0 p l e { frames := 2, cells := 0, slots := 0, locals := 81 } s m [.ref (ad 1 r0), .ref (ad 1 r1)].toArray below meth c 3 (MQ below (hQ D K b0 (fun v9 u9 => ∃ f2 : Nat → va_E, v9 = none ∧ u9 = lU L f2 ∧ PW K ad P S1 L f2 ∧ S1.2.2.1 = n ∧ Kp ad P L f0 f2)) [.ref (ad 1 r0), .ref (ad 1 r1)].toArray s 0 0 (fun q => b0 ≤ q)) 0 0 101 [(0, .ref (ad 1 r0)), (1, .ref (ad 1 r1)), (2, .int a2)] [] S := by
    intro fu a2 S h
    refine lp_some (G := (fun q S => Gw D K b0 sa ad P n L f0 p l e { frames := 2, cells := 0, slots := 0, locals := 81 } s m [.ref (ad 1 r0), .ref (ad 1 r1)].toArray below meth c 3 (MQ below (hQ D K b0 (fun v9 u9 => ∃ f2 : Nat → va_E, v9 = none ∧ u9 = lU L f2 ∧ PW K ad P S1 L f2 ∧ S1.2.2.1 = n ∧ Kp ad P L f0 f2)) [.ref (ad 1 r0), .ref (ad 1 r1)].toArray s 0 0 (fun q => b0 ≤ q)) 0 0 101 [(0, .ref (ad 1 r0)), (1, .ref (ad 1 r1)), (2, .int q)] [] S)) (fun k101 hk101 q S h => ?_) fu a2 S h
    obtain ⟨a2, e9⟩ : ∃ z, z = q := ⟨_, rfl⟩
    subst e9
    dsimp only [B_X0_copyFrom_101] at h
    intro f H locs w hw hn hk ls hl
    refine lv_iload_n hx hb dX0_copyFrom_101 rfl (lv_at hl 2 rfl) ?_
    refine lv_aload_n hx hb dX0_copyFrom_102 rfl (lv_at hl 0 rfl) ?_
    refine u_geti C w hw (hP _ _ (isn_f rfl rfl hr0)) rfl (N := 13) rfl rfl cin_0 12 (by decide) rfl gw_120 dX0_copyFrom_103 ?_
    refine u_iv h (fun x1 h => ?_)
    refine lv_icmp_ge (tgt := 134) hx hb dX0_copyFrom_106 (by decide) (fun c2 => ?_) (fun c2 => ?_)
    · have h := bb_t h c2
      exact t_vret C hr hlk w ⟨_, rfl, rfl, so_w h hw, so_n h hn, hk⟩ (by decide) (by decide) dX0_copyFrom_134
    · have h := bb_f h c2
      refine lv_iload_n hx hb dX0_copyFrom_109 rfl (lv_at hl 2 rfl) ?_
      refine lv_sipush (v := 200) hx hb dX0_copyFrom_110 (by decide) ?_
      refine lv_icmp_ge (tgt := 134) hx hb dX0_copyFrom_113 (by decide) (fun c3 => ?_) (fun c3 => ?_)
      · have h := bb_t h c3
        exact t_vret C hr hlk w ⟨_, rfl, rfl, so_w h hw, so_n h hn, hk⟩ (by decide) (by decide) dX0_copyFrom_134
      · have h := bb_f h c3
        refine lv_aload_n hx hb dX0_copyFrom_116 rfl (lv_at hl 0 rfl) ?_
        refine u_getr C w hw (hP _ _ (isn_f rfl rfl hr0)) rfl (N := 13) rfl rfl cin_0 11 (by decide) (by decide) (a2 := 11) (i2 := r0) rfl gw_119 dX0_copyFrom_117 ?_
        refine lv_iload_n hx hb dX0_copyFrom_120 rfl (lv_at hl 2 rfl) ?_
        refine lv_aload_n hx hb dX0_copyFrom_121 rfl (lv_at hl 1 rfl) ?_
        refine u_getr C w hw (hP _ _ (isn_f rfl rfl hr1)) rfl (N := 13) rfl rfl cin_0 11 (by decide) (by decide) (a2 := 11) (i2 := r1) rfl gw_119 dX0_copyFrom_122 ?_
        refine lv_iload_n hx hb dX0_copyFrom_125 rfl (lv_at hl 2 rfl) ?_
        obtain ⟨g4, h⟩ := gd_some h
        refine u_aald3 C w hw (hP _ _ (isn_f rfl rfl hr1)) rfl rfl rfl (n := 200) rfl (vp_in_iff.mpr g4) dX0_copyFrom_126 ?_
        refine u_qv h (fun o5 h => ?_)
        obtain ⟨g6, h⟩ := gd_some h
        obtain ⟨g7, h⟩ := gd_some h
        refine u_aastQ3 C w hw (hP _ _ (isn_f rfl rfl hr0)) rfl rfl rfl (n := 200) rfl (vp_in_iff.mpr g6) (fun t9 e9 => (hP _ _ (isn_t25 (nT_lt hn (okb_t g7 e9))))) dX0_copyFrom_127 (fun f H locs w hw hk1 => ?_)
        have hk := hk.tr hk1
        refine u_sv h hw hn (fun S8 h hw hn => ?_)
        obtain ⟨x9, ex9, h⟩ := iv_some h
        refine lv_iinc (v := x9) (lv' := [(2, .int x9), (0, .ref (ad 1 r0)), (1, .ref (ad 1 r1))]) hx hb dX0_copyFrom_128 hl (k := 2) rfl ex9.symm (by decide) rfl (fun ls hl => ?_)
        refine lv_goto (tgt := 101) hx hb dX0_copyFrom_131 (by decide) ?_
        exact hk101 x9 S8 h f H locs w hw hn hk ls (lv_sub hl [1, 2, 0] rfl)
  dsimp only [F_X0_copyFrom] at h
  obtain ⟨f, ef⟩ : ∃ z, z = f0 := ⟨_, rfl⟩
  rw [← ef] at w hw
  have hk : Kp ad P L f0 f := by rw [ef]; exact Kp.rf
  obtain ⟨H, eH⟩ : ∃ z, z = s.heap := ⟨_, rfl⟩
  obtain ⟨locs, el⟩ : ∃ z : List Loc, z = [] := ⟨_, rfl⟩
  rw [← eH, ← el] at w ⊢
  refine lv_aload_n hx hb dX0_copyFrom_0 rfl (lv_at hl 0 rfl) ?_
  refine u_getr C w hw (hP _ _ (isn_f rfl rfl hr0)) rfl (N := 13) rfl rfl cin_0 0 (by decide) (by decide) (a2 := 2) (i2 := r0) rfl gw_88 dX0_copyFrom_1 ?_
  refine lv_aload_n hx hb dX0_copyFrom_4 rfl (lv_at hl 1 rfl) ?_
  refine u_getr C w hw (hP _ _ (isn_f rfl rfl hr1)) rfl (N := 13) rfl rfl cin_0 0 (by decide) (by decide) (a2 := 2) (i2 := r1) rfl gw_88 dX0_copyFrom_5 ?_
  obtain ⟨v10, S11, h12, h⟩ := bd_some h
  refine u_callV (n := 1) C w hw (hP _ _ (isn_f rfl rfl hr0)) rfl rfl rfl (c_X2_copyFrom l D K b0 sa _ L _ ad P hP S0 hw hn r0 hr0 r1 hr1 v10 S11 h12) gw_527 gw_524 gw_525 gw_526 gw_3 ⟨by decide, by decide, by decide +kernel⟩ rfl rfl ⟨by decide, by decide⟩ rfl hl.1 rfl (Nat.le_of_ble_eq_true rfl) dX0_copyFrom_8 ⟨Nat.le_of_ble_eq_true rfl, Nat.le_of_ble_eq_true rfl⟩ (fun v9 u H locs hp w => ?_)
  obtain ⟨f2, rfl, rfl, hw, hn, hk1⟩ := hp
  have hk := hk.tr hk1
  generalize f2 = f at w hw hk
  refine lv_aload_n hx hb dX0_copyFrom_11 rfl (lv_at hl 0 rfl) ?_
  refine lv_aload_n hx hb dX0_copyFrom_12 rfl (lv_at hl 1 rfl) ?_
  refine u_geti C w hw (hP _ _ (isn_f rfl rfl hr1)) rfl (N := 13) rfl rfl cin_0 1 (by decide) rfl gw_91 dX0_copyFrom_13 ?_
  refine u_iv h (fun x13 h => ?_)
  refine u_puti C w hw (hP _ _ (isn_f rfl rfl hr0)) rfl (N := 13) rfl rfl cin_0 tyX0 tyX0_ok nmX0 1 (by decide) rfl rfl rfl rfl gw_91 dX0_copyFrom_16 (fun f H locs w hw hk1 => ?_)
  have hk := hk.tr hk1
  refine u_sv h hw hn (fun S14 h hw hn => ?_)
  refine lv_aload_n hx hb dX0_copyFrom_19 rfl (lv_at hl 0 rfl) ?_
  refine lv_aload_n hx hb dX0_copyFrom_20 rfl (lv_at hl 1 rfl) ?_
  refine u_geti C w hw (hP _ _ (isn_f rfl rfl hr1)) rfl (N := 13) rfl rfl cin_0 2 (by decide) rfl gw_94 dX0_copyFrom_21 ?_
  refine u_iv h (fun x15 h => ?_)
  refine u_puti C w hw (hP _ _ (isn_f rfl rfl hr0)) rfl (N := 13) rfl rfl cin_0 tyX0 tyX0_ok nmX0 2 (by decide) rfl rfl rfl rfl gw_94 dX0_copyFrom_24 (fun f H locs w hw hk1 => ?_)
  have hk := hk.tr hk1
  refine u_sv h hw hn (fun S16 h hw hn => ?_)
  refine lv_aload_n hx hb dX0_copyFrom_27 rfl (lv_at hl 0 rfl) ?_
  refine lv_aload_n hx hb dX0_copyFrom_28 rfl (lv_at hl 1 rfl) ?_
  refine u_geti C w hw (hP _ _ (isn_f rfl rfl hr1)) rfl (N := 13) rfl rfl cin_0 3 (by decide) rfl gw_97 dX0_copyFrom_29 ?_
  refine u_iv h (fun x17 h => ?_)
  refine u_puti C w hw (hP _ _ (isn_f rfl rfl hr0)) rfl (N := 13) rfl rfl cin_0 tyX0 tyX0_ok nmX0 3 (by decide) rfl rfl rfl rfl gw_97 dX0_copyFrom_32 (fun f H locs w hw hk1 => ?_)
  have hk := hk.tr hk1
  refine u_sv h hw hn (fun S18 h hw hn => ?_)
  refine lv_aload_n hx hb dX0_copyFrom_35 rfl (lv_at hl 0 rfl) ?_
  refine lv_aload_n hx hb dX0_copyFrom_36 rfl (lv_at hl 1 rfl) ?_
  refine u_geti C w hw (hP _ _ (isn_f rfl rfl hr1)) rfl (N := 13) rfl rfl cin_0 4 (by decide) rfl gw_100 dX0_copyFrom_37 ?_
  refine u_iv h (fun x19 h => ?_)
  refine u_puti C w hw (hP _ _ (isn_f rfl rfl hr0)) rfl (N := 13) rfl rfl cin_0 tyX0 tyX0_ok nmX0 4 (by decide) rfl rfl rfl rfl gw_100 dX0_copyFrom_40 (fun f H locs w hw hk1 => ?_)
  have hk := hk.tr hk1
  refine u_sv h hw hn (fun S20 h hw hn => ?_)
  refine lv_aload_n hx hb dX0_copyFrom_43 rfl (lv_at hl 0 rfl) ?_
  refine lv_aload_n hx hb dX0_copyFrom_44 rfl (lv_at hl 1 rfl) ?_
  refine u_geti C w hw (hP _ _ (isn_f rfl rfl hr1)) rfl (N := 13) rfl rfl cin_0 5 (by decide) rfl gw_103 dX0_copyFrom_45 ?_
  refine u_iv h (fun x21 h => ?_)
  refine u_puti C w hw (hP _ _ (isn_f rfl rfl hr0)) rfl (N := 13) rfl rfl cin_0 tyX0 tyX0_ok nmX0 5 (by decide) rfl rfl rfl rfl gw_103 dX0_copyFrom_48 (fun f H locs w hw hk1 => ?_)
  have hk := hk.tr hk1
  refine u_sv h hw hn (fun S22 h hw hn => ?_)
  refine lv_aload_n hx hb dX0_copyFrom_51 rfl (lv_at hl 0 rfl) ?_
  refine lv_aload_n hx hb dX0_copyFrom_52 rfl (lv_at hl 1 rfl) ?_
  refine u_geti C w hw (hP _ _ (isn_f rfl rfl hr1)) rfl (N := 13) rfl rfl cin_0 6 (by decide) rfl gw_105 dX0_copyFrom_53 ?_
  refine u_iv h (fun x23 h => ?_)
  refine u_puti C w hw (hP _ _ (isn_f rfl rfl hr0)) rfl (N := 13) rfl rfl cin_0 tyX0 tyX0_ok nmX0 6 (by decide) rfl rfl rfl rfl gw_105 dX0_copyFrom_56 (fun f H locs w hw hk1 => ?_)
  have hk := hk.tr hk1
  refine u_sv h hw hn (fun S24 h hw hn => ?_)
  refine lv_aload_n hx hb dX0_copyFrom_59 rfl (lv_at hl 0 rfl) ?_
  refine lv_aload_n hx hb dX0_copyFrom_60 rfl (lv_at hl 1 rfl) ?_
  refine u_geti C w hw (hP _ _ (isn_f rfl rfl hr1)) rfl (N := 13) rfl rfl cin_0 7 (by decide) rfl gw_107 dX0_copyFrom_61 ?_
  refine u_iv h (fun x25 h => ?_)
  refine u_puti C w hw (hP _ _ (isn_f rfl rfl hr0)) rfl (N := 13) rfl rfl cin_0 tyX0 tyX0_ok nmX0 7 (by decide) rfl rfl rfl rfl gw_107 dX0_copyFrom_64 (fun f H locs w hw hk1 => ?_)
  have hk := hk.tr hk1
  refine u_sv h hw hn (fun S26 h hw hn => ?_)
  refine lv_aload_n hx hb dX0_copyFrom_67 rfl (lv_at hl 0 rfl) ?_
  refine lv_aload_n hx hb dX0_copyFrom_68 rfl (lv_at hl 1 rfl) ?_
  refine u_geti C w hw (hP _ _ (isn_f rfl rfl hr1)) rfl (N := 13) rfl rfl cin_0 8 (by decide) rfl gw_110 dX0_copyFrom_69 ?_
  refine u_iv h (fun x27 h => ?_)
  refine u_puti C w hw (hP _ _ (isn_f rfl rfl hr0)) rfl (N := 13) rfl rfl cin_0 tyX0 tyX0_ok nmX0 8 (by decide) rfl rfl rfl rfl gw_110 dX0_copyFrom_72 (fun f H locs w hw hk1 => ?_)
  have hk := hk.tr hk1
  refine u_sv h hw hn (fun S28 h hw hn => ?_)
  refine lv_aload_n hx hb dX0_copyFrom_75 rfl (lv_at hl 0 rfl) ?_
  refine lv_aload_n hx hb dX0_copyFrom_76 rfl (lv_at hl 1 rfl) ?_
  refine u_geti C w hw (hP _ _ (isn_f rfl rfl hr1)) rfl (N := 13) rfl rfl cin_0 9 (by decide) rfl gw_113 dX0_copyFrom_77 ?_
  refine u_iv h (fun x29 h => ?_)
  refine u_puti C w hw (hP _ _ (isn_f rfl rfl hr0)) rfl (N := 13) rfl rfl cin_0 tyX0 tyX0_ok nmX0 9 (by decide) rfl rfl rfl rfl gw_113 dX0_copyFrom_80 (fun f H locs w hw hk1 => ?_)
  have hk := hk.tr hk1
  refine u_sv h hw hn (fun S30 h hw hn => ?_)
  refine lv_aload_n hx hb dX0_copyFrom_83 rfl (lv_at hl 0 rfl) ?_
  refine lv_aload_n hx hb dX0_copyFrom_84 rfl (lv_at hl 1 rfl) ?_
  refine u_geti C w hw (hP _ _ (isn_f rfl rfl hr1)) rfl (N := 13) rfl rfl cin_0 10 (by decide) rfl gw_116 dX0_copyFrom_85 ?_
  refine u_iv h (fun x31 h => ?_)
  refine u_puti C w hw (hP _ _ (isn_f rfl rfl hr0)) rfl (N := 13) rfl rfl cin_0 tyX0 tyX0_ok nmX0 10 (by decide) rfl rfl rfl rfl gw_116 dX0_copyFrom_88 (fun f H locs w hw hk1 => ?_)
  have hk := hk.tr hk1
  refine u_sv h hw hn (fun S32 h hw hn => ?_)
  refine lv_aload_n hx hb dX0_copyFrom_91 rfl (lv_at hl 0 rfl) ?_
  refine lv_aload_n hx hb dX0_copyFrom_92 rfl (lv_at hl 1 rfl) ?_
  refine u_geti C w hw (hP _ _ (isn_f rfl rfl hr1)) rfl (N := 13) rfl rfl cin_0 12 (by decide) rfl gw_120 dX0_copyFrom_93 ?_
  refine u_iv h (fun x33 h => ?_)
  refine u_puti C w hw (hP _ _ (isn_f rfl rfl hr0)) rfl (N := 13) rfl rfl cin_0 tyX0 tyX0_ok nmX0 12 (by decide) rfl rfl rfl rfl gw_120 dX0_copyFrom_96 (fun f H locs w hw hk1 => ?_)
  have hk := hk.tr hk1
  refine u_sv h hw hn (fun S34 h hw hn => ?_)
  refine lv_iconst (v := 0) hx hb dX0_copyFrom_99 (by decide) ?_
  refine lv_istore_n (lv' := [(2, .int 0), (0, .ref (ad 1 r0)), (1, .ref (ad 1 r1))]) hx hb dX0_copyFrom_100 rfl hl (by decide) rfl (fun ls hl => ?_)
  exact J101  fuel 0 S34 h f H locs w hw hn hk ls (lv_sub hl [1, 2, 0] rfl)
theorem dX0_keep_0 : decode cX0_keep 0 = .ok (.aload_n 0, 1) := by decide +kernel
theorem dX0_keep_1 : decode cX0_keep 1 = .ok (.getfield 55, 3) := by decide +kernel
theorem dX0_keep_4 : decode cX0_keep 4 = .ok (.sipush 200, 3) := by decide +kernel
theorem dX0_keep_7 : decode cX0_keep 7 = .ok (.if_icmp .ge 23, 3) := by decide +kernel
theorem dX0_keep_10 : decode cX0_keep 10 = .ok (.aload_n 0, 1) := by decide +kernel
theorem dX0_keep_11 : decode cX0_keep 11 = .ok (.getfield 51, 3) := by decide +kernel
theorem dX0_keep_14 : decode cX0_keep 14 = .ok (.aload_n 0, 1) := by decide +kernel
theorem dX0_keep_15 : decode cX0_keep 15 = .ok (.getfield 55, 3) := by decide +kernel
theorem dX0_keep_18 : decode cX0_keep 18 = .ok (.aload_n 1, 1) := by decide +kernel
theorem dX0_keep_19 : decode cX0_keep 19 = .ok (.aastore, 1) := by decide +kernel
theorem dX0_keep_20 : decode cX0_keep 20 = .ok (.aload_n 0, 1) := by decide +kernel
theorem dX0_keep_21 : decode cX0_keep 21 = .ok (.dup, 1) := by decide +kernel
theorem dX0_keep_22 : decode cX0_keep 22 = .ok (.getfield 55, 3) := by decide +kernel
theorem dX0_keep_25 : decode cX0_keep 25 = .ok (.iconst 1, 1) := by decide +kernel
theorem dX0_keep_26 : decode cX0_keep 26 = .ok (.iadd, 1) := by decide +kernel
theorem dX0_keep_27 : decode cX0_keep 27 = .ok (.putfield 55, 3) := by decide +kernel
theorem dX0_keep_30 : decode cX0_keep 30 = .ok (.return_, 1) := by decide +kernel
noncomputable def F_X0_keep (r0 : Nat) (r1 : Nat) (S0 : fS) : Option (Int32 × fS) := iv (ge S0 1 r0 12) (fun x1 => bb ((200 : Int32) ≤ x1) (some (0, S0)) (iv (ge S0 1 r0 12) (fun x3 => gd (ib x3 200) (sv (pr S0 11 r0 (x3 : Int32).toNatClampNeg (some r1)) (fun S5 => iv (ge S5 1 r0 12) (fun x6 => iv (x6 + (1 : Int32)) (fun x7 => sv (pu S5 1 r0 12 x7) (fun S8 => some (0, S8)))))))))
set_option maxHeartbeats 4000000 in
set_option maxRecDepth 100000 in
theorem c_X0_keep (l : Launch) (D : va_G) (K : Nat → ClassId) (b0 : Nat) (sa : sT) (sz : Nat) (L : List Nat) (f0 : Nat → va_E) (ad : Nat → Nat → Nat) (P : Nat → Nat → Prop) {n : Nat × Nat} (hP : ∀ a i : Nat, isn n a i → P a i) (S0 : fS) (hw : PW K ad P S0 L f0) (hn : S0.2.2.1 = n) (r0 : Nat) (hr0 : r0 < 5) (r1 : Nat) (hr1 : r1 < n.1) (v : Int32) (S1 : fS) (h : F_X0_keep r0 r1 S0 = some (v, S1)) : Met l yX0_keep (.code yX0_keep cX0_keep 2 none :: gt) { frames := 0, cells := 0, slots := 0, locals := 0 } (va_Pc [.ref (ad 1 r0), .ref (ad 25 r1)] (hPre D K b0 sa sz L f0)) (hQ D K b0 (fun v9 u9 => ∃ f2 : Nat → va_E, v9 = none ∧ u9 = lU L f2 ∧ PW K ad P S1 L f2 ∧ S1.2.2.1 = n ∧ Kp ad P L f0 f2)) 0 0 (fun q => b0 ≤ q) := by
  refine t_of (own := RX0) (by decide) rfl ?_ (Nat.le_of_ble_eq_true rfl)
  intro p e s m below meth c ls C w hsz hr hlk hnm hl
  have hx := C.1
  have hb := C.2.1
  have hl : lv_has ls 2 [(0, .ref (ad 1 r0)), (1, .ref (ad 25 r1))] := hl
  dsimp only [F_X0_keep] at h
  obtain ⟨f, ef⟩ : ∃ z, z = f0 := ⟨_, rfl⟩
  rw [← ef] at w hw
  have hk : Kp ad P L f0 f := by rw [ef]; exact Kp.rf
  obtain ⟨H, eH⟩ : ∃ z, z = s.heap := ⟨_, rfl⟩
  obtain ⟨locs, el⟩ : ∃ z : List Loc, z = [] := ⟨_, rfl⟩
  rw [← eH, ← el] at w ⊢
  refine lv_aload_n hx hb dX0_keep_0 rfl (lv_at hl 0 rfl) ?_
  refine u_geti C w hw (hP _ _ (isn_f rfl rfl hr0)) rfl (N := 13) rfl rfl cin_0 12 (by decide) rfl gw_120 dX0_keep_1 ?_
  refine u_iv h (fun x1 h => ?_)
  refine lv_sipush (v := 200) hx hb dX0_keep_4 (by decide) ?_
  refine lv_icmp_ge (tgt := 30) hx hb dX0_keep_7 (by decide) (fun c2 => ?_) (fun c2 => ?_)
  · have h := bb_t h c2
    exact t_vret C hr hlk w ⟨_, rfl, rfl, so_w h hw, so_n h hn, hk⟩ (by decide) (by decide) dX0_keep_30
  · have h := bb_f h c2
    refine lv_aload_n hx hb dX0_keep_10 rfl (lv_at hl 0 rfl) ?_
    refine u_getr C w hw (hP _ _ (isn_f rfl rfl hr0)) rfl (N := 13) rfl rfl cin_0 11 (by decide) (by decide) (a2 := 11) (i2 := r0) rfl gw_119 dX0_keep_11 ?_
    refine lv_aload_n hx hb dX0_keep_14 rfl (lv_at hl 0 rfl) ?_
    refine u_geti C w hw (hP _ _ (isn_f rfl rfl hr0)) rfl (N := 13) rfl rfl cin_0 12 (by decide) rfl gw_120 dX0_keep_15 ?_
    refine u_iv h (fun x3 h => ?_)
    refine lv_aload_n hx hb dX0_keep_18 rfl (lv_at hl 1 rfl) ?_
    obtain ⟨g4, h⟩ := gd_some h
    refine u_aast3 C w hw (hP _ _ (isn_f rfl rfl hr0)) rfl rfl rfl (n := 200) rfl (vp_in_iff.mpr g4) (hP _ _ (isn_t25 hr1)) dX0_keep_19 (fun f H locs w hw hk1 => ?_)
    have hk := hk.tr hk1
    refine u_sv h hw hn (fun S5 h hw hn => ?_)
    refine lv_aload_n hx hb dX0_keep_20 rfl (lv_at hl 0 rfl) ?_
    refine lv_dup hx hb dX0_keep_21 rfl ?_
    refine u_geti C w hw (hP _ _ (isn_f rfl rfl hr0)) rfl (N := 13) rfl rfl cin_0 12 (by decide) rfl gw_120 dX0_keep_22 ?_
    refine u_iv h (fun x6 h => ?_)
    refine lv_iconst (v := 1) hx hb dX0_keep_25 (by decide) ?_
    refine lv_iadd hx hb dX0_keep_26 ?_
    refine u_iv h (fun x7 h => ?_)
    refine u_puti C w hw (hP _ _ (isn_f rfl rfl hr0)) rfl (N := 13) rfl rfl cin_0 tyX0 tyX0_ok nmX0 12 (by decide) rfl rfl rfl rfl gw_120 dX0_keep_27 (fun f H locs w hw hk1 => ?_)
    have hk := hk.tr hk1
    refine u_sv h hw hn (fun S8 h hw hn => ?_)
    exact t_vret C hr hlk w ⟨_, rfl, rfl, so_w h hw, so_n h hn, hk⟩ (by decide) (by decide) dX0_keep_30
theorem dX0_recordAt_0 : decode cX0_recordAt 0 = .ok (.iload_n 1, 1) := by decide +kernel
theorem dX0_recordAt_1 : decode cX0_recordAt 1 = .ok (.ifCond .lt 19, 3) := by decide +kernel
theorem dX0_recordAt_4 : decode cX0_recordAt 4 = .ok (.iload_n 1, 1) := by decide +kernel
theorem dX0_recordAt_5 : decode cX0_recordAt 5 = .ok (.sipush 200, 3) := by decide +kernel
theorem dX0_recordAt_8 : decode cX0_recordAt 8 = .ok (.if_icmp .ge 12, 3) := by decide +kernel
theorem dX0_recordAt_11 : decode cX0_recordAt 11 = .ok (.aload_n 0, 1) := by decide +kernel
theorem dX0_recordAt_12 : decode cX0_recordAt 12 = .ok (.getfield 51, 3) := by decide +kernel
theorem dX0_recordAt_15 : decode cX0_recordAt 15 = .ok (.iload_n 1, 1) := by decide +kernel
theorem dX0_recordAt_16 : decode cX0_recordAt 16 = .ok (.aaload, 1) := by decide +kernel
theorem dX0_recordAt_17 : decode cX0_recordAt 17 = .ok (.goto 4, 3) := by decide +kernel
theorem dX0_recordAt_20 : decode cX0_recordAt 20 = .ok (.aconst_null, 1) := by decide +kernel
theorem dX0_recordAt_21 : decode cX0_recordAt 21 = .ok (.astore_n 2, 1) := by decide +kernel
theorem dX0_recordAt_22 : decode cX0_recordAt 22 = .ok (.aload_n 2, 1) := by decide +kernel
theorem dX0_recordAt_23 : decode cX0_recordAt 23 = .ok (.ifnonnull 13, 3) := by decide +kernel
theorem dX0_recordAt_26 : decode cX0_recordAt 26 = .ok (.new 49, 3) := by decide +kernel
theorem dX0_recordAt_29 : decode cX0_recordAt 29 = .ok (.dup, 1) := by decide +kernel
theorem dX0_recordAt_30 : decode cX0_recordAt 30 = .ok (.invokespecial 83, 3) := by decide +kernel
theorem dX0_recordAt_33 : decode cX0_recordAt 33 = .ok (.goto 4, 3) := by decide +kernel
theorem dX0_recordAt_36 : decode cX0_recordAt 36 = .ok (.aload_n 2, 1) := by decide +kernel
theorem dX0_recordAt_37 : decode cX0_recordAt 37 = .ok (.areturn, 1) := by decide +kernel
noncomputable def B_X0_recordAt_21 (r0 : Nat) (t0 : Option Nat) (S : fS) : Option (Nat × fS) := oc t0 (none) (fun t1 => gd (t1 < nT S) (some (t1, S)))
noncomputable def B_X0_recordAt_20 (r0 : Nat) (S : fS) : Option (Nat × fS) := B_X0_recordAt_21 r0  none S
noncomputable def F_X0_recordAt (r0 : Nat) (p1 : Int32) (S0 : fS) : Option (Nat × fS) := bb (p1 < (0 : Int32)) (B_X0_recordAt_20 r0   S0) (bb ((200 : Int32) ≤ p1) (B_X0_recordAt_20 r0   S0) (gd (ib p1 200) (qv (gr S0 11 r0 (p1 : Int32).toNatClampNeg) (fun o6 => B_X0_recordAt_21 r0  o6 S0))))
set_option maxHeartbeats 4000000 in
set_option maxRecDepth 100000 in
theorem c_X0_recordAt (l : Launch) (D : va_G) (K : Nat → ClassId) (b0 : Nat) (sa : sT) (sz : Nat) (L : List Nat) (f0 : Nat → va_E) (ad : Nat → Nat → Nat) (P : Nat → Nat → Prop) {n : Nat × Nat} (hP : ∀ a i : Nat, isn n a i → P a i) (S0 : fS) (hw : PW K ad P S0 L f0) (hn : S0.2.2.1 = n) (r0 : Nat) (hr0 : r0 < 5) (p1 : Int32) (v : Nat) (S1 : fS) (h : F_X0_recordAt r0 p1 S0 = some (v, S1)) : Met l yX0_recordAt (.code yX0_recordAt cX0_recordAt 3 (some (.object "ClawBoxes$Try")) :: gt) { frames := 0, cells := 0, slots := 0, locals := 0 } (va_Pc [.ref (ad 1 r0), .int p1] (hPre D K b0 sa sz L f0)) (hQ D K b0 (fun v9 u9 => ∃ f2 : Nat → va_E, v9 = some (.ref (ad 25 v)) ∧ u9 = lU L f2 ∧ PW K ad P S1 L f2 ∧ S1.2.2.1 = n ∧ Kp ad P L f0 f2)) 0 0 (fun q => b0 ≤ q) := by
  refine t_of (own := RX0) (by decide) rfl ?_ (Nat.le_of_ble_eq_true rfl)
  intro p e s m below meth c ls C w hsz hr hlk hnm hl
  have hx := C.1
  have hb := C.2.1
  have hl : lv_has ls 3 [(0, .ref (ad 1 r0)), (1, .int p1)] := hl
  have J21 : ∀ (t0 : Option Nat) (S : fS), B_X0_recordAt_21 r0  t0 S = some (v, S1) → Gw D K b0 sa ad P n L f0 p l e { frames := 0, cells := 0, slots := 0, locals := 0 } s m [.ref (ad 1 r0), .int p1].toArray below meth c 3 (MQ below (hQ D K b0 (fun v9 u9 => ∃ f2 : Nat → va_E, v9 = some (.ref (ad 25 v)) ∧ u9 = lU L f2 ∧ PW K ad P S1 L f2 ∧ S1.2.2.1 = n ∧ Kp ad P L f0 f2)) [.ref (ad 1 r0), .int p1].toArray s 0 0 (fun q => b0 ≤ q)) 0 0 21 [] [va_rf (t0.map (ad 25))] S := by
    intro t0 S h
    dsimp only [B_X0_recordAt_21] at h
    intro f H locs w hw hn hk ls hl
    refine lv_astore_nQ (lv' := [(2, va_rf (t0.map (ad 25)))]) hx hb dX0_recordAt_21 rfl hl (by decide) (by cases t0 <;> rfl) (fun ls hl => ?_)
    refine lv_aload_nQ hx hb dX0_recordAt_22 rfl (lv_at hl 0 rfl) ?_
    have h9 := oc_some h
    clear h
    rcases h9 with ⟨e9, hz⟩ | ⟨t1, e9, hz⟩
    · subst e9
      have h := hz
      have hl : lv_has ls 3 [(2, .null)] := hl
      refine lv_ifnonnullN hx hb dX0_recordAt_23 ?_
      exact no_so h
    · subst e9
      obtain ⟨g2, h⟩ := gd_some hz
      have ht1 : t1 < n.1 := nT_lt hn g2
      have hl : lv_has ls 3 [(2, .ref (ad 25 t1))] := hl
      refine lv_ifnonnull (tgt := 36) hx hb dX0_recordAt_23 (by decide) ?_
      refine lv_aload_n hx hb dX0_recordAt_36 rfl (lv_at hl 0 rfl) ?_
      exact t_aret C hr (Or.inl ⟨_, rfl⟩) hlk w (Or.inr ⟨_, rfl⟩) ⟨_, sq_v h (fun z => Value.ref (ad 25 z)), rfl, sq_w h hw, sq_n h hn, hk⟩ (by decide) (by decide) dX0_recordAt_37
  have J20 : ∀ (S : fS), B_X0_recordAt_20 r0   S = some (v, S1) → Gw D K b0 sa ad P n L f0 p l e { frames := 0, cells := 0, slots := 0, locals := 0 } s m [.ref (ad 1 r0), .int p1].toArray below meth c 3 (MQ below (hQ D K b0 (fun v9 u9 => ∃ f2 : Nat → va_E, v9 = some (.ref (ad 25 v)) ∧ u9 = lU L f2 ∧ PW K ad P S1 L f2 ∧ S1.2.2.1 = n ∧ Kp ad P L f0 f2)) [.ref (ad 1 r0), .int p1].toArray s 0 0 (fun q => b0 ≤ q)) 0 0 20 [] [] S := by
    intro S h
    dsimp only [B_X0_recordAt_20] at h
    intro f H locs w hw hn hk ls hl
    refine lv_null hx hb dX0_recordAt_20 ?_
    exact J21  none S h f H locs w hw hn hk ls (lv_sub hl [] rfl)
  dsimp only [F_X0_recordAt] at h
  obtain ⟨f, ef⟩ : ∃ z, z = f0 := ⟨_, rfl⟩
  rw [← ef] at w hw
  have hk : Kp ad P L f0 f := by rw [ef]; exact Kp.rf
  obtain ⟨H, eH⟩ : ∃ z, z = s.heap := ⟨_, rfl⟩
  obtain ⟨locs, el⟩ : ∃ z : List Loc, z = [] := ⟨_, rfl⟩
  rw [← eH, ← el] at w ⊢
  refine lv_iload_n hx hb dX0_recordAt_0 rfl (lv_at hl 1 rfl) ?_
  refine lv_if_lt (tgt := 20) hx hb dX0_recordAt_1 (by decide) (fun c3 => ?_) (fun c3 => ?_)
  · have h := bb_t h c3
    exact J20   S0 h f H locs w hw hn hk ls (lv_sub hl [] rfl)
  · have h := bb_f h c3
    refine lv_iload_n hx hb dX0_recordAt_4 rfl (lv_at hl 1 rfl) ?_
    refine lv_sipush (v := 200) hx hb dX0_recordAt_5 (by decide) ?_
    refine lv_icmp_ge (tgt := 20) hx hb dX0_recordAt_8 (by decide) (fun c4 => ?_) (fun c4 => ?_)
    · have h := bb_t h c4
      exact J20   S0 h f H locs w hw hn hk ls (lv_sub hl [] rfl)
    · have h := bb_f h c4
      refine lv_aload_n hx hb dX0_recordAt_11 rfl (lv_at hl 0 rfl) ?_
      refine u_getr C w hw (hP _ _ (isn_f rfl rfl hr0)) rfl (N := 13) rfl rfl cin_0 11 (by decide) (by decide) (a2 := 11) (i2 := r0) rfl gw_119 dX0_recordAt_12 ?_
      refine lv_iload_n hx hb dX0_recordAt_15 rfl (lv_at hl 1 rfl) ?_
      obtain ⟨g5, h⟩ := gd_some h
      refine u_aald3 C w hw (hP _ _ (isn_f rfl rfl hr0)) rfl rfl rfl (n := 200) rfl (vp_in_iff.mpr g5) dX0_recordAt_16 ?_
      refine u_qv h (fun o6 h => ?_)
      refine lv_goto (tgt := 21) hx hb dX0_recordAt_17 (by decide) ?_
      exact J21  o6 S0 h f H locs w hw hn hk ls (lv_sub hl [] rfl)
theorem dX6_record_0 : decode cX6_record 0 = .ok (.iload_n 1, 1) := by decide +kernel
theorem dX6_record_1 : decode cX6_record 1 = .ok (.aload_n 0, 1) := by decide +kernel
theorem dX6_record_2 : decode cX6_record 2 = .ok (.getfield 10, 3) := by decide +kernel
theorem dX6_record_5 : decode cX6_record 5 = .ok (.getfield 199, 3) := by decide +kernel
theorem dX6_record_8 : decode cX6_record 8 = .ok (.invokestatic 113, 3) := by decide +kernel
theorem dX6_record_11 : decode cX6_record 11 = .ok (.iload_n 2, 1) := by decide +kernel
theorem dX6_record_12 : decode cX6_record 12 = .ok (.iconst 0, 1) := by decide +kernel
theorem dX6_record_13 : decode cX6_record 13 = .ok (.bipush 9, 2) := by decide +kernel
theorem dX6_record_15 : decode cX6_record 15 = .ok (.invokestatic 92, 3) := by decide +kernel
theorem dX6_record_18 : decode cX6_record 18 = .ok (.invokestatic 96, 3) := by decide +kernel
theorem dX6_record_21 : decode cX6_record 21 = .ok (.aload_n 0, 1) := by decide +kernel
theorem dX6_record_22 : decode cX6_record 22 = .ok (.getfield 10, 3) := by decide +kernel
theorem dX6_record_25 : decode cX6_record 25 = .ok (.iload_n 1, 1) := by decide +kernel
theorem dX6_record_26 : decode cX6_record 26 = .ok (.invokevirtual 205, 3) := by decide +kernel
theorem dX6_record_29 : decode cX6_record 29 = .ok (.iload_n 2, 1) := by decide +kernel
theorem dX6_record_30 : decode cX6_record 30 = .ok (.invokevirtual 209, 3) := by decide +kernel
theorem dX6_record_33 : decode cX6_record 33 = .ok (.ireturn, 1) := by decide +kernel
noncomputable def F_X6_record (p1 : Int32) (p2 : Int32) (S0 : fS) : Option ((Nat × Int32) × fS) := iv (ge S0 1 0 12) (fun x1 => bx (F_X6_needElement p1 x1 S0) (fun v2 S3 => bd (F_X6_within p2 0 9 S3) (fun v6 S7 => bx (F_X6_need v6 S7) (fun v9 S10 => bd (F_X0_recordAt 0 p1 S10) (fun v13 S14 => gd (v13 < nT S14) (bd (F_X5_told v13 p2 S14) (fun v17 S18 => some ((0, v17), S18))))))))
set_option maxHeartbeats 4000000 in
set_option maxRecDepth 100000 in
theorem c_X6_record (l : Launch) (hls : l.stackTraces = false) (D : va_G) (K : Nat → ClassId) (b0 : Nat) (sa : sT) (sz : Nat) (L : List Nat) (f0 : Nat → va_E) (ad : Nat → Nat → Nat) (P : Nat → Nat → Prop) {n : Nat × Nat} (hP : ∀ a i : Nat, isn n a i → P a i) (S0 : fS) (hw : PW K ad P S0 L f0) (hn : S0.2.2.1 = n) (p1 : Int32) (p2 : Int32) (ec : Nat) (v : Int32) (S1 : fS) (h : F_X6_record p1 p2 S0 = some ((ec, v), S1)) : vx_Met l yX6_record (.code yX6_record cX6_record 3 (some .int) :: gt) { frames := 7, cells := 2, slots := 12, locals := 103 } (va_Pc [.ref (ad 0 0), .int p1, .int p2] (hPre D K b0 sa sz L f0)) (hQ D K b0 (fun v9 u9 => ec = 0 ∧ v9 = some (.int v) ∧ ∃ f2 : Nat → va_E, u9 = lU L f2 ∧ PW K ad P S1 L f2 ∧ S1.2.2.1 = n ∧ Kp ad P L f0 f2)) (hX D K b0 (fun E u9 => (ec ≠ 0 ∧ E = exn ec) ∧ ∃ f2 : Nat → va_E, u9 = lU L f2 ∧ PW K ad P S1 L f2 ∧ S1.2.2.1 = n ∧ Kp ad P L f0 f2)) 2 12 (fun q => b0 ≤ q) := by
  refine t_xof (own := RX6) (by decide) rfl ?_ (Nat.le_of_ble_eq_true rfl)
  intro p e s m below meth c ls C w hsz hr hlk htb hl
  have hx := C.1
  have hb := C.2.1
  have hl : lv_has ls 3 [(0, .ref (ad 0 0)), (1, .int p1), (2, .int p2)] := hl
  dsimp only [F_X6_record] at h
  obtain ⟨f, ef⟩ : ∃ z, z = f0 := ⟨_, rfl⟩
  rw [← ef] at w hw
  have hk : Kp ad P L f0 f := by rw [ef]; exact Kp.rf
  obtain ⟨H, eH⟩ : ∃ z, z = s.heap := ⟨_, rfl⟩
  obtain ⟨locs, el⟩ : ∃ z : List Loc, z = [] := ⟨_, rfl⟩
  rw [← eH, ← el] at w ⊢
  refine lv_iload_n hx hb dX6_record_0 rfl (lv_at hl 1 rfl) ?_
  refine lv_aload_n hx hb dX6_record_1 rfl (lv_at hl 0 rfl) ?_
  refine u_getr C w hw (hP _ _ (isn_f rfl rfl (by decide))) rfl (N := 18) rfl rfl cin_6 0 (by decide) (by decide) (a2 := 1) (i2 := 0) rfl gw_287 dX6_record_2 ?_
  refine u_geti C w hw (hP _ _ (isn_f rfl rfl (by decide))) rfl (N := 13) rfl rfl cin_0 12 (by decide) rfl gw_121 dX6_record_5 ?_
  refine u_iv h (fun x1 h => ?_)
  rcases bx_some h with ⟨v2, S3, h4, h⟩ | ⟨e5, v2, S3, h4, h⟩
  rotate_left
  · refine t_xcallS (n := 2) C w (c_X6_needElement l hls D K b0 sa _ L _ ad P hP S0 hw hn p1 x1 (e5 + 1) v2 S3 h4) gw_656 gw_654 gw_655 gw_1 ⟨by decide, by decide, by decide +kernel⟩ rfl rfl ⟨by decide, by decide⟩ rfl hl.1 rfl (Nat.le_of_ble_eq_true rfl) dX6_record_8 ⟨Nat.le_of_ble_eq_true rfl, Nat.le_of_ble_eq_true rfl⟩ (fun E ce q9 u H locs hp w hcell hv0 hcl => ?_) (fun v9 u H locs hp w => absurd hp.1 (Nat.succ_ne_zero _))
    obtain ⟨⟨he, hE⟩, f2, rfl, hw, hn, hk1⟩ := hp
    exact t_xout w htb hlk hcell hv0 hcl ⟨sz_e h he hE, _, rfl, sz_w h hw, sz_n h hn, hk.tr hk1⟩ (by decide) (by decide)
  refine t_xcallS (n := 2) C w (c_X6_needElement l hls D K b0 sa _ L _ ad P hP S0 hw hn p1 x1 0 v2 S3 h4) gw_656 gw_654 gw_655 gw_1 ⟨by decide, by decide, by decide +kernel⟩ rfl rfl ⟨by decide, by decide⟩ rfl hl.1 rfl (Nat.le_of_ble_eq_true rfl) dX6_record_8 ⟨Nat.le_of_ble_eq_true rfl, Nat.le_of_ble_eq_true rfl⟩ (fun E ce q9 u H locs hp w hcell hv0 hcl => absurd rfl hp.1.1) (fun v9 u H locs hp w => ?_)
  obtain ⟨-, rfl, f2, rfl, hw, hn, hk1⟩ := hp
  have hk := hk.tr hk1
  generalize f2 = f at w hw hk
  refine lv_iload_n hx hb dX6_record_11 rfl (lv_at hl 2 rfl) ?_
  refine lv_iconst (v := 0) hx hb dX6_record_12 (by decide) ?_
  refine lv_bipush (v := 9) hx hb dX6_record_13 (by decide) ?_
  obtain ⟨v6, S7, h8, h⟩ := bd_some h
  refine t_callS (n := 3) C w (c_X6_within l D K b0 sa _ L _ ad P hP S3 hw hn p2 0 9 v6 S7 h8) gw_376 gw_374 gw_375 gw_1 ⟨by decide, by decide, by decide +kernel⟩ rfl rfl ⟨by decide, by decide⟩ rfl hl.1 rfl (Nat.le_of_ble_eq_true rfl) dX6_record_15 ⟨Nat.le_of_ble_eq_true rfl, Nat.le_of_ble_eq_true rfl⟩ (fun v9 u H locs hp w => ?_)
  obtain ⟨f2, rfl, rfl, hw, hn, hk1⟩ := hp
  have hk := hk.tr hk1
  generalize f2 = f at w hw hk
  rcases bx_some h with ⟨v9, S10, h11, h⟩ | ⟨e12, v9, S10, h11, h⟩
  rotate_left
  · refine t_xcallS (n := 1) C w (c_X6_need l hls D K b0 sa _ L _ ad P hP S7 hw hn v6 (e12 + 1) v9 S10 h11) gw_625 gw_623 gw_624 gw_1 ⟨by decide, by decide, by decide +kernel⟩ rfl rfl ⟨by decide, by decide⟩ rfl hl.1 rfl (Nat.le_of_ble_eq_true rfl) dX6_record_18 ⟨Nat.le_of_ble_eq_true rfl, Nat.le_of_ble_eq_true rfl⟩ (fun E ce q9 u H locs hp w hcell hv0 hcl => ?_) (fun v9 u H locs hp w => absurd hp.1 (Nat.succ_ne_zero _))
    obtain ⟨⟨he, hE⟩, f2, rfl, hw, hn, hk1⟩ := hp
    exact t_xout w htb hlk hcell hv0 hcl ⟨sz_e h he hE, _, rfl, sz_w h hw, sz_n h hn, hk.tr hk1⟩ (by decide) (by decide)
  refine t_xcallS (n := 1) C w (c_X6_need l hls D K b0 sa _ L _ ad P hP S7 hw hn v6 0 v9 S10 h11) gw_625 gw_623 gw_624 gw_1 ⟨by decide, by decide, by decide +kernel⟩ rfl rfl ⟨by decide, by decide⟩ rfl hl.1 rfl (Nat.le_of_ble_eq_true rfl) dX6_record_18 ⟨Nat.le_of_ble_eq_true rfl, Nat.le_of_ble_eq_true rfl⟩ (fun E ce q9 u H locs hp w hcell hv0 hcl => absurd rfl hp.1.1) (fun v9 u H locs hp w => ?_)
  obtain ⟨-, rfl, f2, rfl, hw, hn, hk1⟩ := hp
  have hk := hk.tr hk1
  generalize f2 = f at w hw hk
  refine lv_aload_n hx hb dX6_record_21 rfl (lv_at hl 0 rfl) ?_
  refine u_getr C w hw (hP _ _ (isn_f rfl rfl (by decide))) rfl (N := 18) rfl rfl cin_6 0 (by decide) (by decide) (a2 := 1) (i2 := 0) rfl gw_287 dX6_record_22 ?_
  refine lv_iload_n hx hb dX6_record_25 rfl (lv_at hl 1 rfl) ?_
  obtain ⟨v13, S14, h15, h⟩ := bd_some h
  refine u_callV (n := 1) C w hw (hP _ _ (isn_f rfl rfl (by decide))) rfl rfl rfl (c_X0_recordAt l D K b0 sa _ L _ ad P hP S10 hw hn 0 (by decide) p1 v13 S14 h15) gw_483 gw_480 gw_481 gw_482 gw_2 ⟨by decide, by decide, by decide +kernel⟩ rfl rfl ⟨by decide, by decide⟩ rfl hl.1 rfl (Nat.le_of_ble_eq_true rfl) dX6_record_26 ⟨Nat.le_of_ble_eq_true rfl, Nat.le_of_ble_eq_true rfl⟩ (fun v9 u H locs hp w => ?_)
  obtain ⟨f2, rfl, rfl, hw, hn, hk1⟩ := hp
  have hk := hk.tr hk1
  generalize f2 = f at w hw hk
  obtain ⟨g16, h⟩ := gd_some h
  refine lv_iload_n hx hb dX6_record_29 rfl (lv_at hl 2 rfl) ?_
  obtain ⟨v17, S18, h19, h⟩ := bd_some h
  refine u_callV (n := 1) C w hw (hP _ _ (isn_t25 (nT_lt hn g16))) rfl rfl rfl (c_X5_told l D K b0 sa _ L _ ad P hP S14 hw hn v13 (nT_lt hn g16) p2 v17 S18 h19) gw_990 gw_987 gw_988 gw_989 gw_7 ⟨by decide, by decide, by decide +kernel⟩ rfl rfl ⟨by decide, by decide⟩ rfl hl.1 rfl (Nat.le_of_ble_eq_true rfl) dX6_record_30 ⟨Nat.le_of_ble_eq_true rfl, Nat.le_of_ble_eq_true rfl⟩ (fun v9 u H locs hp w => ?_)
  obtain ⟨f2, rfl, rfl, hw, hn, hk1⟩ := hp
  have hk := hk.tr hk1
  generalize f2 = f at w hw hk
  refine vx_ret ?_
  exact t_iret C hr hlk w ⟨sx_e h, sx_v h, _, rfl, sx_w h hw, sx_n h hn, hk⟩ (by decide) (by decide) dX6_record_33
theorem dX6_refill_0 : decode cX6_refill 0 = .ok (.aload_n 0, 1) := by decide +kernel
theorem dX6_refill_1 : decode cX6_refill 1 = .ok (.getfield 10, 3) := by decide +kernel
theorem dX6_refill_4 : decode cX6_refill 4 = .ok (.getfield 100, 3) := by decide +kernel
theorem dX6_refill_7 : decode cX6_refill 7 = .ok (.aload_n 0, 1) := by decide +kernel
theorem dX6_refill_8 : decode cX6_refill 8 = .ok (.getfield 10, 3) := by decide +kernel
theorem dX6_refill_11 : decode cX6_refill 11 = .ok (.getfield 89, 3) := by decide +kernel
theorem dX6_refill_14 : decode cX6_refill 14 = .ok (.invokevirtual 257, 3) := by decide +kernel
theorem dX6_refill_17 : decode cX6_refill 17 = .ok (.istore_n 1, 1) := by decide +kernel
theorem dX6_refill_18 : decode cX6_refill 18 = .ok (.aload_n 0, 1) := by decide +kernel
theorem dX6_refill_19 : decode cX6_refill 19 = .ok (.getfield 10, 3) := by decide +kernel
theorem dX6_refill_22 : decode cX6_refill 22 = .ok (.iconst 0, 1) := by decide +kernel
theorem dX6_refill_23 : decode cX6_refill 23 = .ok (.putfield 260, 3) := by decide +kernel
theorem dX6_refill_26 : decode cX6_refill 26 = .ok (.aload_n 0, 1) := by decide +kernel
theorem dX6_refill_27 : decode cX6_refill 27 = .ok (.getfield 10, 3) := by decide +kernel
theorem dX6_refill_30 : decode cX6_refill 30 = .ok (.iconst 0, 1) := by decide +kernel
theorem dX6_refill_31 : decode cX6_refill 31 = .ok (.putfield 261, 3) := by decide +kernel
theorem dX6_refill_34 : decode cX6_refill 34 = .ok (.aload_n 0, 1) := by decide +kernel
theorem dX6_refill_35 : decode cX6_refill 35 = .ok (.getfield 10, 3) := by decide +kernel
theorem dX6_refill_38 : decode cX6_refill 38 = .ok (.iconst 0, 1) := by decide +kernel
theorem dX6_refill_39 : decode cX6_refill 39 = .ok (.putfield 262, 3) := by decide +kernel
theorem dX6_refill_42 : decode cX6_refill 42 = .ok (.aload_n 0, 1) := by decide +kernel
theorem dX6_refill_43 : decode cX6_refill 43 = .ok (.getfield 10, 3) := by decide +kernel
theorem dX6_refill_46 : decode cX6_refill 46 = .ok (.iconst 0, 1) := by decide +kernel
theorem dX6_refill_47 : decode cX6_refill 47 = .ok (.putfield 263, 3) := by decide +kernel
theorem dX6_refill_50 : decode cX6_refill 50 = .ok (.aload_n 0, 1) := by decide +kernel
theorem dX6_refill_51 : decode cX6_refill 51 = .ok (.getfield 10, 3) := by decide +kernel
theorem dX6_refill_54 : decode cX6_refill 54 = .ok (.iconst 0, 1) := by decide +kernel
theorem dX6_refill_55 : decode cX6_refill 55 = .ok (.putfield 199, 3) := by decide +kernel
theorem dX6_refill_58 : decode cX6_refill 58 = .ok (.iload_n 1, 1) := by decide +kernel
theorem dX6_refill_59 : decode cX6_refill 59 = .ok (.ireturn, 1) := by decide +kernel
noncomputable def F_X6_refill  (S0 : fS) : Option (Int32 × fS) := iv (ge S0 1 0 1) (fun x1 => bd (F_X2_layAgain 0 x1 S0) (fun v2 S3 => sv (pu S3 1 0 7 0) (fun S5 => sv (pu S5 1 0 8 0) (fun S6 => sv (pu S6 1 0 9 0) (fun S7 => sv (pu S7 1 0 10 0) (fun S8 => sv (pu S8 1 0 12 0) (fun S9 => some (v2, S9))))))))
set_option maxHeartbeats 4000000 in
set_option maxRecDepth 100000 in
theorem c_X6_refill (l : Launch) (D : va_G) (K : Nat → ClassId) (b0 : Nat) (sa : sT) (sz : Nat) (L : List Nat) (f0 : Nat → va_E) (ad : Nat → Nat → Nat) (P : Nat → Nat → Prop) {n : Nat × Nat} (hP : ∀ a i : Nat, isn n a i → P a i) (S0 : fS) (hw : PW K ad P S0 L f0) (hn : S0.2.2.1 = n)  (v : Int32) (S1 : fS) (h : F_X6_refill  S0 = some (v, S1)) : Met l yX6_refill (.code yX6_refill cX6_refill 2 (some .int) :: gt) { frames := 3, cells := 0, slots := 0, locals := 68 } (va_Pc [.ref (ad 0 0)] (hPre D K b0 sa sz L f0)) (hQ D K b0 (fun v9 u9 => ∃ f2 : Nat → va_E, v9 = some (.int v) ∧ u9 = lU L f2 ∧ PW K ad P S1 L f2 ∧ S1.2.2.1 = n ∧ Kp ad P L f0 f2)) 0 0 (fun q => b0 ≤ q) := by
  refine t_of (own := RX6) (by decide) rfl ?_ (Nat.le_of_ble_eq_true rfl)
  intro p e s m below meth c ls C w hsz hr hlk hnm hl
  have hx := C.1
  have hb := C.2.1
  have hl : lv_has ls 2 [(0, .ref (ad 0 0))] := hl
  dsimp only [F_X6_refill] at h
  obtain ⟨f, ef⟩ : ∃ z, z = f0 := ⟨_, rfl⟩
  rw [← ef] at w hw
  have hk : Kp ad P L f0 f := by rw [ef]; exact Kp.rf
  obtain ⟨H, eH⟩ : ∃ z, z = s.heap := ⟨_, rfl⟩
  obtain ⟨locs, el⟩ : ∃ z : List Loc, z = [] := ⟨_, rfl⟩
  rw [← eH, ← el] at w ⊢
  refine lv_aload_n hx hb dX6_refill_0 rfl (lv_at hl 0 rfl) ?_
  refine u_getr C w hw (hP _ _ (isn_f rfl rfl (by decide))) rfl (N := 18) rfl rfl cin_6 0 (by decide) (by decide) (a2 := 1) (i2 := 0) rfl gw_287 dX6_refill_1 ?_
  refine u_getr C w hw (hP _ _ (isn_f rfl rfl (by decide))) rfl (N := 13) rfl rfl cin_0 0 (by decide) (by decide) (a2 := 2) (i2 := 0) rfl gw_89 dX6_refill_4 ?_
  refine lv_aload_n hx hb dX6_refill_7 rfl (lv_at hl 0 rfl) ?_
  refine u_getr C w hw (hP _ _ (isn_f rfl rfl (by decide))) rfl (N := 18) rfl rfl cin_6 0 (by decide) (by decide) (a2 := 1) (i2 := 0) rfl gw_287 dX6_refill_8 ?_
  refine u_geti C w hw (hP _ _ (isn_f rfl rfl (by decide))) rfl (N := 13) rfl rfl cin_0 1 (by decide) rfl gw_92 dX6_refill_11 ?_
  refine u_iv h (fun x1 h => ?_)
  obtain ⟨v2, S3, h4, h⟩ := bd_some h
  refine u_callV (n := 1) C w hw (hP _ _ (isn_f rfl rfl (by decide))) rfl rfl rfl (c_X2_layAgain l D K b0 sa _ L _ ad P hP S0 hw hn 0 (by decide) x1 v2 S3 h4) gw_510 gw_507 gw_508 gw_509 gw_3 ⟨by decide, by decide, by decide +kernel⟩ rfl rfl ⟨by decide, by decide⟩ rfl hl.1 rfl (Nat.le_of_ble_eq_true rfl) dX6_refill_14 ⟨Nat.le_of_ble_eq_true rfl, Nat.le_of_ble_eq_true rfl⟩ (fun v9 u H locs hp w => ?_)
  obtain ⟨f2, rfl, rfl, hw, hn, hk1⟩ := hp
  have hk := hk.tr hk1
  generalize f2 = f at w hw hk
  refine lv_istore_n (lv' := [(1, .int v2), (0, .ref (ad 0 0))]) hx hb dX6_refill_17 rfl hl (by decide) rfl (fun ls hl => ?_)
  refine lv_aload_n hx hb dX6_refill_18 rfl (lv_at hl 1 rfl) ?_
  refine u_getr C w hw (hP _ _ (isn_f rfl rfl (by decide))) rfl (N := 18) rfl rfl cin_6 0 (by decide) (by decide) (a2 := 1) (i2 := 0) rfl gw_287 dX6_refill_19 ?_
  refine lv_iconst (v := 0) hx hb dX6_refill_22 (by decide) ?_
  refine u_puti C w hw (hP _ _ (isn_f rfl rfl (by decide))) rfl (N := 13) rfl rfl cin_0 tyX0 tyX0_ok nmX0 7 (by decide) rfl rfl rfl rfl gw_109 dX6_refill_23 (fun f H locs w hw hk1 => ?_)
  have hk := hk.tr hk1
  refine u_sv h hw hn (fun S5 h hw hn => ?_)
  refine lv_aload_n hx hb dX6_refill_26 rfl (lv_at hl 1 rfl) ?_
  refine u_getr C w hw (hP _ _ (isn_f rfl rfl (by decide))) rfl (N := 18) rfl rfl cin_6 0 (by decide) (by decide) (a2 := 1) (i2 := 0) rfl gw_287 dX6_refill_27 ?_
  refine lv_iconst (v := 0) hx hb dX6_refill_30 (by decide) ?_
  refine u_puti C w hw (hP _ _ (isn_f rfl rfl (by decide))) rfl (N := 13) rfl rfl cin_0 tyX0 tyX0_ok nmX0 8 (by decide) rfl rfl rfl rfl gw_112 dX6_refill_31 (fun f H locs w hw hk1 => ?_)
  have hk := hk.tr hk1
  refine u_sv h hw hn (fun S6 h hw hn => ?_)
  refine lv_aload_n hx hb dX6_refill_34 rfl (lv_at hl 1 rfl) ?_
  refine u_getr C w hw (hP _ _ (isn_f rfl rfl (by decide))) rfl (N := 18) rfl rfl cin_6 0 (by decide) (by decide) (a2 := 1) (i2 := 0) rfl gw_287 dX6_refill_35 ?_
  refine lv_iconst (v := 0) hx hb dX6_refill_38 (by decide) ?_
  refine u_puti C w hw (hP _ _ (isn_f rfl rfl (by decide))) rfl (N := 13) rfl rfl cin_0 tyX0 tyX0_ok nmX0 9 (by decide) rfl rfl rfl rfl gw_115 dX6_refill_39 (fun f H locs w hw hk1 => ?_)
  have hk := hk.tr hk1
  refine u_sv h hw hn (fun S7 h hw hn => ?_)
  refine lv_aload_n hx hb dX6_refill_42 rfl (lv_at hl 1 rfl) ?_
  refine u_getr C w hw (hP _ _ (isn_f rfl rfl (by decide))) rfl (N := 18) rfl rfl cin_6 0 (by decide) (by decide) (a2 := 1) (i2 := 0) rfl gw_287 dX6_refill_43 ?_
  refine lv_iconst (v := 0) hx hb dX6_refill_46 (by decide) ?_
  refine u_puti C w hw (hP _ _ (isn_f rfl rfl (by decide))) rfl (N := 13) rfl rfl cin_0 tyX0 tyX0_ok nmX0 10 (by decide) rfl rfl rfl rfl gw_118 dX6_refill_47 (fun f H locs w hw hk1 => ?_)
  have hk := hk.tr hk1
  refine u_sv h hw hn (fun S8 h hw hn => ?_)
  refine lv_aload_n hx hb dX6_refill_50 rfl (lv_at hl 1 rfl) ?_
  refine u_getr C w hw (hP _ _ (isn_f rfl rfl (by decide))) rfl (N := 18) rfl rfl cin_6 0 (by decide) (by decide) (a2 := 1) (i2 := 0) rfl gw_287 dX6_refill_51 ?_
  refine lv_iconst (v := 0) hx hb dX6_refill_54 (by decide) ?_
  refine u_puti C w hw (hP _ _ (isn_f rfl rfl (by decide))) rfl (N := 13) rfl rfl cin_0 tyX0 tyX0_ok nmX0 12 (by decide) rfl rfl rfl rfl gw_121 dX6_refill_55 (fun f H locs w hw hk1 => ?_)
  have hk := hk.tr hk1
  refine u_sv h hw hn (fun S9 h hw hn => ?_)
  refine lv_iload_n hx hb dX6_refill_58 rfl (lv_at hl 0 rfl) ?_
  exact t_iret C hr hlk w ⟨_, so_v h, rfl, so_w h hw, so_n h hn, hk⟩ (by decide) (by decide) dX6_refill_59
theorem dX6_image_0 : decode cX6_image 0 = .ok (.aload_n 0, 1) := by decide +kernel
theorem dX6_image_1 : decode cX6_image 1 = .ok (.getfield 23, 3) := by decide +kernel
theorem dX6_image_4 : decode cX6_image 4 = .ok (.iconst 3, 1) := by decide +kernel
theorem dX6_image_5 : decode cX6_image 5 = .ok (.if_icmp .lt 5, 3) := by decide +kernel
theorem dX6_image_8 : decode cX6_image 8 = .ok (.iconst (-1), 1) := by decide +kernel
theorem dX6_image_9 : decode cX6_image 9 = .ok (.ireturn, 1) := by decide +kernel
theorem dX6_image_10 : decode cX6_image 10 = .ok (.aload_n 0, 1) := by decide +kernel
theorem dX6_image_11 : decode cX6_image 11 = .ok (.getfield 19, 3) := by decide +kernel
theorem dX6_image_14 : decode cX6_image 14 = .ok (.aload_n 0, 1) := by decide +kernel
theorem dX6_image_15 : decode cX6_image 15 = .ok (.getfield 23, 3) := by decide +kernel
theorem dX6_image_18 : decode cX6_image 18 = .ok (.aaload, 1) := by decide +kernel
theorem dX6_image_19 : decode cX6_image 19 = .ok (.aload_n 0, 1) := by decide +kernel
theorem dX6_image_20 : decode cX6_image 20 = .ok (.getfield 10, 3) := by decide +kernel
theorem dX6_image_23 : decode cX6_image 23 = .ok (.invokevirtual 266, 3) := by decide +kernel
theorem dX6_image_26 : decode cX6_image 26 = .ok (.aload_n 0, 1) := by decide +kernel
theorem dX6_image_27 : decode cX6_image 27 = .ok (.dup, 1) := by decide +kernel
theorem dX6_image_28 : decode cX6_image 28 = .ok (.getfield 23, 3) := by decide +kernel
theorem dX6_image_31 : decode cX6_image 31 = .ok (.iconst 1, 1) := by decide +kernel
theorem dX6_image_32 : decode cX6_image 32 = .ok (.iadd, 1) := by decide +kernel
theorem dX6_image_33 : decode cX6_image 33 = .ok (.putfield 23, 3) := by decide +kernel
theorem dX6_image_36 : decode cX6_image 36 = .ok (.aload_n 0, 1) := by decide +kernel
theorem dX6_image_37 : decode cX6_image 37 = .ok (.getfield 23, 3) := by decide +kernel
theorem dX6_image_40 : decode cX6_image 40 = .ok (.ireturn, 1) := by decide +kernel
noncomputable def F_X6_image  (S0 : fS) : Option (Int32 × fS) := iv (ge S0 0 0 3) (fun x1 => bb (x1 < (3 : Int32)) (iv (ge S0 0 0 3) (fun x3 => gd (ib x3 3) (bd (F_X0_copyFrom (2 + x3.toNatClampNeg) 0 S0) (fun v5 S6 => iv (ge S6 0 0 3) (fun x8 => iv (x8 + (1 : Int32)) (fun x9 => sv (pu S6 0 0 3 x9) (fun S10 => iv (ge S10 0 0 3) (fun x11 => some (x11, S10))))))))) (some ((-1), S0)))
set_option maxHeartbeats 4000000 in
set_option maxRecDepth 100000 in
theorem c_X6_image (l : Launch) (D : va_G) (K : Nat → ClassId) (b0 : Nat) (sa : sT) (sz : Nat) (L : List Nat) (f0 : Nat → va_E) (ad : Nat → Nat → Nat) (P : Nat → Nat → Prop) {n : Nat × Nat} (hP : ∀ a i : Nat, isn n a i → P a i) (S0 : fS) (hw : PW K ad P S0 L f0) (hn : S0.2.2.1 = n)  (v : Int32) (S1 : fS) (h : F_X6_image  S0 = some (v, S1)) : Met l yX6_image (.code yX6_image cX6_image 1 (some .int) :: gt) { frames := 3, cells := 0, slots := 0, locals := 103 } (va_Pc [.ref (ad 0 0)] (hPre D K b0 sa sz L f0)) (hQ D K b0 (fun v9 u9 => ∃ f2 : Nat → va_E, v9 = some (.int v) ∧ u9 = lU L f2 ∧ PW K ad P S1 L f2 ∧ S1.2.2.1 = n ∧ Kp ad P L f0 f2)) 0 0 (fun q => b0 ≤ q) := by
  refine t_of (own := RX6) (by decide) rfl ?_ (Nat.le_of_ble_eq_true rfl)
  intro p e s m below meth c ls C w hsz hr hlk hnm hl
  have hx := C.1
  have hb := C.2.1
  have hl : lv_has ls 1 [(0, .ref (ad 0 0))] := hl
  dsimp only [F_X6_image] at h
  obtain ⟨f, ef⟩ : ∃ z, z = f0 := ⟨_, rfl⟩
  rw [← ef] at w hw
  have hk : Kp ad P L f0 f := by rw [ef]; exact Kp.rf
  obtain ⟨H, eH⟩ : ∃ z, z = s.heap := ⟨_, rfl⟩
  obtain ⟨locs, el⟩ : ∃ z : List Loc, z = [] := ⟨_, rfl⟩
  rw [← eH, ← el] at w ⊢
  refine lv_aload_n hx hb dX6_image_0 rfl (lv_at hl 0 rfl) ?_
  refine u_geti C w hw (hP _ _ (isn_f rfl rfl (by decide))) rfl (N := 18) rfl rfl cin_6 3 (by decide) rfl gw_290 dX6_image_1 ?_
  refine u_iv h (fun x1 h => ?_)
  refine lv_iconst (v := 3) hx hb dX6_image_4 (by decide) ?_
  refine lv_icmp_lt (tgt := 10) hx hb dX6_image_5 (by decide) (fun c2 => ?_) (fun c2 => ?_)
  · have h := bb_t h c2
    refine lv_aload_n hx hb dX6_image_10 rfl (lv_at hl 0 rfl) ?_
    refine u_getr C w hw (hP _ _ (isn_f rfl rfl (by decide))) rfl (N := 18) rfl rfl cin_6 2 (by decide) (by decide) (a2 := 12) (i2 := 0) rfl gw_289 dX6_image_11 ?_
    refine lv_aload_n hx hb dX6_image_14 rfl (lv_at hl 0 rfl) ?_
    refine u_geti C w hw (hP _ _ (isn_f rfl rfl (by decide))) rfl (N := 18) rfl rfl cin_6 3 (by decide) rfl gw_290 dX6_image_15 ?_
    refine u_iv h (fun x3 h => ?_)
    obtain ⟨g4, h⟩ := gd_some h
    refine u_aald C w hw (hP _ _ (isn_f rfl rfl (by decide))) rfl rfl rfl (n := 3) rfl (vp_in_iff.mpr g4) (a2 := 1) (i2 := (2 + x3.toNatClampNeg)) rfl dX6_image_18 ?_
    refine lv_aload_n hx hb dX6_image_19 rfl (lv_at hl 0 rfl) ?_
    refine u_getr C w hw (hP _ _ (isn_f rfl rfl (by decide))) rfl (N := 18) rfl rfl cin_6 0 (by decide) (by decide) (a2 := 1) (i2 := 0) rfl gw_287 dX6_image_20 ?_
    obtain ⟨v5, S6, h7, h⟩ := bd_some h
    refine u_callV (n := 1) C w hw (hP _ _ (isn_f rfl rfl (show (2 + x3.toNatClampNeg) < 5 from (by have := ib_lt g4; omega)))) rfl rfl rfl (c_X0_copyFrom l D K b0 sa _ L _ ad P hP S0 hw hn (2 + x3.toNatClampNeg) (show (2 + x3.toNatClampNeg) < 5 from (by have := ib_lt g4; omega)) 0 (by decide) v5 S6 h7) gw_523 gw_520 gw_521 gw_522 gw_2 ⟨by decide, by decide, by decide +kernel⟩ rfl rfl ⟨by decide, by decide⟩ rfl hl.1 rfl (Nat.le_of_ble_eq_true rfl) dX6_image_23 ⟨Nat.le_of_ble_eq_true rfl, Nat.le_of_ble_eq_true rfl⟩ (fun v9 u H locs hp w => ?_)
    obtain ⟨f2, rfl, rfl, hw, hn, hk1⟩ := hp
    have hk := hk.tr hk1
    generalize f2 = f at w hw hk
    refine lv_aload_n hx hb dX6_image_26 rfl (lv_at hl 0 rfl) ?_
    refine lv_dup hx hb dX6_image_27 rfl ?_
    refine u_geti C w hw (hP _ _ (isn_f rfl rfl (by decide))) rfl (N := 18) rfl rfl cin_6 3 (by decide) rfl gw_290 dX6_image_28 ?_
    refine u_iv h (fun x8 h => ?_)
    refine lv_iconst (v := 1) hx hb dX6_image_31 (by decide) ?_
    refine lv_iadd hx hb dX6_image_32 ?_
    refine u_iv h (fun x9 h => ?_)
    refine u_puti C w hw (hP _ _ (isn_f rfl rfl (by decide))) rfl (N := 18) rfl rfl cin_6 tyX6 tyX6_ok nmX6 3 (by decide) rfl rfl rfl rfl gw_290 dX6_image_33 (fun f H locs w hw hk1 => ?_)
    have hk := hk.tr hk1
    refine u_sv h hw hn (fun S10 h hw hn => ?_)
    refine lv_aload_n hx hb dX6_image_36 rfl (lv_at hl 0 rfl) ?_
    refine u_geti C w hw (hP _ _ (isn_f rfl rfl (by decide))) rfl (N := 18) rfl rfl cin_6 3 (by decide) rfl gw_290 dX6_image_37 ?_
    refine u_iv h (fun x11 h => ?_)
    exact t_iret C hr hlk w ⟨_, so_v h, rfl, so_w h hw, so_n h hn, hk⟩ (by decide) (by decide) dX6_image_40
  · have h := bb_f h c2
    refine lv_iconst (v := (-1)) hx hb dX6_image_8 (by decide) ?_
    exact t_iret C hr hlk w ⟨_, so_v h, rfl, so_w h hw, so_n h hn, hk⟩ (by decide) (by decide) dX6_image_9
theorem dX6_restore_0 : decode cX6_restore 0 = .ok (.aload_n 0, 1) := by decide +kernel
theorem dX6_restore_1 : decode cX6_restore 1 = .ok (.getfield 23, 3) := by decide +kernel
theorem dX6_restore_4 : decode cX6_restore 4 = .ok (.ifCond .gt 5, 3) := by decide +kernel
theorem dX6_restore_7 : decode cX6_restore 7 = .ok (.iconst (-1), 1) := by decide +kernel
theorem dX6_restore_8 : decode cX6_restore 8 = .ok (.ireturn, 1) := by decide +kernel
theorem dX6_restore_9 : decode cX6_restore 9 = .ok (.aload_n 0, 1) := by decide +kernel
theorem dX6_restore_10 : decode cX6_restore 10 = .ok (.dup, 1) := by decide +kernel
theorem dX6_restore_11 : decode cX6_restore 11 = .ok (.getfield 23, 3) := by decide +kernel
theorem dX6_restore_14 : decode cX6_restore 14 = .ok (.iconst 1, 1) := by decide +kernel
theorem dX6_restore_15 : decode cX6_restore 15 = .ok (.isub, 1) := by decide +kernel
theorem dX6_restore_16 : decode cX6_restore 16 = .ok (.putfield 23, 3) := by decide +kernel
theorem dX6_restore_19 : decode cX6_restore 19 = .ok (.aload_n 0, 1) := by decide +kernel
theorem dX6_restore_20 : decode cX6_restore 20 = .ok (.getfield 10, 3) := by decide +kernel
theorem dX6_restore_23 : decode cX6_restore 23 = .ok (.aload_n 0, 1) := by decide +kernel
theorem dX6_restore_24 : decode cX6_restore 24 = .ok (.getfield 19, 3) := by decide +kernel
theorem dX6_restore_27 : decode cX6_restore 27 = .ok (.aload_n 0, 1) := by decide +kernel
theorem dX6_restore_28 : decode cX6_restore 28 = .ok (.getfield 23, 3) := by decide +kernel
theorem dX6_restore_31 : decode cX6_restore 31 = .ok (.aaload, 1) := by decide +kernel
theorem dX6_restore_32 : decode cX6_restore 32 = .ok (.invokevirtual 266, 3) := by decide +kernel
theorem dX6_restore_35 : decode cX6_restore 35 = .ok (.aload_n 0, 1) := by decide +kernel
theorem dX6_restore_36 : decode cX6_restore 36 = .ok (.getfield 23, 3) := by decide +kernel
theorem dX6_restore_39 : decode cX6_restore 39 = .ok (.ireturn, 1) := by decide +kernel
noncomputable def F_X6_restore  (S0 : fS) : Option (Int32 × fS) := iv (ge S0 0 0 3) (fun x1 => bb ((0 : Int32) < x1) (iv (ge S0 0 0 3) (fun x3 => iv (x3 - (1 : Int32)) (fun x4 => sv (pu S0 0 0 3 x4) (fun S5 => iv (ge S5 0 0 3) (fun x6 => gd (ib x6 3) (bd (F_X0_copyFrom 0 (2 + x6.toNatClampNeg) S5) (fun v8 S9 => iv (ge S9 0 0 3) (fun x11 => some (x11, S9))))))))) (some ((-1), S0)))
set_option maxHeartbeats 4000000 in
set_option maxRecDepth 100000 in
theorem c_X6_restore (l : Launch) (D : va_G) (K : Nat → ClassId) (b0 : Nat) (sa : sT) (sz : Nat) (L : List Nat) (f0 : Nat → va_E) (ad : Nat → Nat → Nat) (P : Nat → Nat → Prop) {n : Nat × Nat} (hP : ∀ a i : Nat, isn n a i → P a i) (S0 : fS) (hw : PW K ad P S0 L f0) (hn : S0.2.2.1 = n)  (v : Int32) (S1 : fS) (h : F_X6_restore  S0 = some (v, S1)) : Met l yX6_restore (.code yX6_restore cX6_restore 1 (some .int) :: gt) { frames := 3, cells := 0, slots := 0, locals := 103 } (va_Pc [.ref (ad 0 0)] (hPre D K b0 sa sz L f0)) (hQ D K b0 (fun v9 u9 => ∃ f2 : Nat → va_E, v9 = some (.int v) ∧ u9 = lU L f2 ∧ PW K ad P S1 L f2 ∧ S1.2.2.1 = n ∧ Kp ad P L f0 f2)) 0 0 (fun q => b0 ≤ q) := by
  refine t_of (own := RX6) (by decide) rfl ?_ (Nat.le_of_ble_eq_true rfl)
  intro p e s m below meth c ls C w hsz hr hlk hnm hl
  have hx := C.1
  have hb := C.2.1
  have hl : lv_has ls 1 [(0, .ref (ad 0 0))] := hl
  dsimp only [F_X6_restore] at h
  obtain ⟨f, ef⟩ : ∃ z, z = f0 := ⟨_, rfl⟩
  rw [← ef] at w hw
  have hk : Kp ad P L f0 f := by rw [ef]; exact Kp.rf
  obtain ⟨H, eH⟩ : ∃ z, z = s.heap := ⟨_, rfl⟩
  obtain ⟨locs, el⟩ : ∃ z : List Loc, z = [] := ⟨_, rfl⟩
  rw [← eH, ← el] at w ⊢
  refine lv_aload_n hx hb dX6_restore_0 rfl (lv_at hl 0 rfl) ?_
  refine u_geti C w hw (hP _ _ (isn_f rfl rfl (by decide))) rfl (N := 18) rfl rfl cin_6 3 (by decide) rfl gw_290 dX6_restore_1 ?_
  refine u_iv h (fun x1 h => ?_)
  refine lv_if_gt (tgt := 9) hx hb dX6_restore_4 (by decide) (fun c2 => ?_) (fun c2 => ?_)
  · have h := bb_t h c2
    refine lv_aload_n hx hb dX6_restore_9 rfl (lv_at hl 0 rfl) ?_
    refine lv_dup hx hb dX6_restore_10 rfl ?_
    refine u_geti C w hw (hP _ _ (isn_f rfl rfl (by decide))) rfl (N := 18) rfl rfl cin_6 3 (by decide) rfl gw_290 dX6_restore_11 ?_
    refine u_iv h (fun x3 h => ?_)
    refine lv_iconst (v := 1) hx hb dX6_restore_14 (by decide) ?_
    refine lv_isub hx hb dX6_restore_15 ?_
    refine u_iv h (fun x4 h => ?_)
    refine u_puti C w hw (hP _ _ (isn_f rfl rfl (by decide))) rfl (N := 18) rfl rfl cin_6 tyX6 tyX6_ok nmX6 3 (by decide) rfl rfl rfl rfl gw_290 dX6_restore_16 (fun f H locs w hw hk1 => ?_)
    have hk := hk.tr hk1
    refine u_sv h hw hn (fun S5 h hw hn => ?_)
    refine lv_aload_n hx hb dX6_restore_19 rfl (lv_at hl 0 rfl) ?_
    refine u_getr C w hw (hP _ _ (isn_f rfl rfl (by decide))) rfl (N := 18) rfl rfl cin_6 0 (by decide) (by decide) (a2 := 1) (i2 := 0) rfl gw_287 dX6_restore_20 ?_
    refine lv_aload_n hx hb dX6_restore_23 rfl (lv_at hl 0 rfl) ?_
    refine u_getr C w hw (hP _ _ (isn_f rfl rfl (by decide))) rfl (N := 18) rfl rfl cin_6 2 (by decide) (by decide) (a2 := 12) (i2 := 0) rfl gw_289 dX6_restore_24 ?_
    refine lv_aload_n hx hb dX6_restore_27 rfl (lv_at hl 0 rfl) ?_
    refine u_geti C w hw (hP _ _ (isn_f rfl rfl (by decide))) rfl (N := 18) rfl rfl cin_6 3 (by decide) rfl gw_290 dX6_restore_28 ?_
    refine u_iv h (fun x6 h => ?_)
    obtain ⟨g7, h⟩ := gd_some h
    refine u_aald C w hw (hP _ _ (isn_f rfl rfl (by decide))) rfl rfl rfl (n := 3) rfl (vp_in_iff.mpr g7) (a2 := 1) (i2 := (2 + x6.toNatClampNeg)) rfl dX6_restore_31 ?_
    obtain ⟨v8, S9, h10, h⟩ := bd_some h
    refine u_callV (n := 1) C w hw (hP _ _ (isn_f rfl rfl (by decide))) rfl rfl rfl (c_X0_copyFrom l D K b0 sa _ L _ ad P hP S5 hw hn 0 (by decide) (2 + x6.toNatClampNeg) (show (2 + x6.toNatClampNeg) < 5 from (by have := ib_lt g7; omega)) v8 S9 h10) gw_523 gw_520 gw_521 gw_522 gw_2 ⟨by decide, by decide, by decide +kernel⟩ rfl rfl ⟨by decide, by decide⟩ rfl hl.1 rfl (Nat.le_of_ble_eq_true rfl) dX6_restore_32 ⟨Nat.le_of_ble_eq_true rfl, Nat.le_of_ble_eq_true rfl⟩ (fun v9 u H locs hp w => ?_)
    obtain ⟨f2, rfl, rfl, hw, hn, hk1⟩ := hp
    have hk := hk.tr hk1
    generalize f2 = f at w hw hk
    refine lv_aload_n hx hb dX6_restore_35 rfl (lv_at hl 0 rfl) ?_
    refine u_geti C w hw (hP _ _ (isn_f rfl rfl (by decide))) rfl (N := 18) rfl rfl cin_6 3 (by decide) rfl gw_290 dX6_restore_36 ?_
    refine u_iv h (fun x11 h => ?_)
    exact t_iret C hr hlk w ⟨_, so_v h, rfl, so_w h hw, so_n h hn, hk⟩ (by decide) (by decide) dX6_restore_39
  · have h := bb_f h c2
    refine lv_iconst (v := (-1)) hx hb dX6_restore_7 (by decide) ?_
    exact t_iret C hr hlk w ⟨_, so_v h, rfl, so_w h hw, so_n h hn, hk⟩ (by decide) (by decide) dX6_restore_8
