theorem dX5_nameNext_0 : decode cX5_nameNext 0 = .ok (.aload_n 0, 1) := by decide +kernel
theorem dX5_nameNext_1 : decode cX5_nameNext 1 = .ok (.aload_n 1, 1) := by decide +kernel
theorem dX5_nameNext_2 : decode cX5_nameNext 2 = .ok (.getfield 64, 3) := by decide +kernel
theorem dX5_nameNext_5 : decode cX5_nameNext 5 = .ok (.iconst 1, 1) := by decide +kernel
theorem dX5_nameNext_6 : decode cX5_nameNext 6 = .ok (.iadd, 1) := by decide +kernel
theorem dX5_nameNext_7 : decode cX5_nameNext 7 = .ok (.putfield 24, 3) := by decide +kernel
theorem dX5_nameNext_10 : decode cX5_nameNext 10 = .ok (.aload_n 0, 1) := by decide +kernel
theorem dX5_nameNext_11 : decode cX5_nameNext 11 = .ok (.aload_n 1, 1) := by decide +kernel
theorem dX5_nameNext_12 : decode cX5_nameNext 12 = .ok (.getfield 67, 3) := by decide +kernel
theorem dX5_nameNext_15 : decode cX5_nameNext 15 = .ok (.iconst 1, 1) := by decide +kernel
theorem dX5_nameNext_16 : decode cX5_nameNext 16 = .ok (.iadd, 1) := by decide +kernel
theorem dX5_nameNext_17 : decode cX5_nameNext 17 = .ok (.putfield 27, 3) := by decide +kernel
theorem dX5_nameNext_20 : decode cX5_nameNext 20 = .ok (.aload_n 0, 1) := by decide +kernel
theorem dX5_nameNext_21 : decode cX5_nameNext 21 = .ok (.aload_n 1, 1) := by decide +kernel
theorem dX5_nameNext_22 : decode cX5_nameNext 22 = .ok (.getfield 68, 3) := by decide +kernel
theorem dX5_nameNext_25 : decode cX5_nameNext 25 = .ok (.aload_n 1, 1) := by decide +kernel
theorem dX5_nameNext_26 : decode cX5_nameNext 26 = .ok (.getfield 69, 3) := by decide +kernel
theorem dX5_nameNext_29 : decode cX5_nameNext 29 = .ok (.iadd, 1) := by decide +kernel
theorem dX5_nameNext_30 : decode cX5_nameNext 30 = .ok (.putfield 30, 3) := by decide +kernel
theorem dX5_nameNext_33 : decode cX5_nameNext 33 = .ok (.aload_n 0, 1) := by decide +kernel
theorem dX5_nameNext_34 : decode cX5_nameNext 34 = .ok (.aload_n 1, 1) := by decide +kernel
theorem dX5_nameNext_35 : decode cX5_nameNext 35 = .ok (.getfield 72, 3) := by decide +kernel
theorem dX5_nameNext_38 : decode cX5_nameNext 38 = .ok (.putfield 33, 3) := by decide +kernel
theorem dX5_nameNext_41 : decode cX5_nameNext 41 = .ok (.aload_n 0, 1) := by decide +kernel
theorem dX5_nameNext_42 : decode cX5_nameNext 42 = .ok (.aload_n 1, 1) := by decide +kernel
theorem dX5_nameNext_43 : decode cX5_nameNext 43 = .ok (.getfield 75, 3) := by decide +kernel
theorem dX5_nameNext_46 : decode cX5_nameNext 46 = .ok (.putfield 36, 3) := by decide +kernel
theorem dX5_nameNext_49 : decode cX5_nameNext 49 = .ok (.return_, 1) := by decide +kernel
noncomputable def F_X5_nameNext (r0 : Nat) (r1 : Nat) (S0 : fS) : Option (Int32 × fS) := iv (ge S0 1 r1 7) (fun x1 => iv (x1 + (1 : Int32)) (fun x2 => sv (pu S0 25 r0 4 x2) (fun S3 => iv (ge S3 1 r1 8) (fun x4 => iv (x4 + (1 : Int32)) (fun x5 => sv (pu S3 25 r0 5 x5) (fun S6 => iv (ge S6 1 r1 9) (fun x7 => iv (ge S6 1 r1 3) (fun x8 => iv (x7 + x8) (fun x9 => sv (pu S6 25 r0 6 x9) (fun S10 => iv (ge S10 1 r1 10) (fun x11 => sv (pu S10 25 r0 7 x11) (fun S12 => iv (ge S12 1 r1 4) (fun x13 => sv (pu S12 25 r0 8 x13) (fun S14 => some (0, S14)))))))))))))))
set_option maxHeartbeats 4000000 in
set_option maxRecDepth 100000 in
theorem c_X5_nameNext (l : Launch) (D : va_G) (K : Nat → ClassId) (b0 : Nat) (sa : sT) (sz : Nat) (L : List Nat) (f0 : Nat → va_E) (ad : Nat → Nat → Nat) (P : Nat → Nat → Prop) {n : Nat × Nat} (hP : ∀ a i : Nat, isn n a i → P a i) (S0 : fS) (hw : PW K ad P S0 L f0) (hn : S0.2.2.1 = n) (r0 : Nat) (hr0 : r0 < n.1) (r1 : Nat) (hr1 : r1 < 5) (v : Int32) (S1 : fS) (h : F_X5_nameNext r0 r1 S0 = some (v, S1)) : Met l yX5_nameNext (.code yX5_nameNext cX5_nameNext 2 none :: gt) { frames := 0, cells := 0, slots := 0, locals := 0 } (va_Pc [.ref (ad 25 r0), .ref (ad 1 r1)] (hPre D K b0 sa sz L f0)) (hQ D K b0 (fun v9 u9 => ∃ f2 : Nat → va_E, v9 = none ∧ u9 = lU L f2 ∧ PW K ad P S1 L f2 ∧ S1.2.2.1 = n ∧ Kp ad P L f0 f2)) 0 0 (fun q => b0 ≤ q) := by
  refine t_of (own := RX5) (by decide) rfl ?_ (Nat.le_of_ble_eq_true rfl)
  intro p e s m below meth c ls C w hsz hr hlk hnm hl
  have hx := C.1
  have hb := C.2.1
  have hl : lv_has ls 2 [(0, .ref (ad 25 r0)), (1, .ref (ad 1 r1))] := hl
  dsimp only [F_X5_nameNext] at h
  obtain ⟨f, ef⟩ : ∃ z, z = f0 := ⟨_, rfl⟩
  rw [← ef] at w hw
  have hk : Kp ad P L f0 f := by rw [ef]; exact Kp.rf
  obtain ⟨H, eH⟩ : ∃ z, z = s.heap := ⟨_, rfl⟩
  obtain ⟨locs, el⟩ : ∃ z : List Loc, z = [] := ⟨_, rfl⟩
  rw [← eH, ← el] at w ⊢
  refine lv_aload_n hx hb dX5_nameNext_0 rfl (lv_at hl 0 rfl) ?_
  refine lv_aload_n hx hb dX5_nameNext_1 rfl (lv_at hl 1 rfl) ?_
  refine u_geti C w hw (hP _ _ (isn_f rfl rfl hr1)) rfl (N := 13) rfl rfl cin_0 7 (by decide) rfl gw_108 dX5_nameNext_2 ?_
  refine u_iv h (fun x1 h => ?_)
  refine lv_iconst (v := 1) hx hb dX5_nameNext_5 (by decide) ?_
  refine lv_iadd hx hb dX5_nameNext_6 ?_
  refine u_iv h (fun x2 h => ?_)
  refine u_puti C w hw (hP _ _ (isn_t25 hr0)) rfl (N := 17) rfl rfl cin_5 tyX5 tyX5_ok nmX5 4 (by decide) rfl rfl rfl rfl gw_227 dX5_nameNext_7 (fun f H locs w hw hk1 => ?_)
  have hk := hk.tr hk1
  refine u_sv h hw hn (fun S3 h hw hn => ?_)
  refine lv_aload_n hx hb dX5_nameNext_10 rfl (lv_at hl 0 rfl) ?_
  refine lv_aload_n hx hb dX5_nameNext_11 rfl (lv_at hl 1 rfl) ?_
  refine u_geti C w hw (hP _ _ (isn_f rfl rfl hr1)) rfl (N := 13) rfl rfl cin_0 8 (by decide) rfl gw_111 dX5_nameNext_12 ?_
  refine u_iv h (fun x4 h => ?_)
  refine lv_iconst (v := 1) hx hb dX5_nameNext_15 (by decide) ?_
  refine lv_iadd hx hb dX5_nameNext_16 ?_
  refine u_iv h (fun x5 h => ?_)
  refine u_puti C w hw (hP _ _ (isn_t25 hr0)) rfl (N := 17) rfl rfl cin_5 tyX5 tyX5_ok nmX5 5 (by decide) rfl rfl rfl rfl gw_230 dX5_nameNext_17 (fun f H locs w hw hk1 => ?_)
  have hk := hk.tr hk1
  refine u_sv h hw hn (fun S6 h hw hn => ?_)
  refine lv_aload_n hx hb dX5_nameNext_20 rfl (lv_at hl 0 rfl) ?_
  refine lv_aload_n hx hb dX5_nameNext_21 rfl (lv_at hl 1 rfl) ?_
  refine u_geti C w hw (hP _ _ (isn_f rfl rfl hr1)) rfl (N := 13) rfl rfl cin_0 9 (by decide) rfl gw_114 dX5_nameNext_22 ?_
  refine u_iv h (fun x7 h => ?_)
  refine lv_aload_n hx hb dX5_nameNext_25 rfl (lv_at hl 1 rfl) ?_
  refine u_geti C w hw (hP _ _ (isn_f rfl rfl hr1)) rfl (N := 13) rfl rfl cin_0 3 (by decide) rfl gw_98 dX5_nameNext_26 ?_
  refine u_iv h (fun x8 h => ?_)
  refine lv_iadd hx hb dX5_nameNext_29 ?_
  refine u_iv h (fun x9 h => ?_)
  refine u_puti C w hw (hP _ _ (isn_t25 hr0)) rfl (N := 17) rfl rfl cin_5 tyX5 tyX5_ok nmX5 6 (by decide) rfl rfl rfl rfl gw_233 dX5_nameNext_30 (fun f H locs w hw hk1 => ?_)
  have hk := hk.tr hk1
  refine u_sv h hw hn (fun S10 h hw hn => ?_)
  refine lv_aload_n hx hb dX5_nameNext_33 rfl (lv_at hl 0 rfl) ?_
  refine lv_aload_n hx hb dX5_nameNext_34 rfl (lv_at hl 1 rfl) ?_
  refine u_geti C w hw (hP _ _ (isn_f rfl rfl hr1)) rfl (N := 13) rfl rfl cin_0 10 (by decide) rfl gw_117 dX5_nameNext_35 ?_
  refine u_iv h (fun x11 h => ?_)
  refine u_puti C w hw (hP _ _ (isn_t25 hr0)) rfl (N := 17) rfl rfl cin_5 tyX5 tyX5_ok nmX5 7 (by decide) rfl rfl rfl rfl gw_236 dX5_nameNext_38 (fun f H locs w hw hk1 => ?_)
  have hk := hk.tr hk1
  refine u_sv h hw hn (fun S12 h hw hn => ?_)
  refine lv_aload_n hx hb dX5_nameNext_41 rfl (lv_at hl 0 rfl) ?_
  refine lv_aload_n hx hb dX5_nameNext_42 rfl (lv_at hl 1 rfl) ?_
  refine u_geti C w hw (hP _ _ (isn_f rfl rfl hr1)) rfl (N := 13) rfl rfl cin_0 4 (by decide) rfl gw_101 dX5_nameNext_43 ?_
  refine u_iv h (fun x13 h => ?_)
  refine u_puti C w hw (hP _ _ (isn_t25 hr0)) rfl (N := 17) rfl rfl cin_5 tyX5 tyX5_ok nmX5 8 (by decide) rfl rfl rfl rfl gw_238 dX5_nameNext_46 (fun f H locs w hw hk1 => ?_)
  have hk := hk.tr hk1
  refine u_sv h hw hn (fun S14 h hw hn => ?_)
  exact t_vret C hr hlk w ⟨_, rfl, rfl, so_w h hw, so_n h hn, hk⟩ (by decide) (by decide) dX5_nameNext_49
theorem dX5_measure_0 : decode cX5_measure 0 = .ok (.aload_n 0, 1) := by decide +kernel
theorem dX5_measure_1 : decode cX5_measure 1 = .ok (.iconst 0, 1) := by decide +kernel
theorem dX5_measure_2 : decode cX5_measure 2 = .ok (.bipush 9, 2) := by decide +kernel
theorem dX5_measure_4 : decode cX5_measure 4 = .ok (.iload_n 1, 1) := by decide +kernel
theorem dX5_measure_5 : decode cX5_measure 5 = .ok (.isub, 1) := by decide +kernel
theorem dX5_measure_6 : decode cX5_measure 6 = .ok (.invokestatic 138, 3) := by decide +kernel
theorem dX5_measure_9 : decode cX5_measure 9 = .ok (.putfield 45, 3) := by decide +kernel
theorem dX5_measure_12 : decode cX5_measure 12 = .ok (.aload_n 0, 1) := by decide +kernel
theorem dX5_measure_13 : decode cX5_measure 13 = .ok (.aload_n 0, 1) := by decide +kernel
theorem dX5_measure_14 : decode cX5_measure 14 = .ok (.getfield 42, 3) := by decide +kernel
theorem dX5_measure_17 : decode cX5_measure 17 = .ok (.bipush 8, 2) := by decide +kernel
theorem dX5_measure_19 : decode cX5_measure 19 = .ok (.irem, 1) := by decide +kernel
theorem dX5_measure_20 : decode cX5_measure 20 = .ok (.aload_n 0, 1) := by decide +kernel
theorem dX5_measure_21 : decode cX5_measure 21 = .ok (.getfield 9, 3) := by decide +kernel
theorem dX5_measure_24 : decode cX5_measure 24 = .ok (.bipush 8, 2) := by decide +kernel
theorem dX5_measure_26 : decode cX5_measure 26 = .ok (.irem, 1) := by decide +kernel
theorem dX5_measure_27 : decode cX5_measure 27 = .ok (.isub, 1) := by decide +kernel
theorem dX5_measure_28 : decode cX5_measure 28 = .ok (.invokestatic 143, 3) := by decide +kernel
theorem dX5_measure_31 : decode cX5_measure 31 = .ok (.putfield 48, 3) := by decide +kernel
theorem dX5_measure_34 : decode cX5_measure 34 = .ok (.aload_n 0, 1) := by decide +kernel
theorem dX5_measure_35 : decode cX5_measure 35 = .ok (.aload_n 0, 1) := by decide +kernel
theorem dX5_measure_36 : decode cX5_measure 36 = .ok (.getfield 45, 3) := by decide +kernel
theorem dX5_measure_39 : decode cX5_measure 39 = .ok (.aload_n 0, 1) := by decide +kernel
theorem dX5_measure_40 : decode cX5_measure 40 = .ok (.getfield 48, 3) := by decide +kernel
theorem dX5_measure_43 : decode cX5_measure 43 = .ok (.iadd, 1) := by decide +kernel
theorem dX5_measure_44 : decode cX5_measure 44 = .ok (.aload_n 0, 1) := by decide +kernel
theorem dX5_measure_45 : decode cX5_measure 45 = .ok (.getfield 42, 3) := by decide +kernel
theorem dX5_measure_48 : decode cX5_measure 48 = .ok (.bipush 8, 2) := by decide +kernel
theorem dX5_measure_50 : decode cX5_measure 50 = .ok (.idiv, 1) := by decide +kernel
theorem dX5_measure_51 : decode cX5_measure 51 = .ok (.aload_n 0, 1) := by decide +kernel
theorem dX5_measure_52 : decode cX5_measure 52 = .ok (.getfield 9, 3) := by decide +kernel
theorem dX5_measure_55 : decode cX5_measure 55 = .ok (.bipush 8, 2) := by decide +kernel
theorem dX5_measure_57 : decode cX5_measure 57 = .ok (.idiv, 1) := by decide +kernel
theorem dX5_measure_58 : decode cX5_measure 58 = .ok (.isub, 1) := by decide +kernel
theorem dX5_measure_59 : decode cX5_measure 59 = .ok (.invokestatic 143, 3) := by decide +kernel
theorem dX5_measure_62 : decode cX5_measure 62 = .ok (.iadd, 1) := by decide +kernel
theorem dX5_measure_63 : decode cX5_measure 63 = .ok (.putfield 51, 3) := by decide +kernel
theorem dX5_measure_66 : decode cX5_measure 66 = .ok (.return_, 1) := by decide +kernel
noncomputable def F_X5_measure (r0 : Nat) (p1 : Int32) (S0 : fS) : Option (Int32 × fS) := iv ((9 : Int32) - p1) (fun x1 => iv ((if (0 : Int32) < x1 then x1 else (0 : Int32))) (fun x2 => sv (pu S0 25 r0 11 x2) (fun S3 => iv (ge S3 25 r0 10) (fun x4 => iv (x4 - x4 / (8 : Int32) * (8 : Int32)) (fun x5 => iv (ge S3 25 r0 0) (fun x6 => iv (x6 - x6 / (8 : Int32) * (8 : Int32)) (fun x7 => iv (x5 - x7) (fun x8 => iv ((if 0 ≤ x8 then x8 else 0 - x8)) (fun x9 => sv (pu S3 25 r0 12 x9) (fun S10 => iv (ge S10 25 r0 11) (fun x11 => iv (ge S10 25 r0 12) (fun x12 => iv (x11 + x12) (fun x13 => iv (ge S10 25 r0 10) (fun x14 => iv (x14 / (8 : Int32)) (fun x15 => iv (ge S10 25 r0 0) (fun x16 => iv (x16 / (8 : Int32)) (fun x17 => iv (x15 - x17) (fun x18 => iv ((if 0 ≤ x18 then x18 else 0 - x18)) (fun x19 => iv (x13 + x19) (fun x20 => sv (pu S10 25 r0 13 x20) (fun S21 => some (0, S21))))))))))))))))))))))
set_option maxHeartbeats 4000000 in
set_option maxRecDepth 100000 in
theorem c_X5_measure (l : Launch) (D : va_G) (K : Nat → ClassId) (b0 : Nat) (sa : sT) (sz : Nat) (L : List Nat) (f0 : Nat → va_E) (ad : Nat → Nat → Nat) (P : Nat → Nat → Prop) {n : Nat × Nat} (hP : ∀ a i : Nat, isn n a i → P a i) (S0 : fS) (hw : PW K ad P S0 L f0) (hn : S0.2.2.1 = n) (r0 : Nat) (hr0 : r0 < n.1) (p1 : Int32) (v : Int32) (S1 : fS) (h : F_X5_measure r0 p1 S0 = some (v, S1)) : Met l yX5_measure (.code yX5_measure cX5_measure 2 none :: gt) { frames := 1, cells := 0, slots := 0, locals := 21 } (va_Pc [.ref (ad 25 r0), .int p1] (hPre D K b0 sa sz L f0)) (hQ D K b0 (fun v9 u9 => ∃ f2 : Nat → va_E, v9 = none ∧ u9 = lU L f2 ∧ PW K ad P S1 L f2 ∧ S1.2.2.1 = n ∧ Kp ad P L f0 f2)) 0 0 (fun q => b0 ≤ q) := by
  refine t_of (own := RX5) (by decide) rfl ?_ (Nat.le_of_ble_eq_true rfl)
  intro p e s m below meth c ls C w hsz hr hlk hnm hl
  have hx := C.1
  have hb := C.2.1
  have hl : lv_has ls 2 [(0, .ref (ad 25 r0)), (1, .int p1)] := hl
  dsimp only [F_X5_measure] at h
  obtain ⟨f, ef⟩ : ∃ z, z = f0 := ⟨_, rfl⟩
  rw [← ef] at w hw
  have hk : Kp ad P L f0 f := by rw [ef]; exact Kp.rf
  obtain ⟨H, eH⟩ : ∃ z, z = s.heap := ⟨_, rfl⟩
  obtain ⟨locs, el⟩ : ∃ z : List Loc, z = [] := ⟨_, rfl⟩
  rw [← eH, ← el] at w ⊢
  refine lv_aload_n hx hb dX5_measure_0 rfl (lv_at hl 0 rfl) ?_
  refine lv_iconst (v := 0) hx hb dX5_measure_1 (by decide) ?_
  refine lv_bipush (v := 9) hx hb dX5_measure_2 (by decide) ?_
  refine lv_iload_n hx hb dX5_measure_4 rfl (lv_at hl 1 rfl) ?_
  refine lv_isub hx hb dX5_measure_5 ?_
  refine u_iv h (fun x1 h => ?_)
  refine va_mmax hx hb (C.2.2.1.trans hl.1.symm) C.2.2.2.1 (C.2.2.2.2 _ gw_444) (C.2.2.2.2 _ gw_412) (C.2.2.2.2 _ gw_15) (C.2.2.2.2 _ gw_413) (by decide) (Nat.le_of_ble_eq_true rfl) (by decide) (by decide) dX5_measure_6 ?_
  refine u_iv h (fun x2 h => ?_)
  refine u_puti C w hw (hP _ _ (isn_t25 hr0)) rfl (N := 17) rfl rfl cin_5 tyX5 tyX5_ok nmX5 11 (by decide) rfl rfl rfl rfl gw_244 dX5_measure_9 (fun f H locs w hw hk1 => ?_)
  have hk := hk.tr hk1
  refine u_sv h hw hn (fun S3 h hw hn => ?_)
  refine lv_aload_n hx hb dX5_measure_12 rfl (lv_at hl 0 rfl) ?_
  refine lv_aload_n hx hb dX5_measure_13 rfl (lv_at hl 0 rfl) ?_
  refine u_geti C w hw (hP _ _ (isn_t25 hr0)) rfl (N := 17) rfl rfl cin_5 10 (by decide) rfl gw_243 dX5_measure_14 ?_
  refine u_iv h (fun x4 h => ?_)
  refine lv_bipush (v := 8) hx hb dX5_measure_17 (by decide) ?_
  refine lv_irem hx hb dX5_measure_19 (by decide) ?_
  refine u_iv h (fun x5 h => ?_)
  refine lv_aload_n hx hb dX5_measure_20 rfl (lv_at hl 0 rfl) ?_
  refine u_geti C w hw (hP _ _ (isn_t25 hr0)) rfl (N := 17) rfl rfl cin_5 0 (by decide) rfl gw_219 dX5_measure_21 ?_
  refine u_iv h (fun x6 h => ?_)
  refine lv_bipush (v := 8) hx hb dX5_measure_24 (by decide) ?_
  refine lv_irem hx hb dX5_measure_26 (by decide) ?_
  refine u_iv h (fun x7 h => ?_)
  refine lv_isub hx hb dX5_measure_27 ?_
  refine u_iv h (fun x8 h => ?_)
  refine va_mabs hx hb (C.2.2.1.trans hl.1.symm) C.2.2.2.1 (C.2.2.2.2 _ gw_445) (C.2.2.2.2 _ gw_446) (C.2.2.2.2 _ gw_15) (C.2.2.2.2 _ gw_447) (by decide) (Nat.le_of_ble_eq_true rfl) (by decide) (by decide) dX5_measure_28 ?_
  refine u_iv h (fun x9 h => ?_)
  refine u_puti C w hw (hP _ _ (isn_t25 hr0)) rfl (N := 17) rfl rfl cin_5 tyX5 tyX5_ok nmX5 12 (by decide) rfl rfl rfl rfl gw_245 dX5_measure_31 (fun f H locs w hw hk1 => ?_)
  have hk := hk.tr hk1
  refine u_sv h hw hn (fun S10 h hw hn => ?_)
  refine lv_aload_n hx hb dX5_measure_34 rfl (lv_at hl 0 rfl) ?_
  refine lv_aload_n hx hb dX5_measure_35 rfl (lv_at hl 0 rfl) ?_
  refine u_geti C w hw (hP _ _ (isn_t25 hr0)) rfl (N := 17) rfl rfl cin_5 11 (by decide) rfl gw_244 dX5_measure_36 ?_
  refine u_iv h (fun x11 h => ?_)
  refine lv_aload_n hx hb dX5_measure_39 rfl (lv_at hl 0 rfl) ?_
  refine u_geti C w hw (hP _ _ (isn_t25 hr0)) rfl (N := 17) rfl rfl cin_5 12 (by decide) rfl gw_245 dX5_measure_40 ?_
  refine u_iv h (fun x12 h => ?_)
  refine lv_iadd hx hb dX5_measure_43 ?_
  refine u_iv h (fun x13 h => ?_)
  refine lv_aload_n hx hb dX5_measure_44 rfl (lv_at hl 0 rfl) ?_
  refine u_geti C w hw (hP _ _ (isn_t25 hr0)) rfl (N := 17) rfl rfl cin_5 10 (by decide) rfl gw_243 dX5_measure_45 ?_
  refine u_iv h (fun x14 h => ?_)
  refine lv_bipush (v := 8) hx hb dX5_measure_48 (by decide) ?_
  refine lv_idiv hx hb dX5_measure_50 (by decide) ?_
  refine u_iv h (fun x15 h => ?_)
  refine lv_aload_n hx hb dX5_measure_51 rfl (lv_at hl 0 rfl) ?_
  refine u_geti C w hw (hP _ _ (isn_t25 hr0)) rfl (N := 17) rfl rfl cin_5 0 (by decide) rfl gw_219 dX5_measure_52 ?_
  refine u_iv h (fun x16 h => ?_)
  refine lv_bipush (v := 8) hx hb dX5_measure_55 (by decide) ?_
  refine lv_idiv hx hb dX5_measure_57 (by decide) ?_
  refine u_iv h (fun x17 h => ?_)
  refine lv_isub hx hb dX5_measure_58 ?_
  refine u_iv h (fun x18 h => ?_)
  refine va_mabs hx hb (C.2.2.1.trans hl.1.symm) C.2.2.2.1 (C.2.2.2.2 _ gw_445) (C.2.2.2.2 _ gw_446) (C.2.2.2.2 _ gw_15) (C.2.2.2.2 _ gw_447) (by decide) (Nat.le_of_ble_eq_true rfl) (by decide) (by decide) dX5_measure_59 ?_
  refine u_iv h (fun x19 h => ?_)
  refine lv_iadd hx hb dX5_measure_62 ?_
  refine u_iv h (fun x20 h => ?_)
  refine u_puti C w hw (hP _ _ (isn_t25 hr0)) rfl (N := 17) rfl rfl cin_5 tyX5 tyX5_ok nmX5 13 (by decide) rfl rfl rfl rfl gw_246 dX5_measure_63 (fun f H locs w hw hk1 => ?_)
  have hk := hk.tr hk1
  refine u_sv h hw hn (fun S21 h hw hn => ?_)
  exact t_vret C hr hlk w ⟨_, rfl, rfl, so_w h hw, so_n h hn, hk⟩ (by decide) (by decide) dX5_measure_66
theorem dX5_take_0 : decode cX5_take 0 = .ok (.aload_n 0, 1) := by decide +kernel
theorem dX5_take_1 : decode cX5_take 1 = .ok (.getfield 61, 3) := by decide +kernel
theorem dX5_take_4 : decode cX5_take 4 = .ok (.aload_n 0, 1) := by decide +kernel
theorem dX5_take_5 : decode cX5_take 5 = .ok (.getfield 57, 3) := by decide +kernel
theorem dX5_take_8 : decode cX5_take 8 = .ok (.arraylength, 1) := by decide +kernel
theorem dX5_take_9 : decode cX5_take 9 = .ok (.if_icmp .ge 68, 3) := by decide +kernel
theorem dX5_take_12 : decode cX5_take 12 = .ok (.aload_n 1, 1) := by decide +kernel
theorem dX5_take_13 : decode cX5_take 13 = .ok (.iload_n 2, 1) := by decide +kernel
theorem dX5_take_14 : decode cX5_take 14 = .ok (.invokevirtual 93, 3) := by decide +kernel
theorem dX5_take_17 : decode cX5_take 17 = .ok (.ifCond .eq 60, 3) := by decide +kernel
theorem dX5_take_20 : decode cX5_take 20 = .ok (.aload_n 0, 1) := by decide +kernel
theorem dX5_take_21 : decode cX5_take 21 = .ok (.getfield 57, 3) := by decide +kernel
theorem dX5_take_24 : decode cX5_take 24 = .ok (.aload_n 0, 1) := by decide +kernel
theorem dX5_take_25 : decode cX5_take 25 = .ok (.getfield 61, 3) := by decide +kernel
theorem dX5_take_28 : decode cX5_take 28 = .ok (.iload_n 2, 1) := by decide +kernel
theorem dX5_take_29 : decode cX5_take 29 = .ok (.iastore, 1) := by decide +kernel
theorem dX5_take_30 : decode cX5_take 30 = .ok (.aload_n 0, 1) := by decide +kernel
theorem dX5_take_31 : decode cX5_take 31 = .ok (.dup, 1) := by decide +kernel
theorem dX5_take_32 : decode cX5_take 32 = .ok (.getfield 61, 3) := by decide +kernel
theorem dX5_take_35 : decode cX5_take 35 = .ok (.iconst 1, 1) := by decide +kernel
theorem dX5_take_36 : decode cX5_take 36 = .ok (.iadd, 1) := by decide +kernel
theorem dX5_take_37 : decode cX5_take 37 = .ok (.putfield 61, 3) := by decide +kernel
theorem dX5_take_40 : decode cX5_take 40 = .ok (.aload_n 0, 1) := by decide +kernel
theorem dX5_take_41 : decode cX5_take 41 = .ok (.dup, 1) := by decide +kernel
theorem dX5_take_42 : decode cX5_take 42 = .ok (.getfield 54, 3) := by decide +kernel
theorem dX5_take_45 : decode cX5_take 45 = .ok (.aload_n 1, 1) := by decide +kernel
theorem dX5_take_46 : decode cX5_take 46 = .ok (.getfield 122, 3) := by decide +kernel
theorem dX5_take_49 : decode cX5_take 49 = .ok (.iload_n 2, 1) := by decide +kernel
theorem dX5_take_50 : decode cX5_take 50 = .ok (.iaload, 1) := by decide +kernel
theorem dX5_take_51 : decode cX5_take 51 = .ok (.iadd, 1) := by decide +kernel
theorem dX5_take_52 : decode cX5_take 52 = .ok (.putfield 54, 3) := by decide +kernel
theorem dX5_take_55 : decode cX5_take 55 = .ok (.aload_n 0, 1) := by decide +kernel
theorem dX5_take_56 : decode cX5_take 56 = .ok (.aload_n 1, 1) := by decide +kernel
theorem dX5_take_57 : decode cX5_take 57 = .ok (.getfield 125, 3) := by decide +kernel
theorem dX5_take_60 : decode cX5_take 60 = .ok (.iload_n 2, 1) := by decide +kernel
theorem dX5_take_61 : decode cX5_take 61 = .ok (.iaload, 1) := by decide +kernel
theorem dX5_take_62 : decode cX5_take 62 = .ok (.iconst 1, 1) := by decide +kernel
theorem dX5_take_63 : decode cX5_take 63 = .ok (.if_icmp .ne 7, 3) := by decide +kernel
theorem dX5_take_66 : decode cX5_take 66 = .ok (.iconst 4, 1) := by decide +kernel
theorem dX5_take_67 : decode cX5_take 67 = .ok (.goto 7, 3) := by decide +kernel
theorem dX5_take_70 : decode cX5_take 70 = .ok (.aload_n 0, 1) := by decide +kernel
theorem dX5_take_71 : decode cX5_take 71 = .ok (.getfield 15, 3) := by decide +kernel
theorem dX5_take_74 : decode cX5_take 74 = .ok (.putfield 15, 3) := by decide +kernel
theorem dX5_take_77 : decode cX5_take 77 = .ok (.return_, 1) := by decide +kernel
noncomputable def B_X5_take_74 (r0 : Nat) (r1 : Nat) (t0 : Int32) (S : fS) : Option (Int32 × fS) := sv (pu S 25 r0 1 t0) (fun S1 => some (0, S1))
noncomputable def F_X5_take (r0 : Nat) (r1 : Nat) (p2 : Int32) (S0 : fS) : Option (Int32 × fS) := iv (ge S0 25 r0 16) (fun x2 => bb ((5 : Int32) ≤ x2) (some (0, S0)) (bd (F_X2_known r1 p2 S0) (fun v4 S5 => bb (v4 = (0 : Int32)) (some (0, S5)) (iv (ge S5 25 r0 16) (fun x8 => gd (ib x8 5) (sv (pu S5 26 r0 (x8 : Int32).toNatClampNeg p2) (fun S10 => iv (ge S10 25 r0 16) (fun x11 => iv (x11 + (1 : Int32)) (fun x12 => sv (pu S10 25 r0 16 x12) (fun S13 => iv (ge S13 25 r0 14) (fun x14 => gd (ib p2 24) (iv (ge S13 3 r1 (p2 : Int32).toNatClampNeg) (fun x16 => iv (x14 + x16) (fun x17 => sv (pu S13 25 r0 14 x17) (fun S18 => gd (ib p2 24) (iv (ge S18 6 r1 (p2 : Int32).toNatClampNeg) (fun x20 => bb (x20 = (1 : Int32)) (B_X5_take_74 r0 r1  4 S18) (iv (ge S18 25 r0 1) (fun x22 => B_X5_take_74 r0 r1  x22 S18)))))))))))))))))))
set_option maxHeartbeats 4000000 in
set_option maxRecDepth 100000 in
theorem c_X5_take (l : Launch) (D : va_G) (K : Nat → ClassId) (b0 : Nat) (sa : sT) (sz : Nat) (L : List Nat) (f0 : Nat → va_E) (ad : Nat → Nat → Nat) (P : Nat → Nat → Prop) {n : Nat × Nat} (hP : ∀ a i : Nat, isn n a i → P a i) (S0 : fS) (hw : PW K ad P S0 L f0) (hn : S0.2.2.1 = n) (r0 : Nat) (hr0 : r0 < n.1) (r1 : Nat) (hr1 : r1 < 5) (p2 : Int32) (v : Int32) (S1 : fS) (h : F_X5_take r0 r1 p2 S0 = some (v, S1)) : Met l yX5_take (.code yX5_take cX5_take 3 none :: gt) { frames := 1, cells := 0, slots := 0, locals := 21 } (va_Pc [.ref (ad 25 r0), .ref (ad 2 r1), .int p2] (hPre D K b0 sa sz L f0)) (hQ D K b0 (fun v9 u9 => ∃ f2 : Nat → va_E, v9 = none ∧ u9 = lU L f2 ∧ PW K ad P S1 L f2 ∧ S1.2.2.1 = n ∧ Kp ad P L f0 f2)) 0 0 (fun q => b0 ≤ q) := by
  refine t_of (own := RX5) (by decide) rfl ?_ (Nat.le_of_ble_eq_true rfl)
  intro p e s m below meth c ls C w hsz hr hlk hnm hl
  have hx := C.1
  have hb := C.2.1
  have hl : lv_has ls 3 [(0, .ref (ad 25 r0)), (1, .ref (ad 2 r1)), (2, .int p2)] := hl
  have J74 : ∀ (t0 : Int32) (S : fS), B_X5_take_74 r0 r1  t0 S = some (v, S1) → Gw D K b0 sa ad P n L f0 p l e { frames := 1, cells := 0, slots := 0, locals := 21 } s m [.ref (ad 25 r0), .ref (ad 2 r1), .int p2].toArray below meth c 3 (MQ below (hQ D K b0 (fun v9 u9 => ∃ f2 : Nat → va_E, v9 = none ∧ u9 = lU L f2 ∧ PW K ad P S1 L f2 ∧ S1.2.2.1 = n ∧ Kp ad P L f0 f2)) [.ref (ad 25 r0), .ref (ad 2 r1), .int p2].toArray s 0 0 (fun q => b0 ≤ q)) 0 0 74 [] [.int t0, .ref (ad 25 r0)] S := by
    intro t0 S h
    dsimp only [B_X5_take_74] at h
    intro f H locs w hw hn hk ls hl
    refine u_puti C w hw (hP _ _ (isn_t25 hr0)) rfl (N := 17) rfl rfl cin_5 tyX5 tyX5_ok nmX5 1 (by decide) rfl rfl rfl rfl gw_220 dX5_take_74 (fun f H locs w hw hk1 => ?_)
    have hk := hk.tr hk1
    refine u_sv h hw hn (fun S1 h hw hn => ?_)
    exact t_vret C hr hlk w ⟨_, rfl, rfl, so_w h hw, so_n h hn, hk⟩ (by decide) (by decide) dX5_take_77
  dsimp only [F_X5_take] at h
  obtain ⟨f, ef⟩ : ∃ z, z = f0 := ⟨_, rfl⟩
  rw [← ef] at w hw
  have hk : Kp ad P L f0 f := by rw [ef]; exact Kp.rf
  obtain ⟨H, eH⟩ : ∃ z, z = s.heap := ⟨_, rfl⟩
  obtain ⟨locs, el⟩ : ∃ z : List Loc, z = [] := ⟨_, rfl⟩
  rw [← eH, ← el] at w ⊢
  refine lv_aload_n hx hb dX5_take_0 rfl (lv_at hl 0 rfl) ?_
  refine u_geti C w hw (hP _ _ (isn_t25 hr0)) rfl (N := 17) rfl rfl cin_5 16 (by decide) rfl gw_249 dX5_take_1 ?_
  refine u_iv h (fun x2 h => ?_)
  refine lv_aload_n hx hb dX5_take_4 rfl (lv_at hl 0 rfl) ?_
  refine u_getr C w hw (hP _ _ (isn_t25 hr0)) rfl (N := 17) rfl rfl cin_5 15 (by decide) (by decide) (a2 := 26) (i2 := r0) rfl gw_248 dX5_take_5 ?_
  refine u_alen C w hw (hP _ _ (isn_t26 hr0)) rfl rfl (v := 5) rfl dX5_take_8 ?_
  refine lv_icmp_ge (tgt := 77) hx hb dX5_take_9 (by decide) (fun c3 => ?_) (fun c3 => ?_)
  · have h := bb_t h c3
    exact t_vret C hr hlk w ⟨_, rfl, rfl, so_w h hw, so_n h hn, hk⟩ (by decide) (by decide) dX5_take_77
  · have h := bb_f h c3
    refine lv_aload_n hx hb dX5_take_12 rfl (lv_at hl 1 rfl) ?_
    refine lv_iload_n hx hb dX5_take_13 rfl (lv_at hl 2 rfl) ?_
    obtain ⟨v4, S5, h6, h⟩ := bd_some h
    refine u_callV (n := 1) C w hw (hP _ _ (isn_f rfl rfl hr1)) rfl rfl rfl (c_X2_known l D K b0 sa _ L _ ad P hP S0 hw hn r1 hr1 p2 v4 S5 h6) gw_434 gw_431 gw_432 gw_433 gw_3 ⟨by decide, by decide, by decide +kernel⟩ rfl rfl ⟨by decide, by decide⟩ rfl hl.1 rfl (Nat.le_of_ble_eq_true rfl) dX5_take_14 ⟨Nat.le_of_ble_eq_true rfl, Nat.le_of_ble_eq_true rfl⟩ (fun v9 u H locs hp w => ?_)
    obtain ⟨f2, rfl, rfl, hw, hn, hk1⟩ := hp
    have hk := hk.tr hk1
    generalize f2 = f at w hw hk
    refine lv_if_eq (tgt := 77) hx hb dX5_take_17 (by decide) (fun c7 => ?_) (fun c7 => ?_)
    · have h := bb_t h c7
      exact t_vret C hr hlk w ⟨_, rfl, rfl, so_w h hw, so_n h hn, hk⟩ (by decide) (by decide) dX5_take_77
    · have h := bb_f h c7
      refine lv_aload_n hx hb dX5_take_20 rfl (lv_at hl 0 rfl) ?_
      refine u_getr C w hw (hP _ _ (isn_t25 hr0)) rfl (N := 17) rfl rfl cin_5 15 (by decide) (by decide) (a2 := 26) (i2 := r0) rfl gw_248 dX5_take_21 ?_
      refine lv_aload_n hx hb dX5_take_24 rfl (lv_at hl 0 rfl) ?_
      refine u_geti C w hw (hP _ _ (isn_t25 hr0)) rfl (N := 17) rfl rfl cin_5 16 (by decide) rfl gw_249 dX5_take_25 ?_
      refine u_iv h (fun x8 h => ?_)
      refine lv_iload_n hx hb dX5_take_28 rfl (lv_at hl 2 rfl) ?_
      obtain ⟨g9, h⟩ := gd_some h
      refine u_iast C w hw (hP _ _ (isn_t26 hr0)) rfl rfl (n := 5) rfl (vp_in_iff.mpr g9) dX5_take_29 (fun f H locs w hw hk1 => ?_)
      have hk := hk.tr hk1
      refine u_sv h hw hn (fun S10 h hw hn => ?_)
      refine lv_aload_n hx hb dX5_take_30 rfl (lv_at hl 0 rfl) ?_
      refine lv_dup hx hb dX5_take_31 rfl ?_
      refine u_geti C w hw (hP _ _ (isn_t25 hr0)) rfl (N := 17) rfl rfl cin_5 16 (by decide) rfl gw_249 dX5_take_32 ?_
      refine u_iv h (fun x11 h => ?_)
      refine lv_iconst (v := 1) hx hb dX5_take_35 (by decide) ?_
      refine lv_iadd hx hb dX5_take_36 ?_
      refine u_iv h (fun x12 h => ?_)
      refine u_puti C w hw (hP _ _ (isn_t25 hr0)) rfl (N := 17) rfl rfl cin_5 tyX5 tyX5_ok nmX5 16 (by decide) rfl rfl rfl rfl gw_249 dX5_take_37 (fun f H locs w hw hk1 => ?_)
      have hk := hk.tr hk1
      refine u_sv h hw hn (fun S13 h hw hn => ?_)
      refine lv_aload_n hx hb dX5_take_40 rfl (lv_at hl 0 rfl) ?_
      refine lv_dup hx hb dX5_take_41 rfl ?_
      refine u_geti C w hw (hP _ _ (isn_t25 hr0)) rfl (N := 17) rfl rfl cin_5 14 (by decide) rfl gw_247 dX5_take_42 ?_
      refine u_iv h (fun x14 h => ?_)
      refine lv_aload_n hx hb dX5_take_45 rfl (lv_at hl 1 rfl) ?_
      refine u_getr C w hw (hP _ _ (isn_f rfl rfl hr1)) rfl (N := 9) rfl rfl cin_2 1 (by decide) (by decide) (a2 := 3) (i2 := r1) rfl gw_50 dX5_take_46 ?_
      refine lv_iload_n hx hb dX5_take_49 rfl (lv_at hl 2 rfl) ?_
      obtain ⟨g15, h⟩ := gd_some h
      refine u_iald C w hw (hP _ _ (isn_f rfl rfl hr1)) rfl rfl (n := 24) rfl (vp_in_iff.mpr g15) dX5_take_50 ?_
      refine u_iv h (fun x16 h => ?_)
      refine lv_iadd hx hb dX5_take_51 ?_
      refine u_iv h (fun x17 h => ?_)
      refine u_puti C w hw (hP _ _ (isn_t25 hr0)) rfl (N := 17) rfl rfl cin_5 tyX5 tyX5_ok nmX5 14 (by decide) rfl rfl rfl rfl gw_247 dX5_take_52 (fun f H locs w hw hk1 => ?_)
      have hk := hk.tr hk1
      refine u_sv h hw hn (fun S18 h hw hn => ?_)
      refine lv_aload_n hx hb dX5_take_55 rfl (lv_at hl 0 rfl) ?_
      refine lv_aload_n hx hb dX5_take_56 rfl (lv_at hl 1 rfl) ?_
      refine u_getr C w hw (hP _ _ (isn_f rfl rfl hr1)) rfl (N := 9) rfl rfl cin_2 4 (by decide) (by decide) (a2 := 6) (i2 := r1) rfl gw_58 dX5_take_57 ?_
      refine lv_iload_n hx hb dX5_take_60 rfl (lv_at hl 2 rfl) ?_
      obtain ⟨g19, h⟩ := gd_some h
      refine u_iald C w hw (hP _ _ (isn_f rfl rfl hr1)) rfl rfl (n := 24) rfl (vp_in_iff.mpr g19) dX5_take_61 ?_
      refine u_iv h (fun x20 h => ?_)
      refine lv_iconst (v := 1) hx hb dX5_take_62 (by decide) ?_
      refine lv_icmp_ne (tgt := 70) hx hb dX5_take_63 (by decide) (fun c21 => ?_) (fun c21 => ?_)
      · have h := bb_f h c21
        refine lv_aload_n hx hb dX5_take_70 rfl (lv_at hl 0 rfl) ?_
        refine u_geti C w hw (hP _ _ (isn_t25 hr0)) rfl (N := 17) rfl rfl cin_5 1 (by decide) rfl gw_220 dX5_take_71 ?_
        refine u_iv h (fun x22 h => ?_)
        exact J74  x22 S18 h f H locs w hw hn hk ls (lv_sub hl [] rfl)
      · have h := bb_t h c21
        refine lv_iconst (v := 4) hx hb dX5_take_66 (by decide) ?_
        refine lv_goto (tgt := 74) hx hb dX5_take_67 (by decide) ?_
        exact J74  4 S18 h f H locs w hw hn hk ls (lv_sub hl [] rfl)
theorem dX5_failingStep_0 : decode cX5_failingStep 0 = .ok (.iconst 0, 1) := by decide +kernel
theorem dX5_failingStep_1 : decode cX5_failingStep 1 = .ok (.istore_n 3, 1) := by decide +kernel
theorem dX5_failingStep_2 : decode cX5_failingStep 2 = .ok (.iload_n 3, 1) := by decide +kernel
theorem dX5_failingStep_3 : decode cX5_failingStep 3 = .ok (.aload_n 0, 1) := by decide +kernel
theorem dX5_failingStep_4 : decode cX5_failingStep 4 = .ok (.getfield 51, 3) := by decide +kernel
theorem dX5_failingStep_7 : decode cX5_failingStep 7 = .ok (.if_icmp .ge 26, 3) := by decide +kernel
theorem dX5_failingStep_10 : decode cX5_failingStep 10 = .ok (.iload_n 1, 1) := by decide +kernel
theorem dX5_failingStep_11 : decode cX5_failingStep 11 = .ok (.iload_n 2, 1) := by decide +kernel
theorem dX5_failingStep_12 : decode cX5_failingStep 12 = .ok (.iload_n 3, 1) := by decide +kernel
theorem dX5_failingStep_13 : decode cX5_failingStep 13 = .ok (.imul, 1) := by decide +kernel
theorem dX5_failingStep_14 : decode cX5_failingStep 14 = .ok (.bipush 10, 2) := by decide +kernel
theorem dX5_failingStep_16 : decode cX5_failingStep 16 = .ok (.idiv, 1) := by decide +kernel
theorem dX5_failingStep_17 : decode cX5_failingStep 17 = .ok (.isub, 1) := by decide +kernel
theorem dX5_failingStep_18 : decode cX5_failingStep 18 = .ok (.aload_n 0, 1) := by decide +kernel
theorem dX5_failingStep_19 : decode cX5_failingStep 19 = .ok (.getfield 54, 3) := by decide +kernel
theorem dX5_failingStep_22 : decode cX5_failingStep 22 = .ok (.if_icmp .ge 5, 3) := by decide +kernel
theorem dX5_failingStep_25 : decode cX5_failingStep 25 = .ok (.iload_n 3, 1) := by decide +kernel
theorem dX5_failingStep_26 : decode cX5_failingStep 26 = .ok (.ireturn, 1) := by decide +kernel
theorem dX5_failingStep_27 : decode cX5_failingStep 27 = .ok (.iinc 3 1, 3) := by decide +kernel
theorem dX5_failingStep_30 : decode cX5_failingStep 30 = .ok (.goto (-28), 3) := by decide +kernel
theorem dX5_failingStep_33 : decode cX5_failingStep 33 = .ok (.aload_n 0, 1) := by decide +kernel
theorem dX5_failingStep_34 : decode cX5_failingStep 34 = .ok (.getfield 51, 3) := by decide +kernel
theorem dX5_failingStep_37 : decode cX5_failingStep 37 = .ok (.ireturn, 1) := by decide +kernel
noncomputable def B_X5_failingStep_2 (r0 : Nat) (k2 : (Int32 × Int32 × Int32) → fS → Option (Int32 × fS)) : (Int32 × Int32 × Int32) → fS → Option (Int32 × fS) := fun ⟨a1, a2, a3⟩ S => iv (ge S 25 r0 13) (fun x1 => bb (x1 ≤ a3) (iv (ge S 25 r0 13) (fun x3 => some (x3, S))) (iv (a2 * a3) (fun x4 => iv (x4 / (10 : Int32)) (fun x5 => iv (a1 - x5) (fun x6 => iv (ge S 25 r0 14) (fun x7 => bb (x7 ≤ x6) (iv (a3 + Int32.ofInt 1) (fun x9 => k2 (a1, a2, x9) S)) (some (a3, S))))))))
noncomputable def F_X5_failingStep (r0 : Nat) (p1 : Int32) (p2 : Int32) (S0 : fS) : Option (Int32 × fS) := lp (B_X5_failingStep_2 r0 ) fuel (p1, p2, 0) S0
set_option maxHeartbeats 4000000 in
set_option maxRecDepth 100000 in
theorem c_X5_failingStep (l : Launch) (D : va_G) (K : Nat → ClassId) (b0 : Nat) (sa : sT) (sz : Nat) (L : List Nat) (f0 : Nat → va_E) (ad : Nat → Nat → Nat) (P : Nat → Nat → Prop) {n : Nat × Nat} (hP : ∀ a i : Nat, isn n a i → P a i) (S0 : fS) (hw : PW K ad P S0 L f0) (hn : S0.2.2.1 = n) (r0 : Nat) (hr0 : r0 < n.1) (p1 : Int32) (p2 : Int32) (v : Int32) (S1 : fS) (h : F_X5_failingStep r0 p1 p2 S0 = some (v, S1)) : Met l yX5_failingStep (.code yX5_failingStep cX5_failingStep 4 (some .int) :: gt) { frames := 0, cells := 0, slots := 0, locals := 0 } (va_Pc [.ref (ad 25 r0), .int p1, .int p2] (hPre D K b0 sa sz L f0)) (hQ D K b0 (fun v9 u9 => ∃ f2 : Nat → va_E, v9 = some (.int v) ∧ u9 = lU L f2 ∧ PW K ad P S1 L f2 ∧ S1.2.2.1 = n ∧ Kp ad P L f0 f2)) 0 0 (fun q => b0 ≤ q) := by
  refine t_of (own := RX5) (by decide) rfl ?_ (Nat.le_of_ble_eq_true rfl)
  intro p e s m below meth c ls C w hsz hr hlk hnm hl
  have hx := C.1
  have hb := C.2.1
  have hl : lv_has ls 4 [(0, .ref (ad 25 r0)), (1, .int p1), (2, .int p2)] := hl
  have J2 : ∀ (fu : Nat) (a1 : Int32) (a2 : Int32) (a3 : Int32) (S : fS), lp (B_X5_failingStep_2 r0 ) fu (a1, a2, a3) S = some (v, S1) → Gw D K b0 sa ad P n L f0 p l e { frames := 0, cells := 0, slots := 0, locals := 0 } s m [.ref (ad 25 r0), .int p1, .int p2].toArray below meth c 4 (MQ below (hQ D K b0 (fun v9 u9 => ∃ f2 : Nat → va_E, v9 = some (.int v) ∧ u9 = lU L f2 ∧ PW K ad P S1 L f2 ∧ S1.2.2.1 = n ∧ Kp ad P L f0 f2)) [.ref (ad 25 r0), .int p1, .int p2].toArray s 0 0 (fun q => b0 ≤ q)) 0 0 2 [(0, .ref (ad 25 r0)), (1, .int a1), (2, .int a2), (3, .int a3)] [] S := by
    intro fu a1 a2 a3 S h
    refine lp_some (G := (fun q S => Gw D K b0 sa ad P n L f0 p l e { frames := 0, cells := 0, slots := 0, locals := 0 } s m [.ref (ad 25 r0), .int p1, .int p2].toArray below meth c 4 (MQ below (hQ D K b0 (fun v9 u9 => ∃ f2 : Nat → va_E, v9 = some (.int v) ∧ u9 = lU L f2 ∧ PW K ad P S1 L f2 ∧ S1.2.2.1 = n ∧ Kp ad P L f0 f2)) [.ref (ad 25 r0), .int p1, .int p2].toArray s 0 0 (fun q => b0 ≤ q)) 0 0 2 [(0, .ref (ad 25 r0)), (1, .int q.1), (2, .int q.2.1), (3, .int q.2.2)] [] S)) (fun k2 hk2 q S h => ?_) fu (a1, a2, a3) S h
    obtain ⟨a1, a2, a3⟩ := q
    have hk2 : ∀ (a1 : Int32) (a2 : Int32) (a3 : Int32) (S : fS), k2 (a1, a2, a3) S = some (v, S1) → Gw D K b0 sa ad P n L f0 p l e { frames := 0, cells := 0, slots := 0, locals := 0 } s m [.ref (ad 25 r0), .int p1, .int p2].toArray below meth c 4 (MQ below (hQ D K b0 (fun v9 u9 => ∃ f2 : Nat → va_E, v9 = some (.int v) ∧ u9 = lU L f2 ∧ PW K ad P S1 L f2 ∧ S1.2.2.1 = n ∧ Kp ad P L f0 f2)) [.ref (ad 25 r0), .int p1, .int p2].toArray s 0 0 (fun q => b0 ≤ q)) 0 0 2 [(0, .ref (ad 25 r0)), (1, .int a1), (2, .int a2), (3, .int a3)] [] S := fun a1 a2 a3 S h => hk2 (a1, a2, a3) S h
    dsimp only [B_X5_failingStep_2] at h
    intro f H locs w hw hn hk ls hl
    refine lv_iload_n hx hb dX5_failingStep_2 rfl (lv_at hl 3 rfl) ?_
    refine lv_aload_n hx hb dX5_failingStep_3 rfl (lv_at hl 0 rfl) ?_
    refine u_geti C w hw (hP _ _ (isn_t25 hr0)) rfl (N := 17) rfl rfl cin_5 13 (by decide) rfl gw_246 dX5_failingStep_4 ?_
    refine u_iv h (fun x1 h => ?_)
    refine lv_icmp_ge (tgt := 33) hx hb dX5_failingStep_7 (by decide) (fun c2 => ?_) (fun c2 => ?_)
    · have h := bb_t h c2
      refine lv_aload_n hx hb dX5_failingStep_33 rfl (lv_at hl 0 rfl) ?_
      refine u_geti C w hw (hP _ _ (isn_t25 hr0)) rfl (N := 17) rfl rfl cin_5 13 (by decide) rfl gw_246 dX5_failingStep_34 ?_
      refine u_iv h (fun x3 h => ?_)
      exact t_iret C hr hlk w ⟨_, so_v h, rfl, so_w h hw, so_n h hn, hk⟩ (by decide) (by decide) dX5_failingStep_37
    · have h := bb_f h c2
      refine lv_iload_n hx hb dX5_failingStep_10 rfl (lv_at hl 1 rfl) ?_
      refine lv_iload_n hx hb dX5_failingStep_11 rfl (lv_at hl 2 rfl) ?_
      refine lv_iload_n hx hb dX5_failingStep_12 rfl (lv_at hl 3 rfl) ?_
      refine lv_imul hx hb dX5_failingStep_13 ?_
      refine u_iv h (fun x4 h => ?_)
      refine lv_bipush (v := 10) hx hb dX5_failingStep_14 (by decide) ?_
      refine lv_idiv hx hb dX5_failingStep_16 (by decide) ?_
      refine u_iv h (fun x5 h => ?_)
      refine lv_isub hx hb dX5_failingStep_17 ?_
      refine u_iv h (fun x6 h => ?_)
      refine lv_aload_n hx hb dX5_failingStep_18 rfl (lv_at hl 0 rfl) ?_
      refine u_geti C w hw (hP _ _ (isn_t25 hr0)) rfl (N := 17) rfl rfl cin_5 14 (by decide) rfl gw_247 dX5_failingStep_19 ?_
      refine u_iv h (fun x7 h => ?_)
      refine lv_icmp_ge (tgt := 27) hx hb dX5_failingStep_22 (by decide) (fun c8 => ?_) (fun c8 => ?_)
      · have h := bb_t h c8
        obtain ⟨x9, ex9, h⟩ := iv_some h
        refine lv_iinc (v := x9) (lv' := [(3, .int x9), (0, .ref (ad 25 r0)), (1, .int a1), (2, .int a2)]) hx hb dX5_failingStep_27 hl (k := 3) rfl ex9.symm (by decide) rfl (fun ls hl => ?_)
        refine lv_goto (tgt := 2) hx hb dX5_failingStep_30 (by decide) ?_
        exact hk2 a1 a2 x9 S h f H locs w hw hn hk ls (lv_sub hl [1, 2, 3, 0] rfl)
      · have h := bb_f h c8
        refine lv_iload_n hx hb dX5_failingStep_25 rfl (lv_at hl 3 rfl) ?_
        exact t_iret C hr hlk w ⟨_, so_v h, rfl, so_w h hw, so_n h hn, hk⟩ (by decide) (by decide) dX5_failingStep_26
  dsimp only [F_X5_failingStep] at h
  obtain ⟨f, ef⟩ : ∃ z, z = f0 := ⟨_, rfl⟩
  rw [← ef] at w hw
  have hk : Kp ad P L f0 f := by rw [ef]; exact Kp.rf
  obtain ⟨H, eH⟩ : ∃ z, z = s.heap := ⟨_, rfl⟩
  obtain ⟨locs, el⟩ : ∃ z : List Loc, z = [] := ⟨_, rfl⟩
  rw [← eH, ← el] at w ⊢
  refine lv_iconst (v := 0) hx hb dX5_failingStep_0 (by decide) ?_
  refine lv_istore_n (lv' := [(3, .int 0), (0, .ref (ad 25 r0)), (1, .int p1), (2, .int p2)]) hx hb dX5_failingStep_1 rfl hl (by decide) rfl (fun ls hl => ?_)
  exact J2  fuel p1 p2 0 S0 h f H locs w hw hn hk ls (lv_sub hl [1, 2, 3, 0] rfl)
theorem dX5_outcomeAt_0 : decode cX5_outcomeAt 0 = .ok (.aload_n 0, 1) := by decide +kernel
theorem dX5_outcomeAt_1 : decode cX5_outcomeAt 1 = .ok (.getfield 15, 3) := by decide +kernel
theorem dX5_outcomeAt_4 : decode cX5_outcomeAt 4 = .ok (.ifCond .eq 11, 3) := by decide +kernel
theorem dX5_outcomeAt_7 : decode cX5_outcomeAt 7 = .ok (.aload_n 0, 1) := by decide +kernel
theorem dX5_outcomeAt_8 : decode cX5_outcomeAt 8 = .ok (.getfield 15, 3) := by decide +kernel
theorem dX5_outcomeAt_11 : decode cX5_outcomeAt 11 = .ok (.iconst 4, 1) := by decide +kernel
theorem dX5_outcomeAt_12 : decode cX5_outcomeAt 12 = .ok (.if_icmp .ne 8, 3) := by decide +kernel
theorem dX5_outcomeAt_15 : decode cX5_outcomeAt 15 = .ok (.aload_n 0, 1) := by decide +kernel
theorem dX5_outcomeAt_16 : decode cX5_outcomeAt 16 = .ok (.getfield 15, 3) := by decide +kernel
theorem dX5_outcomeAt_19 : decode cX5_outcomeAt 19 = .ok (.ireturn, 1) := by decide +kernel
theorem dX5_outcomeAt_20 : decode cX5_outcomeAt 20 = .ok (.iload_n 1, 1) := by decide +kernel
theorem dX5_outcomeAt_21 : decode cX5_outcomeAt 21 = .ok (.aload_n 0, 1) := by decide +kernel
theorem dX5_outcomeAt_22 : decode cX5_outcomeAt 22 = .ok (.getfield 51, 3) := by decide +kernel
theorem dX5_outcomeAt_25 : decode cX5_outcomeAt 25 = .ok (.if_icmp .lt 5, 3) := by decide +kernel
theorem dX5_outcomeAt_28 : decode cX5_outcomeAt 28 = .ok (.iconst 5, 1) := by decide +kernel
theorem dX5_outcomeAt_29 : decode cX5_outcomeAt 29 = .ok (.ireturn, 1) := by decide +kernel
theorem dX5_outcomeAt_30 : decode cX5_outcomeAt 30 = .ok (.iload_n 1, 1) := by decide +kernel
theorem dX5_outcomeAt_31 : decode cX5_outcomeAt 31 = .ok (.ifCond .ne 5, 3) := by decide +kernel
theorem dX5_outcomeAt_34 : decode cX5_outcomeAt 34 = .ok (.iconst 1, 1) := by decide +kernel
theorem dX5_outcomeAt_35 : decode cX5_outcomeAt 35 = .ok (.ireturn, 1) := by decide +kernel
theorem dX5_outcomeAt_36 : decode cX5_outcomeAt 36 = .ok (.iload_n 1, 1) := by decide +kernel
theorem dX5_outcomeAt_37 : decode cX5_outcomeAt 37 = .ok (.aload_n 0, 1) := by decide +kernel
theorem dX5_outcomeAt_38 : decode cX5_outcomeAt 38 = .ok (.getfield 45, 3) := by decide +kernel
theorem dX5_outcomeAt_41 : decode cX5_outcomeAt 41 = .ok (.if_icmp .gt 7, 3) := by decide +kernel
theorem dX5_outcomeAt_44 : decode cX5_outcomeAt 44 = .ok (.iconst 2, 1) := by decide +kernel
theorem dX5_outcomeAt_45 : decode cX5_outcomeAt 45 = .ok (.goto 4, 3) := by decide +kernel
theorem dX5_outcomeAt_48 : decode cX5_outcomeAt 48 = .ok (.iconst 3, 1) := by decide +kernel
theorem dX5_outcomeAt_49 : decode cX5_outcomeAt 49 = .ok (.ireturn, 1) := by decide +kernel
noncomputable def B_X5_outcomeAt_15 (r0 : Nat) (S : fS) : Option (Int32 × fS) := iv (ge S 25 r0 1) (fun x1 => some (x1, S))
noncomputable def F_X5_outcomeAt (r0 : Nat) (p1 : Int32) (S0 : fS) : Option (Int32 × fS) := iv (ge S0 25 r0 1) (fun x2 => bb (x2 = (0 : Int32)) (B_X5_outcomeAt_15 r0   S0) (iv (ge S0 25 r0 1) (fun x4 => bb (x4 = (4 : Int32)) (B_X5_outcomeAt_15 r0   S0) (iv (ge S0 25 r0 13) (fun x6 => bb (p1 < x6) (bb (p1 = (0 : Int32)) (some (1, S0)) (iv (ge S0 25 r0 11) (fun x9 => bb (x9 < p1) (some (3, S0)) (some (2, S0))))) (some (5, S0)))))))
set_option maxHeartbeats 4000000 in
set_option maxRecDepth 100000 in
theorem c_X5_outcomeAt (l : Launch) (D : va_G) (K : Nat → ClassId) (b0 : Nat) (sa : sT) (sz : Nat) (L : List Nat) (f0 : Nat → va_E) (ad : Nat → Nat → Nat) (P : Nat → Nat → Prop) {n : Nat × Nat} (hP : ∀ a i : Nat, isn n a i → P a i) (S0 : fS) (hw : PW K ad P S0 L f0) (hn : S0.2.2.1 = n) (r0 : Nat) (hr0 : r0 < n.1) (p1 : Int32) (v : Int32) (S1 : fS) (h : F_X5_outcomeAt r0 p1 S0 = some (v, S1)) : Met l yX5_outcomeAt (.code yX5_outcomeAt cX5_outcomeAt 2 (some .int) :: gt) { frames := 0, cells := 0, slots := 0, locals := 0 } (va_Pc [.ref (ad 25 r0), .int p1] (hPre D K b0 sa sz L f0)) (hQ D K b0 (fun v9 u9 => ∃ f2 : Nat → va_E, v9 = some (.int v) ∧ u9 = lU L f2 ∧ PW K ad P S1 L f2 ∧ S1.2.2.1 = n ∧ Kp ad P L f0 f2)) 0 0 (fun q => b0 ≤ q) := by
  refine t_of (own := RX5) (by decide) rfl ?_ (Nat.le_of_ble_eq_true rfl)
  intro p e s m below meth c ls C w hsz hr hlk hnm hl
  have hx := C.1
  have hb := C.2.1
  have hl : lv_has ls 2 [(0, .ref (ad 25 r0)), (1, .int p1)] := hl
  have J15 : ∀ (S : fS), B_X5_outcomeAt_15 r0   S = some (v, S1) → Gw D K b0 sa ad P n L f0 p l e { frames := 0, cells := 0, slots := 0, locals := 0 } s m [.ref (ad 25 r0), .int p1].toArray below meth c 2 (MQ below (hQ D K b0 (fun v9 u9 => ∃ f2 : Nat → va_E, v9 = some (.int v) ∧ u9 = lU L f2 ∧ PW K ad P S1 L f2 ∧ S1.2.2.1 = n ∧ Kp ad P L f0 f2)) [.ref (ad 25 r0), .int p1].toArray s 0 0 (fun q => b0 ≤ q)) 0 0 15 [(0, .ref (ad 25 r0))] [] S := by
    intro S h
    dsimp only [B_X5_outcomeAt_15] at h
    intro f H locs w hw hn hk ls hl
    refine lv_aload_n hx hb dX5_outcomeAt_15 rfl (lv_at hl 0 rfl) ?_
    refine u_geti C w hw (hP _ _ (isn_t25 hr0)) rfl (N := 17) rfl rfl cin_5 1 (by decide) rfl gw_220 dX5_outcomeAt_16 ?_
    refine u_iv h (fun x1 h => ?_)
    exact t_iret C hr hlk w ⟨_, so_v h, rfl, so_w h hw, so_n h hn, hk⟩ (by decide) (by decide) dX5_outcomeAt_19
  dsimp only [F_X5_outcomeAt] at h
  obtain ⟨f, ef⟩ : ∃ z, z = f0 := ⟨_, rfl⟩
  rw [← ef] at w hw
  have hk : Kp ad P L f0 f := by rw [ef]; exact Kp.rf
  obtain ⟨H, eH⟩ : ∃ z, z = s.heap := ⟨_, rfl⟩
  obtain ⟨locs, el⟩ : ∃ z : List Loc, z = [] := ⟨_, rfl⟩
  rw [← eH, ← el] at w ⊢
  refine lv_aload_n hx hb dX5_outcomeAt_0 rfl (lv_at hl 0 rfl) ?_
  refine u_geti C w hw (hP _ _ (isn_t25 hr0)) rfl (N := 17) rfl rfl cin_5 1 (by decide) rfl gw_220 dX5_outcomeAt_1 ?_
  refine u_iv h (fun x2 h => ?_)
  refine lv_if_eq (tgt := 15) hx hb dX5_outcomeAt_4 (by decide) (fun c3 => ?_) (fun c3 => ?_)
  · have h := bb_t h c3
    exact J15   S0 h f H locs w hw hn hk ls (lv_sub hl [0] rfl)
  · have h := bb_f h c3
    refine lv_aload_n hx hb dX5_outcomeAt_7 rfl (lv_at hl 0 rfl) ?_
    refine u_geti C w hw (hP _ _ (isn_t25 hr0)) rfl (N := 17) rfl rfl cin_5 1 (by decide) rfl gw_220 dX5_outcomeAt_8 ?_
    refine u_iv h (fun x4 h => ?_)
    refine lv_iconst (v := 4) hx hb dX5_outcomeAt_11 (by decide) ?_
    refine lv_icmp_ne (tgt := 20) hx hb dX5_outcomeAt_12 (by decide) (fun c5 => ?_) (fun c5 => ?_)
    · have h := bb_f h c5
      refine lv_iload_n hx hb dX5_outcomeAt_20 rfl (lv_at hl 1 rfl) ?_
      refine lv_aload_n hx hb dX5_outcomeAt_21 rfl (lv_at hl 0 rfl) ?_
      refine u_geti C w hw (hP _ _ (isn_t25 hr0)) rfl (N := 17) rfl rfl cin_5 13 (by decide) rfl gw_246 dX5_outcomeAt_22 ?_
      refine u_iv h (fun x6 h => ?_)
      refine lv_icmp_lt (tgt := 30) hx hb dX5_outcomeAt_25 (by decide) (fun c7 => ?_) (fun c7 => ?_)
      · have h := bb_t h c7
        refine lv_iload_n hx hb dX5_outcomeAt_30 rfl (lv_at hl 1 rfl) ?_
        refine lv_if_ne (tgt := 36) hx hb dX5_outcomeAt_31 (by decide) (fun c8 => ?_) (fun c8 => ?_)
        · have h := bb_f h c8
          refine lv_iload_n hx hb dX5_outcomeAt_36 rfl (lv_at hl 1 rfl) ?_
          refine lv_aload_n hx hb dX5_outcomeAt_37 rfl (lv_at hl 0 rfl) ?_
          refine u_geti C w hw (hP _ _ (isn_t25 hr0)) rfl (N := 17) rfl rfl cin_5 11 (by decide) rfl gw_244 dX5_outcomeAt_38 ?_
          refine u_iv h (fun x9 h => ?_)
          refine lv_icmp_gt (tgt := 48) hx hb dX5_outcomeAt_41 (by decide) (fun c10 => ?_) (fun c10 => ?_)
          · have h := bb_t h c10
            refine lv_iconst (v := 3) hx hb dX5_outcomeAt_48 (by decide) ?_
            exact t_iret C hr hlk w ⟨_, so_v h, rfl, so_w h hw, so_n h hn, hk⟩ (by decide) (by decide) dX5_outcomeAt_49
          · have h := bb_f h c10
            refine lv_iconst (v := 2) hx hb dX5_outcomeAt_44 (by decide) ?_
            refine lv_goto (tgt := 49) hx hb dX5_outcomeAt_45 (by decide) ?_
            exact t_iret C hr hlk w ⟨_, so_v h, rfl, so_w h hw, so_n h hn, hk⟩ (by decide) (by decide) dX5_outcomeAt_49
        · have h := bb_t h c8
          refine lv_iconst (v := 1) hx hb dX5_outcomeAt_34 (by decide) ?_
          exact t_iret C hr hlk w ⟨_, so_v h, rfl, so_w h hw, so_n h hn, hk⟩ (by decide) (by decide) dX5_outcomeAt_35
      · have h := bb_f h c7
        refine lv_iconst (v := 5) hx hb dX5_outcomeAt_28 (by decide) ?_
        exact t_iret C hr hlk w ⟨_, so_v h, rfl, so_w h hw, so_n h hn, hk⟩ (by decide) (by decide) dX5_outcomeAt_29
    · have h := bb_t h c5
      exact J15   S0 h f H locs w hw hn hk ls (lv_sub hl [0] rfl)
theorem dX5_letGoAt_0 : decode cX5_letGoAt 0 = .ok (.aload_n 0, 1) := by decide +kernel
theorem dX5_letGoAt_1 : decode cX5_letGoAt 1 = .ok (.iload_n 1, 1) := by decide +kernel
theorem dX5_letGoAt_2 : decode cX5_letGoAt 2 = .ok (.invokevirtual 135, 3) := by decide +kernel
theorem dX5_letGoAt_5 : decode cX5_letGoAt 5 = .ok (.iconst 3, 1) := by decide +kernel
theorem dX5_letGoAt_6 : decode cX5_letGoAt 6 = .ok (.if_icmp .eq 5, 3) := by decide +kernel
theorem dX5_letGoAt_9 : decode cX5_letGoAt 9 = .ok (.iconst (-1), 1) := by decide +kernel
theorem dX5_letGoAt_10 : decode cX5_letGoAt 10 = .ok (.ireturn, 1) := by decide +kernel
theorem dX5_letGoAt_11 : decode cX5_letGoAt 11 = .ok (.iload_n 1, 1) := by decide +kernel
theorem dX5_letGoAt_12 : decode cX5_letGoAt 12 = .ok (.aload_n 0, 1) := by decide +kernel
theorem dX5_letGoAt_13 : decode cX5_letGoAt 13 = .ok (.getfield 45, 3) := by decide +kernel
theorem dX5_letGoAt_16 : decode cX5_letGoAt 16 = .ok (.isub, 1) := by decide +kernel
theorem dX5_letGoAt_17 : decode cX5_letGoAt 17 = .ok (.istore_n 2, 1) := by decide +kernel
theorem dX5_letGoAt_18 : decode cX5_letGoAt 18 = .ok (.iload_n 2, 1) := by decide +kernel
theorem dX5_letGoAt_19 : decode cX5_letGoAt 19 = .ok (.aload_n 0, 1) := by decide +kernel
theorem dX5_letGoAt_20 : decode cX5_letGoAt 20 = .ok (.getfield 48, 3) := by decide +kernel
theorem dX5_letGoAt_23 : decode cX5_letGoAt 23 = .ok (.invokestatic 146, 3) := by decide +kernel
theorem dX5_letGoAt_26 : decode cX5_letGoAt 26 = .ok (.istore_n 3, 1) := by decide +kernel
theorem dX5_letGoAt_27 : decode cX5_letGoAt 27 = .ok (.aload_n 0, 1) := by decide +kernel
theorem dX5_letGoAt_28 : decode cX5_letGoAt 28 = .ok (.getfield 9, 3) := by decide +kernel
theorem dX5_letGoAt_31 : decode cX5_letGoAt 31 = .ok (.bipush 8, 2) := by decide +kernel
theorem dX5_letGoAt_33 : decode cX5_letGoAt 33 = .ok (.irem, 1) := by decide +kernel
theorem dX5_letGoAt_34 : decode cX5_letGoAt 34 = .ok (.aload_n 0, 1) := by decide +kernel
theorem dX5_letGoAt_35 : decode cX5_letGoAt 35 = .ok (.getfield 42, 3) := by decide +kernel
theorem dX5_letGoAt_38 : decode cX5_letGoAt 38 = .ok (.bipush 8, 2) := by decide +kernel
theorem dX5_letGoAt_40 : decode cX5_letGoAt 40 = .ok (.irem, 1) := by decide +kernel
theorem dX5_letGoAt_41 : decode cX5_letGoAt 41 = .ok (.aload_n 0, 1) := by decide +kernel
theorem dX5_letGoAt_42 : decode cX5_letGoAt 42 = .ok (.getfield 9, 3) := by decide +kernel
theorem dX5_letGoAt_45 : decode cX5_letGoAt 45 = .ok (.bipush 8, 2) := by decide +kernel
theorem dX5_letGoAt_47 : decode cX5_letGoAt 47 = .ok (.irem, 1) := by decide +kernel
theorem dX5_letGoAt_48 : decode cX5_letGoAt 48 = .ok (.isub, 1) := by decide +kernel
theorem dX5_letGoAt_49 : decode cX5_letGoAt 49 = .ok (.invokestatic 149, 3) := by decide +kernel
theorem dX5_letGoAt_52 : decode cX5_letGoAt 52 = .ok (.iload_n 3, 1) := by decide +kernel
theorem dX5_letGoAt_53 : decode cX5_letGoAt 53 = .ok (.imul, 1) := by decide +kernel
theorem dX5_letGoAt_54 : decode cX5_letGoAt 54 = .ok (.iadd, 1) := by decide +kernel
theorem dX5_letGoAt_55 : decode cX5_letGoAt 55 = .ok (.istore 4, 2) := by decide +kernel
theorem dX5_letGoAt_57 : decode cX5_letGoAt 57 = .ok (.aload_n 0, 1) := by decide +kernel
theorem dX5_letGoAt_58 : decode cX5_letGoAt 58 = .ok (.getfield 9, 3) := by decide +kernel
theorem dX5_letGoAt_61 : decode cX5_letGoAt 61 = .ok (.bipush 8, 2) := by decide +kernel
theorem dX5_letGoAt_63 : decode cX5_letGoAt 63 = .ok (.idiv, 1) := by decide +kernel
theorem dX5_letGoAt_64 : decode cX5_letGoAt 64 = .ok (.aload_n 0, 1) := by decide +kernel
theorem dX5_letGoAt_65 : decode cX5_letGoAt 65 = .ok (.getfield 42, 3) := by decide +kernel
theorem dX5_letGoAt_68 : decode cX5_letGoAt 68 = .ok (.bipush 8, 2) := by decide +kernel
theorem dX5_letGoAt_70 : decode cX5_letGoAt 70 = .ok (.idiv, 1) := by decide +kernel
theorem dX5_letGoAt_71 : decode cX5_letGoAt 71 = .ok (.aload_n 0, 1) := by decide +kernel
theorem dX5_letGoAt_72 : decode cX5_letGoAt 72 = .ok (.getfield 9, 3) := by decide +kernel
theorem dX5_letGoAt_75 : decode cX5_letGoAt 75 = .ok (.bipush 8, 2) := by decide +kernel
theorem dX5_letGoAt_77 : decode cX5_letGoAt 77 = .ok (.idiv, 1) := by decide +kernel
theorem dX5_letGoAt_78 : decode cX5_letGoAt 78 = .ok (.isub, 1) := by decide +kernel
theorem dX5_letGoAt_79 : decode cX5_letGoAt 79 = .ok (.invokestatic 149, 3) := by decide +kernel
theorem dX5_letGoAt_82 : decode cX5_letGoAt 82 = .ok (.iload_n 2, 1) := by decide +kernel
theorem dX5_letGoAt_83 : decode cX5_letGoAt 83 = .ok (.iload_n 3, 1) := by decide +kernel
theorem dX5_letGoAt_84 : decode cX5_letGoAt 84 = .ok (.isub, 1) := by decide +kernel
theorem dX5_letGoAt_85 : decode cX5_letGoAt 85 = .ok (.imul, 1) := by decide +kernel
theorem dX5_letGoAt_86 : decode cX5_letGoAt 86 = .ok (.iadd, 1) := by decide +kernel
theorem dX5_letGoAt_87 : decode cX5_letGoAt 87 = .ok (.istore 5, 2) := by decide +kernel
theorem dX5_letGoAt_89 : decode cX5_letGoAt 89 = .ok (.bipush 8, 2) := by decide +kernel
theorem dX5_letGoAt_91 : decode cX5_letGoAt 91 = .ok (.iload 5, 2) := by decide +kernel
theorem dX5_letGoAt_93 : decode cX5_letGoAt 93 = .ok (.imul, 1) := by decide +kernel
theorem dX5_letGoAt_94 : decode cX5_letGoAt 94 = .ok (.iload 4, 2) := by decide +kernel
theorem dX5_letGoAt_96 : decode cX5_letGoAt 96 = .ok (.iadd, 1) := by decide +kernel
theorem dX5_letGoAt_97 : decode cX5_letGoAt 97 = .ok (.ireturn, 1) := by decide +kernel
noncomputable def F_X5_letGoAt (r0 : Nat) (p1 : Int32) (S0 : fS) : Option (Int32 × fS) := bd (F_X5_outcomeAt r0 p1 S0) (fun v1 S2 => bb (v1 = (3 : Int32)) (iv (ge S2 25 r0 11) (fun x5 => iv (p1 - x5) (fun x6 => iv (ge S2 25 r0 12) (fun x7 => iv ((if x7 < x6 then x7 else x6)) (fun x8 => iv (ge S2 25 r0 0) (fun x9 => iv (x9 - x9 / (8 : Int32) * (8 : Int32)) (fun x10 => iv (ge S2 25 r0 10) (fun x11 => iv (x11 - x11 / (8 : Int32) * (8 : Int32)) (fun x12 => iv (ge S2 25 r0 0) (fun x13 => iv (x13 - x13 / (8 : Int32) * (8 : Int32)) (fun x14 => iv (x12 - x14) (fun x15 => bd (F_J6_signum_0f7a4 x15 S2) (fun v16 S17 => iv (v16 * x8) (fun x19 => iv (x10 + x19) (fun x20 => iv (ge S17 25 r0 0) (fun x21 => iv (x21 / (8 : Int32)) (fun x22 => iv (ge S17 25 r0 10) (fun x23 => iv (x23 / (8 : Int32)) (fun x24 => iv (ge S17 25 r0 0) (fun x25 => iv (x25 / (8 : Int32)) (fun x26 => iv (x24 - x26) (fun x27 => bd (F_J6_signum_0f7a4 x27 S17) (fun v28 S29 => iv (x6 - x8) (fun x31 => iv (v28 * x31) (fun x32 => iv (x22 + x32) (fun x33 => iv ((8 : Int32) * x33) (fun x34 => iv (x34 + x20) (fun x35 => some (x35, S29))))))))))))))))))))))))))))) (some ((-1), S2)))
set_option maxHeartbeats 4000000 in
set_option maxRecDepth 100000 in
theorem c_X5_letGoAt (l : Launch) (D : va_G) (K : Nat → ClassId) (b0 : Nat) (sa : sT) (sz : Nat) (L : List Nat) (f0 : Nat → va_E) (ad : Nat → Nat → Nat) (P : Nat → Nat → Prop) {n : Nat × Nat} (hP : ∀ a i : Nat, isn n a i → P a i) (S0 : fS) (hw : PW K ad P S0 L f0) (hn : S0.2.2.1 = n) (r0 : Nat) (hr0 : r0 < n.1) (p1 : Int32) (v : Int32) (S1 : fS) (h : F_X5_letGoAt r0 p1 S0 = some (v, S1)) : Met l yX5_letGoAt (.code yX5_letGoAt cX5_letGoAt 6 (some .int) :: gt) { frames := 1, cells := 0, slots := 0, locals := 21 } (va_Pc [.ref (ad 25 r0), .int p1] (hPre D K b0 sa sz L f0)) (hQ D K b0 (fun v9 u9 => ∃ f2 : Nat → va_E, v9 = some (.int v) ∧ u9 = lU L f2 ∧ PW K ad P S1 L f2 ∧ S1.2.2.1 = n ∧ Kp ad P L f0 f2)) 0 0 (fun q => b0 ≤ q) := by
  refine t_of (own := RX5) (by decide) rfl ?_ (Nat.le_of_ble_eq_true rfl)
  intro p e s m below meth c ls C w hsz hr hlk hnm hl
  have hx := C.1
  have hb := C.2.1
  have hl : lv_has ls 6 [(0, .ref (ad 25 r0)), (1, .int p1)] := hl
  dsimp only [F_X5_letGoAt] at h
  obtain ⟨f, ef⟩ : ∃ z, z = f0 := ⟨_, rfl⟩
  rw [← ef] at w hw
  have hk : Kp ad P L f0 f := by rw [ef]; exact Kp.rf
  obtain ⟨H, eH⟩ : ∃ z, z = s.heap := ⟨_, rfl⟩
  obtain ⟨locs, el⟩ : ∃ z : List Loc, z = [] := ⟨_, rfl⟩
  rw [← eH, ← el] at w ⊢
  refine lv_aload_n hx hb dX5_letGoAt_0 rfl (lv_at hl 0 rfl) ?_
  refine lv_iload_n hx hb dX5_letGoAt_1 rfl (lv_at hl 1 rfl) ?_
  obtain ⟨v1, S2, h3, h⟩ := bd_some h
  refine u_callV (n := 1) C w hw (hP _ _ (isn_t25 hr0)) rfl rfl rfl (c_X5_outcomeAt l D K b0 sa _ L _ ad P hP S0 hw hn r0 hr0 p1 v1 S2 h3) gw_471 gw_494 gw_469 gw_470 gw_7 ⟨by decide, by decide, by decide +kernel⟩ rfl rfl ⟨by decide, by decide⟩ rfl hl.1 rfl (Nat.le_of_ble_eq_true rfl) dX5_letGoAt_2 ⟨Nat.le_of_ble_eq_true rfl, Nat.le_of_ble_eq_true rfl⟩ (fun v9 u H locs hp w => ?_)
  obtain ⟨f2, rfl, rfl, hw, hn, hk1⟩ := hp
  have hk := hk.tr hk1
  generalize f2 = f at w hw hk
  refine lv_iconst (v := 3) hx hb dX5_letGoAt_5 (by decide) ?_
  refine lv_icmp_eq (tgt := 11) hx hb dX5_letGoAt_6 (by decide) (fun c4 => ?_) (fun c4 => ?_)
  · have h := bb_t h c4
    refine lv_iload_n hx hb dX5_letGoAt_11 rfl (lv_at hl 1 rfl) ?_
    refine lv_aload_n hx hb dX5_letGoAt_12 rfl (lv_at hl 0 rfl) ?_
    refine u_geti C w hw (hP _ _ (isn_t25 hr0)) rfl (N := 17) rfl rfl cin_5 11 (by decide) rfl gw_244 dX5_letGoAt_13 ?_
    refine u_iv h (fun x5 h => ?_)
    refine lv_isub hx hb dX5_letGoAt_16 ?_
    refine u_iv h (fun x6 h => ?_)
    refine lv_istore_n (lv' := [(2, .int x6), (0, .ref (ad 25 r0)), (1, .int p1)]) hx hb dX5_letGoAt_17 rfl hl (by decide) rfl (fun ls hl => ?_)
    refine lv_iload_n hx hb dX5_letGoAt_18 rfl (lv_at hl 0 rfl) ?_
    refine lv_aload_n hx hb dX5_letGoAt_19 rfl (lv_at hl 1 rfl) ?_
    refine u_geti C w hw (hP _ _ (isn_t25 hr0)) rfl (N := 17) rfl rfl cin_5 12 (by decide) rfl gw_245 dX5_letGoAt_20 ?_
    refine u_iv h (fun x7 h => ?_)
    refine va_mmin hx hb (C.2.2.1.trans hl.1.symm) C.2.2.2.1 (C.2.2.2.2 _ gw_499) (C.2.2.2.2 _ gw_409) (C.2.2.2.2 _ gw_15) (C.2.2.2.2 _ gw_410) (by decide) (Nat.le_of_ble_eq_true rfl) (by decide) (by decide) dX5_letGoAt_23 ?_
    refine u_iv h (fun x8 h => ?_)
    refine lv_istore_n (lv' := [(3, .int x8), (2, .int x6), (0, .ref (ad 25 r0)), (1, .int p1)]) hx hb dX5_letGoAt_26 rfl hl (by decide) rfl (fun ls hl => ?_)
    refine lv_aload_n hx hb dX5_letGoAt_27 rfl (lv_at hl 2 rfl) ?_
    refine u_geti C w hw (hP _ _ (isn_t25 hr0)) rfl (N := 17) rfl rfl cin_5 0 (by decide) rfl gw_219 dX5_letGoAt_28 ?_
    refine u_iv h (fun x9 h => ?_)
    refine lv_bipush (v := 8) hx hb dX5_letGoAt_31 (by decide) ?_
    refine lv_irem hx hb dX5_letGoAt_33 (by decide) ?_
    refine u_iv h (fun x10 h => ?_)
    refine lv_aload_n hx hb dX5_letGoAt_34 rfl (lv_at hl 2 rfl) ?_
    refine u_geti C w hw (hP _ _ (isn_t25 hr0)) rfl (N := 17) rfl rfl cin_5 10 (by decide) rfl gw_243 dX5_letGoAt_35 ?_
    refine u_iv h (fun x11 h => ?_)
    refine lv_bipush (v := 8) hx hb dX5_letGoAt_38 (by decide) ?_
    refine lv_irem hx hb dX5_letGoAt_40 (by decide) ?_
    refine u_iv h (fun x12 h => ?_)
    refine lv_aload_n hx hb dX5_letGoAt_41 rfl (lv_at hl 2 rfl) ?_
    refine u_geti C w hw (hP _ _ (isn_t25 hr0)) rfl (N := 17) rfl rfl cin_5 0 (by decide) rfl gw_219 dX5_letGoAt_42 ?_
    refine u_iv h (fun x13 h => ?_)
    refine lv_bipush (v := 8) hx hb dX5_letGoAt_45 (by decide) ?_
    refine lv_irem hx hb dX5_letGoAt_47 (by decide) ?_
    refine u_iv h (fun x14 h => ?_)
    refine lv_isub hx hb dX5_letGoAt_48 ?_
    refine u_iv h (fun x15 h => ?_)
    obtain ⟨v16, S17, h18, h⟩ := bd_some h
    refine t_callS (n := 1) C w (c_J6_signum_0f7a4 l D K b0 sa _ L _ ad P hP S2 hw hn x15 v16 S17 h18) gw_502 gw_500 gw_501 gw_22 ⟨by decide, by decide, by decide +kernel⟩ rfl rfl ⟨by decide, by decide⟩ rfl hl.1 rfl (Nat.le_of_ble_eq_true rfl) dX5_letGoAt_49 ⟨Nat.le_of_ble_eq_true rfl, Nat.le_of_ble_eq_true rfl⟩ (fun v9 u H locs hp w => ?_)
    obtain ⟨f2, rfl, rfl, hw, hn, hk1⟩ := hp
    have hk := hk.tr hk1
    generalize f2 = f at w hw hk
    refine lv_iload_n hx hb dX5_letGoAt_52 rfl (lv_at hl 0 rfl) ?_
    refine lv_imul hx hb dX5_letGoAt_53 ?_
    refine u_iv h (fun x19 h => ?_)
    refine lv_iadd hx hb dX5_letGoAt_54 ?_
    refine u_iv h (fun x20 h => ?_)
    refine lv_istore (lv' := [(4, .int x20), (3, .int x8), (2, .int x6), (0, .ref (ad 25 r0)), (1, .int p1)]) hx hb dX5_letGoAt_55 hl (by decide) rfl (fun ls hl => ?_)
    refine lv_aload_n hx hb dX5_letGoAt_57 rfl (lv_at hl 3 rfl) ?_
    refine u_geti C w hw (hP _ _ (isn_t25 hr0)) rfl (N := 17) rfl rfl cin_5 0 (by decide) rfl gw_219 dX5_letGoAt_58 ?_
    refine u_iv h (fun x21 h => ?_)
    refine lv_bipush (v := 8) hx hb dX5_letGoAt_61 (by decide) ?_
    refine lv_idiv hx hb dX5_letGoAt_63 (by decide) ?_
    refine u_iv h (fun x22 h => ?_)
    refine lv_aload_n hx hb dX5_letGoAt_64 rfl (lv_at hl 3 rfl) ?_
    refine u_geti C w hw (hP _ _ (isn_t25 hr0)) rfl (N := 17) rfl rfl cin_5 10 (by decide) rfl gw_243 dX5_letGoAt_65 ?_
    refine u_iv h (fun x23 h => ?_)
    refine lv_bipush (v := 8) hx hb dX5_letGoAt_68 (by decide) ?_
    refine lv_idiv hx hb dX5_letGoAt_70 (by decide) ?_
    refine u_iv h (fun x24 h => ?_)
    refine lv_aload_n hx hb dX5_letGoAt_71 rfl (lv_at hl 3 rfl) ?_
    refine u_geti C w hw (hP _ _ (isn_t25 hr0)) rfl (N := 17) rfl rfl cin_5 0 (by decide) rfl gw_219 dX5_letGoAt_72 ?_
    refine u_iv h (fun x25 h => ?_)
    refine lv_bipush (v := 8) hx hb dX5_letGoAt_75 (by decide) ?_
    refine lv_idiv hx hb dX5_letGoAt_77 (by decide) ?_
    refine u_iv h (fun x26 h => ?_)
    refine lv_isub hx hb dX5_letGoAt_78 ?_
    refine u_iv h (fun x27 h => ?_)
    obtain ⟨v28, S29, h30, h⟩ := bd_some h
    refine t_callS (n := 1) C w (c_J6_signum_0f7a4 l D K b0 sa _ L _ ad P hP S17 hw hn x27 v28 S29 h30) gw_502 gw_500 gw_501 gw_22 ⟨by decide, by decide, by decide +kernel⟩ rfl rfl ⟨by decide, by decide⟩ rfl hl.1 rfl (Nat.le_of_ble_eq_true rfl) dX5_letGoAt_79 ⟨Nat.le_of_ble_eq_true rfl, Nat.le_of_ble_eq_true rfl⟩ (fun v9 u H locs hp w => ?_)
    obtain ⟨f2, rfl, rfl, hw, hn, hk1⟩ := hp
    have hk := hk.tr hk1
    generalize f2 = f at w hw hk
    refine lv_iload_n hx hb dX5_letGoAt_82 rfl (lv_at hl 2 rfl) ?_
    refine lv_iload_n hx hb dX5_letGoAt_83 rfl (lv_at hl 1 rfl) ?_
    refine lv_isub hx hb dX5_letGoAt_84 ?_
    refine u_iv h (fun x31 h => ?_)
    refine lv_imul hx hb dX5_letGoAt_85 ?_
    refine u_iv h (fun x32 h => ?_)
    refine lv_iadd hx hb dX5_letGoAt_86 ?_
    refine u_iv h (fun x33 h => ?_)
    refine lv_istore (lv' := [(5, .int x33), (4, .int x20), (3, .int x8), (2, .int x6), (0, .ref (ad 25 r0)), (1, .int p1)]) hx hb dX5_letGoAt_87 hl (by decide) rfl (fun ls hl => ?_)
    refine lv_bipush (v := 8) hx hb dX5_letGoAt_89 (by decide) ?_
    refine lv_iload hx hb dX5_letGoAt_91 (lv_at hl 0 rfl) ?_
    refine lv_imul hx hb dX5_letGoAt_93 ?_
    refine u_iv h (fun x34 h => ?_)
    refine lv_iload hx hb dX5_letGoAt_94 (lv_at hl 1 rfl) ?_
    refine lv_iadd hx hb dX5_letGoAt_96 ?_
    refine u_iv h (fun x35 h => ?_)
    exact t_iret C hr hlk w ⟨_, so_v h, rfl, so_w h hw, so_n h hn, hk⟩ (by decide) (by decide) dX5_letGoAt_97
  · have h := bb_f h c4
    refine lv_iconst (v := (-1)) hx hb dX5_letGoAt_9 (by decide) ?_
    exact t_iret C hr hlk w ⟨_, so_v h, rfl, so_w h hw, so_n h hn, hk⟩ (by decide) (by decide) dX5_letGoAt_10
theorem dX5_carry_0 : decode cX5_carry 0 = .ok (.aload_n 0, 1) := by decide +kernel
theorem dX5_carry_1 : decode cX5_carry 1 = .ok (.iload_n 1, 1) := by decide +kernel
theorem dX5_carry_2 : decode cX5_carry 2 = .ok (.iload_n 2, 1) := by decide +kernel
theorem dX5_carry_3 : decode cX5_carry 3 = .ok (.invokevirtual 128, 3) := by decide +kernel
theorem dX5_carry_6 : decode cX5_carry 6 = .ok (.istore_n 3, 1) := by decide +kernel
theorem dX5_carry_7 : decode cX5_carry 7 = .ok (.aload_n 0, 1) := by decide +kernel
theorem dX5_carry_8 : decode cX5_carry 8 = .ok (.aload_n 0, 1) := by decide +kernel
theorem dX5_carry_9 : decode cX5_carry 9 = .ok (.iload_n 3, 1) := by decide +kernel
theorem dX5_carry_10 : decode cX5_carry 10 = .ok (.invokevirtual 132, 3) := by decide +kernel
theorem dX5_carry_13 : decode cX5_carry 13 = .ok (.putfield 18, 3) := by decide +kernel
theorem dX5_carry_16 : decode cX5_carry 16 = .ok (.aload_n 0, 1) := by decide +kernel
theorem dX5_carry_17 : decode cX5_carry 17 = .ok (.aload_n 0, 1) := by decide +kernel
theorem dX5_carry_18 : decode cX5_carry 18 = .ok (.iload_n 3, 1) := by decide +kernel
theorem dX5_carry_19 : decode cX5_carry 19 = .ok (.invokevirtual 135, 3) := by decide +kernel
theorem dX5_carry_22 : decode cX5_carry 22 = .ok (.putfield 15, 3) := by decide +kernel
theorem dX5_carry_25 : decode cX5_carry 25 = .ok (.return_, 1) := by decide +kernel
noncomputable def F_X5_carry (r0 : Nat) (p1 : Int32) (p2 : Int32) (S0 : fS) : Option (Int32 × fS) := bd (F_X5_failingStep r0 p1 p2 S0) (fun v1 S2 => bd (F_X5_letGoAt r0 v1 S2) (fun v4 S5 => sv (pu S5 25 r0 2 v4) (fun S7 => bd (F_X5_outcomeAt r0 v1 S7) (fun v8 S9 => sv (pu S9 25 r0 1 v8) (fun S11 => some (0, S11))))))
set_option maxHeartbeats 4000000 in
set_option maxRecDepth 100000 in
theorem c_X5_carry (l : Launch) (D : va_G) (K : Nat → ClassId) (b0 : Nat) (sa : sT) (sz : Nat) (L : List Nat) (f0 : Nat → va_E) (ad : Nat → Nat → Nat) (P : Nat → Nat → Prop) {n : Nat × Nat} (hP : ∀ a i : Nat, isn n a i → P a i) (S0 : fS) (hw : PW K ad P S0 L f0) (hn : S0.2.2.1 = n) (r0 : Nat) (hr0 : r0 < n.1) (p1 : Int32) (p2 : Int32) (v : Int32) (S1 : fS) (h : F_X5_carry r0 p1 p2 S0 = some (v, S1)) : Met l yX5_carry (.code yX5_carry cX5_carry 4 none :: gt) { frames := 2, cells := 0, slots := 0, locals := 46 } (va_Pc [.ref (ad 25 r0), .int p1, .int p2] (hPre D K b0 sa sz L f0)) (hQ D K b0 (fun v9 u9 => ∃ f2 : Nat → va_E, v9 = none ∧ u9 = lU L f2 ∧ PW K ad P S1 L f2 ∧ S1.2.2.1 = n ∧ Kp ad P L f0 f2)) 0 0 (fun q => b0 ≤ q) := by
  refine t_of (own := RX5) (by decide) rfl ?_ (Nat.le_of_ble_eq_true rfl)
  intro p e s m below meth c ls C w hsz hr hlk hnm hl
  have hx := C.1
  have hb := C.2.1
  have hl : lv_has ls 4 [(0, .ref (ad 25 r0)), (1, .int p1), (2, .int p2)] := hl
  dsimp only [F_X5_carry] at h
  obtain ⟨f, ef⟩ : ∃ z, z = f0 := ⟨_, rfl⟩
  rw [← ef] at w hw
  have hk : Kp ad P L f0 f := by rw [ef]; exact Kp.rf
  obtain ⟨H, eH⟩ : ∃ z, z = s.heap := ⟨_, rfl⟩
  obtain ⟨locs, el⟩ : ∃ z : List Loc, z = [] := ⟨_, rfl⟩
  rw [← eH, ← el] at w ⊢
  refine lv_aload_n hx hb dX5_carry_0 rfl (lv_at hl 0 rfl) ?_
  refine lv_iload_n hx hb dX5_carry_1 rfl (lv_at hl 1 rfl) ?_
  refine lv_iload_n hx hb dX5_carry_2 rfl (lv_at hl 2 rfl) ?_
  obtain ⟨v1, S2, h3, h⟩ := bd_some h
  refine u_callV (n := 2) C w hw (hP _ _ (isn_t25 hr0)) rfl rfl rfl (c_X5_failingStep l D K b0 sa _ L _ ad P hP S0 hw hn r0 hr0 p1 p2 v1 S2 h3) gw_467 gw_493 gw_465 gw_466 gw_7 ⟨by decide, by decide, by decide +kernel⟩ rfl rfl ⟨by decide, by decide⟩ rfl hl.1 rfl (Nat.le_of_ble_eq_true rfl) dX5_carry_3 ⟨Nat.le_of_ble_eq_true rfl, Nat.le_of_ble_eq_true rfl⟩ (fun v9 u H locs hp w => ?_)
  obtain ⟨f2, rfl, rfl, hw, hn, hk1⟩ := hp
  have hk := hk.tr hk1
  generalize f2 = f at w hw hk
  refine lv_istore_n (lv' := [(3, .int v1), (0, .ref (ad 25 r0)), (1, .int p1), (2, .int p2)]) hx hb dX5_carry_6 rfl hl (by decide) rfl (fun ls hl => ?_)
  refine lv_aload_n hx hb dX5_carry_7 rfl (lv_at hl 1 rfl) ?_
  refine lv_aload_n hx hb dX5_carry_8 rfl (lv_at hl 1 rfl) ?_
  refine lv_iload_n hx hb dX5_carry_9 rfl (lv_at hl 0 rfl) ?_
  obtain ⟨v4, S5, h6, h⟩ := bd_some h
  refine u_callV (n := 1) C w hw (hP _ _ (isn_t25 hr0)) rfl rfl rfl (c_X5_letGoAt l D K b0 sa _ L _ ad P hP S2 hw hn r0 hr0 v1 v4 S5 h6) gw_498 gw_495 gw_496 gw_497 gw_7 ⟨by decide, by decide, by decide +kernel⟩ rfl rfl ⟨by decide, by decide⟩ rfl hl.1 rfl (Nat.le_of_ble_eq_true rfl) dX5_carry_10 ⟨Nat.le_of_ble_eq_true rfl, Nat.le_of_ble_eq_true rfl⟩ (fun v9 u H locs hp w => ?_)
  obtain ⟨f2, rfl, rfl, hw, hn, hk1⟩ := hp
  have hk := hk.tr hk1
  generalize f2 = f at w hw hk
  refine u_puti C w hw (hP _ _ (isn_t25 hr0)) rfl (N := 17) rfl rfl cin_5 tyX5 tyX5_ok nmX5 2 (by decide) rfl rfl rfl rfl gw_223 dX5_carry_13 (fun f H locs w hw hk1 => ?_)
  have hk := hk.tr hk1
  refine u_sv h hw hn (fun S7 h hw hn => ?_)
  refine lv_aload_n hx hb dX5_carry_16 rfl (lv_at hl 1 rfl) ?_
  refine lv_aload_n hx hb dX5_carry_17 rfl (lv_at hl 1 rfl) ?_
  refine lv_iload_n hx hb dX5_carry_18 rfl (lv_at hl 0 rfl) ?_
  obtain ⟨v8, S9, h10, h⟩ := bd_some h
  refine u_callV (n := 1) C w hw (hP _ _ (isn_t25 hr0)) rfl rfl rfl (c_X5_outcomeAt l D K b0 sa _ L _ ad P hP S7 hw hn r0 hr0 v1 v8 S9 h10) gw_471 gw_494 gw_469 gw_470 gw_7 ⟨by decide, by decide, by decide +kernel⟩ rfl rfl ⟨by decide, by decide⟩ rfl hl.1 rfl (Nat.le_of_ble_eq_true rfl) dX5_carry_19 ⟨Nat.le_of_ble_eq_true rfl, Nat.le_of_ble_eq_true rfl⟩ (fun v9 u H locs hp w => ?_)
  obtain ⟨f2, rfl, rfl, hw, hn, hk1⟩ := hp
  have hk := hk.tr hk1
  generalize f2 = f at w hw hk
  refine u_puti C w hw (hP _ _ (isn_t25 hr0)) rfl (N := 17) rfl rfl cin_5 tyX5 tyX5_ok nmX5 1 (by decide) rfl rfl rfl rfl gw_220 dX5_carry_22 (fun f H locs w hw hk1 => ?_)
  have hk := hk.tr hk1
  refine u_sv h hw hn (fun S11 h hw hn => ?_)
  exact t_vret C hr hlk w ⟨_, rfl, rfl, so_w h hw, so_n h hn, hk⟩ (by decide) (by decide) dX5_carry_25
theorem dX5_cameBy_0 : decode cX5_cameBy 0 = .ok (.aload_n 0, 1) := by decide +kernel
theorem dX5_cameBy_1 : decode cX5_cameBy 1 = .ok (.iload_n 1, 1) := by decide +kernel
theorem dX5_cameBy_2 : decode cX5_cameBy 2 = .ok (.iload_n 2, 1) := by decide +kernel
theorem dX5_cameBy_3 : decode cX5_cameBy 3 = .ok (.invokevirtual 128, 3) := by decide +kernel
theorem dX5_cameBy_6 : decode cX5_cameBy 6 = .ok (.istore_n 3, 1) := by decide +kernel
theorem dX5_cameBy_7 : decode cX5_cameBy 7 = .ok (.aload_n 0, 1) := by decide +kernel
theorem dX5_cameBy_8 : decode cX5_cameBy 8 = .ok (.iload_n 3, 1) := by decide +kernel
theorem dX5_cameBy_9 : decode cX5_cameBy 9 = .ok (.invokevirtual 135, 3) := by decide +kernel
theorem dX5_cameBy_12 : decode cX5_cameBy 12 = .ok (.aload_n 0, 1) := by decide +kernel
theorem dX5_cameBy_13 : decode cX5_cameBy 13 = .ok (.getfield 15, 3) := by decide +kernel
theorem dX5_cameBy_16 : decode cX5_cameBy 16 = .ok (.if_icmp .ne 19, 3) := by decide +kernel
theorem dX5_cameBy_19 : decode cX5_cameBy 19 = .ok (.aload_n 0, 1) := by decide +kernel
theorem dX5_cameBy_20 : decode cX5_cameBy 20 = .ok (.iload_n 3, 1) := by decide +kernel
theorem dX5_cameBy_21 : decode cX5_cameBy 21 = .ok (.invokevirtual 132, 3) := by decide +kernel
theorem dX5_cameBy_24 : decode cX5_cameBy 24 = .ok (.aload_n 0, 1) := by decide +kernel
theorem dX5_cameBy_25 : decode cX5_cameBy 25 = .ok (.getfield 18, 3) := by decide +kernel
theorem dX5_cameBy_28 : decode cX5_cameBy 28 = .ok (.if_icmp .ne 7, 3) := by decide +kernel
theorem dX5_cameBy_31 : decode cX5_cameBy 31 = .ok (.iconst 1, 1) := by decide +kernel
theorem dX5_cameBy_32 : decode cX5_cameBy 32 = .ok (.goto 4, 3) := by decide +kernel
theorem dX5_cameBy_35 : decode cX5_cameBy 35 = .ok (.iconst 0, 1) := by decide +kernel
theorem dX5_cameBy_36 : decode cX5_cameBy 36 = .ok (.ireturn, 1) := by decide +kernel
noncomputable def F_X5_cameBy (r0 : Nat) (p1 : Int32) (p2 : Int32) (S0 : fS) : Option (Int32 × fS) := bd (F_X5_failingStep r0 p1 p2 S0) (fun v1 S2 => bd (F_X5_outcomeAt r0 v1 S2) (fun v4 S5 => iv (ge S5 25 r0 1) (fun x7 => bb (v4 = x7) (bd (F_X5_letGoAt r0 v1 S5) (fun v9 S10 => iv (ge S10 25 r0 2) (fun x12 => bb (v9 = x12) (some (1, S10)) (some (0, S10))))) (some (0, S5)))))
set_option maxHeartbeats 4000000 in
set_option maxRecDepth 100000 in
theorem c_X5_cameBy (l : Launch) (D : va_G) (K : Nat → ClassId) (b0 : Nat) (sa : sT) (sz : Nat) (L : List Nat) (f0 : Nat → va_E) (ad : Nat → Nat → Nat) (P : Nat → Nat → Prop) {n : Nat × Nat} (hP : ∀ a i : Nat, isn n a i → P a i) (S0 : fS) (hw : PW K ad P S0 L f0) (hn : S0.2.2.1 = n) (r0 : Nat) (hr0 : r0 < n.1) (p1 : Int32) (p2 : Int32) (v : Int32) (S1 : fS) (h : F_X5_cameBy r0 p1 p2 S0 = some (v, S1)) : Met l yX5_cameBy (.code yX5_cameBy cX5_cameBy 4 (some .boolean) :: gt) { frames := 2, cells := 0, slots := 0, locals := 46 } (va_Pc [.ref (ad 25 r0), .int p1, .int p2] (hPre D K b0 sa sz L f0)) (hQ D K b0 (fun v9 u9 => ∃ f2 : Nat → va_E, v9 = some (.int v) ∧ u9 = lU L f2 ∧ PW K ad P S1 L f2 ∧ S1.2.2.1 = n ∧ Kp ad P L f0 f2)) 0 0 (fun q => b0 ≤ q) := by
  refine t_of (own := RX5) (by decide) rfl ?_ (Nat.le_of_ble_eq_true rfl)
  intro p e s m below meth c ls C w hsz hr hlk hnm hl
  have hx := C.1
  have hb := C.2.1
  have hl : lv_has ls 4 [(0, .ref (ad 25 r0)), (1, .int p1), (2, .int p2)] := hl
  dsimp only [F_X5_cameBy] at h
  obtain ⟨f, ef⟩ : ∃ z, z = f0 := ⟨_, rfl⟩
  rw [← ef] at w hw
  have hk : Kp ad P L f0 f := by rw [ef]; exact Kp.rf
  obtain ⟨H, eH⟩ : ∃ z, z = s.heap := ⟨_, rfl⟩
  obtain ⟨locs, el⟩ : ∃ z : List Loc, z = [] := ⟨_, rfl⟩
  rw [← eH, ← el] at w ⊢
  refine lv_aload_n hx hb dX5_cameBy_0 rfl (lv_at hl 0 rfl) ?_
  refine lv_iload_n hx hb dX5_cameBy_1 rfl (lv_at hl 1 rfl) ?_
  refine lv_iload_n hx hb dX5_cameBy_2 rfl (lv_at hl 2 rfl) ?_
  obtain ⟨v1, S2, h3, h⟩ := bd_some h
  refine u_callV (n := 2) C w hw (hP _ _ (isn_t25 hr0)) rfl rfl rfl (c_X5_failingStep l D K b0 sa _ L _ ad P hP S0 hw hn r0 hr0 p1 p2 v1 S2 h3) gw_467 gw_493 gw_465 gw_466 gw_7 ⟨by decide, by decide, by decide +kernel⟩ rfl rfl ⟨by decide, by decide⟩ rfl hl.1 rfl (Nat.le_of_ble_eq_true rfl) dX5_cameBy_3 ⟨Nat.le_of_ble_eq_true rfl, Nat.le_of_ble_eq_true rfl⟩ (fun v9 u H locs hp w => ?_)
  obtain ⟨f2, rfl, rfl, hw, hn, hk1⟩ := hp
  have hk := hk.tr hk1
  generalize f2 = f at w hw hk
  refine lv_istore_n (lv' := [(3, .int v1), (0, .ref (ad 25 r0)), (1, .int p1), (2, .int p2)]) hx hb dX5_cameBy_6 rfl hl (by decide) rfl (fun ls hl => ?_)
  refine lv_aload_n hx hb dX5_cameBy_7 rfl (lv_at hl 1 rfl) ?_
  refine lv_iload_n hx hb dX5_cameBy_8 rfl (lv_at hl 0 rfl) ?_
  obtain ⟨v4, S5, h6, h⟩ := bd_some h
  refine u_callV (n := 1) C w hw (hP _ _ (isn_t25 hr0)) rfl rfl rfl (c_X5_outcomeAt l D K b0 sa _ L _ ad P hP S2 hw hn r0 hr0 v1 v4 S5 h6) gw_471 gw_494 gw_469 gw_470 gw_7 ⟨by decide, by decide, by decide +kernel⟩ rfl rfl ⟨by decide, by decide⟩ rfl hl.1 rfl (Nat.le_of_ble_eq_true rfl) dX5_cameBy_9 ⟨Nat.le_of_ble_eq_true rfl, Nat.le_of_ble_eq_true rfl⟩ (fun v9 u H locs hp w => ?_)
  obtain ⟨f2, rfl, rfl, hw, hn, hk1⟩ := hp
  have hk := hk.tr hk1
  generalize f2 = f at w hw hk
  refine lv_aload_n hx hb dX5_cameBy_12 rfl (lv_at hl 1 rfl) ?_
  refine u_geti C w hw (hP _ _ (isn_t25 hr0)) rfl (N := 17) rfl rfl cin_5 1 (by decide) rfl gw_220 dX5_cameBy_13 ?_
  refine u_iv h (fun x7 h => ?_)
  refine lv_icmp_ne (tgt := 35) hx hb dX5_cameBy_16 (by decide) (fun c8 => ?_) (fun c8 => ?_)
  · have h := bb_f h c8
    refine lv_iconst (v := 0) hx hb dX5_cameBy_35 (by decide) ?_
    exact t_zret C hr hlk w (by decide) ⟨_, so_v h, rfl, so_w h hw, so_n h hn, hk⟩ (by decide) (by decide) dX5_cameBy_36
  · have h := bb_t h c8
    refine lv_aload_n hx hb dX5_cameBy_19 rfl (lv_at hl 1 rfl) ?_
    refine lv_iload_n hx hb dX5_cameBy_20 rfl (lv_at hl 0 rfl) ?_
    obtain ⟨v9, S10, h11, h⟩ := bd_some h
    refine u_callV (n := 1) C w hw (hP _ _ (isn_t25 hr0)) rfl rfl rfl (c_X5_letGoAt l D K b0 sa _ L _ ad P hP S5 hw hn r0 hr0 v1 v9 S10 h11) gw_498 gw_495 gw_496 gw_497 gw_7 ⟨by decide, by decide, by decide +kernel⟩ rfl rfl ⟨by decide, by decide⟩ rfl hl.1 rfl (Nat.le_of_ble_eq_true rfl) dX5_cameBy_21 ⟨Nat.le_of_ble_eq_true rfl, Nat.le_of_ble_eq_true rfl⟩ (fun v9 u H locs hp w => ?_)
    obtain ⟨f2, rfl, rfl, hw, hn, hk1⟩ := hp
    have hk := hk.tr hk1
    generalize f2 = f at w hw hk
    refine lv_aload_n hx hb dX5_cameBy_24 rfl (lv_at hl 1 rfl) ?_
    refine u_geti C w hw (hP _ _ (isn_t25 hr0)) rfl (N := 17) rfl rfl cin_5 2 (by decide) rfl gw_223 dX5_cameBy_25 ?_
    refine u_iv h (fun x12 h => ?_)
    refine lv_icmp_ne (tgt := 35) hx hb dX5_cameBy_28 (by decide) (fun c13 => ?_) (fun c13 => ?_)
    · have h := bb_f h c13
      refine lv_iconst (v := 0) hx hb dX5_cameBy_35 (by decide) ?_
      exact t_zret C hr hlk w (by decide) ⟨_, so_v h, rfl, so_w h hw, so_n h hn, hk⟩ (by decide) (by decide) dX5_cameBy_36
    · have h := bb_t h c13
      refine lv_iconst (v := 1) hx hb dX5_cameBy_31 (by decide) ?_
      refine lv_goto (tgt := 36) hx hb dX5_cameBy_32 (by decide) ?_
      exact t_zret C hr hlk w (by decide) ⟨_, so_v h, rfl, so_w h hw, so_n h hn, hk⟩ (by decide) (by decide) dX5_cameBy_36
theorem dX5_told_0 : decode cX5_told 0 = .ok (.iload_n 1, 1) := by decide +kernel
theorem dX5_told_1 : decode cX5_told 1 = .ok (.tableswitch 96 0 8 #[51, 56, 61, 66, 71, 76, 81, 86, 91], 51) := by decide +kernel
theorem dX5_told_52 : decode cX5_told 52 = .ok (.aload_n 0, 1) := by decide +kernel
theorem dX5_told_53 : decode cX5_told 53 = .ok (.getfield 9, 3) := by decide +kernel
theorem dX5_told_56 : decode cX5_told 56 = .ok (.ireturn, 1) := by decide +kernel
theorem dX5_told_57 : decode cX5_told 57 = .ok (.aload_n 0, 1) := by decide +kernel
theorem dX5_told_58 : decode cX5_told 58 = .ok (.getfield 15, 3) := by decide +kernel
theorem dX5_told_61 : decode cX5_told 61 = .ok (.ireturn, 1) := by decide +kernel
theorem dX5_told_62 : decode cX5_told 62 = .ok (.aload_n 0, 1) := by decide +kernel
theorem dX5_told_63 : decode cX5_told 63 = .ok (.getfield 18, 3) := by decide +kernel
theorem dX5_told_66 : decode cX5_told 66 = .ok (.ireturn, 1) := by decide +kernel
theorem dX5_told_67 : decode cX5_told 67 = .ok (.aload_n 0, 1) := by decide +kernel
theorem dX5_told_68 : decode cX5_told 68 = .ok (.getfield 21, 3) := by decide +kernel
theorem dX5_told_71 : decode cX5_told 71 = .ok (.ireturn, 1) := by decide +kernel
theorem dX5_told_72 : decode cX5_told 72 = .ok (.aload_n 0, 1) := by decide +kernel
theorem dX5_told_73 : decode cX5_told 73 = .ok (.getfield 24, 3) := by decide +kernel
theorem dX5_told_76 : decode cX5_told 76 = .ok (.ireturn, 1) := by decide +kernel
theorem dX5_told_77 : decode cX5_told 77 = .ok (.aload_n 0, 1) := by decide +kernel
theorem dX5_told_78 : decode cX5_told 78 = .ok (.getfield 27, 3) := by decide +kernel
theorem dX5_told_81 : decode cX5_told 81 = .ok (.ireturn, 1) := by decide +kernel
theorem dX5_told_82 : decode cX5_told 82 = .ok (.aload_n 0, 1) := by decide +kernel
theorem dX5_told_83 : decode cX5_told 83 = .ok (.getfield 30, 3) := by decide +kernel
theorem dX5_told_86 : decode cX5_told 86 = .ok (.ireturn, 1) := by decide +kernel
theorem dX5_told_87 : decode cX5_told 87 = .ok (.aload_n 0, 1) := by decide +kernel
theorem dX5_told_88 : decode cX5_told 88 = .ok (.getfield 33, 3) := by decide +kernel
theorem dX5_told_91 : decode cX5_told 91 = .ok (.ireturn, 1) := by decide +kernel
theorem dX5_told_92 : decode cX5_told 92 = .ok (.aload_n 0, 1) := by decide +kernel
theorem dX5_told_93 : decode cX5_told 93 = .ok (.getfield 36, 3) := by decide +kernel
theorem dX5_told_96 : decode cX5_told 96 = .ok (.ireturn, 1) := by decide +kernel
theorem dX5_told_97 : decode cX5_told 97 = .ok (.aload_n 0, 1) := by decide +kernel
theorem dX5_told_98 : decode cX5_told 98 = .ok (.getfield 39, 3) := by decide +kernel
theorem dX5_told_101 : decode cX5_told 101 = .ok (.ireturn, 1) := by decide +kernel
noncomputable def F_X5_told (r0 : Nat) (p1 : Int32) (S0 : fS) : Option (Int32 × fS) := bb (p1.toInt = 0) (iv (ge S0 25 r0 0) (fun x2 => some (x2, S0))) (bb (p1.toInt = 1) (iv (ge S0 25 r0 1) (fun x4 => some (x4, S0))) (bb (p1.toInt = 2) (iv (ge S0 25 r0 2) (fun x6 => some (x6, S0))) (bb (p1.toInt = 3) (iv (ge S0 25 r0 3) (fun x8 => some (x8, S0))) (bb (p1.toInt = 4) (iv (ge S0 25 r0 4) (fun x10 => some (x10, S0))) (bb (p1.toInt = 5) (iv (ge S0 25 r0 5) (fun x12 => some (x12, S0))) (bb (p1.toInt = 6) (iv (ge S0 25 r0 6) (fun x14 => some (x14, S0))) (bb (p1.toInt = 7) (iv (ge S0 25 r0 7) (fun x16 => some (x16, S0))) (bb (p1.toInt = 8) (iv (ge S0 25 r0 8) (fun x18 => some (x18, S0))) (iv (ge S0 25 r0 9) (fun x19 => some (x19, S0)))))))))))
set_option maxHeartbeats 4000000 in
set_option maxRecDepth 100000 in
theorem c_X5_told (l : Launch) (D : va_G) (K : Nat → ClassId) (b0 : Nat) (sa : sT) (sz : Nat) (L : List Nat) (f0 : Nat → va_E) (ad : Nat → Nat → Nat) (P : Nat → Nat → Prop) {n : Nat × Nat} (hP : ∀ a i : Nat, isn n a i → P a i) (S0 : fS) (hw : PW K ad P S0 L f0) (hn : S0.2.2.1 = n) (r0 : Nat) (hr0 : r0 < n.1) (p1 : Int32) (v : Int32) (S1 : fS) (h : F_X5_told r0 p1 S0 = some (v, S1)) : Met l yX5_told (.code yX5_told cX5_told 2 (some .int) :: gt) { frames := 0, cells := 0, slots := 0, locals := 0 } (va_Pc [.ref (ad 25 r0), .int p1] (hPre D K b0 sa sz L f0)) (hQ D K b0 (fun v9 u9 => ∃ f2 : Nat → va_E, v9 = some (.int v) ∧ u9 = lU L f2 ∧ PW K ad P S1 L f2 ∧ S1.2.2.1 = n ∧ Kp ad P L f0 f2)) 0 0 (fun q => b0 ≤ q) := by
  refine t_of (own := RX5) (by decide) rfl ?_ (Nat.le_of_ble_eq_true rfl)
  intro p e s m below meth c ls C w hsz hr hlk hnm hl
  have hx := C.1
  have hb := C.2.1
  have hl : lv_has ls 2 [(0, .ref (ad 25 r0)), (1, .int p1)] := hl
  dsimp only [F_X5_told] at h
  obtain ⟨f, ef⟩ : ∃ z, z = f0 := ⟨_, rfl⟩
  rw [← ef] at w hw
  have hk : Kp ad P L f0 f := by rw [ef]; exact Kp.rf
  obtain ⟨H, eH⟩ : ∃ z, z = s.heap := ⟨_, rfl⟩
  obtain ⟨locs, el⟩ : ∃ z : List Loc, z = [] := ⟨_, rfl⟩
  rw [← eH, ← el] at w ⊢
  refine lv_iload_n hx hb dX5_told_0 rfl (lv_at hl 1 rfl) ?_
  by_cases c1 : p1.toInt = 0
  · have h := bb_t h c1
    refine lv_tableIn (tgt := 52) hx hb dX5_told_1 (by omega) (by omega) (by rw [c1]; rfl) (by decide) ?_
    refine lv_aload_n hx hb dX5_told_52 rfl (lv_at hl 0 rfl) ?_
    refine u_geti C w hw (hP _ _ (isn_t25 hr0)) rfl (N := 17) rfl rfl cin_5 0 (by decide) rfl gw_219 dX5_told_53 ?_
    refine u_iv h (fun x2 h => ?_)
    exact t_iret C hr hlk w ⟨_, so_v h, rfl, so_w h hw, so_n h hn, hk⟩ (by decide) (by decide) dX5_told_56
  have h := bb_f h c1
  by_cases c3 : p1.toInt = 1
  · have h := bb_t h c3
    refine lv_tableIn (tgt := 57) hx hb dX5_told_1 (by omega) (by omega) (by rw [c3]; rfl) (by decide) ?_
    refine lv_aload_n hx hb dX5_told_57 rfl (lv_at hl 0 rfl) ?_
    refine u_geti C w hw (hP _ _ (isn_t25 hr0)) rfl (N := 17) rfl rfl cin_5 1 (by decide) rfl gw_220 dX5_told_58 ?_
    refine u_iv h (fun x4 h => ?_)
    exact t_iret C hr hlk w ⟨_, so_v h, rfl, so_w h hw, so_n h hn, hk⟩ (by decide) (by decide) dX5_told_61
  have h := bb_f h c3
  by_cases c5 : p1.toInt = 2
  · have h := bb_t h c5
    refine lv_tableIn (tgt := 62) hx hb dX5_told_1 (by omega) (by omega) (by rw [c5]; rfl) (by decide) ?_
    refine lv_aload_n hx hb dX5_told_62 rfl (lv_at hl 0 rfl) ?_
    refine u_geti C w hw (hP _ _ (isn_t25 hr0)) rfl (N := 17) rfl rfl cin_5 2 (by decide) rfl gw_223 dX5_told_63 ?_
    refine u_iv h (fun x6 h => ?_)
    exact t_iret C hr hlk w ⟨_, so_v h, rfl, so_w h hw, so_n h hn, hk⟩ (by decide) (by decide) dX5_told_66
  have h := bb_f h c5
  by_cases c7 : p1.toInt = 3
  · have h := bb_t h c7
    refine lv_tableIn (tgt := 67) hx hb dX5_told_1 (by omega) (by omega) (by rw [c7]; rfl) (by decide) ?_
    refine lv_aload_n hx hb dX5_told_67 rfl (lv_at hl 0 rfl) ?_
    refine u_geti C w hw (hP _ _ (isn_t25 hr0)) rfl (N := 17) rfl rfl cin_5 3 (by decide) rfl gw_225 dX5_told_68 ?_
    refine u_iv h (fun x8 h => ?_)
    exact t_iret C hr hlk w ⟨_, so_v h, rfl, so_w h hw, so_n h hn, hk⟩ (by decide) (by decide) dX5_told_71
  have h := bb_f h c7
  by_cases c9 : p1.toInt = 4
  · have h := bb_t h c9
    refine lv_tableIn (tgt := 72) hx hb dX5_told_1 (by omega) (by omega) (by rw [c9]; rfl) (by decide) ?_
    refine lv_aload_n hx hb dX5_told_72 rfl (lv_at hl 0 rfl) ?_
    refine u_geti C w hw (hP _ _ (isn_t25 hr0)) rfl (N := 17) rfl rfl cin_5 4 (by decide) rfl gw_227 dX5_told_73 ?_
    refine u_iv h (fun x10 h => ?_)
    exact t_iret C hr hlk w ⟨_, so_v h, rfl, so_w h hw, so_n h hn, hk⟩ (by decide) (by decide) dX5_told_76
  have h := bb_f h c9
  by_cases c11 : p1.toInt = 5
  · have h := bb_t h c11
    refine lv_tableIn (tgt := 77) hx hb dX5_told_1 (by omega) (by omega) (by rw [c11]; rfl) (by decide) ?_
    refine lv_aload_n hx hb dX5_told_77 rfl (lv_at hl 0 rfl) ?_
    refine u_geti C w hw (hP _ _ (isn_t25 hr0)) rfl (N := 17) rfl rfl cin_5 5 (by decide) rfl gw_230 dX5_told_78 ?_
    refine u_iv h (fun x12 h => ?_)
    exact t_iret C hr hlk w ⟨_, so_v h, rfl, so_w h hw, so_n h hn, hk⟩ (by decide) (by decide) dX5_told_81
  have h := bb_f h c11
  by_cases c13 : p1.toInt = 6
  · have h := bb_t h c13
    refine lv_tableIn (tgt := 82) hx hb dX5_told_1 (by omega) (by omega) (by rw [c13]; rfl) (by decide) ?_
    refine lv_aload_n hx hb dX5_told_82 rfl (lv_at hl 0 rfl) ?_
    refine u_geti C w hw (hP _ _ (isn_t25 hr0)) rfl (N := 17) rfl rfl cin_5 6 (by decide) rfl gw_233 dX5_told_83 ?_
    refine u_iv h (fun x14 h => ?_)
    exact t_iret C hr hlk w ⟨_, so_v h, rfl, so_w h hw, so_n h hn, hk⟩ (by decide) (by decide) dX5_told_86
  have h := bb_f h c13
  by_cases c15 : p1.toInt = 7
  · have h := bb_t h c15
    refine lv_tableIn (tgt := 87) hx hb dX5_told_1 (by omega) (by omega) (by rw [c15]; rfl) (by decide) ?_
    refine lv_aload_n hx hb dX5_told_87 rfl (lv_at hl 0 rfl) ?_
    refine u_geti C w hw (hP _ _ (isn_t25 hr0)) rfl (N := 17) rfl rfl cin_5 7 (by decide) rfl gw_236 dX5_told_88 ?_
    refine u_iv h (fun x16 h => ?_)
    exact t_iret C hr hlk w ⟨_, so_v h, rfl, so_w h hw, so_n h hn, hk⟩ (by decide) (by decide) dX5_told_91
  have h := bb_f h c15
  by_cases c17 : p1.toInt = 8
  · have h := bb_t h c17
    refine lv_tableIn (tgt := 92) hx hb dX5_told_1 (by omega) (by omega) (by rw [c17]; rfl) (by decide) ?_
    refine lv_aload_n hx hb dX5_told_92 rfl (lv_at hl 0 rfl) ?_
    refine u_geti C w hw (hP _ _ (isn_t25 hr0)) rfl (N := 17) rfl rfl cin_5 8 (by decide) rfl gw_238 dX5_told_93 ?_
    refine u_iv h (fun x18 h => ?_)
    exact t_iret C hr hlk w ⟨_, so_v h, rfl, so_w h hw, so_n h hn, hk⟩ (by decide) (by decide) dX5_told_96
  have h := bb_f h c17
  refine lv_tableOut (tgt := 97) hx hb dX5_told_1 (by omega) (by decide) ?_
  refine lv_aload_n hx hb dX5_told_97 rfl (lv_at hl 0 rfl) ?_
  refine u_geti C w hw (hP _ _ (isn_t25 hr0)) rfl (N := 17) rfl rfl cin_5 9 (by decide) rfl gw_240 dX5_told_98 ?_
  refine u_iv h (fun x19 h => ?_)
  exact t_iret C hr hlk w ⟨_, so_v h, rfl, so_w h hw, so_n h hn, hk⟩ (by decide) (by decide) dX5_told_101
theorem dX6_seed_0 : decode cX6_seed 0 = .ok (.aload_n 0, 1) := by decide +kernel
theorem dX6_seed_1 : decode cX6_seed 1 = .ok (.getfield 10, 3) := by decide +kernel
theorem dX6_seed_4 : decode cX6_seed 4 = .ok (.getfield 151, 3) := by decide +kernel
theorem dX6_seed_7 : decode cX6_seed 7 = .ok (.istore_n 2, 1) := by decide +kernel
theorem dX6_seed_8 : decode cX6_seed 8 = .ok (.aload_n 0, 1) := by decide +kernel
theorem dX6_seed_9 : decode cX6_seed 9 = .ok (.getfield 10, 3) := by decide +kernel
theorem dX6_seed_12 : decode cX6_seed 12 = .ok (.iload_n 1, 1) := by decide +kernel
theorem dX6_seed_13 : decode cX6_seed 13 = .ok (.putfield 151, 3) := by decide +kernel
theorem dX6_seed_16 : decode cX6_seed 16 = .ok (.iload_n 2, 1) := by decide +kernel
theorem dX6_seed_17 : decode cX6_seed 17 = .ok (.ireturn, 1) := by decide +kernel
noncomputable def F_X6_seed (p1 : Int32) (S0 : fS) : Option (Int32 × fS) := iv (ge S0 1 0 5) (fun x1 => sv (pu S0 1 0 5 p1) (fun S2 => some (x1, S2)))
set_option maxHeartbeats 4000000 in
set_option maxRecDepth 100000 in
theorem c_X6_seed (l : Launch) (D : va_G) (K : Nat → ClassId) (b0 : Nat) (sa : sT) (sz : Nat) (L : List Nat) (f0 : Nat → va_E) (ad : Nat → Nat → Nat) (P : Nat → Nat → Prop) {n : Nat × Nat} (hP : ∀ a i : Nat, isn n a i → P a i) (S0 : fS) (hw : PW K ad P S0 L f0) (hn : S0.2.2.1 = n) (p1 : Int32) (v : Int32) (S1 : fS) (h : F_X6_seed p1 S0 = some (v, S1)) : Met l yX6_seed (.code yX6_seed cX6_seed 3 (some .int) :: gt) { frames := 0, cells := 0, slots := 0, locals := 0 } (va_Pc [.ref (ad 0 0), .int p1] (hPre D K b0 sa sz L f0)) (hQ D K b0 (fun v9 u9 => ∃ f2 : Nat → va_E, v9 = some (.int v) ∧ u9 = lU L f2 ∧ PW K ad P S1 L f2 ∧ S1.2.2.1 = n ∧ Kp ad P L f0 f2)) 0 0 (fun q => b0 ≤ q) := by
  refine t_of (own := RX6) (by decide) rfl ?_ (Nat.le_of_ble_eq_true rfl)
  intro p e s m below meth c ls C w hsz hr hlk hnm hl
  have hx := C.1
  have hb := C.2.1
  have hl : lv_has ls 3 [(0, .ref (ad 0 0)), (1, .int p1)] := hl
  dsimp only [F_X6_seed] at h
  obtain ⟨f, ef⟩ : ∃ z, z = f0 := ⟨_, rfl⟩
  rw [← ef] at w hw
  have hk : Kp ad P L f0 f := by rw [ef]; exact Kp.rf
  obtain ⟨H, eH⟩ : ∃ z, z = s.heap := ⟨_, rfl⟩
  obtain ⟨locs, el⟩ : ∃ z : List Loc, z = [] := ⟨_, rfl⟩
  rw [← eH, ← el] at w ⊢
  refine lv_aload_n hx hb dX6_seed_0 rfl (lv_at hl 0 rfl) ?_
  refine u_getr C w hw (hP _ _ (isn_f rfl rfl (by decide))) rfl (N := 18) rfl rfl cin_6 0 (by decide) (by decide) (a2 := 1) (i2 := 0) rfl gw_287 dX6_seed_1 ?_
  refine u_geti C w hw (hP _ _ (isn_f rfl rfl (by decide))) rfl (N := 13) rfl rfl cin_0 5 (by decide) rfl gw_104 dX6_seed_4 ?_
  refine u_iv h (fun x1 h => ?_)
  refine lv_istore_n (lv' := [(2, .int x1), (0, .ref (ad 0 0)), (1, .int p1)]) hx hb dX6_seed_7 rfl hl (by decide) rfl (fun ls hl => ?_)
  refine lv_aload_n hx hb dX6_seed_8 rfl (lv_at hl 1 rfl) ?_
  refine u_getr C w hw (hP _ _ (isn_f rfl rfl (by decide))) rfl (N := 18) rfl rfl cin_6 0 (by decide) (by decide) (a2 := 1) (i2 := 0) rfl gw_287 dX6_seed_9 ?_
  refine lv_iload_n hx hb dX6_seed_12 rfl (lv_at hl 2 rfl) ?_
  refine u_puti C w hw (hP _ _ (isn_f rfl rfl (by decide))) rfl (N := 13) rfl rfl cin_0 tyX0 tyX0_ok nmX0 5 (by decide) rfl rfl rfl rfl gw_104 dX6_seed_13 (fun f H locs w hw hk1 => ?_)
  have hk := hk.tr hk1
  refine u_sv h hw hn (fun S2 h hw hn => ?_)
  refine lv_iload_n hx hb dX6_seed_16 rfl (lv_at hl 0 rfl) ?_
  exact t_iret C hr hlk w ⟨_, so_v h, rfl, so_w h hw, so_n h hn, hk⟩ (by decide) (by decide) dX6_seed_17
theorem dX6_writeBytes_0 : decode cX6_writeBytes 0 = .ok (.bipush 24, 2) := by decide +kernel
theorem dX6_writeBytes_2 : decode cX6_writeBytes 2 = .ok (.istore_n 2, 1) := by decide +kernel
theorem dX6_writeBytes_3 : decode cX6_writeBytes 3 = .ok (.iload_n 2, 1) := by decide +kernel
theorem dX6_writeBytes_4 : decode cX6_writeBytes 4 = .ok (.ifCond .lt 45, 3) := by decide +kernel
theorem dX6_writeBytes_7 : decode cX6_writeBytes 7 = .ok (.aload_n 0, 1) := by decide +kernel
theorem dX6_writeBytes_8 : decode cX6_writeBytes 8 = .ok (.getfield 52, 3) := by decide +kernel
theorem dX6_writeBytes_11 : decode cX6_writeBytes 11 = .ok (.sipush 300, 3) := by decide +kernel
theorem dX6_writeBytes_14 : decode cX6_writeBytes 14 = .ok (.if_icmp .ge 29, 3) := by decide +kernel
theorem dX6_writeBytes_17 : decode cX6_writeBytes 17 = .ok (.aload_n 0, 1) := by decide +kernel
theorem dX6_writeBytes_18 : decode cX6_writeBytes 18 = .ok (.getfield 49, 3) := by decide +kernel
theorem dX6_writeBytes_21 : decode cX6_writeBytes 21 = .ok (.aload_n 0, 1) := by decide +kernel
theorem dX6_writeBytes_22 : decode cX6_writeBytes 22 = .ok (.getfield 52, 3) := by decide +kernel
theorem dX6_writeBytes_25 : decode cX6_writeBytes 25 = .ok (.iload_n 1, 1) := by decide +kernel
theorem dX6_writeBytes_26 : decode cX6_writeBytes 26 = .ok (.iload_n 2, 1) := by decide +kernel
theorem dX6_writeBytes_27 : decode cX6_writeBytes 27 = .ok (.iushr, 1) := by decide +kernel
theorem dX6_writeBytes_28 : decode cX6_writeBytes 28 = .ok (.sipush 255, 3) := by decide +kernel
theorem dX6_writeBytes_31 : decode cX6_writeBytes 31 = .ok (.iand, 1) := by decide +kernel
theorem dX6_writeBytes_32 : decode cX6_writeBytes 32 = .ok (.iastore, 1) := by decide +kernel
theorem dX6_writeBytes_33 : decode cX6_writeBytes 33 = .ok (.aload_n 0, 1) := by decide +kernel
theorem dX6_writeBytes_34 : decode cX6_writeBytes 34 = .ok (.dup, 1) := by decide +kernel
theorem dX6_writeBytes_35 : decode cX6_writeBytes 35 = .ok (.getfield 52, 3) := by decide +kernel
theorem dX6_writeBytes_38 : decode cX6_writeBytes 38 = .ok (.iconst 1, 1) := by decide +kernel
theorem dX6_writeBytes_39 : decode cX6_writeBytes 39 = .ok (.iadd, 1) := by decide +kernel
theorem dX6_writeBytes_40 : decode cX6_writeBytes 40 = .ok (.putfield 52, 3) := by decide +kernel
theorem dX6_writeBytes_43 : decode cX6_writeBytes 43 = .ok (.iinc 2 (-8), 3) := by decide +kernel
theorem dX6_writeBytes_46 : decode cX6_writeBytes 46 = .ok (.goto (-43), 3) := by decide +kernel
theorem dX6_writeBytes_49 : decode cX6_writeBytes 49 = .ok (.return_, 1) := by decide +kernel
noncomputable def B_X6_writeBytes_43 (k3 : (Int32 × Int32) → fS → Option (Int32 × fS)) (a1 : Int32) (a2 : Int32) (S : fS) : Option (Int32 × fS) := iv (a2 + Int32.ofInt (-8)) (fun x1 => k3 (a1, x1) S)
noncomputable def B_X6_writeBytes_3 (k3 : (Int32 × Int32) → fS → Option (Int32 × fS)) : (Int32 × Int32) → fS → Option (Int32 × fS) := fun ⟨a1, a2⟩ S => bb (a2 < (0 : Int32)) (some (0, S)) (iv (ge S 0 0 11) (fun x3 => bb ((300 : Int32) ≤ x3) (B_X6_writeBytes_43 k3 a1 a2 S) (iv (ge S 0 0 11) (fun x5 => iv ((a1.toUInt32 >>> (a2.toUInt32 &&& Int32.toUInt32 31)).toInt32) (fun x6 => iv (x6 &&& (255 : Int32)) (fun x7 => gd (ib x5 300) (sv (pu S 16 0 (x5 : Int32).toNatClampNeg x7) (fun S9 => iv (ge S9 0 0 11) (fun x10 => iv (x10 + (1 : Int32)) (fun x11 => sv (pu S9 0 0 11 x11) (fun S12 => B_X6_writeBytes_43 k3 a1 a2 S12)))))))))))
noncomputable def F_X6_writeBytes (p1 : Int32) (S0 : fS) : Option (Int32 × fS) := lp (B_X6_writeBytes_3 ) fuel (p1, 24) S0
set_option maxHeartbeats 4000000 in
set_option maxRecDepth 100000 in
theorem c_X6_writeBytes (l : Launch) (D : va_G) (K : Nat → ClassId) (b0 : Nat) (sa : sT) (sz : Nat) (L : List Nat) (f0 : Nat → va_E) (ad : Nat → Nat → Nat) (P : Nat → Nat → Prop) {n : Nat × Nat} (hP : ∀ a i : Nat, isn n a i → P a i) (S0 : fS) (hw : PW K ad P S0 L f0) (hn : S0.2.2.1 = n) (p1 : Int32) (v : Int32) (S1 : fS) (h : F_X6_writeBytes p1 S0 = some (v, S1)) : Met l yX6_writeBytes (.code yX6_writeBytes cX6_writeBytes 3 none :: gt) { frames := 0, cells := 0, slots := 0, locals := 0 } (va_Pc [.ref (ad 0 0), .int p1] (hPre D K b0 sa sz L f0)) (hQ D K b0 (fun v9 u9 => ∃ f2 : Nat → va_E, v9 = none ∧ u9 = lU L f2 ∧ PW K ad P S1 L f2 ∧ S1.2.2.1 = n ∧ Kp ad P L f0 f2)) 0 0 (fun q => b0 ≤ q) := by
  refine t_of (own := RX6) (by decide) rfl ?_ (Nat.le_of_ble_eq_true rfl)
  intro p e s m below meth c ls C w hsz hr hlk hnm hl
  have hx := C.1
  have hb := C.2.1
  have hl : lv_has ls 3 [(0, .ref (ad 0 0)), (1, .int p1)] := hl
  have J43 : ∀ (k3 : (Int32 × Int32) → fS → Option (Int32 × fS)) (hk3 : ∀ (a1 : Int32) (a2 : Int32) (S : fS), k3 (a1, a2) S = some (v, S1) → Gw D K b0 sa ad P n L f0 p l e { frames := 0, cells := 0, slots := 0, locals := 0 } s m [.ref (ad 0 0), .int p1].toArray below meth c 3 (MQ below (hQ D K b0 (fun v9 u9 => ∃ f2 : Nat → va_E, v9 = none ∧ u9 = lU L f2 ∧ PW K ad P S1 L f2 ∧ S1.2.2.1 = n ∧ Kp ad P L f0 f2)) [.ref (ad 0 0), .int p1].toArray s 0 0 (fun q => b0 ≤ q)) 0 0 3 [(0, .ref (ad 0 0)), (1, .int a1), (2, .int a2)] [] S) (a1 : Int32) (a2 : Int32) (S : fS), B_X6_writeBytes_43 k3 a1 a2 S = some (v, S1) → Gw D K b0 sa ad P n L f0 p l e { frames := 0, cells := 0, slots := 0, locals := 0 } s m [.ref (ad 0 0), .int p1].toArray below meth c 3 (MQ below (hQ D K b0 (fun v9 u9 => ∃ f2 : Nat → va_E, v9 = none ∧ u9 = lU L f2 ∧ PW K ad P S1 L f2 ∧ S1.2.2.1 = n ∧ Kp ad P L f0 f2)) [.ref (ad 0 0), .int p1].toArray s 0 0 (fun q => b0 ≤ q)) 0 0 43 [(0, .ref (ad 0 0)), (1, .int a1), (2, .int a2)] [] S := by
    intro k3 hk3 a1 a2 S h
    dsimp only [B_X6_writeBytes_43] at h
    intro f H locs w hw hn hk ls hl
    obtain ⟨x1, ex1, h⟩ := iv_some h
    refine lv_iinc (v := x1) (lv' := [(2, .int x1), (0, .ref (ad 0 0)), (1, .int a1)]) hx hb dX6_writeBytes_43 hl (k := 2) rfl ex1.symm (by decide) rfl (fun ls hl => ?_)
    refine lv_goto (tgt := 3) hx hb dX6_writeBytes_46 (by decide) ?_
    exact hk3 a1 x1 S h f H locs w hw hn hk ls (lv_sub hl [1, 2, 0] rfl)
  have J3 : ∀ (fu : Nat) (a1 : Int32) (a2 : Int32) (S : fS), lp (B_X6_writeBytes_3 ) fu (a1, a2) S = some (v, S1) → Gw D K b0 sa ad P n L f0 p l e { frames := 0, cells := 0, slots := 0, locals := 0 } s m [.ref (ad 0 0), .int p1].toArray below meth c 3 (MQ below (hQ D K b0 (fun v9 u9 => ∃ f2 : Nat → va_E, v9 = none ∧ u9 = lU L f2 ∧ PW K ad P S1 L f2 ∧ S1.2.2.1 = n ∧ Kp ad P L f0 f2)) [.ref (ad 0 0), .int p1].toArray s 0 0 (fun q => b0 ≤ q)) 0 0 3 [(0, .ref (ad 0 0)), (1, .int a1), (2, .int a2)] [] S := by
    intro fu a1 a2 S h
    refine lp_some (G := (fun q S => Gw D K b0 sa ad P n L f0 p l e { frames := 0, cells := 0, slots := 0, locals := 0 } s m [.ref (ad 0 0), .int p1].toArray below meth c 3 (MQ below (hQ D K b0 (fun v9 u9 => ∃ f2 : Nat → va_E, v9 = none ∧ u9 = lU L f2 ∧ PW K ad P S1 L f2 ∧ S1.2.2.1 = n ∧ Kp ad P L f0 f2)) [.ref (ad 0 0), .int p1].toArray s 0 0 (fun q => b0 ≤ q)) 0 0 3 [(0, .ref (ad 0 0)), (1, .int q.1), (2, .int q.2)] [] S)) (fun k3 hk3 q S h => ?_) fu (a1, a2) S h
    obtain ⟨a1, a2⟩ := q
    have hk3 : ∀ (a1 : Int32) (a2 : Int32) (S : fS), k3 (a1, a2) S = some (v, S1) → Gw D K b0 sa ad P n L f0 p l e { frames := 0, cells := 0, slots := 0, locals := 0 } s m [.ref (ad 0 0), .int p1].toArray below meth c 3 (MQ below (hQ D K b0 (fun v9 u9 => ∃ f2 : Nat → va_E, v9 = none ∧ u9 = lU L f2 ∧ PW K ad P S1 L f2 ∧ S1.2.2.1 = n ∧ Kp ad P L f0 f2)) [.ref (ad 0 0), .int p1].toArray s 0 0 (fun q => b0 ≤ q)) 0 0 3 [(0, .ref (ad 0 0)), (1, .int a1), (2, .int a2)] [] S := fun a1 a2 S h => hk3 (a1, a2) S h
    dsimp only [B_X6_writeBytes_3] at h
    intro f H locs w hw hn hk ls hl
    refine lv_iload_n hx hb dX6_writeBytes_3 rfl (lv_at hl 2 rfl) ?_
    refine lv_if_lt (tgt := 49) hx hb dX6_writeBytes_4 (by decide) (fun c2 => ?_) (fun c2 => ?_)
    · have h := bb_t h c2
      exact t_vret C hr hlk w ⟨_, rfl, rfl, so_w h hw, so_n h hn, hk⟩ (by decide) (by decide) dX6_writeBytes_49
    · have h := bb_f h c2
      refine lv_aload_n hx hb dX6_writeBytes_7 rfl (lv_at hl 0 rfl) ?_
      refine u_geti C w hw (hP _ _ (isn_f rfl rfl (by decide))) rfl (N := 18) rfl rfl cin_6 11 (by decide) rfl gw_298 dX6_writeBytes_8 ?_
      refine u_iv h (fun x3 h => ?_)
      refine lv_sipush (v := 300) hx hb dX6_writeBytes_11 (by decide) ?_
      refine lv_icmp_ge (tgt := 43) hx hb dX6_writeBytes_14 (by decide) (fun c4 => ?_) (fun c4 => ?_)
      · have h := bb_t h c4
        exact J43 k3 hk3 a1 a2 S h f H locs w hw hn hk ls (lv_sub hl [0, 1, 2] rfl)
      · have h := bb_f h c4
        refine lv_aload_n hx hb dX6_writeBytes_17 rfl (lv_at hl 0 rfl) ?_
        refine u_getr C w hw (hP _ _ (isn_f rfl rfl (by decide))) rfl (N := 18) rfl rfl cin_6 10 (by decide) (by decide) (a2 := 16) (i2 := 0) rfl gw_297 dX6_writeBytes_18 ?_
        refine lv_aload_n hx hb dX6_writeBytes_21 rfl (lv_at hl 0 rfl) ?_
        refine u_geti C w hw (hP _ _ (isn_f rfl rfl (by decide))) rfl (N := 18) rfl rfl cin_6 11 (by decide) rfl gw_298 dX6_writeBytes_22 ?_
        refine u_iv h (fun x5 h => ?_)
        refine lv_iload_n hx hb dX6_writeBytes_25 rfl (lv_at hl 1 rfl) ?_
        refine lv_iload_n hx hb dX6_writeBytes_26 rfl (lv_at hl 2 rfl) ?_
        refine lv_iushr hx hb dX6_writeBytes_27 rfl ?_
        refine u_iv h (fun x6 h => ?_)
        refine lv_sipush (v := 255) hx hb dX6_writeBytes_28 (by decide) ?_
        refine lv_iand hx hb dX6_writeBytes_31 ?_
        refine u_iv h (fun x7 h => ?_)
        obtain ⟨g8, h⟩ := gd_some h
        refine u_iast C w hw (hP _ _ (isn_f rfl rfl (by decide))) rfl rfl (n := 300) rfl (vp_in_iff.mpr g8) dX6_writeBytes_32 (fun f H locs w hw hk1 => ?_)
        have hk := hk.tr hk1
        refine u_sv h hw hn (fun S9 h hw hn => ?_)
        refine lv_aload_n hx hb dX6_writeBytes_33 rfl (lv_at hl 0 rfl) ?_
        refine lv_dup hx hb dX6_writeBytes_34 rfl ?_
        refine u_geti C w hw (hP _ _ (isn_f rfl rfl (by decide))) rfl (N := 18) rfl rfl cin_6 11 (by decide) rfl gw_298 dX6_writeBytes_35 ?_
        refine u_iv h (fun x10 h => ?_)
        refine lv_iconst (v := 1) hx hb dX6_writeBytes_38 (by decide) ?_
        refine lv_iadd hx hb dX6_writeBytes_39 ?_
        refine u_iv h (fun x11 h => ?_)
        refine u_puti C w hw (hP _ _ (isn_f rfl rfl (by decide))) rfl (N := 18) rfl rfl cin_6 tyX6 tyX6_ok nmX6 11 (by decide) rfl rfl rfl rfl gw_298 dX6_writeBytes_40 (fun f H locs w hw hk1 => ?_)
        have hk := hk.tr hk1
        refine u_sv h hw hn (fun S12 h hw hn => ?_)
        exact J43 k3 hk3 a1 a2 S12 h f H locs w hw hn hk ls (lv_sub hl [0, 1, 2] rfl)
  dsimp only [F_X6_writeBytes] at h
  obtain ⟨f, ef⟩ : ∃ z, z = f0 := ⟨_, rfl⟩
  rw [← ef] at w hw
  have hk : Kp ad P L f0 f := by rw [ef]; exact Kp.rf
  obtain ⟨H, eH⟩ : ∃ z, z = s.heap := ⟨_, rfl⟩
  obtain ⟨locs, el⟩ : ∃ z : List Loc, z = [] := ⟨_, rfl⟩
  rw [← eH, ← el] at w ⊢
  refine lv_bipush (v := 24) hx hb dX6_writeBytes_0 (by decide) ?_
  refine lv_istore_n (lv' := [(2, .int 24), (0, .ref (ad 0 0)), (1, .int p1)]) hx hb dX6_writeBytes_2 rfl hl (by decide) rfl (fun ls hl => ?_)
  exact J3  fuel p1 24 S0 h f H locs w hw hn hk ls (lv_sub hl [1, 2, 0] rfl)
theorem dX6_feed_0 : decode cX6_feed 0 = .ok (.aload_n 0, 1) := by decide +kernel
theorem dX6_feed_1 : decode cX6_feed 1 = .ok (.getfield 52, 3) := by decide +kernel
theorem dX6_feed_4 : decode cX6_feed 4 = .ok (.bipush 20, 2) := by decide +kernel
theorem dX6_feed_6 : decode cX6_feed 6 = .ok (.iadd, 1) := by decide +kernel
theorem dX6_feed_7 : decode cX6_feed 7 = .ok (.sipush 300, 3) := by decide +kernel
theorem dX6_feed_10 : decode cX6_feed 10 = .ok (.if_icmp .le 5, 3) := by decide +kernel
theorem dX6_feed_13 : decode cX6_feed 13 = .ok (.iconst (-1), 1) := by decide +kernel
theorem dX6_feed_14 : decode cX6_feed 14 = .ok (.ireturn, 1) := by decide +kernel
theorem dX6_feed_15 : decode cX6_feed 15 = .ok (.aload_n 0, 1) := by decide +kernel
theorem dX6_feed_16 : decode cX6_feed 16 = .ok (.iload_n 1, 1) := by decide +kernel
theorem dX6_feed_17 : decode cX6_feed 17 = .ok (.invokevirtual 154, 3) := by decide +kernel
theorem dX6_feed_20 : decode cX6_feed 20 = .ok (.aload_n 0, 1) := by decide +kernel
theorem dX6_feed_21 : decode cX6_feed 21 = .ok (.iload_n 2, 1) := by decide +kernel
theorem dX6_feed_22 : decode cX6_feed 22 = .ok (.invokevirtual 154, 3) := by decide +kernel
theorem dX6_feed_25 : decode cX6_feed 25 = .ok (.aload_n 0, 1) := by decide +kernel
theorem dX6_feed_26 : decode cX6_feed 26 = .ok (.iload_n 3, 1) := by decide +kernel
theorem dX6_feed_27 : decode cX6_feed 27 = .ok (.invokevirtual 154, 3) := by decide +kernel
theorem dX6_feed_30 : decode cX6_feed 30 = .ok (.aload_n 0, 1) := by decide +kernel
theorem dX6_feed_31 : decode cX6_feed 31 = .ok (.iload 4, 2) := by decide +kernel
theorem dX6_feed_33 : decode cX6_feed 33 = .ok (.invokevirtual 154, 3) := by decide +kernel
theorem dX6_feed_36 : decode cX6_feed 36 = .ok (.aload_n 0, 1) := by decide +kernel
theorem dX6_feed_37 : decode cX6_feed 37 = .ok (.iload 5, 2) := by decide +kernel
theorem dX6_feed_39 : decode cX6_feed 39 = .ok (.invokevirtual 154, 3) := by decide +kernel
theorem dX6_feed_42 : decode cX6_feed 42 = .ok (.aload_n 0, 1) := by decide +kernel
theorem dX6_feed_43 : decode cX6_feed 43 = .ok (.getfield 52, 3) := by decide +kernel
theorem dX6_feed_46 : decode cX6_feed 46 = .ok (.ireturn, 1) := by decide +kernel
noncomputable def F_X6_feed (p1 : Int32) (p2 : Int32) (p3 : Int32) (p4 : Int32) (p5 : Int32) (S0 : fS) : Option (Int32 × fS) := iv (ge S0 0 0 11) (fun x1 => iv (x1 + (20 : Int32)) (fun x2 => bb (x2 ≤ (300 : Int32)) (bd (F_X6_writeBytes p1 S0) (fun v4 S5 => bd (F_X6_writeBytes p2 S5) (fun v7 S8 => bd (F_X6_writeBytes p3 S8) (fun v10 S11 => bd (F_X6_writeBytes p4 S11) (fun v13 S14 => bd (F_X6_writeBytes p5 S14) (fun v16 S17 => iv (ge S17 0 0 11) (fun x19 => some (x19, S17)))))))) (some ((-1), S0))))
set_option maxHeartbeats 4000000 in
set_option maxRecDepth 100000 in
theorem c_X6_feed (l : Launch) (D : va_G) (K : Nat → ClassId) (b0 : Nat) (sa : sT) (sz : Nat) (L : List Nat) (f0 : Nat → va_E) (ad : Nat → Nat → Nat) (P : Nat → Nat → Prop) {n : Nat × Nat} (hP : ∀ a i : Nat, isn n a i → P a i) (S0 : fS) (hw : PW K ad P S0 L f0) (hn : S0.2.2.1 = n) (p1 : Int32) (p2 : Int32) (p3 : Int32) (p4 : Int32) (p5 : Int32) (v : Int32) (S1 : fS) (h : F_X6_feed p1 p2 p3 p4 p5 S0 = some (v, S1)) : Met l yX6_feed (.code yX6_feed cX6_feed 6 (some .int) :: gt) { frames := 1, cells := 0, slots := 0, locals := 22 } (va_Pc [.ref (ad 0 0), .int p1, .int p2, .int p3, .int p4, .int p5] (hPre D K b0 sa sz L f0)) (hQ D K b0 (fun v9 u9 => ∃ f2 : Nat → va_E, v9 = some (.int v) ∧ u9 = lU L f2 ∧ PW K ad P S1 L f2 ∧ S1.2.2.1 = n ∧ Kp ad P L f0 f2)) 0 0 (fun q => b0 ≤ q) := by
  refine t_of (own := RX6) (by decide) rfl ?_ (Nat.le_of_ble_eq_true rfl)
  intro p e s m below meth c ls C w hsz hr hlk hnm hl
  have hx := C.1
  have hb := C.2.1
  have hl : lv_has ls 6 [(0, .ref (ad 0 0)), (1, .int p1), (2, .int p2), (3, .int p3), (4, .int p4), (5, .int p5)] := hl
  dsimp only [F_X6_feed] at h
  obtain ⟨f, ef⟩ : ∃ z, z = f0 := ⟨_, rfl⟩
  rw [← ef] at w hw
  have hk : Kp ad P L f0 f := by rw [ef]; exact Kp.rf
  obtain ⟨H, eH⟩ : ∃ z, z = s.heap := ⟨_, rfl⟩
  obtain ⟨locs, el⟩ : ∃ z : List Loc, z = [] := ⟨_, rfl⟩
  rw [← eH, ← el] at w ⊢
  refine lv_aload_n hx hb dX6_feed_0 rfl (lv_at hl 0 rfl) ?_
  refine u_geti C w hw (hP _ _ (isn_f rfl rfl (by decide))) rfl (N := 18) rfl rfl cin_6 11 (by decide) rfl gw_298 dX6_feed_1 ?_
  refine u_iv h (fun x1 h => ?_)
  refine lv_bipush (v := 20) hx hb dX6_feed_4 (by decide) ?_
  refine lv_iadd hx hb dX6_feed_6 ?_
  refine u_iv h (fun x2 h => ?_)
  refine lv_sipush (v := 300) hx hb dX6_feed_7 (by decide) ?_
  refine lv_icmp_le (tgt := 15) hx hb dX6_feed_10 (by decide) (fun c3 => ?_) (fun c3 => ?_)
  · have h := bb_t h c3
    refine lv_aload_n hx hb dX6_feed_15 rfl (lv_at hl 0 rfl) ?_
    refine lv_iload_n hx hb dX6_feed_16 rfl (lv_at hl 1 rfl) ?_
    obtain ⟨v4, S5, h6, h⟩ := bd_some h
    refine u_callV (n := 1) C w hw (hP _ _ (isn_f rfl rfl (by decide))) rfl rfl rfl (c_X6_writeBytes l D K b0 sa _ L _ ad P hP S0 hw hn p1 v4 S5 h6) gw_353 gw_350 gw_352 gs_0 gw_1 ⟨by decide, by decide, by decide +kernel⟩ rfl rfl ⟨by decide, by decide⟩ rfl hl.1 rfl (Nat.le_of_ble_eq_true rfl) dX6_feed_17 ⟨Nat.le_of_ble_eq_true rfl, Nat.le_of_ble_eq_true rfl⟩ (fun v9 u H locs hp w => ?_)
    obtain ⟨f2, rfl, rfl, hw, hn, hk1⟩ := hp
    have hk := hk.tr hk1
    generalize f2 = f at w hw hk
    refine lv_aload_n hx hb dX6_feed_20 rfl (lv_at hl 0 rfl) ?_
    refine lv_iload_n hx hb dX6_feed_21 rfl (lv_at hl 2 rfl) ?_
    obtain ⟨v7, S8, h9, h⟩ := bd_some h
    refine u_callV (n := 1) C w hw (hP _ _ (isn_f rfl rfl (by decide))) rfl rfl rfl (c_X6_writeBytes l D K b0 sa _ L _ ad P hP S5 hw hn p2 v7 S8 h9) gw_353 gw_350 gw_352 gs_0 gw_1 ⟨by decide, by decide, by decide +kernel⟩ rfl rfl ⟨by decide, by decide⟩ rfl hl.1 rfl (Nat.le_of_ble_eq_true rfl) dX6_feed_22 ⟨Nat.le_of_ble_eq_true rfl, Nat.le_of_ble_eq_true rfl⟩ (fun v9 u H locs hp w => ?_)
    obtain ⟨f2, rfl, rfl, hw, hn, hk1⟩ := hp
    have hk := hk.tr hk1
    generalize f2 = f at w hw hk
    refine lv_aload_n hx hb dX6_feed_25 rfl (lv_at hl 0 rfl) ?_
    refine lv_iload_n hx hb dX6_feed_26 rfl (lv_at hl 3 rfl) ?_
    obtain ⟨v10, S11, h12, h⟩ := bd_some h
    refine u_callV (n := 1) C w hw (hP _ _ (isn_f rfl rfl (by decide))) rfl rfl rfl (c_X6_writeBytes l D K b0 sa _ L _ ad P hP S8 hw hn p3 v10 S11 h12) gw_353 gw_350 gw_352 gs_0 gw_1 ⟨by decide, by decide, by decide +kernel⟩ rfl rfl ⟨by decide, by decide⟩ rfl hl.1 rfl (Nat.le_of_ble_eq_true rfl) dX6_feed_27 ⟨Nat.le_of_ble_eq_true rfl, Nat.le_of_ble_eq_true rfl⟩ (fun v9 u H locs hp w => ?_)
    obtain ⟨f2, rfl, rfl, hw, hn, hk1⟩ := hp
    have hk := hk.tr hk1
    generalize f2 = f at w hw hk
    refine lv_aload_n hx hb dX6_feed_30 rfl (lv_at hl 0 rfl) ?_
    refine lv_iload hx hb dX6_feed_31 (lv_at hl 4 rfl) ?_
    obtain ⟨v13, S14, h15, h⟩ := bd_some h
    refine u_callV (n := 1) C w hw (hP _ _ (isn_f rfl rfl (by decide))) rfl rfl rfl (c_X6_writeBytes l D K b0 sa _ L _ ad P hP S11 hw hn p4 v13 S14 h15) gw_353 gw_350 gw_352 gs_0 gw_1 ⟨by decide, by decide, by decide +kernel⟩ rfl rfl ⟨by decide, by decide⟩ rfl hl.1 rfl (Nat.le_of_ble_eq_true rfl) dX6_feed_33 ⟨Nat.le_of_ble_eq_true rfl, Nat.le_of_ble_eq_true rfl⟩ (fun v9 u H locs hp w => ?_)
    obtain ⟨f2, rfl, rfl, hw, hn, hk1⟩ := hp
    have hk := hk.tr hk1
    generalize f2 = f at w hw hk
    refine lv_aload_n hx hb dX6_feed_36 rfl (lv_at hl 0 rfl) ?_
    refine lv_iload hx hb dX6_feed_37 (lv_at hl 5 rfl) ?_
    obtain ⟨v16, S17, h18, h⟩ := bd_some h
    refine u_callV (n := 1) C w hw (hP _ _ (isn_f rfl rfl (by decide))) rfl rfl rfl (c_X6_writeBytes l D K b0 sa _ L _ ad P hP S14 hw hn p5 v16 S17 h18) gw_353 gw_350 gw_352 gs_0 gw_1 ⟨by decide, by decide, by decide +kernel⟩ rfl rfl ⟨by decide, by decide⟩ rfl hl.1 rfl (Nat.le_of_ble_eq_true rfl) dX6_feed_39 ⟨Nat.le_of_ble_eq_true rfl, Nat.le_of_ble_eq_true rfl⟩ (fun v9 u H locs hp w => ?_)
    obtain ⟨f2, rfl, rfl, hw, hn, hk1⟩ := hp
    have hk := hk.tr hk1
    generalize f2 = f at w hw hk
    refine lv_aload_n hx hb dX6_feed_42 rfl (lv_at hl 0 rfl) ?_
    refine u_geti C w hw (hP _ _ (isn_f rfl rfl (by decide))) rfl (N := 18) rfl rfl cin_6 11 (by decide) rfl gw_298 dX6_feed_43 ?_
    refine u_iv h (fun x19 h => ?_)
    exact t_iret C hr hlk w ⟨_, so_v h, rfl, so_w h hw, so_n h hn, hk⟩ (by decide) (by decide) dX6_feed_46
  · have h := bb_f h c3
    refine lv_iconst (v := (-1)) hx hb dX6_feed_13 (by decide) ?_
    exact t_iret C hr hlk w ⟨_, so_v h, rfl, so_w h hw, so_n h hn, hk⟩ (by decide) (by decide) dX6_feed_14
theorem dX6_fault_0 : decode cX6_fault 0 = .ok (.aload_n 0, 1) := by decide +kernel
theorem dX6_fault_1 : decode cX6_fault 1 = .ok (.getfield 55, 3) := by decide +kernel
theorem dX6_fault_4 : decode cX6_fault 4 = .ok (.ireturn, 1) := by decide +kernel
noncomputable def F_X6_fault  (S0 : fS) : Option (Int32 × fS) := iv (ge S0 0 0 12) (fun x1 => some (x1, S0))
set_option maxHeartbeats 4000000 in
set_option maxRecDepth 100000 in
theorem c_X6_fault (l : Launch) (D : va_G) (K : Nat → ClassId) (b0 : Nat) (sa : sT) (sz : Nat) (L : List Nat) (f0 : Nat → va_E) (ad : Nat → Nat → Nat) (P : Nat → Nat → Prop) {n : Nat × Nat} (hP : ∀ a i : Nat, isn n a i → P a i) (S0 : fS) (hw : PW K ad P S0 L f0) (hn : S0.2.2.1 = n)  (v : Int32) (S1 : fS) (h : F_X6_fault  S0 = some (v, S1)) : Met l yX6_fault (.code yX6_fault cX6_fault 1 (some .int) :: gt) { frames := 0, cells := 0, slots := 0, locals := 0 } (va_Pc [.ref (ad 0 0)] (hPre D K b0 sa sz L f0)) (hQ D K b0 (fun v9 u9 => ∃ f2 : Nat → va_E, v9 = some (.int v) ∧ u9 = lU L f2 ∧ PW K ad P S1 L f2 ∧ S1.2.2.1 = n ∧ Kp ad P L f0 f2)) 0 0 (fun q => b0 ≤ q) := by
  refine t_of (own := RX6) (by decide) rfl ?_ (Nat.le_of_ble_eq_true rfl)
  intro p e s m below meth c ls C w hsz hr hlk hnm hl
  have hx := C.1
  have hb := C.2.1
  have hl : lv_has ls 1 [(0, .ref (ad 0 0))] := hl
  dsimp only [F_X6_fault] at h
  obtain ⟨f, ef⟩ : ∃ z, z = f0 := ⟨_, rfl⟩
  rw [← ef] at w hw
  have hk : Kp ad P L f0 f := by rw [ef]; exact Kp.rf
  obtain ⟨H, eH⟩ : ∃ z, z = s.heap := ⟨_, rfl⟩
  obtain ⟨locs, el⟩ : ∃ z : List Loc, z = [] := ⟨_, rfl⟩
  rw [← eH, ← el] at w ⊢
  refine lv_aload_n hx hb dX6_fault_0 rfl (lv_at hl 0 rfl) ?_
  refine u_geti C w hw (hP _ _ (isn_f rfl rfl (by decide))) rfl (N := 18) rfl rfl cin_6 12 (by decide) rfl gw_299 dX6_fault_1 ?_
  refine u_iv h (fun x1 h => ?_)
  exact t_iret C hr hlk w ⟨_, so_v h, rfl, so_w h hw, so_n h hn, hk⟩ (by decide) (by decide) dX6_fault_4
theorem dX6_paysByLots_0 : decode cX6_paysByLots 0 = .ok (.iconst 0, 1) := by decide +kernel
theorem dX6_paysByLots_1 : decode cX6_paysByLots 1 = .ok (.istore_n 3, 1) := by decide +kernel
theorem dX6_paysByLots_2 : decode cX6_paysByLots 2 = .ok (.iload_n 3, 1) := by decide +kernel
theorem dX6_paysByLots_3 : decode cX6_paysByLots 3 = .ok (.iload_n 1, 1) := by decide +kernel
theorem dX6_paysByLots_4 : decode cX6_paysByLots 4 = .ok (.if_icmp .ge 68, 3) := by decide +kernel
theorem dX6_paysByLots_7 : decode cX6_paysByLots 7 = .ok (.iload_n 3, 1) := by decide +kernel
theorem dX6_paysByLots_8 : decode cX6_paysByLots 8 = .ok (.bipush 36, 2) := by decide +kernel
theorem dX6_paysByLots_10 : decode cX6_paysByLots 10 = .ok (.if_icmp .ge 62, 3) := by decide +kernel
theorem dX6_paysByLots_13 : decode cX6_paysByLots 13 = .ok (.aload_n 0, 1) := by decide +kernel
theorem dX6_paysByLots_14 : decode cX6_paysByLots 14 = .ok (.getfield 75, 3) := by decide +kernel
theorem dX6_paysByLots_17 : decode cX6_paysByLots 17 = .ok (.aload_n 0, 1) := by decide +kernel
theorem dX6_paysByLots_18 : decode cX6_paysByLots 18 = .ok (.getfield 79, 3) := by decide +kernel
theorem dX6_paysByLots_21 : decode cX6_paysByLots 21 = .ok (.iload_n 3, 1) := by decide +kernel
theorem dX6_paysByLots_22 : decode cX6_paysByLots 22 = .ok (.iaload, 1) := by decide +kernel
theorem dX6_paysByLots_23 : decode cX6_paysByLots 23 = .ok (.aload_n 0, 1) := by decide +kernel
theorem dX6_paysByLots_24 : decode cX6_paysByLots 24 = .ok (.getfield 82, 3) := by decide +kernel
theorem dX6_paysByLots_27 : decode cX6_paysByLots 27 = .ok (.iload_n 3, 1) := by decide +kernel
theorem dX6_paysByLots_28 : decode cX6_paysByLots 28 = .ok (.iaload, 1) := by decide +kernel
theorem dX6_paysByLots_29 : decode cX6_paysByLots 29 = .ok (.invokevirtual 238, 3) := by decide +kernel
theorem dX6_paysByLots_32 : decode cX6_paysByLots 32 = .ok (.istore 4, 2) := by decide +kernel
theorem dX6_paysByLots_34 : decode cX6_paysByLots 34 = .ok (.aload_n 0, 1) := by decide +kernel
theorem dX6_paysByLots_35 : decode cX6_paysByLots 35 = .ok (.getfield 75, 3) := by decide +kernel
theorem dX6_paysByLots_38 : decode cX6_paysByLots 38 = .ok (.iload 4, 2) := by decide +kernel
theorem dX6_paysByLots_40 : decode cX6_paysByLots 40 = .ok (.invokevirtual 241, 3) := by decide +kernel
theorem dX6_paysByLots_43 : decode cX6_paysByLots 43 = .ok (.iconst 5, 1) := by decide +kernel
theorem dX6_paysByLots_44 : decode cX6_paysByLots 44 = .ok (.if_icmp .ne 7, 3) := by decide +kernel
theorem dX6_paysByLots_47 : decode cX6_paysByLots 47 = .ok (.iconst 1, 1) := by decide +kernel
theorem dX6_paysByLots_48 : decode cX6_paysByLots 48 = .ok (.goto 4, 3) := by decide +kernel
theorem dX6_paysByLots_51 : decode cX6_paysByLots 51 = .ok (.iconst 0, 1) := by decide +kernel
theorem dX6_paysByLots_52 : decode cX6_paysByLots 52 = .ok (.iload_n 2, 1) := by decide +kernel
theorem dX6_paysByLots_53 : decode cX6_paysByLots 53 = .ok (.if_icmp .eq 13, 3) := by decide +kernel
theorem dX6_paysByLots_56 : decode cX6_paysByLots 56 = .ok (.iload_n 2, 1) := by decide +kernel
theorem dX6_paysByLots_57 : decode cX6_paysByLots 57 = .ok (.ifCond .ne 7, 3) := by decide +kernel
theorem dX6_paysByLots_60 : decode cX6_paysByLots 60 = .ok (.iconst 1, 1) := by decide +kernel
theorem dX6_paysByLots_61 : decode cX6_paysByLots 61 = .ok (.goto 4, 3) := by decide +kernel
theorem dX6_paysByLots_64 : decode cX6_paysByLots 64 = .ok (.iconst 0, 1) := by decide +kernel
theorem dX6_paysByLots_65 : decode cX6_paysByLots 65 = .ok (.ireturn, 1) := by decide +kernel
theorem dX6_paysByLots_66 : decode cX6_paysByLots 66 = .ok (.iinc 3 1, 3) := by decide +kernel
theorem dX6_paysByLots_69 : decode cX6_paysByLots 69 = .ok (.goto (-67), 3) := by decide +kernel
theorem dX6_paysByLots_72 : decode cX6_paysByLots 72 = .ok (.iload_n 2, 1) := by decide +kernel
theorem dX6_paysByLots_73 : decode cX6_paysByLots 73 = .ok (.ireturn, 1) := by decide +kernel
noncomputable def B_X6_paysByLots_52 (k2 : (Int32 × Int32 × Int32) → fS → Option (Int32 × fS)) (a1 : Int32) (a2 : Int32) (a3 : Int32) (t0 : Int32) (S : fS) : Option (Int32 × fS) := bb (t0 = a2) (iv (a3 + Int32.ofInt 1) (fun x2 => k2 (a1, a2, x2) S)) (bb (a2 = (0 : Int32)) (some (1, S)) (some (0, S)))
noncomputable def B_X6_paysByLots_2 (k2 : (Int32 × Int32 × Int32) → fS → Option (Int32 × fS)) : (Int32 × Int32 × Int32) → fS → Option (Int32 × fS) := fun ⟨a1, a2, a3⟩ S => bb (a1 ≤ a3) (gd (a2 = 0 ∨ a2 = 1) (some (a2, S))) (bb ((36 : Int32) ≤ a3) (gd (a2 = 0 ∨ a2 = 1) (some (a2, S))) (gd (ib a3 36) (iv (ge S 27 0 (a3 : Int32).toNatClampNeg) (fun x9 => gd (ib a3 36) (iv (ge S 28 0 (a3 : Int32).toNatClampNeg) (fun x11 => bd (F_X5_failingStep 0 x9 x11 S) (fun v12 S13 => bd (F_X5_outcomeAt 0 v12 S13) (fun v15 S16 => bb (v15 = (5 : Int32)) (B_X6_paysByLots_52 k2 a1 a2 a3 1 S16) (B_X6_paysByLots_52 k2 a1 a2 a3 0 S16)))))))))
noncomputable def F_X6_paysByLots (p1 : Int32) (p2 : Int32) (S0 : fS) : Option (Int32 × fS) := lp (B_X6_paysByLots_2 ) fuel (p1, p2, 0) S0
set_option maxHeartbeats 4000000 in
set_option maxRecDepth 100000 in
theorem c_X6_paysByLots (l : Launch) (D : va_G) (K : Nat → ClassId) (b0 : Nat) (sa : sT) (sz : Nat) (L : List Nat) (f0 : Nat → va_E) (ad : Nat → Nat → Nat) (P : Nat → Nat → Prop) {n : Nat × Nat} (hP : ∀ a i : Nat, isn n a i → P a i) (S0 : fS) (hw : PW K ad P S0 L f0) (hn : S0.2.2.1 = n) (hprobe : 0 < n.1) (p1 : Int32) (p2 : Int32) (v : Int32) (S1 : fS) (h : F_X6_paysByLots p1 p2 S0 = some (v, S1)) : Met l yX6_paysByLots (.code yX6_paysByLots cX6_paysByLots 5 (some .boolean) :: gt) { frames := 1, cells := 0, slots := 0, locals := 23 } (va_Pc [.ref (ad 0 0), .int p1, .int p2] (hPre D K b0 sa sz L f0)) (hQ D K b0 (fun v9 u9 => ∃ f2 : Nat → va_E, v9 = some (.int v) ∧ u9 = lU L f2 ∧ PW K ad P S1 L f2 ∧ S1.2.2.1 = n ∧ Kp ad P L f0 f2)) 0 0 (fun q => b0 ≤ q) := by
  refine t_of (own := RX6) (by decide) rfl ?_ (Nat.le_of_ble_eq_true rfl)
  intro p e s m below meth c ls C w hsz hr hlk hnm hl
  have hx := C.1
  have hb := C.2.1
  have hl : lv_has ls 5 [(0, .ref (ad 0 0)), (1, .int p1), (2, .int p2)] := hl
  have J52 : ∀ (k2 : (Int32 × Int32 × Int32) → fS → Option (Int32 × fS)) (hk2 : ∀ (a1 : Int32) (a2 : Int32) (a3 : Int32) (S : fS), k2 (a1, a2, a3) S = some (v, S1) → Gw D K b0 sa ad P n L f0 p l e { frames := 1, cells := 0, slots := 0, locals := 23 } s m [.ref (ad 0 0), .int p1, .int p2].toArray below meth c 5 (MQ below (hQ D K b0 (fun v9 u9 => ∃ f2 : Nat → va_E, v9 = some (.int v) ∧ u9 = lU L f2 ∧ PW K ad P S1 L f2 ∧ S1.2.2.1 = n ∧ Kp ad P L f0 f2)) [.ref (ad 0 0), .int p1, .int p2].toArray s 0 0 (fun q => b0 ≤ q)) 0 0 2 [(0, .ref (ad 0 0)), (1, .int a1), (2, .int a2), (3, .int a3)] [] S) (a1 : Int32) (a2 : Int32) (a3 : Int32) (t0 : Int32) (S : fS), B_X6_paysByLots_52 k2 a1 a2 a3 t0 S = some (v, S1) → Gw D K b0 sa ad P n L f0 p l e { frames := 1, cells := 0, slots := 0, locals := 23 } s m [.ref (ad 0 0), .int p1, .int p2].toArray below meth c 5 (MQ below (hQ D K b0 (fun v9 u9 => ∃ f2 : Nat → va_E, v9 = some (.int v) ∧ u9 = lU L f2 ∧ PW K ad P S1 L f2 ∧ S1.2.2.1 = n ∧ Kp ad P L f0 f2)) [.ref (ad 0 0), .int p1, .int p2].toArray s 0 0 (fun q => b0 ≤ q)) 0 0 52 [(0, .ref (ad 0 0)), (1, .int a1), (2, .int a2), (3, .int a3)] [.int t0] S := by
    intro k2 hk2 a1 a2 a3 t0 S h
    dsimp only [B_X6_paysByLots_52] at h
    intro f H locs w hw hn hk ls hl
    refine lv_iload_n hx hb dX6_paysByLots_52 rfl (lv_at hl 2 rfl) ?_
    refine lv_icmp_eq (tgt := 66) hx hb dX6_paysByLots_53 (by decide) (fun c1 => ?_) (fun c1 => ?_)
    · have h := bb_t h c1
      obtain ⟨x2, ex2, h⟩ := iv_some h
      refine lv_iinc (v := x2) (lv' := [(3, .int x2), (0, .ref (ad 0 0)), (1, .int a1), (2, .int a2)]) hx hb dX6_paysByLots_66 hl (k := 3) rfl ex2.symm (by decide) rfl (fun ls hl => ?_)
      refine lv_goto (tgt := 2) hx hb dX6_paysByLots_69 (by decide) ?_
      exact hk2 a1 a2 x2 S h f H locs w hw hn hk ls (lv_sub hl [1, 2, 3, 0] rfl)
    · have h := bb_f h c1
      refine lv_iload_n hx hb dX6_paysByLots_56 rfl (lv_at hl 2 rfl) ?_
      refine lv_if_ne (tgt := 64) hx hb dX6_paysByLots_57 (by decide) (fun c3 => ?_) (fun c3 => ?_)
      · have h := bb_f h c3
        refine lv_iconst (v := 0) hx hb dX6_paysByLots_64 (by decide) ?_
        exact t_zret C hr hlk w (by decide) ⟨_, so_v h, rfl, so_w h hw, so_n h hn, hk⟩ (by decide) (by decide) dX6_paysByLots_65
      · have h := bb_t h c3
        refine lv_iconst (v := 1) hx hb dX6_paysByLots_60 (by decide) ?_
        refine lv_goto (tgt := 65) hx hb dX6_paysByLots_61 (by decide) ?_
        exact t_zret C hr hlk w (by decide) ⟨_, so_v h, rfl, so_w h hw, so_n h hn, hk⟩ (by decide) (by decide) dX6_paysByLots_65
  have J2 : ∀ (fu : Nat) (a1 : Int32) (a2 : Int32) (a3 : Int32) (S : fS), lp (B_X6_paysByLots_2 ) fu (a1, a2, a3) S = some (v, S1) → Gw D K b0 sa ad P n L f0 p l e { frames := 1, cells := 0, slots := 0, locals := 23 } s m [.ref (ad 0 0), .int p1, .int p2].toArray below meth c 5 (MQ below (hQ D K b0 (fun v9 u9 => ∃ f2 : Nat → va_E, v9 = some (.int v) ∧ u9 = lU L f2 ∧ PW K ad P S1 L f2 ∧ S1.2.2.1 = n ∧ Kp ad P L f0 f2)) [.ref (ad 0 0), .int p1, .int p2].toArray s 0 0 (fun q => b0 ≤ q)) 0 0 2 [(0, .ref (ad 0 0)), (1, .int a1), (2, .int a2), (3, .int a3)] [] S := by
    intro fu a1 a2 a3 S h
    refine lp_some (G := (fun q S => Gw D K b0 sa ad P n L f0 p l e { frames := 1, cells := 0, slots := 0, locals := 23 } s m [.ref (ad 0 0), .int p1, .int p2].toArray below meth c 5 (MQ below (hQ D K b0 (fun v9 u9 => ∃ f2 : Nat → va_E, v9 = some (.int v) ∧ u9 = lU L f2 ∧ PW K ad P S1 L f2 ∧ S1.2.2.1 = n ∧ Kp ad P L f0 f2)) [.ref (ad 0 0), .int p1, .int p2].toArray s 0 0 (fun q => b0 ≤ q)) 0 0 2 [(0, .ref (ad 0 0)), (1, .int q.1), (2, .int q.2.1), (3, .int q.2.2)] [] S)) (fun k2 hk2 q S h => ?_) fu (a1, a2, a3) S h
    obtain ⟨a1, a2, a3⟩ := q
    have hk2 : ∀ (a1 : Int32) (a2 : Int32) (a3 : Int32) (S : fS), k2 (a1, a2, a3) S = some (v, S1) → Gw D K b0 sa ad P n L f0 p l e { frames := 1, cells := 0, slots := 0, locals := 23 } s m [.ref (ad 0 0), .int p1, .int p2].toArray below meth c 5 (MQ below (hQ D K b0 (fun v9 u9 => ∃ f2 : Nat → va_E, v9 = some (.int v) ∧ u9 = lU L f2 ∧ PW K ad P S1 L f2 ∧ S1.2.2.1 = n ∧ Kp ad P L f0 f2)) [.ref (ad 0 0), .int p1, .int p2].toArray s 0 0 (fun q => b0 ≤ q)) 0 0 2 [(0, .ref (ad 0 0)), (1, .int a1), (2, .int a2), (3, .int a3)] [] S := fun a1 a2 a3 S h => hk2 (a1, a2, a3) S h
    dsimp only [B_X6_paysByLots_2] at h
    intro f H locs w hw hn hk ls hl
    refine lv_iload_n hx hb dX6_paysByLots_2 rfl (lv_at hl 3 rfl) ?_
    refine lv_iload_n hx hb dX6_paysByLots_3 rfl (lv_at hl 1 rfl) ?_
    refine lv_icmp_ge (tgt := 72) hx hb dX6_paysByLots_4 (by decide) (fun c4 => ?_) (fun c4 => ?_)
    · have h := bb_t h c4
      refine lv_iload_n hx hb dX6_paysByLots_72 rfl (lv_at hl 2 rfl) ?_
      obtain ⟨g5, h⟩ := gd_some h
      exact t_zret C hr hlk w (narb g5) ⟨_, so_v h, rfl, so_w h hw, so_n h hn, hk⟩ (by decide) (by decide) dX6_paysByLots_73
    · have h := bb_f h c4
      refine lv_iload_n hx hb dX6_paysByLots_7 rfl (lv_at hl 3 rfl) ?_
      refine lv_bipush (v := 36) hx hb dX6_paysByLots_8 (by decide) ?_
      refine lv_icmp_ge (tgt := 72) hx hb dX6_paysByLots_10 (by decide) (fun c6 => ?_) (fun c6 => ?_)
      · have h := bb_t h c6
        refine lv_iload_n hx hb dX6_paysByLots_72 rfl (lv_at hl 2 rfl) ?_
        obtain ⟨g7, h⟩ := gd_some h
        exact t_zret C hr hlk w (narb g7) ⟨_, so_v h, rfl, so_w h hw, so_n h hn, hk⟩ (by decide) (by decide) dX6_paysByLots_73
      · have h := bb_f h c6
        refine lv_aload_n hx hb dX6_paysByLots_13 rfl (lv_at hl 0 rfl) ?_
        refine u_getr C w hw (hP _ _ (isn_f rfl rfl (by decide))) rfl (N := 18) rfl rfl cin_6 15 (by decide) (by decide) (a2 := 25) (i2 := 0) rfl gw_302 dX6_paysByLots_14 ?_
        refine lv_aload_n hx hb dX6_paysByLots_17 rfl (lv_at hl 0 rfl) ?_
        refine u_getr C w hw (hP _ _ (isn_f rfl rfl (by decide))) rfl (N := 18) rfl rfl cin_6 16 (by decide) (by decide) (a2 := 27) (i2 := 0) rfl gw_303 dX6_paysByLots_18 ?_
        refine lv_iload_n hx hb dX6_paysByLots_21 rfl (lv_at hl 3 rfl) ?_
        obtain ⟨g8, h⟩ := gd_some h
        refine u_iald C w hw (hP _ _ (isn_f rfl rfl (by decide))) rfl rfl (n := 36) rfl (vp_in_iff.mpr g8) dX6_paysByLots_22 ?_
        refine u_iv h (fun x9 h => ?_)
        refine lv_aload_n hx hb dX6_paysByLots_23 rfl (lv_at hl 0 rfl) ?_
        refine u_getr C w hw (hP _ _ (isn_f rfl rfl (by decide))) rfl (N := 18) rfl rfl cin_6 17 (by decide) (by decide) (a2 := 28) (i2 := 0) rfl gw_304 dX6_paysByLots_24 ?_
        refine lv_iload_n hx hb dX6_paysByLots_27 rfl (lv_at hl 3 rfl) ?_
        obtain ⟨g10, h⟩ := gd_some h
        refine u_iald C w hw (hP _ _ (isn_f rfl rfl (by decide))) rfl rfl (n := 36) rfl (vp_in_iff.mpr g10) dX6_paysByLots_28 ?_
        refine u_iv h (fun x11 h => ?_)
        obtain ⟨v12, S13, h14, h⟩ := bd_some h
        refine u_callV (n := 2) C w hw (hP _ _ (isn_t25 hprobe)) rfl rfl rfl (c_X5_failingStep l D K b0 sa _ L _ ad P hP S hw hn 0 hprobe x9 x11 v12 S13 h14) gw_467 gw_464 gw_465 gw_466 gw_7 ⟨by decide, by decide, by decide +kernel⟩ rfl rfl ⟨by decide, by decide⟩ rfl hl.1 rfl (Nat.le_of_ble_eq_true rfl) dX6_paysByLots_29 ⟨Nat.le_of_ble_eq_true rfl, Nat.le_of_ble_eq_true rfl⟩ (fun v9 u H locs hp w => ?_)
        obtain ⟨f2, rfl, rfl, hw, hn, hk1⟩ := hp
        have hk := hk.tr hk1
        generalize f2 = f at w hw hk
        refine lv_istore (lv' := [(4, .int v12), (0, .ref (ad 0 0)), (1, .int a1), (2, .int a2), (3, .int a3)]) hx hb dX6_paysByLots_32 hl (by decide) rfl (fun ls hl => ?_)
        refine lv_aload_n hx hb dX6_paysByLots_34 rfl (lv_at hl 1 rfl) ?_
        refine u_getr C w hw (hP _ _ (isn_f rfl rfl (by decide))) rfl (N := 18) rfl rfl cin_6 15 (by decide) (by decide) (a2 := 25) (i2 := 0) rfl gw_302 dX6_paysByLots_35 ?_
        refine lv_iload hx hb dX6_paysByLots_38 (lv_at hl 0 rfl) ?_
        obtain ⟨v15, S16, h17, h⟩ := bd_some h
        refine u_callV (n := 1) C w hw (hP _ _ (isn_t25 hprobe)) rfl rfl rfl (c_X5_outcomeAt l D K b0 sa _ L _ ad P hP S13 hw hn 0 hprobe v12 v15 S16 h17) gw_471 gw_468 gw_469 gw_470 gw_7 ⟨by decide, by decide, by decide +kernel⟩ rfl rfl ⟨by decide, by decide⟩ rfl hl.1 rfl (Nat.le_of_ble_eq_true rfl) dX6_paysByLots_40 ⟨Nat.le_of_ble_eq_true rfl, Nat.le_of_ble_eq_true rfl⟩ (fun v9 u H locs hp w => ?_)
        obtain ⟨f2, rfl, rfl, hw, hn, hk1⟩ := hp
        have hk := hk.tr hk1
        generalize f2 = f at w hw hk
        refine lv_iconst (v := 5) hx hb dX6_paysByLots_43 (by decide) ?_
        refine lv_icmp_ne (tgt := 51) hx hb dX6_paysByLots_44 (by decide) (fun c18 => ?_) (fun c18 => ?_)
        · have h := bb_f h c18
          refine lv_iconst (v := 0) hx hb dX6_paysByLots_51 (by decide) ?_
          exact J52 k2 hk2 a1 a2 a3 0 S16 h f H locs w hw hn hk ls (lv_sub hl [1, 2, 3, 4] rfl)
        · have h := bb_t h c18
          refine lv_iconst (v := 1) hx hb dX6_paysByLots_47 (by decide) ?_
          refine lv_goto (tgt := 52) hx hb dX6_paysByLots_48 (by decide) ?_
          exact J52 k2 hk2 a1 a2 a3 1 S16 h f H locs w hw hn hk ls (lv_sub hl [1, 2, 3, 4] rfl)
  dsimp only [F_X6_paysByLots] at h
  obtain ⟨f, ef⟩ : ∃ z, z = f0 := ⟨_, rfl⟩
  rw [← ef] at w hw
  have hk : Kp ad P L f0 f := by rw [ef]; exact Kp.rf
  obtain ⟨H, eH⟩ : ∃ z, z = s.heap := ⟨_, rfl⟩
  obtain ⟨locs, el⟩ : ∃ z : List Loc, z = [] := ⟨_, rfl⟩
  rw [← eH, ← el] at w ⊢
  refine lv_iconst (v := 0) hx hb dX6_paysByLots_0 (by decide) ?_
  refine lv_istore_n (lv' := [(3, .int 0), (0, .ref (ad 0 0)), (1, .int p1), (2, .int p2)]) hx hb dX6_paysByLots_1 rfl hl (by decide) rfl (fun ls hl => ?_)
  exact J2  fuel p1 p2 0 S0 h f H locs w hw hn hk ls (lv_sub hl [1, 2, 3, 0] rfl)
theorem dX6_weightAt_0 : decode cX6_weightAt 0 = .ok (.iload_n 0, 1) := by decide +kernel
theorem dX6_weightAt_1 : decode cX6_weightAt 1 = .ok (.iconst 3, 1) := by decide +kernel
theorem dX6_weightAt_2 : decode cX6_weightAt 2 = .ok (.bipush 8, 2) := by decide +kernel
theorem dX6_weightAt_4 : decode cX6_weightAt 4 = .ok (.iload_n 1, 1) := by decide +kernel
theorem dX6_weightAt_5 : decode cX6_weightAt 5 = .ok (.isub, 1) := by decide +kernel
theorem dX6_weightAt_6 : decode cX6_weightAt 6 = .ok (.imul, 1) := by decide +kernel
theorem dX6_weightAt_7 : decode cX6_weightAt 7 = .ok (.ishr, 1) := by decide +kernel
theorem dX6_weightAt_8 : decode cX6_weightAt 8 = .ok (.bipush 7, 2) := by decide +kernel
theorem dX6_weightAt_10 : decode cX6_weightAt 10 = .ok (.iand, 1) := by decide +kernel
theorem dX6_weightAt_11 : decode cX6_weightAt 11 = .ok (.ireturn, 1) := by decide +kernel
noncomputable def F_X6_weightAt (p0 : Int32) (p1 : Int32) (S0 : fS) : Option (Int32 × fS) := iv ((8 : Int32) - p1) (fun x1 => iv ((3 : Int32) * x1) (fun x2 => iv (p0 >>> (x2 &&& 31)) (fun x3 => iv (x3 &&& (7 : Int32)) (fun x4 => some (x4, S0)))))
set_option maxHeartbeats 4000000 in
set_option maxRecDepth 100000 in
theorem c_X6_weightAt (l : Launch) (D : va_G) (K : Nat → ClassId) (b0 : Nat) (sa : sT) (sz : Nat) (L : List Nat) (f0 : Nat → va_E) (ad : Nat → Nat → Nat) (P : Nat → Nat → Prop) {n : Nat × Nat} (hP : ∀ a i : Nat, isn n a i → P a i) (S0 : fS) (hw : PW K ad P S0 L f0) (hn : S0.2.2.1 = n) (p0 : Int32) (p1 : Int32) (v : Int32) (S1 : fS) (h : F_X6_weightAt p0 p1 S0 = some (v, S1)) : Met l yX6_weightAt (.code yX6_weightAt cX6_weightAt 2 (some .int) :: gt) { frames := 0, cells := 0, slots := 0, locals := 0 } (va_Pc [.int p0, .int p1] (hPre D K b0 sa sz L f0)) (hQ D K b0 (fun v9 u9 => ∃ f2 : Nat → va_E, v9 = some (.int v) ∧ u9 = lU L f2 ∧ PW K ad P S1 L f2 ∧ S1.2.2.1 = n ∧ Kp ad P L f0 f2)) 0 0 (fun q => b0 ≤ q) := by
  refine t_of (own := RX6) (by decide) rfl ?_ (Nat.le_of_ble_eq_true rfl)
  intro p e s m below meth c ls C w hsz hr hlk hnm hl
  have hx := C.1
  have hb := C.2.1
  have hl : lv_has ls 2 [(0, .int p0), (1, .int p1)] := hl
  dsimp only [F_X6_weightAt] at h
  obtain ⟨f, ef⟩ : ∃ z, z = f0 := ⟨_, rfl⟩
  rw [← ef] at w hw
  have hk : Kp ad P L f0 f := by rw [ef]; exact Kp.rf
  obtain ⟨H, eH⟩ : ∃ z, z = s.heap := ⟨_, rfl⟩
  obtain ⟨locs, el⟩ : ∃ z : List Loc, z = [] := ⟨_, rfl⟩
  rw [← eH, ← el] at w ⊢
  refine lv_iload_n hx hb dX6_weightAt_0 rfl (lv_at hl 0 rfl) ?_
  refine lv_iconst (v := 3) hx hb dX6_weightAt_1 (by decide) ?_
  refine lv_bipush (v := 8) hx hb dX6_weightAt_2 (by decide) ?_
  refine lv_iload_n hx hb dX6_weightAt_4 rfl (lv_at hl 1 rfl) ?_
  refine lv_isub hx hb dX6_weightAt_5 ?_
  refine u_iv h (fun x1 h => ?_)
  refine lv_imul hx hb dX6_weightAt_6 ?_
  refine u_iv h (fun x2 h => ?_)
  refine lv_ishr hx hb dX6_weightAt_7 ?_
  refine u_iv h (fun x3 h => ?_)
  refine lv_bipush (v := 7) hx hb dX6_weightAt_8 (by decide) ?_
  refine lv_iand hx hb dX6_weightAt_10 ?_
  refine u_iv h (fun x4 h => ?_)
  exact t_iret C hr hlk w ⟨_, so_v h, rfl, so_w h hw, so_n h hn, hk⟩ (by decide) (by decide) dX6_weightAt_11
theorem dX6_allWeights_0 : decode cX6_allWeights 0 = .ok (.iconst 0, 1) := by decide +kernel
theorem dX6_allWeights_1 : decode cX6_allWeights 1 = .ok (.istore_n 1, 1) := by decide +kernel
theorem dX6_allWeights_2 : decode cX6_allWeights 2 = .ok (.iconst 0, 1) := by decide +kernel
theorem dX6_allWeights_3 : decode cX6_allWeights 3 = .ok (.istore_n 2, 1) := by decide +kernel
theorem dX6_allWeights_4 : decode cX6_allWeights 4 = .ok (.iload_n 2, 1) := by decide +kernel
theorem dX6_allWeights_5 : decode cX6_allWeights 5 = .ok (.bipush 9, 2) := by decide +kernel
theorem dX6_allWeights_7 : decode cX6_allWeights 7 = .ok (.if_icmp .ge 17, 3) := by decide +kernel
theorem dX6_allWeights_10 : decode cX6_allWeights 10 = .ok (.iload_n 1, 1) := by decide +kernel
theorem dX6_allWeights_11 : decode cX6_allWeights 11 = .ok (.iload_n 0, 1) := by decide +kernel
theorem dX6_allWeights_12 : decode cX6_allWeights 12 = .ok (.iload_n 2, 1) := by decide +kernel
theorem dX6_allWeights_13 : decode cX6_allWeights 13 = .ok (.invokestatic 219, 3) := by decide +kernel
theorem dX6_allWeights_16 : decode cX6_allWeights 16 = .ok (.iadd, 1) := by decide +kernel
theorem dX6_allWeights_17 : decode cX6_allWeights 17 = .ok (.istore_n 1, 1) := by decide +kernel
theorem dX6_allWeights_18 : decode cX6_allWeights 18 = .ok (.iinc 2 1, 3) := by decide +kernel
theorem dX6_allWeights_21 : decode cX6_allWeights 21 = .ok (.goto (-17), 3) := by decide +kernel
theorem dX6_allWeights_24 : decode cX6_allWeights 24 = .ok (.iload_n 1, 1) := by decide +kernel
theorem dX6_allWeights_25 : decode cX6_allWeights 25 = .ok (.ireturn, 1) := by decide +kernel
noncomputable def B_X6_allWeights_4 (k4 : (Int32 × Int32 × Int32) → fS → Option (Int32 × fS)) : (Int32 × Int32 × Int32) → fS → Option (Int32 × fS) := fun ⟨a0, a1, a2⟩ S => bb ((9 : Int32) ≤ a2) (some (a1, S)) (bd (F_X6_weightAt a0 a2 S) (fun v2 S3 => iv (a1 + v2) (fun x5 => iv (a2 + Int32.ofInt 1) (fun x6 => k4 (a0, x5, x6) S3))))
noncomputable def F_X6_allWeights (p0 : Int32) (S0 : fS) : Option (Int32 × fS) := lp (B_X6_allWeights_4 ) fuel (p0, 0, 0) S0
set_option maxHeartbeats 4000000 in
set_option maxRecDepth 100000 in
theorem c_X6_allWeights (l : Launch) (D : va_G) (K : Nat → ClassId) (b0 : Nat) (sa : sT) (sz : Nat) (L : List Nat) (f0 : Nat → va_E) (ad : Nat → Nat → Nat) (P : Nat → Nat → Prop) {n : Nat × Nat} (hP : ∀ a i : Nat, isn n a i → P a i) (S0 : fS) (hw : PW K ad P S0 L f0) (hn : S0.2.2.1 = n) (p0 : Int32) (v : Int32) (S1 : fS) (h : F_X6_allWeights p0 S0 = some (v, S1)) : Met l yX6_allWeights (.code yX6_allWeights cX6_allWeights 3 (some .int) :: gt) { frames := 1, cells := 0, slots := 0, locals := 21 } (va_Pc [.int p0] (hPre D K b0 sa sz L f0)) (hQ D K b0 (fun v9 u9 => ∃ f2 : Nat → va_E, v9 = some (.int v) ∧ u9 = lU L f2 ∧ PW K ad P S1 L f2 ∧ S1.2.2.1 = n ∧ Kp ad P L f0 f2)) 0 0 (fun q => b0 ≤ q) := by
  refine t_of (own := RX6) (by decide) rfl ?_ (Nat.le_of_ble_eq_true rfl)
  intro p e s m below meth c ls C w hsz hr hlk hnm hl
  have hx := C.1
  have hb := C.2.1
  have hl : lv_has ls 3 [(0, .int p0)] := hl
  have J4 : ∀ (fu : Nat) (a0 : Int32) (a1 : Int32) (a2 : Int32) (S : fS), lp (B_X6_allWeights_4 ) fu (a0, a1, a2) S = some (v, S1) → Gw D K b0 sa ad P n L f0 p l e { frames := 1, cells := 0, slots := 0, locals := 21 } s m [.int p0].toArray below meth c 3 (MQ below (hQ D K b0 (fun v9 u9 => ∃ f2 : Nat → va_E, v9 = some (.int v) ∧ u9 = lU L f2 ∧ PW K ad P S1 L f2 ∧ S1.2.2.1 = n ∧ Kp ad P L f0 f2)) [.int p0].toArray s 0 0 (fun q => b0 ≤ q)) 0 0 4 [(0, .int a0), (1, .int a1), (2, .int a2)] [] S := by
    intro fu a0 a1 a2 S h
    refine lp_some (G := (fun q S => Gw D K b0 sa ad P n L f0 p l e { frames := 1, cells := 0, slots := 0, locals := 21 } s m [.int p0].toArray below meth c 3 (MQ below (hQ D K b0 (fun v9 u9 => ∃ f2 : Nat → va_E, v9 = some (.int v) ∧ u9 = lU L f2 ∧ PW K ad P S1 L f2 ∧ S1.2.2.1 = n ∧ Kp ad P L f0 f2)) [.int p0].toArray s 0 0 (fun q => b0 ≤ q)) 0 0 4 [(0, .int q.1), (1, .int q.2.1), (2, .int q.2.2)] [] S)) (fun k4 hk4 q S h => ?_) fu (a0, a1, a2) S h
    obtain ⟨a0, a1, a2⟩ := q
    have hk4 : ∀ (a0 : Int32) (a1 : Int32) (a2 : Int32) (S : fS), k4 (a0, a1, a2) S = some (v, S1) → Gw D K b0 sa ad P n L f0 p l e { frames := 1, cells := 0, slots := 0, locals := 21 } s m [.int p0].toArray below meth c 3 (MQ below (hQ D K b0 (fun v9 u9 => ∃ f2 : Nat → va_E, v9 = some (.int v) ∧ u9 = lU L f2 ∧ PW K ad P S1 L f2 ∧ S1.2.2.1 = n ∧ Kp ad P L f0 f2)) [.int p0].toArray s 0 0 (fun q => b0 ≤ q)) 0 0 4 [(0, .int a0), (1, .int a1), (2, .int a2)] [] S := fun a0 a1 a2 S h => hk4 (a0, a1, a2) S h
    dsimp only [B_X6_allWeights_4] at h
    intro f H locs w hw hn hk ls hl
    refine lv_iload_n hx hb dX6_allWeights_4 rfl (lv_at hl 2 rfl) ?_
    refine lv_bipush (v := 9) hx hb dX6_allWeights_5 (by decide) ?_
    refine lv_icmp_ge (tgt := 24) hx hb dX6_allWeights_7 (by decide) (fun c1 => ?_) (fun c1 => ?_)
    · have h := bb_t h c1
      refine lv_iload_n hx hb dX6_allWeights_24 rfl (lv_at hl 1 rfl) ?_
      exact t_iret C hr hlk w ⟨_, so_v h, rfl, so_w h hw, so_n h hn, hk⟩ (by decide) (by decide) dX6_allWeights_25
    · have h := bb_f h c1
      refine lv_iload_n hx hb dX6_allWeights_10 rfl (lv_at hl 1 rfl) ?_
      refine lv_iload_n hx hb dX6_allWeights_11 rfl (lv_at hl 0 rfl) ?_
      refine lv_iload_n hx hb dX6_allWeights_12 rfl (lv_at hl 2 rfl) ?_
      obtain ⟨v2, S3, h4, h⟩ := bd_some h
      refine t_callS (n := 2) C w (c_X6_weightAt l D K b0 sa _ L _ ad P hP S hw hn a0 a2 v2 S3 h4) gw_1011 gw_1009 gw_1010 gw_1 ⟨by decide, by decide, by decide +kernel⟩ rfl rfl ⟨by decide, by decide⟩ rfl hl.1 rfl (Nat.le_of_ble_eq_true rfl) dX6_allWeights_13 ⟨Nat.le_of_ble_eq_true rfl, Nat.le_of_ble_eq_true rfl⟩ (fun v9 u H locs hp w => ?_)
      obtain ⟨f2, rfl, rfl, hw, hn, hk1⟩ := hp
      have hk := hk.tr hk1
      generalize f2 = f at w hw hk
      refine lv_iadd hx hb dX6_allWeights_16 ?_
      refine u_iv h (fun x5 h => ?_)
      refine lv_istore_n (lv' := [(1, .int x5), (0, .int a0), (2, .int a2)]) hx hb dX6_allWeights_17 rfl hl (by decide) rfl (fun ls hl => ?_)
      obtain ⟨x6, ex6, h⟩ := iv_some h
      refine lv_iinc (v := x6) (lv' := [(2, .int x6), (1, .int x5), (0, .int a0)]) hx hb dX6_allWeights_18 hl (k := 2) rfl ex6.symm (by decide) rfl (fun ls hl => ?_)
      refine lv_goto (tgt := 4) hx hb dX6_allWeights_21 (by decide) ?_
      exact hk4 a0 x5 x6 S3 h f H locs w hw hn hk ls (lv_sub hl [2, 1, 0] rfl)
  dsimp only [F_X6_allWeights] at h
  obtain ⟨f, ef⟩ : ∃ z, z = f0 := ⟨_, rfl⟩
  rw [← ef] at w hw
  have hk : Kp ad P L f0 f := by rw [ef]; exact Kp.rf
  obtain ⟨H, eH⟩ : ∃ z, z = s.heap := ⟨_, rfl⟩
  obtain ⟨locs, el⟩ : ∃ z : List Loc, z = [] := ⟨_, rfl⟩
  rw [← eH, ← el] at w ⊢
  refine lv_iconst (v := 0) hx hb dX6_allWeights_0 (by decide) ?_
  refine lv_istore_n (lv' := [(1, .int 0), (0, .int p0)]) hx hb dX6_allWeights_1 rfl hl (by decide) rfl (fun ls hl => ?_)
  refine lv_iconst (v := 0) hx hb dX6_allWeights_2 (by decide) ?_
  refine lv_istore_n (lv' := [(2, .int 0), (1, .int 0), (0, .int p0)]) hx hb dX6_allWeights_3 rfl hl (by decide) rfl (fun ls hl => ?_)
  exact J4  fuel p0 0 0 S0 h f H locs w hw hn hk ls (lv_sub hl [2, 1, 0] rfl)
theorem dX6_cellReached_0 : decode cX6_cellReached 0 = .ok (.iload_n 0, 1) := by decide +kernel
theorem dX6_cellReached_1 : decode cX6_cellReached 1 = .ok (.bipush 8, 2) := by decide +kernel
theorem dX6_cellReached_3 : decode cX6_cellReached 3 = .ok (.irem, 1) := by decide +kernel
theorem dX6_cellReached_4 : decode cX6_cellReached 4 = .ok (.iload_n 1, 1) := by decide +kernel
theorem dX6_cellReached_5 : decode cX6_cellReached 5 = .ok (.iconst 3, 1) := by decide +kernel
theorem dX6_cellReached_6 : decode cX6_cellReached 6 = .ok (.irem, 1) := by decide +kernel
theorem dX6_cellReached_7 : decode cX6_cellReached 7 = .ok (.iadd, 1) := by decide +kernel
theorem dX6_cellReached_8 : decode cX6_cellReached 8 = .ok (.iconst 1, 1) := by decide +kernel
theorem dX6_cellReached_9 : decode cX6_cellReached 9 = .ok (.isub, 1) := by decide +kernel
theorem dX6_cellReached_10 : decode cX6_cellReached 10 = .ok (.istore_n 2, 1) := by decide +kernel
theorem dX6_cellReached_11 : decode cX6_cellReached 11 = .ok (.iload_n 0, 1) := by decide +kernel
theorem dX6_cellReached_12 : decode cX6_cellReached 12 = .ok (.bipush 8, 2) := by decide +kernel
theorem dX6_cellReached_14 : decode cX6_cellReached 14 = .ok (.idiv, 1) := by decide +kernel
theorem dX6_cellReached_15 : decode cX6_cellReached 15 = .ok (.iload_n 1, 1) := by decide +kernel
theorem dX6_cellReached_16 : decode cX6_cellReached 16 = .ok (.iconst 3, 1) := by decide +kernel
theorem dX6_cellReached_17 : decode cX6_cellReached 17 = .ok (.idiv, 1) := by decide +kernel
theorem dX6_cellReached_18 : decode cX6_cellReached 18 = .ok (.iadd, 1) := by decide +kernel
theorem dX6_cellReached_19 : decode cX6_cellReached 19 = .ok (.iconst 1, 1) := by decide +kernel
theorem dX6_cellReached_20 : decode cX6_cellReached 20 = .ok (.isub, 1) := by decide +kernel
theorem dX6_cellReached_21 : decode cX6_cellReached 21 = .ok (.istore_n 3, 1) := by decide +kernel
theorem dX6_cellReached_22 : decode cX6_cellReached 22 = .ok (.bipush 8, 2) := by decide +kernel
theorem dX6_cellReached_24 : decode cX6_cellReached 24 = .ok (.iconst 0, 1) := by decide +kernel
theorem dX6_cellReached_25 : decode cX6_cellReached 25 = .ok (.bipush 7, 2) := by decide +kernel
theorem dX6_cellReached_27 : decode cX6_cellReached 27 = .ok (.iload_n 3, 1) := by decide +kernel
theorem dX6_cellReached_28 : decode cX6_cellReached 28 = .ok (.invokestatic 300, 3) := by decide +kernel
theorem dX6_cellReached_31 : decode cX6_cellReached 31 = .ok (.invokestatic 303, 3) := by decide +kernel
theorem dX6_cellReached_34 : decode cX6_cellReached 34 = .ok (.imul, 1) := by decide +kernel
theorem dX6_cellReached_35 : decode cX6_cellReached 35 = .ok (.iconst 0, 1) := by decide +kernel
theorem dX6_cellReached_36 : decode cX6_cellReached 36 = .ok (.bipush 7, 2) := by decide +kernel
theorem dX6_cellReached_38 : decode cX6_cellReached 38 = .ok (.iload_n 2, 1) := by decide +kernel
theorem dX6_cellReached_39 : decode cX6_cellReached 39 = .ok (.invokestatic 300, 3) := by decide +kernel
theorem dX6_cellReached_42 : decode cX6_cellReached 42 = .ok (.invokestatic 303, 3) := by decide +kernel
theorem dX6_cellReached_45 : decode cX6_cellReached 45 = .ok (.iadd, 1) := by decide +kernel
theorem dX6_cellReached_46 : decode cX6_cellReached 46 = .ok (.ireturn, 1) := by decide +kernel
noncomputable def F_X6_cellReached (p0 : Int32) (p1 : Int32) (S0 : fS) : Option (Int32 × fS) := iv (p0 - p0 / (8 : Int32) * (8 : Int32)) (fun x1 => iv (p1 - p1 / (3 : Int32) * (3 : Int32)) (fun x2 => iv (x1 + x2) (fun x3 => iv (x3 - (1 : Int32)) (fun x4 => iv (p0 / (8 : Int32)) (fun x5 => iv (p1 / (3 : Int32)) (fun x6 => iv (x5 + x6) (fun x7 => iv (x7 - (1 : Int32)) (fun x8 => iv ((if x8 < (7 : Int32) then x8 else (7 : Int32))) (fun x9 => iv ((if (0 : Int32) < x9 then x9 else (0 : Int32))) (fun x10 => iv ((8 : Int32) * x10) (fun x11 => iv ((if x4 < (7 : Int32) then x4 else (7 : Int32))) (fun x12 => iv ((if (0 : Int32) < x12 then x12 else (0 : Int32))) (fun x13 => iv (x11 + x13) (fun x14 => some (x14, S0)))))))))))))))
set_option maxHeartbeats 4000000 in
set_option maxRecDepth 100000 in
theorem c_X6_cellReached (l : Launch) (D : va_G) (K : Nat → ClassId) (b0 : Nat) (sa : sT) (sz : Nat) (L : List Nat) (f0 : Nat → va_E) (ad : Nat → Nat → Nat) (P : Nat → Nat → Prop) {n : Nat × Nat} (hP : ∀ a i : Nat, isn n a i → P a i) (S0 : fS) (hw : PW K ad P S0 L f0) (hn : S0.2.2.1 = n) (p0 : Int32) (p1 : Int32) (v : Int32) (S1 : fS) (h : F_X6_cellReached p0 p1 S0 = some (v, S1)) : Met l yX6_cellReached (.code yX6_cellReached cX6_cellReached 4 (some .int) :: gt) { frames := 1, cells := 0, slots := 0, locals := 21 } (va_Pc [.int p0, .int p1] (hPre D K b0 sa sz L f0)) (hQ D K b0 (fun v9 u9 => ∃ f2 : Nat → va_E, v9 = some (.int v) ∧ u9 = lU L f2 ∧ PW K ad P S1 L f2 ∧ S1.2.2.1 = n ∧ Kp ad P L f0 f2)) 0 0 (fun q => b0 ≤ q) := by
  refine t_of (own := RX6) (by decide) rfl ?_ (Nat.le_of_ble_eq_true rfl)
  intro p e s m below meth c ls C w hsz hr hlk hnm hl
  have hx := C.1
  have hb := C.2.1
  have hl : lv_has ls 4 [(0, .int p0), (1, .int p1)] := hl
  dsimp only [F_X6_cellReached] at h
  obtain ⟨f, ef⟩ : ∃ z, z = f0 := ⟨_, rfl⟩
  rw [← ef] at w hw
  have hk : Kp ad P L f0 f := by rw [ef]; exact Kp.rf
  obtain ⟨H, eH⟩ : ∃ z, z = s.heap := ⟨_, rfl⟩
  obtain ⟨locs, el⟩ : ∃ z : List Loc, z = [] := ⟨_, rfl⟩
  rw [← eH, ← el] at w ⊢
  refine lv_iload_n hx hb dX6_cellReached_0 rfl (lv_at hl 0 rfl) ?_
  refine lv_bipush (v := 8) hx hb dX6_cellReached_1 (by decide) ?_
  refine lv_irem hx hb dX6_cellReached_3 (by decide) ?_
  refine u_iv h (fun x1 h => ?_)
  refine lv_iload_n hx hb dX6_cellReached_4 rfl (lv_at hl 1 rfl) ?_
  refine lv_iconst (v := 3) hx hb dX6_cellReached_5 (by decide) ?_
  refine lv_irem hx hb dX6_cellReached_6 (by decide) ?_
  refine u_iv h (fun x2 h => ?_)
  refine lv_iadd hx hb dX6_cellReached_7 ?_
  refine u_iv h (fun x3 h => ?_)
  refine lv_iconst (v := 1) hx hb dX6_cellReached_8 (by decide) ?_
  refine lv_isub hx hb dX6_cellReached_9 ?_
  refine u_iv h (fun x4 h => ?_)
  refine lv_istore_n (lv' := [(2, .int x4), (0, .int p0), (1, .int p1)]) hx hb dX6_cellReached_10 rfl hl (by decide) rfl (fun ls hl => ?_)
  refine lv_iload_n hx hb dX6_cellReached_11 rfl (lv_at hl 1 rfl) ?_
  refine lv_bipush (v := 8) hx hb dX6_cellReached_12 (by decide) ?_
  refine lv_idiv hx hb dX6_cellReached_14 (by decide) ?_
  refine u_iv h (fun x5 h => ?_)
  refine lv_iload_n hx hb dX6_cellReached_15 rfl (lv_at hl 2 rfl) ?_
  refine lv_iconst (v := 3) hx hb dX6_cellReached_16 (by decide) ?_
  refine lv_idiv hx hb dX6_cellReached_17 (by decide) ?_
  refine u_iv h (fun x6 h => ?_)
  refine lv_iadd hx hb dX6_cellReached_18 ?_
  refine u_iv h (fun x7 h => ?_)
  refine lv_iconst (v := 1) hx hb dX6_cellReached_19 (by decide) ?_
  refine lv_isub hx hb dX6_cellReached_20 ?_
  refine u_iv h (fun x8 h => ?_)
  refine lv_istore_n (lv' := [(3, .int x8), (2, .int x4), (0, .int p0), (1, .int p1)]) hx hb dX6_cellReached_21 rfl hl (by decide) rfl (fun ls hl => ?_)
  refine lv_bipush (v := 8) hx hb dX6_cellReached_22 (by decide) ?_
  refine lv_iconst (v := 0) hx hb dX6_cellReached_24 (by decide) ?_
  refine lv_bipush (v := 7) hx hb dX6_cellReached_25 (by decide) ?_
  refine lv_iload_n hx hb dX6_cellReached_27 rfl (lv_at hl 0 rfl) ?_
  refine va_mmin hx hb (C.2.2.1.trans hl.1.symm) C.2.2.2.1 (C.2.2.2.2 _ gw_1015) (C.2.2.2.2 _ gw_409) (C.2.2.2.2 _ gw_15) (C.2.2.2.2 _ gw_410) (by decide) (Nat.le_of_ble_eq_true rfl) (by decide) (by decide) dX6_cellReached_28 ?_
  refine u_iv h (fun x9 h => ?_)
  refine va_mmax hx hb (C.2.2.1.trans hl.1.symm) C.2.2.2.1 (C.2.2.2.2 _ gw_1016) (C.2.2.2.2 _ gw_412) (C.2.2.2.2 _ gw_15) (C.2.2.2.2 _ gw_413) (by decide) (Nat.le_of_ble_eq_true rfl) (by decide) (by decide) dX6_cellReached_31 ?_
  refine u_iv h (fun x10 h => ?_)
  refine lv_imul hx hb dX6_cellReached_34 ?_
  refine u_iv h (fun x11 h => ?_)
  refine lv_iconst (v := 0) hx hb dX6_cellReached_35 (by decide) ?_
  refine lv_bipush (v := 7) hx hb dX6_cellReached_36 (by decide) ?_
  refine lv_iload_n hx hb dX6_cellReached_38 rfl (lv_at hl 1 rfl) ?_
  refine va_mmin hx hb (C.2.2.1.trans hl.1.symm) C.2.2.2.1 (C.2.2.2.2 _ gw_1015) (C.2.2.2.2 _ gw_409) (C.2.2.2.2 _ gw_15) (C.2.2.2.2 _ gw_410) (by decide) (Nat.le_of_ble_eq_true rfl) (by decide) (by decide) dX6_cellReached_39 ?_
  refine u_iv h (fun x12 h => ?_)
  refine va_mmax hx hb (C.2.2.1.trans hl.1.symm) C.2.2.2.1 (C.2.2.2.2 _ gw_1016) (C.2.2.2.2 _ gw_412) (C.2.2.2.2 _ gw_15) (C.2.2.2.2 _ gw_413) (by decide) (Nat.le_of_ble_eq_true rfl) (by decide) (by decide) dX6_cellReached_42 ?_
  refine u_iv h (fun x13 h => ?_)
  refine lv_iadd hx hb dX6_cellReached_45 ?_
  refine u_iv h (fun x14 h => ?_)
  exact t_iret C hr hlk w ⟨_, so_v h, rfl, so_w h hw, so_n h hn, hk⟩ (by decide) (by decide) dX6_cellReached_46
theorem dX6_weightsReaching_0 : decode cX6_weightsReaching 0 = .ok (.iconst 0, 1) := by decide +kernel
theorem dX6_weightsReaching_1 : decode cX6_weightsReaching 1 = .ok (.istore_n 2, 1) := by decide +kernel
theorem dX6_weightsReaching_2 : decode cX6_weightsReaching 2 = .ok (.iconst 0, 1) := by decide +kernel
theorem dX6_weightsReaching_3 : decode cX6_weightsReaching 3 = .ok (.istore_n 3, 1) := by decide +kernel
theorem dX6_weightsReaching_4 : decode cX6_weightsReaching 4 = .ok (.iload_n 3, 1) := by decide +kernel
theorem dX6_weightsReaching_5 : decode cX6_weightsReaching 5 = .ok (.bipush 9, 2) := by decide +kernel
theorem dX6_weightsReaching_7 : decode cX6_weightsReaching 7 = .ok (.if_icmp .ge 30, 3) := by decide +kernel
theorem dX6_weightsReaching_10 : decode cX6_weightsReaching 10 = .ok (.iload_n 2, 1) := by decide +kernel
theorem dX6_weightsReaching_11 : decode cX6_weightsReaching 11 = .ok (.iload_n 1, 1) := by decide +kernel
theorem dX6_weightsReaching_12 : decode cX6_weightsReaching 12 = .ok (.iload_n 3, 1) := by decide +kernel
theorem dX6_weightsReaching_13 : decode cX6_weightsReaching 13 = .ok (.invokestatic 223, 3) := by decide +kernel
theorem dX6_weightsReaching_16 : decode cX6_weightsReaching 16 = .ok (.iload_n 1, 1) := by decide +kernel
theorem dX6_weightsReaching_17 : decode cX6_weightsReaching 17 = .ok (.if_icmp .ne 11, 3) := by decide +kernel
theorem dX6_weightsReaching_20 : decode cX6_weightsReaching 20 = .ok (.iload_n 0, 1) := by decide +kernel
theorem dX6_weightsReaching_21 : decode cX6_weightsReaching 21 = .ok (.iload_n 3, 1) := by decide +kernel
theorem dX6_weightsReaching_22 : decode cX6_weightsReaching 22 = .ok (.invokestatic 219, 3) := by decide +kernel
theorem dX6_weightsReaching_25 : decode cX6_weightsReaching 25 = .ok (.goto 4, 3) := by decide +kernel
theorem dX6_weightsReaching_28 : decode cX6_weightsReaching 28 = .ok (.iconst 0, 1) := by decide +kernel
theorem dX6_weightsReaching_29 : decode cX6_weightsReaching 29 = .ok (.iadd, 1) := by decide +kernel
theorem dX6_weightsReaching_30 : decode cX6_weightsReaching 30 = .ok (.istore_n 2, 1) := by decide +kernel
theorem dX6_weightsReaching_31 : decode cX6_weightsReaching 31 = .ok (.iinc 3 1, 3) := by decide +kernel
theorem dX6_weightsReaching_34 : decode cX6_weightsReaching 34 = .ok (.goto (-30), 3) := by decide +kernel
theorem dX6_weightsReaching_37 : decode cX6_weightsReaching 37 = .ok (.iload_n 2, 1) := by decide +kernel
theorem dX6_weightsReaching_38 : decode cX6_weightsReaching 38 = .ok (.ireturn, 1) := by decide +kernel
noncomputable def B_X6_weightsReaching_29 (k4 : (Int32 × Int32 × Int32 × Int32) → fS → Option (Int32 × fS)) (a0 : Int32) (a1 : Int32) (a3 : Int32) (t0 : Int32) (t1 : Int32) (S : fS) : Option (Int32 × fS) := iv (t1 + t0) (fun x1 => iv (a3 + Int32.ofInt 1) (fun x2 => k4 (a0, a1, x1, x2) S))
noncomputable def B_X6_weightsReaching_4 (k4 : (Int32 × Int32 × Int32 × Int32) → fS → Option (Int32 × fS)) : (Int32 × Int32 × Int32 × Int32) → fS → Option (Int32 × fS) := fun ⟨a0, a1, a2, a3⟩ S => bb ((9 : Int32) ≤ a3) (some (a2, S)) (bd (F_X6_cellReached a1 a3 S) (fun v4 S5 => bb (v4 = a1) (bd (F_X6_weightAt a0 a3 S5) (fun v8 S9 => B_X6_weightsReaching_29 k4 a0 a1 a3 v8 a2 S9)) (B_X6_weightsReaching_29 k4 a0 a1 a3 0 a2 S5)))
noncomputable def F_X6_weightsReaching (p0 : Int32) (p1 : Int32) (S0 : fS) : Option (Int32 × fS) := lp (B_X6_weightsReaching_4 ) fuel (p0, p1, 0, 0) S0
set_option maxHeartbeats 4000000 in
set_option maxRecDepth 100000 in
theorem c_X6_weightsReaching (l : Launch) (D : va_G) (K : Nat → ClassId) (b0 : Nat) (sa : sT) (sz : Nat) (L : List Nat) (f0 : Nat → va_E) (ad : Nat → Nat → Nat) (P : Nat → Nat → Prop) {n : Nat × Nat} (hP : ∀ a i : Nat, isn n a i → P a i) (S0 : fS) (hw : PW K ad P S0 L f0) (hn : S0.2.2.1 = n) (p0 : Int32) (p1 : Int32) (v : Int32) (S1 : fS) (h : F_X6_weightsReaching p0 p1 S0 = some (v, S1)) : Met l yX6_weightsReaching (.code yX6_weightsReaching cX6_weightsReaching 4 (some .int) :: gt) { frames := 2, cells := 0, slots := 0, locals := 44 } (va_Pc [.int p0, .int p1] (hPre D K b0 sa sz L f0)) (hQ D K b0 (fun v9 u9 => ∃ f2 : Nat → va_E, v9 = some (.int v) ∧ u9 = lU L f2 ∧ PW K ad P S1 L f2 ∧ S1.2.2.1 = n ∧ Kp ad P L f0 f2)) 0 0 (fun q => b0 ≤ q) := by
  refine t_of (own := RX6) (by decide) rfl ?_ (Nat.le_of_ble_eq_true rfl)
  intro p e s m below meth c ls C w hsz hr hlk hnm hl
  have hx := C.1
  have hb := C.2.1
  have hl : lv_has ls 4 [(0, .int p0), (1, .int p1)] := hl
  have J29 : ∀ (k4 : (Int32 × Int32 × Int32 × Int32) → fS → Option (Int32 × fS)) (hk4 : ∀ (a0 : Int32) (a1 : Int32) (a2 : Int32) (a3 : Int32) (S : fS), k4 (a0, a1, a2, a3) S = some (v, S1) → Gw D K b0 sa ad P n L f0 p l e { frames := 2, cells := 0, slots := 0, locals := 44 } s m [.int p0, .int p1].toArray below meth c 4 (MQ below (hQ D K b0 (fun v9 u9 => ∃ f2 : Nat → va_E, v9 = some (.int v) ∧ u9 = lU L f2 ∧ PW K ad P S1 L f2 ∧ S1.2.2.1 = n ∧ Kp ad P L f0 f2)) [.int p0, .int p1].toArray s 0 0 (fun q => b0 ≤ q)) 0 0 4 [(0, .int a0), (1, .int a1), (2, .int a2), (3, .int a3)] [] S) (a0 : Int32) (a1 : Int32) (a3 : Int32) (t0 : Int32) (t1 : Int32) (S : fS), B_X6_weightsReaching_29 k4 a0 a1 a3 t0 t1 S = some (v, S1) → Gw D K b0 sa ad P n L f0 p l e { frames := 2, cells := 0, slots := 0, locals := 44 } s m [.int p0, .int p1].toArray below meth c 4 (MQ below (hQ D K b0 (fun v9 u9 => ∃ f2 : Nat → va_E, v9 = some (.int v) ∧ u9 = lU L f2 ∧ PW K ad P S1 L f2 ∧ S1.2.2.1 = n ∧ Kp ad P L f0 f2)) [.int p0, .int p1].toArray s 0 0 (fun q => b0 ≤ q)) 0 0 29 [(0, .int a0), (1, .int a1), (3, .int a3)] [.int t0, .int t1] S := by
    intro k4 hk4 a0 a1 a3 t0 t1 S h
    dsimp only [B_X6_weightsReaching_29] at h
    intro f H locs w hw hn hk ls hl
    refine lv_iadd hx hb dX6_weightsReaching_29 ?_
    refine u_iv h (fun x1 h => ?_)
    refine lv_istore_n (lv' := [(2, .int x1), (0, .int a0), (1, .int a1), (3, .int a3)]) hx hb dX6_weightsReaching_30 rfl hl (by decide) rfl (fun ls hl => ?_)
    obtain ⟨x2, ex2, h⟩ := iv_some h
    refine lv_iinc (v := x2) (lv' := [(3, .int x2), (2, .int x1), (0, .int a0), (1, .int a1)]) hx hb dX6_weightsReaching_31 hl (k := 3) rfl ex2.symm (by decide) rfl (fun ls hl => ?_)
    refine lv_goto (tgt := 4) hx hb dX6_weightsReaching_34 (by decide) ?_
    exact hk4 a0 a1 x1 x2 S h f H locs w hw hn hk ls (lv_sub hl [2, 3, 1, 0] rfl)
  have J4 : ∀ (fu : Nat) (a0 : Int32) (a1 : Int32) (a2 : Int32) (a3 : Int32) (S : fS), lp (B_X6_weightsReaching_4 ) fu (a0, a1, a2, a3) S = some (v, S1) → Gw D K b0 sa ad P n L f0 p l e { frames := 2, cells := 0, slots := 0, locals := 44 } s m [.int p0, .int p1].toArray below meth c 4 (MQ below (hQ D K b0 (fun v9 u9 => ∃ f2 : Nat → va_E, v9 = some (.int v) ∧ u9 = lU L f2 ∧ PW K ad P S1 L f2 ∧ S1.2.2.1 = n ∧ Kp ad P L f0 f2)) [.int p0, .int p1].toArray s 0 0 (fun q => b0 ≤ q)) 0 0 4 [(0, .int a0), (1, .int a1), (2, .int a2), (3, .int a3)] [] S := by
    intro fu a0 a1 a2 a3 S h
    refine lp_some (G := (fun q S => Gw D K b0 sa ad P n L f0 p l e { frames := 2, cells := 0, slots := 0, locals := 44 } s m [.int p0, .int p1].toArray below meth c 4 (MQ below (hQ D K b0 (fun v9 u9 => ∃ f2 : Nat → va_E, v9 = some (.int v) ∧ u9 = lU L f2 ∧ PW K ad P S1 L f2 ∧ S1.2.2.1 = n ∧ Kp ad P L f0 f2)) [.int p0, .int p1].toArray s 0 0 (fun q => b0 ≤ q)) 0 0 4 [(0, .int q.1), (1, .int q.2.1), (2, .int q.2.2.1), (3, .int q.2.2.2)] [] S)) (fun k4 hk4 q S h => ?_) fu (a0, a1, a2, a3) S h
    obtain ⟨a0, a1, a2, a3⟩ := q
    have hk4 : ∀ (a0 : Int32) (a1 : Int32) (a2 : Int32) (a3 : Int32) (S : fS), k4 (a0, a1, a2, a3) S = some (v, S1) → Gw D K b0 sa ad P n L f0 p l e { frames := 2, cells := 0, slots := 0, locals := 44 } s m [.int p0, .int p1].toArray below meth c 4 (MQ below (hQ D K b0 (fun v9 u9 => ∃ f2 : Nat → va_E, v9 = some (.int v) ∧ u9 = lU L f2 ∧ PW K ad P S1 L f2 ∧ S1.2.2.1 = n ∧ Kp ad P L f0 f2)) [.int p0, .int p1].toArray s 0 0 (fun q => b0 ≤ q)) 0 0 4 [(0, .int a0), (1, .int a1), (2, .int a2), (3, .int a3)] [] S := fun a0 a1 a2 a3 S h => hk4 (a0, a1, a2, a3) S h
    dsimp only [B_X6_weightsReaching_4] at h
    intro f H locs w hw hn hk ls hl
    refine lv_iload_n hx hb dX6_weightsReaching_4 rfl (lv_at hl 3 rfl) ?_
    refine lv_bipush (v := 9) hx hb dX6_weightsReaching_5 (by decide) ?_
    refine lv_icmp_ge (tgt := 37) hx hb dX6_weightsReaching_7 (by decide) (fun c3 => ?_) (fun c3 => ?_)
    · have h := bb_t h c3
      refine lv_iload_n hx hb dX6_weightsReaching_37 rfl (lv_at hl 2 rfl) ?_
      exact t_iret C hr hlk w ⟨_, so_v h, rfl, so_w h hw, so_n h hn, hk⟩ (by decide) (by decide) dX6_weightsReaching_38
    · have h := bb_f h c3
      refine lv_iload_n hx hb dX6_weightsReaching_10 rfl (lv_at hl 2 rfl) ?_
      refine lv_iload_n hx hb dX6_weightsReaching_11 rfl (lv_at hl 1 rfl) ?_
      refine lv_iload_n hx hb dX6_weightsReaching_12 rfl (lv_at hl 3 rfl) ?_
      obtain ⟨v4, S5, h6, h⟩ := bd_some h
      refine t_callS (n := 2) C w (c_X6_cellReached l D K b0 sa _ L _ ad P hP S hw hn a1 a3 v4 S5 h6) gw_1014 gw_1012 gw_1013 gw_1 ⟨by decide, by decide, by decide +kernel⟩ rfl rfl ⟨by decide, by decide⟩ rfl hl.1 rfl (Nat.le_of_ble_eq_true rfl) dX6_weightsReaching_13 ⟨Nat.le_of_ble_eq_true rfl, Nat.le_of_ble_eq_true rfl⟩ (fun v9 u H locs hp w => ?_)
      obtain ⟨f2, rfl, rfl, hw, hn, hk1⟩ := hp
      have hk := hk.tr hk1
      generalize f2 = f at w hw hk
      refine lv_iload_n hx hb dX6_weightsReaching_16 rfl (lv_at hl 1 rfl) ?_
      refine lv_icmp_ne (tgt := 28) hx hb dX6_weightsReaching_17 (by decide) (fun c7 => ?_) (fun c7 => ?_)
      · have h := bb_f h c7
        refine lv_iconst (v := 0) hx hb dX6_weightsReaching_28 (by decide) ?_
        exact J29 k4 hk4 a0 a1 a3 0 a2 S5 h f H locs w hw hn hk ls (lv_sub hl [0, 1, 3] rfl)
      · have h := bb_t h c7
        refine lv_iload_n hx hb dX6_weightsReaching_20 rfl (lv_at hl 0 rfl) ?_
        refine lv_iload_n hx hb dX6_weightsReaching_21 rfl (lv_at hl 3 rfl) ?_
        obtain ⟨v8, S9, h10, h⟩ := bd_some h
        refine t_callS (n := 2) C w (c_X6_weightAt l D K b0 sa _ L _ ad P hP S5 hw hn a0 a3 v8 S9 h10) gw_1011 gw_1009 gw_1010 gw_1 ⟨by decide, by decide, by decide +kernel⟩ rfl rfl ⟨by decide, by decide⟩ rfl hl.1 rfl (Nat.le_of_ble_eq_true rfl) dX6_weightsReaching_22 ⟨Nat.le_of_ble_eq_true rfl, Nat.le_of_ble_eq_true rfl⟩ (fun v9 u H locs hp w => ?_)
        obtain ⟨f2, rfl, rfl, hw, hn, hk1⟩ := hp
        have hk := hk.tr hk1
        generalize f2 = f at w hw hk
        refine lv_goto (tgt := 29) hx hb dX6_weightsReaching_25 (by decide) ?_
        exact J29 k4 hk4 a0 a1 a3 v8 a2 S9 h f H locs w hw hn hk ls (lv_sub hl [0, 1, 3] rfl)
  dsimp only [F_X6_weightsReaching] at h
  obtain ⟨f, ef⟩ : ∃ z, z = f0 := ⟨_, rfl⟩
  rw [← ef] at w hw
  have hk : Kp ad P L f0 f := by rw [ef]; exact Kp.rf
  obtain ⟨H, eH⟩ : ∃ z, z = s.heap := ⟨_, rfl⟩
  obtain ⟨locs, el⟩ : ∃ z : List Loc, z = [] := ⟨_, rfl⟩
  rw [← eH, ← el] at w ⊢
  refine lv_iconst (v := 0) hx hb dX6_weightsReaching_0 (by decide) ?_
  refine lv_istore_n (lv' := [(2, .int 0), (0, .int p0), (1, .int p1)]) hx hb dX6_weightsReaching_1 rfl hl (by decide) rfl (fun ls hl => ?_)
  refine lv_iconst (v := 0) hx hb dX6_weightsReaching_2 (by decide) ?_
  refine lv_istore_n (lv' := [(3, .int 0), (2, .int 0), (0, .int p0), (1, .int p1)]) hx hb dX6_weightsReaching_3 rfl hl (by decide) rfl (fun ls hl => ?_)
  exact J4  fuel p0 p1 0 0 S0 h f H locs w hw hn hk ls (lv_sub hl [2, 3, 1, 0] rfl)
theorem dX6_faithGiven_0 : decode cX6_faithGiven 0 = .ok (.iload_n 0, 1) := by decide +kernel
theorem dX6_faithGiven_1 : decode cX6_faithGiven 1 = .ok (.iconst 5, 1) := by decide +kernel
theorem dX6_faithGiven_2 : decode cX6_faithGiven 2 = .ok (.if_icmp .ne 5, 3) := by decide +kernel
theorem dX6_faithGiven_5 : decode cX6_faithGiven 5 = .ok (.iconst 5, 1) := by decide +kernel
theorem dX6_faithGiven_6 : decode cX6_faithGiven 6 = .ok (.ireturn, 1) := by decide +kernel
theorem dX6_faithGiven_7 : decode cX6_faithGiven 7 = .ok (.iload_n 0, 1) := by decide +kernel
theorem dX6_faithGiven_8 : decode cX6_faithGiven 8 = .ok (.iconst 2, 1) := by decide +kernel
theorem dX6_faithGiven_9 : decode cX6_faithGiven 9 = .ok (.if_icmp .eq 8, 3) := by decide +kernel
theorem dX6_faithGiven_12 : decode cX6_faithGiven 12 = .ok (.iload_n 0, 1) := by decide +kernel
theorem dX6_faithGiven_13 : decode cX6_faithGiven 13 = .ok (.iconst 3, 1) := by decide +kernel
theorem dX6_faithGiven_14 : decode cX6_faithGiven 14 = .ok (.if_icmp .ne 7, 3) := by decide +kernel
theorem dX6_faithGiven_17 : decode cX6_faithGiven 17 = .ok (.iconst 1, 1) := by decide +kernel
theorem dX6_faithGiven_18 : decode cX6_faithGiven 18 = .ok (.goto 5, 3) := by decide +kernel
theorem dX6_faithGiven_21 : decode cX6_faithGiven 21 = .ok (.bipush (-2), 2) := by decide +kernel
theorem dX6_faithGiven_23 : decode cX6_faithGiven 23 = .ok (.ireturn, 1) := by decide +kernel
noncomputable def B_X6_faithGiven_17 (S : fS) : Option (Int32 × fS) := some (1, S)
noncomputable def F_X6_faithGiven (p0 : Int32) (S0 : fS) : Option (Int32 × fS) := bb (p0 = (5 : Int32)) (some (5, S0)) (bb (p0 = (2 : Int32)) (B_X6_faithGiven_17   S0) (bb (p0 = (3 : Int32)) (B_X6_faithGiven_17   S0) (some ((-2), S0))))
set_option maxHeartbeats 4000000 in
set_option maxRecDepth 100000 in
theorem c_X6_faithGiven (l : Launch) (D : va_G) (K : Nat → ClassId) (b0 : Nat) (sa : sT) (sz : Nat) (L : List Nat) (f0 : Nat → va_E) (ad : Nat → Nat → Nat) (P : Nat → Nat → Prop) {n : Nat × Nat} (hP : ∀ a i : Nat, isn n a i → P a i) (S0 : fS) (hw : PW K ad P S0 L f0) (hn : S0.2.2.1 = n) (p0 : Int32) (v : Int32) (S1 : fS) (h : F_X6_faithGiven p0 S0 = some (v, S1)) : Met l yX6_faithGiven (.code yX6_faithGiven cX6_faithGiven 1 (some .int) :: gt) { frames := 0, cells := 0, slots := 0, locals := 0 } (va_Pc [.int p0] (hPre D K b0 sa sz L f0)) (hQ D K b0 (fun v9 u9 => ∃ f2 : Nat → va_E, v9 = some (.int v) ∧ u9 = lU L f2 ∧ PW K ad P S1 L f2 ∧ S1.2.2.1 = n ∧ Kp ad P L f0 f2)) 0 0 (fun q => b0 ≤ q) := by
  refine t_of (own := RX6) (by decide) rfl ?_ (Nat.le_of_ble_eq_true rfl)
  intro p e s m below meth c ls C w hsz hr hlk hnm hl
  have hx := C.1
  have hb := C.2.1
  have hl : lv_has ls 1 [(0, .int p0)] := hl
  have J17 : ∀ (S : fS), B_X6_faithGiven_17   S = some (v, S1) → Gw D K b0 sa ad P n L f0 p l e { frames := 0, cells := 0, slots := 0, locals := 0 } s m [.int p0].toArray below meth c 1 (MQ below (hQ D K b0 (fun v9 u9 => ∃ f2 : Nat → va_E, v9 = some (.int v) ∧ u9 = lU L f2 ∧ PW K ad P S1 L f2 ∧ S1.2.2.1 = n ∧ Kp ad P L f0 f2)) [.int p0].toArray s 0 0 (fun q => b0 ≤ q)) 0 0 17 [] [] S := by
    intro S h
    dsimp only [B_X6_faithGiven_17] at h
    intro f H locs w hw hn hk ls hl
    refine lv_iconst (v := 1) hx hb dX6_faithGiven_17 (by decide) ?_
    refine lv_goto (tgt := 23) hx hb dX6_faithGiven_18 (by decide) ?_
    exact t_iret C hr hlk w ⟨_, so_v h, rfl, so_w h hw, so_n h hn, hk⟩ (by decide) (by decide) dX6_faithGiven_23
  dsimp only [F_X6_faithGiven] at h
  obtain ⟨f, ef⟩ : ∃ z, z = f0 := ⟨_, rfl⟩
  rw [← ef] at w hw
  have hk : Kp ad P L f0 f := by rw [ef]; exact Kp.rf
  obtain ⟨H, eH⟩ : ∃ z, z = s.heap := ⟨_, rfl⟩
  obtain ⟨locs, el⟩ : ∃ z : List Loc, z = [] := ⟨_, rfl⟩
  rw [← eH, ← el] at w ⊢
  refine lv_iload_n hx hb dX6_faithGiven_0 rfl (lv_at hl 0 rfl) ?_
  refine lv_iconst (v := 5) hx hb dX6_faithGiven_1 (by decide) ?_
  refine lv_icmp_ne (tgt := 7) hx hb dX6_faithGiven_2 (by decide) (fun c1 => ?_) (fun c1 => ?_)
  · have h := bb_f h c1
    refine lv_iload_n hx hb dX6_faithGiven_7 rfl (lv_at hl 0 rfl) ?_
    refine lv_iconst (v := 2) hx hb dX6_faithGiven_8 (by decide) ?_
    refine lv_icmp_eq (tgt := 17) hx hb dX6_faithGiven_9 (by decide) (fun c2 => ?_) (fun c2 => ?_)
    · have h := bb_t h c2
      exact J17   S0 h f H locs w hw hn hk ls (lv_sub hl [] rfl)
    · have h := bb_f h c2
      refine lv_iload_n hx hb dX6_faithGiven_12 rfl (lv_at hl 0 rfl) ?_
      refine lv_iconst (v := 3) hx hb dX6_faithGiven_13 (by decide) ?_
      refine lv_icmp_ne (tgt := 21) hx hb dX6_faithGiven_14 (by decide) (fun c3 => ?_) (fun c3 => ?_)
      · have h := bb_f h c3
        refine lv_bipush (v := (-2)) hx hb dX6_faithGiven_21 (by decide) ?_
        exact t_iret C hr hlk w ⟨_, so_v h, rfl, so_w h hw, so_n h hn, hk⟩ (by decide) (by decide) dX6_faithGiven_23
      · have h := bb_t h c3
        exact J17   S0 h f H locs w hw hn hk ls (lv_sub hl [] rfl)
  · have h := bb_t h c1
    refine lv_iconst (v := 5) hx hb dX6_faithGiven_5 (by decide) ?_
    exact t_iret C hr hlk w ⟨_, so_v h, rfl, so_w h hw, so_n h hn, hk⟩ (by decide) (by decide) dX6_faithGiven_6
theorem dX6_count_0 : decode cX6_count 0 = .ok (.iload_n 1, 1) := by decide +kernel
theorem dX6_count_1 : decode cX6_count 1 = .ok (.tableswitch 210 0 13 #[71, 82, 118, 130, 143, 151, 161, 169, 177, 182, 187, 192, 197, 202], 71) := by decide +kernel
theorem dX6_count_72 : decode cX6_count 72 = .ok (.aload_n 0, 1) := by decide +kernel
theorem dX6_count_73 : decode cX6_count 73 = .ok (.getfield 10, 3) := by decide +kernel
theorem dX6_count_76 : decode cX6_count 76 = .ok (.getfield 100, 3) := by decide +kernel
theorem dX6_count_79 : decode cX6_count 79 = .ok (.getfield 110, 3) := by decide +kernel
theorem dX6_count_82 : decode cX6_count 82 = .ok (.ireturn, 1) := by decide +kernel
theorem dX6_count_83 : decode cX6_count 83 = .ok (.aload_n 0, 1) := by decide +kernel
theorem dX6_count_84 : decode cX6_count 84 = .ok (.getfield 10, 3) := by decide +kernel
theorem dX6_count_87 : decode cX6_count 87 = .ok (.getfield 100, 3) := by decide +kernel
theorem dX6_count_90 : decode cX6_count 90 = .ok (.getfield 110, 3) := by decide +kernel
theorem dX6_count_93 : decode cX6_count 93 = .ok (.aload_n 0, 1) := by decide +kernel
theorem dX6_count_94 : decode cX6_count 94 = .ok (.getfield 10, 3) := by decide +kernel
theorem dX6_count_97 : decode cX6_count 97 = .ok (.getfield 100, 3) := by decide +kernel
theorem dX6_count_100 : decode cX6_count 100 = .ok (.iconst (-1), 1) := by decide +kernel
theorem dX6_count_101 : decode cX6_count 101 = .ok (.invokevirtual 309, 3) := by decide +kernel
theorem dX6_count_104 : decode cX6_count 104 = .ok (.isub, 1) := by decide +kernel
theorem dX6_count_105 : decode cX6_count 105 = .ok (.aload_n 0, 1) := by decide +kernel
theorem dX6_count_106 : decode cX6_count 106 = .ok (.getfield 10, 3) := by decide +kernel
theorem dX6_count_109 : decode cX6_count 109 = .ok (.getfield 100, 3) := by decide +kernel
theorem dX6_count_112 : decode cX6_count 112 = .ok (.bipush (-2), 2) := by decide +kernel
theorem dX6_count_114 : decode cX6_count 114 = .ok (.invokevirtual 309, 3) := by decide +kernel
theorem dX6_count_117 : decode cX6_count 117 = .ok (.isub, 1) := by decide +kernel
theorem dX6_count_118 : decode cX6_count 118 = .ok (.ireturn, 1) := by decide +kernel
theorem dX6_count_119 : decode cX6_count 119 = .ok (.aload_n 0, 1) := by decide +kernel
theorem dX6_count_120 : decode cX6_count 120 = .ok (.getfield 10, 3) := by decide +kernel
theorem dX6_count_123 : decode cX6_count 123 = .ok (.getfield 100, 3) := by decide +kernel
theorem dX6_count_126 : decode cX6_count 126 = .ok (.iconst (-1), 1) := by decide +kernel
theorem dX6_count_127 : decode cX6_count 127 = .ok (.invokevirtual 309, 3) := by decide +kernel
theorem dX6_count_130 : decode cX6_count 130 = .ok (.ireturn, 1) := by decide +kernel
theorem dX6_count_131 : decode cX6_count 131 = .ok (.aload_n 0, 1) := by decide +kernel
theorem dX6_count_132 : decode cX6_count 132 = .ok (.getfield 10, 3) := by decide +kernel
theorem dX6_count_135 : decode cX6_count 135 = .ok (.getfield 100, 3) := by decide +kernel
theorem dX6_count_138 : decode cX6_count 138 = .ok (.bipush (-2), 2) := by decide +kernel
theorem dX6_count_140 : decode cX6_count 140 = .ok (.invokevirtual 309, 3) := by decide +kernel
theorem dX6_count_143 : decode cX6_count 143 = .ok (.ireturn, 1) := by decide +kernel
theorem dX6_count_144 : decode cX6_count 144 = .ok (.aload_n 0, 1) := by decide +kernel
theorem dX6_count_145 : decode cX6_count 145 = .ok (.getfield 10, 3) := by decide +kernel
theorem dX6_count_148 : decode cX6_count 148 = .ok (.getfield 260, 3) := by decide +kernel
theorem dX6_count_151 : decode cX6_count 151 = .ok (.ireturn, 1) := by decide +kernel
theorem dX6_count_152 : decode cX6_count 152 = .ok (.aload_n 0, 1) := by decide +kernel
theorem dX6_count_153 : decode cX6_count 153 = .ok (.getfield 10, 3) := by decide +kernel
theorem dX6_count_156 : decode cX6_count 156 = .ok (.getfield 261, 3) := by decide +kernel
theorem dX6_count_159 : decode cX6_count 159 = .ok (.iconst 1, 1) := by decide +kernel
theorem dX6_count_160 : decode cX6_count 160 = .ok (.iadd, 1) := by decide +kernel
theorem dX6_count_161 : decode cX6_count 161 = .ok (.ireturn, 1) := by decide +kernel
theorem dX6_count_162 : decode cX6_count 162 = .ok (.aload_n 0, 1) := by decide +kernel
theorem dX6_count_163 : decode cX6_count 163 = .ok (.getfield 10, 3) := by decide +kernel
theorem dX6_count_166 : decode cX6_count 166 = .ok (.getfield 262, 3) := by decide +kernel
theorem dX6_count_169 : decode cX6_count 169 = .ok (.ireturn, 1) := by decide +kernel
theorem dX6_count_170 : decode cX6_count 170 = .ok (.aload_n 0, 1) := by decide +kernel
theorem dX6_count_171 : decode cX6_count 171 = .ok (.getfield 10, 3) := by decide +kernel
theorem dX6_count_174 : decode cX6_count 174 = .ok (.getfield 263, 3) := by decide +kernel
theorem dX6_count_177 : decode cX6_count 177 = .ok (.ireturn, 1) := by decide +kernel
theorem dX6_count_178 : decode cX6_count 178 = .ok (.aload_n 0, 1) := by decide +kernel
theorem dX6_count_179 : decode cX6_count 179 = .ok (.getfield 33, 3) := by decide +kernel
theorem dX6_count_182 : decode cX6_count 182 = .ok (.ireturn, 1) := by decide +kernel
theorem dX6_count_183 : decode cX6_count 183 = .ok (.aload_n 0, 1) := by decide +kernel
theorem dX6_count_184 : decode cX6_count 184 = .ok (.getfield 39, 3) := by decide +kernel
theorem dX6_count_187 : decode cX6_count 187 = .ok (.ireturn, 1) := by decide +kernel
theorem dX6_count_188 : decode cX6_count 188 = .ok (.aload_n 0, 1) := by decide +kernel
theorem dX6_count_189 : decode cX6_count 189 = .ok (.getfield 46, 3) := by decide +kernel
theorem dX6_count_192 : decode cX6_count 192 = .ok (.ireturn, 1) := by decide +kernel
theorem dX6_count_193 : decode cX6_count 193 = .ok (.aload_n 0, 1) := by decide +kernel
theorem dX6_count_194 : decode cX6_count 194 = .ok (.getfield 23, 3) := by decide +kernel
theorem dX6_count_197 : decode cX6_count 197 = .ok (.ireturn, 1) := by decide +kernel
theorem dX6_count_198 : decode cX6_count 198 = .ok (.aload_n 0, 1) := by decide +kernel
theorem dX6_count_199 : decode cX6_count 199 = .ok (.getfield 52, 3) := by decide +kernel
theorem dX6_count_202 : decode cX6_count 202 = .ok (.ireturn, 1) := by decide +kernel
theorem dX6_count_203 : decode cX6_count 203 = .ok (.aload_n 0, 1) := by decide +kernel
theorem dX6_count_204 : decode cX6_count 204 = .ok (.getfield 10, 3) := by decide +kernel
theorem dX6_count_207 : decode cX6_count 207 = .ok (.getfield 151, 3) := by decide +kernel
theorem dX6_count_210 : decode cX6_count 210 = .ok (.ireturn, 1) := by decide +kernel
theorem dX6_count_211 : decode cX6_count 211 = .ok (.iconst (-1), 1) := by decide +kernel
theorem dX6_count_212 : decode cX6_count 212 = .ok (.ireturn, 1) := by decide +kernel
noncomputable def F_X6_count (p1 : Int32) (S0 : fS) : Option (Int32 × fS) := bb (p1.toInt = 0) (iv (ge S0 2 0 0) (fun x2 => some (x2, S0))) (bb (p1.toInt = 1) (iv (ge S0 2 0 0) (fun x4 => bd (F_X2_countAt 0 (-1) S0) (fun v5 S6 => iv (x4 - v5) (fun x8 => bd (F_X2_countAt 0 (-2) S6) (fun v9 S10 => iv (x8 - v9) (fun x12 => some (x12, S10))))))) (bb (p1.toInt = 2) (bd (F_X2_countAt 0 (-1) S0) (fun v14 S15 => some (v14, S15))) (bb (p1.toInt = 3) (bd (F_X2_countAt 0 (-2) S0) (fun v18 S19 => some (v18, S19))) (bb (p1.toInt = 4) (iv (ge S0 1 0 7) (fun x22 => some (x22, S0))) (bb (p1.toInt = 5) (iv (ge S0 1 0 8) (fun x24 => iv (x24 + (1 : Int32)) (fun x25 => some (x25, S0)))) (bb (p1.toInt = 6) (iv (ge S0 1 0 9) (fun x27 => some (x27, S0))) (bb (p1.toInt = 7) (iv (ge S0 1 0 10) (fun x29 => some (x29, S0))) (bb (p1.toInt = 8) (iv (ge S0 0 0 5) (fun x31 => some (x31, S0))) (bb (p1.toInt = 9) (iv (ge S0 0 0 7) (fun x33 => some (x33, S0))) (bb (p1.toInt = 10) (iv (ge S0 0 0 9) (fun x35 => some (x35, S0))) (bb (p1.toInt = 11) (iv (ge S0 0 0 3) (fun x37 => some (x37, S0))) (bb (p1.toInt = 12) (iv (ge S0 0 0 11) (fun x39 => some (x39, S0))) (bb (p1.toInt = 13) (iv (ge S0 1 0 5) (fun x41 => some (x41, S0))) (some ((-1), S0)))))))))))))))
set_option maxHeartbeats 4000000 in
set_option maxRecDepth 100000 in
theorem c_X6_count (l : Launch) (D : va_G) (K : Nat → ClassId) (b0 : Nat) (sa : sT) (sz : Nat) (L : List Nat) (f0 : Nat → va_E) (ad : Nat → Nat → Nat) (P : Nat → Nat → Prop) {n : Nat × Nat} (hP : ∀ a i : Nat, isn n a i → P a i) (S0 : fS) (hw : PW K ad P S0 L f0) (hn : S0.2.2.1 = n) (p1 : Int32) (v : Int32) (S1 : fS) (h : F_X6_count p1 S0 = some (v, S1)) : Met l yX6_count (.code yX6_count cX6_count 2 (some .int) :: gt) { frames := 1, cells := 0, slots := 0, locals := 23 } (va_Pc [.ref (ad 0 0), .int p1] (hPre D K b0 sa sz L f0)) (hQ D K b0 (fun v9 u9 => ∃ f2 : Nat → va_E, v9 = some (.int v) ∧ u9 = lU L f2 ∧ PW K ad P S1 L f2 ∧ S1.2.2.1 = n ∧ Kp ad P L f0 f2)) 0 0 (fun q => b0 ≤ q) := by
  refine t_of (own := RX6) (by decide) rfl ?_ (Nat.le_of_ble_eq_true rfl)
  intro p e s m below meth c ls C w hsz hr hlk hnm hl
  have hx := C.1
  have hb := C.2.1
  have hl : lv_has ls 2 [(0, .ref (ad 0 0)), (1, .int p1)] := hl
  dsimp only [F_X6_count] at h
  obtain ⟨f, ef⟩ : ∃ z, z = f0 := ⟨_, rfl⟩
  rw [← ef] at w hw
  have hk : Kp ad P L f0 f := by rw [ef]; exact Kp.rf
  obtain ⟨H, eH⟩ : ∃ z, z = s.heap := ⟨_, rfl⟩
  obtain ⟨locs, el⟩ : ∃ z : List Loc, z = [] := ⟨_, rfl⟩
  rw [← eH, ← el] at w ⊢
  refine lv_iload_n hx hb dX6_count_0 rfl (lv_at hl 1 rfl) ?_
  by_cases c1 : p1.toInt = 0
  · have h := bb_t h c1
    refine lv_tableIn (tgt := 72) hx hb dX6_count_1 (by omega) (by omega) (by rw [c1]; rfl) (by decide) ?_
    refine lv_aload_n hx hb dX6_count_72 rfl (lv_at hl 0 rfl) ?_
    refine u_getr C w hw (hP _ _ (isn_f rfl rfl (by decide))) rfl (N := 18) rfl rfl cin_6 0 (by decide) (by decide) (a2 := 1) (i2 := 0) rfl gw_287 dX6_count_73 ?_
    refine u_getr C w hw (hP _ _ (isn_f rfl rfl (by decide))) rfl (N := 13) rfl rfl cin_0 0 (by decide) (by decide) (a2 := 2) (i2 := 0) rfl gw_89 dX6_count_76 ?_
    refine u_geti C w hw (hP _ _ (isn_f rfl rfl (by decide))) rfl (N := 9) rfl rfl cin_2 0 (by decide) rfl gw_47 dX6_count_79 ?_
    refine u_iv h (fun x2 h => ?_)
    exact t_iret C hr hlk w ⟨_, so_v h, rfl, so_w h hw, so_n h hn, hk⟩ (by decide) (by decide) dX6_count_82
  have h := bb_f h c1
  by_cases c3 : p1.toInt = 1
  · have h := bb_t h c3
    refine lv_tableIn (tgt := 83) hx hb dX6_count_1 (by omega) (by omega) (by rw [c3]; rfl) (by decide) ?_
    refine lv_aload_n hx hb dX6_count_83 rfl (lv_at hl 0 rfl) ?_
    refine u_getr C w hw (hP _ _ (isn_f rfl rfl (by decide))) rfl (N := 18) rfl rfl cin_6 0 (by decide) (by decide) (a2 := 1) (i2 := 0) rfl gw_287 dX6_count_84 ?_
    refine u_getr C w hw (hP _ _ (isn_f rfl rfl (by decide))) rfl (N := 13) rfl rfl cin_0 0 (by decide) (by decide) (a2 := 2) (i2 := 0) rfl gw_89 dX6_count_87 ?_
    refine u_geti C w hw (hP _ _ (isn_f rfl rfl (by decide))) rfl (N := 9) rfl rfl cin_2 0 (by decide) rfl gw_47 dX6_count_90 ?_
    refine u_iv h (fun x4 h => ?_)
    refine lv_aload_n hx hb dX6_count_93 rfl (lv_at hl 0 rfl) ?_
    refine u_getr C w hw (hP _ _ (isn_f rfl rfl (by decide))) rfl (N := 18) rfl rfl cin_6 0 (by decide) (by decide) (a2 := 1) (i2 := 0) rfl gw_287 dX6_count_94 ?_
    refine u_getr C w hw (hP _ _ (isn_f rfl rfl (by decide))) rfl (N := 13) rfl rfl cin_0 0 (by decide) (by decide) (a2 := 2) (i2 := 0) rfl gw_89 dX6_count_97 ?_
    refine lv_iconst (v := (-1)) hx hb dX6_count_100 (by decide) ?_
    obtain ⟨v5, S6, h7, h⟩ := bd_some h
    refine u_callV (n := 1) C w hw (hP _ _ (isn_f rfl rfl (by decide))) rfl rfl rfl (c_X2_countAt l D K b0 sa _ L _ ad P hP S0 hw hn 0 (by decide) (-1) v5 S6 h7) gw_542 gw_539 gw_540 gw_541 gw_3 ⟨by decide, by decide, by decide +kernel⟩ rfl rfl ⟨by decide, by decide⟩ rfl hl.1 rfl (Nat.le_of_ble_eq_true rfl) dX6_count_101 ⟨Nat.le_of_ble_eq_true rfl, Nat.le_of_ble_eq_true rfl⟩ (fun v9 u H locs hp w => ?_)
    obtain ⟨f2, rfl, rfl, hw, hn, hk1⟩ := hp
    have hk := hk.tr hk1
    generalize f2 = f at w hw hk
    refine lv_isub hx hb dX6_count_104 ?_
    refine u_iv h (fun x8 h => ?_)
    refine lv_aload_n hx hb dX6_count_105 rfl (lv_at hl 0 rfl) ?_
    refine u_getr C w hw (hP _ _ (isn_f rfl rfl (by decide))) rfl (N := 18) rfl rfl cin_6 0 (by decide) (by decide) (a2 := 1) (i2 := 0) rfl gw_287 dX6_count_106 ?_
    refine u_getr C w hw (hP _ _ (isn_f rfl rfl (by decide))) rfl (N := 13) rfl rfl cin_0 0 (by decide) (by decide) (a2 := 2) (i2 := 0) rfl gw_89 dX6_count_109 ?_
    refine lv_bipush (v := (-2)) hx hb dX6_count_112 (by decide) ?_
    obtain ⟨v9, S10, h11, h⟩ := bd_some h
    refine u_callV (n := 1) C w hw (hP _ _ (isn_f rfl rfl (by decide))) rfl rfl rfl (c_X2_countAt l D K b0 sa _ L _ ad P hP S6 hw hn 0 (by decide) (-2) v9 S10 h11) gw_542 gw_539 gw_540 gw_541 gw_3 ⟨by decide, by decide, by decide +kernel⟩ rfl rfl ⟨by decide, by decide⟩ rfl hl.1 rfl (Nat.le_of_ble_eq_true rfl) dX6_count_114 ⟨Nat.le_of_ble_eq_true rfl, Nat.le_of_ble_eq_true rfl⟩ (fun v9 u H locs hp w => ?_)
    obtain ⟨f2, rfl, rfl, hw, hn, hk1⟩ := hp
    have hk := hk.tr hk1
    generalize f2 = f at w hw hk
    refine lv_isub hx hb dX6_count_117 ?_
    refine u_iv h (fun x12 h => ?_)
    exact t_iret C hr hlk w ⟨_, so_v h, rfl, so_w h hw, so_n h hn, hk⟩ (by decide) (by decide) dX6_count_118
  have h := bb_f h c3
  by_cases c13 : p1.toInt = 2
  · have h := bb_t h c13
    refine lv_tableIn (tgt := 119) hx hb dX6_count_1 (by omega) (by omega) (by rw [c13]; rfl) (by decide) ?_
    refine lv_aload_n hx hb dX6_count_119 rfl (lv_at hl 0 rfl) ?_
    refine u_getr C w hw (hP _ _ (isn_f rfl rfl (by decide))) rfl (N := 18) rfl rfl cin_6 0 (by decide) (by decide) (a2 := 1) (i2 := 0) rfl gw_287 dX6_count_120 ?_
    refine u_getr C w hw (hP _ _ (isn_f rfl rfl (by decide))) rfl (N := 13) rfl rfl cin_0 0 (by decide) (by decide) (a2 := 2) (i2 := 0) rfl gw_89 dX6_count_123 ?_
    refine lv_iconst (v := (-1)) hx hb dX6_count_126 (by decide) ?_
    obtain ⟨v14, S15, h16, h⟩ := bd_some h
    refine u_callV (n := 1) C w hw (hP _ _ (isn_f rfl rfl (by decide))) rfl rfl rfl (c_X2_countAt l D K b0 sa _ L _ ad P hP S0 hw hn 0 (by decide) (-1) v14 S15 h16) gw_542 gw_539 gw_540 gw_541 gw_3 ⟨by decide, by decide, by decide +kernel⟩ rfl rfl ⟨by decide, by decide⟩ rfl hl.1 rfl (Nat.le_of_ble_eq_true rfl) dX6_count_127 ⟨Nat.le_of_ble_eq_true rfl, Nat.le_of_ble_eq_true rfl⟩ (fun v9 u H locs hp w => ?_)
    obtain ⟨f2, rfl, rfl, hw, hn, hk1⟩ := hp
    have hk := hk.tr hk1
    generalize f2 = f at w hw hk
    exact t_iret C hr hlk w ⟨_, so_v h, rfl, so_w h hw, so_n h hn, hk⟩ (by decide) (by decide) dX6_count_130
  have h := bb_f h c13
  by_cases c17 : p1.toInt = 3
  · have h := bb_t h c17
    refine lv_tableIn (tgt := 131) hx hb dX6_count_1 (by omega) (by omega) (by rw [c17]; rfl) (by decide) ?_
    refine lv_aload_n hx hb dX6_count_131 rfl (lv_at hl 0 rfl) ?_
    refine u_getr C w hw (hP _ _ (isn_f rfl rfl (by decide))) rfl (N := 18) rfl rfl cin_6 0 (by decide) (by decide) (a2 := 1) (i2 := 0) rfl gw_287 dX6_count_132 ?_
    refine u_getr C w hw (hP _ _ (isn_f rfl rfl (by decide))) rfl (N := 13) rfl rfl cin_0 0 (by decide) (by decide) (a2 := 2) (i2 := 0) rfl gw_89 dX6_count_135 ?_
    refine lv_bipush (v := (-2)) hx hb dX6_count_138 (by decide) ?_
    obtain ⟨v18, S19, h20, h⟩ := bd_some h
    refine u_callV (n := 1) C w hw (hP _ _ (isn_f rfl rfl (by decide))) rfl rfl rfl (c_X2_countAt l D K b0 sa _ L _ ad P hP S0 hw hn 0 (by decide) (-2) v18 S19 h20) gw_542 gw_539 gw_540 gw_541 gw_3 ⟨by decide, by decide, by decide +kernel⟩ rfl rfl ⟨by decide, by decide⟩ rfl hl.1 rfl (Nat.le_of_ble_eq_true rfl) dX6_count_140 ⟨Nat.le_of_ble_eq_true rfl, Nat.le_of_ble_eq_true rfl⟩ (fun v9 u H locs hp w => ?_)
    obtain ⟨f2, rfl, rfl, hw, hn, hk1⟩ := hp
    have hk := hk.tr hk1
    generalize f2 = f at w hw hk
    exact t_iret C hr hlk w ⟨_, so_v h, rfl, so_w h hw, so_n h hn, hk⟩ (by decide) (by decide) dX6_count_143
  have h := bb_f h c17
  by_cases c21 : p1.toInt = 4
  · have h := bb_t h c21
    refine lv_tableIn (tgt := 144) hx hb dX6_count_1 (by omega) (by omega) (by rw [c21]; rfl) (by decide) ?_
    refine lv_aload_n hx hb dX6_count_144 rfl (lv_at hl 0 rfl) ?_
    refine u_getr C w hw (hP _ _ (isn_f rfl rfl (by decide))) rfl (N := 18) rfl rfl cin_6 0 (by decide) (by decide) (a2 := 1) (i2 := 0) rfl gw_287 dX6_count_145 ?_
    refine u_geti C w hw (hP _ _ (isn_f rfl rfl (by decide))) rfl (N := 13) rfl rfl cin_0 7 (by decide) rfl gw_109 dX6_count_148 ?_
    refine u_iv h (fun x22 h => ?_)
    exact t_iret C hr hlk w ⟨_, so_v h, rfl, so_w h hw, so_n h hn, hk⟩ (by decide) (by decide) dX6_count_151
  have h := bb_f h c21
  by_cases c23 : p1.toInt = 5
  · have h := bb_t h c23
    refine lv_tableIn (tgt := 152) hx hb dX6_count_1 (by omega) (by omega) (by rw [c23]; rfl) (by decide) ?_
    refine lv_aload_n hx hb dX6_count_152 rfl (lv_at hl 0 rfl) ?_
    refine u_getr C w hw (hP _ _ (isn_f rfl rfl (by decide))) rfl (N := 18) rfl rfl cin_6 0 (by decide) (by decide) (a2 := 1) (i2 := 0) rfl gw_287 dX6_count_153 ?_
    refine u_geti C w hw (hP _ _ (isn_f rfl rfl (by decide))) rfl (N := 13) rfl rfl cin_0 8 (by decide) rfl gw_112 dX6_count_156 ?_
    refine u_iv h (fun x24 h => ?_)
    refine lv_iconst (v := 1) hx hb dX6_count_159 (by decide) ?_
    refine lv_iadd hx hb dX6_count_160 ?_
    refine u_iv h (fun x25 h => ?_)
    exact t_iret C hr hlk w ⟨_, so_v h, rfl, so_w h hw, so_n h hn, hk⟩ (by decide) (by decide) dX6_count_161
  have h := bb_f h c23
  by_cases c26 : p1.toInt = 6
  · have h := bb_t h c26
    refine lv_tableIn (tgt := 162) hx hb dX6_count_1 (by omega) (by omega) (by rw [c26]; rfl) (by decide) ?_
    refine lv_aload_n hx hb dX6_count_162 rfl (lv_at hl 0 rfl) ?_
    refine u_getr C w hw (hP _ _ (isn_f rfl rfl (by decide))) rfl (N := 18) rfl rfl cin_6 0 (by decide) (by decide) (a2 := 1) (i2 := 0) rfl gw_287 dX6_count_163 ?_
    refine u_geti C w hw (hP _ _ (isn_f rfl rfl (by decide))) rfl (N := 13) rfl rfl cin_0 9 (by decide) rfl gw_115 dX6_count_166 ?_
    refine u_iv h (fun x27 h => ?_)
    exact t_iret C hr hlk w ⟨_, so_v h, rfl, so_w h hw, so_n h hn, hk⟩ (by decide) (by decide) dX6_count_169
  have h := bb_f h c26
  by_cases c28 : p1.toInt = 7
  · have h := bb_t h c28
    refine lv_tableIn (tgt := 170) hx hb dX6_count_1 (by omega) (by omega) (by rw [c28]; rfl) (by decide) ?_
    refine lv_aload_n hx hb dX6_count_170 rfl (lv_at hl 0 rfl) ?_
    refine u_getr C w hw (hP _ _ (isn_f rfl rfl (by decide))) rfl (N := 18) rfl rfl cin_6 0 (by decide) (by decide) (a2 := 1) (i2 := 0) rfl gw_287 dX6_count_171 ?_
    refine u_geti C w hw (hP _ _ (isn_f rfl rfl (by decide))) rfl (N := 13) rfl rfl cin_0 10 (by decide) rfl gw_118 dX6_count_174 ?_
    refine u_iv h (fun x29 h => ?_)
    exact t_iret C hr hlk w ⟨_, so_v h, rfl, so_w h hw, so_n h hn, hk⟩ (by decide) (by decide) dX6_count_177
  have h := bb_f h c28
  by_cases c30 : p1.toInt = 8
  · have h := bb_t h c30
    refine lv_tableIn (tgt := 178) hx hb dX6_count_1 (by omega) (by omega) (by rw [c30]; rfl) (by decide) ?_
    refine lv_aload_n hx hb dX6_count_178 rfl (lv_at hl 0 rfl) ?_
    refine u_geti C w hw (hP _ _ (isn_f rfl rfl (by decide))) rfl (N := 18) rfl rfl cin_6 5 (by decide) rfl gw_292 dX6_count_179 ?_
    refine u_iv h (fun x31 h => ?_)
    exact t_iret C hr hlk w ⟨_, so_v h, rfl, so_w h hw, so_n h hn, hk⟩ (by decide) (by decide) dX6_count_182
  have h := bb_f h c30
  by_cases c32 : p1.toInt = 9
  · have h := bb_t h c32
    refine lv_tableIn (tgt := 183) hx hb dX6_count_1 (by omega) (by omega) (by rw [c32]; rfl) (by decide) ?_
    refine lv_aload_n hx hb dX6_count_183 rfl (lv_at hl 0 rfl) ?_
    refine u_geti C w hw (hP _ _ (isn_f rfl rfl (by decide))) rfl (N := 18) rfl rfl cin_6 7 (by decide) rfl gw_294 dX6_count_184 ?_
    refine u_iv h (fun x33 h => ?_)
    exact t_iret C hr hlk w ⟨_, so_v h, rfl, so_w h hw, so_n h hn, hk⟩ (by decide) (by decide) dX6_count_187
  have h := bb_f h c32
  by_cases c34 : p1.toInt = 10
  · have h := bb_t h c34
    refine lv_tableIn (tgt := 188) hx hb dX6_count_1 (by omega) (by omega) (by rw [c34]; rfl) (by decide) ?_
    refine lv_aload_n hx hb dX6_count_188 rfl (lv_at hl 0 rfl) ?_
    refine u_geti C w hw (hP _ _ (isn_f rfl rfl (by decide))) rfl (N := 18) rfl rfl cin_6 9 (by decide) rfl gw_296 dX6_count_189 ?_
    refine u_iv h (fun x35 h => ?_)
    exact t_iret C hr hlk w ⟨_, so_v h, rfl, so_w h hw, so_n h hn, hk⟩ (by decide) (by decide) dX6_count_192
  have h := bb_f h c34
  by_cases c36 : p1.toInt = 11
  · have h := bb_t h c36
    refine lv_tableIn (tgt := 193) hx hb dX6_count_1 (by omega) (by omega) (by rw [c36]; rfl) (by decide) ?_
    refine lv_aload_n hx hb dX6_count_193 rfl (lv_at hl 0 rfl) ?_
    refine u_geti C w hw (hP _ _ (isn_f rfl rfl (by decide))) rfl (N := 18) rfl rfl cin_6 3 (by decide) rfl gw_290 dX6_count_194 ?_
    refine u_iv h (fun x37 h => ?_)
    exact t_iret C hr hlk w ⟨_, so_v h, rfl, so_w h hw, so_n h hn, hk⟩ (by decide) (by decide) dX6_count_197
  have h := bb_f h c36
  by_cases c38 : p1.toInt = 12
  · have h := bb_t h c38
    refine lv_tableIn (tgt := 198) hx hb dX6_count_1 (by omega) (by omega) (by rw [c38]; rfl) (by decide) ?_
    refine lv_aload_n hx hb dX6_count_198 rfl (lv_at hl 0 rfl) ?_
    refine u_geti C w hw (hP _ _ (isn_f rfl rfl (by decide))) rfl (N := 18) rfl rfl cin_6 11 (by decide) rfl gw_298 dX6_count_199 ?_
    refine u_iv h (fun x39 h => ?_)
    exact t_iret C hr hlk w ⟨_, so_v h, rfl, so_w h hw, so_n h hn, hk⟩ (by decide) (by decide) dX6_count_202
  have h := bb_f h c38
  by_cases c40 : p1.toInt = 13
  · have h := bb_t h c40
    refine lv_tableIn (tgt := 203) hx hb dX6_count_1 (by omega) (by omega) (by rw [c40]; rfl) (by decide) ?_
    refine lv_aload_n hx hb dX6_count_203 rfl (lv_at hl 0 rfl) ?_
    refine u_getr C w hw (hP _ _ (isn_f rfl rfl (by decide))) rfl (N := 18) rfl rfl cin_6 0 (by decide) (by decide) (a2 := 1) (i2 := 0) rfl gw_287 dX6_count_204 ?_
    refine u_geti C w hw (hP _ _ (isn_f rfl rfl (by decide))) rfl (N := 13) rfl rfl cin_0 5 (by decide) rfl gw_104 dX6_count_207 ?_
    refine u_iv h (fun x41 h => ?_)
    exact t_iret C hr hlk w ⟨_, so_v h, rfl, so_w h hw, so_n h hn, hk⟩ (by decide) (by decide) dX6_count_210
  have h := bb_f h c40
  refine lv_tableOut (tgt := 211) hx hb dX6_count_1 (by omega) (by decide) ?_
  refine lv_iconst (v := (-1)) hx hb dX6_count_211 (by decide) ?_
  exact t_iret C hr hlk w ⟨_, so_v h, rfl, so_w h hw, so_n h hn, hk⟩ (by decide) (by decide) dX6_count_212
