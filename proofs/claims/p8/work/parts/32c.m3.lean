theorem dX7_draw_0 : decode cX7_draw 0 = .ok (.aload_n 0, 1) := by decide +kernel
theorem dX7_draw_1 : decode cX7_draw 1 = .ok (.aload_n 0, 1) := by decide +kernel
theorem dX7_draw_2 : decode cX7_draw 2 = .ok (.getfield 67, 3) := by decide +kernel
theorem dX7_draw_5 : decode cX7_draw 5 = .ok (.ldc_w 271, 3) := by decide +kernel
theorem dX7_draw_8 : decode cX7_draw 8 = .ok (.imul, 1) := by decide +kernel
theorem dX7_draw_9 : decode cX7_draw 9 = .ok (.sipush 12345, 3) := by decide +kernel
theorem dX7_draw_12 : decode cX7_draw 12 = .ok (.iadd, 1) := by decide +kernel
theorem dX7_draw_13 : decode cX7_draw 13 = .ok (.putfield 67, 3) := by decide +kernel
theorem dX7_draw_16 : decode cX7_draw 16 = .ok (.aload_n 0, 1) := by decide +kernel
theorem dX7_draw_17 : decode cX7_draw 17 = .ok (.getfield 67, 3) := by decide +kernel
theorem dX7_draw_20 : decode cX7_draw 20 = .ok (.bipush 16, 2) := by decide +kernel
theorem dX7_draw_22 : decode cX7_draw 22 = .ok (.ishr, 1) := by decide +kernel
theorem dX7_draw_23 : decode cX7_draw 23 = .ok (.sipush 32767, 3) := by decide +kernel
theorem dX7_draw_26 : decode cX7_draw 26 = .ok (.iand, 1) := by decide +kernel
theorem dX7_draw_27 : decode cX7_draw 27 = .ok (.iload_n 1, 1) := by decide +kernel
theorem dX7_draw_28 : decode cX7_draw 28 = .ok (.irem, 1) := by decide +kernel
theorem dX7_draw_29 : decode cX7_draw 29 = .ok (.ireturn, 1) := by decide +kernel
noncomputable def F_X7_draw (p1 : Int32) (S0 : fS) : Option (Int32 × fS) := iv (ge S0 40 0 34) (fun x1 => iv (x1 * (1103515245 : Int32)) (fun x2 => iv (x2 + (12345 : Int32)) (fun x3 => sv (pu S0 40 0 34 x3) (fun S4 => iv (ge S4 40 0 34) (fun x5 => iv (x5 >>> ((16 : Int32) &&& 31)) (fun x6 => iv (x6 &&& (32767 : Int32)) (fun x7 => gd (¬ p1 = 0) (iv (x7 - x7 / p1 * p1) (fun x9 => some (x9, S4))))))))))
set_option maxHeartbeats 4000000 in
set_option maxRecDepth 100000 in
theorem c_X7_draw (l : Launch) (D : va_G) (K : Nat → ClassId) (b0 : Nat) (sa : sT) (sz : Nat) (L : List Nat) (f0 : Nat → va_E) (ad : Nat → Nat → Nat) (P : Nat → Nat → Prop) {n : Nat × Nat} (hP : ∀ a i : Nat, isn n a i → P a i) (S0 : fS) (hw : PW K ad P S0 L f0) (hn : S0.2.2.1 = n) (p1 : Int32) (v : Int32) (S1 : fS) (h : F_X7_draw p1 S0 = some (v, S1)) : Met l yX7_draw (.code yX7_draw cX7_draw 2 (some .int) :: gt) { frames := 0, cells := 0, slots := 0, locals := 0 } (va_Pc [.ref (ad 40 0), .int p1] (hPre D K b0 sa sz L f0)) (hQ D K b0 (fun v9 u9 => ∃ f2 : Nat → va_E, v9 = some (.int v) ∧ u9 = lU L f2 ∧ PW K ad P S1 L f2 ∧ S1.2.2.1 = n ∧ Kp ad P L f0 f2)) 0 0 (fun q => b0 ≤ q) := by
  refine t_of (own := RX7) (by decide) rfl ?_ (Nat.le_of_ble_eq_true rfl)
  intro p e s m below meth c ls C w hsz hr hlk hnm hl
  have hx := C.1
  have hb := C.2.1
  have hl : lv_has ls 2 [(0, .ref (ad 40 0)), (1, .int p1)] := hl
  dsimp only [F_X7_draw] at h
  obtain ⟨f, ef⟩ : ∃ z, z = f0 := ⟨_, rfl⟩
  rw [← ef] at w hw
  have hk : Kp ad P L f0 f := by rw [ef]; exact Kp.rf
  obtain ⟨H, eH⟩ : ∃ z, z = s.heap := ⟨_, rfl⟩
  obtain ⟨locs, el⟩ : ∃ z : List Loc, z = [] := ⟨_, rfl⟩
  rw [← eH, ← el] at w ⊢
  refine lv_aload_n hx hb dX7_draw_0 rfl (lv_at hl 0 rfl) ?_
  refine lv_aload_n hx hb dX7_draw_1 rfl (lv_at hl 0 rfl) ?_
  refine u_geti C w hw (hP _ _ (isn_f rfl rfl (by decide))) rfl (N := 57) rfl rfl cin_7 34 (by decide) rfl gw_1190 dX7_draw_2 ?_
  refine u_iv h (fun x1 h => ?_)
  refine lv_ldcw hx hb C.2.2.2.1 (C.2.2.2.2 _ gw_1553) dX7_draw_5 ?_
  refine lv_imul hx hb dX7_draw_8 ?_
  refine u_iv h (fun x2 h => ?_)
  refine lv_sipush (v := 12345) hx hb dX7_draw_9 (by decide) ?_
  refine lv_iadd hx hb dX7_draw_12 ?_
  refine u_iv h (fun x3 h => ?_)
  refine u_puti C w hw (hP _ _ (isn_f rfl rfl (by decide))) rfl (N := 57) rfl rfl cin_7 tyX7 tyX7_ok nmX7 34 (by decide) rfl rfl rfl rfl gw_1190 dX7_draw_13 (fun f H locs w hw hk1 => ?_)
  have hk := hk.tr hk1
  refine u_sv h hw hn (fun S4 h hw hn => ?_)
  refine lv_aload_n hx hb dX7_draw_16 rfl (lv_at hl 0 rfl) ?_
  refine u_geti C w hw (hP _ _ (isn_f rfl rfl (by decide))) rfl (N := 57) rfl rfl cin_7 34 (by decide) rfl gw_1190 dX7_draw_17 ?_
  refine u_iv h (fun x5 h => ?_)
  refine lv_bipush (v := 16) hx hb dX7_draw_20 (by decide) ?_
  refine lv_ishr hx hb dX7_draw_22 ?_
  refine u_iv h (fun x6 h => ?_)
  refine lv_sipush (v := 32767) hx hb dX7_draw_23 (by decide) ?_
  refine lv_iand hx hb dX7_draw_26 ?_
  refine u_iv h (fun x7 h => ?_)
  refine lv_iload_n hx hb dX7_draw_27 rfl (lv_at hl 1 rfl) ?_
  obtain ⟨g8, h⟩ := gd_some h
  refine lv_irem hx hb dX7_draw_28 g8 ?_
  refine u_iv h (fun x9 h => ?_)
  exact t_iret C hr hlk w ⟨_, so_v h, rfl, so_w h hw, so_n h hn, hk⟩ (by decide) (by decide) dX7_draw_29
