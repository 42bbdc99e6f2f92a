theorem dX6_keepProgram_0 : decode cX6_keepProgram 0 = .ok (.aload_n 0, 1) := by decide +kernel
theorem dX6_keepProgram_1 : decode cX6_keepProgram 1 = .ok (.getfield 33, 3) := by decide +kernel
theorem dX6_keepProgram_4 : decode cX6_keepProgram 4 = .ok (.bipush 6, 2) := by decide +kernel
theorem dX6_keepProgram_6 : decode cX6_keepProgram 6 = .ok (.if_icmp .lt 5, 3) := by decide +kernel
theorem dX6_keepProgram_9 : decode cX6_keepProgram 9 = .ok (.iconst (-1), 1) := by decide +kernel
theorem dX6_keepProgram_10 : decode cX6_keepProgram 10 = .ok (.ireturn, 1) := by decide +kernel
theorem dX6_keepProgram_11 : decode cX6_keepProgram 11 = .ok (.aload_n 0, 1) := by decide +kernel
theorem dX6_keepProgram_12 : decode cX6_keepProgram 12 = .ok (.getfield 29, 3) := by decide +kernel
theorem dX6_keepProgram_15 : decode cX6_keepProgram 15 = .ok (.aload_n 0, 1) := by decide +kernel
theorem dX6_keepProgram_16 : decode cX6_keepProgram 16 = .ok (.getfield 33, 3) := by decide +kernel
theorem dX6_keepProgram_19 : decode cX6_keepProgram 19 = .ok (.aload_n 0, 1) := by decide +kernel
theorem dX6_keepProgram_20 : decode cX6_keepProgram 20 = .ok (.getfield 61, 3) := by decide +kernel
theorem dX6_keepProgram_23 : decode cX6_keepProgram 23 = .ok (.invokevirtual 329, 3) := by decide +kernel
theorem dX6_keepProgram_26 : decode cX6_keepProgram 26 = .ok (.aastore, 1) := by decide +kernel
theorem dX6_keepProgram_27 : decode cX6_keepProgram 27 = .ok (.aload_n 0, 1) := by decide +kernel
theorem dX6_keepProgram_28 : decode cX6_keepProgram 28 = .ok (.dup, 1) := by decide +kernel
theorem dX6_keepProgram_29 : decode cX6_keepProgram 29 = .ok (.getfield 33, 3) := by decide +kernel
theorem dX6_keepProgram_32 : decode cX6_keepProgram 32 = .ok (.iconst 1, 1) := by decide +kernel
theorem dX6_keepProgram_33 : decode cX6_keepProgram 33 = .ok (.iadd, 1) := by decide +kernel
theorem dX6_keepProgram_34 : decode cX6_keepProgram 34 = .ok (.putfield 33, 3) := by decide +kernel
theorem dX6_keepProgram_37 : decode cX6_keepProgram 37 = .ok (.aload_n 0, 1) := by decide +kernel
theorem dX6_keepProgram_38 : decode cX6_keepProgram 38 = .ok (.getfield 33, 3) := by decide +kernel
theorem dX6_keepProgram_41 : decode cX6_keepProgram 41 = .ok (.iconst 1, 1) := by decide +kernel
theorem dX6_keepProgram_42 : decode cX6_keepProgram 42 = .ok (.isub, 1) := by decide +kernel
theorem dX6_keepProgram_43 : decode cX6_keepProgram 43 = .ok (.ireturn, 1) := by decide +kernel
noncomputable def F_X6_keepProgram  (S0 : fS) : Option (Int32 × fS) := iv (ge S0 0 0 5) (fun x1 => bb (x1 < (6 : Int32)) (iv (ge S0 0 0 5) (fun x3 => bd (F_X4_codeRead  S0) (fun v4 S5 => gd (v4 < nC S5) (gd (ib x3 6) (sv (pr S5 13 0 (x3 : Int32).toNatClampNeg (some v4)) (fun S9 => iv (ge S9 0 0 5) (fun x10 => iv (x10 + (1 : Int32)) (fun x11 => sv (pu S9 0 0 5 x11) (fun S12 => iv (ge S12 0 0 5) (fun x13 => iv (x13 - (1 : Int32)) (fun x14 => some (x14, S12)))))))))))) (some ((-1), S0)))
set_option maxHeartbeats 4000000 in
set_option maxRecDepth 100000 in
theorem c_X6_keepProgram (l : Launch) (D : va_G) (K : Nat → ClassId) (b0 : Nat) (sa : sT) (sz : Nat) (LO : List Nat) (fO : Nat → va_E) (adO : Nat → Nat → Nat) (nO : Nat × Nat) (S0 : fS) (hw : PW K adO (isn nO) S0 LO fO) (hn : S0.2.2.1 = nO) (hprobe : 0 < nO.1)  (v : Int32) (S1 : fS) (h : F_X6_keepProgram  S0 = some (v, S1)) : Met l yX6_keepProgram (.code yX6_keepProgram cX6_keepProgram 1 (some .int) :: gt) { frames := 4, cells := 2, slots := 301, locals := 124 } (va_Pc [.ref (adO 0 0)] (hPre D K b0 sa sz LO fO)) (hQ D K b0 (fun v9 u9 => ∃ (ad2 : Nat → Nat → Nat) (L2 : List Nat) (f2 : Nat → va_E), v9 = some (.int v) ∧ u9 = lU L2 f2 ∧ PW K ad2 (isn S1.2.2.1) S1 L2 f2 ∧ Gr (fun _ => False) (isn nO) adO LO fO (isn S1.2.2.1) ad2 L2 f2)) 2 301 (fun q => b0 ≤ q) := by
  refine t_of (own := RX6) (by decide) rfl ?_ (Nat.le_of_ble_eq_true rfl)
  intro p e s m below meth c ls C w hsz hr hlk hnm hl
  have hx := C.1
  have hb := C.2.1
  dsimp only [F_X6_keepProgram] at h
  obtain ⟨H, eH⟩ : ∃ z, z = s.heap := ⟨_, rfl⟩
  obtain ⟨locs, el⟩ : ∃ z : List Loc, z = [] := ⟨_, rfl⟩
  rw [← eH, ← el] at w ⊢
  obtain ⟨ad, P, n, L, f, w, hw, hn, hprobe, hP, hle, hG, hl⟩ : ∃ (ad2 : Nat → Nat → Nat) (P2 : Nat → Nat → Prop) (n2 : Nat × Nat) (L2 : List Nat) (f2 : Nat → va_E), Wh D K b0 sa s H locs L2 f2 ∧ PW K ad2 P2 S0 L2 f2 ∧ S0.2.2.1 = n2 ∧ 0 < n2.1 ∧ (∀ a i : Nat, isn n2 a i → P2 a i) ∧ (∀ a i : Nat, isn nO a i → isn n2 a i) ∧ Gr (fun _ => False) (isn nO) adO LO fO P2 ad2 L2 f2 ∧ lv_has ls 1 [(0, .ref (ad2 0 0))] := ⟨adO, isn nO, nO, LO, fO, w, hw, hn, hprobe, fun _ _ h => h, fun _ _ h => h, Gr.rf, hl⟩
  refine lv_aload_n hx hb dX6_keepProgram_0 rfl (lv_at hl 0 rfl) ?_
  refine u_geti C w hw (hP _ _ (isn_f rfl rfl (by decide))) rfl (N := 18) rfl rfl cin_6 5 (by decide) rfl gw_292 dX6_keepProgram_1 ?_
  refine u_iv h (fun x1 h => ?_)
  refine lv_bipush (v := 6) hx hb dX6_keepProgram_4 (by decide) ?_
  refine lv_icmp_lt (tgt := 11) hx hb dX6_keepProgram_6 (by decide) (fun c2 => ?_) (fun c2 => ?_)
  · have h := bb_t h c2
    refine lv_aload_n hx hb dX6_keepProgram_11 rfl (lv_at hl 0 rfl) ?_
    refine u_getr C w hw (hP _ _ (isn_f rfl rfl (by decide))) rfl (N := 18) rfl rfl cin_6 4 (by decide) (by decide) (a2 := 13) (i2 := 0) rfl gw_291 dX6_keepProgram_12 ?_
    refine lv_aload_n hx hb dX6_keepProgram_15 rfl (lv_at hl 0 rfl) ?_
    refine u_geti C w hw (hP _ _ (isn_f rfl rfl (by decide))) rfl (N := 18) rfl rfl cin_6 5 (by decide) rfl gw_292 dX6_keepProgram_16 ?_
    refine u_iv h (fun x3 h => ?_)
    refine lv_aload_n hx hb dX6_keepProgram_19 rfl (lv_at hl 0 rfl) ?_
    refine u_getr C w hw (hP _ _ (isn_f rfl rfl (by decide))) rfl (N := 18) rfl rfl cin_6 13 (by decide) (by decide) (a2 := 17) (i2 := 0) rfl gw_300 dX6_keepProgram_20 ?_
    obtain ⟨v4, S5, h6, h⟩ := bd_some h
    refine u_callV (n := 0) C w hw (hP _ _ (isn_f rfl rfl (by decide))) rfl rfl rfl (c_X4_codeRead l D K b0 sa _ L f ad n S0 (hw.mono hP) hn hprobe  v4 S5 h6) gw_894 gw_891 gw_892 gw_893 gw_5 ⟨by decide, by decide, by decide +kernel⟩ rfl rfl ⟨by decide, by decide⟩ rfl hl.1 rfl (Nat.le_of_ble_eq_true rfl) dX6_keepProgram_23 ⟨Nat.le_of_ble_eq_true rfl, Nat.le_of_ble_eq_true rfl⟩ (fun v9 u H locs hp w => ?_)
    obtain ⟨ad2, L2, f2, rfl, rfl, hw2, hG2⟩ := hp
    obtain ⟨ad, P, n, L, f, w, hw, hn, hprobe, hP, hle, hG, hl, es0, ev⟩ : ∃ (ad3 : Nat → Nat → Nat) (P3 : Nat → Nat → Prop) (n3 : Nat × Nat) (L3 : List Nat) (f3 : Nat → va_E), Wh D K b0 sa s H locs L3 f3 ∧ PW K ad3 P3 S5 L3 f3 ∧ S5.2.2.1 = n3 ∧ 0 < n3.1 ∧ (∀ a i : Nat, isn n3 a i → P3 a i) ∧ (∀ a i : Nat, isn nO a i → isn n3 a i) ∧ Gr (fun _ => False) (isn nO) adO LO fO P3 ad3 L3 f3 ∧ lv_has ls 1 [(0, .ref (ad3 0 0))] ∧ ad3 13 0 = ad 13 0 ∧ ad3 29 v4 = ad2 29 v4 := ⟨ad2, isn S5.2.2.1, S5.2.2.1, L2, f2, w, hw2, rfl, gr_pos hG2 hprobe, fun _ _ h => h, fun a i h => (hG2.1 a i (hle a i h)).1, (hG.sub hP hle).tr hG2 (fun _ _ h => h), (by rw [(hG2.1 0 0 (isn_f rfl rfl (by decide))).2]; exact hl), (hG2.1 13 0 (isn_f rfl rfl (by decide))).2, rfl⟩
    rw [← ev]
    rw [← es0]
    obtain ⟨g7, h⟩ := gd_some h
    obtain ⟨g8, h⟩ := gd_some h
    refine u_aast4 C w hw (hP _ _ (isn_f rfl rfl (by decide))) rfl rfl rfl (n := 6) rfl (vp_in_iff.mpr g8) (hP _ _ (isn_c29 (nC_lt hn g7))) dX6_keepProgram_26 (fun f H locs w hw hk1 => ?_)
    have hG := hG.kp hk1
    refine u_sv h hw hn (fun S9 h hw hn => ?_)
    refine lv_aload_n hx hb dX6_keepProgram_27 rfl (lv_at hl 0 rfl) ?_
    refine lv_dup hx hb dX6_keepProgram_28 rfl ?_
    refine u_geti C w hw (hP _ _ (isn_f rfl rfl (by decide))) rfl (N := 18) rfl rfl cin_6 5 (by decide) rfl gw_292 dX6_keepProgram_29 ?_
    refine u_iv h (fun x10 h => ?_)
    refine lv_iconst (v := 1) hx hb dX6_keepProgram_32 (by decide) ?_
    refine lv_iadd hx hb dX6_keepProgram_33 ?_
    refine u_iv h (fun x11 h => ?_)
    refine u_puti C w hw (hP _ _ (isn_f rfl rfl (by decide))) rfl (N := 18) rfl rfl cin_6 tyX6 tyX6_ok nmX6 5 (by decide) rfl rfl rfl rfl gw_292 dX6_keepProgram_34 (fun f H locs w hw hk1 => ?_)
    have hG := hG.kp hk1
    refine u_sv h hw hn (fun S12 h hw hn => ?_)
    refine lv_aload_n hx hb dX6_keepProgram_37 rfl (lv_at hl 0 rfl) ?_
    refine u_geti C w hw (hP _ _ (isn_f rfl rfl (by decide))) rfl (N := 18) rfl rfl cin_6 5 (by decide) rfl gw_292 dX6_keepProgram_38 ?_
    refine u_iv h (fun x13 h => ?_)
    refine lv_iconst (v := 1) hx hb dX6_keepProgram_41 (by decide) ?_
    refine lv_isub hx hb dX6_keepProgram_42 ?_
    refine u_iv h (fun x14 h => ?_)
    exact t_iret C hr hlk w ⟨ad, L, _, so_v h, rfl, gq_w h hw hn hP, gq_g h hn hP hle hG⟩ (by decide) (by decide) dX6_keepProgram_43
  · have h := bb_f h c2
    refine lv_iconst (v := (-1)) hx hb dX6_keepProgram_9 (by decide) ?_
    exact t_iret C hr hlk w ⟨ad, L, _, so_v h, rfl, gq_w h hw hn hP, gq_g h hn hP hle hG⟩ (by decide) (by decide) dX6_keepProgram_10
theorem dX6_keepLaw_0 : decode cX6_keepLaw 0 = .ok (.aload_n 0, 1) := by decide +kernel
theorem dX6_keepLaw_1 : decode cX6_keepLaw 1 = .ok (.getfield 39, 3) := by decide +kernel
theorem dX6_keepLaw_4 : decode cX6_keepLaw 4 = .ok (.iconst 3, 1) := by decide +kernel
theorem dX6_keepLaw_5 : decode cX6_keepLaw 5 = .ok (.if_icmp .lt 5, 3) := by decide +kernel
theorem dX6_keepLaw_8 : decode cX6_keepLaw 8 = .ok (.iconst (-1), 1) := by decide +kernel
theorem dX6_keepLaw_9 : decode cX6_keepLaw 9 = .ok (.ireturn, 1) := by decide +kernel
theorem dX6_keepLaw_10 : decode cX6_keepLaw 10 = .ok (.aload_n 0, 1) := by decide +kernel
theorem dX6_keepLaw_11 : decode cX6_keepLaw 11 = .ok (.getfield 36, 3) := by decide +kernel
theorem dX6_keepLaw_14 : decode cX6_keepLaw 14 = .ok (.aload_n 0, 1) := by decide +kernel
theorem dX6_keepLaw_15 : decode cX6_keepLaw 15 = .ok (.getfield 39, 3) := by decide +kernel
theorem dX6_keepLaw_18 : decode cX6_keepLaw 18 = .ok (.aload_n 0, 1) := by decide +kernel
theorem dX6_keepLaw_19 : decode cX6_keepLaw 19 = .ok (.getfield 61, 3) := by decide +kernel
theorem dX6_keepLaw_22 : decode cX6_keepLaw 22 = .ok (.invokevirtual 329, 3) := by decide +kernel
theorem dX6_keepLaw_25 : decode cX6_keepLaw 25 = .ok (.aastore, 1) := by decide +kernel
theorem dX6_keepLaw_26 : decode cX6_keepLaw 26 = .ok (.aload_n 0, 1) := by decide +kernel
theorem dX6_keepLaw_27 : decode cX6_keepLaw 27 = .ok (.dup, 1) := by decide +kernel
theorem dX6_keepLaw_28 : decode cX6_keepLaw 28 = .ok (.getfield 39, 3) := by decide +kernel
theorem dX6_keepLaw_31 : decode cX6_keepLaw 31 = .ok (.iconst 1, 1) := by decide +kernel
theorem dX6_keepLaw_32 : decode cX6_keepLaw 32 = .ok (.iadd, 1) := by decide +kernel
theorem dX6_keepLaw_33 : decode cX6_keepLaw 33 = .ok (.putfield 39, 3) := by decide +kernel
theorem dX6_keepLaw_36 : decode cX6_keepLaw 36 = .ok (.aload_n 0, 1) := by decide +kernel
theorem dX6_keepLaw_37 : decode cX6_keepLaw 37 = .ok (.getfield 39, 3) := by decide +kernel
theorem dX6_keepLaw_40 : decode cX6_keepLaw 40 = .ok (.iconst 1, 1) := by decide +kernel
theorem dX6_keepLaw_41 : decode cX6_keepLaw 41 = .ok (.isub, 1) := by decide +kernel
theorem dX6_keepLaw_42 : decode cX6_keepLaw 42 = .ok (.ireturn, 1) := by decide +kernel
noncomputable def F_X6_keepLaw  (S0 : fS) : Option (Int32 × fS) := iv (ge S0 0 0 7) (fun x1 => bb (x1 < (3 : Int32)) (iv (ge S0 0 0 7) (fun x3 => bd (F_X4_codeRead  S0) (fun v4 S5 => gd (v4 < nC S5) (gd (ib x3 3) (sv (pr S5 14 0 (x3 : Int32).toNatClampNeg (some v4)) (fun S9 => iv (ge S9 0 0 7) (fun x10 => iv (x10 + (1 : Int32)) (fun x11 => sv (pu S9 0 0 7 x11) (fun S12 => iv (ge S12 0 0 7) (fun x13 => iv (x13 - (1 : Int32)) (fun x14 => some (x14, S12)))))))))))) (some ((-1), S0)))
set_option maxHeartbeats 4000000 in
set_option maxRecDepth 100000 in
theorem c_X6_keepLaw (l : Launch) (D : va_G) (K : Nat → ClassId) (b0 : Nat) (sa : sT) (sz : Nat) (LO : List Nat) (fO : Nat → va_E) (adO : Nat → Nat → Nat) (nO : Nat × Nat) (S0 : fS) (hw : PW K adO (isn nO) S0 LO fO) (hn : S0.2.2.1 = nO) (hprobe : 0 < nO.1)  (v : Int32) (S1 : fS) (h : F_X6_keepLaw  S0 = some (v, S1)) : Met l yX6_keepLaw (.code yX6_keepLaw cX6_keepLaw 1 (some .int) :: gt) { frames := 4, cells := 2, slots := 301, locals := 124 } (va_Pc [.ref (adO 0 0)] (hPre D K b0 sa sz LO fO)) (hQ D K b0 (fun v9 u9 => ∃ (ad2 : Nat → Nat → Nat) (L2 : List Nat) (f2 : Nat → va_E), v9 = some (.int v) ∧ u9 = lU L2 f2 ∧ PW K ad2 (isn S1.2.2.1) S1 L2 f2 ∧ Gr (fun _ => False) (isn nO) adO LO fO (isn S1.2.2.1) ad2 L2 f2)) 2 301 (fun q => b0 ≤ q) := by
  refine t_of (own := RX6) (by decide) rfl ?_ (Nat.le_of_ble_eq_true rfl)
  intro p e s m below meth c ls C w hsz hr hlk hnm hl
  have hx := C.1
  have hb := C.2.1
  dsimp only [F_X6_keepLaw] at h
  obtain ⟨H, eH⟩ : ∃ z, z = s.heap := ⟨_, rfl⟩
  obtain ⟨locs, el⟩ : ∃ z : List Loc, z = [] := ⟨_, rfl⟩
  rw [← eH, ← el] at w ⊢
  obtain ⟨ad, P, n, L, f, w, hw, hn, hprobe, hP, hle, hG, hl⟩ : ∃ (ad2 : Nat → Nat → Nat) (P2 : Nat → Nat → Prop) (n2 : Nat × Nat) (L2 : List Nat) (f2 : Nat → va_E), Wh D K b0 sa s H locs L2 f2 ∧ PW K ad2 P2 S0 L2 f2 ∧ S0.2.2.1 = n2 ∧ 0 < n2.1 ∧ (∀ a i : Nat, isn n2 a i → P2 a i) ∧ (∀ a i : Nat, isn nO a i → isn n2 a i) ∧ Gr (fun _ => False) (isn nO) adO LO fO P2 ad2 L2 f2 ∧ lv_has ls 1 [(0, .ref (ad2 0 0))] := ⟨adO, isn nO, nO, LO, fO, w, hw, hn, hprobe, fun _ _ h => h, fun _ _ h => h, Gr.rf, hl⟩
  refine lv_aload_n hx hb dX6_keepLaw_0 rfl (lv_at hl 0 rfl) ?_
  refine u_geti C w hw (hP _ _ (isn_f rfl rfl (by decide))) rfl (N := 18) rfl rfl cin_6 7 (by decide) rfl gw_294 dX6_keepLaw_1 ?_
  refine u_iv h (fun x1 h => ?_)
  refine lv_iconst (v := 3) hx hb dX6_keepLaw_4 (by decide) ?_
  refine lv_icmp_lt (tgt := 10) hx hb dX6_keepLaw_5 (by decide) (fun c2 => ?_) (fun c2 => ?_)
  · have h := bb_t h c2
    refine lv_aload_n hx hb dX6_keepLaw_10 rfl (lv_at hl 0 rfl) ?_
    refine u_getr C w hw (hP _ _ (isn_f rfl rfl (by decide))) rfl (N := 18) rfl rfl cin_6 6 (by decide) (by decide) (a2 := 14) (i2 := 0) rfl gw_293 dX6_keepLaw_11 ?_
    refine lv_aload_n hx hb dX6_keepLaw_14 rfl (lv_at hl 0 rfl) ?_
    refine u_geti C w hw (hP _ _ (isn_f rfl rfl (by decide))) rfl (N := 18) rfl rfl cin_6 7 (by decide) rfl gw_294 dX6_keepLaw_15 ?_
    refine u_iv h (fun x3 h => ?_)
    refine lv_aload_n hx hb dX6_keepLaw_18 rfl (lv_at hl 0 rfl) ?_
    refine u_getr C w hw (hP _ _ (isn_f rfl rfl (by decide))) rfl (N := 18) rfl rfl cin_6 13 (by decide) (by decide) (a2 := 17) (i2 := 0) rfl gw_300 dX6_keepLaw_19 ?_
    obtain ⟨v4, S5, h6, h⟩ := bd_some h
    refine u_callV (n := 0) C w hw (hP _ _ (isn_f rfl rfl (by decide))) rfl rfl rfl (c_X4_codeRead l D K b0 sa _ L f ad n S0 (hw.mono hP) hn hprobe  v4 S5 h6) gw_894 gw_891 gw_892 gw_893 gw_5 ⟨by decide, by decide, by decide +kernel⟩ rfl rfl ⟨by decide, by decide⟩ rfl hl.1 rfl (Nat.le_of_ble_eq_true rfl) dX6_keepLaw_22 ⟨Nat.le_of_ble_eq_true rfl, Nat.le_of_ble_eq_true rfl⟩ (fun v9 u H locs hp w => ?_)
    obtain ⟨ad2, L2, f2, rfl, rfl, hw2, hG2⟩ := hp
    obtain ⟨ad, P, n, L, f, w, hw, hn, hprobe, hP, hle, hG, hl, es0, ev⟩ : ∃ (ad3 : Nat → Nat → Nat) (P3 : Nat → Nat → Prop) (n3 : Nat × Nat) (L3 : List Nat) (f3 : Nat → va_E), Wh D K b0 sa s H locs L3 f3 ∧ PW K ad3 P3 S5 L3 f3 ∧ S5.2.2.1 = n3 ∧ 0 < n3.1 ∧ (∀ a i : Nat, isn n3 a i → P3 a i) ∧ (∀ a i : Nat, isn nO a i → isn n3 a i) ∧ Gr (fun _ => False) (isn nO) adO LO fO P3 ad3 L3 f3 ∧ lv_has ls 1 [(0, .ref (ad3 0 0))] ∧ ad3 14 0 = ad 14 0 ∧ ad3 29 v4 = ad2 29 v4 := ⟨ad2, isn S5.2.2.1, S5.2.2.1, L2, f2, w, hw2, rfl, gr_pos hG2 hprobe, fun _ _ h => h, fun a i h => (hG2.1 a i (hle a i h)).1, (hG.sub hP hle).tr hG2 (fun _ _ h => h), (by rw [(hG2.1 0 0 (isn_f rfl rfl (by decide))).2]; exact hl), (hG2.1 14 0 (isn_f rfl rfl (by decide))).2, rfl⟩
    rw [← ev]
    rw [← es0]
    obtain ⟨g7, h⟩ := gd_some h
    obtain ⟨g8, h⟩ := gd_some h
    refine u_aast4 C w hw (hP _ _ (isn_f rfl rfl (by decide))) rfl rfl rfl (n := 3) rfl (vp_in_iff.mpr g8) (hP _ _ (isn_c29 (nC_lt hn g7))) dX6_keepLaw_25 (fun f H locs w hw hk1 => ?_)
    have hG := hG.kp hk1
    refine u_sv h hw hn (fun S9 h hw hn => ?_)
    refine lv_aload_n hx hb dX6_keepLaw_26 rfl (lv_at hl 0 rfl) ?_
    refine lv_dup hx hb dX6_keepLaw_27 rfl ?_
    refine u_geti C w hw (hP _ _ (isn_f rfl rfl (by decide))) rfl (N := 18) rfl rfl cin_6 7 (by decide) rfl gw_294 dX6_keepLaw_28 ?_
    refine u_iv h (fun x10 h => ?_)
    refine lv_iconst (v := 1) hx hb dX6_keepLaw_31 (by decide) ?_
    refine lv_iadd hx hb dX6_keepLaw_32 ?_
    refine u_iv h (fun x11 h => ?_)
    refine u_puti C w hw (hP _ _ (isn_f rfl rfl (by decide))) rfl (N := 18) rfl rfl cin_6 tyX6 tyX6_ok nmX6 7 (by decide) rfl rfl rfl rfl gw_294 dX6_keepLaw_33 (fun f H locs w hw hk1 => ?_)
    have hG := hG.kp hk1
    refine u_sv h hw hn (fun S12 h hw hn => ?_)
    refine lv_aload_n hx hb dX6_keepLaw_36 rfl (lv_at hl 0 rfl) ?_
    refine u_geti C w hw (hP _ _ (isn_f rfl rfl (by decide))) rfl (N := 18) rfl rfl cin_6 7 (by decide) rfl gw_294 dX6_keepLaw_37 ?_
    refine u_iv h (fun x13 h => ?_)
    refine lv_iconst (v := 1) hx hb dX6_keepLaw_40 (by decide) ?_
    refine lv_isub hx hb dX6_keepLaw_41 ?_
    refine u_iv h (fun x14 h => ?_)
    exact t_iret C hr hlk w ⟨ad, L, _, so_v h, rfl, gq_w h hw hn hP, gq_g h hn hP hle hG⟩ (by decide) (by decide) dX6_keepLaw_42
  · have h := bb_f h c2
    refine lv_iconst (v := (-1)) hx hb dX6_keepLaw_8 (by decide) ?_
    exact t_iret C hr hlk w ⟨ad, L, _, so_v h, rfl, gq_w h hw hn hP, gq_g h hn hP hle hG⟩ (by decide) (by decide) dX6_keepLaw_9
theorem dX6_program_0 : decode cX6_program 0 = .ok (.iload_n 1, 1) := by decide +kernel
theorem dX6_program_1 : decode cX6_program 1 = .ok (.iconst 0, 1) := by decide +kernel
theorem dX6_program_2 : decode cX6_program 2 = .ok (.aload_n 0, 1) := by decide +kernel
theorem dX6_program_3 : decode cX6_program 3 = .ok (.getfield 52, 3) := by decide +kernel
theorem dX6_program_6 : decode cX6_program 6 = .ok (.invokestatic 92, 3) := by decide +kernel
theorem dX6_program_9 : decode cX6_program 9 = .ok (.invokestatic 96, 3) := by decide +kernel
theorem dX6_program_12 : decode cX6_program 12 = .ok (.aload_n 0, 1) := by decide +kernel
theorem dX6_program_13 : decode cX6_program 13 = .ok (.iconst 0, 1) := by decide +kernel
theorem dX6_program_14 : decode cX6_program 14 = .ok (.putfield 52, 3) := by decide +kernel
theorem dX6_program_17 : decode cX6_program 17 = .ok (.iload_n 2, 1) := by decide +kernel
theorem dX6_program_18 : decode cX6_program 18 = .ok (.ifCond .eq 18, 3) := by decide +kernel
theorem dX6_program_21 : decode cX6_program 21 = .ok (.aload_n 0, 1) := by decide +kernel
theorem dX6_program_22 : decode cX6_program 22 = .ok (.getfield 61, 3) := by decide +kernel
theorem dX6_program_25 : decode cX6_program 25 = .ok (.aload_n 0, 1) := by decide +kernel
theorem dX6_program_26 : decode cX6_program 26 = .ok (.getfield 49, 3) := by decide +kernel
theorem dX6_program_29 : decode cX6_program 29 = .ok (.iload_n 1, 1) := by decide +kernel
theorem dX6_program_30 : decode cX6_program 30 = .ok (.invokevirtual 157, 3) := by decide +kernel
theorem dX6_program_33 : decode cX6_program 33 = .ok (.goto 15, 3) := by decide +kernel
theorem dX6_program_36 : decode cX6_program 36 = .ok (.aload_n 0, 1) := by decide +kernel
theorem dX6_program_37 : decode cX6_program 37 = .ok (.getfield 61, 3) := by decide +kernel
theorem dX6_program_40 : decode cX6_program 40 = .ok (.aload_n 0, 1) := by decide +kernel
theorem dX6_program_41 : decode cX6_program 41 = .ok (.getfield 49, 3) := by decide +kernel
theorem dX6_program_44 : decode cX6_program 44 = .ok (.iload_n 1, 1) := by decide +kernel
theorem dX6_program_45 : decode cX6_program 45 = .ok (.invokevirtual 161, 3) := by decide +kernel
theorem dX6_program_48 : decode cX6_program 48 = .ok (.istore_n 3, 1) := by decide +kernel
theorem dX6_program_49 : decode cX6_program 49 = .ok (.aload_n 0, 1) := by decide +kernel
theorem dX6_program_50 : decode cX6_program 50 = .ok (.aload_n 0, 1) := by decide +kernel
theorem dX6_program_51 : decode cX6_program 51 = .ok (.getfield 61, 3) := by decide +kernel
theorem dX6_program_54 : decode cX6_program 54 = .ok (.getfield 164, 3) := by decide +kernel
theorem dX6_program_57 : decode cX6_program 57 = .ok (.putfield 55, 3) := by decide +kernel
theorem dX6_program_60 : decode cX6_program 60 = .ok (.iload_n 3, 1) := by decide +kernel
theorem dX6_program_61 : decode cX6_program 61 = .ok (.ifCond .ne 14, 3) := by decide +kernel
theorem dX6_program_64 : decode cX6_program 64 = .ok (.aload_n 0, 1) := by decide +kernel
theorem dX6_program_65 : decode cX6_program 65 = .ok (.getfield 61, 3) := by decide +kernel
theorem dX6_program_68 : decode cX6_program 68 = .ok (.getfield 165, 3) := by decide +kernel
theorem dX6_program_71 : decode cX6_program 71 = .ok (.bipush 10, 2) := by decide +kernel
theorem dX6_program_73 : decode cX6_program 73 = .ok (.isub, 1) := by decide +kernel
theorem dX6_program_74 : decode cX6_program 74 = .ok (.ireturn, 1) := by decide +kernel
theorem dX6_program_75 : decode cX6_program 75 = .ok (.iload_n 2, 1) := by decide +kernel
theorem dX6_program_76 : decode cX6_program 76 = .ok (.ifCond .eq 10, 3) := by decide +kernel
theorem dX6_program_79 : decode cX6_program 79 = .ok (.aload_n 0, 1) := by decide +kernel
theorem dX6_program_80 : decode cX6_program 80 = .ok (.invokevirtual 168, 3) := by decide +kernel
theorem dX6_program_83 : decode cX6_program 83 = .ok (.goto 7, 3) := by decide +kernel
theorem dX6_program_86 : decode cX6_program 86 = .ok (.aload_n 0, 1) := by decide +kernel
theorem dX6_program_87 : decode cX6_program 87 = .ok (.invokevirtual 172, 3) := by decide +kernel
theorem dX6_program_90 : decode cX6_program 90 = .ok (.ireturn, 1) := by decide +kernel
noncomputable def B_X6_program_48 (a2 : Int32) (t0 : Int32) (S : fS) : Option ((Nat × Int32) × fS) := iv (ge S 17 0 11) (fun x1 => sv (pu S 0 0 12 x1) (fun S2 => bb (t0 = (0 : Int32)) (iv (ge S2 17 0 10) (fun x11 => iv (x11 - (10 : Int32)) (fun x12 => some ((0, x12), S2)))) (bb (a2 = (0 : Int32)) (bd (F_X6_keepProgram  S2) (fun v5 S6 => some ((0, v5), S6))) (bd (F_X6_keepLaw  S2) (fun v8 S9 => some ((0, v8), S9))))))
noncomputable def F_X6_program (p1 : Int32) (p2 : Int32) (S0 : fS) : Option ((Nat × Int32) × fS) := iv (ge S0 0 0 11) (fun x13 => bd (F_X6_within p1 0 x13 S0) (fun v14 S15 => bx (F_X6_need v14 S15) (fun v17 S18 => sv (pu S18 0 0 11 0) (fun S21 => bb (p2 = (0 : Int32)) (bd (F_X4_readProgram p1 S21) (fun v23 S24 => B_X6_program_48  p2 v23 S24)) (bd (F_X4_readLaw p1 S21) (fun v26 S27 => B_X6_program_48  p2 v26 S27))))))
set_option maxHeartbeats 4000000 in
set_option maxRecDepth 100000 in
theorem c_X6_program (l : Launch) (hls : l.stackTraces = false) (D : va_G) (K : Nat → ClassId) (b0 : Nat) (sa : sT) (sz : Nat) (LO : List Nat) (fO : Nat → va_E) (adO : Nat → Nat → Nat) (nO : Nat × Nat) (S0 : fS) (hw : PW K adO (isn nO) S0 LO fO) (hn : S0.2.2.1 = nO) (hprobe : 0 < nO.1) (p1 : Int32) (p2 : Int32) (ec : Nat) (v : Int32) (S1 : fS) (h : F_X6_program p1 p2 S0 = some ((ec, v), S1)) : vx_Met l yX6_program (.code yX6_program cX6_program 4 (some .int) :: gt) { frames := 71, cells := 3, slots := 307, locals := 2691 } (va_Pc [.ref (adO 0 0), .int p1, .int p2] (hPre D K b0 sa sz LO fO)) (hQ D K b0 (fun v9 u9 => ec = 0 ∧ v9 = some (.int v) ∧ ∃ (ad2 : Nat → Nat → Nat) (L2 : List Nat) (f2 : Nat → va_E), u9 = lU L2 f2 ∧ PW K ad2 (isn S1.2.2.1) S1 L2 f2 ∧ Gr (fun _ => False) (isn nO) adO LO fO (isn S1.2.2.1) ad2 L2 f2)) (hX D K b0 (fun E u9 => (ec ≠ 0 ∧ E = exn ec) ∧ ∃ (ad2 : Nat → Nat → Nat) (L2 : List Nat) (f2 : Nat → va_E), u9 = lU L2 f2 ∧ PW K ad2 (isn S1.2.2.1) S1 L2 f2 ∧ Gr (fun _ => False) (isn nO) adO LO fO (isn S1.2.2.1) ad2 L2 f2)) 3 307 (fun q => b0 ≤ q) := by
  refine t_xof (own := RX6) (by decide) rfl ?_ (Nat.le_of_ble_eq_true rfl)
  intro p e s m below meth c ls C w hsz hr hlk htb hl
  have hx := C.1
  have hb := C.2.1
  have J48 : ∀ (a2 : Int32) (t0 : Int32) (S : fS), B_X6_program_48  a2 t0 S = some ((ec, v), S1) → GwG D K b0 sa nO adO LO fO (fun _ => True) p l e { frames := 71, cells := 3, slots := 307, locals := 2691 } s m [.ref (adO 0 0), .int p1, .int p2].toArray below meth c 4 (vx_MQ below (hQ D K b0 (fun v9 u9 => ec = 0 ∧ v9 = some (.int v) ∧ ∃ (ad2 : Nat → Nat → Nat) (L2 : List Nat) (f2 : Nat → va_E), u9 = lU L2 f2 ∧ PW K ad2 (isn S1.2.2.1) S1 L2 f2 ∧ Gr (fun _ => False) (isn nO) adO LO fO (isn S1.2.2.1) ad2 L2 f2)) (hX D K b0 (fun E u9 => (ec ≠ 0 ∧ E = exn ec) ∧ ∃ (ad2 : Nat → Nat → Nat) (L2 : List Nat) (f2 : Nat → va_E), u9 = lU L2 f2 ∧ PW K ad2 (isn S1.2.2.1) S1 L2 f2 ∧ Gr (fun _ => False) (isn nO) adO LO fO (isn S1.2.2.1) ad2 L2 f2)) [.ref (adO 0 0), .int p1, .int p2].toArray s 3 307 (fun q => b0 ≤ q)) 1 6 48 (fun ad => [(0, .ref (ad 0 0)), (2, .int a2)]) (fun ad => [.int t0]) S := by
    intro a2 t0 S h
    dsimp only [B_X6_program_48] at h
    intro ad P n L f H locs w G ls hl
    obtain ⟨hw, hn, hprobe, hP, hle, hG, -⟩ := G
    have hl : lv_has ls 4 [(0, .ref (ad 0 0)), (2, .int a2)] := hl
    refine lv_istore_n (lv' := [(3, .int t0), (0, .ref (ad 0 0)), (2, .int a2)]) hx hb dX6_program_48 rfl hl (by decide) rfl (fun ls hl => ?_)
    refine lv_aload_n hx hb dX6_program_49 rfl (lv_at hl 1 rfl) ?_
    refine lv_aload_n hx hb dX6_program_50 rfl (lv_at hl 1 rfl) ?_
    refine u_getr C w hw (hP _ _ (isn_f rfl rfl (by decide))) rfl (N := 18) rfl rfl cin_6 13 (by decide) (by decide) (a2 := 17) (i2 := 0) rfl gw_300 dX6_program_51 ?_
    refine u_geti C w hw (hP _ _ (isn_f rfl rfl (by decide))) rfl (N := 12) rfl rfl cin_4 11 (by decide) rfl gw_171 dX6_program_54 ?_
    refine u_iv h (fun x1 h => ?_)
    refine u_puti C w hw (hP _ _ (isn_f rfl rfl (by decide))) rfl (N := 18) rfl rfl cin_6 tyX6 tyX6_ok nmX6 12 (by decide) rfl rfl rfl rfl gw_299 dX6_program_57 (fun f H locs w hw hk1 => ?_)
    have hG := hG.kp hk1
    refine u_sv h hw hn (fun S2 h hw hn => ?_)
    refine lv_iload_n hx hb dX6_program_60 rfl (lv_at hl 0 rfl) ?_
    refine lv_if_ne (tgt := 75) hx hb dX6_program_61 (by decide) (fun c3 => ?_) (fun c3 => ?_)
    · have h := bb_f h c3
      refine lv_iload_n hx hb dX6_program_75 rfl (lv_at hl 2 rfl) ?_
      refine lv_if_eq (tgt := 86) hx hb dX6_program_76 (by decide) (fun c4 => ?_) (fun c4 => ?_)
      · have h := bb_t h c4
        refine lv_aload_n hx hb dX6_program_86 rfl (lv_at hl 1 rfl) ?_
        obtain ⟨v5, S6, h7, h⟩ := bd_some h
        refine u_callV (n := 0) C w hw (hP _ _ (isn_f rfl rfl (by decide))) rfl rfl rfl (c_X6_keepProgram l D K b0 sa _ L f ad n S2 (hw.mono hP) hn hprobe  v5 S6 h7) gw_922 gw_919 gw_921 gs_15 gw_1 ⟨by decide, by decide, by decide +kernel⟩ rfl rfl ⟨by decide, by decide⟩ rfl hl.1 rfl (Nat.le_of_ble_eq_true rfl) dX6_program_87 ⟨Nat.le_of_ble_eq_true rfl, Nat.le_of_ble_eq_true rfl⟩ (fun v9 u H locs hp w => ?_)
        obtain ⟨ad2, L2, f2, rfl, rfl, hw2, hG2⟩ := hp
        obtain ⟨ad, P, n, L, f, w, hw, hn, hprobe, hP, hle, hG, hl⟩ : ∃ (ad3 : Nat → Nat → Nat) (P3 : Nat → Nat → Prop) (n3 : Nat × Nat) (L3 : List Nat) (f3 : Nat → va_E), Wh D K b0 sa s H locs L3 f3 ∧ PW K ad3 P3 S6 L3 f3 ∧ S6.2.2.1 = n3 ∧ 0 < n3.1 ∧ (∀ a i : Nat, isn n3 a i → P3 a i) ∧ (∀ a i : Nat, isn nO a i → isn n3 a i) ∧ Gr (fun _ => False) (isn nO) adO LO fO P3 ad3 L3 f3 ∧ lv_has ls 4 [(3, .int t0), (0, .ref (ad3 0 0)), (2, .int a2)] := ⟨ad2, isn S6.2.2.1, S6.2.2.1, L2, f2, w, hw2, rfl, gr_pos hG2 hprobe, fun _ _ h => h, fun a i h => (hG2.1 a i (hle a i h)).1, (hG.sub hP hle).tr hG2 (fun _ _ h => h), (by rw [(hG2.1 0 0 (isn_f rfl rfl (by decide))).2]; exact hl)⟩
        refine vx_ret ?_
        exact t_iret C hr hlk w ⟨sx_e h, sx_v h, ad, L, _, rfl, gq_w h hw hn hP, gq_g h hn hP hle hG⟩ (by decide) (by decide) dX6_program_90
      · have h := bb_f h c4
        refine lv_aload_n hx hb dX6_program_79 rfl (lv_at hl 1 rfl) ?_
        obtain ⟨v8, S9, h10, h⟩ := bd_some h
        refine u_callV (n := 0) C w hw (hP _ _ (isn_f rfl rfl (by decide))) rfl rfl rfl (c_X6_keepLaw l D K b0 sa _ L f ad n S2 (hw.mono hP) hn hprobe  v8 S9 h10) gw_890 gw_887 gw_889 gs_14 gw_1 ⟨by decide, by decide, by decide +kernel⟩ rfl rfl ⟨by decide, by decide⟩ rfl hl.1 rfl (Nat.le_of_ble_eq_true rfl) dX6_program_80 ⟨Nat.le_of_ble_eq_true rfl, Nat.le_of_ble_eq_true rfl⟩ (fun v9 u H locs hp w => ?_)
        obtain ⟨ad2, L2, f2, rfl, rfl, hw2, hG2⟩ := hp
        obtain ⟨ad, P, n, L, f, w, hw, hn, hprobe, hP, hle, hG, hl⟩ : ∃ (ad3 : Nat → Nat → Nat) (P3 : Nat → Nat → Prop) (n3 : Nat × Nat) (L3 : List Nat) (f3 : Nat → va_E), Wh D K b0 sa s H locs L3 f3 ∧ PW K ad3 P3 S9 L3 f3 ∧ S9.2.2.1 = n3 ∧ 0 < n3.1 ∧ (∀ a i : Nat, isn n3 a i → P3 a i) ∧ (∀ a i : Nat, isn nO a i → isn n3 a i) ∧ Gr (fun _ => False) (isn nO) adO LO fO P3 ad3 L3 f3 ∧ lv_has ls 4 [(3, .int t0), (0, .ref (ad3 0 0)), (2, .int a2)] := ⟨ad2, isn S9.2.2.1, S9.2.2.1, L2, f2, w, hw2, rfl, gr_pos hG2 hprobe, fun _ _ h => h, fun a i h => (hG2.1 a i (hle a i h)).1, (hG.sub hP hle).tr hG2 (fun _ _ h => h), (by rw [(hG2.1 0 0 (isn_f rfl rfl (by decide))).2]; exact hl)⟩
        refine lv_goto (tgt := 90) hx hb dX6_program_83 (by decide) ?_
        refine vx_ret ?_
        exact t_iret C hr hlk w ⟨sx_e h, sx_v h, ad, L, _, rfl, gq_w h hw hn hP, gq_g h hn hP hle hG⟩ (by decide) (by decide) dX6_program_90
    · have h := bb_t h c3
      refine lv_aload_n hx hb dX6_program_64 rfl (lv_at hl 1 rfl) ?_
      refine u_getr C w hw (hP _ _ (isn_f rfl rfl (by decide))) rfl (N := 18) rfl rfl cin_6 13 (by decide) (by decide) (a2 := 17) (i2 := 0) rfl gw_300 dX6_program_65 ?_
      refine u_geti C w hw (hP _ _ (isn_f rfl rfl (by decide))) rfl (N := 12) rfl rfl cin_4 10 (by decide) rfl gw_169 dX6_program_68 ?_
      refine u_iv h (fun x11 h => ?_)
      refine lv_bipush (v := 10) hx hb dX6_program_71 (by decide) ?_
      refine lv_isub hx hb dX6_program_73 ?_
      refine u_iv h (fun x12 h => ?_)
      refine vx_ret ?_
      exact t_iret C hr hlk w ⟨sx_e h, sx_v h, ad, L, _, rfl, gq_w h hw hn hP, gq_g h hn hP hle hG⟩ (by decide) (by decide) dX6_program_74
  dsimp only [F_X6_program] at h
  obtain ⟨H, eH⟩ : ∃ z, z = s.heap := ⟨_, rfl⟩
  obtain ⟨locs, el⟩ : ∃ z : List Loc, z = [] := ⟨_, rfl⟩
  rw [← eH, ← el] at w ⊢
  obtain ⟨ad, P, n, L, f, w, hw, hn, hprobe, hP, hle, hG, hl⟩ : ∃ (ad2 : Nat → Nat → Nat) (P2 : Nat → Nat → Prop) (n2 : Nat × Nat) (L2 : List Nat) (f2 : Nat → va_E), Wh D K b0 sa s H locs L2 f2 ∧ PW K ad2 P2 S0 L2 f2 ∧ S0.2.2.1 = n2 ∧ 0 < n2.1 ∧ (∀ a i : Nat, isn n2 a i → P2 a i) ∧ (∀ a i : Nat, isn nO a i → isn n2 a i) ∧ Gr (fun _ => False) (isn nO) adO LO fO P2 ad2 L2 f2 ∧ lv_has ls 4 [(0, .ref (ad2 0 0)), (1, .int p1), (2, .int p2)] := ⟨adO, isn nO, nO, LO, fO, w, hw, hn, hprobe, fun _ _ h => h, fun _ _ h => h, Gr.rf, hl⟩
  refine lv_iload_n hx hb dX6_program_0 rfl (lv_at hl 1 rfl) ?_
  refine lv_iconst (v := 0) hx hb dX6_program_1 (by decide) ?_
  refine lv_aload_n hx hb dX6_program_2 rfl (lv_at hl 0 rfl) ?_
  refine u_geti C w hw (hP _ _ (isn_f rfl rfl (by decide))) rfl (N := 18) rfl rfl cin_6 11 (by decide) rfl gw_298 dX6_program_3 ?_
  refine u_iv h (fun x13 h => ?_)
  obtain ⟨v14, S15, h16, h⟩ := bd_some h
  refine t_callS (n := 3) C w (c_X6_within l D K b0 sa _ L _ ad P hP S0 hw hn p1 0 x13 v14 S15 h16) gw_376 gw_374 gw_375 gw_1 ⟨by decide, by decide, by decide +kernel⟩ rfl rfl ⟨by decide, by decide⟩ rfl hl.1 rfl (Nat.le_of_ble_eq_true rfl) dX6_program_6 ⟨Nat.le_of_ble_eq_true rfl, Nat.le_of_ble_eq_true rfl⟩ (fun v9 u H locs hp w => ?_)
  obtain ⟨f2, rfl, rfl, hw, hn, hk1⟩ := hp
  have hG := hG.kp hk1
  generalize f2 = f at w hw hG
  rcases bx_some h with ⟨v17, S18, h19, h⟩ | ⟨e20, v17, S18, h19, h⟩
  rotate_left
  · refine t_xcallS (n := 1) C w (c_X6_need l hls D K b0 sa _ L _ ad P hP S15 hw hn v14 (e20 + 1) v17 S18 h19) gw_625 gw_623 gw_624 gw_1 ⟨by decide, by decide, by decide +kernel⟩ rfl rfl ⟨by decide, by decide⟩ rfl hl.1 rfl (Nat.le_of_ble_eq_true rfl) dX6_program_9 ⟨Nat.le_of_ble_eq_true rfl, Nat.le_of_ble_eq_true rfl⟩ (fun E ce q9 u H locs hp w hcell hv0 hcl => ?_) (fun v9 u H locs hp w => absurd hp.1 (Nat.succ_ne_zero _))
    obtain ⟨⟨he, hE⟩, f2, rfl, hw, hn, hk1⟩ := hp
    exact t_xout w htb hlk hcell hv0 hcl ⟨sz_e h he hE, ad, L, _, rfl, gz_w h hw hn hP, gz_g h hn hP hle (hG.kp hk1)⟩ (by decide) (by decide)
  refine t_xcallS (n := 1) C w (c_X6_need l hls D K b0 sa _ L _ ad P hP S15 hw hn v14 0 v17 S18 h19) gw_625 gw_623 gw_624 gw_1 ⟨by decide, by decide, by decide +kernel⟩ rfl rfl ⟨by decide, by decide⟩ rfl hl.1 rfl (Nat.le_of_ble_eq_true rfl) dX6_program_9 ⟨Nat.le_of_ble_eq_true rfl, Nat.le_of_ble_eq_true rfl⟩ (fun E ce q9 u H locs hp w hcell hv0 hcl => absurd rfl hp.1.1) (fun v9 u H locs hp w => ?_)
  obtain ⟨-, rfl, f2, rfl, hw, hn, hk1⟩ := hp
  have hG := hG.kp hk1
  generalize f2 = f at w hw hG
  refine lv_aload_n hx hb dX6_program_12 rfl (lv_at hl 0 rfl) ?_
  refine lv_iconst (v := 0) hx hb dX6_program_13 (by decide) ?_
  refine u_puti C w hw (hP _ _ (isn_f rfl rfl (by decide))) rfl (N := 18) rfl rfl cin_6 tyX6 tyX6_ok nmX6 11 (by decide) rfl rfl rfl rfl gw_298 dX6_program_14 (fun f H locs w hw hk1 => ?_)
  have hG := hG.kp hk1
  refine u_sv h hw hn (fun S21 h hw hn => ?_)
  refine lv_iload_n hx hb dX6_program_17 rfl (lv_at hl 2 rfl) ?_
  refine lv_if_eq (tgt := 36) hx hb dX6_program_18 (by decide) (fun c22 => ?_) (fun c22 => ?_)
  · have h := bb_t h c22
    refine lv_aload_n hx hb dX6_program_36 rfl (lv_at hl 0 rfl) ?_
    refine u_getr C w hw (hP _ _ (isn_f rfl rfl (by decide))) rfl (N := 18) rfl rfl cin_6 13 (by decide) (by decide) (a2 := 17) (i2 := 0) rfl gw_300 dX6_program_37 ?_
    refine lv_aload_n hx hb dX6_program_40 rfl (lv_at hl 0 rfl) ?_
    refine u_getr C w hw (hP _ _ (isn_f rfl rfl (by decide))) rfl (N := 18) rfl rfl cin_6 10 (by decide) (by decide) (a2 := 16) (i2 := 0) rfl gw_297 dX6_program_41 ?_
    refine lv_iload_n hx hb dX6_program_44 rfl (lv_at hl 1 rfl) ?_
    obtain ⟨v23, S24, h25, h⟩ := bd_some h
    refine u_callV (n := 2) C w hw (hP _ _ (isn_f rfl rfl (by decide))) rfl rfl rfl (c_X4_readProgram l D K b0 sa _ L _ ad P hP S21 hw hn p1 v23 S24 h25) gw_882 gw_879 gw_880 gw_881 gw_5 ⟨by decide, by decide, by decide +kernel⟩ rfl rfl ⟨by decide, by decide⟩ rfl hl.1 rfl (Nat.le_of_ble_eq_true rfl) dX6_program_45 ⟨Nat.le_of_ble_eq_true rfl, Nat.le_of_ble_eq_true rfl⟩ (fun v9 u H locs hp w => ?_)
    obtain ⟨f2, rfl, rfl, hw, hn, hk1⟩ := hp
    have hG := hG.kp hk1
    generalize f2 = f at w hw hG
    exact J48  p2 v23 S24 h ad P n L f H locs w ⟨hw, hn, hprobe, hP, hle, hG, trivial⟩ ls (lv_sub hl [0, 2] rfl)
  · have h := bb_f h c22
    refine lv_aload_n hx hb dX6_program_21 rfl (lv_at hl 0 rfl) ?_
    refine u_getr C w hw (hP _ _ (isn_f rfl rfl (by decide))) rfl (N := 18) rfl rfl cin_6 13 (by decide) (by decide) (a2 := 17) (i2 := 0) rfl gw_300 dX6_program_22 ?_
    refine lv_aload_n hx hb dX6_program_25 rfl (lv_at hl 0 rfl) ?_
    refine u_getr C w hw (hP _ _ (isn_f rfl rfl (by decide))) rfl (N := 18) rfl rfl cin_6 10 (by decide) (by decide) (a2 := 16) (i2 := 0) rfl gw_297 dX6_program_26 ?_
    refine lv_iload_n hx hb dX6_program_29 rfl (lv_at hl 1 rfl) ?_
    obtain ⟨v26, S27, h28, h⟩ := bd_some h
    refine u_callV (n := 2) C w hw (hP _ _ (isn_f rfl rfl (by decide))) rfl rfl rfl (c_X4_readLaw l D K b0 sa _ L _ ad P hP S21 hw hn p1 v26 S27 h28) gw_727 gw_724 gw_725 gw_726 gw_5 ⟨by decide, by decide, by decide +kernel⟩ rfl rfl ⟨by decide, by decide⟩ rfl hl.1 rfl (Nat.le_of_ble_eq_true rfl) dX6_program_30 ⟨Nat.le_of_ble_eq_true rfl, Nat.le_of_ble_eq_true rfl⟩ (fun v9 u H locs hp w => ?_)
    obtain ⟨f2, rfl, rfl, hw, hn, hk1⟩ := hp
    have hG := hG.kp hk1
    generalize f2 = f at w hw hG
    refine lv_goto (tgt := 48) hx hb dX6_program_33 (by decide) ?_
    exact J48  p2 v26 S27 h ad P n L f H locs w ⟨hw, hn, hprobe, hP, hle, hG, trivial⟩ ls (lv_sub hl [0, 2] rfl)
