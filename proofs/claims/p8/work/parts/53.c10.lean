theorem dX6_codeInForce_0 : decode cX6_codeInForce 0 = .ok (.aload_n 0, 1) := by decide +kernel
theorem dX6_codeInForce_1 : decode cX6_codeInForce 1 = .ok (.getfield 10, 3) := by decide +kernel
theorem dX6_codeInForce_4 : decode cX6_codeInForce 4 = .ok (.getfield 175, 3) := by decide +kernel
theorem dX6_codeInForce_7 : decode cX6_codeInForce 7 = .ok (.iconst 0, 1) := by decide +kernel
theorem dX6_codeInForce_8 : decode cX6_codeInForce 8 = .ok (.aload_n 0, 1) := by decide +kernel
theorem dX6_codeInForce_9 : decode cX6_codeInForce 9 = .ok (.getfield 33, 3) := by decide +kernel
theorem dX6_codeInForce_12 : decode cX6_codeInForce 12 = .ok (.iconst 1, 1) := by decide +kernel
theorem dX6_codeInForce_13 : decode cX6_codeInForce 13 = .ok (.isub, 1) := by decide +kernel
theorem dX6_codeInForce_14 : decode cX6_codeInForce 14 = .ok (.invokestatic 92, 3) := by decide +kernel
theorem dX6_codeInForce_17 : decode cX6_codeInForce 17 = .ok (.ifCond .eq 18, 3) := by decide +kernel
theorem dX6_codeInForce_20 : decode cX6_codeInForce 20 = .ok (.aload_n 0, 1) := by decide +kernel
theorem dX6_codeInForce_21 : decode cX6_codeInForce 21 = .ok (.getfield 29, 3) := by decide +kernel
theorem dX6_codeInForce_24 : decode cX6_codeInForce 24 = .ok (.aload_n 0, 1) := by decide +kernel
theorem dX6_codeInForce_25 : decode cX6_codeInForce 25 = .ok (.getfield 10, 3) := by decide +kernel
theorem dX6_codeInForce_28 : decode cX6_codeInForce 28 = .ok (.getfield 175, 3) := by decide +kernel
theorem dX6_codeInForce_31 : decode cX6_codeInForce 31 = .ok (.aaload, 1) := by decide +kernel
theorem dX6_codeInForce_32 : decode cX6_codeInForce 32 = .ok (.goto 4, 3) := by decide +kernel
theorem dX6_codeInForce_35 : decode cX6_codeInForce 35 = .ok (.aconst_null, 1) := by decide +kernel
theorem dX6_codeInForce_36 : decode cX6_codeInForce 36 = .ok (.areturn, 1) := by decide +kernel
noncomputable def F_X6_codeInForce  (S0 : fS) : Option (Option Nat × fS) := iv (ge S0 1 0 6) (fun x1 => iv (ge S0 0 0 5) (fun x2 => iv (x2 - (1 : Int32)) (fun x3 => bd (F_X6_within x1 0 x3 S0) (fun v4 S5 => bb (v4 = (0 : Int32)) (some (none, S5)) (iv (ge S5 1 0 6) (fun x8 => gd (ib x8 6) (qv (gr S5 13 0 (x8 : Int32).toNatClampNeg) (fun o10 => some (o10, S5)))))))))
set_option maxHeartbeats 4000000 in
set_option maxRecDepth 100000 in
theorem c_X6_codeInForce (l : Launch) (D : va_G) (K : Nat → ClassId) (b0 : Nat) (sa : sT) (sz : Nat) (L : List Nat) (f0 : Nat → va_E) (ad : Nat → Nat → Nat) (P : Nat → Nat → Prop) {n : Nat × Nat} (hP : ∀ a i : Nat, isn n a i → P a i) (S0 : fS) (hw : PW K ad P S0 L f0) (hn : S0.2.2.1 = n)  (v : Option Nat) (S1 : fS) (h : F_X6_codeInForce  S0 = some (v, S1)) : Met l yX6_codeInForce (.code yX6_codeInForce cX6_codeInForce 1 (some (.object "ClawBoxes$Code")) :: gt) { frames := 1, cells := 0, slots := 0, locals := 22 } (va_Pc [.ref (ad 0 0)] (hPre D K b0 sa sz L f0)) (hQ D K b0 (fun v9 u9 => ∃ f2 : Nat → va_E, v9 = some (va_rf (Option.map (ad 29) v)) ∧ u9 = lU L f2 ∧ PW K ad P S1 L f2 ∧ S1.2.2.1 = n ∧ Kp ad P L f0 f2)) 0 0 (fun q => b0 ≤ q) := by
  refine t_of (own := RX6) (by decide) rfl ?_ (Nat.le_of_ble_eq_true rfl)
  intro p e s m below meth c ls C w hsz hr hlk hnm hl
  have hx := C.1
  have hb := C.2.1
  have hl : lv_has ls 1 [(0, .ref (ad 0 0))] := hl
  dsimp only [F_X6_codeInForce] at h
  obtain ⟨f, ef⟩ : ∃ z, z = f0 := ⟨_, rfl⟩
  rw [← ef] at w hw
  have hk : Kp ad P L f0 f := by rw [ef]; exact Kp.rf
  obtain ⟨H, eH⟩ : ∃ z, z = s.heap := ⟨_, rfl⟩
  obtain ⟨locs, el⟩ : ∃ z : List Loc, z = [] := ⟨_, rfl⟩
  rw [← eH, ← el] at w ⊢
  refine lv_aload_n hx hb dX6_codeInForce_0 rfl (lv_at hl 0 rfl) ?_
  refine u_getr C w hw (hP _ _ (isn_f rfl rfl (by decide))) rfl (N := 18) rfl rfl cin_6 0 (by decide) (by decide) (a2 := 1) (i2 := 0) rfl gw_287 dX6_codeInForce_1 ?_
  refine u_geti C w hw (hP _ _ (isn_f rfl rfl (by decide))) rfl (N := 13) rfl rfl cin_0 6 (by decide) rfl gw_106 dX6_codeInForce_4 ?_
  refine u_iv h (fun x1 h => ?_)
  refine lv_iconst (v := 0) hx hb dX6_codeInForce_7 (by decide) ?_
  refine lv_aload_n hx hb dX6_codeInForce_8 rfl (lv_at hl 0 rfl) ?_
  refine u_geti C w hw (hP _ _ (isn_f rfl rfl (by decide))) rfl (N := 18) rfl rfl cin_6 5 (by decide) rfl gw_292 dX6_codeInForce_9 ?_
  refine u_iv h (fun x2 h => ?_)
  refine lv_iconst (v := 1) hx hb dX6_codeInForce_12 (by decide) ?_
  refine lv_isub hx hb dX6_codeInForce_13 ?_
  refine u_iv h (fun x3 h => ?_)
  obtain ⟨v4, S5, h6, h⟩ := bd_some h
  refine t_callS (n := 3) C w (c_X6_within l D K b0 sa _ L _ ad P hP S0 hw hn x1 0 x3 v4 S5 h6) gw_376 gw_374 gw_375 gw_1 ⟨by decide, by decide, by decide +kernel⟩ rfl rfl ⟨by decide, by decide⟩ rfl hl.1 rfl (Nat.le_of_ble_eq_true rfl) dX6_codeInForce_14 ⟨Nat.le_of_ble_eq_true rfl, Nat.le_of_ble_eq_true rfl⟩ (fun v9 u H locs hp w => ?_)
  obtain ⟨f2, rfl, rfl, hw, hn, hk1⟩ := hp
  have hk := hk.tr hk1
  generalize f2 = f at w hw hk
  refine lv_if_eq (tgt := 35) hx hb dX6_codeInForce_17 (by decide) (fun c7 => ?_) (fun c7 => ?_)
  · have h := bb_t h c7
    refine lv_null hx hb dX6_codeInForce_35 ?_
    exact t_aret C hr (Or.inl ⟨_, rfl⟩) hlk w (Or.inl rfl) ⟨_, sq_v h (fun z => va_rf (Option.map (ad 29) z)), rfl, sq_w h hw, sq_n h hn, hk⟩ (by decide) (by decide) dX6_codeInForce_36
  · have h := bb_f h c7
    refine lv_aload_n hx hb dX6_codeInForce_20 rfl (lv_at hl 0 rfl) ?_
    refine u_getr C w hw (hP _ _ (isn_f rfl rfl (by decide))) rfl (N := 18) rfl rfl cin_6 4 (by decide) (by decide) (a2 := 13) (i2 := 0) rfl gw_291 dX6_codeInForce_21 ?_
    refine lv_aload_n hx hb dX6_codeInForce_24 rfl (lv_at hl 0 rfl) ?_
    refine u_getr C w hw (hP _ _ (isn_f rfl rfl (by decide))) rfl (N := 18) rfl rfl cin_6 0 (by decide) (by decide) (a2 := 1) (i2 := 0) rfl gw_287 dX6_codeInForce_25 ?_
    refine u_geti C w hw (hP _ _ (isn_f rfl rfl (by decide))) rfl (N := 13) rfl rfl cin_0 6 (by decide) rfl gw_106 dX6_codeInForce_28 ?_
    refine u_iv h (fun x8 h => ?_)
    obtain ⟨g9, h⟩ := gd_some h
    refine u_aald4 C w hw (hP _ _ (isn_f rfl rfl (by decide))) rfl rfl rfl (n := 6) rfl (vp_in_iff.mpr g9) dX6_codeInForce_31 ?_
    refine u_qv h (fun o10 h => ?_)
    refine lv_goto (tgt := 36) hx hb dX6_codeInForce_32 (by decide) ?_
    exact t_aret C hr (Or.inl ⟨_, rfl⟩) hlk w (rf_or _) ⟨_, sq_v h (fun z => va_rf (Option.map (ad 29) z)), rfl, sq_w h hw, sq_n h hn, hk⟩ (by decide) (by decide) dX6_codeInForce_36
theorem dX3_run_0 : decode cX3_run 0 = .ok (.aload_n 0, 1) := by decide +kernel
theorem dX3_run_1 : decode cX3_run 1 = .ok (.iconst 0, 1) := by decide +kernel
theorem dX3_run_2 : decode cX3_run 2 = .ok (.putfield 15, 3) := by decide +kernel
theorem dX3_run_5 : decode cX3_run 5 = .ok (.aload_n 0, 1) := by decide +kernel
theorem dX3_run_6 : decode cX3_run 6 = .ok (.getfield 19, 3) := by decide +kernel
theorem dX3_run_9 : decode cX3_run 9 = .ok (.iconst 0, 1) := by decide +kernel
theorem dX3_run_10 : decode cX3_run 10 = .ok (.invokestatic 39, 3) := by decide +kernel
theorem dX3_run_13 : decode cX3_run 13 = .ok (.aload_n 1, 1) := by decide +kernel
theorem dX3_run_14 : decode cX3_run 14 = .ok (.ifnonnull 4, 3) := by decide +kernel
theorem dX3_run_17 : decode cX3_run 17 = .ok (.return_, 1) := by decide +kernel
theorem dX3_run_18 : decode cX3_run 18 = .ok (.iconst 0, 1) := by decide +kernel
theorem dX3_run_19 : decode cX3_run 19 = .ok (.istore 4, 2) := by decide +kernel
theorem dX3_run_21 : decode cX3_run 21 = .ok (.iload 4, 2) := by decide +kernel
theorem dX3_run_23 : decode cX3_run 23 = .ok (.aload_n 1, 1) := by decide +kernel
theorem dX3_run_24 : decode cX3_run 24 = .ok (.getfield 45, 3) := by decide +kernel
theorem dX3_run_27 : decode cX3_run 27 = .ok (.arraylength, 1) := by decide +kernel
theorem dX3_run_28 : decode cX3_run 28 = .ok (.if_icmp .ge 67, 3) := by decide +kernel
theorem dX3_run_31 : decode cX3_run 31 = .ok (.aload_n 1, 1) := by decide +kernel
theorem dX3_run_32 : decode cX3_run 32 = .ok (.getfield 45, 3) := by decide +kernel
theorem dX3_run_35 : decode cX3_run 35 = .ok (.iload 4, 2) := by decide +kernel
theorem dX3_run_37 : decode cX3_run 37 = .ok (.iaload, 1) := by decide +kernel
theorem dX3_run_38 : decode cX3_run 38 = .ok (.istore 5, 2) := by decide +kernel
theorem dX3_run_40 : decode cX3_run 40 = .ok (.iload 5, 2) := by decide +kernel
theorem dX3_run_42 : decode cX3_run 42 = .ok (.sipush 1000, 3) := by decide +kernel
theorem dX3_run_45 : decode cX3_run 45 = .ok (.if_icmp .ge 12, 3) := by decide +kernel
theorem dX3_run_48 : decode cX3_run 48 = .ok (.aload_n 0, 1) := by decide +kernel
theorem dX3_run_49 : decode cX3_run 49 = .ok (.iload 5, 2) := by decide +kernel
theorem dX3_run_51 : decode cX3_run 51 = .ok (.invokevirtual 50, 3) := by decide +kernel
theorem dX3_run_54 : decode cX3_run 54 = .ok (.goto 35, 3) := by decide +kernel
theorem dX3_run_57 : decode cX3_run 57 = .ok (.iload 5, 2) := by decide +kernel
theorem dX3_run_59 : decode cX3_run 59 = .ok (.sipush 2000, 3) := by decide +kernel
theorem dX3_run_62 : decode cX3_run 62 = .ok (.if_icmp .ge 21, 3) := by decide +kernel
theorem dX3_run_65 : decode cX3_run 65 = .ok (.aload_n 0, 1) := by decide +kernel
theorem dX3_run_66 : decode cX3_run 66 = .ok (.iload 5, 2) := by decide +kernel
theorem dX3_run_68 : decode cX3_run 68 = .ok (.sipush 1000, 3) := by decide +kernel
theorem dX3_run_71 : decode cX3_run 71 = .ok (.isub, 1) := by decide +kernel
theorem dX3_run_72 : decode cX3_run 72 = .ok (.aload_n 2, 1) := by decide +kernel
theorem dX3_run_73 : decode cX3_run 73 = .ok (.iload_n 3, 1) := by decide +kernel
theorem dX3_run_74 : decode cX3_run 74 = .ok (.invokestatic 54, 3) := by decide +kernel
theorem dX3_run_77 : decode cX3_run 77 = .ok (.invokevirtual 50, 3) := by decide +kernel
theorem dX3_run_80 : decode cX3_run 80 = .ok (.goto 9, 3) := by decide +kernel
theorem dX3_run_83 : decode cX3_run 83 = .ok (.aload_n 0, 1) := by decide +kernel
theorem dX3_run_84 : decode cX3_run 84 = .ok (.iload 5, 2) := by decide +kernel
theorem dX3_run_86 : decode cX3_run 86 = .ok (.invokevirtual 58, 3) := by decide +kernel
theorem dX3_run_89 : decode cX3_run 89 = .ok (.iinc 4 1, 3) := by decide +kernel
theorem dX3_run_92 : decode cX3_run 92 = .ok (.goto (-71), 3) := by decide +kernel
theorem dX3_run_95 : decode cX3_run 95 = .ok (.return_, 1) := by decide +kernel
noncomputable def B_X3_run_89 (o1 : Option Nat) (r2 : Nat) (k21 : (Nat × Int32 × Int32) → fS → Option (Int32 × fS)) (a1 : Nat) (a3 : Int32) (a4 : Int32) (S : fS) : Option (Int32 × fS) := iv (a4 + Int32.ofInt 1) (fun x1 => k21 (a1, a3, x1) S)
noncomputable def B_X3_run_21 (o1 : Option Nat) (r2 : Nat) (k21 : (Nat × Int32 × Int32) → fS → Option (Int32 × fS)) : (Nat × Int32 × Int32) → fS → Option (Int32 × fS) := fun ⟨a1, a3, a4⟩ S => iv (Int32.ofNat (ln S a1)) (fun x2 => bb (x2 ≤ a4) (some (0, S)) (gd (ib a4 (ln S a1)) (iv (ge S 30 a1 (a4 : Int32).toNatClampNeg) (fun x5 => bb ((1000 : Int32) ≤ x5) (bb ((2000 : Int32) ≤ x5) (bd (F_X3_work x5 S) (fun v8 S9 => B_X3_run_89 o1 r2 k21 a1 a3 a4 S9)) (iv (x5 - (1000 : Int32)) (fun x11 => bd (F_X3_named x11 r2 a3 S) (fun v12 S13 => bd (F_X3_push v12 S13) (fun v15 S16 => B_X3_run_89 o1 r2 k21 a1 a3 a4 S16))))) (bd (F_X3_push x5 S) (fun v18 S19 => B_X3_run_89 o1 r2 k21 a1 a3 a4 S19))))))
noncomputable def F_X3_run (o1 : Option Nat) (r2 : Nat) (p3 : Int32) (S0 : fS) : Option (Int32 × fS) := sv (pu S0 22 0 1 0) (fun S21 => bd (F_fill24 0 S21) (fun v22 S23 => oc o1 (some (0, S23)) (fun t25 => gd (t25 < nC S23) (lp (B_X3_run_21 o1 r2 ) fuel (t25, p3, 0) S23))))
set_option maxHeartbeats 4000000 in
set_option maxRecDepth 100000 in
theorem c_X3_run (l : Launch) (D : va_G) (K : Nat → ClassId) (b0 : Nat) (sa : sT) (sz : Nat) (L : List Nat) (f0 : Nat → va_E) (ad : Nat → Nat → Nat) (P : Nat → Nat → Prop) {n : Nat × Nat} (hP : ∀ a i : Nat, isn n a i → P a i) (S0 : fS) (hw : PW K ad P S0 L f0) (hn : S0.2.2.1 = n) (o1 : Option Nat) (r2 : Nat) (hr2 : r2 < n.1) (p3 : Int32) (v : Int32) (S1 : fS) (h : F_X3_run o1 r2 p3 S0 = some (v, S1)) : Met l yX3_run (.code yX3_run cX3_run 6 none :: gt) { frames := 3, cells := 0, slots := 0, locals := 62 } (va_Pc [.ref (ad 22 0), va_rf (o1.map (ad 29)), .ref (ad 25 r2), .int p3] (hPre D K b0 sa sz L f0)) (hQ D K b0 (fun v9 u9 => ∃ f2 : Nat → va_E, v9 = none ∧ u9 = lU L f2 ∧ PW K ad P S1 L f2 ∧ S1.2.2.1 = n ∧ Kp ad P L f0 f2)) 0 0 (fun q => b0 ≤ q) := by
  refine t_of (own := RX3) (by decide) rfl ?_ (by cases o1 <;> exact Nat.le_of_ble_eq_true rfl)
  intro p e s m below meth c ls C w hsz hr hlk hnm hl
  have hx := C.1
  have hb := C.2.1
  have hl : lv_has ls 6 [(0, .ref (ad 22 0)), (1, va_rf (o1.map (ad 29))), (2, .ref (ad 25 r2)), (3, .int p3)] := by cases o1 <;> exact hl
  have J89 : ∀ (k21 : (Nat × Int32 × Int32) → fS → Option (Int32 × fS)) (hk21 : ∀ (a1 : Nat) (a3 : Int32) (a4 : Int32) (ha1 : a1 < n.2) (S : fS), k21 (a1, a3, a4) S = some (v, S1) → Gw D K b0 sa ad P n L f0 p l e { frames := 3, cells := 0, slots := 0, locals := 62 } s m [.ref (ad 22 0), va_rf (o1.map (ad 29)), .ref (ad 25 r2), .int p3].toArray below meth c 6 (MQ below (hQ D K b0 (fun v9 u9 => ∃ f2 : Nat → va_E, v9 = none ∧ u9 = lU L f2 ∧ PW K ad P S1 L f2 ∧ S1.2.2.1 = n ∧ Kp ad P L f0 f2)) [.ref (ad 22 0), va_rf (o1.map (ad 29)), .ref (ad 25 r2), .int p3].toArray s 0 0 (fun q => b0 ≤ q)) 0 0 21 [(0, .ref (ad 22 0)), (1, .ref (ad 29 a1)), (2, .ref (ad 25 r2)), (3, .int a3), (4, .int a4)] [] S) (a1 : Nat) (a3 : Int32) (a4 : Int32) (ha1 : a1 < n.2) (S : fS), B_X3_run_89 o1 r2 k21 a1 a3 a4 S = some (v, S1) → Gw D K b0 sa ad P n L f0 p l e { frames := 3, cells := 0, slots := 0, locals := 62 } s m [.ref (ad 22 0), va_rf (o1.map (ad 29)), .ref (ad 25 r2), .int p3].toArray below meth c 6 (MQ below (hQ D K b0 (fun v9 u9 => ∃ f2 : Nat → va_E, v9 = none ∧ u9 = lU L f2 ∧ PW K ad P S1 L f2 ∧ S1.2.2.1 = n ∧ Kp ad P L f0 f2)) [.ref (ad 22 0), va_rf (o1.map (ad 29)), .ref (ad 25 r2), .int p3].toArray s 0 0 (fun q => b0 ≤ q)) 0 0 89 [(0, .ref (ad 22 0)), (1, .ref (ad 29 a1)), (2, .ref (ad 25 r2)), (3, .int a3), (4, .int a4)] [] S := by
    intro k21 hk21 a1 a3 a4 ha1 S h
    dsimp only [B_X3_run_89] at h
    intro f H locs w hw hn hk ls hl
    obtain ⟨x1, ex1, h⟩ := iv_some h
    refine lv_iinc (v := x1) (lv' := [(4, .int x1), (0, .ref (ad 22 0)), (1, .ref (ad 29 a1)), (2, .ref (ad 25 r2)), (3, .int a3)]) hx hb dX3_run_89 hl (k := 4) rfl ex1.symm (by decide) rfl (fun ls hl => ?_)
    refine lv_goto (tgt := 21) hx hb dX3_run_92 (by decide) ?_
    exact hk21 a1 a3 x1 ha1 S h f H locs w hw hn hk ls (lv_sub hl [1, 2, 3, 4, 0] rfl)
  have J21 : ∀ (fu : Nat) (a1 : Nat) (a3 : Int32) (a4 : Int32) (ha1 : a1 < n.2) (S : fS), lp (B_X3_run_21 o1 r2 ) fu (a1, a3, a4) S = some (v, S1) → Gw D K b0 sa ad P n L f0 p l e { frames := 3, cells := 0, slots := 0, locals := 62 } s m [.ref (ad 22 0), va_rf (o1.map (ad 29)), .ref (ad 25 r2), .int p3].toArray below meth c 6 (MQ below (hQ D K b0 (fun v9 u9 => ∃ f2 : Nat → va_E, v9 = none ∧ u9 = lU L f2 ∧ PW K ad P S1 L f2 ∧ S1.2.2.1 = n ∧ Kp ad P L f0 f2)) [.ref (ad 22 0), va_rf (o1.map (ad 29)), .ref (ad 25 r2), .int p3].toArray s 0 0 (fun q => b0 ≤ q)) 0 0 21 [(0, .ref (ad 22 0)), (1, .ref (ad 29 a1)), (2, .ref (ad 25 r2)), (3, .int a3), (4, .int a4)] [] S := by
    intro fu a1 a3 a4 ha1 S h
    refine lp_some (G := (fun q S => q.1 < n.2 → Gw D K b0 sa ad P n L f0 p l e { frames := 3, cells := 0, slots := 0, locals := 62 } s m [.ref (ad 22 0), va_rf (o1.map (ad 29)), .ref (ad 25 r2), .int p3].toArray below meth c 6 (MQ below (hQ D K b0 (fun v9 u9 => ∃ f2 : Nat → va_E, v9 = none ∧ u9 = lU L f2 ∧ PW K ad P S1 L f2 ∧ S1.2.2.1 = n ∧ Kp ad P L f0 f2)) [.ref (ad 22 0), va_rf (o1.map (ad 29)), .ref (ad 25 r2), .int p3].toArray s 0 0 (fun q => b0 ≤ q)) 0 0 21 [(0, .ref (ad 22 0)), (1, .ref (ad 29 q.1)), (2, .ref (ad 25 r2)), (3, .int q.2.1), (4, .int q.2.2)] [] S)) (fun k21 hk21 q S h => ?_) fu (a1, a3, a4) S h ha1
    obtain ⟨a1, a3, a4⟩ := q
    have hk21 : ∀ (a1 : Nat) (a3 : Int32) (a4 : Int32) (ha1 : a1 < n.2) (S : fS), k21 (a1, a3, a4) S = some (v, S1) → Gw D K b0 sa ad P n L f0 p l e { frames := 3, cells := 0, slots := 0, locals := 62 } s m [.ref (ad 22 0), va_rf (o1.map (ad 29)), .ref (ad 25 r2), .int p3].toArray below meth c 6 (MQ below (hQ D K b0 (fun v9 u9 => ∃ f2 : Nat → va_E, v9 = none ∧ u9 = lU L f2 ∧ PW K ad P S1 L f2 ∧ S1.2.2.1 = n ∧ Kp ad P L f0 f2)) [.ref (ad 22 0), va_rf (o1.map (ad 29)), .ref (ad 25 r2), .int p3].toArray s 0 0 (fun q => b0 ≤ q)) 0 0 21 [(0, .ref (ad 22 0)), (1, .ref (ad 29 a1)), (2, .ref (ad 25 r2)), (3, .int a3), (4, .int a4)] [] S := fun a1 a3 a4 ha1 S h => hk21 (a1, a3, a4) S h ha1
    intro ha1
    dsimp only [B_X3_run_21] at h
    intro f H locs w hw hn hk ls hl
    refine lv_iload hx hb dX3_run_21 (lv_at hl 4 rfl) ?_
    refine lv_aload_n hx hb dX3_run_23 rfl (lv_at hl 1 rfl) ?_
    refine u_getr C w hw (hP _ _ (isn_c29 ha1)) rfl (N := 1) rfl rfl cin_1 0 (by decide) (by decide) (a2 := 30) (i2 := a1) rfl gw_915 dX3_run_24 ?_
    refine u_alen C w hw (hP _ _ (isn_c30 ha1)) rfl rfl rfl dX3_run_27 ?_
    refine u_iv h (fun x2 h => ?_)
    refine lv_icmp_ge (tgt := 95) hx hb dX3_run_28 (by decide) (fun c3 => ?_) (fun c3 => ?_)
    · have h := bb_t h c3
      exact t_vret C hr hlk w ⟨_, rfl, rfl, so_w h hw, so_n h hn, hk⟩ (by decide) (by decide) dX3_run_95
    · have h := bb_f h c3
      refine lv_aload_n hx hb dX3_run_31 rfl (lv_at hl 1 rfl) ?_
      refine u_getr C w hw (hP _ _ (isn_c29 ha1)) rfl (N := 1) rfl rfl cin_1 0 (by decide) (by decide) (a2 := 30) (i2 := a1) rfl gw_915 dX3_run_32 ?_
      refine lv_iload hx hb dX3_run_35 (lv_at hl 4 rfl) ?_
      obtain ⟨g4, h⟩ := gd_some h
      refine u_iald C w hw (hP _ _ (isn_c30 ha1)) rfl rfl rfl (vp_in_iff.mpr g4) dX3_run_37 ?_
      refine u_iv h (fun x5 h => ?_)
      refine lv_istore (lv' := [(5, .int x5), (0, .ref (ad 22 0)), (1, .ref (ad 29 a1)), (2, .ref (ad 25 r2)), (3, .int a3), (4, .int a4)]) hx hb dX3_run_38 hl (by decide) rfl (fun ls hl => ?_)
      refine lv_iload hx hb dX3_run_40 (lv_at hl 0 rfl) ?_
      refine lv_sipush (v := 1000) hx hb dX3_run_42 (by decide) ?_
      refine lv_icmp_ge (tgt := 57) hx hb dX3_run_45 (by decide) (fun c6 => ?_) (fun c6 => ?_)
      · have h := bb_t h c6
        refine lv_iload hx hb dX3_run_57 (lv_at hl 0 rfl) ?_
        refine lv_sipush (v := 2000) hx hb dX3_run_59 (by decide) ?_
        refine lv_icmp_ge (tgt := 83) hx hb dX3_run_62 (by decide) (fun c7 => ?_) (fun c7 => ?_)
        · have h := bb_t h c7
          refine lv_aload_n hx hb dX3_run_83 rfl (lv_at hl 1 rfl) ?_
          refine lv_iload hx hb dX3_run_84 (lv_at hl 0 rfl) ?_
          obtain ⟨v8, S9, h10, h⟩ := bd_some h
          refine u_callV (n := 1) C w hw (hP _ _ (isn_f rfl rfl (by decide))) rfl rfl rfl (c_X3_work l D K b0 sa _ L _ ad P hP S hw hn x5 v8 S9 h10) gw_396 gw_393 gw_394 gw_395 gw_6 ⟨by decide, by decide, by decide +kernel⟩ rfl rfl ⟨by decide, by decide⟩ rfl hl.1 rfl (Nat.le_of_ble_eq_true rfl) dX3_run_86 ⟨Nat.le_of_ble_eq_true rfl, Nat.le_of_ble_eq_true rfl⟩ (fun v9 u H locs hp w => ?_)
          obtain ⟨f2, rfl, rfl, hw, hn, hk1⟩ := hp
          have hk := hk.tr hk1
          generalize f2 = f at w hw hk
          exact J89 k21 hk21 a1 a3 a4 ha1 S9 h f H locs w hw hn hk ls (lv_sub hl [1, 2, 3, 4, 5] rfl)
        · have h := bb_f h c7
          refine lv_aload_n hx hb dX3_run_65 rfl (lv_at hl 1 rfl) ?_
          refine lv_iload hx hb dX3_run_66 (lv_at hl 0 rfl) ?_
          refine lv_sipush (v := 1000) hx hb dX3_run_68 (by decide) ?_
          refine lv_isub hx hb dX3_run_71 ?_
          refine u_iv h (fun x11 h => ?_)
          refine lv_aload_n hx hb dX3_run_72 rfl (lv_at hl 3 rfl) ?_
          refine lv_iload_n hx hb dX3_run_73 rfl (lv_at hl 4 rfl) ?_
          obtain ⟨v12, S13, h14, h⟩ := bd_some h
          refine t_callS (n := 3) C w (c_X3_named l D K b0 sa _ L _ ad P hP S hw hn x11 r2 hr2 a3 v12 S13 h14) gw_392 gw_390 gw_391 gw_6 ⟨by decide, by decide, by decide +kernel⟩ rfl rfl ⟨by decide, by decide⟩ rfl hl.1 rfl (Nat.le_of_ble_eq_true rfl) dX3_run_74 ⟨Nat.le_of_ble_eq_true rfl, Nat.le_of_ble_eq_true rfl⟩ (fun v9 u H locs hp w => ?_)
          obtain ⟨f2, rfl, rfl, hw, hn, hk1⟩ := hp
          have hk := hk.tr hk1
          generalize f2 = f at w hw hk
          obtain ⟨v15, S16, h17, h⟩ := bd_some h
          refine u_callV (n := 1) C w hw (hP _ _ (isn_f rfl rfl (by decide))) rfl rfl rfl (c_X3_push l D K b0 sa _ L _ ad P hP S13 hw hn v12 v15 S16 h17) gw_389 gw_386 gw_387 gw_388 gw_6 ⟨by decide, by decide, by decide +kernel⟩ rfl rfl ⟨by decide, by decide⟩ rfl hl.1 rfl (Nat.le_of_ble_eq_true rfl) dX3_run_77 ⟨Nat.le_of_ble_eq_true rfl, Nat.le_of_ble_eq_true rfl⟩ (fun v9 u H locs hp w => ?_)
          obtain ⟨f2, rfl, rfl, hw, hn, hk1⟩ := hp
          have hk := hk.tr hk1
          generalize f2 = f at w hw hk
          refine lv_goto (tgt := 89) hx hb dX3_run_80 (by decide) ?_
          exact J89 k21 hk21 a1 a3 a4 ha1 S16 h f H locs w hw hn hk ls (lv_sub hl [1, 2, 3, 4, 5] rfl)
      · have h := bb_f h c6
        refine lv_aload_n hx hb dX3_run_48 rfl (lv_at hl 1 rfl) ?_
        refine lv_iload hx hb dX3_run_49 (lv_at hl 0 rfl) ?_
        obtain ⟨v18, S19, h20, h⟩ := bd_some h
        refine u_callV (n := 1) C w hw (hP _ _ (isn_f rfl rfl (by decide))) rfl rfl rfl (c_X3_push l D K b0 sa _ L _ ad P hP S hw hn x5 v18 S19 h20) gw_389 gw_386 gw_387 gw_388 gw_6 ⟨by decide, by decide, by decide +kernel⟩ rfl rfl ⟨by decide, by decide⟩ rfl hl.1 rfl (Nat.le_of_ble_eq_true rfl) dX3_run_51 ⟨Nat.le_of_ble_eq_true rfl, Nat.le_of_ble_eq_true rfl⟩ (fun v9 u H locs hp w => ?_)
        obtain ⟨f2, rfl, rfl, hw, hn, hk1⟩ := hp
        have hk := hk.tr hk1
        generalize f2 = f at w hw hk
        refine lv_goto (tgt := 89) hx hb dX3_run_54 (by decide) ?_
        exact J89 k21 hk21 a1 a3 a4 ha1 S19 h f H locs w hw hn hk ls (lv_sub hl [1, 2, 3, 4, 5] rfl)
  dsimp only [F_X3_run] at h
  obtain ⟨f, ef⟩ : ∃ z, z = f0 := ⟨_, rfl⟩
  rw [← ef] at w hw
  have hk : Kp ad P L f0 f := by rw [ef]; exact Kp.rf
  obtain ⟨H, eH⟩ : ∃ z, z = s.heap := ⟨_, rfl⟩
  obtain ⟨locs, el⟩ : ∃ z : List Loc, z = [] := ⟨_, rfl⟩
  rw [← eH, ← el] at w ⊢
  refine lv_aload_n hx hb dX3_run_0 rfl (lv_at hl 0 rfl) ?_
  refine lv_iconst (v := 0) hx hb dX3_run_1 (by decide) ?_
  refine u_puti C w hw (hP _ _ (isn_f rfl rfl (by decide))) rfl (N := 3) rfl rfl cin_3 tyX3 tyX3_ok nmX3 1 (by decide) rfl rfl rfl rfl gw_204 dX3_run_2 (fun f H locs w hw hk1 => ?_)
  have hk := hk.tr hk1
  refine u_sv h hw hn (fun S21 h hw hn => ?_)
  refine lv_aload_n hx hb dX3_run_5 rfl (lv_at hl 0 rfl) ?_
  refine u_getr C w hw (hP _ _ (isn_f rfl rfl (by decide))) rfl (N := 3) rfl rfl cin_3 2 (by decide) (by decide) (a2 := 24) (i2 := 0) rfl gw_205 dX3_run_6 ?_
  refine lv_iconst (v := 0) hx hb dX3_run_9 (by decide) ?_
  obtain ⟨v22, S23, h24, h⟩ := bd_some h
  refine t_callS (n := 2) C w (c_fill24 l D K b0 sa _ L _ ad P hP S21 hw hn 0 v22 S23 h24) gw_45 gw_385 gw_44 gw_4 ⟨by decide, by decide, by decide +kernel⟩ rfl rfl ⟨by decide, by decide⟩ rfl hl.1 rfl (Nat.le_of_ble_eq_true rfl) dX3_run_10 ⟨Nat.le_of_ble_eq_true rfl, Nat.le_of_ble_eq_true rfl⟩ (fun v9 u H locs hp w => ?_)
  obtain ⟨f2, rfl, rfl, hw, hn, hk1⟩ := hp
  have hk := hk.tr hk1
  generalize f2 = f at w hw hk
  refine lv_aload_nQ hx hb dX3_run_13 rfl (lv_at hl 1 rfl) ?_
  have h9 := oc_some h
  clear h
  rcases h9 with ⟨e9, hz⟩ | ⟨t25, e9, hz⟩
  · subst e9
    have h := hz
    have hl : lv_has ls 6 [(0, .ref (ad 22 0)), (1, .null), (2, .ref (ad 25 r2)), (3, .int p3)] := hl
    refine lv_ifnonnullN hx hb dX3_run_14 ?_
    exact t_vret C hr hlk w ⟨_, rfl, rfl, so_w h hw, so_n h hn, hk⟩ (by decide) (by decide) dX3_run_17
  · subst e9
    obtain ⟨g26, h⟩ := gd_some hz
    have ht25 : t25 < n.2 := nC_lt hn g26
    have hl : lv_has ls 6 [(0, .ref (ad 22 0)), (1, .ref (ad 29 t25)), (2, .ref (ad 25 r2)), (3, .int p3)] := hl
    refine lv_ifnonnull (tgt := 18) hx hb dX3_run_14 (by decide) ?_
    refine lv_iconst (v := 0) hx hb dX3_run_18 (by decide) ?_
    refine lv_istore (lv' := [(4, .int 0), (0, .ref (ad 22 0)), (1, .ref (ad 29 t25)), (2, .ref (ad 25 r2)), (3, .int p3)]) hx hb dX3_run_19 hl (by decide) rfl (fun ls hl => ?_)
    exact J21  fuel t25 p3 0 ht25 S23 h f H locs w hw hn hk ls (lv_sub hl [1, 2, 3, 4, 0] rfl)
theorem dX3_holds_0 : decode cX3_holds 0 = .ok (.aload_n 0, 1) := by decide +kernel
theorem dX3_holds_1 : decode cX3_holds 1 = .ok (.aload_n 1, 1) := by decide +kernel
theorem dX3_holds_2 : decode cX3_holds 2 = .ok (.aload_n 2, 1) := by decide +kernel
theorem dX3_holds_3 : decode cX3_holds 3 = .ok (.iconst 0, 1) := by decide +kernel
theorem dX3_holds_4 : decode cX3_holds 4 = .ok (.invokevirtual 31, 3) := by decide +kernel
theorem dX3_holds_7 : decode cX3_holds 7 = .ok (.aload_n 0, 1) := by decide +kernel
theorem dX3_holds_8 : decode cX3_holds 8 = .ok (.invokevirtual 35, 3) := by decide +kernel
theorem dX3_holds_11 : decode cX3_holds 11 = .ok (.ifCond .eq 7, 3) := by decide +kernel
theorem dX3_holds_14 : decode cX3_holds 14 = .ok (.iconst 1, 1) := by decide +kernel
theorem dX3_holds_15 : decode cX3_holds 15 = .ok (.goto 4, 3) := by decide +kernel
theorem dX3_holds_18 : decode cX3_holds 18 = .ok (.iconst 0, 1) := by decide +kernel
theorem dX3_holds_19 : decode cX3_holds 19 = .ok (.ireturn, 1) := by decide +kernel
noncomputable def F_X3_holds (o1 : Option Nat) (r2 : Nat) (S0 : fS) : Option (Int32 × fS) := bd (F_X3_run o1 r2 0 S0) (fun v1 S2 => bd (F_X3_pop  S2) (fun v4 S5 => bb (v4 = (0 : Int32)) (some (0, S5)) (some (1, S5))))
set_option maxHeartbeats 4000000 in
set_option maxRecDepth 100000 in
theorem c_X3_holds (l : Launch) (D : va_G) (K : Nat → ClassId) (b0 : Nat) (sa : sT) (sz : Nat) (L : List Nat) (f0 : Nat → va_E) (ad : Nat → Nat → Nat) (P : Nat → Nat → Prop) {n : Nat × Nat} (hP : ∀ a i : Nat, isn n a i → P a i) (S0 : fS) (hw : PW K ad P S0 L f0) (hn : S0.2.2.1 = n) (o1 : Option Nat) (r2 : Nat) (hr2 : r2 < n.1) (v : Int32) (S1 : fS) (h : F_X3_holds o1 r2 S0 = some (v, S1)) : Met l yX3_holds (.code yX3_holds cX3_holds 3 (some .boolean) :: gt) { frames := 4, cells := 0, slots := 0, locals := 87 } (va_Pc [.ref (ad 22 0), va_rf (o1.map (ad 29)), .ref (ad 25 r2)] (hPre D K b0 sa sz L f0)) (hQ D K b0 (fun v9 u9 => ∃ f2 : Nat → va_E, v9 = some (.int v) ∧ u9 = lU L f2 ∧ PW K ad P S1 L f2 ∧ S1.2.2.1 = n ∧ Kp ad P L f0 f2)) 0 0 (fun q => b0 ≤ q) := by
  refine t_of (own := RX3) (by decide) rfl ?_ (by cases o1 <;> exact Nat.le_of_ble_eq_true rfl)
  intro p e s m below meth c ls C w hsz hr hlk hnm hl
  have hx := C.1
  have hb := C.2.1
  have hl : lv_has ls 3 [(0, .ref (ad 22 0)), (1, va_rf (o1.map (ad 29))), (2, .ref (ad 25 r2))] := by cases o1 <;> exact hl
  dsimp only [F_X3_holds] at h
  obtain ⟨f, ef⟩ : ∃ z, z = f0 := ⟨_, rfl⟩
  rw [← ef] at w hw
  have hk : Kp ad P L f0 f := by rw [ef]; exact Kp.rf
  obtain ⟨H, eH⟩ : ∃ z, z = s.heap := ⟨_, rfl⟩
  obtain ⟨locs, el⟩ : ∃ z : List Loc, z = [] := ⟨_, rfl⟩
  rw [← eH, ← el] at w ⊢
  refine lv_aload_n hx hb dX3_holds_0 rfl (lv_at hl 0 rfl) ?_
  refine lv_aload_nQ hx hb dX3_holds_1 rfl (lv_at hl 1 rfl) ?_
  refine lv_aload_n hx hb dX3_holds_2 rfl (lv_at hl 2 rfl) ?_
  refine lv_iconst (v := 0) hx hb dX3_holds_3 (by decide) ?_
  obtain ⟨v1, S2, h3, h⟩ := bd_some h
  refine u_callV (n := 3) C w hw (hP _ _ (isn_f rfl rfl (by decide))) rfl rfl rfl (c_X3_run l D K b0 sa _ L _ ad P hP S0 hw hn o1 r2 hr2 0 v1 S2 h3) gw_384 gw_1116 gw_382 gw_383 gw_6 ⟨by decide, by decide, by decide +kernel⟩ rfl rfl ⟨by decide, by decide⟩ rfl hl.1 rfl (Nat.le_of_ble_eq_true rfl) dX3_holds_4 ⟨Nat.le_of_ble_eq_true rfl, Nat.le_of_ble_eq_true rfl⟩ (fun v9 u H locs hp w => ?_)
  obtain ⟨f2, rfl, rfl, hw, hn, hk1⟩ := hp
  have hk := hk.tr hk1
  generalize f2 = f at w hw hk
  refine lv_aload_n hx hb dX3_holds_7 rfl (lv_at hl 0 rfl) ?_
  obtain ⟨v4, S5, h6, h⟩ := bd_some h
  refine u_callV (n := 0) C w hw (hP _ _ (isn_f rfl rfl (by decide))) rfl rfl rfl (c_X3_pop l D K b0 sa _ L _ ad P hP S2 hw hn  v4 S5 h6) gw_400 gw_397 gw_398 gw_399 gw_6 ⟨by decide, by decide, by decide +kernel⟩ rfl rfl ⟨by decide, by decide⟩ rfl hl.1 rfl (Nat.le_of_ble_eq_true rfl) dX3_holds_8 ⟨Nat.le_of_ble_eq_true rfl, Nat.le_of_ble_eq_true rfl⟩ (fun v9 u H locs hp w => ?_)
  obtain ⟨f2, rfl, rfl, hw, hn, hk1⟩ := hp
  have hk := hk.tr hk1
  generalize f2 = f at w hw hk
  refine lv_if_eq (tgt := 18) hx hb dX3_holds_11 (by decide) (fun c7 => ?_) (fun c7 => ?_)
  · have h := bb_t h c7
    refine lv_iconst (v := 0) hx hb dX3_holds_18 (by decide) ?_
    exact t_zret C hr hlk w (by decide) ⟨_, so_v h, rfl, so_w h hw, so_n h hn, hk⟩ (by decide) (by decide) dX3_holds_19
  · have h := bb_f h c7
    refine lv_iconst (v := 1) hx hb dX3_holds_14 (by decide) ?_
    refine lv_goto (tgt := 19) hx hb dX3_holds_15 (by decide) ?_
    exact t_zret C hr hlk w (by decide) ⟨_, so_v h, rfl, so_w h hw, so_n h hn, hk⟩ (by decide) (by decide) dX3_holds_19
theorem dX6_tells_0 : decode cX6_tells 0 = .ok (.iload_n 1, 1) := by decide +kernel
theorem dX6_tells_1 : decode cX6_tells 1 = .ok (.iconst 0, 1) := by decide +kernel
theorem dX6_tells_2 : decode cX6_tells 2 = .ok (.iconst 2, 1) := by decide +kernel
theorem dX6_tells_3 : decode cX6_tells 3 = .ok (.invokestatic 92, 3) := by decide +kernel
theorem dX6_tells_6 : decode cX6_tells 6 = .ok (.ifCond .eq 17, 3) := by decide +kernel
theorem dX6_tells_9 : decode cX6_tells 9 = .ok (.iload_n 2, 1) := by decide +kernel
theorem dX6_tells_10 : decode cX6_tells 10 = .ok (.iconst 0, 1) := by decide +kernel
theorem dX6_tells_11 : decode cX6_tells 11 = .ok (.bipush 35, 2) := by decide +kernel
theorem dX6_tells_13 : decode cX6_tells 13 = .ok (.invokestatic 92, 3) := by decide +kernel
theorem dX6_tells_16 : decode cX6_tells 16 = .ok (.ifCond .eq 7, 3) := by decide +kernel
theorem dX6_tells_19 : decode cX6_tells 19 = .ok (.iconst 1, 1) := by decide +kernel
theorem dX6_tells_20 : decode cX6_tells 20 = .ok (.goto 4, 3) := by decide +kernel
theorem dX6_tells_23 : decode cX6_tells 23 = .ok (.iconst 0, 1) := by decide +kernel
theorem dX6_tells_24 : decode cX6_tells 24 = .ok (.invokestatic 96, 3) := by decide +kernel
theorem dX6_tells_27 : decode cX6_tells 27 = .ok (.aload_n 0, 1) := by decide +kernel
theorem dX6_tells_28 : decode cX6_tells 28 = .ok (.getfield 75, 3) := by decide +kernel
theorem dX6_tells_31 : decode cX6_tells 31 = .ok (.aload_n 0, 1) := by decide +kernel
theorem dX6_tells_32 : decode cX6_tells 32 = .ok (.getfield 10, 3) := by decide +kernel
theorem dX6_tells_35 : decode cX6_tells 35 = .ok (.invokevirtual 178, 3) := by decide +kernel
theorem dX6_tells_38 : decode cX6_tells 38 = .ok (.aload_n 0, 1) := by decide +kernel
theorem dX6_tells_39 : decode cX6_tells 39 = .ok (.getfield 68, 3) := by decide +kernel
theorem dX6_tells_42 : decode cX6_tells 42 = .ok (.aload_n 0, 1) := by decide +kernel
theorem dX6_tells_43 : decode cX6_tells 43 = .ok (.invokevirtual 182, 3) := by decide +kernel
theorem dX6_tells_46 : decode cX6_tells 46 = .ok (.aload_n 0, 1) := by decide +kernel
theorem dX6_tells_47 : decode cX6_tells 47 = .ok (.getfield 75, 3) := by decide +kernel
theorem dX6_tells_50 : decode cX6_tells 50 = .ok (.iload_n 1, 1) := by decide +kernel
theorem dX6_tells_51 : decode cX6_tells 51 = .ok (.iconst 2, 1) := by decide +kernel
theorem dX6_tells_52 : decode cX6_tells 52 = .ok (.if_icmp .ne 7, 3) := by decide +kernel
theorem dX6_tells_55 : decode cX6_tells 55 = .ok (.iconst 0, 1) := by decide +kernel
theorem dX6_tells_56 : decode cX6_tells 56 = .ok (.goto 4, 3) := by decide +kernel
theorem dX6_tells_59 : decode cX6_tells 59 = .ok (.iload_n 2, 1) := by decide +kernel
theorem dX6_tells_60 : decode cX6_tells 60 = .ok (.invokevirtual 186, 3) := by decide +kernel
theorem dX6_tells_63 : decode cX6_tells 63 = .ok (.iload_n 1, 1) := by decide +kernel
theorem dX6_tells_64 : decode cX6_tells 64 = .ok (.ifCond .ne 13, 3) := by decide +kernel
theorem dX6_tells_67 : decode cX6_tells 67 = .ok (.aload_n 0, 1) := by decide +kernel
theorem dX6_tells_68 : decode cX6_tells 68 = .ok (.getfield 68, 3) := by decide +kernel
theorem dX6_tells_71 : decode cX6_tells 71 = .ok (.invokevirtual 190, 3) := by decide +kernel
theorem dX6_tells_74 : decode cX6_tells 74 = .ok (.goto 25, 3) := by decide +kernel
theorem dX6_tells_77 : decode cX6_tells 77 = .ok (.iload_n 1, 1) := by decide +kernel
theorem dX6_tells_78 : decode cX6_tells 78 = .ok (.iconst 1, 1) := by decide +kernel
theorem dX6_tells_79 : decode cX6_tells 79 = .ok (.if_icmp .ne 13, 3) := by decide +kernel
theorem dX6_tells_82 : decode cX6_tells 82 = .ok (.aload_n 0, 1) := by decide +kernel
theorem dX6_tells_83 : decode cX6_tells 83 = .ok (.getfield 68, 3) := by decide +kernel
theorem dX6_tells_86 : decode cX6_tells 86 = .ok (.invokevirtual 193, 3) := by decide +kernel
theorem dX6_tells_89 : decode cX6_tells 89 = .ok (.goto 10, 3) := by decide +kernel
theorem dX6_tells_92 : decode cX6_tells 92 = .ok (.aload_n 0, 1) := by decide +kernel
theorem dX6_tells_93 : decode cX6_tells 93 = .ok (.getfield 68, 3) := by decide +kernel
theorem dX6_tells_96 : decode cX6_tells 96 = .ok (.invokevirtual 196, 3) := by decide +kernel
theorem dX6_tells_99 : decode cX6_tells 99 = .ok (.ireturn, 1) := by decide +kernel
noncomputable def B_X6_tells_60 (a1 : Int32) (t0 : Int32) (t2 : Option Nat) (S : fS) : Option ((Nat × Int32) × fS) := bd (F_X3_run t2 0 t0 S) (fun v1 S2 => bb (a1 = (0 : Int32)) (bd (F_X3_grip  S2) (fun v12 S13 => some ((0, v12), S13))) (bb (a1 = (1 : Int32)) (bd (F_X3_slip  S2) (fun v9 S10 => some ((0, v9), S10))) (bd (F_X3_lots  S2) (fun v6 S7 => some ((0, v6), S7)))))
noncomputable def B_X6_tells_24 (a1 : Int32) (a2 : Int32) (t0 : Int32) (S : fS) : Option ((Nat × Int32) × fS) := bx (F_X6_need t0 S) (fun v15 S16 => bd (F_X5_nameNext 0 0 S16) (fun v19 S20 => bd (F_X6_codeInForce  S20) (fun v22 S23 => bb (a1 = (2 : Int32)) (B_X6_tells_60  a1 0 v22 S23) (B_X6_tells_60  a1 a2 v22 S23))))
noncomputable def B_X6_tells_23 (a1 : Int32) (a2 : Int32) (S : fS) : Option ((Nat × Int32) × fS) := B_X6_tells_24  a1 a2 0 S
noncomputable def F_X6_tells (p1 : Int32) (p2 : Int32) (S0 : fS) : Option ((Nat × Int32) × fS) := bd (F_X6_within p1 0 2 S0) (fun v26 S27 => bb (v26 = (0 : Int32)) (B_X6_tells_23  p1 p2 S27) (bd (F_X6_within p2 0 35 S27) (fun v30 S31 => bb (v30 = (0 : Int32)) (B_X6_tells_23  p1 p2 S31) (B_X6_tells_24  p1 p2 1 S31))))
set_option maxHeartbeats 4000000 in
set_option maxRecDepth 100000 in
theorem c_X6_tells (l : Launch) (hls : l.stackTraces = false) (D : va_G) (K : Nat → ClassId) (b0 : Nat) (sa : sT) (sz : Nat) (L : List Nat) (f0 : Nat → va_E) (ad : Nat → Nat → Nat) (P : Nat → Nat → Prop) {n : Nat × Nat} (hP : ∀ a i : Nat, isn n a i → P a i) (S0 : fS) (hw : PW K ad P S0 L f0) (hn : S0.2.2.1 = n) (hprobe : 0 < n.1) (p1 : Int32) (p2 : Int32) (ec : Nat) (v : Int32) (S1 : fS) (h : F_X6_tells p1 p2 S0 = some ((ec, v), S1)) : vx_Met l yX6_tells (.code yX6_tells cX6_tells 3 (some .int) :: gt) { frames := 7, cells := 1, slots := 6, locals := 102 } (va_Pc [.ref (ad 0 0), .int p1, .int p2] (hPre D K b0 sa sz L f0)) (hQ D K b0 (fun v9 u9 => ec = 0 ∧ v9 = some (.int v) ∧ ∃ f2 : Nat → va_E, u9 = lU L f2 ∧ PW K ad P S1 L f2 ∧ S1.2.2.1 = n ∧ Kp ad P L f0 f2)) (hX D K b0 (fun E u9 => (ec ≠ 0 ∧ E = exn ec) ∧ ∃ f2 : Nat → va_E, u9 = lU L f2 ∧ PW K ad P S1 L f2 ∧ S1.2.2.1 = n ∧ Kp ad P L f0 f2)) 1 6 (fun q => b0 ≤ q) := by
  refine t_xof (own := RX6) (by decide) rfl ?_ (Nat.le_of_ble_eq_true rfl)
  intro p e s m below meth c ls C w hsz hr hlk htb hl
  have hx := C.1
  have hb := C.2.1
  have hl : lv_has ls 3 [(0, .ref (ad 0 0)), (1, .int p1), (2, .int p2)] := hl
  have J60 : ∀ (a1 : Int32) (t0 : Int32) (t2 : Option Nat) (S : fS), B_X6_tells_60  a1 t0 t2 S = some ((ec, v), S1) → Gw D K b0 sa ad P n L f0 p l e { frames := 7, cells := 1, slots := 6, locals := 102 } s m [.ref (ad 0 0), .int p1, .int p2].toArray below meth c 3 (vx_MQ below (hQ D K b0 (fun v9 u9 => ec = 0 ∧ v9 = some (.int v) ∧ ∃ f2 : Nat → va_E, u9 = lU L f2 ∧ PW K ad P S1 L f2 ∧ S1.2.2.1 = n ∧ Kp ad P L f0 f2)) (hX D K b0 (fun E u9 => (ec ≠ 0 ∧ E = exn ec) ∧ ∃ f2 : Nat → va_E, u9 = lU L f2 ∧ PW K ad P S1 L f2 ∧ S1.2.2.1 = n ∧ Kp ad P L f0 f2)) [.ref (ad 0 0), .int p1, .int p2].toArray s 1 6 (fun q => b0 ≤ q)) 1 6 60 [(0, .ref (ad 0 0)), (1, .int a1)] [.int t0, .ref (ad 25 0), va_rf (t2.map (ad 29)), .ref (ad 22 0)] S := by
    intro a1 t0 t2 S h
    dsimp only [B_X6_tells_60] at h
    intro f H locs w hw hn hk ls hl
    obtain ⟨v1, S2, h3, h⟩ := bd_some h
    refine u_callV (n := 3) C w hw (hP _ _ (isn_f rfl rfl (by decide))) rfl rfl rfl (c_X3_run l D K b0 sa _ L _ ad P hP S hw hn t2 0 hprobe t0 v1 S2 h3) gw_384 gw_381 gw_382 gw_383 gw_6 ⟨by decide, by decide, by decide +kernel⟩ rfl rfl ⟨by decide, by decide⟩ rfl hl.1 rfl (Nat.le_of_ble_eq_true rfl) dX6_tells_60 ⟨Nat.le_of_ble_eq_true rfl, Nat.le_of_ble_eq_true rfl⟩ (fun v9 u H locs hp w => ?_)
    obtain ⟨f2, rfl, rfl, hw, hn, hk1⟩ := hp
    have hk := hk.tr hk1
    generalize f2 = f at w hw hk
    refine lv_iload_n hx hb dX6_tells_63 rfl (lv_at hl 1 rfl) ?_
    refine lv_if_ne (tgt := 77) hx hb dX6_tells_64 (by decide) (fun c4 => ?_) (fun c4 => ?_)
    · have h := bb_f h c4
      refine lv_iload_n hx hb dX6_tells_77 rfl (lv_at hl 1 rfl) ?_
      refine lv_iconst (v := 1) hx hb dX6_tells_78 (by decide) ?_
      refine lv_icmp_ne (tgt := 92) hx hb dX6_tells_79 (by decide) (fun c5 => ?_) (fun c5 => ?_)
      · have h := bb_f h c5
        refine lv_aload_n hx hb dX6_tells_92 rfl (lv_at hl 0 rfl) ?_
        refine u_getr C w hw (hP _ _ (isn_f rfl rfl (by decide))) rfl (N := 18) rfl rfl cin_6 14 (by decide) (by decide) (a2 := 22) (i2 := 0) rfl gw_301 dX6_tells_93 ?_
        obtain ⟨v6, S7, h8, h⟩ := bd_some h
        refine u_callV (n := 0) C w hw (hP _ _ (isn_f rfl rfl (by decide))) rfl rfl rfl (c_X3_lots l D K b0 sa _ L _ ad P hP S2 hw hn  v6 S7 h8) gw_417 gw_414 gw_415 gw_416 gw_6 ⟨by decide, by decide, by decide +kernel⟩ rfl rfl ⟨by decide, by decide⟩ rfl hl.1 rfl (Nat.le_of_ble_eq_true rfl) dX6_tells_96 ⟨Nat.le_of_ble_eq_true rfl, Nat.le_of_ble_eq_true rfl⟩ (fun v9 u H locs hp w => ?_)
        obtain ⟨f2, rfl, rfl, hw, hn, hk1⟩ := hp
        have hk := hk.tr hk1
        generalize f2 = f at w hw hk
        refine vx_ret ?_
        exact t_iret C hr hlk w ⟨sx_e h, sx_v h, _, rfl, sx_w h hw, sx_n h hn, hk⟩ (by decide) (by decide) dX6_tells_99
      · have h := bb_t h c5
        refine lv_aload_n hx hb dX6_tells_82 rfl (lv_at hl 0 rfl) ?_
        refine u_getr C w hw (hP _ _ (isn_f rfl rfl (by decide))) rfl (N := 18) rfl rfl cin_6 14 (by decide) (by decide) (a2 := 22) (i2 := 0) rfl gw_301 dX6_tells_83 ?_
        obtain ⟨v9, S10, h11, h⟩ := bd_some h
        refine u_callV (n := 0) C w hw (hP _ _ (isn_f rfl rfl (by decide))) rfl rfl rfl (c_X3_slip l D K b0 sa _ L _ ad P hP S2 hw hn  v9 S10 h11) gw_425 gw_422 gw_423 gw_424 gw_6 ⟨by decide, by decide, by decide +kernel⟩ rfl rfl ⟨by decide, by decide⟩ rfl hl.1 rfl (Nat.le_of_ble_eq_true rfl) dX6_tells_86 ⟨Nat.le_of_ble_eq_true rfl, Nat.le_of_ble_eq_true rfl⟩ (fun v9 u H locs hp w => ?_)
        obtain ⟨f2, rfl, rfl, hw, hn, hk1⟩ := hp
        have hk := hk.tr hk1
        generalize f2 = f at w hw hk
        refine lv_goto (tgt := 99) hx hb dX6_tells_89 (by decide) ?_
        refine vx_ret ?_
        exact t_iret C hr hlk w ⟨sx_e h, sx_v h, _, rfl, sx_w h hw, sx_n h hn, hk⟩ (by decide) (by decide) dX6_tells_99
    · have h := bb_t h c4
      refine lv_aload_n hx hb dX6_tells_67 rfl (lv_at hl 0 rfl) ?_
      refine u_getr C w hw (hP _ _ (isn_f rfl rfl (by decide))) rfl (N := 18) rfl rfl cin_6 14 (by decide) (by decide) (a2 := 22) (i2 := 0) rfl gw_301 dX6_tells_68 ?_
      obtain ⟨v12, S13, h14, h⟩ := bd_some h
      refine u_callV (n := 0) C w hw (hP _ _ (isn_f rfl rfl (by decide))) rfl rfl rfl (c_X3_grip l D K b0 sa _ L _ ad P hP S2 hw hn  v12 S13 h14) gw_421 gw_418 gw_419 gw_420 gw_6 ⟨by decide, by decide, by decide +kernel⟩ rfl rfl ⟨by decide, by decide⟩ rfl hl.1 rfl (Nat.le_of_ble_eq_true rfl) dX6_tells_71 ⟨Nat.le_of_ble_eq_true rfl, Nat.le_of_ble_eq_true rfl⟩ (fun v9 u H locs hp w => ?_)
      obtain ⟨f2, rfl, rfl, hw, hn, hk1⟩ := hp
      have hk := hk.tr hk1
      generalize f2 = f at w hw hk
      refine lv_goto (tgt := 99) hx hb dX6_tells_74 (by decide) ?_
      refine vx_ret ?_
      exact t_iret C hr hlk w ⟨sx_e h, sx_v h, _, rfl, sx_w h hw, sx_n h hn, hk⟩ (by decide) (by decide) dX6_tells_99
  have J24 : ∀ (a1 : Int32) (a2 : Int32) (t0 : Int32) (S : fS), B_X6_tells_24  a1 a2 t0 S = some ((ec, v), S1) → Gw D K b0 sa ad P n L f0 p l e { frames := 7, cells := 1, slots := 6, locals := 102 } s m [.ref (ad 0 0), .int p1, .int p2].toArray below meth c 3 (vx_MQ below (hQ D K b0 (fun v9 u9 => ec = 0 ∧ v9 = some (.int v) ∧ ∃ f2 : Nat → va_E, u9 = lU L f2 ∧ PW K ad P S1 L f2 ∧ S1.2.2.1 = n ∧ Kp ad P L f0 f2)) (hX D K b0 (fun E u9 => (ec ≠ 0 ∧ E = exn ec) ∧ ∃ f2 : Nat → va_E, u9 = lU L f2 ∧ PW K ad P S1 L f2 ∧ S1.2.2.1 = n ∧ Kp ad P L f0 f2)) [.ref (ad 0 0), .int p1, .int p2].toArray s 1 6 (fun q => b0 ≤ q)) 0 0 24 [(0, .ref (ad 0 0)), (1, .int a1), (2, .int a2)] [.int t0] S := by
    intro a1 a2 t0 S h
    dsimp only [B_X6_tells_24] at h
    intro f H locs w hw hn hk ls hl
    rcases bx_some h with ⟨v15, S16, h17, h⟩ | ⟨e18, v15, S16, h17, h⟩
    rotate_left
    · refine t_xcallS (n := 1) C w (c_X6_need l hls D K b0 sa _ L _ ad P hP S hw hn t0 (e18 + 1) v15 S16 h17) gw_625 gw_623 gw_624 gw_1 ⟨by decide, by decide, by decide +kernel⟩ rfl rfl ⟨by decide, by decide⟩ rfl hl.1 rfl (Nat.le_of_ble_eq_true rfl) dX6_tells_24 ⟨Nat.le_of_ble_eq_true rfl, Nat.le_of_ble_eq_true rfl⟩ (fun E ce q9 u H locs hp w hcell hv0 hcl => ?_) (fun v9 u H locs hp w => absurd hp.1 (Nat.succ_ne_zero _))
      obtain ⟨⟨he, hE⟩, f2, rfl, hw, hn, hk1⟩ := hp
      exact t_xout w htb hlk hcell hv0 hcl ⟨sz_e h he hE, _, rfl, sz_w h hw, sz_n h hn, hk.tr hk1⟩ (by decide) (by decide)
    refine t_xcallS (n := 1) C w (c_X6_need l hls D K b0 sa _ L _ ad P hP S hw hn t0 0 v15 S16 h17) gw_625 gw_623 gw_624 gw_1 ⟨by decide, by decide, by decide +kernel⟩ rfl rfl ⟨by decide, by decide⟩ rfl hl.1 rfl (Nat.le_of_ble_eq_true rfl) dX6_tells_24 ⟨Nat.le_of_ble_eq_true rfl, Nat.le_of_ble_eq_true rfl⟩ (fun E ce q9 u H locs hp w hcell hv0 hcl => absurd rfl hp.1.1) (fun v9 u H locs hp w => ?_)
    obtain ⟨-, rfl, f2, rfl, hw, hn, hk1⟩ := hp
    have hk := hk.tr hk1
    generalize f2 = f at w hw hk
    refine lv_aload_n hx hb dX6_tells_27 rfl (lv_at hl 0 rfl) ?_
    refine u_getr C w hw (hP _ _ (isn_f rfl rfl (by decide))) rfl (N := 18) rfl rfl cin_6 15 (by decide) (by decide) (a2 := 25) (i2 := 0) rfl gw_302 dX6_tells_28 ?_
    refine lv_aload_n hx hb dX6_tells_31 rfl (lv_at hl 0 rfl) ?_
    refine u_getr C w hw (hP _ _ (isn_f rfl rfl (by decide))) rfl (N := 18) rfl rfl cin_6 0 (by decide) (by decide) (a2 := 1) (i2 := 0) rfl gw_287 dX6_tells_32 ?_
    obtain ⟨v19, S20, h21, h⟩ := bd_some h
    refine u_callV (n := 1) C w hw (hP _ _ (isn_t25 hprobe)) rfl rfl rfl (c_X5_nameNext l D K b0 sa _ L _ ad P hP S16 hw hn 0 hprobe 0 (by decide) v19 S20 h21) gw_380 gw_377 gw_378 gw_379 gw_7 ⟨by decide, by decide, by decide +kernel⟩ rfl rfl ⟨by decide, by decide⟩ rfl hl.1 rfl (Nat.le_of_ble_eq_true rfl) dX6_tells_35 ⟨Nat.le_of_ble_eq_true rfl, Nat.le_of_ble_eq_true rfl⟩ (fun v9 u H locs hp w => ?_)
    obtain ⟨f2, rfl, rfl, hw, hn, hk1⟩ := hp
    have hk := hk.tr hk1
    generalize f2 = f at w hw hk
    refine lv_aload_n hx hb dX6_tells_38 rfl (lv_at hl 0 rfl) ?_
    refine u_getr C w hw (hP _ _ (isn_f rfl rfl (by decide))) rfl (N := 18) rfl rfl cin_6 14 (by decide) (by decide) (a2 := 22) (i2 := 0) rfl gw_301 dX6_tells_39 ?_
    refine lv_aload_n hx hb dX6_tells_42 rfl (lv_at hl 0 rfl) ?_
    obtain ⟨v22, S23, h24, h⟩ := bd_some h
    refine u_callV (n := 0) C w hw (hP _ _ (isn_f rfl rfl (by decide))) rfl rfl rfl (c_X6_codeInForce l D K b0 sa _ L _ ad P hP S20 hw hn  v22 S23 h24) gw_373 gw_370 gw_372 gs_3 gw_1 ⟨by decide, by decide, by decide +kernel⟩ rfl rfl ⟨by decide, by decide⟩ rfl hl.1 rfl (Nat.le_of_ble_eq_true rfl) dX6_tells_43 ⟨Nat.le_of_ble_eq_true rfl, Nat.le_of_ble_eq_true rfl⟩ (fun v9 u H locs hp w => ?_)
    obtain ⟨f2, rfl, rfl, hw, hn, hk1⟩ := hp
    have hk := hk.tr hk1
    generalize f2 = f at w hw hk
    refine lv_aload_n hx hb dX6_tells_46 rfl (lv_at hl 0 rfl) ?_
    refine u_getr C w hw (hP _ _ (isn_f rfl rfl (by decide))) rfl (N := 18) rfl rfl cin_6 15 (by decide) (by decide) (a2 := 25) (i2 := 0) rfl gw_302 dX6_tells_47 ?_
    refine lv_iload_n hx hb dX6_tells_50 rfl (lv_at hl 1 rfl) ?_
    refine lv_iconst (v := 2) hx hb dX6_tells_51 (by decide) ?_
    refine lv_icmp_ne (tgt := 59) hx hb dX6_tells_52 (by decide) (fun c25 => ?_) (fun c25 => ?_)
    · have h := bb_f h c25
      refine lv_iload_n hx hb dX6_tells_59 rfl (lv_at hl 2 rfl) ?_
      exact J60  a1 a2 v22 S23 h f H locs w hw hn hk ls (lv_sub hl [0, 1] rfl)
    · have h := bb_t h c25
      refine lv_iconst (v := 0) hx hb dX6_tells_55 (by decide) ?_
      refine lv_goto (tgt := 60) hx hb dX6_tells_56 (by decide) ?_
      exact J60  a1 0 v22 S23 h f H locs w hw hn hk ls (lv_sub hl [0, 1] rfl)
  have J23 : ∀ (a1 : Int32) (a2 : Int32) (S : fS), B_X6_tells_23  a1 a2 S = some ((ec, v), S1) → Gw D K b0 sa ad P n L f0 p l e { frames := 7, cells := 1, slots := 6, locals := 102 } s m [.ref (ad 0 0), .int p1, .int p2].toArray below meth c 3 (vx_MQ below (hQ D K b0 (fun v9 u9 => ec = 0 ∧ v9 = some (.int v) ∧ ∃ f2 : Nat → va_E, u9 = lU L f2 ∧ PW K ad P S1 L f2 ∧ S1.2.2.1 = n ∧ Kp ad P L f0 f2)) (hX D K b0 (fun E u9 => (ec ≠ 0 ∧ E = exn ec) ∧ ∃ f2 : Nat → va_E, u9 = lU L f2 ∧ PW K ad P S1 L f2 ∧ S1.2.2.1 = n ∧ Kp ad P L f0 f2)) [.ref (ad 0 0), .int p1, .int p2].toArray s 1 6 (fun q => b0 ≤ q)) 0 0 23 [(0, .ref (ad 0 0)), (1, .int a1), (2, .int a2)] [] S := by
    intro a1 a2 S h
    dsimp only [B_X6_tells_23] at h
    intro f H locs w hw hn hk ls hl
    refine lv_iconst (v := 0) hx hb dX6_tells_23 (by decide) ?_
    exact J24  a1 a2 0 S h f H locs w hw hn hk ls (lv_sub hl [0, 1, 2] rfl)
  dsimp only [F_X6_tells] at h
  obtain ⟨f, ef⟩ : ∃ z, z = f0 := ⟨_, rfl⟩
  rw [← ef] at w hw
  have hk : Kp ad P L f0 f := by rw [ef]; exact Kp.rf
  obtain ⟨H, eH⟩ : ∃ z, z = s.heap := ⟨_, rfl⟩
  obtain ⟨locs, el⟩ : ∃ z : List Loc, z = [] := ⟨_, rfl⟩
  rw [← eH, ← el] at w ⊢
  refine lv_iload_n hx hb dX6_tells_0 rfl (lv_at hl 1 rfl) ?_
  refine lv_iconst (v := 0) hx hb dX6_tells_1 (by decide) ?_
  refine lv_iconst (v := 2) hx hb dX6_tells_2 (by decide) ?_
  obtain ⟨v26, S27, h28, h⟩ := bd_some h
  refine t_callS (n := 3) C w (c_X6_within l D K b0 sa _ L _ ad P hP S0 hw hn p1 0 2 v26 S27 h28) gw_376 gw_374 gw_375 gw_1 ⟨by decide, by decide, by decide +kernel⟩ rfl rfl ⟨by decide, by decide⟩ rfl hl.1 rfl (Nat.le_of_ble_eq_true rfl) dX6_tells_3 ⟨Nat.le_of_ble_eq_true rfl, Nat.le_of_ble_eq_true rfl⟩ (fun v9 u H locs hp w => ?_)
  obtain ⟨f2, rfl, rfl, hw, hn, hk1⟩ := hp
  have hk := hk.tr hk1
  generalize f2 = f at w hw hk
  refine lv_if_eq (tgt := 23) hx hb dX6_tells_6 (by decide) (fun c29 => ?_) (fun c29 => ?_)
  · have h := bb_t h c29
    exact J23  p1 p2 S27 h f H locs w hw hn hk ls (lv_sub hl [0, 1, 2] rfl)
  · have h := bb_f h c29
    refine lv_iload_n hx hb dX6_tells_9 rfl (lv_at hl 2 rfl) ?_
    refine lv_iconst (v := 0) hx hb dX6_tells_10 (by decide) ?_
    refine lv_bipush (v := 35) hx hb dX6_tells_11 (by decide) ?_
    obtain ⟨v30, S31, h32, h⟩ := bd_some h
    refine t_callS (n := 3) C w (c_X6_within l D K b0 sa _ L _ ad P hP S27 hw hn p2 0 35 v30 S31 h32) gw_376 gw_374 gw_375 gw_1 ⟨by decide, by decide, by decide +kernel⟩ rfl rfl ⟨by decide, by decide⟩ rfl hl.1 rfl (Nat.le_of_ble_eq_true rfl) dX6_tells_13 ⟨Nat.le_of_ble_eq_true rfl, Nat.le_of_ble_eq_true rfl⟩ (fun v9 u H locs hp w => ?_)
    obtain ⟨f2, rfl, rfl, hw, hn, hk1⟩ := hp
    have hk := hk.tr hk1
    generalize f2 = f at w hw hk
    refine lv_if_eq (tgt := 23) hx hb dX6_tells_16 (by decide) (fun c33 => ?_) (fun c33 => ?_)
    · have h := bb_t h c33
      exact J23  p1 p2 S31 h f H locs w hw hn hk ls (lv_sub hl [0, 1, 2] rfl)
    · have h := bb_f h c33
      refine lv_iconst (v := 1) hx hb dX6_tells_19 (by decide) ?_
      refine lv_goto (tgt := 24) hx hb dX6_tells_20 (by decide) ?_
      exact J24  p1 p2 1 S31 h f H locs w hw hn hk ls (lv_sub hl [0, 1, 2] rfl)
theorem dX6_odds_0 : decode cX6_odds 0 = .ok (.iload_n 1, 1) := by decide +kernel
theorem dX6_odds_1 : decode cX6_odds 1 = .ok (.aload_n 0, 1) := by decide +kernel
theorem dX6_odds_2 : decode cX6_odds 2 = .ok (.getfield 46, 3) := by decide +kernel
theorem dX6_odds_5 : decode cX6_odds 5 = .ok (.invokestatic 113, 3) := by decide +kernel
theorem dX6_odds_8 : decode cX6_odds 8 = .ok (.iload_n 2, 1) := by decide +kernel
theorem dX6_odds_9 : decode cX6_odds 9 = .ok (.invokestatic 85, 3) := by decide +kernel
theorem dX6_odds_12 : decode cX6_odds 12 = .ok (.iload_n 3, 1) := by decide +kernel
theorem dX6_odds_13 : decode cX6_odds 13 = .ok (.iconst 0, 1) := by decide +kernel
theorem dX6_odds_14 : decode cX6_odds 14 = .ok (.bipush 35, 2) := by decide +kernel
theorem dX6_odds_16 : decode cX6_odds 16 = .ok (.invokestatic 92, 3) := by decide +kernel
theorem dX6_odds_19 : decode cX6_odds 19 = .ok (.invokestatic 96, 3) := by decide +kernel
theorem dX6_odds_22 : decode cX6_odds 22 = .ok (.aload_n 0, 1) := by decide +kernel
theorem dX6_odds_23 : decode cX6_odds 23 = .ok (.getfield 75, 3) := by decide +kernel
theorem dX6_odds_26 : decode cX6_odds 26 = .ok (.aload_n 0, 1) := by decide +kernel
theorem dX6_odds_27 : decode cX6_odds 27 = .ok (.getfield 10, 3) := by decide +kernel
theorem dX6_odds_30 : decode cX6_odds 30 = .ok (.invokevirtual 178, 3) := by decide +kernel
theorem dX6_odds_33 : decode cX6_odds 33 = .ok (.aload_n 0, 1) := by decide +kernel
theorem dX6_odds_34 : decode cX6_odds 34 = .ok (.getfield 68, 3) := by decide +kernel
theorem dX6_odds_37 : decode cX6_odds 37 = .ok (.aload_n 0, 1) := by decide +kernel
theorem dX6_odds_38 : decode cX6_odds 38 = .ok (.invokevirtual 182, 3) := by decide +kernel
theorem dX6_odds_41 : decode cX6_odds 41 = .ok (.aload_n 0, 1) := by decide +kernel
theorem dX6_odds_42 : decode cX6_odds 42 = .ok (.getfield 75, 3) := by decide +kernel
theorem dX6_odds_45 : decode cX6_odds 45 = .ok (.iload_n 3, 1) := by decide +kernel
theorem dX6_odds_46 : decode cX6_odds 46 = .ok (.invokevirtual 186, 3) := by decide +kernel
theorem dX6_odds_49 : decode cX6_odds 49 = .ok (.iconst 0, 1) := by decide +kernel
theorem dX6_odds_50 : decode cX6_odds 50 = .ok (.istore 4, 2) := by decide +kernel
theorem dX6_odds_52 : decode cX6_odds 52 = .ok (.iconst 0, 1) := by decide +kernel
theorem dX6_odds_53 : decode cX6_odds 53 = .ok (.istore 5, 2) := by decide +kernel
theorem dX6_odds_55 : decode cX6_odds 55 = .ok (.iload 5, 2) := by decide +kernel
theorem dX6_odds_57 : decode cX6_odds 57 = .ok (.bipush 9, 2) := by decide +kernel
theorem dX6_odds_59 : decode cX6_odds 59 = .ok (.if_icmp .ge 65, 3) := by decide +kernel
theorem dX6_odds_62 : decode cX6_odds 62 = .ok (.aload_n 0, 1) := by decide +kernel
theorem dX6_odds_63 : decode cX6_odds 63 = .ok (.getfield 42, 3) := by decide +kernel
theorem dX6_odds_66 : decode cX6_odds 66 = .ok (.iload_n 1, 1) := by decide +kernel
theorem dX6_odds_67 : decode cX6_odds 67 = .ok (.iaload, 1) := by decide +kernel
theorem dX6_odds_68 : decode cX6_odds 68 = .ok (.iload 5, 2) := by decide +kernel
theorem dX6_odds_70 : decode cX6_odds 70 = .ok (.invokestatic 219, 3) := by decide +kernel
theorem dX6_odds_73 : decode cX6_odds 73 = .ok (.istore 6, 2) := by decide +kernel
theorem dX6_odds_75 : decode cX6_odds 75 = .ok (.iload 6, 2) := by decide +kernel
theorem dX6_odds_77 : decode cX6_odds 77 = .ok (.ifCond .le 41, 3) := by decide +kernel
theorem dX6_odds_80 : decode cX6_odds 80 = .ok (.aload_n 0, 1) := by decide +kernel
theorem dX6_odds_81 : decode cX6_odds 81 = .ok (.aload_n 0, 1) := by decide +kernel
theorem dX6_odds_82 : decode cX6_odds 82 = .ok (.getfield 10, 3) := by decide +kernel
theorem dX6_odds_85 : decode cX6_odds 85 = .ok (.iload_n 2, 1) := by decide +kernel
theorem dX6_odds_86 : decode cX6_odds 86 = .ok (.iload 5, 2) := by decide +kernel
theorem dX6_odds_88 : decode cX6_odds 88 = .ok (.invokestatic 223, 3) := by decide +kernel
theorem dX6_odds_91 : decode cX6_odds 91 = .ok (.aload_n 0, 1) := by decide +kernel
theorem dX6_odds_92 : decode cX6_odds 92 = .ok (.getfield 68, 3) := by decide +kernel
theorem dX6_odds_95 : decode cX6_odds 95 = .ok (.invokevirtual 190, 3) := by decide +kernel
theorem dX6_odds_98 : decode cX6_odds 98 = .ok (.aload_n 0, 1) := by decide +kernel
theorem dX6_odds_99 : decode cX6_odds 99 = .ok (.getfield 68, 3) := by decide +kernel
theorem dX6_odds_102 : decode cX6_odds 102 = .ok (.invokevirtual 193, 3) := by decide +kernel
theorem dX6_odds_105 : decode cX6_odds 105 = .ok (.invokevirtual 230, 3) := by decide +kernel
theorem dX6_odds_108 : decode cX6_odds 108 = .ok (.ifCond .eq 10, 3) := by decide +kernel
theorem dX6_odds_111 : decode cX6_odds 111 = .ok (.iload 4, 2) := by decide +kernel
theorem dX6_odds_113 : decode cX6_odds 113 = .ok (.iload 6, 2) := by decide +kernel
theorem dX6_odds_115 : decode cX6_odds 115 = .ok (.iadd, 1) := by decide +kernel
theorem dX6_odds_116 : decode cX6_odds 116 = .ok (.istore 4, 2) := by decide +kernel
theorem dX6_odds_118 : decode cX6_odds 118 = .ok (.iinc 5 1, 3) := by decide +kernel
theorem dX6_odds_121 : decode cX6_odds 121 = .ok (.goto (-66), 3) := by decide +kernel
theorem dX6_odds_124 : decode cX6_odds 124 = .ok (.iload 4, 2) := by decide +kernel
theorem dX6_odds_126 : decode cX6_odds 126 = .ok (.ireturn, 1) := by decide +kernel
noncomputable def B_X6_odds_118 (k55 : (Int32 × Int32 × Int32 × Int32) → fS → Option ((Nat × Int32) × fS)) (a1 : Int32) (a2 : Int32) (a4 : Int32) (a5 : Int32) (S : fS) : Option ((Nat × Int32) × fS) := iv (a5 + Int32.ofInt 1) (fun x1 => k55 (a1, a2, a4, x1) S)
noncomputable def B_X6_odds_55 (k55 : (Int32 × Int32 × Int32 × Int32) → fS → Option ((Nat × Int32) × fS)) : (Int32 × Int32 × Int32 × Int32) → fS → Option ((Nat × Int32) × fS) := fun ⟨a1, a2, a4, a5⟩ S => bb ((9 : Int32) ≤ a5) (some ((0, a4), S)) (gd (ib a1 6) (iv (ge S 15 0 (a1 : Int32).toNatClampNeg) (fun x4 => bd (F_X6_weightAt x4 a5 S) (fun v5 S6 => bb (v5 ≤ (0 : Int32)) (B_X6_odds_118 k55 a1 a2 a4 a5 S6) (bd (F_X6_cellReached a2 a5 S6) (fun v9 S10 => bd (F_X3_grip  S10) (fun v12 S13 => bd (F_X3_slip  S13) (fun v15 S16 => bd (F_X6_pays 0 v9 v12 v15 S16) (fun v18 S19 => bb (v18 = (0 : Int32)) (B_X6_odds_118 k55 a1 a2 a4 a5 S19) (iv (a4 + v5) (fun x22 => B_X6_odds_118 k55 a1 a2 x22 a5 S19)))))))))))
noncomputable def F_X6_odds (p1 : Int32) (p2 : Int32) (p3 : Int32) (S0 : fS) : Option ((Nat × Int32) × fS) := iv (ge S0 0 0 9) (fun x23 => bx (F_X6_needElement p1 x23 S0) (fun v24 S25 => bx (F_X6_needCell p2 S25) (fun v28 S29 => bd (F_X6_within p3 0 35 S29) (fun v32 S33 => bx (F_X6_need v32 S33) (fun v35 S36 => bd (F_X5_nameNext 0 0 S36) (fun v39 S40 => bd (F_X6_codeInForce  S40) (fun v42 S43 => bd (F_X3_run v42 0 p3 S43) (fun v45 S46 => lp (B_X6_odds_55 ) fuel (p1, p2, 0, 0) S46))))))))
set_option maxHeartbeats 4000000 in
set_option maxRecDepth 100000 in
theorem c_X6_odds (l : Launch) (hls : l.stackTraces = false) (D : va_G) (K : Nat → ClassId) (b0 : Nat) (sa : sT) (sz : Nat) (L : List Nat) (f0 : Nat → va_E) (ad : Nat → Nat → Nat) (P : Nat → Nat → Prop) {n : Nat × Nat} (hP : ∀ a i : Nat, isn n a i → P a i) (S0 : fS) (hw : PW K ad P S0 L f0) (hn : S0.2.2.1 = n) (hprobe : 0 < n.1) (p1 : Int32) (p2 : Int32) (p3 : Int32) (ec : Nat) (v : Int32) (S1 : fS) (h : F_X6_odds p1 p2 p3 S0 = some ((ec, v), S1)) : vx_Met l yX6_odds (.code yX6_odds cX6_odds 7 (some .int) :: gt) { frames := 7, cells := 3, slots := 18, locals := 120 } (va_Pc [.ref (ad 0 0), .int p1, .int p2, .int p3] (hPre D K b0 sa sz L f0)) (hQ D K b0 (fun v9 u9 => ec = 0 ∧ v9 = some (.int v) ∧ ∃ f2 : Nat → va_E, u9 = lU L f2 ∧ PW K ad P S1 L f2 ∧ S1.2.2.1 = n ∧ Kp ad P L f0 f2)) (hX D K b0 (fun E u9 => (ec ≠ 0 ∧ E = exn ec) ∧ ∃ f2 : Nat → va_E, u9 = lU L f2 ∧ PW K ad P S1 L f2 ∧ S1.2.2.1 = n ∧ Kp ad P L f0 f2)) 3 18 (fun q => b0 ≤ q) := by
  refine t_xof (own := RX6) (by decide) rfl ?_ (Nat.le_of_ble_eq_true rfl)
  intro p e s m below meth c ls C w hsz hr hlk htb hl
  have hx := C.1
  have hb := C.2.1
  have hl : lv_has ls 7 [(0, .ref (ad 0 0)), (1, .int p1), (2, .int p2), (3, .int p3)] := hl
  have J118 : ∀ (k55 : (Int32 × Int32 × Int32 × Int32) → fS → Option ((Nat × Int32) × fS)) (hk55 : ∀ (a1 : Int32) (a2 : Int32) (a4 : Int32) (a5 : Int32) (S : fS), k55 (a1, a2, a4, a5) S = some ((ec, v), S1) → Gw D K b0 sa ad P n L f0 p l e { frames := 7, cells := 3, slots := 18, locals := 120 } s m [.ref (ad 0 0), .int p1, .int p2, .int p3].toArray below meth c 7 (vx_MQ below (hQ D K b0 (fun v9 u9 => ec = 0 ∧ v9 = some (.int v) ∧ ∃ f2 : Nat → va_E, u9 = lU L f2 ∧ PW K ad P S1 L f2 ∧ S1.2.2.1 = n ∧ Kp ad P L f0 f2)) (hX D K b0 (fun E u9 => (ec ≠ 0 ∧ E = exn ec) ∧ ∃ f2 : Nat → va_E, u9 = lU L f2 ∧ PW K ad P S1 L f2 ∧ S1.2.2.1 = n ∧ Kp ad P L f0 f2)) [.ref (ad 0 0), .int p1, .int p2, .int p3].toArray s 3 18 (fun q => b0 ≤ q)) 3 18 55 [(0, .ref (ad 0 0)), (1, .int a1), (2, .int a2), (4, .int a4), (5, .int a5)] [] S) (a1 : Int32) (a2 : Int32) (a4 : Int32) (a5 : Int32) (S : fS), B_X6_odds_118 k55 a1 a2 a4 a5 S = some ((ec, v), S1) → Gw D K b0 sa ad P n L f0 p l e { frames := 7, cells := 3, slots := 18, locals := 120 } s m [.ref (ad 0 0), .int p1, .int p2, .int p3].toArray below meth c 7 (vx_MQ below (hQ D K b0 (fun v9 u9 => ec = 0 ∧ v9 = some (.int v) ∧ ∃ f2 : Nat → va_E, u9 = lU L f2 ∧ PW K ad P S1 L f2 ∧ S1.2.2.1 = n ∧ Kp ad P L f0 f2)) (hX D K b0 (fun E u9 => (ec ≠ 0 ∧ E = exn ec) ∧ ∃ f2 : Nat → va_E, u9 = lU L f2 ∧ PW K ad P S1 L f2 ∧ S1.2.2.1 = n ∧ Kp ad P L f0 f2)) [.ref (ad 0 0), .int p1, .int p2, .int p3].toArray s 3 18 (fun q => b0 ≤ q)) 3 18 118 [(0, .ref (ad 0 0)), (1, .int a1), (2, .int a2), (4, .int a4), (5, .int a5)] [] S := by
    intro k55 hk55 a1 a2 a4 a5 S h
    dsimp only [B_X6_odds_118] at h
    intro f H locs w hw hn hk ls hl
    obtain ⟨x1, ex1, h⟩ := iv_some h
    refine lv_iinc (v := x1) (lv' := [(5, .int x1), (0, .ref (ad 0 0)), (1, .int a1), (2, .int a2), (4, .int a4)]) hx hb dX6_odds_118 hl (k := 4) rfl ex1.symm (by decide) rfl (fun ls hl => ?_)
    refine lv_goto (tgt := 55) hx hb dX6_odds_121 (by decide) ?_
    exact hk55 a1 a2 a4 x1 S h f H locs w hw hn hk ls (lv_sub hl [1, 2, 3, 4, 0] rfl)
  have J55 : ∀ (fu : Nat) (a1 : Int32) (a2 : Int32) (a4 : Int32) (a5 : Int32) (S : fS), lp (B_X6_odds_55 ) fu (a1, a2, a4, a5) S = some ((ec, v), S1) → Gw D K b0 sa ad P n L f0 p l e { frames := 7, cells := 3, slots := 18, locals := 120 } s m [.ref (ad 0 0), .int p1, .int p2, .int p3].toArray below meth c 7 (vx_MQ below (hQ D K b0 (fun v9 u9 => ec = 0 ∧ v9 = some (.int v) ∧ ∃ f2 : Nat → va_E, u9 = lU L f2 ∧ PW K ad P S1 L f2 ∧ S1.2.2.1 = n ∧ Kp ad P L f0 f2)) (hX D K b0 (fun E u9 => (ec ≠ 0 ∧ E = exn ec) ∧ ∃ f2 : Nat → va_E, u9 = lU L f2 ∧ PW K ad P S1 L f2 ∧ S1.2.2.1 = n ∧ Kp ad P L f0 f2)) [.ref (ad 0 0), .int p1, .int p2, .int p3].toArray s 3 18 (fun q => b0 ≤ q)) 3 18 55 [(0, .ref (ad 0 0)), (1, .int a1), (2, .int a2), (4, .int a4), (5, .int a5)] [] S := by
    intro fu a1 a2 a4 a5 S h
    refine lp_some (G := (fun q S => Gw D K b0 sa ad P n L f0 p l e { frames := 7, cells := 3, slots := 18, locals := 120 } s m [.ref (ad 0 0), .int p1, .int p2, .int p3].toArray below meth c 7 (vx_MQ below (hQ D K b0 (fun v9 u9 => ec = 0 ∧ v9 = some (.int v) ∧ ∃ f2 : Nat → va_E, u9 = lU L f2 ∧ PW K ad P S1 L f2 ∧ S1.2.2.1 = n ∧ Kp ad P L f0 f2)) (hX D K b0 (fun E u9 => (ec ≠ 0 ∧ E = exn ec) ∧ ∃ f2 : Nat → va_E, u9 = lU L f2 ∧ PW K ad P S1 L f2 ∧ S1.2.2.1 = n ∧ Kp ad P L f0 f2)) [.ref (ad 0 0), .int p1, .int p2, .int p3].toArray s 3 18 (fun q => b0 ≤ q)) 3 18 55 [(0, .ref (ad 0 0)), (1, .int q.1), (2, .int q.2.1), (4, .int q.2.2.1), (5, .int q.2.2.2)] [] S)) (fun k55 hk55 q S h => ?_) fu (a1, a2, a4, a5) S h
    obtain ⟨a1, a2, a4, a5⟩ := q
    have hk55 : ∀ (a1 : Int32) (a2 : Int32) (a4 : Int32) (a5 : Int32) (S : fS), k55 (a1, a2, a4, a5) S = some ((ec, v), S1) → Gw D K b0 sa ad P n L f0 p l e { frames := 7, cells := 3, slots := 18, locals := 120 } s m [.ref (ad 0 0), .int p1, .int p2, .int p3].toArray below meth c 7 (vx_MQ below (hQ D K b0 (fun v9 u9 => ec = 0 ∧ v9 = some (.int v) ∧ ∃ f2 : Nat → va_E, u9 = lU L f2 ∧ PW K ad P S1 L f2 ∧ S1.2.2.1 = n ∧ Kp ad P L f0 f2)) (hX D K b0 (fun E u9 => (ec ≠ 0 ∧ E = exn ec) ∧ ∃ f2 : Nat → va_E, u9 = lU L f2 ∧ PW K ad P S1 L f2 ∧ S1.2.2.1 = n ∧ Kp ad P L f0 f2)) [.ref (ad 0 0), .int p1, .int p2, .int p3].toArray s 3 18 (fun q => b0 ≤ q)) 3 18 55 [(0, .ref (ad 0 0)), (1, .int a1), (2, .int a2), (4, .int a4), (5, .int a5)] [] S := fun a1 a2 a4 a5 S h => hk55 (a1, a2, a4, a5) S h
    dsimp only [B_X6_odds_55] at h
    intro f H locs w hw hn hk ls hl
    refine lv_iload hx hb dX6_odds_55 (lv_at hl 4 rfl) ?_
    refine lv_bipush (v := 9) hx hb dX6_odds_57 (by decide) ?_
    refine lv_icmp_ge (tgt := 124) hx hb dX6_odds_59 (by decide) (fun c2 => ?_) (fun c2 => ?_)
    · have h := bb_t h c2
      refine lv_iload hx hb dX6_odds_124 (lv_at hl 3 rfl) ?_
      refine vx_ret ?_
      exact t_iret C hr hlk w ⟨sx_e h, sx_v h, _, rfl, sx_w h hw, sx_n h hn, hk⟩ (by decide) (by decide) dX6_odds_126
    · have h := bb_f h c2
      refine lv_aload_n hx hb dX6_odds_62 rfl (lv_at hl 0 rfl) ?_
      refine u_getr C w hw (hP _ _ (isn_f rfl rfl (by decide))) rfl (N := 18) rfl rfl cin_6 8 (by decide) (by decide) (a2 := 15) (i2 := 0) rfl gw_295 dX6_odds_63 ?_
      refine lv_iload_n hx hb dX6_odds_66 rfl (lv_at hl 1 rfl) ?_
      obtain ⟨g3, h⟩ := gd_some h
      refine u_iald C w hw (hP _ _ (isn_f rfl rfl (by decide))) rfl rfl (n := 6) rfl (vp_in_iff.mpr g3) dX6_odds_67 ?_
      refine u_iv h (fun x4 h => ?_)
      refine lv_iload hx hb dX6_odds_68 (lv_at hl 4 rfl) ?_
      obtain ⟨v5, S6, h7, h⟩ := bd_some h
      refine t_callS (n := 2) C w (c_X6_weightAt l D K b0 sa _ L _ ad P hP S hw hn x4 a5 v5 S6 h7) gw_1011 gw_1009 gw_1010 gw_1 ⟨by decide, by decide, by decide +kernel⟩ rfl rfl ⟨by decide, by decide⟩ rfl hl.1 rfl (Nat.le_of_ble_eq_true rfl) dX6_odds_70 ⟨Nat.le_of_ble_eq_true rfl, Nat.le_of_ble_eq_true rfl⟩ (fun v9 u H locs hp w => ?_)
      obtain ⟨f2, rfl, rfl, hw, hn, hk1⟩ := hp
      have hk := hk.tr hk1
      generalize f2 = f at w hw hk
      refine lv_istore (lv' := [(6, .int v5), (0, .ref (ad 0 0)), (1, .int a1), (2, .int a2), (4, .int a4), (5, .int a5)]) hx hb dX6_odds_73 hl (by decide) rfl (fun ls hl => ?_)
      refine lv_iload hx hb dX6_odds_75 (lv_at hl 0 rfl) ?_
      refine lv_if_le (tgt := 118) hx hb dX6_odds_77 (by decide) (fun c8 => ?_) (fun c8 => ?_)
      · have h := bb_t h c8
        exact J118 k55 hk55 a1 a2 a4 a5 S6 h f H locs w hw hn hk ls (lv_sub hl [1, 2, 3, 4, 5] rfl)
      · have h := bb_f h c8
        refine lv_aload_n hx hb dX6_odds_80 rfl (lv_at hl 1 rfl) ?_
        refine lv_aload_n hx hb dX6_odds_81 rfl (lv_at hl 1 rfl) ?_
        refine u_getr C w hw (hP _ _ (isn_f rfl rfl (by decide))) rfl (N := 18) rfl rfl cin_6 0 (by decide) (by decide) (a2 := 1) (i2 := 0) rfl gw_287 dX6_odds_82 ?_
        refine lv_iload_n hx hb dX6_odds_85 rfl (lv_at hl 3 rfl) ?_
        refine lv_iload hx hb dX6_odds_86 (lv_at hl 5 rfl) ?_
        obtain ⟨v9, S10, h11, h⟩ := bd_some h
        refine t_callS (n := 2) C w (c_X6_cellReached l D K b0 sa _ L _ ad P hP S6 hw hn a2 a5 v9 S10 h11) gw_1014 gw_1012 gw_1013 gw_1 ⟨by decide, by decide, by decide +kernel⟩ rfl rfl ⟨by decide, by decide⟩ rfl hl.1 rfl (Nat.le_of_ble_eq_true rfl) dX6_odds_88 ⟨Nat.le_of_ble_eq_true rfl, Nat.le_of_ble_eq_true rfl⟩ (fun v9 u H locs hp w => ?_)
        obtain ⟨f2, rfl, rfl, hw, hn, hk1⟩ := hp
        have hk := hk.tr hk1
        generalize f2 = f at w hw hk
        refine lv_aload_n hx hb dX6_odds_91 rfl (lv_at hl 1 rfl) ?_
        refine u_getr C w hw (hP _ _ (isn_f rfl rfl (by decide))) rfl (N := 18) rfl rfl cin_6 14 (by decide) (by decide) (a2 := 22) (i2 := 0) rfl gw_301 dX6_odds_92 ?_
        obtain ⟨v12, S13, h14, h⟩ := bd_some h
        refine u_callV (n := 0) C w hw (hP _ _ (isn_f rfl rfl (by decide))) rfl rfl rfl (c_X3_grip l D K b0 sa _ L _ ad P hP S10 hw hn  v12 S13 h14) gw_421 gw_418 gw_419 gw_420 gw_6 ⟨by decide, by decide, by decide +kernel⟩ rfl rfl ⟨by decide, by decide⟩ rfl hl.1 rfl (Nat.le_of_ble_eq_true rfl) dX6_odds_95 ⟨Nat.le_of_ble_eq_true rfl, Nat.le_of_ble_eq_true rfl⟩ (fun v9 u H locs hp w => ?_)
        obtain ⟨f2, rfl, rfl, hw, hn, hk1⟩ := hp
        have hk := hk.tr hk1
        generalize f2 = f at w hw hk
        refine lv_aload_n hx hb dX6_odds_98 rfl (lv_at hl 1 rfl) ?_
        refine u_getr C w hw (hP _ _ (isn_f rfl rfl (by decide))) rfl (N := 18) rfl rfl cin_6 14 (by decide) (by decide) (a2 := 22) (i2 := 0) rfl gw_301 dX6_odds_99 ?_
        obtain ⟨v15, S16, h17, h⟩ := bd_some h
        refine u_callV (n := 0) C w hw (hP _ _ (isn_f rfl rfl (by decide))) rfl rfl rfl (c_X3_slip l D K b0 sa _ L _ ad P hP S13 hw hn  v15 S16 h17) gw_425 gw_422 gw_423 gw_424 gw_6 ⟨by decide, by decide, by decide +kernel⟩ rfl rfl ⟨by decide, by decide⟩ rfl hl.1 rfl (Nat.le_of_ble_eq_true rfl) dX6_odds_102 ⟨Nat.le_of_ble_eq_true rfl, Nat.le_of_ble_eq_true rfl⟩ (fun v9 u H locs hp w => ?_)
        obtain ⟨f2, rfl, rfl, hw, hn, hk1⟩ := hp
        have hk := hk.tr hk1
        generalize f2 = f at w hw hk
        obtain ⟨v18, S19, h20, h⟩ := bd_some h
        refine u_callV (n := 4) C w hw (hP _ _ (isn_f rfl rfl (by decide))) rfl rfl rfl (c_X6_pays l D K b0 sa _ L _ ad P hP S16 hw hn hprobe 0 (by decide) v9 v12 v15 v18 S19 h20) gw_1027 gw_1024 gw_1026 gs_17 gw_1 ⟨by decide, by decide, by decide +kernel⟩ rfl rfl ⟨by decide, by decide⟩ rfl hl.1 rfl (Nat.le_of_ble_eq_true rfl) dX6_odds_105 ⟨Nat.le_of_ble_eq_true rfl, Nat.le_of_ble_eq_true rfl⟩ (fun v9 u H locs hp w => ?_)
        obtain ⟨f2, rfl, rfl, hw, hn, hk1⟩ := hp
        have hk := hk.tr hk1
        generalize f2 = f at w hw hk
        refine lv_if_eq (tgt := 118) hx hb dX6_odds_108 (by decide) (fun c21 => ?_) (fun c21 => ?_)
        · have h := bb_t h c21
          exact J118 k55 hk55 a1 a2 a4 a5 S19 h f H locs w hw hn hk ls (lv_sub hl [1, 2, 3, 4, 5] rfl)
        · have h := bb_f h c21
          refine lv_iload hx hb dX6_odds_111 (lv_at hl 4 rfl) ?_
          refine lv_iload hx hb dX6_odds_113 (lv_at hl 0 rfl) ?_
          refine lv_iadd hx hb dX6_odds_115 ?_
          refine u_iv h (fun x22 h => ?_)
          refine lv_istore (lv' := [(4, .int x22), (6, .int v5), (0, .ref (ad 0 0)), (1, .int a1), (2, .int a2), (5, .int a5)]) hx hb dX6_odds_116 hl (by decide) rfl (fun ls hl => ?_)
          exact J118 k55 hk55 a1 a2 x22 a5 S19 h f H locs w hw hn hk ls (lv_sub hl [2, 3, 4, 0, 5] rfl)
  dsimp only [F_X6_odds] at h
  obtain ⟨f, ef⟩ : ∃ z, z = f0 := ⟨_, rfl⟩
  rw [← ef] at w hw
  have hk : Kp ad P L f0 f := by rw [ef]; exact Kp.rf
  obtain ⟨H, eH⟩ : ∃ z, z = s.heap := ⟨_, rfl⟩
  obtain ⟨locs, el⟩ : ∃ z : List Loc, z = [] := ⟨_, rfl⟩
  rw [← eH, ← el] at w ⊢
  refine lv_iload_n hx hb dX6_odds_0 rfl (lv_at hl 1 rfl) ?_
  refine lv_aload_n hx hb dX6_odds_1 rfl (lv_at hl 0 rfl) ?_
  refine u_geti C w hw (hP _ _ (isn_f rfl rfl (by decide))) rfl (N := 18) rfl rfl cin_6 9 (by decide) rfl gw_296 dX6_odds_2 ?_
  refine u_iv h (fun x23 h => ?_)
  rcases bx_some h with ⟨v24, S25, h26, h⟩ | ⟨e27, v24, S25, h26, h⟩
  rotate_left
  · refine t_xcallS (n := 2) C w (c_X6_needElement l hls D K b0 sa _ L _ ad P hP S0 hw hn p1 x23 (e27 + 1) v24 S25 h26) gw_656 gw_654 gw_655 gw_1 ⟨by decide, by decide, by decide +kernel⟩ rfl rfl ⟨by decide, by decide⟩ rfl hl.1 rfl (Nat.le_of_ble_eq_true rfl) dX6_odds_5 ⟨Nat.le_of_ble_eq_true rfl, Nat.le_of_ble_eq_true rfl⟩ (fun E ce q9 u H locs hp w hcell hv0 hcl => ?_) (fun v9 u H locs hp w => absurd hp.1 (Nat.succ_ne_zero _))
    obtain ⟨⟨he, hE⟩, f2, rfl, hw, hn, hk1⟩ := hp
    exact t_xout w htb hlk hcell hv0 hcl ⟨sz_e h he hE, _, rfl, sz_w h hw, sz_n h hn, hk.tr hk1⟩ (by decide) (by decide)
  refine t_xcallS (n := 2) C w (c_X6_needElement l hls D K b0 sa _ L _ ad P hP S0 hw hn p1 x23 0 v24 S25 h26) gw_656 gw_654 gw_655 gw_1 ⟨by decide, by decide, by decide +kernel⟩ rfl rfl ⟨by decide, by decide⟩ rfl hl.1 rfl (Nat.le_of_ble_eq_true rfl) dX6_odds_5 ⟨Nat.le_of_ble_eq_true rfl, Nat.le_of_ble_eq_true rfl⟩ (fun E ce q9 u H locs hp w hcell hv0 hcl => absurd rfl hp.1.1) (fun v9 u H locs hp w => ?_)
  obtain ⟨-, rfl, f2, rfl, hw, hn, hk1⟩ := hp
  have hk := hk.tr hk1
  generalize f2 = f at w hw hk
  refine lv_iload_n hx hb dX6_odds_8 rfl (lv_at hl 2 rfl) ?_
  rcases bx_some h with ⟨v28, S29, h30, h⟩ | ⟨e31, v28, S29, h30, h⟩
  rotate_left
  · refine t_xcallS (n := 1) C w (c_X6_needCell l hls D K b0 sa _ L _ ad P hP S25 hw hn p2 (e31 + 1) v28 S29 h30) gw_554 gw_552 gw_553 gw_1 ⟨by decide, by decide, by decide +kernel⟩ rfl rfl ⟨by decide, by decide⟩ rfl hl.1 rfl (Nat.le_of_ble_eq_true rfl) dX6_odds_9 ⟨Nat.le_of_ble_eq_true rfl, Nat.le_of_ble_eq_true rfl⟩ (fun E ce q9 u H locs hp w hcell hv0 hcl => ?_) (fun v9 u H locs hp w => absurd hp.1 (Nat.succ_ne_zero _))
    obtain ⟨⟨he, hE⟩, f2, rfl, hw, hn, hk1⟩ := hp
    exact t_xout w htb hlk hcell hv0 hcl ⟨sz_e h he hE, _, rfl, sz_w h hw, sz_n h hn, hk.tr hk1⟩ (by decide) (by decide)
  refine t_xcallS (n := 1) C w (c_X6_needCell l hls D K b0 sa _ L _ ad P hP S25 hw hn p2 0 v28 S29 h30) gw_554 gw_552 gw_553 gw_1 ⟨by decide, by decide, by decide +kernel⟩ rfl rfl ⟨by decide, by decide⟩ rfl hl.1 rfl (Nat.le_of_ble_eq_true rfl) dX6_odds_9 ⟨Nat.le_of_ble_eq_true rfl, Nat.le_of_ble_eq_true rfl⟩ (fun E ce q9 u H locs hp w hcell hv0 hcl => absurd rfl hp.1.1) (fun v9 u H locs hp w => ?_)
  obtain ⟨-, rfl, f2, rfl, hw, hn, hk1⟩ := hp
  have hk := hk.tr hk1
  generalize f2 = f at w hw hk
  refine lv_iload_n hx hb dX6_odds_12 rfl (lv_at hl 3 rfl) ?_
  refine lv_iconst (v := 0) hx hb dX6_odds_13 (by decide) ?_
  refine lv_bipush (v := 35) hx hb dX6_odds_14 (by decide) ?_
  obtain ⟨v32, S33, h34, h⟩ := bd_some h
  refine t_callS (n := 3) C w (c_X6_within l D K b0 sa _ L _ ad P hP S29 hw hn p3 0 35 v32 S33 h34) gw_376 gw_374 gw_375 gw_1 ⟨by decide, by decide, by decide +kernel⟩ rfl rfl ⟨by decide, by decide⟩ rfl hl.1 rfl (Nat.le_of_ble_eq_true rfl) dX6_odds_16 ⟨Nat.le_of_ble_eq_true rfl, Nat.le_of_ble_eq_true rfl⟩ (fun v9 u H locs hp w => ?_)
  obtain ⟨f2, rfl, rfl, hw, hn, hk1⟩ := hp
  have hk := hk.tr hk1
  generalize f2 = f at w hw hk
  rcases bx_some h with ⟨v35, S36, h37, h⟩ | ⟨e38, v35, S36, h37, h⟩
  rotate_left
  · refine t_xcallS (n := 1) C w (c_X6_need l hls D K b0 sa _ L _ ad P hP S33 hw hn v32 (e38 + 1) v35 S36 h37) gw_625 gw_623 gw_624 gw_1 ⟨by decide, by decide, by decide +kernel⟩ rfl rfl ⟨by decide, by decide⟩ rfl hl.1 rfl (Nat.le_of_ble_eq_true rfl) dX6_odds_19 ⟨Nat.le_of_ble_eq_true rfl, Nat.le_of_ble_eq_true rfl⟩ (fun E ce q9 u H locs hp w hcell hv0 hcl => ?_) (fun v9 u H locs hp w => absurd hp.1 (Nat.succ_ne_zero _))
    obtain ⟨⟨he, hE⟩, f2, rfl, hw, hn, hk1⟩ := hp
    exact t_xout w htb hlk hcell hv0 hcl ⟨sz_e h he hE, _, rfl, sz_w h hw, sz_n h hn, hk.tr hk1⟩ (by decide) (by decide)
  refine t_xcallS (n := 1) C w (c_X6_need l hls D K b0 sa _ L _ ad P hP S33 hw hn v32 0 v35 S36 h37) gw_625 gw_623 gw_624 gw_1 ⟨by decide, by decide, by decide +kernel⟩ rfl rfl ⟨by decide, by decide⟩ rfl hl.1 rfl (Nat.le_of_ble_eq_true rfl) dX6_odds_19 ⟨Nat.le_of_ble_eq_true rfl, Nat.le_of_ble_eq_true rfl⟩ (fun E ce q9 u H locs hp w hcell hv0 hcl => absurd rfl hp.1.1) (fun v9 u H locs hp w => ?_)
  obtain ⟨-, rfl, f2, rfl, hw, hn, hk1⟩ := hp
  have hk := hk.tr hk1
  generalize f2 = f at w hw hk
  refine lv_aload_n hx hb dX6_odds_22 rfl (lv_at hl 0 rfl) ?_
  refine u_getr C w hw (hP _ _ (isn_f rfl rfl (by decide))) rfl (N := 18) rfl rfl cin_6 15 (by decide) (by decide) (a2 := 25) (i2 := 0) rfl gw_302 dX6_odds_23 ?_
  refine lv_aload_n hx hb dX6_odds_26 rfl (lv_at hl 0 rfl) ?_
  refine u_getr C w hw (hP _ _ (isn_f rfl rfl (by decide))) rfl (N := 18) rfl rfl cin_6 0 (by decide) (by decide) (a2 := 1) (i2 := 0) rfl gw_287 dX6_odds_27 ?_
  obtain ⟨v39, S40, h41, h⟩ := bd_some h
  refine u_callV (n := 1) C w hw (hP _ _ (isn_t25 hprobe)) rfl rfl rfl (c_X5_nameNext l D K b0 sa _ L _ ad P hP S36 hw hn 0 hprobe 0 (by decide) v39 S40 h41) gw_380 gw_377 gw_378 gw_379 gw_7 ⟨by decide, by decide, by decide +kernel⟩ rfl rfl ⟨by decide, by decide⟩ rfl hl.1 rfl (Nat.le_of_ble_eq_true rfl) dX6_odds_30 ⟨Nat.le_of_ble_eq_true rfl, Nat.le_of_ble_eq_true rfl⟩ (fun v9 u H locs hp w => ?_)
  obtain ⟨f2, rfl, rfl, hw, hn, hk1⟩ := hp
  have hk := hk.tr hk1
  generalize f2 = f at w hw hk
  refine lv_aload_n hx hb dX6_odds_33 rfl (lv_at hl 0 rfl) ?_
  refine u_getr C w hw (hP _ _ (isn_f rfl rfl (by decide))) rfl (N := 18) rfl rfl cin_6 14 (by decide) (by decide) (a2 := 22) (i2 := 0) rfl gw_301 dX6_odds_34 ?_
  refine lv_aload_n hx hb dX6_odds_37 rfl (lv_at hl 0 rfl) ?_
  obtain ⟨v42, S43, h44, h⟩ := bd_some h
  refine u_callV (n := 0) C w hw (hP _ _ (isn_f rfl rfl (by decide))) rfl rfl rfl (c_X6_codeInForce l D K b0 sa _ L _ ad P hP S40 hw hn  v42 S43 h44) gw_373 gw_370 gw_372 gs_3 gw_1 ⟨by decide, by decide, by decide +kernel⟩ rfl rfl ⟨by decide, by decide⟩ rfl hl.1 rfl (Nat.le_of_ble_eq_true rfl) dX6_odds_38 ⟨Nat.le_of_ble_eq_true rfl, Nat.le_of_ble_eq_true rfl⟩ (fun v9 u H locs hp w => ?_)
  obtain ⟨f2, rfl, rfl, hw, hn, hk1⟩ := hp
  have hk := hk.tr hk1
  generalize f2 = f at w hw hk
  refine lv_aload_n hx hb dX6_odds_41 rfl (lv_at hl 0 rfl) ?_
  refine u_getr C w hw (hP _ _ (isn_f rfl rfl (by decide))) rfl (N := 18) rfl rfl cin_6 15 (by decide) (by decide) (a2 := 25) (i2 := 0) rfl gw_302 dX6_odds_42 ?_
  refine lv_iload_n hx hb dX6_odds_45 rfl (lv_at hl 3 rfl) ?_
  obtain ⟨v45, S46, h47, h⟩ := bd_some h
  refine u_callV (n := 3) C w hw (hP _ _ (isn_f rfl rfl (by decide))) rfl rfl rfl (c_X3_run l D K b0 sa _ L _ ad P hP S43 hw hn v42 0 hprobe p3 v45 S46 h47) gw_384 gw_381 gw_382 gw_383 gw_6 ⟨by decide, by decide, by decide +kernel⟩ rfl rfl ⟨by decide, by decide⟩ rfl hl.1 rfl (Nat.le_of_ble_eq_true rfl) dX6_odds_46 ⟨Nat.le_of_ble_eq_true rfl, Nat.le_of_ble_eq_true rfl⟩ (fun v9 u H locs hp w => ?_)
  obtain ⟨f2, rfl, rfl, hw, hn, hk1⟩ := hp
  have hk := hk.tr hk1
  generalize f2 = f at w hw hk
  refine lv_iconst (v := 0) hx hb dX6_odds_49 (by decide) ?_
  refine lv_istore (lv' := [(4, .int 0), (0, .ref (ad 0 0)), (1, .int p1), (2, .int p2), (3, .int p3)]) hx hb dX6_odds_50 hl (by decide) rfl (fun ls hl => ?_)
  refine lv_iconst (v := 0) hx hb dX6_odds_52 (by decide) ?_
  refine lv_istore (lv' := [(5, .int 0), (4, .int 0), (0, .ref (ad 0 0)), (1, .int p1), (2, .int p2), (3, .int p3)]) hx hb dX6_odds_53 hl (by decide) rfl (fun ls hl => ?_)
  exact J55  fuel p1 p2 0 0 S46 h f H locs w hw hn hk ls (lv_sub hl [2, 3, 4, 1, 0] rfl)
theorem dX6_when_0 : decode cX6_when 0 = .ok (.iload_n 1, 1) := by decide +kernel
theorem dX6_when_1 : decode cX6_when 1 = .ok (.invokestatic 85, 3) := by decide +kernel
theorem dX6_when_4 : decode cX6_when 4 = .ok (.iload_n 2, 1) := by decide +kernel
theorem dX6_when_5 : decode cX6_when 5 = .ok (.iconst 0, 1) := by decide +kernel
theorem dX6_when_6 : decode cX6_when 6 = .ok (.aload_n 0, 1) := by decide +kernel
theorem dX6_when_7 : decode cX6_when 7 = .ok (.getfield 33, 3) := by decide +kernel
theorem dX6_when_10 : decode cX6_when 10 = .ok (.iconst 1, 1) := by decide +kernel
theorem dX6_when_11 : decode cX6_when 11 = .ok (.isub, 1) := by decide +kernel
theorem dX6_when_12 : decode cX6_when 12 = .ok (.invokestatic 92, 3) := by decide +kernel
theorem dX6_when_15 : decode cX6_when 15 = .ok (.invokestatic 96, 3) := by decide +kernel
theorem dX6_when_18 : decode cX6_when 18 = .ok (.aload_n 0, 1) := by decide +kernel
theorem dX6_when_19 : decode cX6_when 19 = .ok (.getfield 75, 3) := by decide +kernel
theorem dX6_when_22 : decode cX6_when 22 = .ok (.aload_n 0, 1) := by decide +kernel
theorem dX6_when_23 : decode cX6_when 23 = .ok (.getfield 10, 3) := by decide +kernel
theorem dX6_when_26 : decode cX6_when 26 = .ok (.invokevirtual 178, 3) := by decide +kernel
theorem dX6_when_29 : decode cX6_when 29 = .ok (.aload_n 0, 1) := by decide +kernel
theorem dX6_when_30 : decode cX6_when 30 = .ok (.getfield 75, 3) := by decide +kernel
theorem dX6_when_33 : decode cX6_when 33 = .ok (.aload_n 0, 1) := by decide +kernel
theorem dX6_when_34 : decode cX6_when 34 = .ok (.getfield 10, 3) := by decide +kernel
theorem dX6_when_37 : decode cX6_when 37 = .ok (.iload_n 1, 1) := by decide +kernel
theorem dX6_when_38 : decode cX6_when 38 = .ok (.invokevirtual 234, 3) := by decide +kernel
theorem dX6_when_41 : decode cX6_when 41 = .ok (.iconst 1, 1) := by decide +kernel
theorem dX6_when_42 : decode cX6_when 42 = .ok (.istore_n 3, 1) := by decide +kernel
theorem dX6_when_43 : decode cX6_when 43 = .ok (.iload_n 3, 1) := by decide +kernel
theorem dX6_when_44 : decode cX6_when 44 = .ok (.bipush 60, 2) := by decide +kernel
theorem dX6_when_46 : decode cX6_when 46 = .ok (.if_icmp .gt 106, 3) := by decide +kernel
theorem dX6_when_49 : decode cX6_when 49 = .ok (.aload_n 0, 1) := by decide +kernel
theorem dX6_when_50 : decode cX6_when 50 = .ok (.getfield 68, 3) := by decide +kernel
theorem dX6_when_53 : decode cX6_when 53 = .ok (.aload_n 0, 1) := by decide +kernel
theorem dX6_when_54 : decode cX6_when 54 = .ok (.getfield 29, 3) := by decide +kernel
theorem dX6_when_57 : decode cX6_when 57 = .ok (.iload_n 2, 1) := by decide +kernel
theorem dX6_when_58 : decode cX6_when 58 = .ok (.aaload, 1) := by decide +kernel
theorem dX6_when_59 : decode cX6_when 59 = .ok (.aload_n 0, 1) := by decide +kernel
theorem dX6_when_60 : decode cX6_when 60 = .ok (.getfield 75, 3) := by decide +kernel
theorem dX6_when_63 : decode cX6_when 63 = .ok (.iconst 0, 1) := by decide +kernel
theorem dX6_when_64 : decode cX6_when 64 = .ok (.invokevirtual 186, 3) := by decide +kernel
theorem dX6_when_67 : decode cX6_when 67 = .ok (.aload_n 0, 1) := by decide +kernel
theorem dX6_when_68 : decode cX6_when 68 = .ok (.getfield 75, 3) := by decide +kernel
theorem dX6_when_71 : decode cX6_when 71 = .ok (.aload_n 0, 1) := by decide +kernel
theorem dX6_when_72 : decode cX6_when 72 = .ok (.getfield 75, 3) := by decide +kernel
theorem dX6_when_75 : decode cX6_when 75 = .ok (.aload_n 0, 1) := by decide +kernel
theorem dX6_when_76 : decode cX6_when 76 = .ok (.getfield 68, 3) := by decide +kernel
theorem dX6_when_79 : decode cX6_when 79 = .ok (.invokevirtual 190, 3) := by decide +kernel
theorem dX6_when_82 : decode cX6_when 82 = .ok (.aload_n 0, 1) := by decide +kernel
theorem dX6_when_83 : decode cX6_when 83 = .ok (.getfield 68, 3) := by decide +kernel
theorem dX6_when_86 : decode cX6_when 86 = .ok (.invokevirtual 193, 3) := by decide +kernel
theorem dX6_when_89 : decode cX6_when 89 = .ok (.invokevirtual 238, 3) := by decide +kernel
theorem dX6_when_92 : decode cX6_when 92 = .ok (.invokevirtual 241, 3) := by decide +kernel
theorem dX6_when_95 : decode cX6_when 95 = .ok (.iconst 5, 1) := by decide +kernel
theorem dX6_when_96 : decode cX6_when 96 = .ok (.if_icmp .ne 5, 3) := by decide +kernel
theorem dX6_when_99 : decode cX6_when 99 = .ok (.iload_n 3, 1) := by decide +kernel
theorem dX6_when_100 : decode cX6_when 100 = .ok (.ireturn, 1) := by decide +kernel
theorem dX6_when_101 : decode cX6_when 101 = .ok (.aload_n 0, 1) := by decide +kernel
theorem dX6_when_102 : decode cX6_when 102 = .ok (.getfield 75, 3) := by decide +kernel
theorem dX6_when_105 : decode cX6_when 105 = .ok (.dup, 1) := by decide +kernel
theorem dX6_when_106 : decode cX6_when 106 = .ok (.getfield 244, 3) := by decide +kernel
theorem dX6_when_109 : decode cX6_when 109 = .ok (.iconst 1, 1) := by decide +kernel
theorem dX6_when_110 : decode cX6_when 110 = .ok (.iadd, 1) := by decide +kernel
theorem dX6_when_111 : decode cX6_when 111 = .ok (.putfield 244, 3) := by decide +kernel
theorem dX6_when_114 : decode cX6_when 114 = .ok (.aload_n 0, 1) := by decide +kernel
theorem dX6_when_115 : decode cX6_when 115 = .ok (.getfield 75, 3) := by decide +kernel
theorem dX6_when_118 : decode cX6_when 118 = .ok (.dup, 1) := by decide +kernel
theorem dX6_when_119 : decode cX6_when 119 = .ok (.getfield 247, 3) := by decide +kernel
theorem dX6_when_122 : decode cX6_when 122 = .ok (.iconst 1, 1) := by decide +kernel
theorem dX6_when_123 : decode cX6_when 123 = .ok (.iadd, 1) := by decide +kernel
theorem dX6_when_124 : decode cX6_when 124 = .ok (.putfield 247, 3) := by decide +kernel
theorem dX6_when_127 : decode cX6_when 127 = .ok (.aload_n 0, 1) := by decide +kernel
theorem dX6_when_128 : decode cX6_when 128 = .ok (.getfield 75, 3) := by decide +kernel
theorem dX6_when_131 : decode cX6_when 131 = .ok (.dup, 1) := by decide +kernel
theorem dX6_when_132 : decode cX6_when 132 = .ok (.getfield 250, 3) := by decide +kernel
theorem dX6_when_135 : decode cX6_when 135 = .ok (.aload_n 0, 1) := by decide +kernel
theorem dX6_when_136 : decode cX6_when 136 = .ok (.getfield 10, 3) := by decide +kernel
theorem dX6_when_139 : decode cX6_when 139 = .ok (.getfield 145, 3) := by decide +kernel
theorem dX6_when_142 : decode cX6_when 142 = .ok (.iadd, 1) := by decide +kernel
theorem dX6_when_143 : decode cX6_when 143 = .ok (.putfield 250, 3) := by decide +kernel
theorem dX6_when_146 : decode cX6_when 146 = .ok (.iinc 3 1, 3) := by decide +kernel
theorem dX6_when_149 : decode cX6_when 149 = .ok (.goto (-106), 3) := by decide +kernel
theorem dX6_when_152 : decode cX6_when 152 = .ok (.iconst (-1), 1) := by decide +kernel
theorem dX6_when_153 : decode cX6_when 153 = .ok (.ireturn, 1) := by decide +kernel
noncomputable def B_X6_when_43 (k43 : (Int32 × Int32) → fS → Option ((Nat × Int32) × fS)) : (Int32 × Int32) → fS → Option ((Nat × Int32) × fS) := fun ⟨a2, a3⟩ S => bb ((60 : Int32) < a3) (some ((0, (-1)), S)) (gd (ib a2 6) (qv (gr S 13 0 (a2 : Int32).toNatClampNeg) (fun o3 => bd (F_X3_run o3 0 0 S) (fun v4 S5 => bd (F_X3_grip  S5) (fun v7 S8 => bd (F_X3_slip  S8) (fun v10 S11 => bd (F_X5_failingStep 0 v7 v10 S11) (fun v13 S14 => bd (F_X5_outcomeAt 0 v13 S14) (fun v16 S17 => bb (v16 = (5 : Int32)) (some ((0, a3), S17)) (iv (ge S17 25 0 4) (fun x20 => iv (x20 + (1 : Int32)) (fun x21 => sv (pu S17 25 0 4 x21) (fun S22 => iv (ge S22 25 0 5) (fun x23 => iv (x23 + (1 : Int32)) (fun x24 => sv (pu S22 25 0 5 x24) (fun S25 => iv (ge S25 25 0 6) (fun x26 => iv (ge S25 1 0 3) (fun x27 => iv (x26 + x27) (fun x28 => sv (pu S25 25 0 6 x28) (fun S29 => iv (a3 + Int32.ofInt 1) (fun x30 => k43 (a2, x30) S29))))))))))))))))))))
noncomputable def F_X6_when (p1 : Int32) (p2 : Int32) (S0 : fS) : Option ((Nat × Int32) × fS) := bx (F_X6_needCell p1 S0) (fun v31 S32 => iv (ge S32 0 0 5) (fun x35 => iv (x35 - (1 : Int32)) (fun x36 => bd (F_X6_within p2 0 x36 S32) (fun v37 S38 => bx (F_X6_need v37 S38) (fun v40 S41 => bd (F_X5_nameNext 0 0 S41) (fun v44 S45 => bd (F_X5_look 0 0 p1 S45) (fun v47 S48 => lp (B_X6_when_43 ) fuel (p2, 1) S48)))))))
set_option maxHeartbeats 4000000 in
set_option maxRecDepth 100000 in
theorem c_X6_when (l : Launch) (hls : l.stackTraces = false) (D : va_G) (K : Nat → ClassId) (b0 : Nat) (sa : sT) (sz : Nat) (L : List Nat) (f0 : Nat → va_E) (ad : Nat → Nat → Nat) (P : Nat → Nat → Prop) {n : Nat × Nat} (hP : ∀ a i : Nat, isn n a i → P a i) (S0 : fS) (hw : PW K ad P S0 L f0) (hn : S0.2.2.1 = n) (hprobe : 0 < n.1) (p1 : Int32) (p2 : Int32) (ec : Nat) (v : Int32) (S1 : fS) (h : F_X6_when p1 p2 S0 = some ((ec, v), S1)) : vx_Met l yX6_when (.code yX6_when cX6_when 4 (some .int) :: gt) { frames := 7, cells := 2, slots := 12, locals := 102 } (va_Pc [.ref (ad 0 0), .int p1, .int p2] (hPre D K b0 sa sz L f0)) (hQ D K b0 (fun v9 u9 => ec = 0 ∧ v9 = some (.int v) ∧ ∃ f2 : Nat → va_E, u9 = lU L f2 ∧ PW K ad P S1 L f2 ∧ S1.2.2.1 = n ∧ Kp ad P L f0 f2)) (hX D K b0 (fun E u9 => (ec ≠ 0 ∧ E = exn ec) ∧ ∃ f2 : Nat → va_E, u9 = lU L f2 ∧ PW K ad P S1 L f2 ∧ S1.2.2.1 = n ∧ Kp ad P L f0 f2)) 2 12 (fun q => b0 ≤ q) := by
  refine t_xof (own := RX6) (by decide) rfl ?_ (Nat.le_of_ble_eq_true rfl)
  intro p e s m below meth c ls C w hsz hr hlk htb hl
  have hx := C.1
  have hb := C.2.1
  have hl : lv_has ls 4 [(0, .ref (ad 0 0)), (1, .int p1), (2, .int p2)] := hl
  have J43 : ∀ (fu : Nat) (a2 : Int32) (a3 : Int32) (S : fS), lp (B_X6_when_43 ) fu (a2, a3) S = some ((ec, v), S1) → Gw D K b0 sa ad P n L f0 p l e { frames := 7, cells := 2, slots := 12, locals := 102 } s m [.ref (ad 0 0), .int p1, .int p2].toArray below meth c 4 (vx_MQ below (hQ D K b0 (fun v9 u9 => ec = 0 ∧ v9 = some (.int v) ∧ ∃ f2 : Nat → va_E, u9 = lU L f2 ∧ PW K ad P S1 L f2 ∧ S1.2.2.1 = n ∧ Kp ad P L f0 f2)) (hX D K b0 (fun E u9 => (ec ≠ 0 ∧ E = exn ec) ∧ ∃ f2 : Nat → va_E, u9 = lU L f2 ∧ PW K ad P S1 L f2 ∧ S1.2.2.1 = n ∧ Kp ad P L f0 f2)) [.ref (ad 0 0), .int p1, .int p2].toArray s 2 12 (fun q => b0 ≤ q)) 2 12 43 [(0, .ref (ad 0 0)), (2, .int a2), (3, .int a3)] [] S := by
    intro fu a2 a3 S h
    refine lp_some (G := (fun q S => Gw D K b0 sa ad P n L f0 p l e { frames := 7, cells := 2, slots := 12, locals := 102 } s m [.ref (ad 0 0), .int p1, .int p2].toArray below meth c 4 (vx_MQ below (hQ D K b0 (fun v9 u9 => ec = 0 ∧ v9 = some (.int v) ∧ ∃ f2 : Nat → va_E, u9 = lU L f2 ∧ PW K ad P S1 L f2 ∧ S1.2.2.1 = n ∧ Kp ad P L f0 f2)) (hX D K b0 (fun E u9 => (ec ≠ 0 ∧ E = exn ec) ∧ ∃ f2 : Nat → va_E, u9 = lU L f2 ∧ PW K ad P S1 L f2 ∧ S1.2.2.1 = n ∧ Kp ad P L f0 f2)) [.ref (ad 0 0), .int p1, .int p2].toArray s 2 12 (fun q => b0 ≤ q)) 2 12 43 [(0, .ref (ad 0 0)), (2, .int q.1), (3, .int q.2)] [] S)) (fun k43 hk43 q S h => ?_) fu (a2, a3) S h
    obtain ⟨a2, a3⟩ := q
    have hk43 : ∀ (a2 : Int32) (a3 : Int32) (S : fS), k43 (a2, a3) S = some ((ec, v), S1) → Gw D K b0 sa ad P n L f0 p l e { frames := 7, cells := 2, slots := 12, locals := 102 } s m [.ref (ad 0 0), .int p1, .int p2].toArray below meth c 4 (vx_MQ below (hQ D K b0 (fun v9 u9 => ec = 0 ∧ v9 = some (.int v) ∧ ∃ f2 : Nat → va_E, u9 = lU L f2 ∧ PW K ad P S1 L f2 ∧ S1.2.2.1 = n ∧ Kp ad P L f0 f2)) (hX D K b0 (fun E u9 => (ec ≠ 0 ∧ E = exn ec) ∧ ∃ f2 : Nat → va_E, u9 = lU L f2 ∧ PW K ad P S1 L f2 ∧ S1.2.2.1 = n ∧ Kp ad P L f0 f2)) [.ref (ad 0 0), .int p1, .int p2].toArray s 2 12 (fun q => b0 ≤ q)) 2 12 43 [(0, .ref (ad 0 0)), (2, .int a2), (3, .int a3)] [] S := fun a2 a3 S h => hk43 (a2, a3) S h
    dsimp only [B_X6_when_43] at h
    intro f H locs w hw hn hk ls hl
    refine lv_iload_n hx hb dX6_when_43 rfl (lv_at hl 2 rfl) ?_
    refine lv_bipush (v := 60) hx hb dX6_when_44 (by decide) ?_
    refine lv_icmp_gt (tgt := 152) hx hb dX6_when_46 (by decide) (fun c1 => ?_) (fun c1 => ?_)
    · have h := bb_t h c1
      refine lv_iconst (v := (-1)) hx hb dX6_when_152 (by decide) ?_
      refine vx_ret ?_
      exact t_iret C hr hlk w ⟨sx_e h, sx_v h, _, rfl, sx_w h hw, sx_n h hn, hk⟩ (by decide) (by decide) dX6_when_153
    · have h := bb_f h c1
      refine lv_aload_n hx hb dX6_when_49 rfl (lv_at hl 0 rfl) ?_
      refine u_getr C w hw (hP _ _ (isn_f rfl rfl (by decide))) rfl (N := 18) rfl rfl cin_6 14 (by decide) (by decide) (a2 := 22) (i2 := 0) rfl gw_301 dX6_when_50 ?_
      refine lv_aload_n hx hb dX6_when_53 rfl (lv_at hl 0 rfl) ?_
      refine u_getr C w hw (hP _ _ (isn_f rfl rfl (by decide))) rfl (N := 18) rfl rfl cin_6 4 (by decide) (by decide) (a2 := 13) (i2 := 0) rfl gw_291 dX6_when_54 ?_
      refine lv_iload_n hx hb dX6_when_57 rfl (lv_at hl 1 rfl) ?_
      obtain ⟨g2, h⟩ := gd_some h
      refine u_aald4 C w hw (hP _ _ (isn_f rfl rfl (by decide))) rfl rfl rfl (n := 6) rfl (vp_in_iff.mpr g2) dX6_when_58 ?_
      refine u_qv h (fun o3 h => ?_)
      refine lv_aload_n hx hb dX6_when_59 rfl (lv_at hl 0 rfl) ?_
      refine u_getr C w hw (hP _ _ (isn_f rfl rfl (by decide))) rfl (N := 18) rfl rfl cin_6 15 (by decide) (by decide) (a2 := 25) (i2 := 0) rfl gw_302 dX6_when_60 ?_
      refine lv_iconst (v := 0) hx hb dX6_when_63 (by decide) ?_
      obtain ⟨v4, S5, h6, h⟩ := bd_some h
      refine u_callV (n := 3) C w hw (hP _ _ (isn_f rfl rfl (by decide))) rfl rfl rfl (c_X3_run l D K b0 sa _ L _ ad P hP S hw hn o3 0 hprobe 0 v4 S5 h6) gw_384 gw_381 gw_382 gw_383 gw_6 ⟨by decide, by decide, by decide +kernel⟩ rfl rfl ⟨by decide, by decide⟩ rfl hl.1 rfl (Nat.le_of_ble_eq_true rfl) dX6_when_64 ⟨Nat.le_of_ble_eq_true rfl, Nat.le_of_ble_eq_true rfl⟩ (fun v9 u H locs hp w => ?_)
      obtain ⟨f2, rfl, rfl, hw, hn, hk1⟩ := hp
      have hk := hk.tr hk1
      generalize f2 = f at w hw hk
      refine lv_aload_n hx hb dX6_when_67 rfl (lv_at hl 0 rfl) ?_
      refine u_getr C w hw (hP _ _ (isn_f rfl rfl (by decide))) rfl (N := 18) rfl rfl cin_6 15 (by decide) (by decide) (a2 := 25) (i2 := 0) rfl gw_302 dX6_when_68 ?_
      refine lv_aload_n hx hb dX6_when_71 rfl (lv_at hl 0 rfl) ?_
      refine u_getr C w hw (hP _ _ (isn_f rfl rfl (by decide))) rfl (N := 18) rfl rfl cin_6 15 (by decide) (by decide) (a2 := 25) (i2 := 0) rfl gw_302 dX6_when_72 ?_
      refine lv_aload_n hx hb dX6_when_75 rfl (lv_at hl 0 rfl) ?_
      refine u_getr C w hw (hP _ _ (isn_f rfl rfl (by decide))) rfl (N := 18) rfl rfl cin_6 14 (by decide) (by decide) (a2 := 22) (i2 := 0) rfl gw_301 dX6_when_76 ?_
      obtain ⟨v7, S8, h9, h⟩ := bd_some h
      refine u_callV (n := 0) C w hw (hP _ _ (isn_f rfl rfl (by decide))) rfl rfl rfl (c_X3_grip l D K b0 sa _ L _ ad P hP S5 hw hn  v7 S8 h9) gw_421 gw_418 gw_419 gw_420 gw_6 ⟨by decide, by decide, by decide +kernel⟩ rfl rfl ⟨by decide, by decide⟩ rfl hl.1 rfl (Nat.le_of_ble_eq_true rfl) dX6_when_79 ⟨Nat.le_of_ble_eq_true rfl, Nat.le_of_ble_eq_true rfl⟩ (fun v9 u H locs hp w => ?_)
      obtain ⟨f2, rfl, rfl, hw, hn, hk1⟩ := hp
      have hk := hk.tr hk1
      generalize f2 = f at w hw hk
      refine lv_aload_n hx hb dX6_when_82 rfl (lv_at hl 0 rfl) ?_
      refine u_getr C w hw (hP _ _ (isn_f rfl rfl (by decide))) rfl (N := 18) rfl rfl cin_6 14 (by decide) (by decide) (a2 := 22) (i2 := 0) rfl gw_301 dX6_when_83 ?_
      obtain ⟨v10, S11, h12, h⟩ := bd_some h
      refine u_callV (n := 0) C w hw (hP _ _ (isn_f rfl rfl (by decide))) rfl rfl rfl (c_X3_slip l D K b0 sa _ L _ ad P hP S8 hw hn  v10 S11 h12) gw_425 gw_422 gw_423 gw_424 gw_6 ⟨by decide, by decide, by decide +kernel⟩ rfl rfl ⟨by decide, by decide⟩ rfl hl.1 rfl (Nat.le_of_ble_eq_true rfl) dX6_when_86 ⟨Nat.le_of_ble_eq_true rfl, Nat.le_of_ble_eq_true rfl⟩ (fun v9 u H locs hp w => ?_)
      obtain ⟨f2, rfl, rfl, hw, hn, hk1⟩ := hp
      have hk := hk.tr hk1
      generalize f2 = f at w hw hk
      obtain ⟨v13, S14, h15, h⟩ := bd_some h
      refine u_callV (n := 2) C w hw (hP _ _ (isn_t25 hprobe)) rfl rfl rfl (c_X5_failingStep l D K b0 sa _ L _ ad P hP S11 hw hn 0 hprobe v7 v10 v13 S14 h15) gw_467 gw_464 gw_465 gw_466 gw_7 ⟨by decide, by decide, by decide +kernel⟩ rfl rfl ⟨by decide, by decide⟩ rfl hl.1 rfl (Nat.le_of_ble_eq_true rfl) dX6_when_89 ⟨Nat.le_of_ble_eq_true rfl, Nat.le_of_ble_eq_true rfl⟩ (fun v9 u H locs hp w => ?_)
      obtain ⟨f2, rfl, rfl, hw, hn, hk1⟩ := hp
      have hk := hk.tr hk1
      generalize f2 = f at w hw hk
      obtain ⟨v16, S17, h18, h⟩ := bd_some h
      refine u_callV (n := 1) C w hw (hP _ _ (isn_t25 hprobe)) rfl rfl rfl (c_X5_outcomeAt l D K b0 sa _ L _ ad P hP S14 hw hn 0 hprobe v13 v16 S17 h18) gw_471 gw_468 gw_469 gw_470 gw_7 ⟨by decide, by decide, by decide +kernel⟩ rfl rfl ⟨by decide, by decide⟩ rfl hl.1 rfl (Nat.le_of_ble_eq_true rfl) dX6_when_92 ⟨Nat.le_of_ble_eq_true rfl, Nat.le_of_ble_eq_true rfl⟩ (fun v9 u H locs hp w => ?_)
      obtain ⟨f2, rfl, rfl, hw, hn, hk1⟩ := hp
      have hk := hk.tr hk1
      generalize f2 = f at w hw hk
      refine lv_iconst (v := 5) hx hb dX6_when_95 (by decide) ?_
      refine lv_icmp_ne (tgt := 101) hx hb dX6_when_96 (by decide) (fun c19 => ?_) (fun c19 => ?_)
      · have h := bb_f h c19
        refine lv_aload_n hx hb dX6_when_101 rfl (lv_at hl 0 rfl) ?_
        refine u_getr C w hw (hP _ _ (isn_f rfl rfl (by decide))) rfl (N := 18) rfl rfl cin_6 15 (by decide) (by decide) (a2 := 25) (i2 := 0) rfl gw_302 dX6_when_102 ?_
        refine lv_dup hx hb dX6_when_105 rfl ?_
        refine u_geti C w hw (hP _ _ (isn_t25 hprobe)) rfl (N := 17) rfl rfl cin_5 4 (by decide) rfl gw_229 dX6_when_106 ?_
        refine u_iv h (fun x20 h => ?_)
        refine lv_iconst (v := 1) hx hb dX6_when_109 (by decide) ?_
        refine lv_iadd hx hb dX6_when_110 ?_
        refine u_iv h (fun x21 h => ?_)
        refine u_puti C w hw (hP _ _ (isn_t25 hprobe)) rfl (N := 17) rfl rfl cin_5 tyX5 tyX5_ok nmX5 4 (by decide) rfl rfl rfl rfl gw_229 dX6_when_111 (fun f H locs w hw hk1 => ?_)
        have hk := hk.tr hk1
        refine u_sv h hw hn (fun S22 h hw hn => ?_)
        refine lv_aload_n hx hb dX6_when_114 rfl (lv_at hl 0 rfl) ?_
        refine u_getr C w hw (hP _ _ (isn_f rfl rfl (by decide))) rfl (N := 18) rfl rfl cin_6 15 (by decide) (by decide) (a2 := 25) (i2 := 0) rfl gw_302 dX6_when_115 ?_
        refine lv_dup hx hb dX6_when_118 rfl ?_
        refine u_geti C w hw (hP _ _ (isn_t25 hprobe)) rfl (N := 17) rfl rfl cin_5 5 (by decide) rfl gw_232 dX6_when_119 ?_
        refine u_iv h (fun x23 h => ?_)
        refine lv_iconst (v := 1) hx hb dX6_when_122 (by decide) ?_
        refine lv_iadd hx hb dX6_when_123 ?_
        refine u_iv h (fun x24 h => ?_)
        refine u_puti C w hw (hP _ _ (isn_t25 hprobe)) rfl (N := 17) rfl rfl cin_5 tyX5 tyX5_ok nmX5 5 (by decide) rfl rfl rfl rfl gw_232 dX6_when_124 (fun f H locs w hw hk1 => ?_)
        have hk := hk.tr hk1
        refine u_sv h hw hn (fun S25 h hw hn => ?_)
        refine lv_aload_n hx hb dX6_when_127 rfl (lv_at hl 0 rfl) ?_
        refine u_getr C w hw (hP _ _ (isn_f rfl rfl (by decide))) rfl (N := 18) rfl rfl cin_6 15 (by decide) (by decide) (a2 := 25) (i2 := 0) rfl gw_302 dX6_when_128 ?_
        refine lv_dup hx hb dX6_when_131 rfl ?_
        refine u_geti C w hw (hP _ _ (isn_t25 hprobe)) rfl (N := 17) rfl rfl cin_5 6 (by decide) rfl gw_235 dX6_when_132 ?_
        refine u_iv h (fun x26 h => ?_)
        refine lv_aload_n hx hb dX6_when_135 rfl (lv_at hl 0 rfl) ?_
        refine u_getr C w hw (hP _ _ (isn_f rfl rfl (by decide))) rfl (N := 18) rfl rfl cin_6 0 (by decide) (by decide) (a2 := 1) (i2 := 0) rfl gw_287 dX6_when_136 ?_
        refine u_geti C w hw (hP _ _ (isn_f rfl rfl (by decide))) rfl (N := 13) rfl rfl cin_0 3 (by decide) rfl gw_99 dX6_when_139 ?_
        refine u_iv h (fun x27 h => ?_)
        refine lv_iadd hx hb dX6_when_142 ?_
        refine u_iv h (fun x28 h => ?_)
        refine u_puti C w hw (hP _ _ (isn_t25 hprobe)) rfl (N := 17) rfl rfl cin_5 tyX5 tyX5_ok nmX5 6 (by decide) rfl rfl rfl rfl gw_235 dX6_when_143 (fun f H locs w hw hk1 => ?_)
        have hk := hk.tr hk1
        refine u_sv h hw hn (fun S29 h hw hn => ?_)
        obtain ⟨x30, ex30, h⟩ := iv_some h
        refine lv_iinc (v := x30) (lv' := [(3, .int x30), (0, .ref (ad 0 0)), (2, .int a2)]) hx hb dX6_when_146 hl (k := 2) rfl ex30.symm (by decide) rfl (fun ls hl => ?_)
        refine lv_goto (tgt := 43) hx hb dX6_when_149 (by decide) ?_
        exact hk43 a2 x30 S29 h f H locs w hw hn hk ls (lv_sub hl [1, 2, 0] rfl)
      · have h := bb_t h c19
        refine lv_iload_n hx hb dX6_when_99 rfl (lv_at hl 2 rfl) ?_
        refine vx_ret ?_
        exact t_iret C hr hlk w ⟨sx_e h, sx_v h, _, rfl, sx_w h hw, sx_n h hn, hk⟩ (by decide) (by decide) dX6_when_100
  dsimp only [F_X6_when] at h
  obtain ⟨f, ef⟩ : ∃ z, z = f0 := ⟨_, rfl⟩
  rw [← ef] at w hw
  have hk : Kp ad P L f0 f := by rw [ef]; exact Kp.rf
  obtain ⟨H, eH⟩ : ∃ z, z = s.heap := ⟨_, rfl⟩
  obtain ⟨locs, el⟩ : ∃ z : List Loc, z = [] := ⟨_, rfl⟩
  rw [← eH, ← el] at w ⊢
  refine lv_iload_n hx hb dX6_when_0 rfl (lv_at hl 1 rfl) ?_
  rcases bx_some h with ⟨v31, S32, h33, h⟩ | ⟨e34, v31, S32, h33, h⟩
  rotate_left
  · refine t_xcallS (n := 1) C w (c_X6_needCell l hls D K b0 sa _ L _ ad P hP S0 hw hn p1 (e34 + 1) v31 S32 h33) gw_554 gw_552 gw_553 gw_1 ⟨by decide, by decide, by decide +kernel⟩ rfl rfl ⟨by decide, by decide⟩ rfl hl.1 rfl (Nat.le_of_ble_eq_true rfl) dX6_when_1 ⟨Nat.le_of_ble_eq_true rfl, Nat.le_of_ble_eq_true rfl⟩ (fun E ce q9 u H locs hp w hcell hv0 hcl => ?_) (fun v9 u H locs hp w => absurd hp.1 (Nat.succ_ne_zero _))
    obtain ⟨⟨he, hE⟩, f2, rfl, hw, hn, hk1⟩ := hp
    exact t_xout w htb hlk hcell hv0 hcl ⟨sz_e h he hE, _, rfl, sz_w h hw, sz_n h hn, hk.tr hk1⟩ (by decide) (by decide)
  refine t_xcallS (n := 1) C w (c_X6_needCell l hls D K b0 sa _ L _ ad P hP S0 hw hn p1 0 v31 S32 h33) gw_554 gw_552 gw_553 gw_1 ⟨by decide, by decide, by decide +kernel⟩ rfl rfl ⟨by decide, by decide⟩ rfl hl.1 rfl (Nat.le_of_ble_eq_true rfl) dX6_when_1 ⟨Nat.le_of_ble_eq_true rfl, Nat.le_of_ble_eq_true rfl⟩ (fun E ce q9 u H locs hp w hcell hv0 hcl => absurd rfl hp.1.1) (fun v9 u H locs hp w => ?_)
  obtain ⟨-, rfl, f2, rfl, hw, hn, hk1⟩ := hp
  have hk := hk.tr hk1
  generalize f2 = f at w hw hk
  refine lv_iload_n hx hb dX6_when_4 rfl (lv_at hl 2 rfl) ?_
  refine lv_iconst (v := 0) hx hb dX6_when_5 (by decide) ?_
  refine lv_aload_n hx hb dX6_when_6 rfl (lv_at hl 0 rfl) ?_
  refine u_geti C w hw (hP _ _ (isn_f rfl rfl (by decide))) rfl (N := 18) rfl rfl cin_6 5 (by decide) rfl gw_292 dX6_when_7 ?_
  refine u_iv h (fun x35 h => ?_)
  refine lv_iconst (v := 1) hx hb dX6_when_10 (by decide) ?_
  refine lv_isub hx hb dX6_when_11 ?_
  refine u_iv h (fun x36 h => ?_)
  obtain ⟨v37, S38, h39, h⟩ := bd_some h
  refine t_callS (n := 3) C w (c_X6_within l D K b0 sa _ L _ ad P hP S32 hw hn p2 0 x36 v37 S38 h39) gw_376 gw_374 gw_375 gw_1 ⟨by decide, by decide, by decide +kernel⟩ rfl rfl ⟨by decide, by decide⟩ rfl hl.1 rfl (Nat.le_of_ble_eq_true rfl) dX6_when_12 ⟨Nat.le_of_ble_eq_true rfl, Nat.le_of_ble_eq_true rfl⟩ (fun v9 u H locs hp w => ?_)
  obtain ⟨f2, rfl, rfl, hw, hn, hk1⟩ := hp
  have hk := hk.tr hk1
  generalize f2 = f at w hw hk
  rcases bx_some h with ⟨v40, S41, h42, h⟩ | ⟨e43, v40, S41, h42, h⟩
  rotate_left
  · refine t_xcallS (n := 1) C w (c_X6_need l hls D K b0 sa _ L _ ad P hP S38 hw hn v37 (e43 + 1) v40 S41 h42) gw_625 gw_623 gw_624 gw_1 ⟨by decide, by decide, by decide +kernel⟩ rfl rfl ⟨by decide, by decide⟩ rfl hl.1 rfl (Nat.le_of_ble_eq_true rfl) dX6_when_15 ⟨Nat.le_of_ble_eq_true rfl, Nat.le_of_ble_eq_true rfl⟩ (fun E ce q9 u H locs hp w hcell hv0 hcl => ?_) (fun v9 u H locs hp w => absurd hp.1 (Nat.succ_ne_zero _))
    obtain ⟨⟨he, hE⟩, f2, rfl, hw, hn, hk1⟩ := hp
    exact t_xout w htb hlk hcell hv0 hcl ⟨sz_e h he hE, _, rfl, sz_w h hw, sz_n h hn, hk.tr hk1⟩ (by decide) (by decide)
  refine t_xcallS (n := 1) C w (c_X6_need l hls D K b0 sa _ L _ ad P hP S38 hw hn v37 0 v40 S41 h42) gw_625 gw_623 gw_624 gw_1 ⟨by decide, by decide, by decide +kernel⟩ rfl rfl ⟨by decide, by decide⟩ rfl hl.1 rfl (Nat.le_of_ble_eq_true rfl) dX6_when_15 ⟨Nat.le_of_ble_eq_true rfl, Nat.le_of_ble_eq_true rfl⟩ (fun E ce q9 u H locs hp w hcell hv0 hcl => absurd rfl hp.1.1) (fun v9 u H locs hp w => ?_)
  obtain ⟨-, rfl, f2, rfl, hw, hn, hk1⟩ := hp
  have hk := hk.tr hk1
  generalize f2 = f at w hw hk
  refine lv_aload_n hx hb dX6_when_18 rfl (lv_at hl 0 rfl) ?_
  refine u_getr C w hw (hP _ _ (isn_f rfl rfl (by decide))) rfl (N := 18) rfl rfl cin_6 15 (by decide) (by decide) (a2 := 25) (i2 := 0) rfl gw_302 dX6_when_19 ?_
  refine lv_aload_n hx hb dX6_when_22 rfl (lv_at hl 0 rfl) ?_
  refine u_getr C w hw (hP _ _ (isn_f rfl rfl (by decide))) rfl (N := 18) rfl rfl cin_6 0 (by decide) (by decide) (a2 := 1) (i2 := 0) rfl gw_287 dX6_when_23 ?_
  obtain ⟨v44, S45, h46, h⟩ := bd_some h
  refine u_callV (n := 1) C w hw (hP _ _ (isn_t25 hprobe)) rfl rfl rfl (c_X5_nameNext l D K b0 sa _ L _ ad P hP S41 hw hn 0 hprobe 0 (by decide) v44 S45 h46) gw_380 gw_377 gw_378 gw_379 gw_7 ⟨by decide, by decide, by decide +kernel⟩ rfl rfl ⟨by decide, by decide⟩ rfl hl.1 rfl (Nat.le_of_ble_eq_true rfl) dX6_when_26 ⟨Nat.le_of_ble_eq_true rfl, Nat.le_of_ble_eq_true rfl⟩ (fun v9 u H locs hp w => ?_)
  obtain ⟨f2, rfl, rfl, hw, hn, hk1⟩ := hp
  have hk := hk.tr hk1
  generalize f2 = f at w hw hk
  refine lv_aload_n hx hb dX6_when_29 rfl (lv_at hl 0 rfl) ?_
  refine u_getr C w hw (hP _ _ (isn_f rfl rfl (by decide))) rfl (N := 18) rfl rfl cin_6 15 (by decide) (by decide) (a2 := 25) (i2 := 0) rfl gw_302 dX6_when_30 ?_
  refine lv_aload_n hx hb dX6_when_33 rfl (lv_at hl 0 rfl) ?_
  refine u_getr C w hw (hP _ _ (isn_f rfl rfl (by decide))) rfl (N := 18) rfl rfl cin_6 0 (by decide) (by decide) (a2 := 1) (i2 := 0) rfl gw_287 dX6_when_34 ?_
  refine lv_iload_n hx hb dX6_when_37 rfl (lv_at hl 1 rfl) ?_
  obtain ⟨v47, S48, h49, h⟩ := bd_some h
  refine u_callV (n := 2) C w hw (hP _ _ (isn_t25 hprobe)) rfl rfl rfl (c_X5_look l D K b0 sa _ L _ ad P hP S45 hw hn 0 hprobe 0 (by decide) p1 v47 S48 h49) gw_429 gw_426 gw_427 gw_428 gw_7 ⟨by decide, by decide, by decide +kernel⟩ rfl rfl ⟨by decide, by decide⟩ rfl hl.1 rfl (Nat.le_of_ble_eq_true rfl) dX6_when_38 ⟨Nat.le_of_ble_eq_true rfl, Nat.le_of_ble_eq_true rfl⟩ (fun v9 u H locs hp w => ?_)
  obtain ⟨f2, rfl, rfl, hw, hn, hk1⟩ := hp
  have hk := hk.tr hk1
  generalize f2 = f at w hw hk
  refine lv_iconst (v := 1) hx hb dX6_when_41 (by decide) ?_
  refine lv_istore_n (lv' := [(3, .int 1), (0, .ref (ad 0 0)), (1, .int p1), (2, .int p2)]) hx hb dX6_when_42 rfl hl (by decide) rfl (fun ls hl => ?_)
  exact J43  fuel p2 1 S48 h f H locs w hw hn hk ls (lv_sub hl [1, 3, 0] rfl)
theorem dX6_couldCome_0 : decode cX6_couldCome 0 = .ok (.aload_n 0, 1) := by decide +kernel
theorem dX6_couldCome_1 : decode cX6_couldCome 1 = .ok (.getfield 68, 3) := by decide +kernel
theorem dX6_couldCome_4 : decode cX6_couldCome 4 = .ok (.aload_n 1, 1) := by decide +kernel
theorem dX6_couldCome_5 : decode cX6_couldCome 5 = .ok (.aload_n 2, 1) := by decide +kernel
theorem dX6_couldCome_6 : decode cX6_couldCome 6 = .ok (.iconst 0, 1) := by decide +kernel
theorem dX6_couldCome_7 : decode cX6_couldCome 7 = .ok (.invokevirtual 186, 3) := by decide +kernel
theorem dX6_couldCome_10 : decode cX6_couldCome 10 = .ok (.aload_n 0, 1) := by decide +kernel
theorem dX6_couldCome_11 : decode cX6_couldCome 11 = .ok (.getfield 68, 3) := by decide +kernel
theorem dX6_couldCome_14 : decode cX6_couldCome 14 = .ok (.invokevirtual 196, 3) := by decide +kernel
theorem dX6_couldCome_17 : decode cX6_couldCome 17 = .ok (.istore_n 3, 1) := by decide +kernel
theorem dX6_couldCome_18 : decode cX6_couldCome 18 = .ok (.iconst 0, 1) := by decide +kernel
theorem dX6_couldCome_19 : decode cX6_couldCome 19 = .ok (.istore 4, 2) := by decide +kernel
theorem dX6_couldCome_21 : decode cX6_couldCome 21 = .ok (.iload 4, 2) := by decide +kernel
theorem dX6_couldCome_23 : decode cX6_couldCome 23 = .ok (.iload_n 3, 1) := by decide +kernel
theorem dX6_couldCome_24 : decode cX6_couldCome 24 = .ok (.if_icmp .ge 43, 3) := by decide +kernel
theorem dX6_couldCome_27 : decode cX6_couldCome 27 = .ok (.aload_n 0, 1) := by decide +kernel
theorem dX6_couldCome_28 : decode cX6_couldCome 28 = .ok (.getfield 68, 3) := by decide +kernel
theorem dX6_couldCome_31 : decode cX6_couldCome 31 = .ok (.aload_n 1, 1) := by decide +kernel
theorem dX6_couldCome_32 : decode cX6_couldCome 32 = .ok (.aload_n 2, 1) := by decide +kernel
theorem dX6_couldCome_33 : decode cX6_couldCome 33 = .ok (.iload 4, 2) := by decide +kernel
theorem dX6_couldCome_35 : decode cX6_couldCome 35 = .ok (.invokevirtual 186, 3) := by decide +kernel
theorem dX6_couldCome_38 : decode cX6_couldCome 38 = .ok (.aload_n 2, 1) := by decide +kernel
theorem dX6_couldCome_39 : decode cX6_couldCome 39 = .ok (.aload_n 0, 1) := by decide +kernel
theorem dX6_couldCome_40 : decode cX6_couldCome 40 = .ok (.getfield 68, 3) := by decide +kernel
theorem dX6_couldCome_43 : decode cX6_couldCome 43 = .ok (.invokevirtual 190, 3) := by decide +kernel
theorem dX6_couldCome_46 : decode cX6_couldCome 46 = .ok (.aload_n 0, 1) := by decide +kernel
theorem dX6_couldCome_47 : decode cX6_couldCome 47 = .ok (.getfield 68, 3) := by decide +kernel
theorem dX6_couldCome_50 : decode cX6_couldCome 50 = .ok (.invokevirtual 193, 3) := by decide +kernel
theorem dX6_couldCome_53 : decode cX6_couldCome 53 = .ok (.invokevirtual 365, 3) := by decide +kernel
theorem dX6_couldCome_56 : decode cX6_couldCome 56 = .ok (.ifCond .eq 5, 3) := by decide +kernel
theorem dX6_couldCome_59 : decode cX6_couldCome 59 = .ok (.iconst 1, 1) := by decide +kernel
theorem dX6_couldCome_60 : decode cX6_couldCome 60 = .ok (.ireturn, 1) := by decide +kernel
theorem dX6_couldCome_61 : decode cX6_couldCome 61 = .ok (.iinc 4 1, 3) := by decide +kernel
theorem dX6_couldCome_64 : decode cX6_couldCome 64 = .ok (.goto (-43), 3) := by decide +kernel
theorem dX6_couldCome_67 : decode cX6_couldCome 67 = .ok (.iconst 0, 1) := by decide +kernel
theorem dX6_couldCome_68 : decode cX6_couldCome 68 = .ok (.ireturn, 1) := by decide +kernel
noncomputable def B_X6_couldCome_21 (o1 : Option Nat) (r2 : Nat) (k21 : (Int32 × Int32) → fS → Option (Int32 × fS)) : (Int32 × Int32) → fS → Option (Int32 × fS) := fun ⟨a3, a4⟩ S => bb (a3 ≤ a4) (some (0, S)) (bd (F_X3_run o1 r2 a4 S) (fun v2 S3 => bd (F_X3_grip  S3) (fun v5 S6 => bd (F_X3_slip  S6) (fun v8 S9 => bd (F_X5_cameBy r2 v5 v8 S9) (fun v11 S12 => bb (v11 = (0 : Int32)) (iv (a4 + Int32.ofInt 1) (fun x15 => k21 (a3, x15) S12)) (some (1, S12)))))))
noncomputable def F_X6_couldCome (o1 : Option Nat) (r2 : Nat) (S0 : fS) : Option (Int32 × fS) := bd (F_X3_run o1 r2 0 S0) (fun v16 S17 => bd (F_X3_lots  S17) (fun v19 S20 => lp (B_X6_couldCome_21 o1 r2 ) fuel (v19, 0) S20))
set_option maxHeartbeats 4000000 in
set_option maxRecDepth 100000 in
theorem c_X6_couldCome (l : Launch) (D : va_G) (K : Nat → ClassId) (b0 : Nat) (sa : sT) (sz : Nat) (L : List Nat) (f0 : Nat → va_E) (ad : Nat → Nat → Nat) (P : Nat → Nat → Prop) {n : Nat × Nat} (hP : ∀ a i : Nat, isn n a i → P a i) (S0 : fS) (hw : PW K ad P S0 L f0) (hn : S0.2.2.1 = n) (o1 : Option Nat) (r2 : Nat) (hr2 : r2 < n.1) (v : Int32) (S1 : fS) (h : F_X6_couldCome o1 r2 S0 = some (v, S1)) : Met l yX6_couldCome (.code yX6_couldCome cX6_couldCome 5 (some .boolean) :: gt) { frames := 4, cells := 0, slots := 0, locals := 87 } (va_Pc [.ref (ad 0 0), va_rf (o1.map (ad 29)), .ref (ad 25 r2)] (hPre D K b0 sa sz L f0)) (hQ D K b0 (fun v9 u9 => ∃ f2 : Nat → va_E, v9 = some (.int v) ∧ u9 = lU L f2 ∧ PW K ad P S1 L f2 ∧ S1.2.2.1 = n ∧ Kp ad P L f0 f2)) 0 0 (fun q => b0 ≤ q) := by
  refine t_of (own := RX6) (by decide) rfl ?_ (by cases o1 <;> exact Nat.le_of_ble_eq_true rfl)
  intro p e s m below meth c ls C w hsz hr hlk hnm hl
  have hx := C.1
  have hb := C.2.1
  have hl : lv_has ls 5 [(0, .ref (ad 0 0)), (1, va_rf (o1.map (ad 29))), (2, .ref (ad 25 r2))] := by cases o1 <;> exact hl
  have J21 : ∀ (fu : Nat) (a3 : Int32) (a4 : Int32) (S : fS), lp (B_X6_couldCome_21 o1 r2 ) fu (a3, a4) S = some (v, S1) → Gw D K b0 sa ad P n L f0 p l e { frames := 4, cells := 0, slots := 0, locals := 87 } s m [.ref (ad 0 0), va_rf (o1.map (ad 29)), .ref (ad 25 r2)].toArray below meth c 5 (MQ below (hQ D K b0 (fun v9 u9 => ∃ f2 : Nat → va_E, v9 = some (.int v) ∧ u9 = lU L f2 ∧ PW K ad P S1 L f2 ∧ S1.2.2.1 = n ∧ Kp ad P L f0 f2)) [.ref (ad 0 0), va_rf (o1.map (ad 29)), .ref (ad 25 r2)].toArray s 0 0 (fun q => b0 ≤ q)) 0 0 21 [(0, .ref (ad 0 0)), (1, va_rf (o1.map (ad 29))), (2, .ref (ad 25 r2)), (3, .int a3), (4, .int a4)] [] S := by
    intro fu a3 a4 S h
    refine lp_some (G := (fun q S => Gw D K b0 sa ad P n L f0 p l e { frames := 4, cells := 0, slots := 0, locals := 87 } s m [.ref (ad 0 0), va_rf (o1.map (ad 29)), .ref (ad 25 r2)].toArray below meth c 5 (MQ below (hQ D K b0 (fun v9 u9 => ∃ f2 : Nat → va_E, v9 = some (.int v) ∧ u9 = lU L f2 ∧ PW K ad P S1 L f2 ∧ S1.2.2.1 = n ∧ Kp ad P L f0 f2)) [.ref (ad 0 0), va_rf (o1.map (ad 29)), .ref (ad 25 r2)].toArray s 0 0 (fun q => b0 ≤ q)) 0 0 21 [(0, .ref (ad 0 0)), (1, va_rf (o1.map (ad 29))), (2, .ref (ad 25 r2)), (3, .int q.1), (4, .int q.2)] [] S)) (fun k21 hk21 q S h => ?_) fu (a3, a4) S h
    obtain ⟨a3, a4⟩ := q
    have hk21 : ∀ (a3 : Int32) (a4 : Int32) (S : fS), k21 (a3, a4) S = some (v, S1) → Gw D K b0 sa ad P n L f0 p l e { frames := 4, cells := 0, slots := 0, locals := 87 } s m [.ref (ad 0 0), va_rf (o1.map (ad 29)), .ref (ad 25 r2)].toArray below meth c 5 (MQ below (hQ D K b0 (fun v9 u9 => ∃ f2 : Nat → va_E, v9 = some (.int v) ∧ u9 = lU L f2 ∧ PW K ad P S1 L f2 ∧ S1.2.2.1 = n ∧ Kp ad P L f0 f2)) [.ref (ad 0 0), va_rf (o1.map (ad 29)), .ref (ad 25 r2)].toArray s 0 0 (fun q => b0 ≤ q)) 0 0 21 [(0, .ref (ad 0 0)), (1, va_rf (o1.map (ad 29))), (2, .ref (ad 25 r2)), (3, .int a3), (4, .int a4)] [] S := fun a3 a4 S h => hk21 (a3, a4) S h
    dsimp only [B_X6_couldCome_21] at h
    intro f H locs w hw hn hk ls hl
    refine lv_iload hx hb dX6_couldCome_21 (lv_at hl 4 rfl) ?_
    refine lv_iload_n hx hb dX6_couldCome_23 rfl (lv_at hl 3 rfl) ?_
    refine lv_icmp_ge (tgt := 67) hx hb dX6_couldCome_24 (by decide) (fun c1 => ?_) (fun c1 => ?_)
    · have h := bb_t h c1
      refine lv_iconst (v := 0) hx hb dX6_couldCome_67 (by decide) ?_
      exact t_zret C hr hlk w (by decide) ⟨_, so_v h, rfl, so_w h hw, so_n h hn, hk⟩ (by decide) (by decide) dX6_couldCome_68
    · have h := bb_f h c1
      refine lv_aload_n hx hb dX6_couldCome_27 rfl (lv_at hl 0 rfl) ?_
      refine u_getr C w hw (hP _ _ (isn_f rfl rfl (by decide))) rfl (N := 18) rfl rfl cin_6 14 (by decide) (by decide) (a2 := 22) (i2 := 0) rfl gw_301 dX6_couldCome_28 ?_
      refine lv_aload_nQ hx hb dX6_couldCome_31 rfl (lv_at hl 1 rfl) ?_
      refine lv_aload_n hx hb dX6_couldCome_32 rfl (lv_at hl 2 rfl) ?_
      refine lv_iload hx hb dX6_couldCome_33 (lv_at hl 4 rfl) ?_
      obtain ⟨v2, S3, h4, h⟩ := bd_some h
      refine u_callV (n := 3) C w hw (hP _ _ (isn_f rfl rfl (by decide))) rfl rfl rfl (c_X3_run l D K b0 sa _ L _ ad P hP S hw hn o1 r2 hr2 a4 v2 S3 h4) gw_384 gw_381 gw_382 gw_383 gw_6 ⟨by decide, by decide, by decide +kernel⟩ rfl rfl ⟨by decide, by decide⟩ rfl hl.1 rfl (Nat.le_of_ble_eq_true rfl) dX6_couldCome_35 ⟨Nat.le_of_ble_eq_true rfl, Nat.le_of_ble_eq_true rfl⟩ (fun v9 u H locs hp w => ?_)
      obtain ⟨f2, rfl, rfl, hw, hn, hk1⟩ := hp
      have hk := hk.tr hk1
      generalize f2 = f at w hw hk
      refine lv_aload_n hx hb dX6_couldCome_38 rfl (lv_at hl 2 rfl) ?_
      refine lv_aload_n hx hb dX6_couldCome_39 rfl (lv_at hl 0 rfl) ?_
      refine u_getr C w hw (hP _ _ (isn_f rfl rfl (by decide))) rfl (N := 18) rfl rfl cin_6 14 (by decide) (by decide) (a2 := 22) (i2 := 0) rfl gw_301 dX6_couldCome_40 ?_
      obtain ⟨v5, S6, h7, h⟩ := bd_some h
      refine u_callV (n := 0) C w hw (hP _ _ (isn_f rfl rfl (by decide))) rfl rfl rfl (c_X3_grip l D K b0 sa _ L _ ad P hP S3 hw hn  v5 S6 h7) gw_421 gw_418 gw_419 gw_420 gw_6 ⟨by decide, by decide, by decide +kernel⟩ rfl rfl ⟨by decide, by decide⟩ rfl hl.1 rfl (Nat.le_of_ble_eq_true rfl) dX6_couldCome_43 ⟨Nat.le_of_ble_eq_true rfl, Nat.le_of_ble_eq_true rfl⟩ (fun v9 u H locs hp w => ?_)
      obtain ⟨f2, rfl, rfl, hw, hn, hk1⟩ := hp
      have hk := hk.tr hk1
      generalize f2 = f at w hw hk
      refine lv_aload_n hx hb dX6_couldCome_46 rfl (lv_at hl 0 rfl) ?_
      refine u_getr C w hw (hP _ _ (isn_f rfl rfl (by decide))) rfl (N := 18) rfl rfl cin_6 14 (by decide) (by decide) (a2 := 22) (i2 := 0) rfl gw_301 dX6_couldCome_47 ?_
      obtain ⟨v8, S9, h10, h⟩ := bd_some h
      refine u_callV (n := 0) C w hw (hP _ _ (isn_f rfl rfl (by decide))) rfl rfl rfl (c_X3_slip l D K b0 sa _ L _ ad P hP S6 hw hn  v8 S9 h10) gw_425 gw_422 gw_423 gw_424 gw_6 ⟨by decide, by decide, by decide +kernel⟩ rfl rfl ⟨by decide, by decide⟩ rfl hl.1 rfl (Nat.le_of_ble_eq_true rfl) dX6_couldCome_50 ⟨Nat.le_of_ble_eq_true rfl, Nat.le_of_ble_eq_true rfl⟩ (fun v9 u H locs hp w => ?_)
      obtain ⟨f2, rfl, rfl, hw, hn, hk1⟩ := hp
      have hk := hk.tr hk1
      generalize f2 = f at w hw hk
      obtain ⟨v11, S12, h13, h⟩ := bd_some h
      refine u_callV (n := 2) C w hw (hP _ _ (isn_t25 hr2)) rfl rfl rfl (c_X5_cameBy l D K b0 sa _ L _ ad P hP S9 hw hn r2 hr2 v5 v8 v11 S12 h13) gw_492 gw_489 gw_490 gw_491 gw_7 ⟨by decide, by decide, by decide +kernel⟩ rfl rfl ⟨by decide, by decide⟩ rfl hl.1 rfl (Nat.le_of_ble_eq_true rfl) dX6_couldCome_53 ⟨Nat.le_of_ble_eq_true rfl, Nat.le_of_ble_eq_true rfl⟩ (fun v9 u H locs hp w => ?_)
      obtain ⟨f2, rfl, rfl, hw, hn, hk1⟩ := hp
      have hk := hk.tr hk1
      generalize f2 = f at w hw hk
      refine lv_if_eq (tgt := 61) hx hb dX6_couldCome_56 (by decide) (fun c14 => ?_) (fun c14 => ?_)
      · have h := bb_t h c14
        obtain ⟨x15, ex15, h⟩ := iv_some h
        refine lv_iinc (v := x15) (lv' := [(4, .int x15), (0, .ref (ad 0 0)), (1, va_rf (o1.map (ad 29))), (2, .ref (ad 25 r2)), (3, .int a3)]) hx hb dX6_couldCome_61 hl (k := 4) rfl ex15.symm (by decide) (by cases o1 <;> rfl) (fun ls hl => ?_)
        refine lv_goto (tgt := 21) hx hb dX6_couldCome_64 (by decide) ?_
        exact hk21 a3 x15 S12 h f H locs w hw hn hk ls (lv_sub hl [1, 2, 3, 4, 0] rfl)
      · have h := bb_f h c14
        refine lv_iconst (v := 1) hx hb dX6_couldCome_59 (by decide) ?_
        exact t_zret C hr hlk w (by decide) ⟨_, so_v h, rfl, so_w h hw, so_n h hn, hk⟩ (by decide) (by decide) dX6_couldCome_60
  dsimp only [F_X6_couldCome] at h
  obtain ⟨f, ef⟩ : ∃ z, z = f0 := ⟨_, rfl⟩
  rw [← ef] at w hw
  have hk : Kp ad P L f0 f := by rw [ef]; exact Kp.rf
  obtain ⟨H, eH⟩ : ∃ z, z = s.heap := ⟨_, rfl⟩
  obtain ⟨locs, el⟩ : ∃ z : List Loc, z = [] := ⟨_, rfl⟩
  rw [← eH, ← el] at w ⊢
  refine lv_aload_n hx hb dX6_couldCome_0 rfl (lv_at hl 0 rfl) ?_
  refine u_getr C w hw (hP _ _ (isn_f rfl rfl (by decide))) rfl (N := 18) rfl rfl cin_6 14 (by decide) (by decide) (a2 := 22) (i2 := 0) rfl gw_301 dX6_couldCome_1 ?_
  refine lv_aload_nQ hx hb dX6_couldCome_4 rfl (lv_at hl 1 rfl) ?_
  refine lv_aload_n hx hb dX6_couldCome_5 rfl (lv_at hl 2 rfl) ?_
  refine lv_iconst (v := 0) hx hb dX6_couldCome_6 (by decide) ?_
  obtain ⟨v16, S17, h18, h⟩ := bd_some h
  refine u_callV (n := 3) C w hw (hP _ _ (isn_f rfl rfl (by decide))) rfl rfl rfl (c_X3_run l D K b0 sa _ L _ ad P hP S0 hw hn o1 r2 hr2 0 v16 S17 h18) gw_384 gw_381 gw_382 gw_383 gw_6 ⟨by decide, by decide, by decide +kernel⟩ rfl rfl ⟨by decide, by decide⟩ rfl hl.1 rfl (Nat.le_of_ble_eq_true rfl) dX6_couldCome_7 ⟨Nat.le_of_ble_eq_true rfl, Nat.le_of_ble_eq_true rfl⟩ (fun v9 u H locs hp w => ?_)
  obtain ⟨f2, rfl, rfl, hw, hn, hk1⟩ := hp
  have hk := hk.tr hk1
  generalize f2 = f at w hw hk
  refine lv_aload_n hx hb dX6_couldCome_10 rfl (lv_at hl 0 rfl) ?_
  refine u_getr C w hw (hP _ _ (isn_f rfl rfl (by decide))) rfl (N := 18) rfl rfl cin_6 14 (by decide) (by decide) (a2 := 22) (i2 := 0) rfl gw_301 dX6_couldCome_11 ?_
  obtain ⟨v19, S20, h21, h⟩ := bd_some h
  refine u_callV (n := 0) C w hw (hP _ _ (isn_f rfl rfl (by decide))) rfl rfl rfl (c_X3_lots l D K b0 sa _ L _ ad P hP S17 hw hn  v19 S20 h21) gw_417 gw_414 gw_415 gw_416 gw_6 ⟨by decide, by decide, by decide +kernel⟩ rfl rfl ⟨by decide, by decide⟩ rfl hl.1 rfl (Nat.le_of_ble_eq_true rfl) dX6_couldCome_14 ⟨Nat.le_of_ble_eq_true rfl, Nat.le_of_ble_eq_true rfl⟩ (fun v9 u H locs hp w => ?_)
  obtain ⟨f2, rfl, rfl, hw, hn, hk1⟩ := hp
  have hk := hk.tr hk1
  generalize f2 = f at w hw hk
  refine lv_istore_n (lv' := [(3, .int v19), (0, .ref (ad 0 0)), (1, va_rf (o1.map (ad 29))), (2, .ref (ad 25 r2))]) hx hb dX6_couldCome_17 rfl hl (by decide) (by cases o1 <;> rfl) (fun ls hl => ?_)
  refine lv_iconst (v := 0) hx hb dX6_couldCome_18 (by decide) ?_
  refine lv_istore (lv' := [(4, .int 0), (3, .int v19), (0, .ref (ad 0 0)), (1, va_rf (o1.map (ad 29))), (2, .ref (ad 25 r2))]) hx hb dX6_couldCome_19 hl (by decide) (by cases o1 <;> rfl) (fun ls hl => ?_)
  exact J21  fuel v19 0 S20 h f H locs w hw hn hk ls (lv_sub hl [2, 3, 4, 1, 0] rfl)
theorem dX6_firstStrange_0 : decode cX6_firstStrange 0 = .ok (.iconst 0, 1) := by decide +kernel
theorem dX6_firstStrange_1 : decode cX6_firstStrange 1 = .ok (.istore_n 2, 1) := by decide +kernel
theorem dX6_firstStrange_2 : decode cX6_firstStrange 2 = .ok (.iload_n 2, 1) := by decide +kernel
theorem dX6_firstStrange_3 : decode cX6_firstStrange 3 = .ok (.aload_n 0, 1) := by decide +kernel
theorem dX6_firstStrange_4 : decode cX6_firstStrange 4 = .ok (.getfield 10, 3) := by decide +kernel
theorem dX6_firstStrange_7 : decode cX6_firstStrange 7 = .ok (.getfield 199, 3) := by decide +kernel
theorem dX6_firstStrange_10 : decode cX6_firstStrange 10 = .ok (.if_icmp .ge 27, 3) := by decide +kernel
theorem dX6_firstStrange_13 : decode cX6_firstStrange 13 = .ok (.aload_n 0, 1) := by decide +kernel
theorem dX6_firstStrange_14 : decode cX6_firstStrange 14 = .ok (.aload_n 1, 1) := by decide +kernel
theorem dX6_firstStrange_15 : decode cX6_firstStrange 15 = .ok (.aload_n 0, 1) := by decide +kernel
theorem dX6_firstStrange_16 : decode cX6_firstStrange 16 = .ok (.getfield 10, 3) := by decide +kernel
theorem dX6_firstStrange_19 : decode cX6_firstStrange 19 = .ok (.iload_n 2, 1) := by decide +kernel
theorem dX6_firstStrange_20 : decode cX6_firstStrange 20 = .ok (.invokevirtual 205, 3) := by decide +kernel
theorem dX6_firstStrange_23 : decode cX6_firstStrange 23 = .ok (.invokevirtual 362, 3) := by decide +kernel
theorem dX6_firstStrange_26 : decode cX6_firstStrange 26 = .ok (.ifCond .ne 5, 3) := by decide +kernel
theorem dX6_firstStrange_29 : decode cX6_firstStrange 29 = .ok (.iload_n 2, 1) := by decide +kernel
theorem dX6_firstStrange_30 : decode cX6_firstStrange 30 = .ok (.ireturn, 1) := by decide +kernel
theorem dX6_firstStrange_31 : decode cX6_firstStrange 31 = .ok (.iinc 2 1, 3) := by decide +kernel
theorem dX6_firstStrange_34 : decode cX6_firstStrange 34 = .ok (.goto (-32), 3) := by decide +kernel
theorem dX6_firstStrange_37 : decode cX6_firstStrange 37 = .ok (.iconst (-1), 1) := by decide +kernel
theorem dX6_firstStrange_38 : decode cX6_firstStrange 38 = .ok (.ireturn, 1) := by decide +kernel
noncomputable def B_X6_firstStrange_2 (o1 : Option Nat) (k2 : (Int32) → fS → Option (Int32 × fS)) : (Int32) → fS → Option (Int32 × fS) := fun a2 S => iv (ge S 1 0 12) (fun x1 => bb (x1 ≤ a2) (some ((-1), S)) (bd (F_X0_recordAt 0 a2 S) (fun v3 S4 => gd (v3 < nT S4) (bd (F_X6_couldCome o1 v3 S4) (fun v7 S8 => bb (v7 = (0 : Int32)) (some (a2, S8)) (iv (a2 + Int32.ofInt 1) (fun x11 => k2 x11 S8)))))))
noncomputable def F_X6_firstStrange (o1 : Option Nat) (S0 : fS) : Option (Int32 × fS) := lp (B_X6_firstStrange_2 o1 ) fuel 0 S0
set_option maxHeartbeats 4000000 in
set_option maxRecDepth 100000 in
theorem c_X6_firstStrange (l : Launch) (D : va_G) (K : Nat → ClassId) (b0 : Nat) (sa : sT) (sz : Nat) (L : List Nat) (f0 : Nat → va_E) (ad : Nat → Nat → Nat) (P : Nat → Nat → Prop) {n : Nat × Nat} (hP : ∀ a i : Nat, isn n a i → P a i) (S0 : fS) (hw : PW K ad P S0 L f0) (hn : S0.2.2.1 = n) (o1 : Option Nat) (v : Int32) (S1 : fS) (h : F_X6_firstStrange o1 S0 = some (v, S1)) : Met l yX6_firstStrange (.code yX6_firstStrange cX6_firstStrange 3 (some .int) :: gt) { frames := 5, cells := 0, slots := 0, locals := 111 } (va_Pc [.ref (ad 0 0), va_rf (o1.map (ad 29))] (hPre D K b0 sa sz L f0)) (hQ D K b0 (fun v9 u9 => ∃ f2 : Nat → va_E, v9 = some (.int v) ∧ u9 = lU L f2 ∧ PW K ad P S1 L f2 ∧ S1.2.2.1 = n ∧ Kp ad P L f0 f2)) 0 0 (fun q => b0 ≤ q) := by
  refine t_of (own := RX6) (by decide) rfl ?_ (by cases o1 <;> exact Nat.le_of_ble_eq_true rfl)
  intro p e s m below meth c ls C w hsz hr hlk hnm hl
  have hx := C.1
  have hb := C.2.1
  have hl : lv_has ls 3 [(0, .ref (ad 0 0)), (1, va_rf (o1.map (ad 29)))] := by cases o1 <;> exact hl
  have J2 : ∀ (fu : Nat) (a2 : Int32) (S : fS), lp (B_X6_firstStrange_2 o1 ) fu a2 S = some (v, S1) → Gw D K b0 sa ad P n L f0 p l e { frames := 5, cells := 0, slots := 0, locals := 111 } s m [.ref (ad 0 0), va_rf (o1.map (ad 29))].toArray below meth c 3 (MQ below (hQ D K b0 (fun v9 u9 => ∃ f2 : Nat → va_E, v9 = some (.int v) ∧ u9 = lU L f2 ∧ PW K ad P S1 L f2 ∧ S1.2.2.1 = n ∧ Kp ad P L f0 f2)) [.ref (ad 0 0), va_rf (o1.map (ad 29))].toArray s 0 0 (fun q => b0 ≤ q)) 0 0 2 [(0, .ref (ad 0 0)), (1, va_rf (o1.map (ad 29))), (2, .int a2)] [] S := by
    intro fu a2 S h
    refine lp_some (G := (fun q S => Gw D K b0 sa ad P n L f0 p l e { frames := 5, cells := 0, slots := 0, locals := 111 } s m [.ref (ad 0 0), va_rf (o1.map (ad 29))].toArray below meth c 3 (MQ below (hQ D K b0 (fun v9 u9 => ∃ f2 : Nat → va_E, v9 = some (.int v) ∧ u9 = lU L f2 ∧ PW K ad P S1 L f2 ∧ S1.2.2.1 = n ∧ Kp ad P L f0 f2)) [.ref (ad 0 0), va_rf (o1.map (ad 29))].toArray s 0 0 (fun q => b0 ≤ q)) 0 0 2 [(0, .ref (ad 0 0)), (1, va_rf (o1.map (ad 29))), (2, .int q)] [] S)) (fun k2 hk2 q S h => ?_) fu a2 S h
    obtain ⟨a2, e9⟩ : ∃ z, z = q := ⟨_, rfl⟩
    subst e9
    dsimp only [B_X6_firstStrange_2] at h
    intro f H locs w hw hn hk ls hl
    refine lv_iload_n hx hb dX6_firstStrange_2 rfl (lv_at hl 2 rfl) ?_
    refine lv_aload_n hx hb dX6_firstStrange_3 rfl (lv_at hl 0 rfl) ?_
    refine u_getr C w hw (hP _ _ (isn_f rfl rfl (by decide))) rfl (N := 18) rfl rfl cin_6 0 (by decide) (by decide) (a2 := 1) (i2 := 0) rfl gw_287 dX6_firstStrange_4 ?_
    refine u_geti C w hw (hP _ _ (isn_f rfl rfl (by decide))) rfl (N := 13) rfl rfl cin_0 12 (by decide) rfl gw_121 dX6_firstStrange_7 ?_
    refine u_iv h (fun x1 h => ?_)
    refine lv_icmp_ge (tgt := 37) hx hb dX6_firstStrange_10 (by decide) (fun c2 => ?_) (fun c2 => ?_)
    · have h := bb_t h c2
      refine lv_iconst (v := (-1)) hx hb dX6_firstStrange_37 (by decide) ?_
      exact t_iret C hr hlk w ⟨_, so_v h, rfl, so_w h hw, so_n h hn, hk⟩ (by decide) (by decide) dX6_firstStrange_38
    · have h := bb_f h c2
      refine lv_aload_n hx hb dX6_firstStrange_13 rfl (lv_at hl 0 rfl) ?_
      refine lv_aload_nQ hx hb dX6_firstStrange_14 rfl (lv_at hl 1 rfl) ?_
      refine lv_aload_n hx hb dX6_firstStrange_15 rfl (lv_at hl 0 rfl) ?_
      refine u_getr C w hw (hP _ _ (isn_f rfl rfl (by decide))) rfl (N := 18) rfl rfl cin_6 0 (by decide) (by decide) (a2 := 1) (i2 := 0) rfl gw_287 dX6_firstStrange_16 ?_
      refine lv_iload_n hx hb dX6_firstStrange_19 rfl (lv_at hl 2 rfl) ?_
      obtain ⟨v3, S4, h5, h⟩ := bd_some h
      refine u_callV (n := 1) C w hw (hP _ _ (isn_f rfl rfl (by decide))) rfl rfl rfl (c_X0_recordAt l D K b0 sa _ L _ ad P hP S hw hn 0 (by decide) a2 v3 S4 h5) gw_483 gw_480 gw_481 gw_482 gw_2 ⟨by decide, by decide, by decide +kernel⟩ rfl rfl ⟨by decide, by decide⟩ rfl hl.1 rfl (by cases o1 <;> exact Nat.le_of_ble_eq_true rfl) dX6_firstStrange_20 ⟨Nat.le_of_ble_eq_true rfl, Nat.le_of_ble_eq_true rfl⟩ (fun v9 u H locs hp w => ?_)
      obtain ⟨f2, rfl, rfl, hw, hn, hk1⟩ := hp
      have hk := hk.tr hk1
      generalize f2 = f at w hw hk
      obtain ⟨g6, h⟩ := gd_some h
      obtain ⟨v7, S8, h9, h⟩ := bd_some h
      refine u_callV (n := 2) C w hw (hP _ _ (isn_f rfl rfl (by decide))) rfl rfl rfl (c_X6_couldCome l D K b0 sa _ L _ ad P hP S4 hw hn o1 v3 (nT_lt hn g6) v7 S8 h9) gw_488 gw_485 gw_487 gs_6 gw_1 ⟨by decide, by decide, by decide +kernel⟩ rfl rfl ⟨by decide, by decide⟩ rfl hl.1 rfl (Nat.le_of_ble_eq_true rfl) dX6_firstStrange_23 ⟨Nat.le_of_ble_eq_true rfl, Nat.le_of_ble_eq_true rfl⟩ (fun v9 u H locs hp w => ?_)
      obtain ⟨f2, rfl, rfl, hw, hn, hk1⟩ := hp
      have hk := hk.tr hk1
      generalize f2 = f at w hw hk
      refine lv_if_ne (tgt := 31) hx hb dX6_firstStrange_26 (by decide) (fun c10 => ?_) (fun c10 => ?_)
      · have h := bb_f h c10
        obtain ⟨x11, ex11, h⟩ := iv_some h
        refine lv_iinc (v := x11) (lv' := [(2, .int x11), (0, .ref (ad 0 0)), (1, va_rf (o1.map (ad 29)))]) hx hb dX6_firstStrange_31 hl (k := 2) rfl ex11.symm (by decide) (by cases o1 <;> rfl) (fun ls hl => ?_)
        refine lv_goto (tgt := 2) hx hb dX6_firstStrange_34 (by decide) ?_
        exact hk2 x11 S8 h f H locs w hw hn hk ls (lv_sub hl [1, 2, 0] rfl)
      · have h := bb_t h c10
        refine lv_iload_n hx hb dX6_firstStrange_29 rfl (lv_at hl 2 rfl) ?_
        exact t_iret C hr hlk w ⟨_, so_v h, rfl, so_w h hw, so_n h hn, hk⟩ (by decide) (by decide) dX6_firstStrange_30
  dsimp only [F_X6_firstStrange] at h
  obtain ⟨f, ef⟩ : ∃ z, z = f0 := ⟨_, rfl⟩
  rw [← ef] at w hw
  have hk : Kp ad P L f0 f := by rw [ef]; exact Kp.rf
  obtain ⟨H, eH⟩ : ∃ z, z = s.heap := ⟨_, rfl⟩
  obtain ⟨locs, el⟩ : ∃ z : List Loc, z = [] := ⟨_, rfl⟩
  rw [← eH, ← el] at w ⊢
  refine lv_iconst (v := 0) hx hb dX6_firstStrange_0 (by decide) ?_
  refine lv_istore_n (lv' := [(2, .int 0), (0, .ref (ad 0 0)), (1, va_rf (o1.map (ad 29)))]) hx hb dX6_firstStrange_1 rfl hl (by decide) (by cases o1 <;> rfl) (fun ls hl => ?_)
  exact J2  fuel 0 S0 h f H locs w hw hn hk ls (lv_sub hl [1, 2, 0] rfl)
theorem dX6_fitting_0 : decode cX6_fitting 0 = .ok (.iconst 0, 1) := by decide +kernel
theorem dX6_fitting_1 : decode cX6_fitting 1 = .ok (.istore_n 1, 1) := by decide +kernel
theorem dX6_fitting_2 : decode cX6_fitting 2 = .ok (.iconst 0, 1) := by decide +kernel
theorem dX6_fitting_3 : decode cX6_fitting 3 = .ok (.istore_n 2, 1) := by decide +kernel
theorem dX6_fitting_4 : decode cX6_fitting 4 = .ok (.iload_n 2, 1) := by decide +kernel
theorem dX6_fitting_5 : decode cX6_fitting 5 = .ok (.aload_n 0, 1) := by decide +kernel
theorem dX6_fitting_6 : decode cX6_fitting 6 = .ok (.getfield 33, 3) := by decide +kernel
theorem dX6_fitting_9 : decode cX6_fitting 9 = .ok (.if_icmp .ge 29, 3) := by decide +kernel
theorem dX6_fitting_12 : decode cX6_fitting 12 = .ok (.aload_n 0, 1) := by decide +kernel
theorem dX6_fitting_13 : decode cX6_fitting 13 = .ok (.aload_n 0, 1) := by decide +kernel
theorem dX6_fitting_14 : decode cX6_fitting 14 = .ok (.getfield 29, 3) := by decide +kernel
theorem dX6_fitting_17 : decode cX6_fitting 17 = .ok (.iload_n 2, 1) := by decide +kernel
theorem dX6_fitting_18 : decode cX6_fitting 18 = .ok (.aaload, 1) := by decide +kernel
theorem dX6_fitting_19 : decode cX6_fitting 19 = .ok (.invokevirtual 253, 3) := by decide +kernel
theorem dX6_fitting_22 : decode cX6_fitting 22 = .ok (.iconst (-1), 1) := by decide +kernel
theorem dX6_fitting_23 : decode cX6_fitting 23 = .ok (.if_icmp .ne 9, 3) := by decide +kernel
theorem dX6_fitting_26 : decode cX6_fitting 26 = .ok (.iload_n 1, 1) := by decide +kernel
theorem dX6_fitting_27 : decode cX6_fitting 27 = .ok (.iconst 1, 1) := by decide +kernel
theorem dX6_fitting_28 : decode cX6_fitting 28 = .ok (.iload_n 2, 1) := by decide +kernel
theorem dX6_fitting_29 : decode cX6_fitting 29 = .ok (.ishl, 1) := by decide +kernel
theorem dX6_fitting_30 : decode cX6_fitting 30 = .ok (.ior, 1) := by decide +kernel
theorem dX6_fitting_31 : decode cX6_fitting 31 = .ok (.istore_n 1, 1) := by decide +kernel
theorem dX6_fitting_32 : decode cX6_fitting 32 = .ok (.iinc 2 1, 3) := by decide +kernel
theorem dX6_fitting_35 : decode cX6_fitting 35 = .ok (.goto (-31), 3) := by decide +kernel
theorem dX6_fitting_38 : decode cX6_fitting 38 = .ok (.iload_n 1, 1) := by decide +kernel
theorem dX6_fitting_39 : decode cX6_fitting 39 = .ok (.ireturn, 1) := by decide +kernel
noncomputable def B_X6_fitting_32 (k4 : (Int32 × Int32) → fS → Option (Int32 × fS)) (a1 : Int32) (a2 : Int32) (S : fS) : Option (Int32 × fS) := iv (a2 + Int32.ofInt 1) (fun x1 => k4 (a1, x1) S)
noncomputable def B_X6_fitting_4 (k4 : (Int32 × Int32) → fS → Option (Int32 × fS)) : (Int32 × Int32) → fS → Option (Int32 × fS) := fun ⟨a1, a2⟩ S => iv (ge S 0 0 5) (fun x2 => bb (x2 ≤ a2) (some (a1, S)) (gd (ib a2 6) (qv (gr S 13 0 (a2 : Int32).toNatClampNeg) (fun o5 => bd (F_X6_firstStrange o5 S) (fun v6 S7 => bb (v6 = ((-1) : Int32)) (iv ((1 : Int32) <<< (a2 &&& 31)) (fun x10 => iv (a1 ||| x10) (fun x11 => B_X6_fitting_32 k4 x11 a2 S7))) (B_X6_fitting_32 k4 a1 a2 S7))))))
noncomputable def F_X6_fitting  (S0 : fS) : Option (Int32 × fS) := lp (B_X6_fitting_4 ) fuel (0, 0) S0
set_option maxHeartbeats 4000000 in
set_option maxRecDepth 100000 in
theorem c_X6_fitting (l : Launch) (D : va_G) (K : Nat → ClassId) (b0 : Nat) (sa : sT) (sz : Nat) (L : List Nat) (f0 : Nat → va_E) (ad : Nat → Nat → Nat) (P : Nat → Nat → Prop) {n : Nat × Nat} (hP : ∀ a i : Nat, isn n a i → P a i) (S0 : fS) (hw : PW K ad P S0 L f0) (hn : S0.2.2.1 = n)  (v : Int32) (S1 : fS) (h : F_X6_fitting  S0 = some (v, S1)) : Met l yX6_fitting (.code yX6_fitting cX6_fitting 3 (some .int) :: gt) { frames := 6, cells := 0, slots := 0, locals := 133 } (va_Pc [.ref (ad 0 0)] (hPre D K b0 sa sz L f0)) (hQ D K b0 (fun v9 u9 => ∃ f2 : Nat → va_E, v9 = some (.int v) ∧ u9 = lU L f2 ∧ PW K ad P S1 L f2 ∧ S1.2.2.1 = n ∧ Kp ad P L f0 f2)) 0 0 (fun q => b0 ≤ q) := by
  refine t_of (own := RX6) (by decide) rfl ?_ (Nat.le_of_ble_eq_true rfl)
  intro p e s m below meth c ls C w hsz hr hlk hnm hl
  have hx := C.1
  have hb := C.2.1
  have hl : lv_has ls 3 [(0, .ref (ad 0 0))] := hl
  have J32 : ∀ (k4 : (Int32 × Int32) → fS → Option (Int32 × fS)) (hk4 : ∀ (a1 : Int32) (a2 : Int32) (S : fS), k4 (a1, a2) S = some (v, S1) → Gw D K b0 sa ad P n L f0 p l e { frames := 6, cells := 0, slots := 0, locals := 133 } s m [.ref (ad 0 0)].toArray below meth c 3 (MQ below (hQ D K b0 (fun v9 u9 => ∃ f2 : Nat → va_E, v9 = some (.int v) ∧ u9 = lU L f2 ∧ PW K ad P S1 L f2 ∧ S1.2.2.1 = n ∧ Kp ad P L f0 f2)) [.ref (ad 0 0)].toArray s 0 0 (fun q => b0 ≤ q)) 0 0 4 [(0, .ref (ad 0 0)), (1, .int a1), (2, .int a2)] [] S) (a1 : Int32) (a2 : Int32) (S : fS), B_X6_fitting_32 k4 a1 a2 S = some (v, S1) → Gw D K b0 sa ad P n L f0 p l e { frames := 6, cells := 0, slots := 0, locals := 133 } s m [.ref (ad 0 0)].toArray below meth c 3 (MQ below (hQ D K b0 (fun v9 u9 => ∃ f2 : Nat → va_E, v9 = some (.int v) ∧ u9 = lU L f2 ∧ PW K ad P S1 L f2 ∧ S1.2.2.1 = n ∧ Kp ad P L f0 f2)) [.ref (ad 0 0)].toArray s 0 0 (fun q => b0 ≤ q)) 0 0 32 [(0, .ref (ad 0 0)), (1, .int a1), (2, .int a2)] [] S := by
    intro k4 hk4 a1 a2 S h
    dsimp only [B_X6_fitting_32] at h
    intro f H locs w hw hn hk ls hl
    obtain ⟨x1, ex1, h⟩ := iv_some h
    refine lv_iinc (v := x1) (lv' := [(2, .int x1), (0, .ref (ad 0 0)), (1, .int a1)]) hx hb dX6_fitting_32 hl (k := 2) rfl ex1.symm (by decide) rfl (fun ls hl => ?_)
    refine lv_goto (tgt := 4) hx hb dX6_fitting_35 (by decide) ?_
    exact hk4 a1 x1 S h f H locs w hw hn hk ls (lv_sub hl [1, 2, 0] rfl)
  have J4 : ∀ (fu : Nat) (a1 : Int32) (a2 : Int32) (S : fS), lp (B_X6_fitting_4 ) fu (a1, a2) S = some (v, S1) → Gw D K b0 sa ad P n L f0 p l e { frames := 6, cells := 0, slots := 0, locals := 133 } s m [.ref (ad 0 0)].toArray below meth c 3 (MQ below (hQ D K b0 (fun v9 u9 => ∃ f2 : Nat → va_E, v9 = some (.int v) ∧ u9 = lU L f2 ∧ PW K ad P S1 L f2 ∧ S1.2.2.1 = n ∧ Kp ad P L f0 f2)) [.ref (ad 0 0)].toArray s 0 0 (fun q => b0 ≤ q)) 0 0 4 [(0, .ref (ad 0 0)), (1, .int a1), (2, .int a2)] [] S := by
    intro fu a1 a2 S h
    refine lp_some (G := (fun q S => Gw D K b0 sa ad P n L f0 p l e { frames := 6, cells := 0, slots := 0, locals := 133 } s m [.ref (ad 0 0)].toArray below meth c 3 (MQ below (hQ D K b0 (fun v9 u9 => ∃ f2 : Nat → va_E, v9 = some (.int v) ∧ u9 = lU L f2 ∧ PW K ad P S1 L f2 ∧ S1.2.2.1 = n ∧ Kp ad P L f0 f2)) [.ref (ad 0 0)].toArray s 0 0 (fun q => b0 ≤ q)) 0 0 4 [(0, .ref (ad 0 0)), (1, .int q.1), (2, .int q.2)] [] S)) (fun k4 hk4 q S h => ?_) fu (a1, a2) S h
    obtain ⟨a1, a2⟩ := q
    have hk4 : ∀ (a1 : Int32) (a2 : Int32) (S : fS), k4 (a1, a2) S = some (v, S1) → Gw D K b0 sa ad P n L f0 p l e { frames := 6, cells := 0, slots := 0, locals := 133 } s m [.ref (ad 0 0)].toArray below meth c 3 (MQ below (hQ D K b0 (fun v9 u9 => ∃ f2 : Nat → va_E, v9 = some (.int v) ∧ u9 = lU L f2 ∧ PW K ad P S1 L f2 ∧ S1.2.2.1 = n ∧ Kp ad P L f0 f2)) [.ref (ad 0 0)].toArray s 0 0 (fun q => b0 ≤ q)) 0 0 4 [(0, .ref (ad 0 0)), (1, .int a1), (2, .int a2)] [] S := fun a1 a2 S h => hk4 (a1, a2) S h
    dsimp only [B_X6_fitting_4] at h
    intro f H locs w hw hn hk ls hl
    refine lv_iload_n hx hb dX6_fitting_4 rfl (lv_at hl 2 rfl) ?_
    refine lv_aload_n hx hb dX6_fitting_5 rfl (lv_at hl 0 rfl) ?_
    refine u_geti C w hw (hP _ _ (isn_f rfl rfl (by decide))) rfl (N := 18) rfl rfl cin_6 5 (by decide) rfl gw_292 dX6_fitting_6 ?_
    refine u_iv h (fun x2 h => ?_)
    refine lv_icmp_ge (tgt := 38) hx hb dX6_fitting_9 (by decide) (fun c3 => ?_) (fun c3 => ?_)
    · have h := bb_t h c3
      refine lv_iload_n hx hb dX6_fitting_38 rfl (lv_at hl 1 rfl) ?_
      exact t_iret C hr hlk w ⟨_, so_v h, rfl, so_w h hw, so_n h hn, hk⟩ (by decide) (by decide) dX6_fitting_39
    · have h := bb_f h c3
      refine lv_aload_n hx hb dX6_fitting_12 rfl (lv_at hl 0 rfl) ?_
      refine lv_aload_n hx hb dX6_fitting_13 rfl (lv_at hl 0 rfl) ?_
      refine u_getr C w hw (hP _ _ (isn_f rfl rfl (by decide))) rfl (N := 18) rfl rfl cin_6 4 (by decide) (by decide) (a2 := 13) (i2 := 0) rfl gw_291 dX6_fitting_14 ?_
      refine lv_iload_n hx hb dX6_fitting_17 rfl (lv_at hl 2 rfl) ?_
      obtain ⟨g4, h⟩ := gd_some h
      refine u_aald4 C w hw (hP _ _ (isn_f rfl rfl (by decide))) rfl rfl rfl (n := 6) rfl (vp_in_iff.mpr g4) dX6_fitting_18 ?_
      refine u_qv h (fun o5 h => ?_)
      obtain ⟨v6, S7, h8, h⟩ := bd_some h
      refine u_callV (n := 1) C w hw (hP _ _ (isn_f rfl rfl (by decide))) rfl rfl rfl (c_X6_firstStrange l D K b0 sa _ L _ ad P hP S hw hn o5 v6 S7 h8) gw_479 gw_476 gw_478 gs_5 gw_1 ⟨by decide, by decide, by decide +kernel⟩ rfl rfl ⟨by decide, by decide⟩ rfl hl.1 rfl (Nat.le_of_ble_eq_true rfl) dX6_fitting_19 ⟨Nat.le_of_ble_eq_true rfl, Nat.le_of_ble_eq_true rfl⟩ (fun v9 u H locs hp w => ?_)
      obtain ⟨f2, rfl, rfl, hw, hn, hk1⟩ := hp
      have hk := hk.tr hk1
      generalize f2 = f at w hw hk
      refine lv_iconst (v := (-1)) hx hb dX6_fitting_22 (by decide) ?_
      refine lv_icmp_ne (tgt := 32) hx hb dX6_fitting_23 (by decide) (fun c9 => ?_) (fun c9 => ?_)
      · have h := bb_f h c9
        exact J32 k4 hk4 a1 a2 S7 h f H locs w hw hn hk ls (lv_sub hl [0, 1, 2] rfl)
      · have h := bb_t h c9
        refine lv_iload_n hx hb dX6_fitting_26 rfl (lv_at hl 1 rfl) ?_
        refine lv_iconst (v := 1) hx hb dX6_fitting_27 (by decide) ?_
        refine lv_iload_n hx hb dX6_fitting_28 rfl (lv_at hl 2 rfl) ?_
        refine lv_ishl hx hb dX6_fitting_29 ?_
        refine u_iv h (fun x10 h => ?_)
        refine lv_ior hx hb dX6_fitting_30 ?_
        refine u_iv h (fun x11 h => ?_)
        refine lv_istore_n (lv' := [(1, .int x11), (0, .ref (ad 0 0)), (2, .int a2)]) hx hb dX6_fitting_31 rfl hl (by decide) rfl (fun ls hl => ?_)
        exact J32 k4 hk4 x11 a2 S7 h f H locs w hw hn hk ls (lv_sub hl [1, 0, 2] rfl)
  dsimp only [F_X6_fitting] at h
  obtain ⟨f, ef⟩ : ∃ z, z = f0 := ⟨_, rfl⟩
  rw [← ef] at w hw
  have hk : Kp ad P L f0 f := by rw [ef]; exact Kp.rf
  obtain ⟨H, eH⟩ : ∃ z, z = s.heap := ⟨_, rfl⟩
  obtain ⟨locs, el⟩ : ∃ z : List Loc, z = [] := ⟨_, rfl⟩
  rw [← eH, ← el] at w ⊢
  refine lv_iconst (v := 0) hx hb dX6_fitting_0 (by decide) ?_
  refine lv_istore_n (lv' := [(1, .int 0), (0, .ref (ad 0 0))]) hx hb dX6_fitting_1 rfl hl (by decide) rfl (fun ls hl => ?_)
  refine lv_iconst (v := 0) hx hb dX6_fitting_2 (by decide) ?_
  refine lv_istore_n (lv' := [(2, .int 0), (1, .int 0), (0, .ref (ad 0 0))]) hx hb dX6_fitting_3 rfl hl (by decide) rfl (fun ls hl => ?_)
  exact J4  fuel 0 0 S0 h f H locs w hw hn hk ls (lv_sub hl [2, 1, 0] rfl)
theorem dX6_strange_0 : decode cX6_strange 0 = .ok (.iload_n 1, 1) := by decide +kernel
theorem dX6_strange_1 : decode cX6_strange 1 = .ok (.iconst 0, 1) := by decide +kernel
theorem dX6_strange_2 : decode cX6_strange 2 = .ok (.aload_n 0, 1) := by decide +kernel
theorem dX6_strange_3 : decode cX6_strange 3 = .ok (.getfield 33, 3) := by decide +kernel
theorem dX6_strange_6 : decode cX6_strange 6 = .ok (.iconst 1, 1) := by decide +kernel
theorem dX6_strange_7 : decode cX6_strange 7 = .ok (.isub, 1) := by decide +kernel
theorem dX6_strange_8 : decode cX6_strange 8 = .ok (.invokestatic 92, 3) := by decide +kernel
theorem dX6_strange_11 : decode cX6_strange 11 = .ok (.invokestatic 96, 3) := by decide +kernel
theorem dX6_strange_14 : decode cX6_strange 14 = .ok (.aload_n 0, 1) := by decide +kernel
theorem dX6_strange_15 : decode cX6_strange 15 = .ok (.aload_n 0, 1) := by decide +kernel
theorem dX6_strange_16 : decode cX6_strange 16 = .ok (.getfield 29, 3) := by decide +kernel
theorem dX6_strange_19 : decode cX6_strange 19 = .ok (.iload_n 1, 1) := by decide +kernel
theorem dX6_strange_20 : decode cX6_strange 20 = .ok (.aaload, 1) := by decide +kernel
theorem dX6_strange_21 : decode cX6_strange 21 = .ok (.invokevirtual 253, 3) := by decide +kernel
theorem dX6_strange_24 : decode cX6_strange 24 = .ok (.ireturn, 1) := by decide +kernel
noncomputable def F_X6_strange (p1 : Int32) (S0 : fS) : Option ((Nat × Int32) × fS) := iv (ge S0 0 0 5) (fun x1 => iv (x1 - (1 : Int32)) (fun x2 => bd (F_X6_within p1 0 x2 S0) (fun v3 S4 => bx (F_X6_need v3 S4) (fun v6 S7 => gd (ib p1 6) (qv (gr S7 13 0 (p1 : Int32).toNatClampNeg) (fun o11 => bd (F_X6_firstStrange o11 S7) (fun v12 S13 => some ((0, v12), S13))))))))
set_option maxHeartbeats 4000000 in
set_option maxRecDepth 100000 in
theorem c_X6_strange (l : Launch) (hls : l.stackTraces = false) (D : va_G) (K : Nat → ClassId) (b0 : Nat) (sa : sT) (sz : Nat) (L : List Nat) (f0 : Nat → va_E) (ad : Nat → Nat → Nat) (P : Nat → Nat → Prop) {n : Nat × Nat} (hP : ∀ a i : Nat, isn n a i → P a i) (S0 : fS) (hw : PW K ad P S0 L f0) (hn : S0.2.2.1 = n) (p1 : Int32) (ec : Nat) (v : Int32) (S1 : fS) (h : F_X6_strange p1 S0 = some ((ec, v), S1)) : vx_Met l yX6_strange (.code yX6_strange cX6_strange 2 (some .int) :: gt) { frames := 7, cells := 1, slots := 6, locals := 133 } (va_Pc [.ref (ad 0 0), .int p1] (hPre D K b0 sa sz L f0)) (hQ D K b0 (fun v9 u9 => ec = 0 ∧ v9 = some (.int v) ∧ ∃ f2 : Nat → va_E, u9 = lU L f2 ∧ PW K ad P S1 L f2 ∧ S1.2.2.1 = n ∧ Kp ad P L f0 f2)) (hX D K b0 (fun E u9 => (ec ≠ 0 ∧ E = exn ec) ∧ ∃ f2 : Nat → va_E, u9 = lU L f2 ∧ PW K ad P S1 L f2 ∧ S1.2.2.1 = n ∧ Kp ad P L f0 f2)) 1 6 (fun q => b0 ≤ q) := by
  refine t_xof (own := RX6) (by decide) rfl ?_ (Nat.le_of_ble_eq_true rfl)
  intro p e s m below meth c ls C w hsz hr hlk htb hl
  have hx := C.1
  have hb := C.2.1
  have hl : lv_has ls 2 [(0, .ref (ad 0 0)), (1, .int p1)] := hl
  dsimp only [F_X6_strange] at h
  obtain ⟨f, ef⟩ : ∃ z, z = f0 := ⟨_, rfl⟩
  rw [← ef] at w hw
  have hk : Kp ad P L f0 f := by rw [ef]; exact Kp.rf
  obtain ⟨H, eH⟩ : ∃ z, z = s.heap := ⟨_, rfl⟩
  obtain ⟨locs, el⟩ : ∃ z : List Loc, z = [] := ⟨_, rfl⟩
  rw [← eH, ← el] at w ⊢
  refine lv_iload_n hx hb dX6_strange_0 rfl (lv_at hl 1 rfl) ?_
  refine lv_iconst (v := 0) hx hb dX6_strange_1 (by decide) ?_
  refine lv_aload_n hx hb dX6_strange_2 rfl (lv_at hl 0 rfl) ?_
  refine u_geti C w hw (hP _ _ (isn_f rfl rfl (by decide))) rfl (N := 18) rfl rfl cin_6 5 (by decide) rfl gw_292 dX6_strange_3 ?_
  refine u_iv h (fun x1 h => ?_)
  refine lv_iconst (v := 1) hx hb dX6_strange_6 (by decide) ?_
  refine lv_isub hx hb dX6_strange_7 ?_
  refine u_iv h (fun x2 h => ?_)
  obtain ⟨v3, S4, h5, h⟩ := bd_some h
  refine t_callS (n := 3) C w (c_X6_within l D K b0 sa _ L _ ad P hP S0 hw hn p1 0 x2 v3 S4 h5) gw_376 gw_374 gw_375 gw_1 ⟨by decide, by decide, by decide +kernel⟩ rfl rfl ⟨by decide, by decide⟩ rfl hl.1 rfl (Nat.le_of_ble_eq_true rfl) dX6_strange_8 ⟨Nat.le_of_ble_eq_true rfl, Nat.le_of_ble_eq_true rfl⟩ (fun v9 u H locs hp w => ?_)
  obtain ⟨f2, rfl, rfl, hw, hn, hk1⟩ := hp
  have hk := hk.tr hk1
  generalize f2 = f at w hw hk
  rcases bx_some h with ⟨v6, S7, h8, h⟩ | ⟨e9, v6, S7, h8, h⟩
  rotate_left
  · refine t_xcallS (n := 1) C w (c_X6_need l hls D K b0 sa _ L _ ad P hP S4 hw hn v3 (e9 + 1) v6 S7 h8) gw_625 gw_623 gw_624 gw_1 ⟨by decide, by decide, by decide +kernel⟩ rfl rfl ⟨by decide, by decide⟩ rfl hl.1 rfl (Nat.le_of_ble_eq_true rfl) dX6_strange_11 ⟨Nat.le_of_ble_eq_true rfl, Nat.le_of_ble_eq_true rfl⟩ (fun E ce q9 u H locs hp w hcell hv0 hcl => ?_) (fun v9 u H locs hp w => absurd hp.1 (Nat.succ_ne_zero _))
    obtain ⟨⟨he, hE⟩, f2, rfl, hw, hn, hk1⟩ := hp
    exact t_xout w htb hlk hcell hv0 hcl ⟨sz_e h he hE, _, rfl, sz_w h hw, sz_n h hn, hk.tr hk1⟩ (by decide) (by decide)
  refine t_xcallS (n := 1) C w (c_X6_need l hls D K b0 sa _ L _ ad P hP S4 hw hn v3 0 v6 S7 h8) gw_625 gw_623 gw_624 gw_1 ⟨by decide, by decide, by decide +kernel⟩ rfl rfl ⟨by decide, by decide⟩ rfl hl.1 rfl (Nat.le_of_ble_eq_true rfl) dX6_strange_11 ⟨Nat.le_of_ble_eq_true rfl, Nat.le_of_ble_eq_true rfl⟩ (fun E ce q9 u H locs hp w hcell hv0 hcl => absurd rfl hp.1.1) (fun v9 u H locs hp w => ?_)
  obtain ⟨-, rfl, f2, rfl, hw, hn, hk1⟩ := hp
  have hk := hk.tr hk1
  generalize f2 = f at w hw hk
  refine lv_aload_n hx hb dX6_strange_14 rfl (lv_at hl 0 rfl) ?_
  refine lv_aload_n hx hb dX6_strange_15 rfl (lv_at hl 0 rfl) ?_
  refine u_getr C w hw (hP _ _ (isn_f rfl rfl (by decide))) rfl (N := 18) rfl rfl cin_6 4 (by decide) (by decide) (a2 := 13) (i2 := 0) rfl gw_291 dX6_strange_16 ?_
  refine lv_iload_n hx hb dX6_strange_19 rfl (lv_at hl 1 rfl) ?_
  obtain ⟨g10, h⟩ := gd_some h
  refine u_aald4 C w hw (hP _ _ (isn_f rfl rfl (by decide))) rfl rfl rfl (n := 6) rfl (vp_in_iff.mpr g10) dX6_strange_20 ?_
  refine u_qv h (fun o11 h => ?_)
  obtain ⟨v12, S13, h14, h⟩ := bd_some h
  refine u_callV (n := 1) C w hw (hP _ _ (isn_f rfl rfl (by decide))) rfl rfl rfl (c_X6_firstStrange l D K b0 sa _ L _ ad P hP S7 hw hn o11 v12 S13 h14) gw_479 gw_476 gw_478 gs_5 gw_1 ⟨by decide, by decide, by decide +kernel⟩ rfl rfl ⟨by decide, by decide⟩ rfl hl.1 rfl (Nat.le_of_ble_eq_true rfl) dX6_strange_21 ⟨Nat.le_of_ble_eq_true rfl, Nat.le_of_ble_eq_true rfl⟩ (fun v9 u H locs hp w => ?_)
  obtain ⟨f2, rfl, rfl, hw, hn, hk1⟩ := hp
  have hk := hk.tr hk1
  generalize f2 = f at w hw hk
  refine vx_ret ?_
  exact t_iret C hr hlk w ⟨sx_e h, sx_v h, _, rfl, sx_w h hw, sx_n h hn, hk⟩ (by decide) (by decide) dX6_strange_24
theorem dX6_guess_0 : decode cX6_guess 0 = .ok (.iload_n 1, 1) := by decide +kernel
theorem dX6_guess_1 : decode cX6_guess 1 = .ok (.invokestatic 85, 3) := by decide +kernel
theorem dX6_guess_4 : decode cX6_guess 4 = .ok (.iconst 0, 1) := by decide +kernel
theorem dX6_guess_5 : decode cX6_guess 5 = .ok (.istore_n 2, 1) := by decide +kernel
theorem dX6_guess_6 : decode cX6_guess 6 = .ok (.iconst 0, 1) := by decide +kernel
theorem dX6_guess_7 : decode cX6_guess 7 = .ok (.istore_n 3, 1) := by decide +kernel
theorem dX6_guess_8 : decode cX6_guess 8 = .ok (.iload_n 3, 1) := by decide +kernel
theorem dX6_guess_9 : decode cX6_guess 9 = .ok (.aload_n 0, 1) := by decide +kernel
theorem dX6_guess_10 : decode cX6_guess 10 = .ok (.getfield 33, 3) := by decide +kernel
theorem dX6_guess_13 : decode cX6_guess 13 = .ok (.if_icmp .ge 86, 3) := by decide +kernel
theorem dX6_guess_16 : decode cX6_guess 16 = .ok (.aload_n 0, 1) := by decide +kernel
theorem dX6_guess_17 : decode cX6_guess 17 = .ok (.aload_n 0, 1) := by decide +kernel
theorem dX6_guess_18 : decode cX6_guess 18 = .ok (.getfield 29, 3) := by decide +kernel
theorem dX6_guess_21 : decode cX6_guess 21 = .ok (.iload_n 3, 1) := by decide +kernel
theorem dX6_guess_22 : decode cX6_guess 22 = .ok (.aaload, 1) := by decide +kernel
theorem dX6_guess_23 : decode cX6_guess 23 = .ok (.invokevirtual 253, 3) := by decide +kernel
theorem dX6_guess_26 : decode cX6_guess 26 = .ok (.iconst (-1), 1) := by decide +kernel
theorem dX6_guess_27 : decode cX6_guess 27 = .ok (.if_icmp .ne 66, 3) := by decide +kernel
theorem dX6_guess_30 : decode cX6_guess 30 = .ok (.aload_n 0, 1) := by decide +kernel
theorem dX6_guess_31 : decode cX6_guess 31 = .ok (.getfield 75, 3) := by decide +kernel
theorem dX6_guess_34 : decode cX6_guess 34 = .ok (.aload_n 0, 1) := by decide +kernel
theorem dX6_guess_35 : decode cX6_guess 35 = .ok (.getfield 10, 3) := by decide +kernel
theorem dX6_guess_38 : decode cX6_guess 38 = .ok (.invokevirtual 178, 3) := by decide +kernel
theorem dX6_guess_41 : decode cX6_guess 41 = .ok (.aload_n 0, 1) := by decide +kernel
theorem dX6_guess_42 : decode cX6_guess 42 = .ok (.getfield 68, 3) := by decide +kernel
theorem dX6_guess_45 : decode cX6_guess 45 = .ok (.aload_n 0, 1) := by decide +kernel
theorem dX6_guess_46 : decode cX6_guess 46 = .ok (.getfield 29, 3) := by decide +kernel
theorem dX6_guess_49 : decode cX6_guess 49 = .ok (.iload_n 3, 1) := by decide +kernel
theorem dX6_guess_50 : decode cX6_guess 50 = .ok (.aaload, 1) := by decide +kernel
theorem dX6_guess_51 : decode cX6_guess 51 = .ok (.aload_n 0, 1) := by decide +kernel
theorem dX6_guess_52 : decode cX6_guess 52 = .ok (.getfield 75, 3) := by decide +kernel
theorem dX6_guess_55 : decode cX6_guess 55 = .ok (.iconst 0, 1) := by decide +kernel
theorem dX6_guess_56 : decode cX6_guess 56 = .ok (.invokevirtual 186, 3) := by decide +kernel
theorem dX6_guess_59 : decode cX6_guess 59 = .ok (.iload_n 2, 1) := by decide +kernel
theorem dX6_guess_60 : decode cX6_guess 60 = .ok (.aload_n 0, 1) := by decide +kernel
theorem dX6_guess_61 : decode cX6_guess 61 = .ok (.aload_n 0, 1) := by decide +kernel
theorem dX6_guess_62 : decode cX6_guess 62 = .ok (.getfield 10, 3) := by decide +kernel
theorem dX6_guess_65 : decode cX6_guess 65 = .ok (.iload_n 1, 1) := by decide +kernel
theorem dX6_guess_66 : decode cX6_guess 66 = .ok (.aload_n 0, 1) := by decide +kernel
theorem dX6_guess_67 : decode cX6_guess 67 = .ok (.getfield 68, 3) := by decide +kernel
theorem dX6_guess_70 : decode cX6_guess 70 = .ok (.invokevirtual 190, 3) := by decide +kernel
theorem dX6_guess_73 : decode cX6_guess 73 = .ok (.aload_n 0, 1) := by decide +kernel
theorem dX6_guess_74 : decode cX6_guess 74 = .ok (.getfield 68, 3) := by decide +kernel
theorem dX6_guess_77 : decode cX6_guess 77 = .ok (.invokevirtual 193, 3) := by decide +kernel
theorem dX6_guess_80 : decode cX6_guess 80 = .ok (.invokevirtual 230, 3) := by decide +kernel
theorem dX6_guess_83 : decode cX6_guess 83 = .ok (.ifCond .eq 7, 3) := by decide +kernel
theorem dX6_guess_86 : decode cX6_guess 86 = .ok (.iconst 1, 1) := by decide +kernel
theorem dX6_guess_87 : decode cX6_guess 87 = .ok (.goto 4, 3) := by decide +kernel
theorem dX6_guess_90 : decode cX6_guess 90 = .ok (.iconst 0, 1) := by decide +kernel
theorem dX6_guess_91 : decode cX6_guess 91 = .ok (.iadd, 1) := by decide +kernel
theorem dX6_guess_92 : decode cX6_guess 92 = .ok (.istore_n 2, 1) := by decide +kernel
theorem dX6_guess_93 : decode cX6_guess 93 = .ok (.iinc 3 1, 3) := by decide +kernel
theorem dX6_guess_96 : decode cX6_guess 96 = .ok (.goto (-88), 3) := by decide +kernel
theorem dX6_guess_99 : decode cX6_guess 99 = .ok (.iload_n 2, 1) := by decide +kernel
theorem dX6_guess_100 : decode cX6_guess 100 = .ok (.ireturn, 1) := by decide +kernel
noncomputable def B_X6_guess_93 (k8 : (Int32 × Int32 × Int32) → fS → Option ((Nat × Int32) × fS)) (a1 : Int32) (a2 : Int32) (a3 : Int32) (S : fS) : Option ((Nat × Int32) × fS) := iv (a3 + Int32.ofInt 1) (fun x1 => k8 (a1, a2, x1) S)
noncomputable def B_X6_guess_91 (k8 : (Int32 × Int32 × Int32) → fS → Option ((Nat × Int32) × fS)) (a1 : Int32) (a3 : Int32) (t0 : Int32) (t1 : Int32) (S : fS) : Option ((Nat × Int32) × fS) := iv (t1 + t0) (fun x2 => B_X6_guess_93 k8 a1 x2 a3 S)
noncomputable def B_X6_guess_8 (k8 : (Int32 × Int32 × Int32) → fS → Option ((Nat × Int32) × fS)) : (Int32 × Int32 × Int32) → fS → Option ((Nat × Int32) × fS) := fun ⟨a1, a2, a3⟩ S => iv (ge S 0 0 5) (fun x3 => bb (x3 ≤ a3) (some ((0, a2), S)) (gd (ib a3 6) (qv (gr S 13 0 (a3 : Int32).toNatClampNeg) (fun o6 => bd (F_X6_firstStrange o6 S) (fun v7 S8 => bb (v7 = ((-1) : Int32)) (bd (F_X5_nameNext 0 0 S8) (fun v11 S12 => gd (ib a3 6) (qv (gr S12 13 0 (a3 : Int32).toNatClampNeg) (fun o15 => bd (F_X3_run o15 0 0 S12) (fun v16 S17 => bd (F_X3_grip  S17) (fun v19 S20 => bd (F_X3_slip  S20) (fun v22 S23 => bd (F_X6_pays 0 a1 v19 v22 S23) (fun v25 S26 => bb (v25 = (0 : Int32)) (B_X6_guess_91 k8 a1 a3 0 a2 S26) (B_X6_guess_91 k8 a1 a3 1 a2 S26))))))))) (B_X6_guess_93 k8 a1 a2 a3 S8))))))
noncomputable def F_X6_guess (p1 : Int32) (S0 : fS) : Option ((Nat × Int32) × fS) := bx (F_X6_needCell p1 S0) (fun v29 S30 => lp (B_X6_guess_8 ) fuel (p1, 0, 0) S30)
set_option maxHeartbeats 4000000 in
set_option maxRecDepth 100000 in
theorem c_X6_guess (l : Launch) (hls : l.stackTraces = false) (D : va_G) (K : Nat → ClassId) (b0 : Nat) (sa : sT) (sz : Nat) (L : List Nat) (f0 : Nat → va_E) (ad : Nat → Nat → Nat) (P : Nat → Nat → Prop) {n : Nat × Nat} (hP : ∀ a i : Nat, isn n a i → P a i) (S0 : fS) (hw : PW K ad P S0 L f0) (hn : S0.2.2.1 = n) (hprobe : 0 < n.1) (p1 : Int32) (ec : Nat) (v : Int32) (S1 : fS) (h : F_X6_guess p1 S0 = some ((ec, v), S1)) : vx_Met l yX6_guess (.code yX6_guess cX6_guess 4 (some .int) :: gt) { frames := 7, cells := 1, slots := 6, locals := 133 } (va_Pc [.ref (ad 0 0), .int p1] (hPre D K b0 sa sz L f0)) (hQ D K b0 (fun v9 u9 => ec = 0 ∧ v9 = some (.int v) ∧ ∃ f2 : Nat → va_E, u9 = lU L f2 ∧ PW K ad P S1 L f2 ∧ S1.2.2.1 = n ∧ Kp ad P L f0 f2)) (hX D K b0 (fun E u9 => (ec ≠ 0 ∧ E = exn ec) ∧ ∃ f2 : Nat → va_E, u9 = lU L f2 ∧ PW K ad P S1 L f2 ∧ S1.2.2.1 = n ∧ Kp ad P L f0 f2)) 1 6 (fun q => b0 ≤ q) := by
  refine t_xof (own := RX6) (by decide) rfl ?_ (Nat.le_of_ble_eq_true rfl)
  intro p e s m below meth c ls C w hsz hr hlk htb hl
  have hx := C.1
  have hb := C.2.1
  have hl : lv_has ls 4 [(0, .ref (ad 0 0)), (1, .int p1)] := hl
  have J93 : ∀ (k8 : (Int32 × Int32 × Int32) → fS → Option ((Nat × Int32) × fS)) (hk8 : ∀ (a1 : Int32) (a2 : Int32) (a3 : Int32) (S : fS), k8 (a1, a2, a3) S = some ((ec, v), S1) → Gw D K b0 sa ad P n L f0 p l e { frames := 7, cells := 1, slots := 6, locals := 133 } s m [.ref (ad 0 0), .int p1].toArray below meth c 4 (vx_MQ below (hQ D K b0 (fun v9 u9 => ec = 0 ∧ v9 = some (.int v) ∧ ∃ f2 : Nat → va_E, u9 = lU L f2 ∧ PW K ad P S1 L f2 ∧ S1.2.2.1 = n ∧ Kp ad P L f0 f2)) (hX D K b0 (fun E u9 => (ec ≠ 0 ∧ E = exn ec) ∧ ∃ f2 : Nat → va_E, u9 = lU L f2 ∧ PW K ad P S1 L f2 ∧ S1.2.2.1 = n ∧ Kp ad P L f0 f2)) [.ref (ad 0 0), .int p1].toArray s 1 6 (fun q => b0 ≤ q)) 1 6 8 [(0, .ref (ad 0 0)), (1, .int a1), (2, .int a2), (3, .int a3)] [] S) (a1 : Int32) (a2 : Int32) (a3 : Int32) (S : fS), B_X6_guess_93 k8 a1 a2 a3 S = some ((ec, v), S1) → Gw D K b0 sa ad P n L f0 p l e { frames := 7, cells := 1, slots := 6, locals := 133 } s m [.ref (ad 0 0), .int p1].toArray below meth c 4 (vx_MQ below (hQ D K b0 (fun v9 u9 => ec = 0 ∧ v9 = some (.int v) ∧ ∃ f2 : Nat → va_E, u9 = lU L f2 ∧ PW K ad P S1 L f2 ∧ S1.2.2.1 = n ∧ Kp ad P L f0 f2)) (hX D K b0 (fun E u9 => (ec ≠ 0 ∧ E = exn ec) ∧ ∃ f2 : Nat → va_E, u9 = lU L f2 ∧ PW K ad P S1 L f2 ∧ S1.2.2.1 = n ∧ Kp ad P L f0 f2)) [.ref (ad 0 0), .int p1].toArray s 1 6 (fun q => b0 ≤ q)) 1 6 93 [(0, .ref (ad 0 0)), (1, .int a1), (2, .int a2), (3, .int a3)] [] S := by
    intro k8 hk8 a1 a2 a3 S h
    dsimp only [B_X6_guess_93] at h
    intro f H locs w hw hn hk ls hl
    obtain ⟨x1, ex1, h⟩ := iv_some h
    refine lv_iinc (v := x1) (lv' := [(3, .int x1), (0, .ref (ad 0 0)), (1, .int a1), (2, .int a2)]) hx hb dX6_guess_93 hl (k := 3) rfl ex1.symm (by decide) rfl (fun ls hl => ?_)
    refine lv_goto (tgt := 8) hx hb dX6_guess_96 (by decide) ?_
    exact hk8 a1 a2 x1 S h f H locs w hw hn hk ls (lv_sub hl [1, 2, 3, 0] rfl)
  have J91 : ∀ (k8 : (Int32 × Int32 × Int32) → fS → Option ((Nat × Int32) × fS)) (hk8 : ∀ (a1 : Int32) (a2 : Int32) (a3 : Int32) (S : fS), k8 (a1, a2, a3) S = some ((ec, v), S1) → Gw D K b0 sa ad P n L f0 p l e { frames := 7, cells := 1, slots := 6, locals := 133 } s m [.ref (ad 0 0), .int p1].toArray below meth c 4 (vx_MQ below (hQ D K b0 (fun v9 u9 => ec = 0 ∧ v9 = some (.int v) ∧ ∃ f2 : Nat → va_E, u9 = lU L f2 ∧ PW K ad P S1 L f2 ∧ S1.2.2.1 = n ∧ Kp ad P L f0 f2)) (hX D K b0 (fun E u9 => (ec ≠ 0 ∧ E = exn ec) ∧ ∃ f2 : Nat → va_E, u9 = lU L f2 ∧ PW K ad P S1 L f2 ∧ S1.2.2.1 = n ∧ Kp ad P L f0 f2)) [.ref (ad 0 0), .int p1].toArray s 1 6 (fun q => b0 ≤ q)) 1 6 8 [(0, .ref (ad 0 0)), (1, .int a1), (2, .int a2), (3, .int a3)] [] S) (a1 : Int32) (a3 : Int32) (t0 : Int32) (t1 : Int32) (S : fS), B_X6_guess_91 k8 a1 a3 t0 t1 S = some ((ec, v), S1) → Gw D K b0 sa ad P n L f0 p l e { frames := 7, cells := 1, slots := 6, locals := 133 } s m [.ref (ad 0 0), .int p1].toArray below meth c 4 (vx_MQ below (hQ D K b0 (fun v9 u9 => ec = 0 ∧ v9 = some (.int v) ∧ ∃ f2 : Nat → va_E, u9 = lU L f2 ∧ PW K ad P S1 L f2 ∧ S1.2.2.1 = n ∧ Kp ad P L f0 f2)) (hX D K b0 (fun E u9 => (ec ≠ 0 ∧ E = exn ec) ∧ ∃ f2 : Nat → va_E, u9 = lU L f2 ∧ PW K ad P S1 L f2 ∧ S1.2.2.1 = n ∧ Kp ad P L f0 f2)) [.ref (ad 0 0), .int p1].toArray s 1 6 (fun q => b0 ≤ q)) 1 6 91 [(0, .ref (ad 0 0)), (1, .int a1), (3, .int a3)] [.int t0, .int t1] S := by
    intro k8 hk8 a1 a3 t0 t1 S h
    dsimp only [B_X6_guess_91] at h
    intro f H locs w hw hn hk ls hl
    refine lv_iadd hx hb dX6_guess_91 ?_
    refine u_iv h (fun x2 h => ?_)
    refine lv_istore_n (lv' := [(2, .int x2), (0, .ref (ad 0 0)), (1, .int a1), (3, .int a3)]) hx hb dX6_guess_92 rfl hl (by decide) rfl (fun ls hl => ?_)
    exact J93 k8 hk8 a1 x2 a3 S h f H locs w hw hn hk ls (lv_sub hl [1, 2, 0, 3] rfl)
  have J8 : ∀ (fu : Nat) (a1 : Int32) (a2 : Int32) (a3 : Int32) (S : fS), lp (B_X6_guess_8 ) fu (a1, a2, a3) S = some ((ec, v), S1) → Gw D K b0 sa ad P n L f0 p l e { frames := 7, cells := 1, slots := 6, locals := 133 } s m [.ref (ad 0 0), .int p1].toArray below meth c 4 (vx_MQ below (hQ D K b0 (fun v9 u9 => ec = 0 ∧ v9 = some (.int v) ∧ ∃ f2 : Nat → va_E, u9 = lU L f2 ∧ PW K ad P S1 L f2 ∧ S1.2.2.1 = n ∧ Kp ad P L f0 f2)) (hX D K b0 (fun E u9 => (ec ≠ 0 ∧ E = exn ec) ∧ ∃ f2 : Nat → va_E, u9 = lU L f2 ∧ PW K ad P S1 L f2 ∧ S1.2.2.1 = n ∧ Kp ad P L f0 f2)) [.ref (ad 0 0), .int p1].toArray s 1 6 (fun q => b0 ≤ q)) 1 6 8 [(0, .ref (ad 0 0)), (1, .int a1), (2, .int a2), (3, .int a3)] [] S := by
    intro fu a1 a2 a3 S h
    refine lp_some (G := (fun q S => Gw D K b0 sa ad P n L f0 p l e { frames := 7, cells := 1, slots := 6, locals := 133 } s m [.ref (ad 0 0), .int p1].toArray below meth c 4 (vx_MQ below (hQ D K b0 (fun v9 u9 => ec = 0 ∧ v9 = some (.int v) ∧ ∃ f2 : Nat → va_E, u9 = lU L f2 ∧ PW K ad P S1 L f2 ∧ S1.2.2.1 = n ∧ Kp ad P L f0 f2)) (hX D K b0 (fun E u9 => (ec ≠ 0 ∧ E = exn ec) ∧ ∃ f2 : Nat → va_E, u9 = lU L f2 ∧ PW K ad P S1 L f2 ∧ S1.2.2.1 = n ∧ Kp ad P L f0 f2)) [.ref (ad 0 0), .int p1].toArray s 1 6 (fun q => b0 ≤ q)) 1 6 8 [(0, .ref (ad 0 0)), (1, .int q.1), (2, .int q.2.1), (3, .int q.2.2)] [] S)) (fun k8 hk8 q S h => ?_) fu (a1, a2, a3) S h
    obtain ⟨a1, a2, a3⟩ := q
    have hk8 : ∀ (a1 : Int32) (a2 : Int32) (a3 : Int32) (S : fS), k8 (a1, a2, a3) S = some ((ec, v), S1) → Gw D K b0 sa ad P n L f0 p l e { frames := 7, cells := 1, slots := 6, locals := 133 } s m [.ref (ad 0 0), .int p1].toArray below meth c 4 (vx_MQ below (hQ D K b0 (fun v9 u9 => ec = 0 ∧ v9 = some (.int v) ∧ ∃ f2 : Nat → va_E, u9 = lU L f2 ∧ PW K ad P S1 L f2 ∧ S1.2.2.1 = n ∧ Kp ad P L f0 f2)) (hX D K b0 (fun E u9 => (ec ≠ 0 ∧ E = exn ec) ∧ ∃ f2 : Nat → va_E, u9 = lU L f2 ∧ PW K ad P S1 L f2 ∧ S1.2.2.1 = n ∧ Kp ad P L f0 f2)) [.ref (ad 0 0), .int p1].toArray s 1 6 (fun q => b0 ≤ q)) 1 6 8 [(0, .ref (ad 0 0)), (1, .int a1), (2, .int a2), (3, .int a3)] [] S := fun a1 a2 a3 S h => hk8 (a1, a2, a3) S h
    dsimp only [B_X6_guess_8] at h
    intro f H locs w hw hn hk ls hl
    refine lv_iload_n hx hb dX6_guess_8 rfl (lv_at hl 3 rfl) ?_
    refine lv_aload_n hx hb dX6_guess_9 rfl (lv_at hl 0 rfl) ?_
    refine u_geti C w hw (hP _ _ (isn_f rfl rfl (by decide))) rfl (N := 18) rfl rfl cin_6 5 (by decide) rfl gw_292 dX6_guess_10 ?_
    refine u_iv h (fun x3 h => ?_)
    refine lv_icmp_ge (tgt := 99) hx hb dX6_guess_13 (by decide) (fun c4 => ?_) (fun c4 => ?_)
    · have h := bb_t h c4
      refine lv_iload_n hx hb dX6_guess_99 rfl (lv_at hl 2 rfl) ?_
      refine vx_ret ?_
      exact t_iret C hr hlk w ⟨sx_e h, sx_v h, _, rfl, sx_w h hw, sx_n h hn, hk⟩ (by decide) (by decide) dX6_guess_100
    · have h := bb_f h c4
      refine lv_aload_n hx hb dX6_guess_16 rfl (lv_at hl 0 rfl) ?_
      refine lv_aload_n hx hb dX6_guess_17 rfl (lv_at hl 0 rfl) ?_
      refine u_getr C w hw (hP _ _ (isn_f rfl rfl (by decide))) rfl (N := 18) rfl rfl cin_6 4 (by decide) (by decide) (a2 := 13) (i2 := 0) rfl gw_291 dX6_guess_18 ?_
      refine lv_iload_n hx hb dX6_guess_21 rfl (lv_at hl 3 rfl) ?_
      obtain ⟨g5, h⟩ := gd_some h
      refine u_aald4 C w hw (hP _ _ (isn_f rfl rfl (by decide))) rfl rfl rfl (n := 6) rfl (vp_in_iff.mpr g5) dX6_guess_22 ?_
      refine u_qv h (fun o6 h => ?_)
      obtain ⟨v7, S8, h9, h⟩ := bd_some h
      refine u_callV (n := 1) C w hw (hP _ _ (isn_f rfl rfl (by decide))) rfl rfl rfl (c_X6_firstStrange l D K b0 sa _ L _ ad P hP S hw hn o6 v7 S8 h9) gw_479 gw_476 gw_478 gs_5 gw_1 ⟨by decide, by decide, by decide +kernel⟩ rfl rfl ⟨by decide, by decide⟩ rfl hl.1 rfl (Nat.le_of_ble_eq_true rfl) dX6_guess_23 ⟨Nat.le_of_ble_eq_true rfl, Nat.le_of_ble_eq_true rfl⟩ (fun v9 u H locs hp w => ?_)
      obtain ⟨f2, rfl, rfl, hw, hn, hk1⟩ := hp
      have hk := hk.tr hk1
      generalize f2 = f at w hw hk
      refine lv_iconst (v := (-1)) hx hb dX6_guess_26 (by decide) ?_
      refine lv_icmp_ne (tgt := 93) hx hb dX6_guess_27 (by decide) (fun c10 => ?_) (fun c10 => ?_)
      · have h := bb_f h c10
        exact J93 k8 hk8 a1 a2 a3 S8 h f H locs w hw hn hk ls (lv_sub hl [0, 1, 2, 3] rfl)
      · have h := bb_t h c10
        refine lv_aload_n hx hb dX6_guess_30 rfl (lv_at hl 0 rfl) ?_
        refine u_getr C w hw (hP _ _ (isn_f rfl rfl (by decide))) rfl (N := 18) rfl rfl cin_6 15 (by decide) (by decide) (a2 := 25) (i2 := 0) rfl gw_302 dX6_guess_31 ?_
        refine lv_aload_n hx hb dX6_guess_34 rfl (lv_at hl 0 rfl) ?_
        refine u_getr C w hw (hP _ _ (isn_f rfl rfl (by decide))) rfl (N := 18) rfl rfl cin_6 0 (by decide) (by decide) (a2 := 1) (i2 := 0) rfl gw_287 dX6_guess_35 ?_
        obtain ⟨v11, S12, h13, h⟩ := bd_some h
        refine u_callV (n := 1) C w hw (hP _ _ (isn_t25 hprobe)) rfl rfl rfl (c_X5_nameNext l D K b0 sa _ L _ ad P hP S8 hw hn 0 hprobe 0 (by decide) v11 S12 h13) gw_380 gw_377 gw_378 gw_379 gw_7 ⟨by decide, by decide, by decide +kernel⟩ rfl rfl ⟨by decide, by decide⟩ rfl hl.1 rfl (Nat.le_of_ble_eq_true rfl) dX6_guess_38 ⟨Nat.le_of_ble_eq_true rfl, Nat.le_of_ble_eq_true rfl⟩ (fun v9 u H locs hp w => ?_)
        obtain ⟨f2, rfl, rfl, hw, hn, hk1⟩ := hp
        have hk := hk.tr hk1
        generalize f2 = f at w hw hk
        refine lv_aload_n hx hb dX6_guess_41 rfl (lv_at hl 0 rfl) ?_
        refine u_getr C w hw (hP _ _ (isn_f rfl rfl (by decide))) rfl (N := 18) rfl rfl cin_6 14 (by decide) (by decide) (a2 := 22) (i2 := 0) rfl gw_301 dX6_guess_42 ?_
        refine lv_aload_n hx hb dX6_guess_45 rfl (lv_at hl 0 rfl) ?_
        refine u_getr C w hw (hP _ _ (isn_f rfl rfl (by decide))) rfl (N := 18) rfl rfl cin_6 4 (by decide) (by decide) (a2 := 13) (i2 := 0) rfl gw_291 dX6_guess_46 ?_
        refine lv_iload_n hx hb dX6_guess_49 rfl (lv_at hl 3 rfl) ?_
        obtain ⟨g14, h⟩ := gd_some h
        refine u_aald4 C w hw (hP _ _ (isn_f rfl rfl (by decide))) rfl rfl rfl (n := 6) rfl (vp_in_iff.mpr g14) dX6_guess_50 ?_
        refine u_qv h (fun o15 h => ?_)
        refine lv_aload_n hx hb dX6_guess_51 rfl (lv_at hl 0 rfl) ?_
        refine u_getr C w hw (hP _ _ (isn_f rfl rfl (by decide))) rfl (N := 18) rfl rfl cin_6 15 (by decide) (by decide) (a2 := 25) (i2 := 0) rfl gw_302 dX6_guess_52 ?_
        refine lv_iconst (v := 0) hx hb dX6_guess_55 (by decide) ?_
        obtain ⟨v16, S17, h18, h⟩ := bd_some h
        refine u_callV (n := 3) C w hw (hP _ _ (isn_f rfl rfl (by decide))) rfl rfl rfl (c_X3_run l D K b0 sa _ L _ ad P hP S12 hw hn o15 0 hprobe 0 v16 S17 h18) gw_384 gw_381 gw_382 gw_383 gw_6 ⟨by decide, by decide, by decide +kernel⟩ rfl rfl ⟨by decide, by decide⟩ rfl hl.1 rfl (Nat.le_of_ble_eq_true rfl) dX6_guess_56 ⟨Nat.le_of_ble_eq_true rfl, Nat.le_of_ble_eq_true rfl⟩ (fun v9 u H locs hp w => ?_)
        obtain ⟨f2, rfl, rfl, hw, hn, hk1⟩ := hp
        have hk := hk.tr hk1
        generalize f2 = f at w hw hk
        refine lv_iload_n hx hb dX6_guess_59 rfl (lv_at hl 2 rfl) ?_
        refine lv_aload_n hx hb dX6_guess_60 rfl (lv_at hl 0 rfl) ?_
        refine lv_aload_n hx hb dX6_guess_61 rfl (lv_at hl 0 rfl) ?_
        refine u_getr C w hw (hP _ _ (isn_f rfl rfl (by decide))) rfl (N := 18) rfl rfl cin_6 0 (by decide) (by decide) (a2 := 1) (i2 := 0) rfl gw_287 dX6_guess_62 ?_
        refine lv_iload_n hx hb dX6_guess_65 rfl (lv_at hl 1 rfl) ?_
        refine lv_aload_n hx hb dX6_guess_66 rfl (lv_at hl 0 rfl) ?_
        refine u_getr C w hw (hP _ _ (isn_f rfl rfl (by decide))) rfl (N := 18) rfl rfl cin_6 14 (by decide) (by decide) (a2 := 22) (i2 := 0) rfl gw_301 dX6_guess_67 ?_
        obtain ⟨v19, S20, h21, h⟩ := bd_some h
        refine u_callV (n := 0) C w hw (hP _ _ (isn_f rfl rfl (by decide))) rfl rfl rfl (c_X3_grip l D K b0 sa _ L _ ad P hP S17 hw hn  v19 S20 h21) gw_421 gw_418 gw_419 gw_420 gw_6 ⟨by decide, by decide, by decide +kernel⟩ rfl rfl ⟨by decide, by decide⟩ rfl hl.1 rfl (Nat.le_of_ble_eq_true rfl) dX6_guess_70 ⟨Nat.le_of_ble_eq_true rfl, Nat.le_of_ble_eq_true rfl⟩ (fun v9 u H locs hp w => ?_)
        obtain ⟨f2, rfl, rfl, hw, hn, hk1⟩ := hp
        have hk := hk.tr hk1
        generalize f2 = f at w hw hk
        refine lv_aload_n hx hb dX6_guess_73 rfl (lv_at hl 0 rfl) ?_
        refine u_getr C w hw (hP _ _ (isn_f rfl rfl (by decide))) rfl (N := 18) rfl rfl cin_6 14 (by decide) (by decide) (a2 := 22) (i2 := 0) rfl gw_301 dX6_guess_74 ?_
        obtain ⟨v22, S23, h24, h⟩ := bd_some h
        refine u_callV (n := 0) C w hw (hP _ _ (isn_f rfl rfl (by decide))) rfl rfl rfl (c_X3_slip l D K b0 sa _ L _ ad P hP S20 hw hn  v22 S23 h24) gw_425 gw_422 gw_423 gw_424 gw_6 ⟨by decide, by decide, by decide +kernel⟩ rfl rfl ⟨by decide, by decide⟩ rfl hl.1 rfl (Nat.le_of_ble_eq_true rfl) dX6_guess_77 ⟨Nat.le_of_ble_eq_true rfl, Nat.le_of_ble_eq_true rfl⟩ (fun v9 u H locs hp w => ?_)
        obtain ⟨f2, rfl, rfl, hw, hn, hk1⟩ := hp
        have hk := hk.tr hk1
        generalize f2 = f at w hw hk
        obtain ⟨v25, S26, h27, h⟩ := bd_some h
        refine u_callV (n := 4) C w hw (hP _ _ (isn_f rfl rfl (by decide))) rfl rfl rfl (c_X6_pays l D K b0 sa _ L _ ad P hP S23 hw hn hprobe 0 (by decide) a1 v19 v22 v25 S26 h27) gw_1027 gw_1024 gw_1026 gs_17 gw_1 ⟨by decide, by decide, by decide +kernel⟩ rfl rfl ⟨by decide, by decide⟩ rfl hl.1 rfl (Nat.le_of_ble_eq_true rfl) dX6_guess_80 ⟨Nat.le_of_ble_eq_true rfl, Nat.le_of_ble_eq_true rfl⟩ (fun v9 u H locs hp w => ?_)
        obtain ⟨f2, rfl, rfl, hw, hn, hk1⟩ := hp
        have hk := hk.tr hk1
        generalize f2 = f at w hw hk
        refine lv_if_eq (tgt := 90) hx hb dX6_guess_83 (by decide) (fun c28 => ?_) (fun c28 => ?_)
        · have h := bb_t h c28
          refine lv_iconst (v := 0) hx hb dX6_guess_90 (by decide) ?_
          exact J91 k8 hk8 a1 a3 0 a2 S26 h f H locs w hw hn hk ls (lv_sub hl [0, 1, 3] rfl)
        · have h := bb_f h c28
          refine lv_iconst (v := 1) hx hb dX6_guess_86 (by decide) ?_
          refine lv_goto (tgt := 91) hx hb dX6_guess_87 (by decide) ?_
          exact J91 k8 hk8 a1 a3 1 a2 S26 h f H locs w hw hn hk ls (lv_sub hl [0, 1, 3] rfl)
  dsimp only [F_X6_guess] at h
  obtain ⟨f, ef⟩ : ∃ z, z = f0 := ⟨_, rfl⟩
  rw [← ef] at w hw
  have hk : Kp ad P L f0 f := by rw [ef]; exact Kp.rf
  obtain ⟨H, eH⟩ : ∃ z, z = s.heap := ⟨_, rfl⟩
  obtain ⟨locs, el⟩ : ∃ z : List Loc, z = [] := ⟨_, rfl⟩
  rw [← eH, ← el] at w ⊢
  refine lv_iload_n hx hb dX6_guess_0 rfl (lv_at hl 1 rfl) ?_
  rcases bx_some h with ⟨v29, S30, h31, h⟩ | ⟨e32, v29, S30, h31, h⟩
  rotate_left
  · refine t_xcallS (n := 1) C w (c_X6_needCell l hls D K b0 sa _ L _ ad P hP S0 hw hn p1 (e32 + 1) v29 S30 h31) gw_554 gw_552 gw_553 gw_1 ⟨by decide, by decide, by decide +kernel⟩ rfl rfl ⟨by decide, by decide⟩ rfl hl.1 rfl (Nat.le_of_ble_eq_true rfl) dX6_guess_1 ⟨Nat.le_of_ble_eq_true rfl, Nat.le_of_ble_eq_true rfl⟩ (fun E ce q9 u H locs hp w hcell hv0 hcl => ?_) (fun v9 u H locs hp w => absurd hp.1 (Nat.succ_ne_zero _))
    obtain ⟨⟨he, hE⟩, f2, rfl, hw, hn, hk1⟩ := hp
    exact t_xout w htb hlk hcell hv0 hcl ⟨sz_e h he hE, _, rfl, sz_w h hw, sz_n h hn, hk.tr hk1⟩ (by decide) (by decide)
  refine t_xcallS (n := 1) C w (c_X6_needCell l hls D K b0 sa _ L _ ad P hP S0 hw hn p1 0 v29 S30 h31) gw_554 gw_552 gw_553 gw_1 ⟨by decide, by decide, by decide +kernel⟩ rfl rfl ⟨by decide, by decide⟩ rfl hl.1 rfl (Nat.le_of_ble_eq_true rfl) dX6_guess_1 ⟨Nat.le_of_ble_eq_true rfl, Nat.le_of_ble_eq_true rfl⟩ (fun E ce q9 u H locs hp w hcell hv0 hcl => absurd rfl hp.1.1) (fun v9 u H locs hp w => ?_)
  obtain ⟨-, rfl, f2, rfl, hw, hn, hk1⟩ := hp
  have hk := hk.tr hk1
  generalize f2 = f at w hw hk
  refine lv_iconst (v := 0) hx hb dX6_guess_4 (by decide) ?_
  refine lv_istore_n (lv' := [(2, .int 0), (0, .ref (ad 0 0)), (1, .int p1)]) hx hb dX6_guess_5 rfl hl (by decide) rfl (fun ls hl => ?_)
  refine lv_iconst (v := 0) hx hb dX6_guess_6 (by decide) ?_
  refine lv_istore_n (lv' := [(3, .int 0), (2, .int 0), (0, .ref (ad 0 0)), (1, .int p1)]) hx hb dX6_guess_7 rfl hl (by decide) rfl (fun ls hl => ?_)
  exact J8  fuel p1 0 0 S30 h f H locs w hw hn hk ls (lv_sub hl [2, 3, 1, 0] rfl)
