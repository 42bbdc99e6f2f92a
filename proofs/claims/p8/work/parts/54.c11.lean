theorem dX6_tellLots_0 : decode cX6_tellLots 0 = .ok (.aload_n 0, 1) := by decide +kernel
theorem dX6_tellLots_1 : decode cX6_tellLots 1 = .ok (.invokevirtual 182, 3) := by decide +kernel
theorem dX6_tellLots_4 : decode cX6_tellLots 4 = .ok (.astore_n 1, 1) := by decide +kernel
theorem dX6_tellLots_5 : decode cX6_tellLots 5 = .ok (.aload_n 0, 1) := by decide +kernel
theorem dX6_tellLots_6 : decode cX6_tellLots 6 = .ok (.getfield 75, 3) := by decide +kernel
theorem dX6_tellLots_9 : decode cX6_tellLots 9 = .ok (.aload_n 0, 1) := by decide +kernel
theorem dX6_tellLots_10 : decode cX6_tellLots 10 = .ok (.getfield 10, 3) := by decide +kernel
theorem dX6_tellLots_13 : decode cX6_tellLots 13 = .ok (.invokevirtual 178, 3) := by decide +kernel
theorem dX6_tellLots_16 : decode cX6_tellLots 16 = .ok (.aload_n 0, 1) := by decide +kernel
theorem dX6_tellLots_17 : decode cX6_tellLots 17 = .ok (.getfield 68, 3) := by decide +kernel
theorem dX6_tellLots_20 : decode cX6_tellLots 20 = .ok (.aload_n 1, 1) := by decide +kernel
theorem dX6_tellLots_21 : decode cX6_tellLots 21 = .ok (.aload_n 0, 1) := by decide +kernel
theorem dX6_tellLots_22 : decode cX6_tellLots 22 = .ok (.getfield 75, 3) := by decide +kernel
theorem dX6_tellLots_25 : decode cX6_tellLots 25 = .ok (.iconst 0, 1) := by decide +kernel
theorem dX6_tellLots_26 : decode cX6_tellLots 26 = .ok (.invokevirtual 186, 3) := by decide +kernel
theorem dX6_tellLots_29 : decode cX6_tellLots 29 = .ok (.aload_n 0, 1) := by decide +kernel
theorem dX6_tellLots_30 : decode cX6_tellLots 30 = .ok (.getfield 68, 3) := by decide +kernel
theorem dX6_tellLots_33 : decode cX6_tellLots 33 = .ok (.invokevirtual 196, 3) := by decide +kernel
theorem dX6_tellLots_36 : decode cX6_tellLots 36 = .ok (.istore_n 2, 1) := by decide +kernel
theorem dX6_tellLots_37 : decode cX6_tellLots 37 = .ok (.iconst 0, 1) := by decide +kernel
theorem dX6_tellLots_38 : decode cX6_tellLots 38 = .ok (.istore_n 3, 1) := by decide +kernel
theorem dX6_tellLots_39 : decode cX6_tellLots 39 = .ok (.iload_n 3, 1) := by decide +kernel
theorem dX6_tellLots_40 : decode cX6_tellLots 40 = .ok (.iload_n 2, 1) := by decide +kernel
theorem dX6_tellLots_41 : decode cX6_tellLots 41 = .ok (.if_icmp .ge 54, 3) := by decide +kernel
theorem dX6_tellLots_44 : decode cX6_tellLots 44 = .ok (.iload_n 3, 1) := by decide +kernel
theorem dX6_tellLots_45 : decode cX6_tellLots 45 = .ok (.bipush 36, 2) := by decide +kernel
theorem dX6_tellLots_47 : decode cX6_tellLots 47 = .ok (.if_icmp .ge 48, 3) := by decide +kernel
theorem dX6_tellLots_50 : decode cX6_tellLots 50 = .ok (.aload_n 0, 1) := by decide +kernel
theorem dX6_tellLots_51 : decode cX6_tellLots 51 = .ok (.getfield 68, 3) := by decide +kernel
theorem dX6_tellLots_54 : decode cX6_tellLots 54 = .ok (.aload_n 1, 1) := by decide +kernel
theorem dX6_tellLots_55 : decode cX6_tellLots 55 = .ok (.aload_n 0, 1) := by decide +kernel
theorem dX6_tellLots_56 : decode cX6_tellLots 56 = .ok (.getfield 75, 3) := by decide +kernel
theorem dX6_tellLots_59 : decode cX6_tellLots 59 = .ok (.iload_n 3, 1) := by decide +kernel
theorem dX6_tellLots_60 : decode cX6_tellLots 60 = .ok (.invokevirtual 186, 3) := by decide +kernel
theorem dX6_tellLots_63 : decode cX6_tellLots 63 = .ok (.aload_n 0, 1) := by decide +kernel
theorem dX6_tellLots_64 : decode cX6_tellLots 64 = .ok (.getfield 79, 3) := by decide +kernel
theorem dX6_tellLots_67 : decode cX6_tellLots 67 = .ok (.iload_n 3, 1) := by decide +kernel
theorem dX6_tellLots_68 : decode cX6_tellLots 68 = .ok (.aload_n 0, 1) := by decide +kernel
theorem dX6_tellLots_69 : decode cX6_tellLots 69 = .ok (.getfield 68, 3) := by decide +kernel
theorem dX6_tellLots_72 : decode cX6_tellLots 72 = .ok (.invokevirtual 190, 3) := by decide +kernel
theorem dX6_tellLots_75 : decode cX6_tellLots 75 = .ok (.iastore, 1) := by decide +kernel
theorem dX6_tellLots_76 : decode cX6_tellLots 76 = .ok (.aload_n 0, 1) := by decide +kernel
theorem dX6_tellLots_77 : decode cX6_tellLots 77 = .ok (.getfield 82, 3) := by decide +kernel
theorem dX6_tellLots_80 : decode cX6_tellLots 80 = .ok (.iload_n 3, 1) := by decide +kernel
theorem dX6_tellLots_81 : decode cX6_tellLots 81 = .ok (.aload_n 0, 1) := by decide +kernel
theorem dX6_tellLots_82 : decode cX6_tellLots 82 = .ok (.getfield 68, 3) := by decide +kernel
theorem dX6_tellLots_85 : decode cX6_tellLots 85 = .ok (.invokevirtual 193, 3) := by decide +kernel
theorem dX6_tellLots_88 : decode cX6_tellLots 88 = .ok (.iastore, 1) := by decide +kernel
theorem dX6_tellLots_89 : decode cX6_tellLots 89 = .ok (.iinc 3 1, 3) := by decide +kernel
theorem dX6_tellLots_92 : decode cX6_tellLots 92 = .ok (.goto (-53), 3) := by decide +kernel
theorem dX6_tellLots_95 : decode cX6_tellLots 95 = .ok (.iload_n 2, 1) := by decide +kernel
theorem dX6_tellLots_96 : decode cX6_tellLots 96 = .ok (.ireturn, 1) := by decide +kernel
noncomputable def B_X6_tellLots_39 (k39 : (Option Nat × Int32 × Int32) → fS → Option (Int32 × fS)) : (Option Nat × Int32 × Int32) → fS → Option (Int32 × fS) := fun ⟨a1, a2, a3⟩ S => bb (a2 ≤ a3) (some (a2, S)) (bb ((36 : Int32) ≤ a3) (some (a2, S)) (bd (F_X3_run a1 0 a3 S) (fun v3 S4 => bd (F_X3_grip  S4) (fun v6 S7 => gd (ib a3 36) (sv (pu S7 27 0 (a3 : Int32).toNatClampNeg v6) (fun S10 => bd (F_X3_slip  S10) (fun v11 S12 => gd (ib a3 36) (sv (pu S12 28 0 (a3 : Int32).toNatClampNeg v11) (fun S15 => iv (a3 + Int32.ofInt 1) (fun x16 => k39 (a1, a2, x16) S15))))))))))
noncomputable def F_X6_tellLots  (S0 : fS) : Option (Int32 × fS) := bd (F_X6_codeInForce  S0) (fun v17 S18 => bd (F_X5_nameNext 0 0 S18) (fun v20 S21 => bd (F_X3_run v17 0 0 S21) (fun v23 S24 => bd (F_X3_lots  S24) (fun v26 S27 => lp (B_X6_tellLots_39 ) fuel (v17, v26, 0) S27))))
set_option maxHeartbeats 4000000 in
set_option maxRecDepth 100000 in
theorem c_X6_tellLots (l : Launch) (D : va_G) (K : Nat → ClassId) (b0 : Nat) (sa : sT) (sz : Nat) (L : List Nat) (f0 : Nat → va_E) (ad : Nat → Nat → Nat) (P : Nat → Nat → Prop) {n : Nat × Nat} (hP : ∀ a i : Nat, isn n a i → P a i) (S0 : fS) (hw : PW K ad P S0 L f0) (hn : S0.2.2.1 = n) (hprobe : 0 < n.1)  (v : Int32) (S1 : fS) (h : F_X6_tellLots  S0 = some (v, S1)) : Met l yX6_tellLots (.code yX6_tellLots cX6_tellLots 4 (some .int) :: gt) { frames := 4, cells := 0, slots := 0, locals := 87 } (va_Pc [.ref (ad 0 0)] (hPre D K b0 sa sz L f0)) (hQ D K b0 (fun v9 u9 => ∃ f2 : Nat → va_E, v9 = some (.int v) ∧ u9 = lU L f2 ∧ PW K ad P S1 L f2 ∧ S1.2.2.1 = n ∧ Kp ad P L f0 f2)) 0 0 (fun q => b0 ≤ q) := by
  refine t_of (own := RX6) (by decide) rfl ?_ (Nat.le_of_ble_eq_true rfl)
  intro p e s m below meth c ls C w hsz hr hlk hnm hl
  have hx := C.1
  have hb := C.2.1
  have hl : lv_has ls 4 [(0, .ref (ad 0 0))] := hl
  have J39 : ∀ (fu : Nat) (a1 : Option Nat) (a2 : Int32) (a3 : Int32) (S : fS), lp (B_X6_tellLots_39 ) fu (a1, a2, a3) S = some (v, S1) → Gw D K b0 sa ad P n L f0 p l e { frames := 4, cells := 0, slots := 0, locals := 87 } s m [.ref (ad 0 0)].toArray below meth c 4 (MQ below (hQ D K b0 (fun v9 u9 => ∃ f2 : Nat → va_E, v9 = some (.int v) ∧ u9 = lU L f2 ∧ PW K ad P S1 L f2 ∧ S1.2.2.1 = n ∧ Kp ad P L f0 f2)) [.ref (ad 0 0)].toArray s 0 0 (fun q => b0 ≤ q)) 0 0 39 [(0, .ref (ad 0 0)), (1, va_rf (a1.map (ad 29))), (2, .int a2), (3, .int a3)] [] S := by
    intro fu a1 a2 a3 S h
    refine lp_some (G := (fun q S => Gw D K b0 sa ad P n L f0 p l e { frames := 4, cells := 0, slots := 0, locals := 87 } s m [.ref (ad 0 0)].toArray below meth c 4 (MQ below (hQ D K b0 (fun v9 u9 => ∃ f2 : Nat → va_E, v9 = some (.int v) ∧ u9 = lU L f2 ∧ PW K ad P S1 L f2 ∧ S1.2.2.1 = n ∧ Kp ad P L f0 f2)) [.ref (ad 0 0)].toArray s 0 0 (fun q => b0 ≤ q)) 0 0 39 [(0, .ref (ad 0 0)), (1, va_rf (q.1.map (ad 29))), (2, .int q.2.1), (3, .int q.2.2)] [] S)) (fun k39 hk39 q S h => ?_) fu (a1, a2, a3) S h
    obtain ⟨a1, a2, a3⟩ := q
    have hk39 : ∀ (a1 : Option Nat) (a2 : Int32) (a3 : Int32) (S : fS), k39 (a1, a2, a3) S = some (v, S1) → Gw D K b0 sa ad P n L f0 p l e { frames := 4, cells := 0, slots := 0, locals := 87 } s m [.ref (ad 0 0)].toArray below meth c 4 (MQ below (hQ D K b0 (fun v9 u9 => ∃ f2 : Nat → va_E, v9 = some (.int v) ∧ u9 = lU L f2 ∧ PW K ad P S1 L f2 ∧ S1.2.2.1 = n ∧ Kp ad P L f0 f2)) [.ref (ad 0 0)].toArray s 0 0 (fun q => b0 ≤ q)) 0 0 39 [(0, .ref (ad 0 0)), (1, va_rf (a1.map (ad 29))), (2, .int a2), (3, .int a3)] [] S := fun a1 a2 a3 S h => hk39 (a1, a2, a3) S h
    dsimp only [B_X6_tellLots_39] at h
    intro f H locs w hw hn hk ls hl
    refine lv_iload_n hx hb dX6_tellLots_39 rfl (lv_at hl 3 rfl) ?_
    refine lv_iload_n hx hb dX6_tellLots_40 rfl (lv_at hl 2 rfl) ?_
    refine lv_icmp_ge (tgt := 95) hx hb dX6_tellLots_41 (by decide) (fun c1 => ?_) (fun c1 => ?_)
    · have h := bb_t h c1
      refine lv_iload_n hx hb dX6_tellLots_95 rfl (lv_at hl 2 rfl) ?_
      exact t_iret C hr hlk w ⟨_, so_v h, rfl, so_w h hw, so_n h hn, hk⟩ (by decide) (by decide) dX6_tellLots_96
    · have h := bb_f h c1
      refine lv_iload_n hx hb dX6_tellLots_44 rfl (lv_at hl 3 rfl) ?_
      refine lv_bipush (v := 36) hx hb dX6_tellLots_45 (by decide) ?_
      refine lv_icmp_ge (tgt := 95) hx hb dX6_tellLots_47 (by decide) (fun c2 => ?_) (fun c2 => ?_)
      · have h := bb_t h c2
        refine lv_iload_n hx hb dX6_tellLots_95 rfl (lv_at hl 2 rfl) ?_
        exact t_iret C hr hlk w ⟨_, so_v h, rfl, so_w h hw, so_n h hn, hk⟩ (by decide) (by decide) dX6_tellLots_96
      · have h := bb_f h c2
        refine lv_aload_n hx hb dX6_tellLots_50 rfl (lv_at hl 0 rfl) ?_
        refine u_getr C w hw (hP _ _ (isn_f rfl rfl (by decide))) rfl (N := 18) rfl rfl cin_6 14 (by decide) (by decide) (a2 := 22) (i2 := 0) rfl gw_301 dX6_tellLots_51 ?_
        refine lv_aload_nQ hx hb dX6_tellLots_54 rfl (lv_at hl 1 rfl) ?_
        refine lv_aload_n hx hb dX6_tellLots_55 rfl (lv_at hl 0 rfl) ?_
        refine u_getr C w hw (hP _ _ (isn_f rfl rfl (by decide))) rfl (N := 18) rfl rfl cin_6 15 (by decide) (by decide) (a2 := 25) (i2 := 0) rfl gw_302 dX6_tellLots_56 ?_
        refine lv_iload_n hx hb dX6_tellLots_59 rfl (lv_at hl 3 rfl) ?_
        obtain ⟨v3, S4, h5, h⟩ := bd_some h
        refine u_callV (n := 3) C w hw (hP _ _ (isn_f rfl rfl (by decide))) rfl rfl rfl (c_X3_run l D K b0 sa _ L _ ad P hP S hw hn a1 0 hprobe a3 v3 S4 h5) gw_384 gw_381 gw_382 gw_383 gw_6 ⟨by decide, by decide, by decide +kernel⟩ rfl rfl ⟨by decide, by decide⟩ rfl hl.1 rfl (Nat.le_of_ble_eq_true rfl) dX6_tellLots_60 ⟨Nat.le_of_ble_eq_true rfl, Nat.le_of_ble_eq_true rfl⟩ (fun v9 u H locs hp w => ?_)
        obtain ⟨f2, rfl, rfl, hw, hn, hk1⟩ := hp
        have hk := hk.tr hk1
        generalize f2 = f at w hw hk
        refine lv_aload_n hx hb dX6_tellLots_63 rfl (lv_at hl 0 rfl) ?_
        refine u_getr C w hw (hP _ _ (isn_f rfl rfl (by decide))) rfl (N := 18) rfl rfl cin_6 16 (by decide) (by decide) (a2 := 27) (i2 := 0) rfl gw_303 dX6_tellLots_64 ?_
        refine lv_iload_n hx hb dX6_tellLots_67 rfl (lv_at hl 3 rfl) ?_
        refine lv_aload_n hx hb dX6_tellLots_68 rfl (lv_at hl 0 rfl) ?_
        refine u_getr C w hw (hP _ _ (isn_f rfl rfl (by decide))) rfl (N := 18) rfl rfl cin_6 14 (by decide) (by decide) (a2 := 22) (i2 := 0) rfl gw_301 dX6_tellLots_69 ?_
        obtain ⟨v6, S7, h8, h⟩ := bd_some h
        refine u_callV (n := 0) C w hw (hP _ _ (isn_f rfl rfl (by decide))) rfl rfl rfl (c_X3_grip l D K b0 sa _ L _ ad P hP S4 hw hn  v6 S7 h8) gw_421 gw_418 gw_419 gw_420 gw_6 ⟨by decide, by decide, by decide +kernel⟩ rfl rfl ⟨by decide, by decide⟩ rfl hl.1 rfl (Nat.le_of_ble_eq_true rfl) dX6_tellLots_72 ⟨Nat.le_of_ble_eq_true rfl, Nat.le_of_ble_eq_true rfl⟩ (fun v9 u H locs hp w => ?_)
        obtain ⟨f2, rfl, rfl, hw, hn, hk1⟩ := hp
        have hk := hk.tr hk1
        generalize f2 = f at w hw hk
        obtain ⟨g9, h⟩ := gd_some h
        refine u_iast C w hw (hP _ _ (isn_f rfl rfl (by decide))) rfl rfl (n := 36) rfl (vp_in_iff.mpr g9) dX6_tellLots_75 (fun f H locs w hw hk1 => ?_)
        have hk := hk.tr hk1
        refine u_sv h hw hn (fun S10 h hw hn => ?_)
        refine lv_aload_n hx hb dX6_tellLots_76 rfl (lv_at hl 0 rfl) ?_
        refine u_getr C w hw (hP _ _ (isn_f rfl rfl (by decide))) rfl (N := 18) rfl rfl cin_6 17 (by decide) (by decide) (a2 := 28) (i2 := 0) rfl gw_304 dX6_tellLots_77 ?_
        refine lv_iload_n hx hb dX6_tellLots_80 rfl (lv_at hl 3 rfl) ?_
        refine lv_aload_n hx hb dX6_tellLots_81 rfl (lv_at hl 0 rfl) ?_
        refine u_getr C w hw (hP _ _ (isn_f rfl rfl (by decide))) rfl (N := 18) rfl rfl cin_6 14 (by decide) (by decide) (a2 := 22) (i2 := 0) rfl gw_301 dX6_tellLots_82 ?_
        obtain ⟨v11, S12, h13, h⟩ := bd_some h
        refine u_callV (n := 0) C w hw (hP _ _ (isn_f rfl rfl (by decide))) rfl rfl rfl (c_X3_slip l D K b0 sa _ L _ ad P hP S10 hw hn  v11 S12 h13) gw_425 gw_422 gw_423 gw_424 gw_6 ⟨by decide, by decide, by decide +kernel⟩ rfl rfl ⟨by decide, by decide⟩ rfl hl.1 rfl (Nat.le_of_ble_eq_true rfl) dX6_tellLots_85 ⟨Nat.le_of_ble_eq_true rfl, Nat.le_of_ble_eq_true rfl⟩ (fun v9 u H locs hp w => ?_)
        obtain ⟨f2, rfl, rfl, hw, hn, hk1⟩ := hp
        have hk := hk.tr hk1
        generalize f2 = f at w hw hk
        obtain ⟨g14, h⟩ := gd_some h
        refine u_iast C w hw (hP _ _ (isn_f rfl rfl (by decide))) rfl rfl (n := 36) rfl (vp_in_iff.mpr g14) dX6_tellLots_88 (fun f H locs w hw hk1 => ?_)
        have hk := hk.tr hk1
        refine u_sv h hw hn (fun S15 h hw hn => ?_)
        obtain ⟨x16, ex16, h⟩ := iv_some h
        refine lv_iinc (v := x16) (lv' := [(3, .int x16), (0, .ref (ad 0 0)), (1, va_rf (a1.map (ad 29))), (2, .int a2)]) hx hb dX6_tellLots_89 hl (k := 3) rfl ex16.symm (by decide) (by cases a1 <;> rfl) (fun ls hl => ?_)
        refine lv_goto (tgt := 39) hx hb dX6_tellLots_92 (by decide) ?_
        exact hk39 a1 a2 x16 S15 h f H locs w hw hn hk ls (lv_sub hl [1, 2, 3, 0] rfl)
  dsimp only [F_X6_tellLots] at h
  obtain ⟨f, ef⟩ : ∃ z, z = f0 := ⟨_, rfl⟩
  rw [← ef] at w hw
  have hk : Kp ad P L f0 f := by rw [ef]; exact Kp.rf
  obtain ⟨H, eH⟩ : ∃ z, z = s.heap := ⟨_, rfl⟩
  obtain ⟨locs, el⟩ : ∃ z : List Loc, z = [] := ⟨_, rfl⟩
  rw [← eH, ← el] at w ⊢
  refine lv_aload_n hx hb dX6_tellLots_0 rfl (lv_at hl 0 rfl) ?_
  obtain ⟨v17, S18, h19, h⟩ := bd_some h
  refine u_callV (n := 0) C w hw (hP _ _ (isn_f rfl rfl (by decide))) rfl rfl rfl (c_X6_codeInForce l D K b0 sa _ L _ ad P hP S0 hw hn  v17 S18 h19) gw_373 gw_370 gw_372 gs_3 gw_1 ⟨by decide, by decide, by decide +kernel⟩ rfl rfl ⟨by decide, by decide⟩ rfl hl.1 rfl (Nat.le_of_ble_eq_true rfl) dX6_tellLots_1 ⟨Nat.le_of_ble_eq_true rfl, Nat.le_of_ble_eq_true rfl⟩ (fun v9 u H locs hp w => ?_)
  obtain ⟨f2, rfl, rfl, hw, hn, hk1⟩ := hp
  have hk := hk.tr hk1
  generalize f2 = f at w hw hk
  refine lv_astore_nQ (lv' := [(1, va_rf (v17.map (ad 29))), (0, .ref (ad 0 0))]) hx hb dX6_tellLots_4 rfl hl (by decide) (by cases v17 <;> rfl) (fun ls hl => ?_)
  refine lv_aload_n hx hb dX6_tellLots_5 rfl (lv_at hl 1 rfl) ?_
  refine u_getr C w hw (hP _ _ (isn_f rfl rfl (by decide))) rfl (N := 18) rfl rfl cin_6 15 (by decide) (by decide) (a2 := 25) (i2 := 0) rfl gw_302 dX6_tellLots_6 ?_
  refine lv_aload_n hx hb dX6_tellLots_9 rfl (lv_at hl 1 rfl) ?_
  refine u_getr C w hw (hP _ _ (isn_f rfl rfl (by decide))) rfl (N := 18) rfl rfl cin_6 0 (by decide) (by decide) (a2 := 1) (i2 := 0) rfl gw_287 dX6_tellLots_10 ?_
  obtain ⟨v20, S21, h22, h⟩ := bd_some h
  refine u_callV (n := 1) C w hw (hP _ _ (isn_t25 hprobe)) rfl rfl rfl (c_X5_nameNext l D K b0 sa _ L _ ad P hP S18 hw hn 0 hprobe 0 (by decide) v20 S21 h22) gw_380 gw_377 gw_378 gw_379 gw_7 ⟨by decide, by decide, by decide +kernel⟩ rfl rfl ⟨by decide, by decide⟩ rfl hl.1 rfl (Nat.le_of_ble_eq_true rfl) dX6_tellLots_13 ⟨Nat.le_of_ble_eq_true rfl, Nat.le_of_ble_eq_true rfl⟩ (fun v9 u H locs hp w => ?_)
  obtain ⟨f2, rfl, rfl, hw, hn, hk1⟩ := hp
  have hk := hk.tr hk1
  generalize f2 = f at w hw hk
  refine lv_aload_n hx hb dX6_tellLots_16 rfl (lv_at hl 1 rfl) ?_
  refine u_getr C w hw (hP _ _ (isn_f rfl rfl (by decide))) rfl (N := 18) rfl rfl cin_6 14 (by decide) (by decide) (a2 := 22) (i2 := 0) rfl gw_301 dX6_tellLots_17 ?_
  refine lv_aload_nQ hx hb dX6_tellLots_20 rfl (lv_at hl 0 rfl) ?_
  refine lv_aload_n hx hb dX6_tellLots_21 rfl (lv_at hl 1 rfl) ?_
  refine u_getr C w hw (hP _ _ (isn_f rfl rfl (by decide))) rfl (N := 18) rfl rfl cin_6 15 (by decide) (by decide) (a2 := 25) (i2 := 0) rfl gw_302 dX6_tellLots_22 ?_
  refine lv_iconst (v := 0) hx hb dX6_tellLots_25 (by decide) ?_
  obtain ⟨v23, S24, h25, h⟩ := bd_some h
  refine u_callV (n := 3) C w hw (hP _ _ (isn_f rfl rfl (by decide))) rfl rfl rfl (c_X3_run l D K b0 sa _ L _ ad P hP S21 hw hn v17 0 hprobe 0 v23 S24 h25) gw_384 gw_381 gw_382 gw_383 gw_6 ⟨by decide, by decide, by decide +kernel⟩ rfl rfl ⟨by decide, by decide⟩ rfl hl.1 rfl (Nat.le_of_ble_eq_true rfl) dX6_tellLots_26 ⟨Nat.le_of_ble_eq_true rfl, Nat.le_of_ble_eq_true rfl⟩ (fun v9 u H locs hp w => ?_)
  obtain ⟨f2, rfl, rfl, hw, hn, hk1⟩ := hp
  have hk := hk.tr hk1
  generalize f2 = f at w hw hk
  refine lv_aload_n hx hb dX6_tellLots_29 rfl (lv_at hl 1 rfl) ?_
  refine u_getr C w hw (hP _ _ (isn_f rfl rfl (by decide))) rfl (N := 18) rfl rfl cin_6 14 (by decide) (by decide) (a2 := 22) (i2 := 0) rfl gw_301 dX6_tellLots_30 ?_
  obtain ⟨v26, S27, h28, h⟩ := bd_some h
  refine u_callV (n := 0) C w hw (hP _ _ (isn_f rfl rfl (by decide))) rfl rfl rfl (c_X3_lots l D K b0 sa _ L _ ad P hP S24 hw hn  v26 S27 h28) gw_417 gw_414 gw_415 gw_416 gw_6 ⟨by decide, by decide, by decide +kernel⟩ rfl rfl ⟨by decide, by decide⟩ rfl hl.1 rfl (Nat.le_of_ble_eq_true rfl) dX6_tellLots_33 ⟨Nat.le_of_ble_eq_true rfl, Nat.le_of_ble_eq_true rfl⟩ (fun v9 u H locs hp w => ?_)
  obtain ⟨f2, rfl, rfl, hw, hn, hk1⟩ := hp
  have hk := hk.tr hk1
  generalize f2 = f at w hw hk
  refine lv_istore_n (lv' := [(2, .int v26), (1, va_rf (v17.map (ad 29))), (0, .ref (ad 0 0))]) hx hb dX6_tellLots_36 rfl hl (by decide) (by cases v17 <;> rfl) (fun ls hl => ?_)
  refine lv_iconst (v := 0) hx hb dX6_tellLots_37 (by decide) ?_
  refine lv_istore_n (lv' := [(3, .int 0), (2, .int v26), (1, va_rf (v17.map (ad 29))), (0, .ref (ad 0 0))]) hx hb dX6_tellLots_38 rfl hl (by decide) (by cases v17 <;> rfl) (fun ls hl => ?_)
  exact J39  fuel v17 v26 0 S27 h f H locs w hw hn hk ls (lv_sub hl [3, 2, 1, 0] rfl)
theorem dX6_leastPaying_0 : decode cX6_leastPaying 0 = .ok (.aload_n 0, 1) := by decide +kernel
theorem dX6_leastPaying_1 : decode cX6_leastPaying 1 = .ok (.invokevirtual 355, 3) := by decide +kernel
theorem dX6_leastPaying_4 : decode cX6_leastPaying 4 = .ok (.istore_n 2, 1) := by decide +kernel
theorem dX6_leastPaying_5 : decode cX6_leastPaying 5 = .ok (.iconst 0, 1) := by decide +kernel
theorem dX6_leastPaying_6 : decode cX6_leastPaying 6 = .ok (.istore_n 3, 1) := by decide +kernel
theorem dX6_leastPaying_7 : decode cX6_leastPaying 7 = .ok (.iload_n 3, 1) := by decide +kernel
theorem dX6_leastPaying_8 : decode cX6_leastPaying 8 = .ok (.bipush 64, 2) := by decide +kernel
theorem dX6_leastPaying_10 : decode cX6_leastPaying 10 = .ok (.if_icmp .ge 44, 3) := by decide +kernel
theorem dX6_leastPaying_13 : decode cX6_leastPaying 13 = .ok (.aload_n 0, 1) := by decide +kernel
theorem dX6_leastPaying_14 : decode cX6_leastPaying 14 = .ok (.getfield 75, 3) := by decide +kernel
theorem dX6_leastPaying_17 : decode cX6_leastPaying 17 = .ok (.aload_n 0, 1) := by decide +kernel
theorem dX6_leastPaying_18 : decode cX6_leastPaying 18 = .ok (.getfield 10, 3) := by decide +kernel
theorem dX6_leastPaying_21 : decode cX6_leastPaying 21 = .ok (.iload_n 3, 1) := by decide +kernel
theorem dX6_leastPaying_22 : decode cX6_leastPaying 22 = .ok (.invokevirtual 234, 3) := by decide +kernel
theorem dX6_leastPaying_25 : decode cX6_leastPaying 25 = .ok (.aload_n 0, 1) := by decide +kernel
theorem dX6_leastPaying_26 : decode cX6_leastPaying 26 = .ok (.getfield 75, 3) := by decide +kernel
theorem dX6_leastPaying_29 : decode cX6_leastPaying 29 = .ok (.getfield 345, 3) := by decide +kernel
theorem dX6_leastPaying_32 : decode cX6_leastPaying 32 = .ok (.bipush 6, 2) := by decide +kernel
theorem dX6_leastPaying_34 : decode cX6_leastPaying 34 = .ok (.if_icmp .ne 14, 3) := by decide +kernel
theorem dX6_leastPaying_37 : decode cX6_leastPaying 37 = .ok (.aload_n 0, 1) := by decide +kernel
theorem dX6_leastPaying_38 : decode cX6_leastPaying 38 = .ok (.iload_n 2, 1) := by decide +kernel
theorem dX6_leastPaying_39 : decode cX6_leastPaying 39 = .ok (.iload_n 1, 1) := by decide +kernel
theorem dX6_leastPaying_40 : decode cX6_leastPaying 40 = .ok (.invokevirtual 358, 3) := by decide +kernel
theorem dX6_leastPaying_43 : decode cX6_leastPaying 43 = .ok (.ifCond .eq 5, 3) := by decide +kernel
theorem dX6_leastPaying_46 : decode cX6_leastPaying 46 = .ok (.iload_n 3, 1) := by decide +kernel
theorem dX6_leastPaying_47 : decode cX6_leastPaying 47 = .ok (.ireturn, 1) := by decide +kernel
theorem dX6_leastPaying_48 : decode cX6_leastPaying 48 = .ok (.iinc 3 1, 3) := by decide +kernel
theorem dX6_leastPaying_51 : decode cX6_leastPaying 51 = .ok (.goto (-44), 3) := by decide +kernel
theorem dX6_leastPaying_54 : decode cX6_leastPaying 54 = .ok (.iconst (-1), 1) := by decide +kernel
theorem dX6_leastPaying_55 : decode cX6_leastPaying 55 = .ok (.ireturn, 1) := by decide +kernel
noncomputable def B_X6_leastPaying_48 (k7 : (Int32 × Int32 × Int32) → fS → Option (Int32 × fS)) (a1 : Int32) (a2 : Int32) (a3 : Int32) (S : fS) : Option (Int32 × fS) := iv (a3 + Int32.ofInt 1) (fun x1 => k7 (a1, a2, x1) S)
noncomputable def B_X6_leastPaying_7 (k7 : (Int32 × Int32 × Int32) → fS → Option (Int32 × fS)) : (Int32 × Int32 × Int32) → fS → Option (Int32 × fS) := fun ⟨a1, a2, a3⟩ S => bb ((64 : Int32) ≤ a3) (some ((-1), S)) (bd (F_X5_look 0 0 a3 S) (fun v3 S4 => iv (ge S4 25 0 1) (fun x6 => bb (x6 = (6 : Int32)) (bd (F_X6_paysByLots a2 a1 S4) (fun v8 S9 => bb (v8 = (0 : Int32)) (B_X6_leastPaying_48 k7 a1 a2 a3 S9) (some (a3, S9)))) (B_X6_leastPaying_48 k7 a1 a2 a3 S4))))
noncomputable def F_X6_leastPaying (p1 : Int32) (S0 : fS) : Option (Int32 × fS) := bd (F_X6_tellLots  S0) (fun v12 S13 => lp (B_X6_leastPaying_7 ) fuel (p1, v12, 0) S13)
set_option maxHeartbeats 4000000 in
set_option maxRecDepth 100000 in
theorem c_X6_leastPaying (l : Launch) (D : va_G) (K : Nat → ClassId) (b0 : Nat) (sa : sT) (sz : Nat) (L : List Nat) (f0 : Nat → va_E) (ad : Nat → Nat → Nat) (P : Nat → Nat → Prop) {n : Nat × Nat} (hP : ∀ a i : Nat, isn n a i → P a i) (S0 : fS) (hw : PW K ad P S0 L f0) (hn : S0.2.2.1 = n) (hprobe : 0 < n.1) (p1 : Int32) (v : Int32) (S1 : fS) (h : F_X6_leastPaying p1 S0 = some (v, S1)) : Met l yX6_leastPaying (.code yX6_leastPaying cX6_leastPaying 4 (some .int) :: gt) { frames := 5, cells := 0, slots := 0, locals := 110 } (va_Pc [.ref (ad 0 0), .int p1] (hPre D K b0 sa sz L f0)) (hQ D K b0 (fun v9 u9 => ∃ f2 : Nat → va_E, v9 = some (.int v) ∧ u9 = lU L f2 ∧ PW K ad P S1 L f2 ∧ S1.2.2.1 = n ∧ Kp ad P L f0 f2)) 0 0 (fun q => b0 ≤ q) := by
  refine t_of (own := RX6) (by decide) rfl ?_ (Nat.le_of_ble_eq_true rfl)
  intro p e s m below meth c ls C w hsz hr hlk hnm hl
  have hx := C.1
  have hb := C.2.1
  have hl : lv_has ls 4 [(0, .ref (ad 0 0)), (1, .int p1)] := hl
  have J48 : ∀ (k7 : (Int32 × Int32 × Int32) → fS → Option (Int32 × fS)) (hk7 : ∀ (a1 : Int32) (a2 : Int32) (a3 : Int32) (S : fS), k7 (a1, a2, a3) S = some (v, S1) → Gw D K b0 sa ad P n L f0 p l e { frames := 5, cells := 0, slots := 0, locals := 110 } s m [.ref (ad 0 0), .int p1].toArray below meth c 4 (MQ below (hQ D K b0 (fun v9 u9 => ∃ f2 : Nat → va_E, v9 = some (.int v) ∧ u9 = lU L f2 ∧ PW K ad P S1 L f2 ∧ S1.2.2.1 = n ∧ Kp ad P L f0 f2)) [.ref (ad 0 0), .int p1].toArray s 0 0 (fun q => b0 ≤ q)) 0 0 7 [(0, .ref (ad 0 0)), (1, .int a1), (2, .int a2), (3, .int a3)] [] S) (a1 : Int32) (a2 : Int32) (a3 : Int32) (S : fS), B_X6_leastPaying_48 k7 a1 a2 a3 S = some (v, S1) → Gw D K b0 sa ad P n L f0 p l e { frames := 5, cells := 0, slots := 0, locals := 110 } s m [.ref (ad 0 0), .int p1].toArray below meth c 4 (MQ below (hQ D K b0 (fun v9 u9 => ∃ f2 : Nat → va_E, v9 = some (.int v) ∧ u9 = lU L f2 ∧ PW K ad P S1 L f2 ∧ S1.2.2.1 = n ∧ Kp ad P L f0 f2)) [.ref (ad 0 0), .int p1].toArray s 0 0 (fun q => b0 ≤ q)) 0 0 48 [(0, .ref (ad 0 0)), (1, .int a1), (2, .int a2), (3, .int a3)] [] S := by
    intro k7 hk7 a1 a2 a3 S h
    dsimp only [B_X6_leastPaying_48] at h
    intro f H locs w hw hn hk ls hl
    obtain ⟨x1, ex1, h⟩ := iv_some h
    refine lv_iinc (v := x1) (lv' := [(3, .int x1), (0, .ref (ad 0 0)), (1, .int a1), (2, .int a2)]) hx hb dX6_leastPaying_48 hl (k := 3) rfl ex1.symm (by decide) rfl (fun ls hl => ?_)
    refine lv_goto (tgt := 7) hx hb dX6_leastPaying_51 (by decide) ?_
    exact hk7 a1 a2 x1 S h f H locs w hw hn hk ls (lv_sub hl [1, 2, 3, 0] rfl)
  have J7 : ∀ (fu : Nat) (a1 : Int32) (a2 : Int32) (a3 : Int32) (S : fS), lp (B_X6_leastPaying_7 ) fu (a1, a2, a3) S = some (v, S1) → Gw D K b0 sa ad P n L f0 p l e { frames := 5, cells := 0, slots := 0, locals := 110 } s m [.ref (ad 0 0), .int p1].toArray below meth c 4 (MQ below (hQ D K b0 (fun v9 u9 => ∃ f2 : Nat → va_E, v9 = some (.int v) ∧ u9 = lU L f2 ∧ PW K ad P S1 L f2 ∧ S1.2.2.1 = n ∧ Kp ad P L f0 f2)) [.ref (ad 0 0), .int p1].toArray s 0 0 (fun q => b0 ≤ q)) 0 0 7 [(0, .ref (ad 0 0)), (1, .int a1), (2, .int a2), (3, .int a3)] [] S := by
    intro fu a1 a2 a3 S h
    refine lp_some (G := (fun q S => Gw D K b0 sa ad P n L f0 p l e { frames := 5, cells := 0, slots := 0, locals := 110 } s m [.ref (ad 0 0), .int p1].toArray below meth c 4 (MQ below (hQ D K b0 (fun v9 u9 => ∃ f2 : Nat → va_E, v9 = some (.int v) ∧ u9 = lU L f2 ∧ PW K ad P S1 L f2 ∧ S1.2.2.1 = n ∧ Kp ad P L f0 f2)) [.ref (ad 0 0), .int p1].toArray s 0 0 (fun q => b0 ≤ q)) 0 0 7 [(0, .ref (ad 0 0)), (1, .int q.1), (2, .int q.2.1), (3, .int q.2.2)] [] S)) (fun k7 hk7 q S h => ?_) fu (a1, a2, a3) S h
    obtain ⟨a1, a2, a3⟩ := q
    have hk7 : ∀ (a1 : Int32) (a2 : Int32) (a3 : Int32) (S : fS), k7 (a1, a2, a3) S = some (v, S1) → Gw D K b0 sa ad P n L f0 p l e { frames := 5, cells := 0, slots := 0, locals := 110 } s m [.ref (ad 0 0), .int p1].toArray below meth c 4 (MQ below (hQ D K b0 (fun v9 u9 => ∃ f2 : Nat → va_E, v9 = some (.int v) ∧ u9 = lU L f2 ∧ PW K ad P S1 L f2 ∧ S1.2.2.1 = n ∧ Kp ad P L f0 f2)) [.ref (ad 0 0), .int p1].toArray s 0 0 (fun q => b0 ≤ q)) 0 0 7 [(0, .ref (ad 0 0)), (1, .int a1), (2, .int a2), (3, .int a3)] [] S := fun a1 a2 a3 S h => hk7 (a1, a2, a3) S h
    dsimp only [B_X6_leastPaying_7] at h
    intro f H locs w hw hn hk ls hl
    refine lv_iload_n hx hb dX6_leastPaying_7 rfl (lv_at hl 3 rfl) ?_
    refine lv_bipush (v := 64) hx hb dX6_leastPaying_8 (by decide) ?_
    refine lv_icmp_ge (tgt := 54) hx hb dX6_leastPaying_10 (by decide) (fun c2 => ?_) (fun c2 => ?_)
    · have h := bb_t h c2
      refine lv_iconst (v := (-1)) hx hb dX6_leastPaying_54 (by decide) ?_
      exact t_iret C hr hlk w ⟨_, so_v h, rfl, so_w h hw, so_n h hn, hk⟩ (by decide) (by decide) dX6_leastPaying_55
    · have h := bb_f h c2
      refine lv_aload_n hx hb dX6_leastPaying_13 rfl (lv_at hl 0 rfl) ?_
      refine u_getr C w hw (hP _ _ (isn_f rfl rfl (by decide))) rfl (N := 18) rfl rfl cin_6 15 (by decide) (by decide) (a2 := 25) (i2 := 0) rfl gw_302 dX6_leastPaying_14 ?_
      refine lv_aload_n hx hb dX6_leastPaying_17 rfl (lv_at hl 0 rfl) ?_
      refine u_getr C w hw (hP _ _ (isn_f rfl rfl (by decide))) rfl (N := 18) rfl rfl cin_6 0 (by decide) (by decide) (a2 := 1) (i2 := 0) rfl gw_287 dX6_leastPaying_18 ?_
      refine lv_iload_n hx hb dX6_leastPaying_21 rfl (lv_at hl 3 rfl) ?_
      obtain ⟨v3, S4, h5, h⟩ := bd_some h
      refine u_callV (n := 2) C w hw (hP _ _ (isn_t25 hprobe)) rfl rfl rfl (c_X5_look l D K b0 sa _ L _ ad P hP S hw hn 0 hprobe 0 (by decide) a3 v3 S4 h5) gw_429 gw_426 gw_427 gw_428 gw_7 ⟨by decide, by decide, by decide +kernel⟩ rfl rfl ⟨by decide, by decide⟩ rfl hl.1 rfl (Nat.le_of_ble_eq_true rfl) dX6_leastPaying_22 ⟨Nat.le_of_ble_eq_true rfl, Nat.le_of_ble_eq_true rfl⟩ (fun v9 u H locs hp w => ?_)
      obtain ⟨f2, rfl, rfl, hw, hn, hk1⟩ := hp
      have hk := hk.tr hk1
      generalize f2 = f at w hw hk
      refine lv_aload_n hx hb dX6_leastPaying_25 rfl (lv_at hl 0 rfl) ?_
      refine u_getr C w hw (hP _ _ (isn_f rfl rfl (by decide))) rfl (N := 18) rfl rfl cin_6 15 (by decide) (by decide) (a2 := 25) (i2 := 0) rfl gw_302 dX6_leastPaying_26 ?_
      refine u_geti C w hw (hP _ _ (isn_t25 hprobe)) rfl (N := 17) rfl rfl cin_5 1 (by decide) rfl gw_222 dX6_leastPaying_29 ?_
      refine u_iv h (fun x6 h => ?_)
      refine lv_bipush (v := 6) hx hb dX6_leastPaying_32 (by decide) ?_
      refine lv_icmp_ne (tgt := 48) hx hb dX6_leastPaying_34 (by decide) (fun c7 => ?_) (fun c7 => ?_)
      · have h := bb_f h c7
        exact J48 k7 hk7 a1 a2 a3 S4 h f H locs w hw hn hk ls (lv_sub hl [0, 1, 2, 3] rfl)
      · have h := bb_t h c7
        refine lv_aload_n hx hb dX6_leastPaying_37 rfl (lv_at hl 0 rfl) ?_
        refine lv_iload_n hx hb dX6_leastPaying_38 rfl (lv_at hl 2 rfl) ?_
        refine lv_iload_n hx hb dX6_leastPaying_39 rfl (lv_at hl 1 rfl) ?_
        obtain ⟨v8, S9, h10, h⟩ := bd_some h
        refine u_callV (n := 2) C w hw (hP _ _ (isn_f rfl rfl (by decide))) rfl rfl rfl (c_X6_paysByLots l D K b0 sa _ L _ ad P hP S4 hw hn hprobe a2 a1 v8 S9 h10) gw_463 gw_460 gw_462 gs_4 gw_1 ⟨by decide, by decide, by decide +kernel⟩ rfl rfl ⟨by decide, by decide⟩ rfl hl.1 rfl (Nat.le_of_ble_eq_true rfl) dX6_leastPaying_40 ⟨Nat.le_of_ble_eq_true rfl, Nat.le_of_ble_eq_true rfl⟩ (fun v9 u H locs hp w => ?_)
        obtain ⟨f2, rfl, rfl, hw, hn, hk1⟩ := hp
        have hk := hk.tr hk1
        generalize f2 = f at w hw hk
        refine lv_if_eq (tgt := 48) hx hb dX6_leastPaying_43 (by decide) (fun c11 => ?_) (fun c11 => ?_)
        · have h := bb_t h c11
          exact J48 k7 hk7 a1 a2 a3 S9 h f H locs w hw hn hk ls (lv_sub hl [0, 1, 2, 3] rfl)
        · have h := bb_f h c11
          refine lv_iload_n hx hb dX6_leastPaying_46 rfl (lv_at hl 3 rfl) ?_
          exact t_iret C hr hlk w ⟨_, so_v h, rfl, so_w h hw, so_n h hn, hk⟩ (by decide) (by decide) dX6_leastPaying_47
  dsimp only [F_X6_leastPaying] at h
  obtain ⟨f, ef⟩ : ∃ z, z = f0 := ⟨_, rfl⟩
  rw [← ef] at w hw
  have hk : Kp ad P L f0 f := by rw [ef]; exact Kp.rf
  obtain ⟨H, eH⟩ : ∃ z, z = s.heap := ⟨_, rfl⟩
  obtain ⟨locs, el⟩ : ∃ z : List Loc, z = [] := ⟨_, rfl⟩
  rw [← eH, ← el] at w ⊢
  refine lv_aload_n hx hb dX6_leastPaying_0 rfl (lv_at hl 0 rfl) ?_
  obtain ⟨v12, S13, h14, h⟩ := bd_some h
  refine u_callV (n := 0) C w hw (hP _ _ (isn_f rfl rfl (by decide))) rfl rfl rfl (c_X6_tellLots l D K b0 sa _ L _ ad P hP S0 hw hn hprobe  v12 S13 h14) gw_369 gw_366 gw_368 gs_2 gw_1 ⟨by decide, by decide, by decide +kernel⟩ rfl rfl ⟨by decide, by decide⟩ rfl hl.1 rfl (Nat.le_of_ble_eq_true rfl) dX6_leastPaying_1 ⟨Nat.le_of_ble_eq_true rfl, Nat.le_of_ble_eq_true rfl⟩ (fun v9 u H locs hp w => ?_)
  obtain ⟨f2, rfl, rfl, hw, hn, hk1⟩ := hp
  have hk := hk.tr hk1
  generalize f2 = f at w hw hk
  refine lv_istore_n (lv' := [(2, .int v12), (0, .ref (ad 0 0)), (1, .int p1)]) hx hb dX6_leastPaying_4 rfl hl (by decide) rfl (fun ls hl => ?_)
  refine lv_iconst (v := 0) hx hb dX6_leastPaying_5 (by decide) ?_
  refine lv_istore_n (lv' := [(3, .int 0), (2, .int v12), (0, .ref (ad 0 0)), (1, .int p1)]) hx hb dX6_leastPaying_6 rfl hl (by decide) rfl (fun ls hl => ?_)
  exact J7  fuel p1 v12 0 S13 h f H locs w hw hn hk ls (lv_sub hl [2, 3, 1, 0] rfl)
theorem dX6_can_0 : decode cX6_can 0 = .ok (.aload_n 0, 1) := by decide +kernel
theorem dX6_can_1 : decode cX6_can 1 = .ok (.iload_n 1, 1) := by decide +kernel
theorem dX6_can_2 : decode cX6_can 2 = .ok (.invokevirtual 226, 3) := by decide +kernel
theorem dX6_can_5 : decode cX6_can 5 = .ok (.ireturn, 1) := by decide +kernel
noncomputable def F_X6_can (p1 : Int32) (S0 : fS) : Option (Int32 × fS) := bd (F_X6_leastPaying p1 S0) (fun v1 S2 => some (v1, S2))
set_option maxHeartbeats 4000000 in
set_option maxRecDepth 100000 in
theorem c_X6_can (l : Launch) (D : va_G) (K : Nat → ClassId) (b0 : Nat) (sa : sT) (sz : Nat) (L : List Nat) (f0 : Nat → va_E) (ad : Nat → Nat → Nat) (P : Nat → Nat → Prop) {n : Nat × Nat} (hP : ∀ a i : Nat, isn n a i → P a i) (S0 : fS) (hw : PW K ad P S0 L f0) (hn : S0.2.2.1 = n) (hprobe : 0 < n.1) (p1 : Int32) (v : Int32) (S1 : fS) (h : F_X6_can p1 S0 = some (v, S1)) : Met l yX6_can (.code yX6_can cX6_can 2 (some .int) :: gt) { frames := 6, cells := 0, slots := 0, locals := 133 } (va_Pc [.ref (ad 0 0), .int p1] (hPre D K b0 sa sz L f0)) (hQ D K b0 (fun v9 u9 => ∃ f2 : Nat → va_E, v9 = some (.int v) ∧ u9 = lU L f2 ∧ PW K ad P S1 L f2 ∧ S1.2.2.1 = n ∧ Kp ad P L f0 f2)) 0 0 (fun q => b0 ≤ q) := by
  refine t_of (own := RX6) (by decide) rfl ?_ (Nat.le_of_ble_eq_true rfl)
  intro p e s m below meth c ls C w hsz hr hlk hnm hl
  have hx := C.1
  have hb := C.2.1
  have hl : lv_has ls 2 [(0, .ref (ad 0 0)), (1, .int p1)] := hl
  dsimp only [F_X6_can] at h
  obtain ⟨f, ef⟩ : ∃ z, z = f0 := ⟨_, rfl⟩
  rw [← ef] at w hw
  have hk : Kp ad P L f0 f := by rw [ef]; exact Kp.rf
  obtain ⟨H, eH⟩ : ∃ z, z = s.heap := ⟨_, rfl⟩
  obtain ⟨locs, el⟩ : ∃ z : List Loc, z = [] := ⟨_, rfl⟩
  rw [← eH, ← el] at w ⊢
  refine lv_aload_n hx hb dX6_can_0 rfl (lv_at hl 0 rfl) ?_
  refine lv_iload_n hx hb dX6_can_1 rfl (lv_at hl 1 rfl) ?_
  obtain ⟨v1, S2, h3, h⟩ := bd_some h
  refine u_callV (n := 1) C w hw (hP _ _ (isn_f rfl rfl (by decide))) rfl rfl rfl (c_X6_leastPaying l D K b0 sa _ L _ ad P hP S0 hw hn hprobe p1 v1 S2 h3) gw_365 gw_362 gw_364 gs_1 gw_1 ⟨by decide, by decide, by decide +kernel⟩ rfl rfl ⟨by decide, by decide⟩ rfl hl.1 rfl (Nat.le_of_ble_eq_true rfl) dX6_can_2 ⟨Nat.le_of_ble_eq_true rfl, Nat.le_of_ble_eq_true rfl⟩ (fun v9 u H locs hp w => ?_)
  obtain ⟨f2, rfl, rfl, hw, hn, hk1⟩ := hp
  have hk := hk.tr hk1
  generalize f2 = f at w hw hk
  exact t_iret C hr hlk w ⟨_, so_v h, rfl, so_w h hw, so_n h hn, hk⟩ (by decide) (by decide) dX6_can_5
theorem dX6_probeCopy_0 : decode cX6_probeCopy 0 = .ok (.aload_n 0, 1) := by decide +kernel
theorem dX6_probeCopy_1 : decode cX6_probeCopy 1 = .ok (.getfield 75, 3) := by decide +kernel
theorem dX6_probeCopy_4 : decode cX6_probeCopy 4 = .ok (.aload_n 0, 1) := by decide +kernel
theorem dX6_probeCopy_5 : decode cX6_probeCopy 5 = .ok (.getfield 16, 3) := by decide +kernel
theorem dX6_probeCopy_8 : decode cX6_probeCopy 8 = .ok (.invokevirtual 178, 3) := by decide +kernel
theorem dX6_probeCopy_11 : decode cX6_probeCopy 11 = .ok (.aload_n 0, 1) := by decide +kernel
theorem dX6_probeCopy_12 : decode cX6_probeCopy 12 = .ok (.getfield 68, 3) := by decide +kernel
theorem dX6_probeCopy_15 : decode cX6_probeCopy 15 = .ok (.aload_n 0, 1) := by decide +kernel
theorem dX6_probeCopy_16 : decode cX6_probeCopy 16 = .ok (.invokevirtual 182, 3) := by decide +kernel
theorem dX6_probeCopy_19 : decode cX6_probeCopy 19 = .ok (.aload_n 0, 1) := by decide +kernel
theorem dX6_probeCopy_20 : decode cX6_probeCopy 20 = .ok (.getfield 75, 3) := by decide +kernel
theorem dX6_probeCopy_23 : decode cX6_probeCopy 23 = .ok (.iconst 0, 1) := by decide +kernel
theorem dX6_probeCopy_24 : decode cX6_probeCopy 24 = .ok (.invokevirtual 186, 3) := by decide +kernel
theorem dX6_probeCopy_27 : decode cX6_probeCopy 27 = .ok (.aload_n 0, 1) := by decide +kernel
theorem dX6_probeCopy_28 : decode cX6_probeCopy 28 = .ok (.getfield 75, 3) := by decide +kernel
theorem dX6_probeCopy_31 : decode cX6_probeCopy 31 = .ok (.aload_n 0, 1) := by decide +kernel
theorem dX6_probeCopy_32 : decode cX6_probeCopy 32 = .ok (.getfield 16, 3) := by decide +kernel
theorem dX6_probeCopy_35 : decode cX6_probeCopy 35 = .ok (.iload_n 1, 1) := by decide +kernel
theorem dX6_probeCopy_36 : decode cX6_probeCopy 36 = .ok (.invokevirtual 234, 3) := by decide +kernel
theorem dX6_probeCopy_39 : decode cX6_probeCopy 39 = .ok (.aload_n 0, 1) := by decide +kernel
theorem dX6_probeCopy_40 : decode cX6_probeCopy 40 = .ok (.getfield 75, 3) := by decide +kernel
theorem dX6_probeCopy_43 : decode cX6_probeCopy 43 = .ok (.aload_n 0, 1) := by decide +kernel
theorem dX6_probeCopy_44 : decode cX6_probeCopy 44 = .ok (.getfield 68, 3) := by decide +kernel
theorem dX6_probeCopy_47 : decode cX6_probeCopy 47 = .ok (.invokevirtual 190, 3) := by decide +kernel
theorem dX6_probeCopy_50 : decode cX6_probeCopy 50 = .ok (.aload_n 0, 1) := by decide +kernel
theorem dX6_probeCopy_51 : decode cX6_probeCopy 51 = .ok (.getfield 68, 3) := by decide +kernel
theorem dX6_probeCopy_54 : decode cX6_probeCopy 54 = .ok (.invokevirtual 193, 3) := by decide +kernel
theorem dX6_probeCopy_57 : decode cX6_probeCopy 57 = .ok (.invokevirtual 335, 3) := by decide +kernel
theorem dX6_probeCopy_60 : decode cX6_probeCopy 60 = .ok (.return_, 1) := by decide +kernel
noncomputable def F_X6_probeCopy (p1 : Int32) (S0 : fS) : Option (Int32 × fS) := bd (F_X5_nameNext 0 1 S0) (fun v1 S2 => bd (F_X6_codeInForce  S2) (fun v4 S5 => bd (F_X3_run v4 0 0 S5) (fun v7 S8 => bd (F_X5_look 0 1 p1 S8) (fun v10 S11 => bd (F_X3_grip  S11) (fun v13 S14 => bd (F_X3_slip  S14) (fun v16 S17 => bd (F_X5_carry 0 v13 v16 S17) (fun v19 S20 => some (0, S20))))))))
set_option maxHeartbeats 4000000 in
set_option maxRecDepth 100000 in
theorem c_X6_probeCopy (l : Launch) (D : va_G) (K : Nat → ClassId) (b0 : Nat) (sa : sT) (sz : Nat) (L : List Nat) (f0 : Nat → va_E) (ad : Nat → Nat → Nat) (P : Nat → Nat → Prop) {n : Nat × Nat} (hP : ∀ a i : Nat, isn n a i → P a i) (S0 : fS) (hw : PW K ad P S0 L f0) (hn : S0.2.2.1 = n) (hprobe : 0 < n.1) (p1 : Int32) (v : Int32) (S1 : fS) (h : F_X6_probeCopy p1 S0 = some (v, S1)) : Met l yX6_probeCopy (.code yX6_probeCopy cX6_probeCopy 2 none :: gt) { frames := 4, cells := 0, slots := 0, locals := 96 } (va_Pc [.ref (ad 0 0), .int p1] (hPre D K b0 sa sz L f0)) (hQ D K b0 (fun v9 u9 => ∃ f2 : Nat → va_E, v9 = none ∧ u9 = lU L f2 ∧ PW K ad P S1 L f2 ∧ S1.2.2.1 = n ∧ Kp ad P L f0 f2)) 0 0 (fun q => b0 ≤ q) := by
  refine t_of (own := RX6) (by decide) rfl ?_ (Nat.le_of_ble_eq_true rfl)
  intro p e s m below meth c ls C w hsz hr hlk hnm hl
  have hx := C.1
  have hb := C.2.1
  have hl : lv_has ls 2 [(0, .ref (ad 0 0)), (1, .int p1)] := hl
  dsimp only [F_X6_probeCopy] at h
  obtain ⟨f, ef⟩ : ∃ z, z = f0 := ⟨_, rfl⟩
  rw [← ef] at w hw
  have hk : Kp ad P L f0 f := by rw [ef]; exact Kp.rf
  obtain ⟨H, eH⟩ : ∃ z, z = s.heap := ⟨_, rfl⟩
  obtain ⟨locs, el⟩ : ∃ z : List Loc, z = [] := ⟨_, rfl⟩
  rw [← eH, ← el] at w ⊢
  refine lv_aload_n hx hb dX6_probeCopy_0 rfl (lv_at hl 0 rfl) ?_
  refine u_getr C w hw (hP _ _ (isn_f rfl rfl (by decide))) rfl (N := 18) rfl rfl cin_6 15 (by decide) (by decide) (a2 := 25) (i2 := 0) rfl gw_302 dX6_probeCopy_1 ?_
  refine lv_aload_n hx hb dX6_probeCopy_4 rfl (lv_at hl 0 rfl) ?_
  refine u_getr C w hw (hP _ _ (isn_f rfl rfl (by decide))) rfl (N := 18) rfl rfl cin_6 1 (by decide) (by decide) (a2 := 1) (i2 := 1) rfl gw_288 dX6_probeCopy_5 ?_
  obtain ⟨v1, S2, h3, h⟩ := bd_some h
  refine u_callV (n := 1) C w hw (hP _ _ (isn_t25 hprobe)) rfl rfl rfl (c_X5_nameNext l D K b0 sa _ L _ ad P hP S0 hw hn 0 hprobe 1 (by decide) v1 S2 h3) gw_380 gw_377 gw_378 gw_379 gw_7 ⟨by decide, by decide, by decide +kernel⟩ rfl rfl ⟨by decide, by decide⟩ rfl hl.1 rfl (Nat.le_of_ble_eq_true rfl) dX6_probeCopy_8 ⟨Nat.le_of_ble_eq_true rfl, Nat.le_of_ble_eq_true rfl⟩ (fun v9 u H locs hp w => ?_)
  obtain ⟨f2, rfl, rfl, hw, hn, hk1⟩ := hp
  have hk := hk.tr hk1
  generalize f2 = f at w hw hk
  refine lv_aload_n hx hb dX6_probeCopy_11 rfl (lv_at hl 0 rfl) ?_
  refine u_getr C w hw (hP _ _ (isn_f rfl rfl (by decide))) rfl (N := 18) rfl rfl cin_6 14 (by decide) (by decide) (a2 := 22) (i2 := 0) rfl gw_301 dX6_probeCopy_12 ?_
  refine lv_aload_n hx hb dX6_probeCopy_15 rfl (lv_at hl 0 rfl) ?_
  obtain ⟨v4, S5, h6, h⟩ := bd_some h
  refine u_callV (n := 0) C w hw (hP _ _ (isn_f rfl rfl (by decide))) rfl rfl rfl (c_X6_codeInForce l D K b0 sa _ L _ ad P hP S2 hw hn  v4 S5 h6) gw_373 gw_370 gw_372 gs_3 gw_1 ⟨by decide, by decide, by decide +kernel⟩ rfl rfl ⟨by decide, by decide⟩ rfl hl.1 rfl (Nat.le_of_ble_eq_true rfl) dX6_probeCopy_16 ⟨Nat.le_of_ble_eq_true rfl, Nat.le_of_ble_eq_true rfl⟩ (fun v9 u H locs hp w => ?_)
  obtain ⟨f2, rfl, rfl, hw, hn, hk1⟩ := hp
  have hk := hk.tr hk1
  generalize f2 = f at w hw hk
  refine lv_aload_n hx hb dX6_probeCopy_19 rfl (lv_at hl 0 rfl) ?_
  refine u_getr C w hw (hP _ _ (isn_f rfl rfl (by decide))) rfl (N := 18) rfl rfl cin_6 15 (by decide) (by decide) (a2 := 25) (i2 := 0) rfl gw_302 dX6_probeCopy_20 ?_
  refine lv_iconst (v := 0) hx hb dX6_probeCopy_23 (by decide) ?_
  obtain ⟨v7, S8, h9, h⟩ := bd_some h
  refine u_callV (n := 3) C w hw (hP _ _ (isn_f rfl rfl (by decide))) rfl rfl rfl (c_X3_run l D K b0 sa _ L _ ad P hP S5 hw hn v4 0 hprobe 0 v7 S8 h9) gw_384 gw_381 gw_382 gw_383 gw_6 ⟨by decide, by decide, by decide +kernel⟩ rfl rfl ⟨by decide, by decide⟩ rfl hl.1 rfl (Nat.le_of_ble_eq_true rfl) dX6_probeCopy_24 ⟨Nat.le_of_ble_eq_true rfl, Nat.le_of_ble_eq_true rfl⟩ (fun v9 u H locs hp w => ?_)
  obtain ⟨f2, rfl, rfl, hw, hn, hk1⟩ := hp
  have hk := hk.tr hk1
  generalize f2 = f at w hw hk
  refine lv_aload_n hx hb dX6_probeCopy_27 rfl (lv_at hl 0 rfl) ?_
  refine u_getr C w hw (hP _ _ (isn_f rfl rfl (by decide))) rfl (N := 18) rfl rfl cin_6 15 (by decide) (by decide) (a2 := 25) (i2 := 0) rfl gw_302 dX6_probeCopy_28 ?_
  refine lv_aload_n hx hb dX6_probeCopy_31 rfl (lv_at hl 0 rfl) ?_
  refine u_getr C w hw (hP _ _ (isn_f rfl rfl (by decide))) rfl (N := 18) rfl rfl cin_6 1 (by decide) (by decide) (a2 := 1) (i2 := 1) rfl gw_288 dX6_probeCopy_32 ?_
  refine lv_iload_n hx hb dX6_probeCopy_35 rfl (lv_at hl 1 rfl) ?_
  obtain ⟨v10, S11, h12, h⟩ := bd_some h
  refine u_callV (n := 2) C w hw (hP _ _ (isn_t25 hprobe)) rfl rfl rfl (c_X5_look l D K b0 sa _ L _ ad P hP S8 hw hn 0 hprobe 1 (by decide) p1 v10 S11 h12) gw_429 gw_426 gw_427 gw_428 gw_7 ⟨by decide, by decide, by decide +kernel⟩ rfl rfl ⟨by decide, by decide⟩ rfl hl.1 rfl (Nat.le_of_ble_eq_true rfl) dX6_probeCopy_36 ⟨Nat.le_of_ble_eq_true rfl, Nat.le_of_ble_eq_true rfl⟩ (fun v9 u H locs hp w => ?_)
  obtain ⟨f2, rfl, rfl, hw, hn, hk1⟩ := hp
  have hk := hk.tr hk1
  generalize f2 = f at w hw hk
  refine lv_aload_n hx hb dX6_probeCopy_39 rfl (lv_at hl 0 rfl) ?_
  refine u_getr C w hw (hP _ _ (isn_f rfl rfl (by decide))) rfl (N := 18) rfl rfl cin_6 15 (by decide) (by decide) (a2 := 25) (i2 := 0) rfl gw_302 dX6_probeCopy_40 ?_
  refine lv_aload_n hx hb dX6_probeCopy_43 rfl (lv_at hl 0 rfl) ?_
  refine u_getr C w hw (hP _ _ (isn_f rfl rfl (by decide))) rfl (N := 18) rfl rfl cin_6 14 (by decide) (by decide) (a2 := 22) (i2 := 0) rfl gw_301 dX6_probeCopy_44 ?_
  obtain ⟨v13, S14, h15, h⟩ := bd_some h
  refine u_callV (n := 0) C w hw (hP _ _ (isn_f rfl rfl (by decide))) rfl rfl rfl (c_X3_grip l D K b0 sa _ L _ ad P hP S11 hw hn  v13 S14 h15) gw_421 gw_418 gw_419 gw_420 gw_6 ⟨by decide, by decide, by decide +kernel⟩ rfl rfl ⟨by decide, by decide⟩ rfl hl.1 rfl (Nat.le_of_ble_eq_true rfl) dX6_probeCopy_47 ⟨Nat.le_of_ble_eq_true rfl, Nat.le_of_ble_eq_true rfl⟩ (fun v9 u H locs hp w => ?_)
  obtain ⟨f2, rfl, rfl, hw, hn, hk1⟩ := hp
  have hk := hk.tr hk1
  generalize f2 = f at w hw hk
  refine lv_aload_n hx hb dX6_probeCopy_50 rfl (lv_at hl 0 rfl) ?_
  refine u_getr C w hw (hP _ _ (isn_f rfl rfl (by decide))) rfl (N := 18) rfl rfl cin_6 14 (by decide) (by decide) (a2 := 22) (i2 := 0) rfl gw_301 dX6_probeCopy_51 ?_
  obtain ⟨v16, S17, h18, h⟩ := bd_some h
  refine u_callV (n := 0) C w hw (hP _ _ (isn_f rfl rfl (by decide))) rfl rfl rfl (c_X3_slip l D K b0 sa _ L _ ad P hP S14 hw hn  v16 S17 h18) gw_425 gw_422 gw_423 gw_424 gw_6 ⟨by decide, by decide, by decide +kernel⟩ rfl rfl ⟨by decide, by decide⟩ rfl hl.1 rfl (Nat.le_of_ble_eq_true rfl) dX6_probeCopy_54 ⟨Nat.le_of_ble_eq_true rfl, Nat.le_of_ble_eq_true rfl⟩ (fun v9 u H locs hp w => ?_)
  obtain ⟨f2, rfl, rfl, hw, hn, hk1⟩ := hp
  have hk := hk.tr hk1
  generalize f2 = f at w hw hk
  obtain ⟨v19, S20, h21, h⟩ := bd_some h
  refine u_callV (n := 2) C w hw (hP _ _ (isn_t25 hprobe)) rfl rfl rfl (c_X5_carry l D K b0 sa _ L _ ad P hP S17 hw hn 0 hprobe v13 v16 v19 S20 h21) gw_956 gw_953 gw_954 gw_955 gw_7 ⟨by decide, by decide, by decide +kernel⟩ rfl rfl ⟨by decide, by decide⟩ rfl hl.1 rfl (Nat.le_of_ble_eq_true rfl) dX6_probeCopy_57 ⟨Nat.le_of_ble_eq_true rfl, Nat.le_of_ble_eq_true rfl⟩ (fun v9 u H locs hp w => ?_)
  obtain ⟨f2, rfl, rfl, hw, hn, hk1⟩ := hp
  have hk := hk.tr hk1
  generalize f2 = f at w hw hk
  exact t_vret C hr hlk w ⟨_, rfl, rfl, so_w h hw, so_n h hn, hk⟩ (by decide) (by decide) dX6_probeCopy_60
theorem dX6_tryOnCopy_0 : decode cX6_tryOnCopy 0 = .ok (.aload_n 0, 1) := by decide +kernel
theorem dX6_tryOnCopy_1 : decode cX6_tryOnCopy 1 = .ok (.iload_n 1, 1) := by decide +kernel
theorem dX6_tryOnCopy_2 : decode cX6_tryOnCopy 2 = .ok (.invokevirtual 348, 3) := by decide +kernel
theorem dX6_tryOnCopy_5 : decode cX6_tryOnCopy 5 = .ok (.aload_n 0, 1) := by decide +kernel
theorem dX6_tryOnCopy_6 : decode cX6_tryOnCopy 6 = .ok (.getfield 16, 3) := by decide +kernel
theorem dX6_tryOnCopy_9 : decode cX6_tryOnCopy 9 = .ok (.aload_n 0, 1) := by decide +kernel
theorem dX6_tryOnCopy_10 : decode cX6_tryOnCopy 10 = .ok (.getfield 75, 3) := by decide +kernel
theorem dX6_tryOnCopy_13 : decode cX6_tryOnCopy 13 = .ok (.invokevirtual 338, 3) := by decide +kernel
theorem dX6_tryOnCopy_16 : decode cX6_tryOnCopy 16 = .ok (.aload_n 0, 1) := by decide +kernel
theorem dX6_tryOnCopy_17 : decode cX6_tryOnCopy 17 = .ok (.getfield 75, 3) := by decide +kernel
theorem dX6_tryOnCopy_20 : decode cX6_tryOnCopy 20 = .ok (.getfield 345, 3) := by decide +kernel
theorem dX6_tryOnCopy_23 : decode cX6_tryOnCopy 23 = .ok (.ireturn, 1) := by decide +kernel
noncomputable def F_X6_tryOnCopy (p1 : Int32) (S0 : fS) : Option (Int32 × fS) := bd (F_X6_probeCopy p1 S0) (fun v1 S2 => bd (F_X0_move 1 0 S2) (fun v4 S5 => iv (ge S5 25 0 1) (fun x7 => some (x7, S5))))
set_option maxHeartbeats 4000000 in
set_option maxRecDepth 100000 in
theorem c_X6_tryOnCopy (l : Launch) (D : va_G) (K : Nat → ClassId) (b0 : Nat) (sa : sT) (sz : Nat) (L : List Nat) (f0 : Nat → va_E) (ad : Nat → Nat → Nat) (P : Nat → Nat → Prop) {n : Nat × Nat} (hP : ∀ a i : Nat, isn n a i → P a i) (S0 : fS) (hw : PW K ad P S0 L f0) (hn : S0.2.2.1 = n) (hprobe : 0 < n.1) (p1 : Int32) (v : Int32) (S1 : fS) (h : F_X6_tryOnCopy p1 S0 = some (v, S1)) : Met l yX6_tryOnCopy (.code yX6_tryOnCopy cX6_tryOnCopy 2 (some .int) :: gt) { frames := 5, cells := 0, slots := 0, locals := 117 } (va_Pc [.ref (ad 0 0), .int p1] (hPre D K b0 sa sz L f0)) (hQ D K b0 (fun v9 u9 => ∃ f2 : Nat → va_E, v9 = some (.int v) ∧ u9 = lU L f2 ∧ PW K ad P S1 L f2 ∧ S1.2.2.1 = n ∧ Kp ad P L f0 f2)) 0 0 (fun q => b0 ≤ q) := by
  refine t_of (own := RX6) (by decide) rfl ?_ (Nat.le_of_ble_eq_true rfl)
  intro p e s m below meth c ls C w hsz hr hlk hnm hl
  have hx := C.1
  have hb := C.2.1
  have hl : lv_has ls 2 [(0, .ref (ad 0 0)), (1, .int p1)] := hl
  dsimp only [F_X6_tryOnCopy] at h
  obtain ⟨f, ef⟩ : ∃ z, z = f0 := ⟨_, rfl⟩
  rw [← ef] at w hw
  have hk : Kp ad P L f0 f := by rw [ef]; exact Kp.rf
  obtain ⟨H, eH⟩ : ∃ z, z = s.heap := ⟨_, rfl⟩
  obtain ⟨locs, el⟩ : ∃ z : List Loc, z = [] := ⟨_, rfl⟩
  rw [← eH, ← el] at w ⊢
  refine lv_aload_n hx hb dX6_tryOnCopy_0 rfl (lv_at hl 0 rfl) ?_
  refine lv_iload_n hx hb dX6_tryOnCopy_1 rfl (lv_at hl 1 rfl) ?_
  obtain ⟨v1, S2, h3, h⟩ := bd_some h
  refine u_callV (n := 1) C w hw (hP _ _ (isn_f rfl rfl (by decide))) rfl rfl rfl (c_X6_probeCopy l D K b0 sa _ L _ ad P hP S0 hw hn hprobe p1 v1 S2 h3) gw_1070 gw_1067 gw_1069 gs_19 gw_1 ⟨by decide, by decide, by decide +kernel⟩ rfl rfl ⟨by decide, by decide⟩ rfl hl.1 rfl (Nat.le_of_ble_eq_true rfl) dX6_tryOnCopy_2 ⟨Nat.le_of_ble_eq_true rfl, Nat.le_of_ble_eq_true rfl⟩ (fun v9 u H locs hp w => ?_)
  obtain ⟨f2, rfl, rfl, hw, hn, hk1⟩ := hp
  have hk := hk.tr hk1
  generalize f2 = f at w hw hk
  refine lv_aload_n hx hb dX6_tryOnCopy_5 rfl (lv_at hl 0 rfl) ?_
  refine u_getr C w hw (hP _ _ (isn_f rfl rfl (by decide))) rfl (N := 18) rfl rfl cin_6 1 (by decide) (by decide) (a2 := 1) (i2 := 1) rfl gw_288 dX6_tryOnCopy_6 ?_
  refine lv_aload_n hx hb dX6_tryOnCopy_9 rfl (lv_at hl 0 rfl) ?_
  refine u_getr C w hw (hP _ _ (isn_f rfl rfl (by decide))) rfl (N := 18) rfl rfl cin_6 15 (by decide) (by decide) (a2 := 25) (i2 := 0) rfl gw_302 dX6_tryOnCopy_10 ?_
  obtain ⟨v4, S5, h6, h⟩ := bd_some h
  refine u_callV (n := 1) C w hw (hP _ _ (isn_f rfl rfl (by decide))) rfl rfl rfl (c_X0_move l D K b0 sa _ L _ ad P hP S2 hw hn 1 (by decide) 0 hprobe v4 S5 h6) gw_960 gw_957 gw_958 gw_959 gw_2 ⟨by decide, by decide, by decide +kernel⟩ rfl rfl ⟨by decide, by decide⟩ rfl hl.1 rfl (Nat.le_of_ble_eq_true rfl) dX6_tryOnCopy_13 ⟨Nat.le_of_ble_eq_true rfl, Nat.le_of_ble_eq_true rfl⟩ (fun v9 u H locs hp w => ?_)
  obtain ⟨f2, rfl, rfl, hw, hn, hk1⟩ := hp
  have hk := hk.tr hk1
  generalize f2 = f at w hw hk
  refine lv_aload_n hx hb dX6_tryOnCopy_16 rfl (lv_at hl 0 rfl) ?_
  refine u_getr C w hw (hP _ _ (isn_f rfl rfl (by decide))) rfl (N := 18) rfl rfl cin_6 15 (by decide) (by decide) (a2 := 25) (i2 := 0) rfl gw_302 dX6_tryOnCopy_17 ?_
  refine u_geti C w hw (hP _ _ (isn_t25 hprobe)) rfl (N := 17) rfl rfl cin_5 1 (by decide) rfl gw_222 dX6_tryOnCopy_20 ?_
  refine u_iv h (fun x7 h => ?_)
  exact t_iret C hr hlk w ⟨_, so_v h, rfl, so_w h hw, so_n h hn, hk⟩ (by decide) (by decide) dX6_tryOnCopy_23
theorem dX6_worthOnCopy_0 : decode cX6_worthOnCopy 0 = .ok (.aload_n 0, 1) := by decide +kernel
theorem dX6_worthOnCopy_1 : decode cX6_worthOnCopy 1 = .ok (.iload_n 1, 1) := by decide +kernel
theorem dX6_worthOnCopy_2 : decode cX6_worthOnCopy 2 = .ok (.invokevirtual 348, 3) := by decide +kernel
theorem dX6_worthOnCopy_5 : decode cX6_worthOnCopy 5 = .ok (.aload_n 0, 1) := by decide +kernel
theorem dX6_worthOnCopy_6 : decode cX6_worthOnCopy 6 = .ok (.getfield 75, 3) := by decide +kernel
theorem dX6_worthOnCopy_9 : decode cX6_worthOnCopy 9 = .ok (.getfield 345, 3) := by decide +kernel
theorem dX6_worthOnCopy_12 : decode cX6_worthOnCopy 12 = .ok (.iconst 5, 1) := by decide +kernel
theorem dX6_worthOnCopy_13 : decode cX6_worthOnCopy 13 = .ok (.if_icmp .ne 20, 3) := by decide +kernel
theorem dX6_worthOnCopy_16 : decode cX6_worthOnCopy 16 = .ok (.aload_n 0, 1) := by decide +kernel
theorem dX6_worthOnCopy_17 : decode cX6_worthOnCopy 17 = .ok (.getfield 16, 3) := by decide +kernel
theorem dX6_worthOnCopy_20 : decode cX6_worthOnCopy 20 = .ok (.getfield 100, 3) := by decide +kernel
theorem dX6_worthOnCopy_23 : decode cX6_worthOnCopy 23 = .ok (.aload_n 0, 1) := by decide +kernel
theorem dX6_worthOnCopy_24 : decode cX6_worthOnCopy 24 = .ok (.getfield 75, 3) := by decide +kernel
theorem dX6_worthOnCopy_27 : decode cX6_worthOnCopy 27 = .ok (.invokevirtual 351, 3) := by decide +kernel
theorem dX6_worthOnCopy_30 : decode cX6_worthOnCopy 30 = .ok (.goto 4, 3) := by decide +kernel
theorem dX6_worthOnCopy_33 : decode cX6_worthOnCopy 33 = .ok (.iconst 0, 1) := by decide +kernel
theorem dX6_worthOnCopy_34 : decode cX6_worthOnCopy 34 = .ok (.aload_n 0, 1) := by decide +kernel
theorem dX6_worthOnCopy_35 : decode cX6_worthOnCopy 35 = .ok (.getfield 16, 3) := by decide +kernel
theorem dX6_worthOnCopy_38 : decode cX6_worthOnCopy 38 = .ok (.getfield 145, 3) := by decide +kernel
theorem dX6_worthOnCopy_41 : decode cX6_worthOnCopy 41 = .ok (.isub, 1) := by decide +kernel
theorem dX6_worthOnCopy_42 : decode cX6_worthOnCopy 42 = .ok (.ireturn, 1) := by decide +kernel
noncomputable def B_X6_worthOnCopy_34 (t0 : Int32) (S : fS) : Option (Int32 × fS) := iv (ge S 1 1 3) (fun x1 => iv (t0 - x1) (fun x2 => some (x2, S)))
noncomputable def F_X6_worthOnCopy (p1 : Int32) (S0 : fS) : Option (Int32 × fS) := bd (F_X6_probeCopy p1 S0) (fun v3 S4 => iv (ge S4 25 0 1) (fun x6 => bb (x6 = (5 : Int32)) (bd (F_X2_valueOfAll 1 0 S4) (fun v8 S9 => B_X6_worthOnCopy_34  v8 S9)) (B_X6_worthOnCopy_34  0 S4)))
set_option maxHeartbeats 4000000 in
set_option maxRecDepth 100000 in
theorem c_X6_worthOnCopy (l : Launch) (D : va_G) (K : Nat → ClassId) (b0 : Nat) (sa : sT) (sz : Nat) (L : List Nat) (f0 : Nat → va_E) (ad : Nat → Nat → Nat) (P : Nat → Nat → Prop) {n : Nat × Nat} (hP : ∀ a i : Nat, isn n a i → P a i) (S0 : fS) (hw : PW K ad P S0 L f0) (hn : S0.2.2.1 = n) (hprobe : 0 < n.1) (p1 : Int32) (v : Int32) (S1 : fS) (h : F_X6_worthOnCopy p1 S0 = some (v, S1)) : Met l yX6_worthOnCopy (.code yX6_worthOnCopy cX6_worthOnCopy 2 (some .int) :: gt) { frames := 5, cells := 0, slots := 0, locals := 117 } (va_Pc [.ref (ad 0 0), .int p1] (hPre D K b0 sa sz L f0)) (hQ D K b0 (fun v9 u9 => ∃ f2 : Nat → va_E, v9 = some (.int v) ∧ u9 = lU L f2 ∧ PW K ad P S1 L f2 ∧ S1.2.2.1 = n ∧ Kp ad P L f0 f2)) 0 0 (fun q => b0 ≤ q) := by
  refine t_of (own := RX6) (by decide) rfl ?_ (Nat.le_of_ble_eq_true rfl)
  intro p e s m below meth c ls C w hsz hr hlk hnm hl
  have hx := C.1
  have hb := C.2.1
  have hl : lv_has ls 2 [(0, .ref (ad 0 0)), (1, .int p1)] := hl
  have J34 : ∀ (t0 : Int32) (S : fS), B_X6_worthOnCopy_34  t0 S = some (v, S1) → Gw D K b0 sa ad P n L f0 p l e { frames := 5, cells := 0, slots := 0, locals := 117 } s m [.ref (ad 0 0), .int p1].toArray below meth c 2 (MQ below (hQ D K b0 (fun v9 u9 => ∃ f2 : Nat → va_E, v9 = some (.int v) ∧ u9 = lU L f2 ∧ PW K ad P S1 L f2 ∧ S1.2.2.1 = n ∧ Kp ad P L f0 f2)) [.ref (ad 0 0), .int p1].toArray s 0 0 (fun q => b0 ≤ q)) 0 0 34 [(0, .ref (ad 0 0))] [.int t0] S := by
    intro t0 S h
    dsimp only [B_X6_worthOnCopy_34] at h
    intro f H locs w hw hn hk ls hl
    refine lv_aload_n hx hb dX6_worthOnCopy_34 rfl (lv_at hl 0 rfl) ?_
    refine u_getr C w hw (hP _ _ (isn_f rfl rfl (by decide))) rfl (N := 18) rfl rfl cin_6 1 (by decide) (by decide) (a2 := 1) (i2 := 1) rfl gw_288 dX6_worthOnCopy_35 ?_
    refine u_geti C w hw (hP _ _ (isn_f rfl rfl (by decide))) rfl (N := 13) rfl rfl cin_0 3 (by decide) rfl gw_99 dX6_worthOnCopy_38 ?_
    refine u_iv h (fun x1 h => ?_)
    refine lv_isub hx hb dX6_worthOnCopy_41 ?_
    refine u_iv h (fun x2 h => ?_)
    exact t_iret C hr hlk w ⟨_, so_v h, rfl, so_w h hw, so_n h hn, hk⟩ (by decide) (by decide) dX6_worthOnCopy_42
  dsimp only [F_X6_worthOnCopy] at h
  obtain ⟨f, ef⟩ : ∃ z, z = f0 := ⟨_, rfl⟩
  rw [← ef] at w hw
  have hk : Kp ad P L f0 f := by rw [ef]; exact Kp.rf
  obtain ⟨H, eH⟩ : ∃ z, z = s.heap := ⟨_, rfl⟩
  obtain ⟨locs, el⟩ : ∃ z : List Loc, z = [] := ⟨_, rfl⟩
  rw [← eH, ← el] at w ⊢
  refine lv_aload_n hx hb dX6_worthOnCopy_0 rfl (lv_at hl 0 rfl) ?_
  refine lv_iload_n hx hb dX6_worthOnCopy_1 rfl (lv_at hl 1 rfl) ?_
  obtain ⟨v3, S4, h5, h⟩ := bd_some h
  refine u_callV (n := 1) C w hw (hP _ _ (isn_f rfl rfl (by decide))) rfl rfl rfl (c_X6_probeCopy l D K b0 sa _ L _ ad P hP S0 hw hn hprobe p1 v3 S4 h5) gw_1070 gw_1067 gw_1069 gs_19 gw_1 ⟨by decide, by decide, by decide +kernel⟩ rfl rfl ⟨by decide, by decide⟩ rfl hl.1 rfl (Nat.le_of_ble_eq_true rfl) dX6_worthOnCopy_2 ⟨Nat.le_of_ble_eq_true rfl, Nat.le_of_ble_eq_true rfl⟩ (fun v9 u H locs hp w => ?_)
  obtain ⟨f2, rfl, rfl, hw, hn, hk1⟩ := hp
  have hk := hk.tr hk1
  generalize f2 = f at w hw hk
  refine lv_aload_n hx hb dX6_worthOnCopy_5 rfl (lv_at hl 0 rfl) ?_
  refine u_getr C w hw (hP _ _ (isn_f rfl rfl (by decide))) rfl (N := 18) rfl rfl cin_6 15 (by decide) (by decide) (a2 := 25) (i2 := 0) rfl gw_302 dX6_worthOnCopy_6 ?_
  refine u_geti C w hw (hP _ _ (isn_t25 hprobe)) rfl (N := 17) rfl rfl cin_5 1 (by decide) rfl gw_222 dX6_worthOnCopy_9 ?_
  refine u_iv h (fun x6 h => ?_)
  refine lv_iconst (v := 5) hx hb dX6_worthOnCopy_12 (by decide) ?_
  refine lv_icmp_ne (tgt := 33) hx hb dX6_worthOnCopy_13 (by decide) (fun c7 => ?_) (fun c7 => ?_)
  · have h := bb_f h c7
    refine lv_iconst (v := 0) hx hb dX6_worthOnCopy_33 (by decide) ?_
    exact J34  0 S4 h f H locs w hw hn hk ls (lv_sub hl [0] rfl)
  · have h := bb_t h c7
    refine lv_aload_n hx hb dX6_worthOnCopy_16 rfl (lv_at hl 0 rfl) ?_
    refine u_getr C w hw (hP _ _ (isn_f rfl rfl (by decide))) rfl (N := 18) rfl rfl cin_6 1 (by decide) (by decide) (a2 := 1) (i2 := 1) rfl gw_288 dX6_worthOnCopy_17 ?_
    refine u_getr C w hw (hP _ _ (isn_f rfl rfl (by decide))) rfl (N := 13) rfl rfl cin_0 0 (by decide) (by decide) (a2 := 2) (i2 := 1) rfl gw_89 dX6_worthOnCopy_20 ?_
    refine lv_aload_n hx hb dX6_worthOnCopy_23 rfl (lv_at hl 0 rfl) ?_
    refine u_getr C w hw (hP _ _ (isn_f rfl rfl (by decide))) rfl (N := 18) rfl rfl cin_6 15 (by decide) (by decide) (a2 := 25) (i2 := 0) rfl gw_302 dX6_worthOnCopy_24 ?_
    obtain ⟨v8, S9, h10, h⟩ := bd_some h
    refine u_callV (n := 1) C w hw (hP _ _ (isn_f rfl rfl (by decide))) rfl rfl rfl (c_X2_valueOfAll l D K b0 sa _ L _ ad P hP S4 hw hn 1 (by decide) 0 hprobe v8 S9 h10) gw_969 gw_1075 gw_967 gw_968 gw_3 ⟨by decide, by decide, by decide +kernel⟩ rfl rfl ⟨by decide, by decide⟩ rfl hl.1 rfl (Nat.le_of_ble_eq_true rfl) dX6_worthOnCopy_27 ⟨Nat.le_of_ble_eq_true rfl, Nat.le_of_ble_eq_true rfl⟩ (fun v9 u H locs hp w => ?_)
    obtain ⟨f2, rfl, rfl, hw, hn, hk1⟩ := hp
    have hk := hk.tr hk1
    generalize f2 = f at w hw hk
    refine lv_goto (tgt := 34) hx hb dX6_worthOnCopy_30 (by decide) ?_
    exact J34  v8 S9 h f H locs w hw hn hk ls (lv_sub hl [0] rfl)
theorem dX6_worth_0 : decode cX6_worth 0 = .ok (.iload_n 1, 1) := by decide +kernel
theorem dX6_worth_1 : decode cX6_worth 1 = .ok (.invokestatic 85, 3) := by decide +kernel
theorem dX6_worth_4 : decode cX6_worth 4 = .ok (.iload_n 2, 1) := by decide +kernel
theorem dX6_worth_5 : decode cX6_worth 5 = .ok (.invokestatic 85, 3) := by decide +kernel
theorem dX6_worth_8 : decode cX6_worth 8 = .ok (.iload_n 3, 1) := by decide +kernel
theorem dX6_worth_9 : decode cX6_worth 9 = .ok (.iconst 1, 1) := by decide +kernel
theorem dX6_worth_10 : decode cX6_worth 10 = .ok (.bipush 20, 2) := by decide +kernel
theorem dX6_worth_12 : decode cX6_worth 12 = .ok (.invokestatic 92, 3) := by decide +kernel
theorem dX6_worth_15 : decode cX6_worth 15 = .ok (.invokestatic 96, 3) := by decide +kernel
theorem dX6_worth_18 : decode cX6_worth 18 = .ok (.aload_n 0, 1) := by decide +kernel
theorem dX6_worth_19 : decode cX6_worth 19 = .ok (.getfield 16, 3) := by decide +kernel
theorem dX6_worth_22 : decode cX6_worth 22 = .ok (.aload_n 0, 1) := by decide +kernel
theorem dX6_worth_23 : decode cX6_worth 23 = .ok (.getfield 10, 3) := by decide +kernel
theorem dX6_worth_26 : decode cX6_worth 26 = .ok (.invokevirtual 266, 3) := by decide +kernel
theorem dX6_worth_29 : decode cX6_worth 29 = .ok (.iconst 1, 1) := by decide +kernel
theorem dX6_worth_30 : decode cX6_worth 30 = .ok (.istore 4, 2) := by decide +kernel
theorem dX6_worth_32 : decode cX6_worth 32 = .ok (.iload 4, 2) := by decide +kernel
theorem dX6_worth_34 : decode cX6_worth 34 = .ok (.iload_n 3, 1) := by decide +kernel
theorem dX6_worth_35 : decode cX6_worth 35 = .ok (.if_icmp .ge 15, 3) := by decide +kernel
theorem dX6_worth_38 : decode cX6_worth 38 = .ok (.aload_n 0, 1) := by decide +kernel
theorem dX6_worth_39 : decode cX6_worth 39 = .ok (.iload_n 1, 1) := by decide +kernel
theorem dX6_worth_40 : decode cX6_worth 40 = .ok (.invokevirtual 269, 3) := by decide +kernel
theorem dX6_worth_43 : decode cX6_worth 43 = .ok (.pop, 1) := by decide +kernel
theorem dX6_worth_44 : decode cX6_worth 44 = .ok (.iinc 4 1, 3) := by decide +kernel
theorem dX6_worth_47 : decode cX6_worth 47 = .ok (.goto (-15), 3) := by decide +kernel
theorem dX6_worth_50 : decode cX6_worth 50 = .ok (.aload_n 0, 1) := by decide +kernel
theorem dX6_worth_51 : decode cX6_worth 51 = .ok (.iload_n 2, 1) := by decide +kernel
theorem dX6_worth_52 : decode cX6_worth 52 = .ok (.invokevirtual 272, 3) := by decide +kernel
theorem dX6_worth_55 : decode cX6_worth 55 = .ok (.ireturn, 1) := by decide +kernel
noncomputable def B_X6_worth_32 (k32 : (Int32 × Int32 × Int32 × Int32) → fS → Option ((Nat × Int32) × fS)) : (Int32 × Int32 × Int32 × Int32) → fS → Option ((Nat × Int32) × fS) := fun ⟨a1, a2, a3, a4⟩ S => bb (a3 ≤ a4) (bd (F_X6_worthOnCopy a2 S) (fun v2 S3 => some ((0, v2), S3))) (bd (F_X6_tryOnCopy a1 S) (fun v5 S6 => iv (a4 + Int32.ofInt 1) (fun x8 => k32 (a1, a2, a3, x8) S6)))
noncomputable def F_X6_worth (p1 : Int32) (p2 : Int32) (p3 : Int32) (S0 : fS) : Option ((Nat × Int32) × fS) := bx (F_X6_needCell p1 S0) (fun v9 S10 => bx (F_X6_needCell p2 S10) (fun v13 S14 => bd (F_X6_within p3 1 20 S14) (fun v17 S18 => bx (F_X6_need v17 S18) (fun v20 S21 => bd (F_X0_copyFrom 1 0 S21) (fun v24 S25 => lp (B_X6_worth_32 ) fuel (p1, p2, p3, 1) S25)))))
set_option maxHeartbeats 4000000 in
set_option maxRecDepth 100000 in
theorem c_X6_worth (l : Launch) (hls : l.stackTraces = false) (D : va_G) (K : Nat → ClassId) (b0 : Nat) (sa : sT) (sz : Nat) (L : List Nat) (f0 : Nat → va_E) (ad : Nat → Nat → Nat) (P : Nat → Nat → Prop) {n : Nat × Nat} (hP : ∀ a i : Nat, isn n a i → P a i) (S0 : fS) (hw : PW K ad P S0 L f0) (hn : S0.2.2.1 = n) (hprobe : 0 < n.1) (p1 : Int32) (p2 : Int32) (p3 : Int32) (ec : Nat) (v : Int32) (S1 : fS) (h : F_X6_worth p1 p2 p3 S0 = some ((ec, v), S1)) : vx_Met l yX6_worth (.code yX6_worth cX6_worth 5 (some .int) :: gt) { frames := 7, cells := 3, slots := 18, locals := 138 } (va_Pc [.ref (ad 0 0), .int p1, .int p2, .int p3] (hPre D K b0 sa sz L f0)) (hQ D K b0 (fun v9 u9 => ec = 0 ∧ v9 = some (.int v) ∧ ∃ f2 : Nat → va_E, u9 = lU L f2 ∧ PW K ad P S1 L f2 ∧ S1.2.2.1 = n ∧ Kp ad P L f0 f2)) (hX D K b0 (fun E u9 => (ec ≠ 0 ∧ E = exn ec) ∧ ∃ f2 : Nat → va_E, u9 = lU L f2 ∧ PW K ad P S1 L f2 ∧ S1.2.2.1 = n ∧ Kp ad P L f0 f2)) 3 18 (fun q => b0 ≤ q) := by
  refine t_xof (own := RX6) (by decide) rfl ?_ (Nat.le_of_ble_eq_true rfl)
  intro p e s m below meth c ls C w hsz hr hlk htb hl
  have hx := C.1
  have hb := C.2.1
  have hl : lv_has ls 5 [(0, .ref (ad 0 0)), (1, .int p1), (2, .int p2), (3, .int p3)] := hl
  have J32 : ∀ (fu : Nat) (a1 : Int32) (a2 : Int32) (a3 : Int32) (a4 : Int32) (S : fS), lp (B_X6_worth_32 ) fu (a1, a2, a3, a4) S = some ((ec, v), S1) → Gw D K b0 sa ad P n L f0 p l e { frames := 7, cells := 3, slots := 18, locals := 138 } s m [.ref (ad 0 0), .int p1, .int p2, .int p3].toArray below meth c 5 (vx_MQ below (hQ D K b0 (fun v9 u9 => ec = 0 ∧ v9 = some (.int v) ∧ ∃ f2 : Nat → va_E, u9 = lU L f2 ∧ PW K ad P S1 L f2 ∧ S1.2.2.1 = n ∧ Kp ad P L f0 f2)) (hX D K b0 (fun E u9 => (ec ≠ 0 ∧ E = exn ec) ∧ ∃ f2 : Nat → va_E, u9 = lU L f2 ∧ PW K ad P S1 L f2 ∧ S1.2.2.1 = n ∧ Kp ad P L f0 f2)) [.ref (ad 0 0), .int p1, .int p2, .int p3].toArray s 3 18 (fun q => b0 ≤ q)) 3 18 32 [(0, .ref (ad 0 0)), (1, .int a1), (2, .int a2), (3, .int a3), (4, .int a4)] [] S := by
    intro fu a1 a2 a3 a4 S h
    refine lp_some (G := (fun q S => Gw D K b0 sa ad P n L f0 p l e { frames := 7, cells := 3, slots := 18, locals := 138 } s m [.ref (ad 0 0), .int p1, .int p2, .int p3].toArray below meth c 5 (vx_MQ below (hQ D K b0 (fun v9 u9 => ec = 0 ∧ v9 = some (.int v) ∧ ∃ f2 : Nat → va_E, u9 = lU L f2 ∧ PW K ad P S1 L f2 ∧ S1.2.2.1 = n ∧ Kp ad P L f0 f2)) (hX D K b0 (fun E u9 => (ec ≠ 0 ∧ E = exn ec) ∧ ∃ f2 : Nat → va_E, u9 = lU L f2 ∧ PW K ad P S1 L f2 ∧ S1.2.2.1 = n ∧ Kp ad P L f0 f2)) [.ref (ad 0 0), .int p1, .int p2, .int p3].toArray s 3 18 (fun q => b0 ≤ q)) 3 18 32 [(0, .ref (ad 0 0)), (1, .int q.1), (2, .int q.2.1), (3, .int q.2.2.1), (4, .int q.2.2.2)] [] S)) (fun k32 hk32 q S h => ?_) fu (a1, a2, a3, a4) S h
    obtain ⟨a1, a2, a3, a4⟩ := q
    have hk32 : ∀ (a1 : Int32) (a2 : Int32) (a3 : Int32) (a4 : Int32) (S : fS), k32 (a1, a2, a3, a4) S = some ((ec, v), S1) → Gw D K b0 sa ad P n L f0 p l e { frames := 7, cells := 3, slots := 18, locals := 138 } s m [.ref (ad 0 0), .int p1, .int p2, .int p3].toArray below meth c 5 (vx_MQ below (hQ D K b0 (fun v9 u9 => ec = 0 ∧ v9 = some (.int v) ∧ ∃ f2 : Nat → va_E, u9 = lU L f2 ∧ PW K ad P S1 L f2 ∧ S1.2.2.1 = n ∧ Kp ad P L f0 f2)) (hX D K b0 (fun E u9 => (ec ≠ 0 ∧ E = exn ec) ∧ ∃ f2 : Nat → va_E, u9 = lU L f2 ∧ PW K ad P S1 L f2 ∧ S1.2.2.1 = n ∧ Kp ad P L f0 f2)) [.ref (ad 0 0), .int p1, .int p2, .int p3].toArray s 3 18 (fun q => b0 ≤ q)) 3 18 32 [(0, .ref (ad 0 0)), (1, .int a1), (2, .int a2), (3, .int a3), (4, .int a4)] [] S := fun a1 a2 a3 a4 S h => hk32 (a1, a2, a3, a4) S h
    dsimp only [B_X6_worth_32] at h
    intro f H locs w hw hn hk ls hl
    refine lv_iload hx hb dX6_worth_32 (lv_at hl 4 rfl) ?_
    refine lv_iload_n hx hb dX6_worth_34 rfl (lv_at hl 3 rfl) ?_
    refine lv_icmp_ge (tgt := 50) hx hb dX6_worth_35 (by decide) (fun c1 => ?_) (fun c1 => ?_)
    · have h := bb_t h c1
      refine lv_aload_n hx hb dX6_worth_50 rfl (lv_at hl 0 rfl) ?_
      refine lv_iload_n hx hb dX6_worth_51 rfl (lv_at hl 2 rfl) ?_
      obtain ⟨v2, S3, h4, h⟩ := bd_some h
      refine u_callV (n := 1) C w hw (hP _ _ (isn_f rfl rfl (by decide))) rfl rfl rfl (c_X6_worthOnCopy l D K b0 sa _ L _ ad P hP S hw hn hprobe a2 v2 S3 h4) gw_1074 gw_1071 gw_1073 gs_20 gw_1 ⟨by decide, by decide, by decide +kernel⟩ rfl rfl ⟨by decide, by decide⟩ rfl hl.1 rfl (Nat.le_of_ble_eq_true rfl) dX6_worth_52 ⟨Nat.le_of_ble_eq_true rfl, Nat.le_of_ble_eq_true rfl⟩ (fun v9 u H locs hp w => ?_)
      obtain ⟨f2, rfl, rfl, hw, hn, hk1⟩ := hp
      have hk := hk.tr hk1
      generalize f2 = f at w hw hk
      refine vx_ret ?_
      exact t_iret C hr hlk w ⟨sx_e h, sx_v h, _, rfl, sx_w h hw, sx_n h hn, hk⟩ (by decide) (by decide) dX6_worth_55
    · have h := bb_f h c1
      refine lv_aload_n hx hb dX6_worth_38 rfl (lv_at hl 0 rfl) ?_
      refine lv_iload_n hx hb dX6_worth_39 rfl (lv_at hl 1 rfl) ?_
      obtain ⟨v5, S6, h7, h⟩ := bd_some h
      refine u_callV (n := 1) C w hw (hP _ _ (isn_f rfl rfl (by decide))) rfl rfl rfl (c_X6_tryOnCopy l D K b0 sa _ L _ ad P hP S hw hn hprobe a1 v5 S6 h7) gw_1066 gw_1063 gw_1065 gs_18 gw_1 ⟨by decide, by decide, by decide +kernel⟩ rfl rfl ⟨by decide, by decide⟩ rfl hl.1 rfl (Nat.le_of_ble_eq_true rfl) dX6_worth_40 ⟨Nat.le_of_ble_eq_true rfl, Nat.le_of_ble_eq_true rfl⟩ (fun v9 u H locs hp w => ?_)
      obtain ⟨f2, rfl, rfl, hw, hn, hk1⟩ := hp
      have hk := hk.tr hk1
      generalize f2 = f at w hw hk
      refine lv_pop hx hb dX6_worth_43 rfl ?_
      obtain ⟨x8, ex8, h⟩ := iv_some h
      refine lv_iinc (v := x8) (lv' := [(4, .int x8), (0, .ref (ad 0 0)), (1, .int a1), (2, .int a2), (3, .int a3)]) hx hb dX6_worth_44 hl (k := 4) rfl ex8.symm (by decide) rfl (fun ls hl => ?_)
      refine lv_goto (tgt := 32) hx hb dX6_worth_47 (by decide) ?_
      exact hk32 a1 a2 a3 x8 S6 h f H locs w hw hn hk ls (lv_sub hl [1, 2, 3, 4, 0] rfl)
  dsimp only [F_X6_worth] at h
  obtain ⟨f, ef⟩ : ∃ z, z = f0 := ⟨_, rfl⟩
  rw [← ef] at w hw
  have hk : Kp ad P L f0 f := by rw [ef]; exact Kp.rf
  obtain ⟨H, eH⟩ : ∃ z, z = s.heap := ⟨_, rfl⟩
  obtain ⟨locs, el⟩ : ∃ z : List Loc, z = [] := ⟨_, rfl⟩
  rw [← eH, ← el] at w ⊢
  refine lv_iload_n hx hb dX6_worth_0 rfl (lv_at hl 1 rfl) ?_
  rcases bx_some h with ⟨v9, S10, h11, h⟩ | ⟨e12, v9, S10, h11, h⟩
  rotate_left
  · refine t_xcallS (n := 1) C w (c_X6_needCell l hls D K b0 sa _ L _ ad P hP S0 hw hn p1 (e12 + 1) v9 S10 h11) gw_554 gw_552 gw_553 gw_1 ⟨by decide, by decide, by decide +kernel⟩ rfl rfl ⟨by decide, by decide⟩ rfl hl.1 rfl (Nat.le_of_ble_eq_true rfl) dX6_worth_1 ⟨Nat.le_of_ble_eq_true rfl, Nat.le_of_ble_eq_true rfl⟩ (fun E ce q9 u H locs hp w hcell hv0 hcl => ?_) (fun v9 u H locs hp w => absurd hp.1 (Nat.succ_ne_zero _))
    obtain ⟨⟨he, hE⟩, f2, rfl, hw, hn, hk1⟩ := hp
    exact t_xout w htb hlk hcell hv0 hcl ⟨sz_e h he hE, _, rfl, sz_w h hw, sz_n h hn, hk.tr hk1⟩ (by decide) (by decide)
  refine t_xcallS (n := 1) C w (c_X6_needCell l hls D K b0 sa _ L _ ad P hP S0 hw hn p1 0 v9 S10 h11) gw_554 gw_552 gw_553 gw_1 ⟨by decide, by decide, by decide +kernel⟩ rfl rfl ⟨by decide, by decide⟩ rfl hl.1 rfl (Nat.le_of_ble_eq_true rfl) dX6_worth_1 ⟨Nat.le_of_ble_eq_true rfl, Nat.le_of_ble_eq_true rfl⟩ (fun E ce q9 u H locs hp w hcell hv0 hcl => absurd rfl hp.1.1) (fun v9 u H locs hp w => ?_)
  obtain ⟨-, rfl, f2, rfl, hw, hn, hk1⟩ := hp
  have hk := hk.tr hk1
  generalize f2 = f at w hw hk
  refine lv_iload_n hx hb dX6_worth_4 rfl (lv_at hl 2 rfl) ?_
  rcases bx_some h with ⟨v13, S14, h15, h⟩ | ⟨e16, v13, S14, h15, h⟩
  rotate_left
  · refine t_xcallS (n := 1) C w (c_X6_needCell l hls D K b0 sa _ L _ ad P hP S10 hw hn p2 (e16 + 1) v13 S14 h15) gw_554 gw_552 gw_553 gw_1 ⟨by decide, by decide, by decide +kernel⟩ rfl rfl ⟨by decide, by decide⟩ rfl hl.1 rfl (Nat.le_of_ble_eq_true rfl) dX6_worth_5 ⟨Nat.le_of_ble_eq_true rfl, Nat.le_of_ble_eq_true rfl⟩ (fun E ce q9 u H locs hp w hcell hv0 hcl => ?_) (fun v9 u H locs hp w => absurd hp.1 (Nat.succ_ne_zero _))
    obtain ⟨⟨he, hE⟩, f2, rfl, hw, hn, hk1⟩ := hp
    exact t_xout w htb hlk hcell hv0 hcl ⟨sz_e h he hE, _, rfl, sz_w h hw, sz_n h hn, hk.tr hk1⟩ (by decide) (by decide)
  refine t_xcallS (n := 1) C w (c_X6_needCell l hls D K b0 sa _ L _ ad P hP S10 hw hn p2 0 v13 S14 h15) gw_554 gw_552 gw_553 gw_1 ⟨by decide, by decide, by decide +kernel⟩ rfl rfl ⟨by decide, by decide⟩ rfl hl.1 rfl (Nat.le_of_ble_eq_true rfl) dX6_worth_5 ⟨Nat.le_of_ble_eq_true rfl, Nat.le_of_ble_eq_true rfl⟩ (fun E ce q9 u H locs hp w hcell hv0 hcl => absurd rfl hp.1.1) (fun v9 u H locs hp w => ?_)
  obtain ⟨-, rfl, f2, rfl, hw, hn, hk1⟩ := hp
  have hk := hk.tr hk1
  generalize f2 = f at w hw hk
  refine lv_iload_n hx hb dX6_worth_8 rfl (lv_at hl 3 rfl) ?_
  refine lv_iconst (v := 1) hx hb dX6_worth_9 (by decide) ?_
  refine lv_bipush (v := 20) hx hb dX6_worth_10 (by decide) ?_
  obtain ⟨v17, S18, h19, h⟩ := bd_some h
  refine t_callS (n := 3) C w (c_X6_within l D K b0 sa _ L _ ad P hP S14 hw hn p3 1 20 v17 S18 h19) gw_376 gw_374 gw_375 gw_1 ⟨by decide, by decide, by decide +kernel⟩ rfl rfl ⟨by decide, by decide⟩ rfl hl.1 rfl (Nat.le_of_ble_eq_true rfl) dX6_worth_12 ⟨Nat.le_of_ble_eq_true rfl, Nat.le_of_ble_eq_true rfl⟩ (fun v9 u H locs hp w => ?_)
  obtain ⟨f2, rfl, rfl, hw, hn, hk1⟩ := hp
  have hk := hk.tr hk1
  generalize f2 = f at w hw hk
  rcases bx_some h with ⟨v20, S21, h22, h⟩ | ⟨e23, v20, S21, h22, h⟩
  rotate_left
  · refine t_xcallS (n := 1) C w (c_X6_need l hls D K b0 sa _ L _ ad P hP S18 hw hn v17 (e23 + 1) v20 S21 h22) gw_625 gw_623 gw_624 gw_1 ⟨by decide, by decide, by decide +kernel⟩ rfl rfl ⟨by decide, by decide⟩ rfl hl.1 rfl (Nat.le_of_ble_eq_true rfl) dX6_worth_15 ⟨Nat.le_of_ble_eq_true rfl, Nat.le_of_ble_eq_true rfl⟩ (fun E ce q9 u H locs hp w hcell hv0 hcl => ?_) (fun v9 u H locs hp w => absurd hp.1 (Nat.succ_ne_zero _))
    obtain ⟨⟨he, hE⟩, f2, rfl, hw, hn, hk1⟩ := hp
    exact t_xout w htb hlk hcell hv0 hcl ⟨sz_e h he hE, _, rfl, sz_w h hw, sz_n h hn, hk.tr hk1⟩ (by decide) (by decide)
  refine t_xcallS (n := 1) C w (c_X6_need l hls D K b0 sa _ L _ ad P hP S18 hw hn v17 0 v20 S21 h22) gw_625 gw_623 gw_624 gw_1 ⟨by decide, by decide, by decide +kernel⟩ rfl rfl ⟨by decide, by decide⟩ rfl hl.1 rfl (Nat.le_of_ble_eq_true rfl) dX6_worth_15 ⟨Nat.le_of_ble_eq_true rfl, Nat.le_of_ble_eq_true rfl⟩ (fun E ce q9 u H locs hp w hcell hv0 hcl => absurd rfl hp.1.1) (fun v9 u H locs hp w => ?_)
  obtain ⟨-, rfl, f2, rfl, hw, hn, hk1⟩ := hp
  have hk := hk.tr hk1
  generalize f2 = f at w hw hk
  refine lv_aload_n hx hb dX6_worth_18 rfl (lv_at hl 0 rfl) ?_
  refine u_getr C w hw (hP _ _ (isn_f rfl rfl (by decide))) rfl (N := 18) rfl rfl cin_6 1 (by decide) (by decide) (a2 := 1) (i2 := 1) rfl gw_288 dX6_worth_19 ?_
  refine lv_aload_n hx hb dX6_worth_22 rfl (lv_at hl 0 rfl) ?_
  refine u_getr C w hw (hP _ _ (isn_f rfl rfl (by decide))) rfl (N := 18) rfl rfl cin_6 0 (by decide) (by decide) (a2 := 1) (i2 := 0) rfl gw_287 dX6_worth_23 ?_
  obtain ⟨v24, S25, h26, h⟩ := bd_some h
  refine u_callV (n := 1) C w hw (hP _ _ (isn_f rfl rfl (by decide))) rfl rfl rfl (c_X0_copyFrom l D K b0 sa _ L _ ad P hP S21 hw hn 1 (by decide) 0 (by decide) v24 S25 h26) gw_523 gw_520 gw_521 gw_522 gw_2 ⟨by decide, by decide, by decide +kernel⟩ rfl rfl ⟨by decide, by decide⟩ rfl hl.1 rfl (Nat.le_of_ble_eq_true rfl) dX6_worth_26 ⟨Nat.le_of_ble_eq_true rfl, Nat.le_of_ble_eq_true rfl⟩ (fun v9 u H locs hp w => ?_)
  obtain ⟨f2, rfl, rfl, hw, hn, hk1⟩ := hp
  have hk := hk.tr hk1
  generalize f2 = f at w hw hk
  refine lv_iconst (v := 1) hx hb dX6_worth_29 (by decide) ?_
  refine lv_istore (lv' := [(4, .int 1), (0, .ref (ad 0 0)), (1, .int p1), (2, .int p2), (3, .int p3)]) hx hb dX6_worth_30 hl (by decide) rfl (fun ls hl => ?_)
  exact J32  fuel p1 p2 p3 1 S25 h f H locs w hw hn hk ls (lv_sub hl [1, 2, 3, 4, 0] rfl)
theorem dX6_bide_0 : decode cX6_bide 0 = .ok (.iload_n 1, 1) := by decide +kernel
theorem dX6_bide_1 : decode cX6_bide 1 = .ok (.invokestatic 85, 3) := by decide +kernel
theorem dX6_bide_4 : decode cX6_bide 4 = .ok (.iload_n 2, 1) := by decide +kernel
theorem dX6_bide_5 : decode cX6_bide 5 = .ok (.invokestatic 85, 3) := by decide +kernel
theorem dX6_bide_8 : decode cX6_bide 8 = .ok (.aload_n 0, 1) := by decide +kernel
theorem dX6_bide_9 : decode cX6_bide 9 = .ok (.getfield 16, 3) := by decide +kernel
theorem dX6_bide_12 : decode cX6_bide 12 = .ok (.aload_n 0, 1) := by decide +kernel
theorem dX6_bide_13 : decode cX6_bide 13 = .ok (.getfield 10, 3) := by decide +kernel
theorem dX6_bide_16 : decode cX6_bide 16 = .ok (.invokevirtual 266, 3) := by decide +kernel
theorem dX6_bide_19 : decode cX6_bide 19 = .ok (.iconst 1, 1) := by decide +kernel
theorem dX6_bide_20 : decode cX6_bide 20 = .ok (.istore_n 3, 1) := by decide +kernel
theorem dX6_bide_21 : decode cX6_bide 21 = .ok (.aload_n 0, 1) := by decide +kernel
theorem dX6_bide_22 : decode cX6_bide 22 = .ok (.iload_n 2, 1) := by decide +kernel
theorem dX6_bide_23 : decode cX6_bide 23 = .ok (.invokevirtual 272, 3) := by decide +kernel
theorem dX6_bide_26 : decode cX6_bide 26 = .ok (.istore 4, 2) := by decide +kernel
theorem dX6_bide_28 : decode cX6_bide 28 = .ok (.iconst 2, 1) := by decide +kernel
theorem dX6_bide_29 : decode cX6_bide 29 = .ok (.istore 5, 2) := by decide +kernel
theorem dX6_bide_31 : decode cX6_bide 31 = .ok (.iload 5, 2) := by decide +kernel
theorem dX6_bide_33 : decode cX6_bide 33 = .ok (.bipush 20, 2) := by decide +kernel
theorem dX6_bide_35 : decode cX6_bide 35 = .ok (.if_icmp .gt 36, 3) := by decide +kernel
theorem dX6_bide_38 : decode cX6_bide 38 = .ok (.aload_n 0, 1) := by decide +kernel
theorem dX6_bide_39 : decode cX6_bide 39 = .ok (.iload_n 1, 1) := by decide +kernel
theorem dX6_bide_40 : decode cX6_bide 40 = .ok (.invokevirtual 269, 3) := by decide +kernel
theorem dX6_bide_43 : decode cX6_bide 43 = .ok (.pop, 1) := by decide +kernel
theorem dX6_bide_44 : decode cX6_bide 44 = .ok (.aload_n 0, 1) := by decide +kernel
theorem dX6_bide_45 : decode cX6_bide 45 = .ok (.iload_n 2, 1) := by decide +kernel
theorem dX6_bide_46 : decode cX6_bide 46 = .ok (.invokevirtual 272, 3) := by decide +kernel
theorem dX6_bide_49 : decode cX6_bide 49 = .ok (.istore 6, 2) := by decide +kernel
theorem dX6_bide_51 : decode cX6_bide 51 = .ok (.iload 6, 2) := by decide +kernel
theorem dX6_bide_53 : decode cX6_bide 53 = .ok (.iload 4, 2) := by decide +kernel
theorem dX6_bide_55 : decode cX6_bide 55 = .ok (.if_icmp .le 10, 3) := by decide +kernel
theorem dX6_bide_58 : decode cX6_bide 58 = .ok (.iload 6, 2) := by decide +kernel
theorem dX6_bide_60 : decode cX6_bide 60 = .ok (.istore 4, 2) := by decide +kernel
theorem dX6_bide_62 : decode cX6_bide 62 = .ok (.iload 5, 2) := by decide +kernel
theorem dX6_bide_64 : decode cX6_bide 64 = .ok (.istore_n 3, 1) := by decide +kernel
theorem dX6_bide_65 : decode cX6_bide 65 = .ok (.iinc 5 1, 3) := by decide +kernel
theorem dX6_bide_68 : decode cX6_bide 68 = .ok (.goto (-37), 3) := by decide +kernel
theorem dX6_bide_71 : decode cX6_bide 71 = .ok (.iload_n 3, 1) := by decide +kernel
theorem dX6_bide_72 : decode cX6_bide 72 = .ok (.ireturn, 1) := by decide +kernel
noncomputable def B_X6_bide_65 (k31 : (Int32 × Int32 × Int32 × Int32 × Int32) → fS → Option ((Nat × Int32) × fS)) (a1 : Int32) (a2 : Int32) (a3 : Int32) (a4 : Int32) (a5 : Int32) (S : fS) : Option ((Nat × Int32) × fS) := iv (a5 + Int32.ofInt 1) (fun x1 => k31 (a1, a2, a3, a4, x1) S)
noncomputable def B_X6_bide_31 (k31 : (Int32 × Int32 × Int32 × Int32 × Int32) → fS → Option ((Nat × Int32) × fS)) : (Int32 × Int32 × Int32 × Int32 × Int32) → fS → Option ((Nat × Int32) × fS) := fun ⟨a1, a2, a3, a4, a5⟩ S => bb ((20 : Int32) < a5) (some ((0, a3), S)) (bd (F_X6_tryOnCopy a1 S) (fun v3 S4 => bd (F_X6_worthOnCopy a2 S4) (fun v6 S7 => bb (v6 ≤ a4) (B_X6_bide_65 k31 a1 a2 a3 a4 a5 S7) (B_X6_bide_65 k31 a1 a2 a5 v6 a5 S7))))
noncomputable def F_X6_bide (p1 : Int32) (p2 : Int32) (S0 : fS) : Option ((Nat × Int32) × fS) := bx (F_X6_needCell p1 S0) (fun v10 S11 => bx (F_X6_needCell p2 S11) (fun v14 S15 => bd (F_X0_copyFrom 1 0 S15) (fun v18 S19 => bd (F_X6_worthOnCopy p2 S19) (fun v21 S22 => lp (B_X6_bide_31 ) fuel (p1, p2, 1, v21, 2) S22))))
set_option maxHeartbeats 4000000 in
set_option maxRecDepth 100000 in
theorem c_X6_bide (l : Launch) (hls : l.stackTraces = false) (D : va_G) (K : Nat → ClassId) (b0 : Nat) (sa : sT) (sz : Nat) (L : List Nat) (f0 : Nat → va_E) (ad : Nat → Nat → Nat) (P : Nat → Nat → Prop) {n : Nat × Nat} (hP : ∀ a i : Nat, isn n a i → P a i) (S0 : fS) (hw : PW K ad P S0 L f0) (hn : S0.2.2.1 = n) (hprobe : 0 < n.1) (p1 : Int32) (p2 : Int32) (ec : Nat) (v : Int32) (S1 : fS) (h : F_X6_bide p1 p2 S0 = some ((ec, v), S1)) : vx_Met l yX6_bide (.code yX6_bide cX6_bide 7 (some .int) :: gt) { frames := 7, cells := 2, slots := 12, locals := 138 } (va_Pc [.ref (ad 0 0), .int p1, .int p2] (hPre D K b0 sa sz L f0)) (hQ D K b0 (fun v9 u9 => ec = 0 ∧ v9 = some (.int v) ∧ ∃ f2 : Nat → va_E, u9 = lU L f2 ∧ PW K ad P S1 L f2 ∧ S1.2.2.1 = n ∧ Kp ad P L f0 f2)) (hX D K b0 (fun E u9 => (ec ≠ 0 ∧ E = exn ec) ∧ ∃ f2 : Nat → va_E, u9 = lU L f2 ∧ PW K ad P S1 L f2 ∧ S1.2.2.1 = n ∧ Kp ad P L f0 f2)) 2 12 (fun q => b0 ≤ q) := by
  refine t_xof (own := RX6) (by decide) rfl ?_ (Nat.le_of_ble_eq_true rfl)
  intro p e s m below meth c ls C w hsz hr hlk htb hl
  have hx := C.1
  have hb := C.2.1
  have hl : lv_has ls 7 [(0, .ref (ad 0 0)), (1, .int p1), (2, .int p2)] := hl
  have J65 : ∀ (k31 : (Int32 × Int32 × Int32 × Int32 × Int32) → fS → Option ((Nat × Int32) × fS)) (hk31 : ∀ (a1 : Int32) (a2 : Int32) (a3 : Int32) (a4 : Int32) (a5 : Int32) (S : fS), k31 (a1, a2, a3, a4, a5) S = some ((ec, v), S1) → Gw D K b0 sa ad P n L f0 p l e { frames := 7, cells := 2, slots := 12, locals := 138 } s m [.ref (ad 0 0), .int p1, .int p2].toArray below meth c 7 (vx_MQ below (hQ D K b0 (fun v9 u9 => ec = 0 ∧ v9 = some (.int v) ∧ ∃ f2 : Nat → va_E, u9 = lU L f2 ∧ PW K ad P S1 L f2 ∧ S1.2.2.1 = n ∧ Kp ad P L f0 f2)) (hX D K b0 (fun E u9 => (ec ≠ 0 ∧ E = exn ec) ∧ ∃ f2 : Nat → va_E, u9 = lU L f2 ∧ PW K ad P S1 L f2 ∧ S1.2.2.1 = n ∧ Kp ad P L f0 f2)) [.ref (ad 0 0), .int p1, .int p2].toArray s 2 12 (fun q => b0 ≤ q)) 2 12 31 [(0, .ref (ad 0 0)), (1, .int a1), (2, .int a2), (3, .int a3), (4, .int a4), (5, .int a5)] [] S) (a1 : Int32) (a2 : Int32) (a3 : Int32) (a4 : Int32) (a5 : Int32) (S : fS), B_X6_bide_65 k31 a1 a2 a3 a4 a5 S = some ((ec, v), S1) → Gw D K b0 sa ad P n L f0 p l e { frames := 7, cells := 2, slots := 12, locals := 138 } s m [.ref (ad 0 0), .int p1, .int p2].toArray below meth c 7 (vx_MQ below (hQ D K b0 (fun v9 u9 => ec = 0 ∧ v9 = some (.int v) ∧ ∃ f2 : Nat → va_E, u9 = lU L f2 ∧ PW K ad P S1 L f2 ∧ S1.2.2.1 = n ∧ Kp ad P L f0 f2)) (hX D K b0 (fun E u9 => (ec ≠ 0 ∧ E = exn ec) ∧ ∃ f2 : Nat → va_E, u9 = lU L f2 ∧ PW K ad P S1 L f2 ∧ S1.2.2.1 = n ∧ Kp ad P L f0 f2)) [.ref (ad 0 0), .int p1, .int p2].toArray s 2 12 (fun q => b0 ≤ q)) 2 12 65 [(0, .ref (ad 0 0)), (1, .int a1), (2, .int a2), (3, .int a3), (4, .int a4), (5, .int a5)] [] S := by
    intro k31 hk31 a1 a2 a3 a4 a5 S h
    dsimp only [B_X6_bide_65] at h
    intro f H locs w hw hn hk ls hl
    obtain ⟨x1, ex1, h⟩ := iv_some h
    refine lv_iinc (v := x1) (lv' := [(5, .int x1), (0, .ref (ad 0 0)), (1, .int a1), (2, .int a2), (3, .int a3), (4, .int a4)]) hx hb dX6_bide_65 hl (k := 5) rfl ex1.symm (by decide) rfl (fun ls hl => ?_)
    refine lv_goto (tgt := 31) hx hb dX6_bide_68 (by decide) ?_
    exact hk31 a1 a2 a3 a4 x1 S h f H locs w hw hn hk ls (lv_sub hl [1, 2, 3, 4, 5, 0] rfl)
  have J31 : ∀ (fu : Nat) (a1 : Int32) (a2 : Int32) (a3 : Int32) (a4 : Int32) (a5 : Int32) (S : fS), lp (B_X6_bide_31 ) fu (a1, a2, a3, a4, a5) S = some ((ec, v), S1) → Gw D K b0 sa ad P n L f0 p l e { frames := 7, cells := 2, slots := 12, locals := 138 } s m [.ref (ad 0 0), .int p1, .int p2].toArray below meth c 7 (vx_MQ below (hQ D K b0 (fun v9 u9 => ec = 0 ∧ v9 = some (.int v) ∧ ∃ f2 : Nat → va_E, u9 = lU L f2 ∧ PW K ad P S1 L f2 ∧ S1.2.2.1 = n ∧ Kp ad P L f0 f2)) (hX D K b0 (fun E u9 => (ec ≠ 0 ∧ E = exn ec) ∧ ∃ f2 : Nat → va_E, u9 = lU L f2 ∧ PW K ad P S1 L f2 ∧ S1.2.2.1 = n ∧ Kp ad P L f0 f2)) [.ref (ad 0 0), .int p1, .int p2].toArray s 2 12 (fun q => b0 ≤ q)) 2 12 31 [(0, .ref (ad 0 0)), (1, .int a1), (2, .int a2), (3, .int a3), (4, .int a4), (5, .int a5)] [] S := by
    intro fu a1 a2 a3 a4 a5 S h
    refine lp_some (G := (fun q S => Gw D K b0 sa ad P n L f0 p l e { frames := 7, cells := 2, slots := 12, locals := 138 } s m [.ref (ad 0 0), .int p1, .int p2].toArray below meth c 7 (vx_MQ below (hQ D K b0 (fun v9 u9 => ec = 0 ∧ v9 = some (.int v) ∧ ∃ f2 : Nat → va_E, u9 = lU L f2 ∧ PW K ad P S1 L f2 ∧ S1.2.2.1 = n ∧ Kp ad P L f0 f2)) (hX D K b0 (fun E u9 => (ec ≠ 0 ∧ E = exn ec) ∧ ∃ f2 : Nat → va_E, u9 = lU L f2 ∧ PW K ad P S1 L f2 ∧ S1.2.2.1 = n ∧ Kp ad P L f0 f2)) [.ref (ad 0 0), .int p1, .int p2].toArray s 2 12 (fun q => b0 ≤ q)) 2 12 31 [(0, .ref (ad 0 0)), (1, .int q.1), (2, .int q.2.1), (3, .int q.2.2.1), (4, .int q.2.2.2.1), (5, .int q.2.2.2.2)] [] S)) (fun k31 hk31 q S h => ?_) fu (a1, a2, a3, a4, a5) S h
    obtain ⟨a1, a2, a3, a4, a5⟩ := q
    have hk31 : ∀ (a1 : Int32) (a2 : Int32) (a3 : Int32) (a4 : Int32) (a5 : Int32) (S : fS), k31 (a1, a2, a3, a4, a5) S = some ((ec, v), S1) → Gw D K b0 sa ad P n L f0 p l e { frames := 7, cells := 2, slots := 12, locals := 138 } s m [.ref (ad 0 0), .int p1, .int p2].toArray below meth c 7 (vx_MQ below (hQ D K b0 (fun v9 u9 => ec = 0 ∧ v9 = some (.int v) ∧ ∃ f2 : Nat → va_E, u9 = lU L f2 ∧ PW K ad P S1 L f2 ∧ S1.2.2.1 = n ∧ Kp ad P L f0 f2)) (hX D K b0 (fun E u9 => (ec ≠ 0 ∧ E = exn ec) ∧ ∃ f2 : Nat → va_E, u9 = lU L f2 ∧ PW K ad P S1 L f2 ∧ S1.2.2.1 = n ∧ Kp ad P L f0 f2)) [.ref (ad 0 0), .int p1, .int p2].toArray s 2 12 (fun q => b0 ≤ q)) 2 12 31 [(0, .ref (ad 0 0)), (1, .int a1), (2, .int a2), (3, .int a3), (4, .int a4), (5, .int a5)] [] S := fun a1 a2 a3 a4 a5 S h => hk31 (a1, a2, a3, a4, a5) S h
    dsimp only [B_X6_bide_31] at h
    intro f H locs w hw hn hk ls hl
    refine lv_iload hx hb dX6_bide_31 (lv_at hl 5 rfl) ?_
    refine lv_bipush (v := 20) hx hb dX6_bide_33 (by decide) ?_
    refine lv_icmp_gt (tgt := 71) hx hb dX6_bide_35 (by decide) (fun c2 => ?_) (fun c2 => ?_)
    · have h := bb_t h c2
      refine lv_iload_n hx hb dX6_bide_71 rfl (lv_at hl 3 rfl) ?_
      refine vx_ret ?_
      exact t_iret C hr hlk w ⟨sx_e h, sx_v h, _, rfl, sx_w h hw, sx_n h hn, hk⟩ (by decide) (by decide) dX6_bide_72
    · have h := bb_f h c2
      refine lv_aload_n hx hb dX6_bide_38 rfl (lv_at hl 0 rfl) ?_
      refine lv_iload_n hx hb dX6_bide_39 rfl (lv_at hl 1 rfl) ?_
      obtain ⟨v3, S4, h5, h⟩ := bd_some h
      refine u_callV (n := 1) C w hw (hP _ _ (isn_f rfl rfl (by decide))) rfl rfl rfl (c_X6_tryOnCopy l D K b0 sa _ L _ ad P hP S hw hn hprobe a1 v3 S4 h5) gw_1066 gw_1063 gw_1065 gs_18 gw_1 ⟨by decide, by decide, by decide +kernel⟩ rfl rfl ⟨by decide, by decide⟩ rfl hl.1 rfl (Nat.le_of_ble_eq_true rfl) dX6_bide_40 ⟨Nat.le_of_ble_eq_true rfl, Nat.le_of_ble_eq_true rfl⟩ (fun v9 u H locs hp w => ?_)
      obtain ⟨f2, rfl, rfl, hw, hn, hk1⟩ := hp
      have hk := hk.tr hk1
      generalize f2 = f at w hw hk
      refine lv_pop hx hb dX6_bide_43 rfl ?_
      refine lv_aload_n hx hb dX6_bide_44 rfl (lv_at hl 0 rfl) ?_
      refine lv_iload_n hx hb dX6_bide_45 rfl (lv_at hl 2 rfl) ?_
      obtain ⟨v6, S7, h8, h⟩ := bd_some h
      refine u_callV (n := 1) C w hw (hP _ _ (isn_f rfl rfl (by decide))) rfl rfl rfl (c_X6_worthOnCopy l D K b0 sa _ L _ ad P hP S4 hw hn hprobe a2 v6 S7 h8) gw_1074 gw_1071 gw_1073 gs_20 gw_1 ⟨by decide, by decide, by decide +kernel⟩ rfl rfl ⟨by decide, by decide⟩ rfl hl.1 rfl (Nat.le_of_ble_eq_true rfl) dX6_bide_46 ⟨Nat.le_of_ble_eq_true rfl, Nat.le_of_ble_eq_true rfl⟩ (fun v9 u H locs hp w => ?_)
      obtain ⟨f2, rfl, rfl, hw, hn, hk1⟩ := hp
      have hk := hk.tr hk1
      generalize f2 = f at w hw hk
      refine lv_istore (lv' := [(6, .int v6), (0, .ref (ad 0 0)), (1, .int a1), (2, .int a2), (3, .int a3), (4, .int a4), (5, .int a5)]) hx hb dX6_bide_49 hl (by decide) rfl (fun ls hl => ?_)
      refine lv_iload hx hb dX6_bide_51 (lv_at hl 0 rfl) ?_
      refine lv_iload hx hb dX6_bide_53 (lv_at hl 5 rfl) ?_
      refine lv_icmp_le (tgt := 65) hx hb dX6_bide_55 (by decide) (fun c9 => ?_) (fun c9 => ?_)
      · have h := bb_t h c9
        exact J65 k31 hk31 a1 a2 a3 a4 a5 S7 h f H locs w hw hn hk ls (lv_sub hl [1, 2, 3, 4, 5, 6] rfl)
      · have h := bb_f h c9
        refine lv_iload hx hb dX6_bide_58 (lv_at hl 0 rfl) ?_
        refine lv_istore (lv' := [(4, .int v6), (6, .int v6), (0, .ref (ad 0 0)), (1, .int a1), (2, .int a2), (3, .int a3), (5, .int a5)]) hx hb dX6_bide_60 hl (by decide) rfl (fun ls hl => ?_)
        refine lv_iload hx hb dX6_bide_62 (lv_at hl 6 rfl) ?_
        refine lv_istore_n (lv' := [(3, .int a5), (4, .int v6), (6, .int v6), (0, .ref (ad 0 0)), (1, .int a1), (2, .int a2), (5, .int a5)]) hx hb dX6_bide_64 rfl hl (by decide) rfl (fun ls hl => ?_)
        exact J65 k31 hk31 a1 a2 a5 v6 a5 S7 h f H locs w hw hn hk ls (lv_sub hl [3, 4, 5, 0, 1, 6] rfl)
  dsimp only [F_X6_bide] at h
  obtain ⟨f, ef⟩ : ∃ z, z = f0 := ⟨_, rfl⟩
  rw [← ef] at w hw
  have hk : Kp ad P L f0 f := by rw [ef]; exact Kp.rf
  obtain ⟨H, eH⟩ : ∃ z, z = s.heap := ⟨_, rfl⟩
  obtain ⟨locs, el⟩ : ∃ z : List Loc, z = [] := ⟨_, rfl⟩
  rw [← eH, ← el] at w ⊢
  refine lv_iload_n hx hb dX6_bide_0 rfl (lv_at hl 1 rfl) ?_
  rcases bx_some h with ⟨v10, S11, h12, h⟩ | ⟨e13, v10, S11, h12, h⟩
  rotate_left
  · refine t_xcallS (n := 1) C w (c_X6_needCell l hls D K b0 sa _ L _ ad P hP S0 hw hn p1 (e13 + 1) v10 S11 h12) gw_554 gw_552 gw_553 gw_1 ⟨by decide, by decide, by decide +kernel⟩ rfl rfl ⟨by decide, by decide⟩ rfl hl.1 rfl (Nat.le_of_ble_eq_true rfl) dX6_bide_1 ⟨Nat.le_of_ble_eq_true rfl, Nat.le_of_ble_eq_true rfl⟩ (fun E ce q9 u H locs hp w hcell hv0 hcl => ?_) (fun v9 u H locs hp w => absurd hp.1 (Nat.succ_ne_zero _))
    obtain ⟨⟨he, hE⟩, f2, rfl, hw, hn, hk1⟩ := hp
    exact t_xout w htb hlk hcell hv0 hcl ⟨sz_e h he hE, _, rfl, sz_w h hw, sz_n h hn, hk.tr hk1⟩ (by decide) (by decide)
  refine t_xcallS (n := 1) C w (c_X6_needCell l hls D K b0 sa _ L _ ad P hP S0 hw hn p1 0 v10 S11 h12) gw_554 gw_552 gw_553 gw_1 ⟨by decide, by decide, by decide +kernel⟩ rfl rfl ⟨by decide, by decide⟩ rfl hl.1 rfl (Nat.le_of_ble_eq_true rfl) dX6_bide_1 ⟨Nat.le_of_ble_eq_true rfl, Nat.le_of_ble_eq_true rfl⟩ (fun E ce q9 u H locs hp w hcell hv0 hcl => absurd rfl hp.1.1) (fun v9 u H locs hp w => ?_)
  obtain ⟨-, rfl, f2, rfl, hw, hn, hk1⟩ := hp
  have hk := hk.tr hk1
  generalize f2 = f at w hw hk
  refine lv_iload_n hx hb dX6_bide_4 rfl (lv_at hl 2 rfl) ?_
  rcases bx_some h with ⟨v14, S15, h16, h⟩ | ⟨e17, v14, S15, h16, h⟩
  rotate_left
  · refine t_xcallS (n := 1) C w (c_X6_needCell l hls D K b0 sa _ L _ ad P hP S11 hw hn p2 (e17 + 1) v14 S15 h16) gw_554 gw_552 gw_553 gw_1 ⟨by decide, by decide, by decide +kernel⟩ rfl rfl ⟨by decide, by decide⟩ rfl hl.1 rfl (Nat.le_of_ble_eq_true rfl) dX6_bide_5 ⟨Nat.le_of_ble_eq_true rfl, Nat.le_of_ble_eq_true rfl⟩ (fun E ce q9 u H locs hp w hcell hv0 hcl => ?_) (fun v9 u H locs hp w => absurd hp.1 (Nat.succ_ne_zero _))
    obtain ⟨⟨he, hE⟩, f2, rfl, hw, hn, hk1⟩ := hp
    exact t_xout w htb hlk hcell hv0 hcl ⟨sz_e h he hE, _, rfl, sz_w h hw, sz_n h hn, hk.tr hk1⟩ (by decide) (by decide)
  refine t_xcallS (n := 1) C w (c_X6_needCell l hls D K b0 sa _ L _ ad P hP S11 hw hn p2 0 v14 S15 h16) gw_554 gw_552 gw_553 gw_1 ⟨by decide, by decide, by decide +kernel⟩ rfl rfl ⟨by decide, by decide⟩ rfl hl.1 rfl (Nat.le_of_ble_eq_true rfl) dX6_bide_5 ⟨Nat.le_of_ble_eq_true rfl, Nat.le_of_ble_eq_true rfl⟩ (fun E ce q9 u H locs hp w hcell hv0 hcl => absurd rfl hp.1.1) (fun v9 u H locs hp w => ?_)
  obtain ⟨-, rfl, f2, rfl, hw, hn, hk1⟩ := hp
  have hk := hk.tr hk1
  generalize f2 = f at w hw hk
  refine lv_aload_n hx hb dX6_bide_8 rfl (lv_at hl 0 rfl) ?_
  refine u_getr C w hw (hP _ _ (isn_f rfl rfl (by decide))) rfl (N := 18) rfl rfl cin_6 1 (by decide) (by decide) (a2 := 1) (i2 := 1) rfl gw_288 dX6_bide_9 ?_
  refine lv_aload_n hx hb dX6_bide_12 rfl (lv_at hl 0 rfl) ?_
  refine u_getr C w hw (hP _ _ (isn_f rfl rfl (by decide))) rfl (N := 18) rfl rfl cin_6 0 (by decide) (by decide) (a2 := 1) (i2 := 0) rfl gw_287 dX6_bide_13 ?_
  obtain ⟨v18, S19, h20, h⟩ := bd_some h
  refine u_callV (n := 1) C w hw (hP _ _ (isn_f rfl rfl (by decide))) rfl rfl rfl (c_X0_copyFrom l D K b0 sa _ L _ ad P hP S15 hw hn 1 (by decide) 0 (by decide) v18 S19 h20) gw_523 gw_520 gw_521 gw_522 gw_2 ⟨by decide, by decide, by decide +kernel⟩ rfl rfl ⟨by decide, by decide⟩ rfl hl.1 rfl (Nat.le_of_ble_eq_true rfl) dX6_bide_16 ⟨Nat.le_of_ble_eq_true rfl, Nat.le_of_ble_eq_true rfl⟩ (fun v9 u H locs hp w => ?_)
  obtain ⟨f2, rfl, rfl, hw, hn, hk1⟩ := hp
  have hk := hk.tr hk1
  generalize f2 = f at w hw hk
  refine lv_iconst (v := 1) hx hb dX6_bide_19 (by decide) ?_
  refine lv_istore_n (lv' := [(3, .int 1), (0, .ref (ad 0 0)), (1, .int p1), (2, .int p2)]) hx hb dX6_bide_20 rfl hl (by decide) rfl (fun ls hl => ?_)
  refine lv_aload_n hx hb dX6_bide_21 rfl (lv_at hl 1 rfl) ?_
  refine lv_iload_n hx hb dX6_bide_22 rfl (lv_at hl 3 rfl) ?_
  obtain ⟨v21, S22, h23, h⟩ := bd_some h
  refine u_callV (n := 1) C w hw (hP _ _ (isn_f rfl rfl (by decide))) rfl rfl rfl (c_X6_worthOnCopy l D K b0 sa _ L _ ad P hP S19 hw hn hprobe p2 v21 S22 h23) gw_1074 gw_1071 gw_1073 gs_20 gw_1 ⟨by decide, by decide, by decide +kernel⟩ rfl rfl ⟨by decide, by decide⟩ rfl hl.1 rfl (Nat.le_of_ble_eq_true rfl) dX6_bide_23 ⟨Nat.le_of_ble_eq_true rfl, Nat.le_of_ble_eq_true rfl⟩ (fun v9 u H locs hp w => ?_)
  obtain ⟨f2, rfl, rfl, hw, hn, hk1⟩ := hp
  have hk := hk.tr hk1
  generalize f2 = f at w hw hk
  refine lv_istore (lv' := [(4, .int v21), (3, .int 1), (0, .ref (ad 0 0)), (1, .int p1), (2, .int p2)]) hx hb dX6_bide_26 hl (by decide) rfl (fun ls hl => ?_)
  refine lv_iconst (v := 2) hx hb dX6_bide_28 (by decide) ?_
  refine lv_istore (lv' := [(5, .int 2), (4, .int v21), (3, .int 1), (0, .ref (ad 0 0)), (1, .int p1), (2, .int p2)]) hx hb dX6_bide_29 hl (by decide) rfl (fun ls hl => ?_)
  exact J31  fuel p1 p2 1 v21 2 S22 h f H locs w hw hn hk ls (lv_sub hl [3, 4, 5, 2, 1, 0] rfl)
theorem dX6_player_0 : decode cX6_player 0 = .ok (.iload_n 1, 1) := by decide +kernel
theorem dX6_player_1 : decode cX6_player 1 = .ok (.invokestatic 85, 3) := by decide +kernel
theorem dX6_player_4 : decode cX6_player 4 = .ok (.iload_n 2, 1) := by decide +kernel
theorem dX6_player_5 : decode cX6_player 5 = .ok (.iconst 1, 1) := by decide +kernel
theorem dX6_player_6 : decode cX6_player 6 = .ok (.bipush 99, 2) := by decide +kernel
theorem dX6_player_8 : decode cX6_player 8 = .ok (.invokestatic 92, 3) := by decide +kernel
theorem dX6_player_11 : decode cX6_player 11 = .ok (.ifCond .eq 27, 3) := by decide +kernel
theorem dX6_player_14 : decode cX6_player 14 = .ok (.iload_n 3, 1) := by decide +kernel
theorem dX6_player_15 : decode cX6_player 15 = .ok (.iconst 0, 1) := by decide +kernel
theorem dX6_player_16 : decode cX6_player 16 = .ok (.bipush 99, 2) := by decide +kernel
theorem dX6_player_18 : decode cX6_player 18 = .ok (.invokestatic 92, 3) := by decide +kernel
theorem dX6_player_21 : decode cX6_player 21 = .ok (.ifCond .eq 17, 3) := by decide +kernel
theorem dX6_player_24 : decode cX6_player 24 = .ok (.iload 4, 2) := by decide +kernel
theorem dX6_player_26 : decode cX6_player 26 = .ok (.iconst 0, 1) := by decide +kernel
theorem dX6_player_27 : decode cX6_player 27 = .ok (.iconst 3, 1) := by decide +kernel
theorem dX6_player_28 : decode cX6_player 28 = .ok (.invokestatic 92, 3) := by decide +kernel
theorem dX6_player_31 : decode cX6_player 31 = .ok (.ifCond .eq 7, 3) := by decide +kernel
theorem dX6_player_34 : decode cX6_player 34 = .ok (.iconst 1, 1) := by decide +kernel
theorem dX6_player_35 : decode cX6_player 35 = .ok (.goto 4, 3) := by decide +kernel
theorem dX6_player_38 : decode cX6_player 38 = .ok (.iconst 0, 1) := by decide +kernel
theorem dX6_player_39 : decode cX6_player 39 = .ok (.invokestatic 96, 3) := by decide +kernel
theorem dX6_player_42 : decode cX6_player 42 = .ok (.aload_n 0, 1) := by decide +kernel
theorem dX6_player_43 : decode cX6_player 43 = .ok (.getfield 16, 3) := by decide +kernel
theorem dX6_player_46 : decode cX6_player 46 = .ok (.aload_n 0, 1) := by decide +kernel
theorem dX6_player_47 : decode cX6_player 47 = .ok (.getfield 10, 3) := by decide +kernel
theorem dX6_player_50 : decode cX6_player 50 = .ok (.invokevirtual 266, 3) := by decide +kernel
theorem dX6_player_53 : decode cX6_player 53 = .ok (.iload_n 2, 1) := by decide +kernel
theorem dX6_player_54 : decode cX6_player 54 = .ok (.istore 5, 2) := by decide +kernel
theorem dX6_player_56 : decode cX6_player 56 = .ok (.iconst 0, 1) := by decide +kernel
theorem dX6_player_57 : decode cX6_player 57 = .ok (.istore 6, 2) := by decide +kernel
theorem dX6_player_59 : decode cX6_player 59 = .ok (.iconst 0, 1) := by decide +kernel
theorem dX6_player_60 : decode cX6_player 60 = .ok (.istore 7, 2) := by decide +kernel
theorem dX6_player_62 : decode cX6_player 62 = .ok (.iconst 0, 1) := by decide +kernel
theorem dX6_player_63 : decode cX6_player 63 = .ok (.istore 8, 2) := by decide +kernel
theorem dX6_player_65 : decode cX6_player 65 = .ok (.iload 6, 2) := by decide +kernel
theorem dX6_player_67 : decode cX6_player 67 = .ok (.iload_n 3, 1) := by decide +kernel
theorem dX6_player_68 : decode cX6_player 68 = .ok (.if_icmp .ge 78, 3) := by decide +kernel
theorem dX6_player_71 : decode cX6_player 71 = .ok (.iload 5, 2) := by decide +kernel
theorem dX6_player_73 : decode cX6_player 73 = .ok (.ifCond .le 73, 3) := by decide +kernel
theorem dX6_player_76 : decode cX6_player 76 = .ok (.aload_n 0, 1) := by decide +kernel
theorem dX6_player_77 : decode cX6_player 77 = .ok (.iload_n 1, 1) := by decide +kernel
theorem dX6_player_78 : decode cX6_player 78 = .ok (.invokevirtual 269, 3) := by decide +kernel
theorem dX6_player_81 : decode cX6_player 81 = .ok (.istore 9, 2) := by decide +kernel
theorem dX6_player_83 : decode cX6_player 83 = .ok (.iinc 6 1, 3) := by decide +kernel
theorem dX6_player_86 : decode cX6_player 86 = .ok (.iload 7, 2) := by decide +kernel
theorem dX6_player_88 : decode cX6_player 88 = .ok (.iload 9, 2) := by decide +kernel
theorem dX6_player_90 : decode cX6_player 90 = .ok (.iconst 2, 1) := by decide +kernel
theorem dX6_player_91 : decode cX6_player 91 = .ok (.if_icmp .eq 9, 3) := by decide +kernel
theorem dX6_player_94 : decode cX6_player 94 = .ok (.iload 9, 2) := by decide +kernel
theorem dX6_player_96 : decode cX6_player 96 = .ok (.iconst 3, 1) := by decide +kernel
theorem dX6_player_97 : decode cX6_player 97 = .ok (.if_icmp .ne 7, 3) := by decide +kernel
theorem dX6_player_100 : decode cX6_player 100 = .ok (.iconst 1, 1) := by decide +kernel
theorem dX6_player_101 : decode cX6_player 101 = .ok (.goto 4, 3) := by decide +kernel
theorem dX6_player_104 : decode cX6_player 104 = .ok (.iconst 0, 1) := by decide +kernel
theorem dX6_player_105 : decode cX6_player 105 = .ok (.iadd, 1) := by decide +kernel
theorem dX6_player_106 : decode cX6_player 106 = .ok (.istore 7, 2) := by decide +kernel
theorem dX6_player_108 : decode cX6_player 108 = .ok (.iload 8, 2) := by decide +kernel
theorem dX6_player_110 : decode cX6_player 110 = .ok (.iload 9, 2) := by decide +kernel
theorem dX6_player_112 : decode cX6_player 112 = .ok (.iconst 5, 1) := by decide +kernel
theorem dX6_player_113 : decode cX6_player 113 = .ok (.if_icmp .ne 7, 3) := by decide +kernel
theorem dX6_player_116 : decode cX6_player 116 = .ok (.iconst 1, 1) := by decide +kernel
theorem dX6_player_117 : decode cX6_player 117 = .ok (.goto 4, 3) := by decide +kernel
theorem dX6_player_120 : decode cX6_player 120 = .ok (.iconst 0, 1) := by decide +kernel
theorem dX6_player_121 : decode cX6_player 121 = .ok (.iadd, 1) := by decide +kernel
theorem dX6_player_122 : decode cX6_player 122 = .ok (.istore 8, 2) := by decide +kernel
theorem dX6_player_124 : decode cX6_player 124 = .ok (.iconst 0, 1) := by decide +kernel
theorem dX6_player_125 : decode cX6_player 125 = .ok (.bipush 99, 2) := by decide +kernel
theorem dX6_player_127 : decode cX6_player 127 = .ok (.iload 5, 2) := by decide +kernel
theorem dX6_player_129 : decode cX6_player 129 = .ok (.iload 9, 2) := by decide +kernel
theorem dX6_player_131 : decode cX6_player 131 = .ok (.invokestatic 297, 3) := by decide +kernel
theorem dX6_player_134 : decode cX6_player 134 = .ok (.iadd, 1) := by decide +kernel
theorem dX6_player_135 : decode cX6_player 135 = .ok (.invokestatic 300, 3) := by decide +kernel
theorem dX6_player_138 : decode cX6_player 138 = .ok (.invokestatic 303, 3) := by decide +kernel
theorem dX6_player_141 : decode cX6_player 141 = .ok (.istore 5, 2) := by decide +kernel
theorem dX6_player_143 : decode cX6_player 143 = .ok (.goto (-78), 3) := by decide +kernel
theorem dX6_player_146 : decode cX6_player 146 = .ok (.iload 4, 2) := by decide +kernel
theorem dX6_player_148 : decode cX6_player 148 = .ok (.ifCond .ne 8, 3) := by decide +kernel
theorem dX6_player_151 : decode cX6_player 151 = .ok (.iload 6, 2) := by decide +kernel
theorem dX6_player_153 : decode cX6_player 153 = .ok (.goto 27, 3) := by decide +kernel
theorem dX6_player_156 : decode cX6_player 156 = .ok (.iload 4, 2) := by decide +kernel
theorem dX6_player_158 : decode cX6_player 158 = .ok (.iconst 1, 1) := by decide +kernel
theorem dX6_player_159 : decode cX6_player 159 = .ok (.if_icmp .ne 8, 3) := by decide +kernel
theorem dX6_player_162 : decode cX6_player 162 = .ok (.iload 7, 2) := by decide +kernel
theorem dX6_player_164 : decode cX6_player 164 = .ok (.goto 16, 3) := by decide +kernel
theorem dX6_player_167 : decode cX6_player 167 = .ok (.iload 4, 2) := by decide +kernel
theorem dX6_player_169 : decode cX6_player 169 = .ok (.iconst 2, 1) := by decide +kernel
theorem dX6_player_170 : decode cX6_player 170 = .ok (.if_icmp .ne 8, 3) := by decide +kernel
theorem dX6_player_173 : decode cX6_player 173 = .ok (.iload 5, 2) := by decide +kernel
theorem dX6_player_175 : decode cX6_player 175 = .ok (.goto 5, 3) := by decide +kernel
theorem dX6_player_178 : decode cX6_player 178 = .ok (.iload 8, 2) := by decide +kernel
theorem dX6_player_180 : decode cX6_player 180 = .ok (.ireturn, 1) := by decide +kernel
noncomputable def B_X6_player_121 (k65 : (Int32 × Int32 × Int32 × Int32 × Int32 × Int32 × Int32) → fS → Option ((Nat × Int32) × fS)) (a1 : Int32) (a3 : Int32) (a4 : Int32) (a5 : Int32) (a6 : Int32) (a7 : Int32) (a9 : Int32) (t0 : Int32) (t1 : Int32) (S : fS) : Option ((Nat × Int32) × fS) := iv (t1 + t0) (fun x1 => bd (F_X6_faithGiven a9 S) (fun v2 S3 => iv (a5 + v2) (fun x5 => iv ((if x5 < (99 : Int32) then x5 else (99 : Int32))) (fun x6 => iv ((if (0 : Int32) < x6 then x6 else (0 : Int32))) (fun x7 => k65 (a1, a3, a4, x7, a6, a7, x1) S3)))))
noncomputable def B_X6_player_105 (k65 : (Int32 × Int32 × Int32 × Int32 × Int32 × Int32 × Int32) → fS → Option ((Nat × Int32) × fS)) (a1 : Int32) (a3 : Int32) (a4 : Int32) (a5 : Int32) (a6 : Int32) (a8 : Int32) (a9 : Int32) (t0 : Int32) (t1 : Int32) (S : fS) : Option ((Nat × Int32) × fS) := iv (t1 + t0) (fun x8 => bb (a9 = (5 : Int32)) (B_X6_player_121 k65 a1 a3 a4 a5 a6 x8 a9 1 a8 S) (B_X6_player_121 k65 a1 a3 a4 a5 a6 x8 a9 0 a8 S))
noncomputable def B_X6_player_100 (k65 : (Int32 × Int32 × Int32 × Int32 × Int32 × Int32 × Int32) → fS → Option ((Nat × Int32) × fS)) (a1 : Int32) (a3 : Int32) (a4 : Int32) (a5 : Int32) (a6 : Int32) (a8 : Int32) (a9 : Int32) (t0 : Int32) (S : fS) : Option ((Nat × Int32) × fS) := B_X6_player_105 k65 a1 a3 a4 a5 a6 a8 a9 1 t0 S
noncomputable def B_X6_player_146 (a4 : Int32) (a5 : Int32) (a6 : Int32) (a7 : Int32) (a8 : Int32) (S : fS) : Option ((Nat × Int32) × fS) := bb (a4 = (0 : Int32)) (some ((0, a6), S)) (bb (a4 = (1 : Int32)) (some ((0, a7), S)) (bb (a4 = (2 : Int32)) (some ((0, a5), S)) (some ((0, a8), S))))
noncomputable def B_X6_player_65 (k65 : (Int32 × Int32 × Int32 × Int32 × Int32 × Int32 × Int32) → fS → Option ((Nat × Int32) × fS)) : (Int32 × Int32 × Int32 × Int32 × Int32 × Int32 × Int32) → fS → Option ((Nat × Int32) × fS) := fun ⟨a1, a3, a4, a5, a6, a7, a8⟩ S => bb (a3 ≤ a6) (B_X6_player_146  a4 a5 a6 a7 a8 S) (bb (a5 ≤ (0 : Int32)) (B_X6_player_146  a4 a5 a6 a7 a8 S) (bd (F_X6_tryOnCopy a1 S) (fun v15 S16 => iv (a6 + Int32.ofInt 1) (fun x18 => bb (v15 = (2 : Int32)) (B_X6_player_100 k65 a1 a3 a4 a5 x18 a8 v15 a7 S16) (bb (v15 = (3 : Int32)) (B_X6_player_100 k65 a1 a3 a4 a5 x18 a8 v15 a7 S16) (B_X6_player_105 k65 a1 a3 a4 a5 x18 a8 v15 0 a7 S16))))))
noncomputable def B_X6_player_39 (a1 : Int32) (a2 : Int32) (a3 : Int32) (a4 : Int32) (t0 : Int32) (S : fS) : Option ((Nat × Int32) × fS) := bx (F_X6_need t0 S) (fun v21 S22 => bd (F_X0_copyFrom 1 0 S22) (fun v25 S26 => lp (B_X6_player_65 ) fuel (a1, a3, a4, a2, 0, 0, 0) S26))
noncomputable def B_X6_player_38 (a1 : Int32) (a2 : Int32) (a3 : Int32) (a4 : Int32) (S : fS) : Option ((Nat × Int32) × fS) := B_X6_player_39  a1 a2 a3 a4 0 S
noncomputable def F_X6_player (p1 : Int32) (p2 : Int32) (p3 : Int32) (p4 : Int32) (S0 : fS) : Option ((Nat × Int32) × fS) := bx (F_X6_needCell p1 S0) (fun v28 S29 => bd (F_X6_within p2 1 99 S29) (fun v32 S33 => bb (v32 = (0 : Int32)) (B_X6_player_38  p1 p2 p3 p4 S33) (bd (F_X6_within p3 0 99 S33) (fun v36 S37 => bb (v36 = (0 : Int32)) (B_X6_player_38  p1 p2 p3 p4 S37) (bd (F_X6_within p4 0 3 S37) (fun v40 S41 => bb (v40 = (0 : Int32)) (B_X6_player_38  p1 p2 p3 p4 S41) (B_X6_player_39  p1 p2 p3 p4 1 S41)))))))
set_option maxHeartbeats 4000000 in
set_option maxRecDepth 100000 in
theorem c_X6_player (l : Launch) (hls : l.stackTraces = false) (D : va_G) (K : Nat → ClassId) (b0 : Nat) (sa : sT) (sz : Nat) (L : List Nat) (f0 : Nat → va_E) (ad : Nat → Nat → Nat) (P : Nat → Nat → Prop) {n : Nat × Nat} (hP : ∀ a i : Nat, isn n a i → P a i) (S0 : fS) (hw : PW K ad P S0 L f0) (hn : S0.2.2.1 = n) (hprobe : 0 < n.1) (p1 : Int32) (p2 : Int32) (p3 : Int32) (p4 : Int32) (ec : Nat) (v : Int32) (S1 : fS) (h : F_X6_player p1 p2 p3 p4 S0 = some ((ec, v), S1)) : vx_Met l yX6_player (.code yX6_player cX6_player 10 (some .int) :: gt) { frames := 7, cells := 2, slots := 12, locals := 138 } (va_Pc [.ref (ad 0 0), .int p1, .int p2, .int p3, .int p4] (hPre D K b0 sa sz L f0)) (hQ D K b0 (fun v9 u9 => ec = 0 ∧ v9 = some (.int v) ∧ ∃ f2 : Nat → va_E, u9 = lU L f2 ∧ PW K ad P S1 L f2 ∧ S1.2.2.1 = n ∧ Kp ad P L f0 f2)) (hX D K b0 (fun E u9 => (ec ≠ 0 ∧ E = exn ec) ∧ ∃ f2 : Nat → va_E, u9 = lU L f2 ∧ PW K ad P S1 L f2 ∧ S1.2.2.1 = n ∧ Kp ad P L f0 f2)) 2 12 (fun q => b0 ≤ q) := by
  refine t_xof (own := RX6) (by decide) rfl ?_ (Nat.le_of_ble_eq_true rfl)
  intro p e s m below meth c ls C w hsz hr hlk htb hl
  have hx := C.1
  have hb := C.2.1
  have hl : lv_has ls 10 [(0, .ref (ad 0 0)), (1, .int p1), (2, .int p2), (3, .int p3), (4, .int p4)] := hl
  have J121 : ∀ (k65 : (Int32 × Int32 × Int32 × Int32 × Int32 × Int32 × Int32) → fS → Option ((Nat × Int32) × fS)) (hk65 : ∀ (a1 : Int32) (a3 : Int32) (a4 : Int32) (a5 : Int32) (a6 : Int32) (a7 : Int32) (a8 : Int32) (S : fS), k65 (a1, a3, a4, a5, a6, a7, a8) S = some ((ec, v), S1) → Gw D K b0 sa ad P n L f0 p l e { frames := 7, cells := 2, slots := 12, locals := 138 } s m [.ref (ad 0 0), .int p1, .int p2, .int p3, .int p4].toArray below meth c 10 (vx_MQ below (hQ D K b0 (fun v9 u9 => ec = 0 ∧ v9 = some (.int v) ∧ ∃ f2 : Nat → va_E, u9 = lU L f2 ∧ PW K ad P S1 L f2 ∧ S1.2.2.1 = n ∧ Kp ad P L f0 f2)) (hX D K b0 (fun E u9 => (ec ≠ 0 ∧ E = exn ec) ∧ ∃ f2 : Nat → va_E, u9 = lU L f2 ∧ PW K ad P S1 L f2 ∧ S1.2.2.1 = n ∧ Kp ad P L f0 f2)) [.ref (ad 0 0), .int p1, .int p2, .int p3, .int p4].toArray s 2 12 (fun q => b0 ≤ q)) 2 12 65 [(0, .ref (ad 0 0)), (1, .int a1), (3, .int a3), (4, .int a4), (5, .int a5), (6, .int a6), (7, .int a7), (8, .int a8)] [] S) (a1 : Int32) (a3 : Int32) (a4 : Int32) (a5 : Int32) (a6 : Int32) (a7 : Int32) (a9 : Int32) (t0 : Int32) (t1 : Int32) (S : fS), B_X6_player_121 k65 a1 a3 a4 a5 a6 a7 a9 t0 t1 S = some ((ec, v), S1) → Gw D K b0 sa ad P n L f0 p l e { frames := 7, cells := 2, slots := 12, locals := 138 } s m [.ref (ad 0 0), .int p1, .int p2, .int p3, .int p4].toArray below meth c 10 (vx_MQ below (hQ D K b0 (fun v9 u9 => ec = 0 ∧ v9 = some (.int v) ∧ ∃ f2 : Nat → va_E, u9 = lU L f2 ∧ PW K ad P S1 L f2 ∧ S1.2.2.1 = n ∧ Kp ad P L f0 f2)) (hX D K b0 (fun E u9 => (ec ≠ 0 ∧ E = exn ec) ∧ ∃ f2 : Nat → va_E, u9 = lU L f2 ∧ PW K ad P S1 L f2 ∧ S1.2.2.1 = n ∧ Kp ad P L f0 f2)) [.ref (ad 0 0), .int p1, .int p2, .int p3, .int p4].toArray s 2 12 (fun q => b0 ≤ q)) 2 12 121 [(0, .ref (ad 0 0)), (1, .int a1), (3, .int a3), (4, .int a4), (5, .int a5), (6, .int a6), (7, .int a7), (9, .int a9)] [.int t0, .int t1] S := by
    intro k65 hk65 a1 a3 a4 a5 a6 a7 a9 t0 t1 S h
    dsimp only [B_X6_player_121] at h
    intro f H locs w hw hn hk ls hl
    refine lv_iadd hx hb dX6_player_121 ?_
    refine u_iv h (fun x1 h => ?_)
    refine lv_istore (lv' := [(8, .int x1), (0, .ref (ad 0 0)), (1, .int a1), (3, .int a3), (4, .int a4), (5, .int a5), (6, .int a6), (7, .int a7), (9, .int a9)]) hx hb dX6_player_122 hl (by decide) rfl (fun ls hl => ?_)
    refine lv_iconst (v := 0) hx hb dX6_player_124 (by decide) ?_
    refine lv_bipush (v := 99) hx hb dX6_player_125 (by decide) ?_
    refine lv_iload hx hb dX6_player_127 (lv_at hl 5 rfl) ?_
    refine lv_iload hx hb dX6_player_129 (lv_at hl 8 rfl) ?_
    obtain ⟨v2, S3, h4, h⟩ := bd_some h
    refine t_callS (n := 1) C w (c_X6_faithGiven l D K b0 sa _ L _ ad P hP S hw hn a9 v2 S3 h4) gw_1136 gw_1134 gw_1135 gw_1 ⟨by decide, by decide, by decide +kernel⟩ rfl rfl ⟨by decide, by decide⟩ rfl hl.1 rfl (Nat.le_of_ble_eq_true rfl) dX6_player_131 ⟨Nat.le_of_ble_eq_true rfl, Nat.le_of_ble_eq_true rfl⟩ (fun v9 u H locs hp w => ?_)
    obtain ⟨f2, rfl, rfl, hw, hn, hk1⟩ := hp
    have hk := hk.tr hk1
    generalize f2 = f at w hw hk
    refine lv_iadd hx hb dX6_player_134 ?_
    refine u_iv h (fun x5 h => ?_)
    refine va_mmin hx hb (C.2.2.1.trans hl.1.symm) C.2.2.2.1 (C.2.2.2.2 _ gw_1015) (C.2.2.2.2 _ gw_409) (C.2.2.2.2 _ gw_15) (C.2.2.2.2 _ gw_410) (by decide) (Nat.le_of_ble_eq_true rfl) (by decide) (by decide) dX6_player_135 ?_
    refine u_iv h (fun x6 h => ?_)
    refine va_mmax hx hb (C.2.2.1.trans hl.1.symm) C.2.2.2.1 (C.2.2.2.2 _ gw_1016) (C.2.2.2.2 _ gw_412) (C.2.2.2.2 _ gw_15) (C.2.2.2.2 _ gw_413) (by decide) (Nat.le_of_ble_eq_true rfl) (by decide) (by decide) dX6_player_138 ?_
    refine u_iv h (fun x7 h => ?_)
    refine lv_istore (lv' := [(5, .int x7), (8, .int x1), (0, .ref (ad 0 0)), (1, .int a1), (3, .int a3), (4, .int a4), (6, .int a6), (7, .int a7), (9, .int a9)]) hx hb dX6_player_141 hl (by decide) rfl (fun ls hl => ?_)
    refine lv_goto (tgt := 65) hx hb dX6_player_143 (by decide) ?_
    exact hk65 a1 a3 a4 x7 a6 a7 x1 S3 h f H locs w hw hn hk ls (lv_sub hl [2, 3, 4, 5, 0, 6, 7, 1] rfl)
  have J105 : ∀ (k65 : (Int32 × Int32 × Int32 × Int32 × Int32 × Int32 × Int32) → fS → Option ((Nat × Int32) × fS)) (hk65 : ∀ (a1 : Int32) (a3 : Int32) (a4 : Int32) (a5 : Int32) (a6 : Int32) (a7 : Int32) (a8 : Int32) (S : fS), k65 (a1, a3, a4, a5, a6, a7, a8) S = some ((ec, v), S1) → Gw D K b0 sa ad P n L f0 p l e { frames := 7, cells := 2, slots := 12, locals := 138 } s m [.ref (ad 0 0), .int p1, .int p2, .int p3, .int p4].toArray below meth c 10 (vx_MQ below (hQ D K b0 (fun v9 u9 => ec = 0 ∧ v9 = some (.int v) ∧ ∃ f2 : Nat → va_E, u9 = lU L f2 ∧ PW K ad P S1 L f2 ∧ S1.2.2.1 = n ∧ Kp ad P L f0 f2)) (hX D K b0 (fun E u9 => (ec ≠ 0 ∧ E = exn ec) ∧ ∃ f2 : Nat → va_E, u9 = lU L f2 ∧ PW K ad P S1 L f2 ∧ S1.2.2.1 = n ∧ Kp ad P L f0 f2)) [.ref (ad 0 0), .int p1, .int p2, .int p3, .int p4].toArray s 2 12 (fun q => b0 ≤ q)) 2 12 65 [(0, .ref (ad 0 0)), (1, .int a1), (3, .int a3), (4, .int a4), (5, .int a5), (6, .int a6), (7, .int a7), (8, .int a8)] [] S) (a1 : Int32) (a3 : Int32) (a4 : Int32) (a5 : Int32) (a6 : Int32) (a8 : Int32) (a9 : Int32) (t0 : Int32) (t1 : Int32) (S : fS), B_X6_player_105 k65 a1 a3 a4 a5 a6 a8 a9 t0 t1 S = some ((ec, v), S1) → Gw D K b0 sa ad P n L f0 p l e { frames := 7, cells := 2, slots := 12, locals := 138 } s m [.ref (ad 0 0), .int p1, .int p2, .int p3, .int p4].toArray below meth c 10 (vx_MQ below (hQ D K b0 (fun v9 u9 => ec = 0 ∧ v9 = some (.int v) ∧ ∃ f2 : Nat → va_E, u9 = lU L f2 ∧ PW K ad P S1 L f2 ∧ S1.2.2.1 = n ∧ Kp ad P L f0 f2)) (hX D K b0 (fun E u9 => (ec ≠ 0 ∧ E = exn ec) ∧ ∃ f2 : Nat → va_E, u9 = lU L f2 ∧ PW K ad P S1 L f2 ∧ S1.2.2.1 = n ∧ Kp ad P L f0 f2)) [.ref (ad 0 0), .int p1, .int p2, .int p3, .int p4].toArray s 2 12 (fun q => b0 ≤ q)) 2 12 105 [(0, .ref (ad 0 0)), (1, .int a1), (3, .int a3), (4, .int a4), (5, .int a5), (6, .int a6), (8, .int a8), (9, .int a9)] [.int t0, .int t1] S := by
    intro k65 hk65 a1 a3 a4 a5 a6 a8 a9 t0 t1 S h
    dsimp only [B_X6_player_105] at h
    intro f H locs w hw hn hk ls hl
    refine lv_iadd hx hb dX6_player_105 ?_
    refine u_iv h (fun x8 h => ?_)
    refine lv_istore (lv' := [(7, .int x8), (0, .ref (ad 0 0)), (1, .int a1), (3, .int a3), (4, .int a4), (5, .int a5), (6, .int a6), (8, .int a8), (9, .int a9)]) hx hb dX6_player_106 hl (by decide) rfl (fun ls hl => ?_)
    refine lv_iload hx hb dX6_player_108 (lv_at hl 7 rfl) ?_
    refine lv_iload hx hb dX6_player_110 (lv_at hl 8 rfl) ?_
    refine lv_iconst (v := 5) hx hb dX6_player_112 (by decide) ?_
    refine lv_icmp_ne (tgt := 120) hx hb dX6_player_113 (by decide) (fun c9 => ?_) (fun c9 => ?_)
    · have h := bb_f h c9
      refine lv_iconst (v := 0) hx hb dX6_player_120 (by decide) ?_
      exact J121 k65 hk65 a1 a3 a4 a5 a6 x8 a9 0 a8 S h f H locs w hw hn hk ls (lv_sub hl [1, 2, 3, 4, 5, 6, 0, 8] rfl)
    · have h := bb_t h c9
      refine lv_iconst (v := 1) hx hb dX6_player_116 (by decide) ?_
      refine lv_goto (tgt := 121) hx hb dX6_player_117 (by decide) ?_
      exact J121 k65 hk65 a1 a3 a4 a5 a6 x8 a9 1 a8 S h f H locs w hw hn hk ls (lv_sub hl [1, 2, 3, 4, 5, 6, 0, 8] rfl)
  have J100 : ∀ (k65 : (Int32 × Int32 × Int32 × Int32 × Int32 × Int32 × Int32) → fS → Option ((Nat × Int32) × fS)) (hk65 : ∀ (a1 : Int32) (a3 : Int32) (a4 : Int32) (a5 : Int32) (a6 : Int32) (a7 : Int32) (a8 : Int32) (S : fS), k65 (a1, a3, a4, a5, a6, a7, a8) S = some ((ec, v), S1) → Gw D K b0 sa ad P n L f0 p l e { frames := 7, cells := 2, slots := 12, locals := 138 } s m [.ref (ad 0 0), .int p1, .int p2, .int p3, .int p4].toArray below meth c 10 (vx_MQ below (hQ D K b0 (fun v9 u9 => ec = 0 ∧ v9 = some (.int v) ∧ ∃ f2 : Nat → va_E, u9 = lU L f2 ∧ PW K ad P S1 L f2 ∧ S1.2.2.1 = n ∧ Kp ad P L f0 f2)) (hX D K b0 (fun E u9 => (ec ≠ 0 ∧ E = exn ec) ∧ ∃ f2 : Nat → va_E, u9 = lU L f2 ∧ PW K ad P S1 L f2 ∧ S1.2.2.1 = n ∧ Kp ad P L f0 f2)) [.ref (ad 0 0), .int p1, .int p2, .int p3, .int p4].toArray s 2 12 (fun q => b0 ≤ q)) 2 12 65 [(0, .ref (ad 0 0)), (1, .int a1), (3, .int a3), (4, .int a4), (5, .int a5), (6, .int a6), (7, .int a7), (8, .int a8)] [] S) (a1 : Int32) (a3 : Int32) (a4 : Int32) (a5 : Int32) (a6 : Int32) (a8 : Int32) (a9 : Int32) (t0 : Int32) (S : fS), B_X6_player_100 k65 a1 a3 a4 a5 a6 a8 a9 t0 S = some ((ec, v), S1) → Gw D K b0 sa ad P n L f0 p l e { frames := 7, cells := 2, slots := 12, locals := 138 } s m [.ref (ad 0 0), .int p1, .int p2, .int p3, .int p4].toArray below meth c 10 (vx_MQ below (hQ D K b0 (fun v9 u9 => ec = 0 ∧ v9 = some (.int v) ∧ ∃ f2 : Nat → va_E, u9 = lU L f2 ∧ PW K ad P S1 L f2 ∧ S1.2.2.1 = n ∧ Kp ad P L f0 f2)) (hX D K b0 (fun E u9 => (ec ≠ 0 ∧ E = exn ec) ∧ ∃ f2 : Nat → va_E, u9 = lU L f2 ∧ PW K ad P S1 L f2 ∧ S1.2.2.1 = n ∧ Kp ad P L f0 f2)) [.ref (ad 0 0), .int p1, .int p2, .int p3, .int p4].toArray s 2 12 (fun q => b0 ≤ q)) 2 12 100 [(0, .ref (ad 0 0)), (1, .int a1), (3, .int a3), (4, .int a4), (5, .int a5), (6, .int a6), (8, .int a8), (9, .int a9)] [.int t0] S := by
    intro k65 hk65 a1 a3 a4 a5 a6 a8 a9 t0 S h
    dsimp only [B_X6_player_100] at h
    intro f H locs w hw hn hk ls hl
    refine lv_iconst (v := 1) hx hb dX6_player_100 (by decide) ?_
    refine lv_goto (tgt := 105) hx hb dX6_player_101 (by decide) ?_
    exact J105 k65 hk65 a1 a3 a4 a5 a6 a8 a9 1 t0 S h f H locs w hw hn hk ls (lv_sub hl [0, 1, 2, 3, 4, 5, 6, 7] rfl)
  have J146 : ∀ (a4 : Int32) (a5 : Int32) (a6 : Int32) (a7 : Int32) (a8 : Int32) (S : fS), B_X6_player_146  a4 a5 a6 a7 a8 S = some ((ec, v), S1) → Gw D K b0 sa ad P n L f0 p l e { frames := 7, cells := 2, slots := 12, locals := 138 } s m [.ref (ad 0 0), .int p1, .int p2, .int p3, .int p4].toArray below meth c 10 (vx_MQ below (hQ D K b0 (fun v9 u9 => ec = 0 ∧ v9 = some (.int v) ∧ ∃ f2 : Nat → va_E, u9 = lU L f2 ∧ PW K ad P S1 L f2 ∧ S1.2.2.1 = n ∧ Kp ad P L f0 f2)) (hX D K b0 (fun E u9 => (ec ≠ 0 ∧ E = exn ec) ∧ ∃ f2 : Nat → va_E, u9 = lU L f2 ∧ PW K ad P S1 L f2 ∧ S1.2.2.1 = n ∧ Kp ad P L f0 f2)) [.ref (ad 0 0), .int p1, .int p2, .int p3, .int p4].toArray s 2 12 (fun q => b0 ≤ q)) 2 12 146 [(4, .int a4), (5, .int a5), (6, .int a6), (7, .int a7), (8, .int a8)] [] S := by
    intro a4 a5 a6 a7 a8 S h
    dsimp only [B_X6_player_146] at h
    intro f H locs w hw hn hk ls hl
    refine lv_iload hx hb dX6_player_146 (lv_at hl 0 rfl) ?_
    refine lv_if_ne (tgt := 156) hx hb dX6_player_148 (by decide) (fun c10 => ?_) (fun c10 => ?_)
    · have h := bb_f h c10
      refine lv_iload hx hb dX6_player_156 (lv_at hl 0 rfl) ?_
      refine lv_iconst (v := 1) hx hb dX6_player_158 (by decide) ?_
      refine lv_icmp_ne (tgt := 167) hx hb dX6_player_159 (by decide) (fun c11 => ?_) (fun c11 => ?_)
      · have h := bb_f h c11
        refine lv_iload hx hb dX6_player_167 (lv_at hl 0 rfl) ?_
        refine lv_iconst (v := 2) hx hb dX6_player_169 (by decide) ?_
        refine lv_icmp_ne (tgt := 178) hx hb dX6_player_170 (by decide) (fun c12 => ?_) (fun c12 => ?_)
        · have h := bb_f h c12
          refine lv_iload hx hb dX6_player_178 (lv_at hl 4 rfl) ?_
          refine vx_ret ?_
          exact t_iret C hr hlk w ⟨sx_e h, sx_v h, _, rfl, sx_w h hw, sx_n h hn, hk⟩ (by decide) (by decide) dX6_player_180
        · have h := bb_t h c12
          refine lv_iload hx hb dX6_player_173 (lv_at hl 1 rfl) ?_
          refine lv_goto (tgt := 180) hx hb dX6_player_175 (by decide) ?_
          refine vx_ret ?_
          exact t_iret C hr hlk w ⟨sx_e h, sx_v h, _, rfl, sx_w h hw, sx_n h hn, hk⟩ (by decide) (by decide) dX6_player_180
      · have h := bb_t h c11
        refine lv_iload hx hb dX6_player_162 (lv_at hl 3 rfl) ?_
        refine lv_goto (tgt := 180) hx hb dX6_player_164 (by decide) ?_
        refine vx_ret ?_
        exact t_iret C hr hlk w ⟨sx_e h, sx_v h, _, rfl, sx_w h hw, sx_n h hn, hk⟩ (by decide) (by decide) dX6_player_180
    · have h := bb_t h c10
      refine lv_iload hx hb dX6_player_151 (lv_at hl 2 rfl) ?_
      refine lv_goto (tgt := 180) hx hb dX6_player_153 (by decide) ?_
      refine vx_ret ?_
      exact t_iret C hr hlk w ⟨sx_e h, sx_v h, _, rfl, sx_w h hw, sx_n h hn, hk⟩ (by decide) (by decide) dX6_player_180
  have J65 : ∀ (fu : Nat) (a1 : Int32) (a3 : Int32) (a4 : Int32) (a5 : Int32) (a6 : Int32) (a7 : Int32) (a8 : Int32) (S : fS), lp (B_X6_player_65 ) fu (a1, a3, a4, a5, a6, a7, a8) S = some ((ec, v), S1) → Gw D K b0 sa ad P n L f0 p l e { frames := 7, cells := 2, slots := 12, locals := 138 } s m [.ref (ad 0 0), .int p1, .int p2, .int p3, .int p4].toArray below meth c 10 (vx_MQ below (hQ D K b0 (fun v9 u9 => ec = 0 ∧ v9 = some (.int v) ∧ ∃ f2 : Nat → va_E, u9 = lU L f2 ∧ PW K ad P S1 L f2 ∧ S1.2.2.1 = n ∧ Kp ad P L f0 f2)) (hX D K b0 (fun E u9 => (ec ≠ 0 ∧ E = exn ec) ∧ ∃ f2 : Nat → va_E, u9 = lU L f2 ∧ PW K ad P S1 L f2 ∧ S1.2.2.1 = n ∧ Kp ad P L f0 f2)) [.ref (ad 0 0), .int p1, .int p2, .int p3, .int p4].toArray s 2 12 (fun q => b0 ≤ q)) 2 12 65 [(0, .ref (ad 0 0)), (1, .int a1), (3, .int a3), (4, .int a4), (5, .int a5), (6, .int a6), (7, .int a7), (8, .int a8)] [] S := by
    intro fu a1 a3 a4 a5 a6 a7 a8 S h
    refine lp_some (G := (fun q S => Gw D K b0 sa ad P n L f0 p l e { frames := 7, cells := 2, slots := 12, locals := 138 } s m [.ref (ad 0 0), .int p1, .int p2, .int p3, .int p4].toArray below meth c 10 (vx_MQ below (hQ D K b0 (fun v9 u9 => ec = 0 ∧ v9 = some (.int v) ∧ ∃ f2 : Nat → va_E, u9 = lU L f2 ∧ PW K ad P S1 L f2 ∧ S1.2.2.1 = n ∧ Kp ad P L f0 f2)) (hX D K b0 (fun E u9 => (ec ≠ 0 ∧ E = exn ec) ∧ ∃ f2 : Nat → va_E, u9 = lU L f2 ∧ PW K ad P S1 L f2 ∧ S1.2.2.1 = n ∧ Kp ad P L f0 f2)) [.ref (ad 0 0), .int p1, .int p2, .int p3, .int p4].toArray s 2 12 (fun q => b0 ≤ q)) 2 12 65 [(0, .ref (ad 0 0)), (1, .int q.1), (3, .int q.2.1), (4, .int q.2.2.1), (5, .int q.2.2.2.1), (6, .int q.2.2.2.2.1), (7, .int q.2.2.2.2.2.1), (8, .int q.2.2.2.2.2.2)] [] S)) (fun k65 hk65 q S h => ?_) fu (a1, a3, a4, a5, a6, a7, a8) S h
    obtain ⟨a1, a3, a4, a5, a6, a7, a8⟩ := q
    have hk65 : ∀ (a1 : Int32) (a3 : Int32) (a4 : Int32) (a5 : Int32) (a6 : Int32) (a7 : Int32) (a8 : Int32) (S : fS), k65 (a1, a3, a4, a5, a6, a7, a8) S = some ((ec, v), S1) → Gw D K b0 sa ad P n L f0 p l e { frames := 7, cells := 2, slots := 12, locals := 138 } s m [.ref (ad 0 0), .int p1, .int p2, .int p3, .int p4].toArray below meth c 10 (vx_MQ below (hQ D K b0 (fun v9 u9 => ec = 0 ∧ v9 = some (.int v) ∧ ∃ f2 : Nat → va_E, u9 = lU L f2 ∧ PW K ad P S1 L f2 ∧ S1.2.2.1 = n ∧ Kp ad P L f0 f2)) (hX D K b0 (fun E u9 => (ec ≠ 0 ∧ E = exn ec) ∧ ∃ f2 : Nat → va_E, u9 = lU L f2 ∧ PW K ad P S1 L f2 ∧ S1.2.2.1 = n ∧ Kp ad P L f0 f2)) [.ref (ad 0 0), .int p1, .int p2, .int p3, .int p4].toArray s 2 12 (fun q => b0 ≤ q)) 2 12 65 [(0, .ref (ad 0 0)), (1, .int a1), (3, .int a3), (4, .int a4), (5, .int a5), (6, .int a6), (7, .int a7), (8, .int a8)] [] S := fun a1 a3 a4 a5 a6 a7 a8 S h => hk65 (a1, a3, a4, a5, a6, a7, a8) S h
    dsimp only [B_X6_player_65] at h
    intro f H locs w hw hn hk ls hl
    refine lv_iload hx hb dX6_player_65 (lv_at hl 5 rfl) ?_
    refine lv_iload_n hx hb dX6_player_67 rfl (lv_at hl 2 rfl) ?_
    refine lv_icmp_ge (tgt := 146) hx hb dX6_player_68 (by decide) (fun c13 => ?_) (fun c13 => ?_)
    · have h := bb_t h c13
      exact J146  a4 a5 a6 a7 a8 S h f H locs w hw hn hk ls (lv_sub hl [3, 4, 5, 6, 7] rfl)
    · have h := bb_f h c13
      refine lv_iload hx hb dX6_player_71 (lv_at hl 4 rfl) ?_
      refine lv_if_le (tgt := 146) hx hb dX6_player_73 (by decide) (fun c14 => ?_) (fun c14 => ?_)
      · have h := bb_t h c14
        exact J146  a4 a5 a6 a7 a8 S h f H locs w hw hn hk ls (lv_sub hl [3, 4, 5, 6, 7] rfl)
      · have h := bb_f h c14
        refine lv_aload_n hx hb dX6_player_76 rfl (lv_at hl 0 rfl) ?_
        refine lv_iload_n hx hb dX6_player_77 rfl (lv_at hl 1 rfl) ?_
        obtain ⟨v15, S16, h17, h⟩ := bd_some h
        refine u_callV (n := 1) C w hw (hP _ _ (isn_f rfl rfl (by decide))) rfl rfl rfl (c_X6_tryOnCopy l D K b0 sa _ L _ ad P hP S hw hn hprobe a1 v15 S16 h17) gw_1066 gw_1063 gw_1065 gs_18 gw_1 ⟨by decide, by decide, by decide +kernel⟩ rfl rfl ⟨by decide, by decide⟩ rfl hl.1 rfl (Nat.le_of_ble_eq_true rfl) dX6_player_78 ⟨Nat.le_of_ble_eq_true rfl, Nat.le_of_ble_eq_true rfl⟩ (fun v9 u H locs hp w => ?_)
        obtain ⟨f2, rfl, rfl, hw, hn, hk1⟩ := hp
        have hk := hk.tr hk1
        generalize f2 = f at w hw hk
        refine lv_istore (lv' := [(9, .int v15), (0, .ref (ad 0 0)), (1, .int a1), (3, .int a3), (4, .int a4), (5, .int a5), (6, .int a6), (7, .int a7), (8, .int a8)]) hx hb dX6_player_81 hl (by decide) rfl (fun ls hl => ?_)
        obtain ⟨x18, ex18, h⟩ := iv_some h
        refine lv_iinc (v := x18) (lv' := [(6, .int x18), (9, .int v15), (0, .ref (ad 0 0)), (1, .int a1), (3, .int a3), (4, .int a4), (5, .int a5), (7, .int a7), (8, .int a8)]) hx hb dX6_player_83 hl (k := 6) rfl ex18.symm (by decide) rfl (fun ls hl => ?_)
        refine lv_iload hx hb dX6_player_86 (lv_at hl 7 rfl) ?_
        refine lv_iload hx hb dX6_player_88 (lv_at hl 1 rfl) ?_
        refine lv_iconst (v := 2) hx hb dX6_player_90 (by decide) ?_
        refine lv_icmp_eq (tgt := 100) hx hb dX6_player_91 (by decide) (fun c19 => ?_) (fun c19 => ?_)
        · have h := bb_t h c19
          exact J100 k65 hk65 a1 a3 a4 a5 x18 a8 v15 a7 S16 h f H locs w hw hn hk ls (lv_sub hl [2, 3, 4, 5, 6, 0, 8, 1] rfl)
        · have h := bb_f h c19
          refine lv_iload hx hb dX6_player_94 (lv_at hl 1 rfl) ?_
          refine lv_iconst (v := 3) hx hb dX6_player_96 (by decide) ?_
          refine lv_icmp_ne (tgt := 104) hx hb dX6_player_97 (by decide) (fun c20 => ?_) (fun c20 => ?_)
          · have h := bb_f h c20
            refine lv_iconst (v := 0) hx hb dX6_player_104 (by decide) ?_
            exact J105 k65 hk65 a1 a3 a4 a5 x18 a8 v15 0 a7 S16 h f H locs w hw hn hk ls (lv_sub hl [2, 3, 4, 5, 6, 0, 8, 1] rfl)
          · have h := bb_t h c20
            exact J100 k65 hk65 a1 a3 a4 a5 x18 a8 v15 a7 S16 h f H locs w hw hn hk ls (lv_sub hl [2, 3, 4, 5, 6, 0, 8, 1] rfl)
  have J39 : ∀ (a1 : Int32) (a2 : Int32) (a3 : Int32) (a4 : Int32) (t0 : Int32) (S : fS), B_X6_player_39  a1 a2 a3 a4 t0 S = some ((ec, v), S1) → Gw D K b0 sa ad P n L f0 p l e { frames := 7, cells := 2, slots := 12, locals := 138 } s m [.ref (ad 0 0), .int p1, .int p2, .int p3, .int p4].toArray below meth c 10 (vx_MQ below (hQ D K b0 (fun v9 u9 => ec = 0 ∧ v9 = some (.int v) ∧ ∃ f2 : Nat → va_E, u9 = lU L f2 ∧ PW K ad P S1 L f2 ∧ S1.2.2.1 = n ∧ Kp ad P L f0 f2)) (hX D K b0 (fun E u9 => (ec ≠ 0 ∧ E = exn ec) ∧ ∃ f2 : Nat → va_E, u9 = lU L f2 ∧ PW K ad P S1 L f2 ∧ S1.2.2.1 = n ∧ Kp ad P L f0 f2)) [.ref (ad 0 0), .int p1, .int p2, .int p3, .int p4].toArray s 2 12 (fun q => b0 ≤ q)) 1 6 39 [(0, .ref (ad 0 0)), (1, .int a1), (2, .int a2), (3, .int a3), (4, .int a4)] [.int t0] S := by
    intro a1 a2 a3 a4 t0 S h
    dsimp only [B_X6_player_39] at h
    intro f H locs w hw hn hk ls hl
    rcases bx_some h with ⟨v21, S22, h23, h⟩ | ⟨e24, v21, S22, h23, h⟩
    rotate_left
    · refine t_xcallS (n := 1) C w (c_X6_need l hls D K b0 sa _ L _ ad P hP S hw hn t0 (e24 + 1) v21 S22 h23) gw_625 gw_623 gw_624 gw_1 ⟨by decide, by decide, by decide +kernel⟩ rfl rfl ⟨by decide, by decide⟩ rfl hl.1 rfl (Nat.le_of_ble_eq_true rfl) dX6_player_39 ⟨Nat.le_of_ble_eq_true rfl, Nat.le_of_ble_eq_true rfl⟩ (fun E ce q9 u H locs hp w hcell hv0 hcl => ?_) (fun v9 u H locs hp w => absurd hp.1 (Nat.succ_ne_zero _))
      obtain ⟨⟨he, hE⟩, f2, rfl, hw, hn, hk1⟩ := hp
      exact t_xout w htb hlk hcell hv0 hcl ⟨sz_e h he hE, _, rfl, sz_w h hw, sz_n h hn, hk.tr hk1⟩ (by decide) (by decide)
    refine t_xcallS (n := 1) C w (c_X6_need l hls D K b0 sa _ L _ ad P hP S hw hn t0 0 v21 S22 h23) gw_625 gw_623 gw_624 gw_1 ⟨by decide, by decide, by decide +kernel⟩ rfl rfl ⟨by decide, by decide⟩ rfl hl.1 rfl (Nat.le_of_ble_eq_true rfl) dX6_player_39 ⟨Nat.le_of_ble_eq_true rfl, Nat.le_of_ble_eq_true rfl⟩ (fun E ce q9 u H locs hp w hcell hv0 hcl => absurd rfl hp.1.1) (fun v9 u H locs hp w => ?_)
    obtain ⟨-, rfl, f2, rfl, hw, hn, hk1⟩ := hp
    have hk := hk.tr hk1
    generalize f2 = f at w hw hk
    refine lv_aload_n hx hb dX6_player_42 rfl (lv_at hl 0 rfl) ?_
    refine u_getr C w hw (hP _ _ (isn_f rfl rfl (by decide))) rfl (N := 18) rfl rfl cin_6 1 (by decide) (by decide) (a2 := 1) (i2 := 1) rfl gw_288 dX6_player_43 ?_
    refine lv_aload_n hx hb dX6_player_46 rfl (lv_at hl 0 rfl) ?_
    refine u_getr C w hw (hP _ _ (isn_f rfl rfl (by decide))) rfl (N := 18) rfl rfl cin_6 0 (by decide) (by decide) (a2 := 1) (i2 := 0) rfl gw_287 dX6_player_47 ?_
    obtain ⟨v25, S26, h27, h⟩ := bd_some h
    refine u_callV (n := 1) C w hw (hP _ _ (isn_f rfl rfl (by decide))) rfl rfl rfl (c_X0_copyFrom l D K b0 sa _ L _ ad P hP S22 hw hn 1 (by decide) 0 (by decide) v25 S26 h27) gw_523 gw_520 gw_521 gw_522 gw_2 ⟨by decide, by decide, by decide +kernel⟩ rfl rfl ⟨by decide, by decide⟩ rfl hl.1 rfl (Nat.le_of_ble_eq_true rfl) dX6_player_50 ⟨Nat.le_of_ble_eq_true rfl, Nat.le_of_ble_eq_true rfl⟩ (fun v9 u H locs hp w => ?_)
    obtain ⟨f2, rfl, rfl, hw, hn, hk1⟩ := hp
    have hk := hk.tr hk1
    generalize f2 = f at w hw hk
    refine lv_iload_n hx hb dX6_player_53 rfl (lv_at hl 2 rfl) ?_
    refine lv_istore (lv' := [(5, .int a2), (0, .ref (ad 0 0)), (1, .int a1), (2, .int a2), (3, .int a3), (4, .int a4)]) hx hb dX6_player_54 hl (by decide) rfl (fun ls hl => ?_)
    refine lv_iconst (v := 0) hx hb dX6_player_56 (by decide) ?_
    refine lv_istore (lv' := [(6, .int 0), (5, .int a2), (0, .ref (ad 0 0)), (1, .int a1), (2, .int a2), (3, .int a3), (4, .int a4)]) hx hb dX6_player_57 hl (by decide) rfl (fun ls hl => ?_)
    refine lv_iconst (v := 0) hx hb dX6_player_59 (by decide) ?_
    refine lv_istore (lv' := [(7, .int 0), (6, .int 0), (5, .int a2), (0, .ref (ad 0 0)), (1, .int a1), (2, .int a2), (3, .int a3), (4, .int a4)]) hx hb dX6_player_60 hl (by decide) rfl (fun ls hl => ?_)
    refine lv_iconst (v := 0) hx hb dX6_player_62 (by decide) ?_
    refine lv_istore (lv' := [(8, .int 0), (7, .int 0), (6, .int 0), (5, .int a2), (0, .ref (ad 0 0)), (1, .int a1), (2, .int a2), (3, .int a3), (4, .int a4)]) hx hb dX6_player_63 hl (by decide) rfl (fun ls hl => ?_)
    exact J65  fuel a1 a3 a4 a2 0 0 0 S26 h f H locs w hw hn hk ls (lv_sub hl [4, 5, 7, 8, 3, 2, 1, 0] rfl)
  have J38 : ∀ (a1 : Int32) (a2 : Int32) (a3 : Int32) (a4 : Int32) (S : fS), B_X6_player_38  a1 a2 a3 a4 S = some ((ec, v), S1) → Gw D K b0 sa ad P n L f0 p l e { frames := 7, cells := 2, slots := 12, locals := 138 } s m [.ref (ad 0 0), .int p1, .int p2, .int p3, .int p4].toArray below meth c 10 (vx_MQ below (hQ D K b0 (fun v9 u9 => ec = 0 ∧ v9 = some (.int v) ∧ ∃ f2 : Nat → va_E, u9 = lU L f2 ∧ PW K ad P S1 L f2 ∧ S1.2.2.1 = n ∧ Kp ad P L f0 f2)) (hX D K b0 (fun E u9 => (ec ≠ 0 ∧ E = exn ec) ∧ ∃ f2 : Nat → va_E, u9 = lU L f2 ∧ PW K ad P S1 L f2 ∧ S1.2.2.1 = n ∧ Kp ad P L f0 f2)) [.ref (ad 0 0), .int p1, .int p2, .int p3, .int p4].toArray s 2 12 (fun q => b0 ≤ q)) 1 6 38 [(0, .ref (ad 0 0)), (1, .int a1), (2, .int a2), (3, .int a3), (4, .int a4)] [] S := by
    intro a1 a2 a3 a4 S h
    dsimp only [B_X6_player_38] at h
    intro f H locs w hw hn hk ls hl
    refine lv_iconst (v := 0) hx hb dX6_player_38 (by decide) ?_
    exact J39  a1 a2 a3 a4 0 S h f H locs w hw hn hk ls (lv_sub hl [0, 1, 2, 3, 4] rfl)
  dsimp only [F_X6_player] at h
  obtain ⟨f, ef⟩ : ∃ z, z = f0 := ⟨_, rfl⟩
  rw [← ef] at w hw
  have hk : Kp ad P L f0 f := by rw [ef]; exact Kp.rf
  obtain ⟨H, eH⟩ : ∃ z, z = s.heap := ⟨_, rfl⟩
  obtain ⟨locs, el⟩ : ∃ z : List Loc, z = [] := ⟨_, rfl⟩
  rw [← eH, ← el] at w ⊢
  refine lv_iload_n hx hb dX6_player_0 rfl (lv_at hl 1 rfl) ?_
  rcases bx_some h with ⟨v28, S29, h30, h⟩ | ⟨e31, v28, S29, h30, h⟩
  rotate_left
  · refine t_xcallS (n := 1) C w (c_X6_needCell l hls D K b0 sa _ L _ ad P hP S0 hw hn p1 (e31 + 1) v28 S29 h30) gw_554 gw_552 gw_553 gw_1 ⟨by decide, by decide, by decide +kernel⟩ rfl rfl ⟨by decide, by decide⟩ rfl hl.1 rfl (Nat.le_of_ble_eq_true rfl) dX6_player_1 ⟨Nat.le_of_ble_eq_true rfl, Nat.le_of_ble_eq_true rfl⟩ (fun E ce q9 u H locs hp w hcell hv0 hcl => ?_) (fun v9 u H locs hp w => absurd hp.1 (Nat.succ_ne_zero _))
    obtain ⟨⟨he, hE⟩, f2, rfl, hw, hn, hk1⟩ := hp
    exact t_xout w htb hlk hcell hv0 hcl ⟨sz_e h he hE, _, rfl, sz_w h hw, sz_n h hn, hk.tr hk1⟩ (by decide) (by decide)
  refine t_xcallS (n := 1) C w (c_X6_needCell l hls D K b0 sa _ L _ ad P hP S0 hw hn p1 0 v28 S29 h30) gw_554 gw_552 gw_553 gw_1 ⟨by decide, by decide, by decide +kernel⟩ rfl rfl ⟨by decide, by decide⟩ rfl hl.1 rfl (Nat.le_of_ble_eq_true rfl) dX6_player_1 ⟨Nat.le_of_ble_eq_true rfl, Nat.le_of_ble_eq_true rfl⟩ (fun E ce q9 u H locs hp w hcell hv0 hcl => absurd rfl hp.1.1) (fun v9 u H locs hp w => ?_)
  obtain ⟨-, rfl, f2, rfl, hw, hn, hk1⟩ := hp
  have hk := hk.tr hk1
  generalize f2 = f at w hw hk
  refine lv_iload_n hx hb dX6_player_4 rfl (lv_at hl 2 rfl) ?_
  refine lv_iconst (v := 1) hx hb dX6_player_5 (by decide) ?_
  refine lv_bipush (v := 99) hx hb dX6_player_6 (by decide) ?_
  obtain ⟨v32, S33, h34, h⟩ := bd_some h
  refine t_callS (n := 3) C w (c_X6_within l D K b0 sa _ L _ ad P hP S29 hw hn p2 1 99 v32 S33 h34) gw_376 gw_374 gw_375 gw_1 ⟨by decide, by decide, by decide +kernel⟩ rfl rfl ⟨by decide, by decide⟩ rfl hl.1 rfl (Nat.le_of_ble_eq_true rfl) dX6_player_8 ⟨Nat.le_of_ble_eq_true rfl, Nat.le_of_ble_eq_true rfl⟩ (fun v9 u H locs hp w => ?_)
  obtain ⟨f2, rfl, rfl, hw, hn, hk1⟩ := hp
  have hk := hk.tr hk1
  generalize f2 = f at w hw hk
  refine lv_if_eq (tgt := 38) hx hb dX6_player_11 (by decide) (fun c35 => ?_) (fun c35 => ?_)
  · have h := bb_t h c35
    exact J38  p1 p2 p3 p4 S33 h f H locs w hw hn hk ls (lv_sub hl [0, 1, 2, 3, 4] rfl)
  · have h := bb_f h c35
    refine lv_iload_n hx hb dX6_player_14 rfl (lv_at hl 3 rfl) ?_
    refine lv_iconst (v := 0) hx hb dX6_player_15 (by decide) ?_
    refine lv_bipush (v := 99) hx hb dX6_player_16 (by decide) ?_
    obtain ⟨v36, S37, h38, h⟩ := bd_some h
    refine t_callS (n := 3) C w (c_X6_within l D K b0 sa _ L _ ad P hP S33 hw hn p3 0 99 v36 S37 h38) gw_376 gw_374 gw_375 gw_1 ⟨by decide, by decide, by decide +kernel⟩ rfl rfl ⟨by decide, by decide⟩ rfl hl.1 rfl (Nat.le_of_ble_eq_true rfl) dX6_player_18 ⟨Nat.le_of_ble_eq_true rfl, Nat.le_of_ble_eq_true rfl⟩ (fun v9 u H locs hp w => ?_)
    obtain ⟨f2, rfl, rfl, hw, hn, hk1⟩ := hp
    have hk := hk.tr hk1
    generalize f2 = f at w hw hk
    refine lv_if_eq (tgt := 38) hx hb dX6_player_21 (by decide) (fun c39 => ?_) (fun c39 => ?_)
    · have h := bb_t h c39
      exact J38  p1 p2 p3 p4 S37 h f H locs w hw hn hk ls (lv_sub hl [0, 1, 2, 3, 4] rfl)
    · have h := bb_f h c39
      refine lv_iload hx hb dX6_player_24 (lv_at hl 4 rfl) ?_
      refine lv_iconst (v := 0) hx hb dX6_player_26 (by decide) ?_
      refine lv_iconst (v := 3) hx hb dX6_player_27 (by decide) ?_
      obtain ⟨v40, S41, h42, h⟩ := bd_some h
      refine t_callS (n := 3) C w (c_X6_within l D K b0 sa _ L _ ad P hP S37 hw hn p4 0 3 v40 S41 h42) gw_376 gw_374 gw_375 gw_1 ⟨by decide, by decide, by decide +kernel⟩ rfl rfl ⟨by decide, by decide⟩ rfl hl.1 rfl (Nat.le_of_ble_eq_true rfl) dX6_player_28 ⟨Nat.le_of_ble_eq_true rfl, Nat.le_of_ble_eq_true rfl⟩ (fun v9 u H locs hp w => ?_)
      obtain ⟨f2, rfl, rfl, hw, hn, hk1⟩ := hp
      have hk := hk.tr hk1
      generalize f2 = f at w hw hk
      refine lv_if_eq (tgt := 38) hx hb dX6_player_31 (by decide) (fun c43 => ?_) (fun c43 => ?_)
      · have h := bb_t h c43
        exact J38  p1 p2 p3 p4 S41 h f H locs w hw hn hk ls (lv_sub hl [0, 1, 2, 3, 4] rfl)
      · have h := bb_f h c43
        refine lv_iconst (v := 1) hx hb dX6_player_34 (by decide) ?_
        refine lv_goto (tgt := 39) hx hb dX6_player_35 (by decide) ?_
        exact J39  p1 p2 p3 p4 1 S41 h f H locs w hw hn hk ls (lv_sub hl [0, 1, 2, 3, 4] rfl)
theorem dX6_broken_0 : decode cX6_broken 0 = .ok (.iload_n 1, 1) := by decide +kernel
theorem dX6_broken_1 : decode cX6_broken 1 = .ok (.aload_n 0, 1) := by decide +kernel
theorem dX6_broken_2 : decode cX6_broken 2 = .ok (.getfield 39, 3) := by decide +kernel
theorem dX6_broken_5 : decode cX6_broken 5 = .ok (.invokestatic 113, 3) := by decide +kernel
theorem dX6_broken_8 : decode cX6_broken 8 = .ok (.iconst 0, 1) := by decide +kernel
theorem dX6_broken_9 : decode cX6_broken 9 = .ok (.istore_n 2, 1) := by decide +kernel
theorem dX6_broken_10 : decode cX6_broken 10 = .ok (.iload_n 2, 1) := by decide +kernel
theorem dX6_broken_11 : decode cX6_broken 11 = .ok (.aload_n 0, 1) := by decide +kernel
theorem dX6_broken_12 : decode cX6_broken 12 = .ok (.getfield 10, 3) := by decide +kernel
theorem dX6_broken_15 : decode cX6_broken 15 = .ok (.getfield 199, 3) := by decide +kernel
theorem dX6_broken_18 : decode cX6_broken 18 = .ok (.if_icmp .ge 35, 3) := by decide +kernel
theorem dX6_broken_21 : decode cX6_broken 21 = .ok (.aload_n 0, 1) := by decide +kernel
theorem dX6_broken_22 : decode cX6_broken 22 = .ok (.getfield 68, 3) := by decide +kernel
theorem dX6_broken_25 : decode cX6_broken 25 = .ok (.aload_n 0, 1) := by decide +kernel
theorem dX6_broken_26 : decode cX6_broken 26 = .ok (.getfield 36, 3) := by decide +kernel
theorem dX6_broken_29 : decode cX6_broken 29 = .ok (.iload_n 1, 1) := by decide +kernel
theorem dX6_broken_30 : decode cX6_broken 30 = .ok (.aaload, 1) := by decide +kernel
theorem dX6_broken_31 : decode cX6_broken 31 = .ok (.aload_n 0, 1) := by decide +kernel
theorem dX6_broken_32 : decode cX6_broken 32 = .ok (.getfield 10, 3) := by decide +kernel
theorem dX6_broken_35 : decode cX6_broken 35 = .ok (.iload_n 2, 1) := by decide +kernel
theorem dX6_broken_36 : decode cX6_broken 36 = .ok (.invokevirtual 205, 3) := by decide +kernel
theorem dX6_broken_39 : decode cX6_broken 39 = .ok (.invokevirtual 287, 3) := by decide +kernel
theorem dX6_broken_42 : decode cX6_broken 42 = .ok (.ifCond .ne 5, 3) := by decide +kernel
theorem dX6_broken_45 : decode cX6_broken 45 = .ok (.iload_n 2, 1) := by decide +kernel
theorem dX6_broken_46 : decode cX6_broken 46 = .ok (.ireturn, 1) := by decide +kernel
theorem dX6_broken_47 : decode cX6_broken 47 = .ok (.iinc 2 1, 3) := by decide +kernel
theorem dX6_broken_50 : decode cX6_broken 50 = .ok (.goto (-40), 3) := by decide +kernel
theorem dX6_broken_53 : decode cX6_broken 53 = .ok (.aload_n 0, 1) := by decide +kernel
theorem dX6_broken_54 : decode cX6_broken 54 = .ok (.iconst 0, 1) := by decide +kernel
theorem dX6_broken_55 : decode cX6_broken 55 = .ok (.invokevirtual 226, 3) := by decide +kernel
theorem dX6_broken_58 : decode cX6_broken 58 = .ok (.iconst (-1), 1) := by decide +kernel
theorem dX6_broken_59 : decode cX6_broken 59 = .ok (.if_icmp .ne 7, 3) := by decide +kernel
theorem dX6_broken_62 : decode cX6_broken 62 = .ok (.iconst 0, 1) := by decide +kernel
theorem dX6_broken_63 : decode cX6_broken 63 = .ok (.goto 4, 3) := by decide +kernel
theorem dX6_broken_66 : decode cX6_broken 66 = .ok (.iconst 1, 1) := by decide +kernel
theorem dX6_broken_67 : decode cX6_broken 67 = .ok (.istore_n 2, 1) := by decide +kernel
theorem dX6_broken_68 : decode cX6_broken 68 = .ok (.aload_n 0, 1) := by decide +kernel
theorem dX6_broken_69 : decode cX6_broken 69 = .ok (.getfield 75, 3) := by decide +kernel
theorem dX6_broken_72 : decode cX6_broken 72 = .ok (.aload_n 0, 1) := by decide +kernel
theorem dX6_broken_73 : decode cX6_broken 73 = .ok (.getfield 10, 3) := by decide +kernel
theorem dX6_broken_76 : decode cX6_broken 76 = .ok (.invokevirtual 178, 3) := by decide +kernel
theorem dX6_broken_79 : decode cX6_broken 79 = .ok (.aload_n 0, 1) := by decide +kernel
theorem dX6_broken_80 : decode cX6_broken 80 = .ok (.getfield 75, 3) := by decide +kernel
theorem dX6_broken_83 : decode cX6_broken 83 = .ok (.iload_n 2, 1) := by decide +kernel
theorem dX6_broken_84 : decode cX6_broken 84 = .ok (.putfield 291, 3) := by decide +kernel
theorem dX6_broken_87 : decode cX6_broken 87 = .ok (.aload_n 0, 1) := by decide +kernel
theorem dX6_broken_88 : decode cX6_broken 88 = .ok (.getfield 68, 3) := by decide +kernel
theorem dX6_broken_91 : decode cX6_broken 91 = .ok (.aload_n 0, 1) := by decide +kernel
theorem dX6_broken_92 : decode cX6_broken 92 = .ok (.getfield 36, 3) := by decide +kernel
theorem dX6_broken_95 : decode cX6_broken 95 = .ok (.iload_n 1, 1) := by decide +kernel
theorem dX6_broken_96 : decode cX6_broken 96 = .ok (.aaload, 1) := by decide +kernel
theorem dX6_broken_97 : decode cX6_broken 97 = .ok (.aload_n 0, 1) := by decide +kernel
theorem dX6_broken_98 : decode cX6_broken 98 = .ok (.getfield 75, 3) := by decide +kernel
theorem dX6_broken_101 : decode cX6_broken 101 = .ok (.invokevirtual 287, 3) := by decide +kernel
theorem dX6_broken_104 : decode cX6_broken 104 = .ok (.ifCond .eq 7, 3) := by decide +kernel
theorem dX6_broken_107 : decode cX6_broken 107 = .ok (.iconst (-1), 1) := by decide +kernel
theorem dX6_broken_108 : decode cX6_broken 108 = .ok (.goto 10, 3) := by decide +kernel
theorem dX6_broken_111 : decode cX6_broken 111 = .ok (.aload_n 0, 1) := by decide +kernel
theorem dX6_broken_112 : decode cX6_broken 112 = .ok (.getfield 10, 3) := by decide +kernel
theorem dX6_broken_115 : decode cX6_broken 115 = .ok (.getfield 199, 3) := by decide +kernel
theorem dX6_broken_118 : decode cX6_broken 118 = .ok (.ireturn, 1) := by decide +kernel
noncomputable def B_X6_broken_67 (a1 : Int32) (t0 : Int32) (S : fS) : Option ((Nat × Int32) × fS) := bd (F_X5_nameNext 0 0 S) (fun v1 S2 => sv (pu S2 25 0 9 t0) (fun S4 => gd (ib a1 3) (qv (gr S4 14 0 (a1 : Int32).toNatClampNeg) (fun o6 => bd (F_X3_holds o6 0 S4) (fun v7 S8 => bb (v7 = (0 : Int32)) (iv (ge S8 1 0 12) (fun x11 => some ((0, x11), S8))) (some ((0, (-1)), S8)))))))
noncomputable def B_X6_broken_10 (k10 : (Int32 × Int32) → fS → Option ((Nat × Int32) × fS)) : (Int32 × Int32) → fS → Option ((Nat × Int32) × fS) := fun ⟨a1, a2⟩ S => iv (ge S 1 0 12) (fun x12 => bb (x12 ≤ a2) (bd (F_X6_leastPaying 0 S) (fun v14 S15 => bb (v14 = ((-1) : Int32)) (B_X6_broken_67  a1 0 S15) (B_X6_broken_67  a1 1 S15))) (gd (ib a1 3) (qv (gr S 14 0 (a1 : Int32).toNatClampNeg) (fun o19 => bd (F_X0_recordAt 0 a2 S) (fun v20 S21 => gd (v20 < nT S21) (bd (F_X3_holds o19 v20 S21) (fun v24 S25 => bb (v24 = (0 : Int32)) (some ((0, a2), S25)) (iv (a2 + Int32.ofInt 1) (fun x28 => k10 (a1, x28) S25)))))))))
noncomputable def F_X6_broken (p1 : Int32) (S0 : fS) : Option ((Nat × Int32) × fS) := iv (ge S0 0 0 7) (fun x29 => bx (F_X6_needElement p1 x29 S0) (fun v30 S31 => lp (B_X6_broken_10 ) fuel (p1, 0) S31))
set_option maxHeartbeats 4000000 in
set_option maxRecDepth 100000 in
theorem c_X6_broken (l : Launch) (hls : l.stackTraces = false) (D : va_G) (K : Nat → ClassId) (b0 : Nat) (sa : sT) (sz : Nat) (L : List Nat) (f0 : Nat → va_E) (ad : Nat → Nat → Nat) (P : Nat → Nat → Prop) {n : Nat × Nat} (hP : ∀ a i : Nat, isn n a i → P a i) (S0 : fS) (hw : PW K ad P S0 L f0) (hn : S0.2.2.1 = n) (hprobe : 0 < n.1) (p1 : Int32) (ec : Nat) (v : Int32) (S1 : fS) (h : F_X6_broken p1 S0 = some ((ec, v), S1)) : vx_Met l yX6_broken (.code yX6_broken cX6_broken 3 (some .int) :: gt) { frames := 7, cells := 1, slots := 6, locals := 133 } (va_Pc [.ref (ad 0 0), .int p1] (hPre D K b0 sa sz L f0)) (hQ D K b0 (fun v9 u9 => ec = 0 ∧ v9 = some (.int v) ∧ ∃ f2 : Nat → va_E, u9 = lU L f2 ∧ PW K ad P S1 L f2 ∧ S1.2.2.1 = n ∧ Kp ad P L f0 f2)) (hX D K b0 (fun E u9 => (ec ≠ 0 ∧ E = exn ec) ∧ ∃ f2 : Nat → va_E, u9 = lU L f2 ∧ PW K ad P S1 L f2 ∧ S1.2.2.1 = n ∧ Kp ad P L f0 f2)) 1 6 (fun q => b0 ≤ q) := by
  refine t_xof (own := RX6) (by decide) rfl ?_ (Nat.le_of_ble_eq_true rfl)
  intro p e s m below meth c ls C w hsz hr hlk htb hl
  have hx := C.1
  have hb := C.2.1
  have hl : lv_has ls 3 [(0, .ref (ad 0 0)), (1, .int p1)] := hl
  have J67 : ∀ (a1 : Int32) (t0 : Int32) (S : fS), B_X6_broken_67  a1 t0 S = some ((ec, v), S1) → Gw D K b0 sa ad P n L f0 p l e { frames := 7, cells := 1, slots := 6, locals := 133 } s m [.ref (ad 0 0), .int p1].toArray below meth c 3 (vx_MQ below (hQ D K b0 (fun v9 u9 => ec = 0 ∧ v9 = some (.int v) ∧ ∃ f2 : Nat → va_E, u9 = lU L f2 ∧ PW K ad P S1 L f2 ∧ S1.2.2.1 = n ∧ Kp ad P L f0 f2)) (hX D K b0 (fun E u9 => (ec ≠ 0 ∧ E = exn ec) ∧ ∃ f2 : Nat → va_E, u9 = lU L f2 ∧ PW K ad P S1 L f2 ∧ S1.2.2.1 = n ∧ Kp ad P L f0 f2)) [.ref (ad 0 0), .int p1].toArray s 1 6 (fun q => b0 ≤ q)) 1 6 67 [(0, .ref (ad 0 0)), (1, .int a1)] [.int t0] S := by
    intro a1 t0 S h
    dsimp only [B_X6_broken_67] at h
    intro f H locs w hw hn hk ls hl
    refine lv_istore_n (lv' := [(2, .int t0), (0, .ref (ad 0 0)), (1, .int a1)]) hx hb dX6_broken_67 rfl hl (by decide) rfl (fun ls hl => ?_)
    refine lv_aload_n hx hb dX6_broken_68 rfl (lv_at hl 1 rfl) ?_
    refine u_getr C w hw (hP _ _ (isn_f rfl rfl (by decide))) rfl (N := 18) rfl rfl cin_6 15 (by decide) (by decide) (a2 := 25) (i2 := 0) rfl gw_302 dX6_broken_69 ?_
    refine lv_aload_n hx hb dX6_broken_72 rfl (lv_at hl 1 rfl) ?_
    refine u_getr C w hw (hP _ _ (isn_f rfl rfl (by decide))) rfl (N := 18) rfl rfl cin_6 0 (by decide) (by decide) (a2 := 1) (i2 := 0) rfl gw_287 dX6_broken_73 ?_
    obtain ⟨v1, S2, h3, h⟩ := bd_some h
    refine u_callV (n := 1) C w hw (hP _ _ (isn_t25 hprobe)) rfl rfl rfl (c_X5_nameNext l D K b0 sa _ L _ ad P hP S hw hn 0 hprobe 0 (by decide) v1 S2 h3) gw_380 gw_377 gw_378 gw_379 gw_7 ⟨by decide, by decide, by decide +kernel⟩ rfl rfl ⟨by decide, by decide⟩ rfl hl.1 rfl (Nat.le_of_ble_eq_true rfl) dX6_broken_76 ⟨Nat.le_of_ble_eq_true rfl, Nat.le_of_ble_eq_true rfl⟩ (fun v9 u H locs hp w => ?_)
    obtain ⟨f2, rfl, rfl, hw, hn, hk1⟩ := hp
    have hk := hk.tr hk1
    generalize f2 = f at w hw hk
    refine lv_aload_n hx hb dX6_broken_79 rfl (lv_at hl 1 rfl) ?_
    refine u_getr C w hw (hP _ _ (isn_f rfl rfl (by decide))) rfl (N := 18) rfl rfl cin_6 15 (by decide) (by decide) (a2 := 25) (i2 := 0) rfl gw_302 dX6_broken_80 ?_
    refine lv_iload_n hx hb dX6_broken_83 rfl (lv_at hl 0 rfl) ?_
    refine u_puti C w hw (hP _ _ (isn_t25 hprobe)) rfl (N := 17) rfl rfl cin_5 tyX5 tyX5_ok nmX5 9 (by decide) rfl rfl rfl rfl gw_242 dX6_broken_84 (fun f H locs w hw hk1 => ?_)
    have hk := hk.tr hk1
    refine u_sv h hw hn (fun S4 h hw hn => ?_)
    refine lv_aload_n hx hb dX6_broken_87 rfl (lv_at hl 1 rfl) ?_
    refine u_getr C w hw (hP _ _ (isn_f rfl rfl (by decide))) rfl (N := 18) rfl rfl cin_6 14 (by decide) (by decide) (a2 := 22) (i2 := 0) rfl gw_301 dX6_broken_88 ?_
    refine lv_aload_n hx hb dX6_broken_91 rfl (lv_at hl 1 rfl) ?_
    refine u_getr C w hw (hP _ _ (isn_f rfl rfl (by decide))) rfl (N := 18) rfl rfl cin_6 6 (by decide) (by decide) (a2 := 14) (i2 := 0) rfl gw_293 dX6_broken_92 ?_
    refine lv_iload_n hx hb dX6_broken_95 rfl (lv_at hl 2 rfl) ?_
    obtain ⟨g5, h⟩ := gd_some h
    refine u_aald4 C w hw (hP _ _ (isn_f rfl rfl (by decide))) rfl rfl rfl (n := 3) rfl (vp_in_iff.mpr g5) dX6_broken_96 ?_
    refine u_qv h (fun o6 h => ?_)
    refine lv_aload_n hx hb dX6_broken_97 rfl (lv_at hl 1 rfl) ?_
    refine u_getr C w hw (hP _ _ (isn_f rfl rfl (by decide))) rfl (N := 18) rfl rfl cin_6 15 (by decide) (by decide) (a2 := 25) (i2 := 0) rfl gw_302 dX6_broken_98 ?_
    obtain ⟨v7, S8, h9, h⟩ := bd_some h
    refine u_callV (n := 2) C w hw (hP _ _ (isn_f rfl rfl (by decide))) rfl rfl rfl (c_X3_holds l D K b0 sa _ L _ ad P hP S4 hw hn o6 0 hprobe v7 S8 h9) gw_1115 gw_1112 gw_1113 gw_1114 gw_6 ⟨by decide, by decide, by decide +kernel⟩ rfl rfl ⟨by decide, by decide⟩ rfl hl.1 rfl (Nat.le_of_ble_eq_true rfl) dX6_broken_101 ⟨Nat.le_of_ble_eq_true rfl, Nat.le_of_ble_eq_true rfl⟩ (fun v9 u H locs hp w => ?_)
    obtain ⟨f2, rfl, rfl, hw, hn, hk1⟩ := hp
    have hk := hk.tr hk1
    generalize f2 = f at w hw hk
    refine lv_if_eq (tgt := 111) hx hb dX6_broken_104 (by decide) (fun c10 => ?_) (fun c10 => ?_)
    · have h := bb_t h c10
      refine lv_aload_n hx hb dX6_broken_111 rfl (lv_at hl 1 rfl) ?_
      refine u_getr C w hw (hP _ _ (isn_f rfl rfl (by decide))) rfl (N := 18) rfl rfl cin_6 0 (by decide) (by decide) (a2 := 1) (i2 := 0) rfl gw_287 dX6_broken_112 ?_
      refine u_geti C w hw (hP _ _ (isn_f rfl rfl (by decide))) rfl (N := 13) rfl rfl cin_0 12 (by decide) rfl gw_121 dX6_broken_115 ?_
      refine u_iv h (fun x11 h => ?_)
      refine vx_ret ?_
      exact t_iret C hr hlk w ⟨sx_e h, sx_v h, _, rfl, sx_w h hw, sx_n h hn, hk⟩ (by decide) (by decide) dX6_broken_118
    · have h := bb_f h c10
      refine lv_iconst (v := (-1)) hx hb dX6_broken_107 (by decide) ?_
      refine lv_goto (tgt := 118) hx hb dX6_broken_108 (by decide) ?_
      refine vx_ret ?_
      exact t_iret C hr hlk w ⟨sx_e h, sx_v h, _, rfl, sx_w h hw, sx_n h hn, hk⟩ (by decide) (by decide) dX6_broken_118
  have J10 : ∀ (fu : Nat) (a1 : Int32) (a2 : Int32) (S : fS), lp (B_X6_broken_10 ) fu (a1, a2) S = some ((ec, v), S1) → Gw D K b0 sa ad P n L f0 p l e { frames := 7, cells := 1, slots := 6, locals := 133 } s m [.ref (ad 0 0), .int p1].toArray below meth c 3 (vx_MQ below (hQ D K b0 (fun v9 u9 => ec = 0 ∧ v9 = some (.int v) ∧ ∃ f2 : Nat → va_E, u9 = lU L f2 ∧ PW K ad P S1 L f2 ∧ S1.2.2.1 = n ∧ Kp ad P L f0 f2)) (hX D K b0 (fun E u9 => (ec ≠ 0 ∧ E = exn ec) ∧ ∃ f2 : Nat → va_E, u9 = lU L f2 ∧ PW K ad P S1 L f2 ∧ S1.2.2.1 = n ∧ Kp ad P L f0 f2)) [.ref (ad 0 0), .int p1].toArray s 1 6 (fun q => b0 ≤ q)) 1 6 10 [(0, .ref (ad 0 0)), (1, .int a1), (2, .int a2)] [] S := by
    intro fu a1 a2 S h
    refine lp_some (G := (fun q S => Gw D K b0 sa ad P n L f0 p l e { frames := 7, cells := 1, slots := 6, locals := 133 } s m [.ref (ad 0 0), .int p1].toArray below meth c 3 (vx_MQ below (hQ D K b0 (fun v9 u9 => ec = 0 ∧ v9 = some (.int v) ∧ ∃ f2 : Nat → va_E, u9 = lU L f2 ∧ PW K ad P S1 L f2 ∧ S1.2.2.1 = n ∧ Kp ad P L f0 f2)) (hX D K b0 (fun E u9 => (ec ≠ 0 ∧ E = exn ec) ∧ ∃ f2 : Nat → va_E, u9 = lU L f2 ∧ PW K ad P S1 L f2 ∧ S1.2.2.1 = n ∧ Kp ad P L f0 f2)) [.ref (ad 0 0), .int p1].toArray s 1 6 (fun q => b0 ≤ q)) 1 6 10 [(0, .ref (ad 0 0)), (1, .int q.1), (2, .int q.2)] [] S)) (fun k10 hk10 q S h => ?_) fu (a1, a2) S h
    obtain ⟨a1, a2⟩ := q
    have hk10 : ∀ (a1 : Int32) (a2 : Int32) (S : fS), k10 (a1, a2) S = some ((ec, v), S1) → Gw D K b0 sa ad P n L f0 p l e { frames := 7, cells := 1, slots := 6, locals := 133 } s m [.ref (ad 0 0), .int p1].toArray below meth c 3 (vx_MQ below (hQ D K b0 (fun v9 u9 => ec = 0 ∧ v9 = some (.int v) ∧ ∃ f2 : Nat → va_E, u9 = lU L f2 ∧ PW K ad P S1 L f2 ∧ S1.2.2.1 = n ∧ Kp ad P L f0 f2)) (hX D K b0 (fun E u9 => (ec ≠ 0 ∧ E = exn ec) ∧ ∃ f2 : Nat → va_E, u9 = lU L f2 ∧ PW K ad P S1 L f2 ∧ S1.2.2.1 = n ∧ Kp ad P L f0 f2)) [.ref (ad 0 0), .int p1].toArray s 1 6 (fun q => b0 ≤ q)) 1 6 10 [(0, .ref (ad 0 0)), (1, .int a1), (2, .int a2)] [] S := fun a1 a2 S h => hk10 (a1, a2) S h
    dsimp only [B_X6_broken_10] at h
    intro f H locs w hw hn hk ls hl
    refine lv_iload_n hx hb dX6_broken_10 rfl (lv_at hl 2 rfl) ?_
    refine lv_aload_n hx hb dX6_broken_11 rfl (lv_at hl 0 rfl) ?_
    refine u_getr C w hw (hP _ _ (isn_f rfl rfl (by decide))) rfl (N := 18) rfl rfl cin_6 0 (by decide) (by decide) (a2 := 1) (i2 := 0) rfl gw_287 dX6_broken_12 ?_
    refine u_geti C w hw (hP _ _ (isn_f rfl rfl (by decide))) rfl (N := 13) rfl rfl cin_0 12 (by decide) rfl gw_121 dX6_broken_15 ?_
    refine u_iv h (fun x12 h => ?_)
    refine lv_icmp_ge (tgt := 53) hx hb dX6_broken_18 (by decide) (fun c13 => ?_) (fun c13 => ?_)
    · have h := bb_t h c13
      refine lv_aload_n hx hb dX6_broken_53 rfl (lv_at hl 0 rfl) ?_
      refine lv_iconst (v := 0) hx hb dX6_broken_54 (by decide) ?_
      obtain ⟨v14, S15, h16, h⟩ := bd_some h
      refine u_callV (n := 1) C w hw (hP _ _ (isn_f rfl rfl (by decide))) rfl rfl rfl (c_X6_leastPaying l D K b0 sa _ L _ ad P hP S hw hn hprobe 0 v14 S15 h16) gw_365 gw_362 gw_364 gs_1 gw_1 ⟨by decide, by decide, by decide +kernel⟩ rfl rfl ⟨by decide, by decide⟩ rfl hl.1 rfl (Nat.le_of_ble_eq_true rfl) dX6_broken_55 ⟨Nat.le_of_ble_eq_true rfl, Nat.le_of_ble_eq_true rfl⟩ (fun v9 u H locs hp w => ?_)
      obtain ⟨f2, rfl, rfl, hw, hn, hk1⟩ := hp
      have hk := hk.tr hk1
      generalize f2 = f at w hw hk
      refine lv_iconst (v := (-1)) hx hb dX6_broken_58 (by decide) ?_
      refine lv_icmp_ne (tgt := 66) hx hb dX6_broken_59 (by decide) (fun c17 => ?_) (fun c17 => ?_)
      · have h := bb_f h c17
        refine lv_iconst (v := 1) hx hb dX6_broken_66 (by decide) ?_
        exact J67  a1 1 S15 h f H locs w hw hn hk ls (lv_sub hl [0, 1] rfl)
      · have h := bb_t h c17
        refine lv_iconst (v := 0) hx hb dX6_broken_62 (by decide) ?_
        refine lv_goto (tgt := 67) hx hb dX6_broken_63 (by decide) ?_
        exact J67  a1 0 S15 h f H locs w hw hn hk ls (lv_sub hl [0, 1] rfl)
    · have h := bb_f h c13
      refine lv_aload_n hx hb dX6_broken_21 rfl (lv_at hl 0 rfl) ?_
      refine u_getr C w hw (hP _ _ (isn_f rfl rfl (by decide))) rfl (N := 18) rfl rfl cin_6 14 (by decide) (by decide) (a2 := 22) (i2 := 0) rfl gw_301 dX6_broken_22 ?_
      refine lv_aload_n hx hb dX6_broken_25 rfl (lv_at hl 0 rfl) ?_
      refine u_getr C w hw (hP _ _ (isn_f rfl rfl (by decide))) rfl (N := 18) rfl rfl cin_6 6 (by decide) (by decide) (a2 := 14) (i2 := 0) rfl gw_293 dX6_broken_26 ?_
      refine lv_iload_n hx hb dX6_broken_29 rfl (lv_at hl 1 rfl) ?_
      obtain ⟨g18, h⟩ := gd_some h
      refine u_aald4 C w hw (hP _ _ (isn_f rfl rfl (by decide))) rfl rfl rfl (n := 3) rfl (vp_in_iff.mpr g18) dX6_broken_30 ?_
      refine u_qv h (fun o19 h => ?_)
      refine lv_aload_n hx hb dX6_broken_31 rfl (lv_at hl 0 rfl) ?_
      refine u_getr C w hw (hP _ _ (isn_f rfl rfl (by decide))) rfl (N := 18) rfl rfl cin_6 0 (by decide) (by decide) (a2 := 1) (i2 := 0) rfl gw_287 dX6_broken_32 ?_
      refine lv_iload_n hx hb dX6_broken_35 rfl (lv_at hl 2 rfl) ?_
      obtain ⟨v20, S21, h22, h⟩ := bd_some h
      refine u_callV (n := 1) C w hw (hP _ _ (isn_f rfl rfl (by decide))) rfl rfl rfl (c_X0_recordAt l D K b0 sa _ L _ ad P hP S hw hn 0 (by decide) a2 v20 S21 h22) gw_483 gw_480 gw_481 gw_482 gw_2 ⟨by decide, by decide, by decide +kernel⟩ rfl rfl ⟨by decide, by decide⟩ rfl hl.1 rfl (by cases o19 <;> exact Nat.le_of_ble_eq_true rfl) dX6_broken_36 ⟨Nat.le_of_ble_eq_true rfl, Nat.le_of_ble_eq_true rfl⟩ (fun v9 u H locs hp w => ?_)
      obtain ⟨f2, rfl, rfl, hw, hn, hk1⟩ := hp
      have hk := hk.tr hk1
      generalize f2 = f at w hw hk
      obtain ⟨g23, h⟩ := gd_some h
      obtain ⟨v24, S25, h26, h⟩ := bd_some h
      refine u_callV (n := 2) C w hw (hP _ _ (isn_f rfl rfl (by decide))) rfl rfl rfl (c_X3_holds l D K b0 sa _ L _ ad P hP S21 hw hn o19 v20 (nT_lt hn g23) v24 S25 h26) gw_1115 gw_1112 gw_1113 gw_1114 gw_6 ⟨by decide, by decide, by decide +kernel⟩ rfl rfl ⟨by decide, by decide⟩ rfl hl.1 rfl (Nat.le_of_ble_eq_true rfl) dX6_broken_39 ⟨Nat.le_of_ble_eq_true rfl, Nat.le_of_ble_eq_true rfl⟩ (fun v9 u H locs hp w => ?_)
      obtain ⟨f2, rfl, rfl, hw, hn, hk1⟩ := hp
      have hk := hk.tr hk1
      generalize f2 = f at w hw hk
      refine lv_if_ne (tgt := 47) hx hb dX6_broken_42 (by decide) (fun c27 => ?_) (fun c27 => ?_)
      · have h := bb_f h c27
        obtain ⟨x28, ex28, h⟩ := iv_some h
        refine lv_iinc (v := x28) (lv' := [(2, .int x28), (0, .ref (ad 0 0)), (1, .int a1)]) hx hb dX6_broken_47 hl (k := 2) rfl ex28.symm (by decide) rfl (fun ls hl => ?_)
        refine lv_goto (tgt := 10) hx hb dX6_broken_50 (by decide) ?_
        exact hk10 a1 x28 S25 h f H locs w hw hn hk ls (lv_sub hl [1, 2, 0] rfl)
      · have h := bb_t h c27
        refine lv_iload_n hx hb dX6_broken_45 rfl (lv_at hl 2 rfl) ?_
        refine vx_ret ?_
        exact t_iret C hr hlk w ⟨sx_e h, sx_v h, _, rfl, sx_w h hw, sx_n h hn, hk⟩ (by decide) (by decide) dX6_broken_46
  dsimp only [F_X6_broken] at h
  obtain ⟨f, ef⟩ : ∃ z, z = f0 := ⟨_, rfl⟩
  rw [← ef] at w hw
  have hk : Kp ad P L f0 f := by rw [ef]; exact Kp.rf
  obtain ⟨H, eH⟩ : ∃ z, z = s.heap := ⟨_, rfl⟩
  obtain ⟨locs, el⟩ : ∃ z : List Loc, z = [] := ⟨_, rfl⟩
  rw [← eH, ← el] at w ⊢
  refine lv_iload_n hx hb dX6_broken_0 rfl (lv_at hl 1 rfl) ?_
  refine lv_aload_n hx hb dX6_broken_1 rfl (lv_at hl 0 rfl) ?_
  refine u_geti C w hw (hP _ _ (isn_f rfl rfl (by decide))) rfl (N := 18) rfl rfl cin_6 7 (by decide) rfl gw_294 dX6_broken_2 ?_
  refine u_iv h (fun x29 h => ?_)
  rcases bx_some h with ⟨v30, S31, h32, h⟩ | ⟨e33, v30, S31, h32, h⟩
  rotate_left
  · refine t_xcallS (n := 2) C w (c_X6_needElement l hls D K b0 sa _ L _ ad P hP S0 hw hn p1 x29 (e33 + 1) v30 S31 h32) gw_656 gw_654 gw_655 gw_1 ⟨by decide, by decide, by decide +kernel⟩ rfl rfl ⟨by decide, by decide⟩ rfl hl.1 rfl (Nat.le_of_ble_eq_true rfl) dX6_broken_5 ⟨Nat.le_of_ble_eq_true rfl, Nat.le_of_ble_eq_true rfl⟩ (fun E ce q9 u H locs hp w hcell hv0 hcl => ?_) (fun v9 u H locs hp w => absurd hp.1 (Nat.succ_ne_zero _))
    obtain ⟨⟨he, hE⟩, f2, rfl, hw, hn, hk1⟩ := hp
    exact t_xout w htb hlk hcell hv0 hcl ⟨sz_e h he hE, _, rfl, sz_w h hw, sz_n h hn, hk.tr hk1⟩ (by decide) (by decide)
  refine t_xcallS (n := 2) C w (c_X6_needElement l hls D K b0 sa _ L _ ad P hP S0 hw hn p1 x29 0 v30 S31 h32) gw_656 gw_654 gw_655 gw_1 ⟨by decide, by decide, by decide +kernel⟩ rfl rfl ⟨by decide, by decide⟩ rfl hl.1 rfl (Nat.le_of_ble_eq_true rfl) dX6_broken_5 ⟨Nat.le_of_ble_eq_true rfl, Nat.le_of_ble_eq_true rfl⟩ (fun E ce q9 u H locs hp w hcell hv0 hcl => absurd rfl hp.1.1) (fun v9 u H locs hp w => ?_)
  obtain ⟨-, rfl, f2, rfl, hw, hn, hk1⟩ := hp
  have hk := hk.tr hk1
  generalize f2 = f at w hw hk
  refine lv_iconst (v := 0) hx hb dX6_broken_8 (by decide) ?_
  refine lv_istore_n (lv' := [(2, .int 0), (0, .ref (ad 0 0)), (1, .int p1)]) hx hb dX6_broken_9 rfl hl (by decide) rfl (fun ls hl => ?_)
  exact J10  fuel p1 0 S31 h f H locs w hw hn hk ls (lv_sub hl [1, 2, 0] rfl)
