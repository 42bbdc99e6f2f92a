theorem dX4_clause_0 : decode cX4_clause 0 = .ok (.aload_n 0, 1) := by decide +kernel
theorem dX4_clause_1 : decode cX4_clause 1 = .ok (.invokevirtual 54, 3) := by decide +kernel
theorem dX4_clause_4 : decode cX4_clause 4 = .ok (.istore_n 2, 1) := by decide +kernel
theorem dX4_clause_5 : decode cX4_clause 5 = .ok (.iload_n 2, 1) := by decide +kernel
theorem dX4_clause_6 : decode cX4_clause 6 = .ok (.sipush 260, 3) := by decide +kernel
theorem dX4_clause_9 : decode cX4_clause 9 = .ok (.sipush 262, 3) := by decide +kernel
theorem dX4_clause_12 : decode cX4_clause 12 = .ok (.invokestatic 90, 3) := by decide +kernel
theorem dX4_clause_15 : decode cX4_clause 15 = .ok (.ifCond .ne 9, 3) := by decide +kernel
theorem dX4_clause_18 : decode cX4_clause 18 = .ok (.aload_n 0, 1) := by decide +kernel
theorem dX4_clause_19 : decode cX4_clause 19 = .ok (.iconst 1, 1) := by decide +kernel
theorem dX4_clause_20 : decode cX4_clause 20 = .ok (.invokevirtual 69, 3) := by decide +kernel
theorem dX4_clause_23 : decode cX4_clause 23 = .ok (.ireturn, 1) := by decide +kernel
theorem dX4_clause_24 : decode cX4_clause 24 = .ok (.iload_n 1, 1) := by decide +kernel
theorem dX4_clause_25 : decode cX4_clause 25 = .ok (.bipush 12, 2) := by decide +kernel
theorem dX4_clause_27 : decode cX4_clause 27 = .ok (.if_icmp .lt 9, 3) := by decide +kernel
theorem dX4_clause_30 : decode cX4_clause 30 = .ok (.aload_n 0, 1) := by decide +kernel
theorem dX4_clause_31 : decode cX4_clause 31 = .ok (.iconst 3, 1) := by decide +kernel
theorem dX4_clause_32 : decode cX4_clause 32 = .ok (.invokevirtual 69, 3) := by decide +kernel
theorem dX4_clause_35 : decode cX4_clause 35 = .ok (.ireturn, 1) := by decide +kernel
theorem dX4_clause_36 : decode cX4_clause 36 = .ok (.aload_n 0, 1) := by decide +kernel
theorem dX4_clause_37 : decode cX4_clause 37 = .ok (.dup, 1) := by decide +kernel
theorem dX4_clause_38 : decode cX4_clause 38 = .ok (.getfield 25, 3) := by decide +kernel
theorem dX4_clause_41 : decode cX4_clause 41 = .ok (.iconst 1, 1) := by decide +kernel
theorem dX4_clause_42 : decode cX4_clause 42 = .ok (.iadd, 1) := by decide +kernel
theorem dX4_clause_43 : decode cX4_clause 43 = .ok (.putfield 25, 3) := by decide +kernel
theorem dX4_clause_46 : decode cX4_clause 46 = .ok (.aload_n 0, 1) := by decide +kernel
theorem dX4_clause_47 : decode cX4_clause 47 = .ok (.invokevirtual 156, 3) := by decide +kernel
theorem dX4_clause_50 : decode cX4_clause 50 = .ok (.ifCond .ne 5, 3) := by decide +kernel
theorem dX4_clause_53 : decode cX4_clause 53 = .ok (.iconst 0, 1) := by decide +kernel
theorem dX4_clause_54 : decode cX4_clause 54 = .ok (.ireturn, 1) := by decide +kernel
theorem dX4_clause_55 : decode cX4_clause 55 = .ok (.aload_n 0, 1) := by decide +kernel
theorem dX4_clause_56 : decode cX4_clause 56 = .ok (.sipush 263, 3) := by decide +kernel
theorem dX4_clause_59 : decode cX4_clause 59 = .ok (.invokevirtual 66, 3) := by decide +kernel
theorem dX4_clause_62 : decode cX4_clause 62 = .ok (.istore_n 3, 1) := by decide +kernel
theorem dX4_clause_63 : decode cX4_clause 63 = .ok (.iload_n 3, 1) := by decide +kernel
theorem dX4_clause_64 : decode cX4_clause 64 = .ok (.ifCond .eq 12, 3) := by decide +kernel
theorem dX4_clause_67 : decode cX4_clause 67 = .ok (.aload_n 0, 1) := by decide +kernel
theorem dX4_clause_68 : decode cX4_clause 68 = .ok (.invokevirtual 62, 3) := by decide +kernel
theorem dX4_clause_71 : decode cX4_clause 71 = .ok (.ifCond .ne 5, 3) := by decide +kernel
theorem dX4_clause_74 : decode cX4_clause 74 = .ok (.iconst 0, 1) := by decide +kernel
theorem dX4_clause_75 : decode cX4_clause 75 = .ok (.ireturn, 1) := by decide +kernel
theorem dX4_clause_76 : decode cX4_clause 76 = .ok (.aload_n 0, 1) := by decide +kernel
theorem dX4_clause_77 : decode cX4_clause 77 = .ok (.iload_n 3, 1) := by decide +kernel
theorem dX4_clause_78 : decode cX4_clause 78 = .ok (.ifCond .eq 9, 3) := by decide +kernel
theorem dX4_clause_81 : decode cX4_clause 81 = .ok (.sipush 2030, 3) := by decide +kernel
theorem dX4_clause_84 : decode cX4_clause 84 = .ok (.goto 6, 3) := by decide +kernel
theorem dX4_clause_87 : decode cX4_clause 87 = .ok (.sipush 2020, 3) := by decide +kernel
theorem dX4_clause_90 : decode cX4_clause 90 = .ok (.iload_n 2, 1) := by decide +kernel
theorem dX4_clause_91 : decode cX4_clause 91 = .ok (.iadd, 1) := by decide +kernel
theorem dX4_clause_92 : decode cX4_clause 92 = .ok (.sipush 260, 3) := by decide +kernel
theorem dX4_clause_95 : decode cX4_clause 95 = .ok (.isub, 1) := by decide +kernel
theorem dX4_clause_96 : decode cX4_clause 96 = .ok (.invokevirtual 159, 3) := by decide +kernel
theorem dX4_clause_99 : decode cX4_clause 99 = .ok (.aload_n 0, 1) := by decide +kernel
theorem dX4_clause_100 : decode cX4_clause 100 = .ok (.bipush 59, 2) := by decide +kernel
theorem dX4_clause_102 : decode cX4_clause 102 = .ok (.invokevirtual 66, 3) := by decide +kernel
theorem dX4_clause_105 : decode cX4_clause 105 = .ok (.ifCond .ne 11, 3) := by decide +kernel
theorem dX4_clause_108 : decode cX4_clause 108 = .ok (.aload_n 0, 1) := by decide +kernel
theorem dX4_clause_109 : decode cX4_clause 109 = .ok (.iconst 1, 1) := by decide +kernel
theorem dX4_clause_110 : decode cX4_clause 110 = .ok (.invokevirtual 69, 3) := by decide +kernel
theorem dX4_clause_113 : decode cX4_clause 113 = .ok (.ifCond .eq 7, 3) := by decide +kernel
theorem dX4_clause_116 : decode cX4_clause 116 = .ok (.iconst 1, 1) := by decide +kernel
theorem dX4_clause_117 : decode cX4_clause 117 = .ok (.goto 4, 3) := by decide +kernel
theorem dX4_clause_120 : decode cX4_clause 120 = .ok (.iconst 0, 1) := by decide +kernel
theorem dX4_clause_121 : decode cX4_clause 121 = .ok (.ireturn, 1) := by decide +kernel
noncomputable def B_X4_clause_116 (S : fS) : Option (Int32 × fS) := some (1, S)
noncomputable def B_X4_clause_90 (a2 : Int32) (t0 : Int32) (S : fS) : Option (Int32 × fS) := iv (t0 + a2) (fun x1 => iv (x1 - (260 : Int32)) (fun x2 => bd (F_X4_emit x2 S) (fun v3 S4 => bd (F_X4_passed 59 S4) (fun v6 S7 => bb (v6 = (0 : Int32)) (bd (F_X4_fail 1 S7) (fun v10 S11 => bb (v10 = (0 : Int32)) (some (0, S11)) (B_X4_clause_116   S11))) (B_X4_clause_116   S7)))))
noncomputable def B_X4_clause_76 (a2 : Int32) (a3 : Int32) (S : fS) : Option (Int32 × fS) := bb (a3 = (0 : Int32)) (B_X4_clause_90  a2 2020 S) (B_X4_clause_90  a2 2030 S)
noncomputable def F_X4_clause (p1 : Int32) (S0 : fS) : Option (Int32 × fS) := bd (F_X4_here  S0) (fun v15 S16 => bd (F_X6_within v15 260 262 S16) (fun v18 S19 => bb (v18 = (0 : Int32)) (bd (F_X4_fail 1 S19) (fun v42 S43 => gd (v42 = 0 ∨ v42 = 1) (some (v42, S43)))) (bb (p1 < (12 : Int32)) (iv (ge S19 17 0 4) (fun x23 => iv (x23 + (1 : Int32)) (fun x24 => sv (pu S19 17 0 4 x24) (fun S25 => bd (F_X4_sum  S25) (fun v26 S27 => bb (v26 = (0 : Int32)) (some (0, S27)) (bd (F_X4_passed 263 S27) (fun v30 S31 => bb (v30 = (0 : Int32)) (B_X4_clause_76  v15 v30 S31) (bd (F_X4_condition  S31) (fun v34 S35 => bb (v34 = (0 : Int32)) (some (0, S35)) (B_X4_clause_76  v15 v30 S35)))))))))) (bd (F_X4_fail 3 S19) (fun v38 S39 => gd (v38 = 0 ∨ v38 = 1) (some (v38, S39)))))))
set_option maxHeartbeats 4000000 in
set_option maxRecDepth 100000 in
theorem c_X4_clause (l : Launch) (D : va_G) (K : Nat → ClassId) (b0 : Nat) (sa : sT) (sz : Nat) (L : List Nat) (f0 : Nat → va_E) (ad : Nat → Nat → Nat) (P : Nat → Nat → Prop) {n : Nat × Nat} (hP : ∀ a i : Nat, isn n a i → P a i) (S0 : fS) (hw : PW K ad P S0 L f0) (hn : S0.2.2.1 = n) (p1 : Int32) (v : Int32) (S1 : fS) (h : F_X4_clause p1 S0 = some (v, S1)) : Met l yX4_clause (.code yX4_clause cX4_clause 4 (some .boolean) :: gt) { frames := 69, cells := 0, slots := 0, locals := 2645 } (va_Pc [.ref (ad 17 0), .int p1] (hPre D K b0 sa sz L f0)) (hQ D K b0 (fun v9 u9 => ∃ f2 : Nat → va_E, v9 = some (.int v) ∧ u9 = lU L f2 ∧ PW K ad P S1 L f2 ∧ S1.2.2.1 = n ∧ Kp ad P L f0 f2)) 0 0 (fun q => b0 ≤ q) := by
  refine t_of (own := RX4) (by decide) rfl ?_ (Nat.le_of_ble_eq_true rfl)
  intro p e s m below meth c ls C w hsz hr hlk hnm hl
  have hx := C.1
  have hb := C.2.1
  have hl : lv_has ls 4 [(0, .ref (ad 17 0)), (1, .int p1)] := hl
  have J116 : ∀ (S : fS), B_X4_clause_116   S = some (v, S1) → Gw D K b0 sa ad P n L f0 p l e { frames := 69, cells := 0, slots := 0, locals := 2645 } s m [.ref (ad 17 0), .int p1].toArray below meth c 4 (MQ below (hQ D K b0 (fun v9 u9 => ∃ f2 : Nat → va_E, v9 = some (.int v) ∧ u9 = lU L f2 ∧ PW K ad P S1 L f2 ∧ S1.2.2.1 = n ∧ Kp ad P L f0 f2)) [.ref (ad 17 0), .int p1].toArray s 0 0 (fun q => b0 ≤ q)) 0 0 116 [] [] S := by
    intro S h
    dsimp only [B_X4_clause_116] at h
    intro f H locs w hw hn hk ls hl
    refine lv_iconst (v := 1) hx hb dX4_clause_116 (by decide) ?_
    refine lv_goto (tgt := 121) hx hb dX4_clause_117 (by decide) ?_
    exact t_zret C hr hlk w (by decide) ⟨_, so_v h, rfl, so_w h hw, so_n h hn, hk⟩ (by decide) (by decide) dX4_clause_121
  have J90 : ∀ (a2 : Int32) (t0 : Int32) (S : fS), B_X4_clause_90  a2 t0 S = some (v, S1) → Gw D K b0 sa ad P n L f0 p l e { frames := 69, cells := 0, slots := 0, locals := 2645 } s m [.ref (ad 17 0), .int p1].toArray below meth c 4 (MQ below (hQ D K b0 (fun v9 u9 => ∃ f2 : Nat → va_E, v9 = some (.int v) ∧ u9 = lU L f2 ∧ PW K ad P S1 L f2 ∧ S1.2.2.1 = n ∧ Kp ad P L f0 f2)) [.ref (ad 17 0), .int p1].toArray s 0 0 (fun q => b0 ≤ q)) 0 0 90 [(0, .ref (ad 17 0)), (2, .int a2)] [.int t0, .ref (ad 17 0)] S := by
    intro a2 t0 S h
    dsimp only [B_X4_clause_90] at h
    intro f H locs w hw hn hk ls hl
    refine lv_iload_n hx hb dX4_clause_90 rfl (lv_at hl 1 rfl) ?_
    refine lv_iadd hx hb dX4_clause_91 ?_
    refine u_iv h (fun x1 h => ?_)
    refine lv_sipush (v := 260) hx hb dX4_clause_92 (by decide) ?_
    refine lv_isub hx hb dX4_clause_95 ?_
    refine u_iv h (fun x2 h => ?_)
    obtain ⟨v3, S4, h5, h⟩ := bd_some h
    refine u_callV (n := 1) C w hw (hP _ _ (isn_f rfl rfl (by decide))) rfl rfl rfl (c_X4_emit l D K b0 sa _ L _ ad P hP S hw hn x2 v3 S4 h5) gw_850 gw_847 gw_848 gw_849 gw_5 ⟨by decide, by decide, by decide +kernel⟩ rfl rfl ⟨by decide, by decide⟩ rfl hl.1 rfl (Nat.le_of_ble_eq_true rfl) dX4_clause_96 ⟨Nat.le_of_ble_eq_true rfl, Nat.le_of_ble_eq_true rfl⟩ (fun v9 u H locs hp w => ?_)
    obtain ⟨f2, rfl, rfl, hw, hn, hk1⟩ := hp
    have hk := hk.tr hk1
    generalize f2 = f at w hw hk
    refine lv_aload_n hx hb dX4_clause_99 rfl (lv_at hl 0 rfl) ?_
    refine lv_bipush (v := 59) hx hb dX4_clause_100 (by decide) ?_
    obtain ⟨v6, S7, h8, h⟩ := bd_some h
    refine u_callV (n := 1) C w hw (hP _ _ (isn_f rfl rfl (by decide))) rfl rfl rfl (c_X4_passed l D K b0 sa _ L _ ad P hP S4 hw hn 59 v6 S7 h8) gw_858 gw_855 gw_856 gw_857 gw_5 ⟨by decide, by decide, by decide +kernel⟩ rfl rfl ⟨by decide, by decide⟩ rfl hl.1 rfl (Nat.le_of_ble_eq_true rfl) dX4_clause_102 ⟨Nat.le_of_ble_eq_true rfl, Nat.le_of_ble_eq_true rfl⟩ (fun v9 u H locs hp w => ?_)
    obtain ⟨f2, rfl, rfl, hw, hn, hk1⟩ := hp
    have hk := hk.tr hk1
    generalize f2 = f at w hw hk
    refine lv_if_ne (tgt := 116) hx hb dX4_clause_105 (by decide) (fun c9 => ?_) (fun c9 => ?_)
    · have h := bb_f h c9
      exact J116   S7 h f H locs w hw hn hk ls (lv_sub hl [] rfl)
    · have h := bb_t h c9
      refine lv_aload_n hx hb dX4_clause_108 rfl (lv_at hl 0 rfl) ?_
      refine lv_iconst (v := 1) hx hb dX4_clause_109 (by decide) ?_
      obtain ⟨v10, S11, h12, h⟩ := bd_some h
      refine u_callV (n := 1) C w hw (hP _ _ (isn_f rfl rfl (by decide))) rfl rfl rfl (c_X4_fail l D K b0 sa _ L _ ad P hP S7 hw hn 1 v10 S11 h12) gw_846 gw_843 gw_844 gw_845 gw_5 ⟨by decide, by decide, by decide +kernel⟩ rfl rfl ⟨by decide, by decide⟩ rfl hl.1 rfl (Nat.le_of_ble_eq_true rfl) dX4_clause_110 ⟨Nat.le_of_ble_eq_true rfl, Nat.le_of_ble_eq_true rfl⟩ (fun v9 u H locs hp w => ?_)
      obtain ⟨f2, rfl, rfl, hw, hn, hk1⟩ := hp
      have hk := hk.tr hk1
      generalize f2 = f at w hw hk
      refine lv_if_eq (tgt := 120) hx hb dX4_clause_113 (by decide) (fun c13 => ?_) (fun c13 => ?_)
      · have h := bb_t h c13
        refine lv_iconst (v := 0) hx hb dX4_clause_120 (by decide) ?_
        exact t_zret C hr hlk w (by decide) ⟨_, so_v h, rfl, so_w h hw, so_n h hn, hk⟩ (by decide) (by decide) dX4_clause_121
      · have h := bb_f h c13
        exact J116   S11 h f H locs w hw hn hk ls (lv_sub hl [] rfl)
  have J76 : ∀ (a2 : Int32) (a3 : Int32) (S : fS), B_X4_clause_76  a2 a3 S = some (v, S1) → Gw D K b0 sa ad P n L f0 p l e { frames := 69, cells := 0, slots := 0, locals := 2645 } s m [.ref (ad 17 0), .int p1].toArray below meth c 4 (MQ below (hQ D K b0 (fun v9 u9 => ∃ f2 : Nat → va_E, v9 = some (.int v) ∧ u9 = lU L f2 ∧ PW K ad P S1 L f2 ∧ S1.2.2.1 = n ∧ Kp ad P L f0 f2)) [.ref (ad 17 0), .int p1].toArray s 0 0 (fun q => b0 ≤ q)) 0 0 76 [(0, .ref (ad 17 0)), (2, .int a2), (3, .int a3)] [] S := by
    intro a2 a3 S h
    dsimp only [B_X4_clause_76] at h
    intro f H locs w hw hn hk ls hl
    refine lv_aload_n hx hb dX4_clause_76 rfl (lv_at hl 0 rfl) ?_
    refine lv_iload_n hx hb dX4_clause_77 rfl (lv_at hl 2 rfl) ?_
    refine lv_if_eq (tgt := 87) hx hb dX4_clause_78 (by decide) (fun c14 => ?_) (fun c14 => ?_)
    · have h := bb_t h c14
      refine lv_sipush (v := 2020) hx hb dX4_clause_87 (by decide) ?_
      exact J90  a2 2020 S h f H locs w hw hn hk ls (lv_sub hl [0, 1] rfl)
    · have h := bb_f h c14
      refine lv_sipush (v := 2030) hx hb dX4_clause_81 (by decide) ?_
      refine lv_goto (tgt := 90) hx hb dX4_clause_84 (by decide) ?_
      exact J90  a2 2030 S h f H locs w hw hn hk ls (lv_sub hl [0, 1] rfl)
  dsimp only [F_X4_clause] at h
  obtain ⟨f, ef⟩ : ∃ z, z = f0 := ⟨_, rfl⟩
  rw [← ef] at w hw
  have hk : Kp ad P L f0 f := by rw [ef]; exact Kp.rf
  obtain ⟨H, eH⟩ : ∃ z, z = s.heap := ⟨_, rfl⟩
  obtain ⟨locs, el⟩ : ∃ z : List Loc, z = [] := ⟨_, rfl⟩
  rw [← eH, ← el] at w ⊢
  refine lv_aload_n hx hb dX4_clause_0 rfl (lv_at hl 0 rfl) ?_
  obtain ⟨v15, S16, h17, h⟩ := bd_some h
  refine u_callV (n := 0) C w hw (hP _ _ (isn_f rfl rfl (by decide))) rfl rfl rfl (c_X4_here l D K b0 sa _ L _ ad P hP S0 hw hn  v15 S16 h17) gw_834 gw_831 gw_832 gw_833 gw_5 ⟨by decide, by decide, by decide +kernel⟩ rfl rfl ⟨by decide, by decide⟩ rfl hl.1 rfl (Nat.le_of_ble_eq_true rfl) dX4_clause_1 ⟨Nat.le_of_ble_eq_true rfl, Nat.le_of_ble_eq_true rfl⟩ (fun v9 u H locs hp w => ?_)
  obtain ⟨f2, rfl, rfl, hw, hn, hk1⟩ := hp
  have hk := hk.tr hk1
  generalize f2 = f at w hw hk
  refine lv_istore_n (lv' := [(2, .int v15), (0, .ref (ad 17 0)), (1, .int p1)]) hx hb dX4_clause_4 rfl hl (by decide) rfl (fun ls hl => ?_)
  refine lv_iload_n hx hb dX4_clause_5 rfl (lv_at hl 0 rfl) ?_
  refine lv_sipush (v := 260) hx hb dX4_clause_6 (by decide) ?_
  refine lv_sipush (v := 262) hx hb dX4_clause_9 (by decide) ?_
  obtain ⟨v18, S19, h20, h⟩ := bd_some h
  refine t_callSN (host := RX6) (n := 3) C w (c_X6_within l D K b0 sa _ L _ ad P hP S16 hw hn v15 260 262 v18 S19 h20) gw_376 (List.mem_of_getElem? (i := 7) rfl) gw_375 gw_1 ⟨by decide, by decide, by decide +kernel⟩ rfl rfl ⟨by decide, by decide⟩ rfl hl.1 rfl (Nat.le_of_ble_eq_true rfl) dX4_clause_12 ⟨Nat.le_of_ble_eq_true rfl, Nat.le_of_ble_eq_true rfl⟩ (fun v9 u H locs hp w => ?_)
  obtain ⟨f2, rfl, rfl, hw, hn, hk1⟩ := hp
  have hk := hk.tr hk1
  generalize f2 = f at w hw hk
  refine lv_if_ne (tgt := 24) hx hb dX4_clause_15 (by decide) (fun c21 => ?_) (fun c21 => ?_)
  · have h := bb_f h c21
    refine lv_iload_n hx hb dX4_clause_24 rfl (lv_at hl 2 rfl) ?_
    refine lv_bipush (v := 12) hx hb dX4_clause_25 (by decide) ?_
    refine lv_icmp_lt (tgt := 36) hx hb dX4_clause_27 (by decide) (fun c22 => ?_) (fun c22 => ?_)
    · have h := bb_t h c22
      refine lv_aload_n hx hb dX4_clause_36 rfl (lv_at hl 1 rfl) ?_
      refine lv_dup hx hb dX4_clause_37 rfl ?_
      refine u_geti C w hw (hP _ _ (isn_f rfl rfl (by decide))) rfl (N := 12) rfl rfl cin_4 4 (by decide) rfl gw_162 dX4_clause_38 ?_
      refine u_iv h (fun x23 h => ?_)
      refine lv_iconst (v := 1) hx hb dX4_clause_41 (by decide) ?_
      refine lv_iadd hx hb dX4_clause_42 ?_
      refine u_iv h (fun x24 h => ?_)
      refine u_puti C w hw (hP _ _ (isn_f rfl rfl (by decide))) rfl (N := 12) rfl rfl cin_4 tyX4 tyX4_ok nmX4 4 (by decide) rfl rfl rfl rfl gw_162 dX4_clause_43 (fun f H locs w hw hk1 => ?_)
      have hk := hk.tr hk1
      refine u_sv h hw hn (fun S25 h hw hn => ?_)
      refine lv_aload_n hx hb dX4_clause_46 rfl (lv_at hl 1 rfl) ?_
      obtain ⟨v26, S27, h28, h⟩ := bd_some h
      refine u_callV (n := 0) C w hw (hP _ _ (isn_f rfl rfl (by decide))) rfl rfl rfl (c_X4_sum l D K b0 sa _ L _ ad P hP S25 hw hn  v26 S27 h28) gw_862 gw_859 gw_861 gs_11 gw_5 ⟨by decide, by decide, by decide +kernel⟩ rfl rfl ⟨by decide, by decide⟩ rfl hl.1 rfl (Nat.le_of_ble_eq_true rfl) dX4_clause_47 ⟨Nat.le_of_ble_eq_true rfl, Nat.le_of_ble_eq_true rfl⟩ (fun v9 u H locs hp w => ?_)
      obtain ⟨f2, rfl, rfl, hw, hn, hk1⟩ := hp
      have hk := hk.tr hk1
      generalize f2 = f at w hw hk
      refine lv_if_ne (tgt := 55) hx hb dX4_clause_50 (by decide) (fun c29 => ?_) (fun c29 => ?_)
      · have h := bb_f h c29
        refine lv_aload_n hx hb dX4_clause_55 rfl (lv_at hl 1 rfl) ?_
        refine lv_sipush (v := 263) hx hb dX4_clause_56 (by decide) ?_
        obtain ⟨v30, S31, h32, h⟩ := bd_some h
        refine u_callV (n := 1) C w hw (hP _ _ (isn_f rfl rfl (by decide))) rfl rfl rfl (c_X4_passed l D K b0 sa _ L _ ad P hP S27 hw hn 263 v30 S31 h32) gw_858 gw_855 gw_856 gw_857 gw_5 ⟨by decide, by decide, by decide +kernel⟩ rfl rfl ⟨by decide, by decide⟩ rfl hl.1 rfl (Nat.le_of_ble_eq_true rfl) dX4_clause_59 ⟨Nat.le_of_ble_eq_true rfl, Nat.le_of_ble_eq_true rfl⟩ (fun v9 u H locs hp w => ?_)
        obtain ⟨f2, rfl, rfl, hw, hn, hk1⟩ := hp
        have hk := hk.tr hk1
        generalize f2 = f at w hw hk
        refine lv_istore_n (lv' := [(3, .int v30), (2, .int v15), (0, .ref (ad 17 0)), (1, .int p1)]) hx hb dX4_clause_62 rfl hl (by decide) rfl (fun ls hl => ?_)
        refine lv_iload_n hx hb dX4_clause_63 rfl (lv_at hl 0 rfl) ?_
        refine lv_if_eq (tgt := 76) hx hb dX4_clause_64 (by decide) (fun c33 => ?_) (fun c33 => ?_)
        · have h := bb_t h c33
          exact J76  v15 v30 S31 h f H locs w hw hn hk ls (lv_sub hl [2, 1, 0] rfl)
        · have h := bb_f h c33
          refine lv_aload_n hx hb dX4_clause_67 rfl (lv_at hl 2 rfl) ?_
          obtain ⟨v34, S35, h36, h⟩ := bd_some h
          refine u_callV (n := 0) C w hw (hP _ _ (isn_f rfl rfl (by decide))) rfl rfl rfl (c_X4_condition l D K b0 sa _ L _ ad P hP S31 hw hn  v34 S35 h36) gw_826 gw_823 gw_825 gs_8 gw_5 ⟨by decide, by decide, by decide +kernel⟩ rfl rfl ⟨by decide, by decide⟩ rfl hl.1 rfl (Nat.le_of_ble_eq_true rfl) dX4_clause_68 ⟨Nat.le_of_ble_eq_true rfl, Nat.le_of_ble_eq_true rfl⟩ (fun v9 u H locs hp w => ?_)
          obtain ⟨f2, rfl, rfl, hw, hn, hk1⟩ := hp
          have hk := hk.tr hk1
          generalize f2 = f at w hw hk
          refine lv_if_ne (tgt := 76) hx hb dX4_clause_71 (by decide) (fun c37 => ?_) (fun c37 => ?_)
          · have h := bb_f h c37
            exact J76  v15 v30 S35 h f H locs w hw hn hk ls (lv_sub hl [2, 1, 0] rfl)
          · have h := bb_t h c37
            refine lv_iconst (v := 0) hx hb dX4_clause_74 (by decide) ?_
            exact t_zret C hr hlk w (by decide) ⟨_, so_v h, rfl, so_w h hw, so_n h hn, hk⟩ (by decide) (by decide) dX4_clause_75
      · have h := bb_t h c29
        refine lv_iconst (v := 0) hx hb dX4_clause_53 (by decide) ?_
        exact t_zret C hr hlk w (by decide) ⟨_, so_v h, rfl, so_w h hw, so_n h hn, hk⟩ (by decide) (by decide) dX4_clause_54
    · have h := bb_f h c22
      refine lv_aload_n hx hb dX4_clause_30 rfl (lv_at hl 1 rfl) ?_
      refine lv_iconst (v := 3) hx hb dX4_clause_31 (by decide) ?_
      obtain ⟨v38, S39, h40, h⟩ := bd_some h
      refine u_callV (n := 1) C w hw (hP _ _ (isn_f rfl rfl (by decide))) rfl rfl rfl (c_X4_fail l D K b0 sa _ L _ ad P hP S19 hw hn 3 v38 S39 h40) gw_846 gw_843 gw_844 gw_845 gw_5 ⟨by decide, by decide, by decide +kernel⟩ rfl rfl ⟨by decide, by decide⟩ rfl hl.1 rfl (Nat.le_of_ble_eq_true rfl) dX4_clause_32 ⟨Nat.le_of_ble_eq_true rfl, Nat.le_of_ble_eq_true rfl⟩ (fun v9 u H locs hp w => ?_)
      obtain ⟨f2, rfl, rfl, hw, hn, hk1⟩ := hp
      have hk := hk.tr hk1
      generalize f2 = f at w hw hk
      obtain ⟨g41, h⟩ := gd_some h
      exact t_zret C hr hlk w (narb g41) ⟨_, so_v h, rfl, so_w h hw, so_n h hn, hk⟩ (by decide) (by decide) dX4_clause_35
  · have h := bb_t h c21
    refine lv_aload_n hx hb dX4_clause_18 rfl (lv_at hl 1 rfl) ?_
    refine lv_iconst (v := 1) hx hb dX4_clause_19 (by decide) ?_
    obtain ⟨v42, S43, h44, h⟩ := bd_some h
    refine u_callV (n := 1) C w hw (hP _ _ (isn_f rfl rfl (by decide))) rfl rfl rfl (c_X4_fail l D K b0 sa _ L _ ad P hP S19 hw hn 1 v42 S43 h44) gw_846 gw_843 gw_844 gw_845 gw_5 ⟨by decide, by decide, by decide +kernel⟩ rfl rfl ⟨by decide, by decide⟩ rfl hl.1 rfl (Nat.le_of_ble_eq_true rfl) dX4_clause_20 ⟨Nat.le_of_ble_eq_true rfl, Nat.le_of_ble_eq_true rfl⟩ (fun v9 u H locs hp w => ?_)
    obtain ⟨f2, rfl, rfl, hw, hn, hk1⟩ := hp
    have hk := hk.tr hk1
    generalize f2 = f at w hw hk
    obtain ⟨g45, h⟩ := gd_some h
    exact t_zret C hr hlk w (narb g45) ⟨_, so_v h, rfl, so_w h hw, so_n h hn, hk⟩ (by decide) (by decide) dX4_clause_23
