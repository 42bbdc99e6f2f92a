theorem dX7_thing_0 : decode cX7_thing 0 = .ok (.aload_n 0, 1) := by decide +kernel
theorem dX7_thing_1 : decode cX7_thing 1 = .ok (.iconst 0, 1) := by decide +kernel
theorem dX7_thing_2 : decode cX7_thing 2 = .ok (.putfield 97, 3) := by decide +kernel
theorem dX7_thing_5 : decode cX7_thing 5 = .ok (.aload_n 0, 1) := by decide +kernel
theorem dX7_thing_6 : decode cX7_thing 6 = .ok (.iload_n 1, 1) := by decide +kernel
theorem dX7_thing_7 : decode cX7_thing 7 = .ok (.iconst 0, 1) := by decide +kernel
theorem dX7_thing_8 : decode cX7_thing 8 = .ok (.aload_n 0, 1) := by decide +kernel
theorem dX7_thing_9 : decode cX7_thing 9 = .ok (.getfield 256, 3) := by decide +kernel
theorem dX7_thing_12 : decode cX7_thing 12 = .ok (.iconst 1, 1) := by decide +kernel
theorem dX7_thing_13 : decode cX7_thing 13 = .ok (.isub, 1) := by decide +kernel
theorem dX7_thing_14 : decode cX7_thing 14 = .ok (.invokestatic 100, 3) := by decide +kernel
theorem dX7_thing_17 : decode cX7_thing 17 = .ok (.ifCond .ne 7, 3) := by decide +kernel
theorem dX7_thing_20 : decode cX7_thing 20 = .ok (.iconst 1, 1) := by decide +kernel
theorem dX7_thing_21 : decode cX7_thing 21 = .ok (.goto 4, 3) := by decide +kernel
theorem dX7_thing_24 : decode cX7_thing 24 = .ok (.iconst 0, 1) := by decide +kernel
theorem dX7_thing_25 : decode cX7_thing 25 = .ok (.iconst 1, 1) := by decide +kernel
theorem dX7_thing_26 : decode cX7_thing 26 = .ok (.invokevirtual 206, 3) := by decide +kernel
theorem dX7_thing_29 : decode cX7_thing 29 = .ok (.ifCond .ne 25, 3) := by decide +kernel
theorem dX7_thing_32 : decode cX7_thing 32 = .ok (.aload_n 0, 1) := by decide +kernel
theorem dX7_thing_33 : decode cX7_thing 33 = .ok (.iload_n 2, 1) := by decide +kernel
theorem dX7_thing_34 : decode cX7_thing 34 = .ok (.iconst 0, 1) := by decide +kernel
theorem dX7_thing_35 : decode cX7_thing 35 = .ok (.iconst 5, 1) := by decide +kernel
theorem dX7_thing_36 : decode cX7_thing 36 = .ok (.invokestatic 100, 3) := by decide +kernel
theorem dX7_thing_39 : decode cX7_thing 39 = .ok (.ifCond .ne 7, 3) := by decide +kernel
theorem dX7_thing_42 : decode cX7_thing 42 = .ok (.iconst 1, 1) := by decide +kernel
theorem dX7_thing_43 : decode cX7_thing 43 = .ok (.goto 4, 3) := by decide +kernel
theorem dX7_thing_46 : decode cX7_thing 46 = .ok (.iconst 0, 1) := by decide +kernel
theorem dX7_thing_47 : decode cX7_thing 47 = .ok (.iconst 2, 1) := by decide +kernel
theorem dX7_thing_48 : decode cX7_thing 48 = .ok (.invokevirtual 206, 3) := by decide +kernel
theorem dX7_thing_51 : decode cX7_thing 51 = .ok (.ifCond .eq 5, 3) := by decide +kernel
theorem dX7_thing_54 : decode cX7_thing 54 = .ok (.iconst 0, 1) := by decide +kernel
theorem dX7_thing_55 : decode cX7_thing 55 = .ok (.ireturn, 1) := by decide +kernel
theorem dX7_thing_56 : decode cX7_thing 56 = .ok (.iload_n 2, 1) := by decide +kernel
theorem dX7_thing_57 : decode cX7_thing 57 = .ok (.tableswitch 82 0 4 #[35, 42, 61, 68, 75], 35) := by decide +kernel
theorem dX7_thing_92 : decode cX7_thing 92 = .ok (.aload_n 0, 1) := by decide +kernel
theorem dX7_thing_93 : decode cX7_thing 93 = .ok (.getfield 45, 3) := by decide +kernel
theorem dX7_thing_96 : decode cX7_thing 96 = .ok (.iload_n 1, 1) := by decide +kernel
theorem dX7_thing_97 : decode cX7_thing 97 = .ok (.iaload, 1) := by decide +kernel
theorem dX7_thing_98 : decode cX7_thing 98 = .ok (.ireturn, 1) := by decide +kernel
theorem dX7_thing_99 : decode cX7_thing 99 = .ok (.aload_n 0, 1) := by decide +kernel
theorem dX7_thing_100 : decode cX7_thing 100 = .ok (.getfield 45, 3) := by decide +kernel
theorem dX7_thing_103 : decode cX7_thing 103 = .ok (.iload_n 1, 1) := by decide +kernel
theorem dX7_thing_104 : decode cX7_thing 104 = .ok (.iaload, 1) := by decide +kernel
theorem dX7_thing_105 : decode cX7_thing 105 = .ok (.ifCond .ge 7, 3) := by decide +kernel
theorem dX7_thing_108 : decode cX7_thing 108 = .ok (.iconst (-1), 1) := by decide +kernel
theorem dX7_thing_109 : decode cX7_thing 109 = .ok (.goto 8, 3) := by decide +kernel
theorem dX7_thing_112 : decode cX7_thing 112 = .ok (.aload_n 0, 1) := by decide +kernel
theorem dX7_thing_113 : decode cX7_thing 113 = .ok (.iload_n 1, 1) := by decide +kernel
theorem dX7_thing_114 : decode cX7_thing 114 = .ok (.invokevirtual 262, 3) := by decide +kernel
theorem dX7_thing_117 : decode cX7_thing 117 = .ok (.ireturn, 1) := by decide +kernel
theorem dX7_thing_118 : decode cX7_thing 118 = .ok (.aload_n 0, 1) := by decide +kernel
theorem dX7_thing_119 : decode cX7_thing 119 = .ok (.getfield 33, 3) := by decide +kernel
theorem dX7_thing_122 : decode cX7_thing 122 = .ok (.iload_n 1, 1) := by decide +kernel
theorem dX7_thing_123 : decode cX7_thing 123 = .ok (.iaload, 1) := by decide +kernel
theorem dX7_thing_124 : decode cX7_thing 124 = .ok (.ireturn, 1) := by decide +kernel
theorem dX7_thing_125 : decode cX7_thing 125 = .ok (.aload_n 0, 1) := by decide +kernel
theorem dX7_thing_126 : decode cX7_thing 126 = .ok (.getfield 36, 3) := by decide +kernel
theorem dX7_thing_129 : decode cX7_thing 129 = .ok (.iload_n 1, 1) := by decide +kernel
theorem dX7_thing_130 : decode cX7_thing 130 = .ok (.iaload, 1) := by decide +kernel
theorem dX7_thing_131 : decode cX7_thing 131 = .ok (.ireturn, 1) := by decide +kernel
theorem dX7_thing_132 : decode cX7_thing 132 = .ok (.aload_n 0, 1) := by decide +kernel
theorem dX7_thing_133 : decode cX7_thing 133 = .ok (.getfield 39, 3) := by decide +kernel
theorem dX7_thing_136 : decode cX7_thing 136 = .ok (.iload_n 1, 1) := by decide +kernel
theorem dX7_thing_137 : decode cX7_thing 137 = .ok (.iaload, 1) := by decide +kernel
theorem dX7_thing_138 : decode cX7_thing 138 = .ok (.ireturn, 1) := by decide +kernel
theorem dX7_thing_139 : decode cX7_thing 139 = .ok (.aload_n 0, 1) := by decide +kernel
theorem dX7_thing_140 : decode cX7_thing 140 = .ok (.getfield 48, 3) := by decide +kernel
theorem dX7_thing_143 : decode cX7_thing 143 = .ok (.iload_n 1, 1) := by decide +kernel
theorem dX7_thing_144 : decode cX7_thing 144 = .ok (.baload, 1) := by decide +kernel
theorem dX7_thing_145 : decode cX7_thing 145 = .ok (.ifCond .eq 7, 3) := by decide +kernel
theorem dX7_thing_148 : decode cX7_thing 148 = .ok (.iconst 1, 1) := by decide +kernel
theorem dX7_thing_149 : decode cX7_thing 149 = .ok (.goto 4, 3) := by decide +kernel
theorem dX7_thing_152 : decode cX7_thing 152 = .ok (.iconst 0, 1) := by decide +kernel
theorem dX7_thing_153 : decode cX7_thing 153 = .ok (.ireturn, 1) := by decide +kernel
noncomputable def B_X7_thing_47 (a1 : Int32) (a2 : Int32) (t0 : Int32) (S : fS) : Option (Int32 × fS) := bd (F_X7_bad t0 2 S) (fun v1 S2 => bb (v1 = (0 : Int32)) (bb (a2.toInt = 0) (gd (ib a1 24) (iv (ge S2 50 0 (a1 : Int32).toNatClampNeg) (fun x7 => some (x7, S2)))) (bb (a2.toInt = 1) (gd (ib a1 24) (iv (ge S2 50 0 (a1 : Int32).toNatClampNeg) (fun x10 => bb ((0 : Int32) ≤ x10) (bd (F_X7_levelOf a1 S2) (fun v12 S13 => some (v12, S13))) (some ((-1), S2))))) (bb (a2.toInt = 2) (gd (ib a1 24) (iv (ge S2 46 0 (a1 : Int32).toNatClampNeg) (fun x17 => some (x17, S2)))) (bb (a2.toInt = 3) (gd (ib a1 24) (iv (ge S2 47 0 (a1 : Int32).toNatClampNeg) (fun x20 => some (x20, S2)))) (bb (a2.toInt = 4) (gd (ib a1 24) (iv (ge S2 48 0 (a1 : Int32).toNatClampNeg) (fun x23 => some (x23, S2)))) (gd (ib a1 24) (iv (ge S2 51 0 (a1 : Int32).toNatClampNeg) (fun x25 => bb (x25 = (0 : Int32)) (some (0, S2)) (some (1, S2)))))))))) (some (0, S2)))
noncomputable def B_X7_thing_25 (a1 : Int32) (a2 : Int32) (t0 : Int32) (S : fS) : Option (Int32 × fS) := bd (F_X7_bad t0 1 S) (fun v27 S28 => bb (v27 = (0 : Int32)) (bd (F_X7_in a2 0 5 S28) (fun v31 S32 => bb (v31 = (0 : Int32)) (B_X7_thing_47  a1 a2 1 S32) (B_X7_thing_47  a1 a2 0 S32))) (some (0, S28)))
noncomputable def F_X7_thing (p1 : Int32) (p2 : Int32) (S0 : fS) : Option (Int32 × fS) := sv (pu S0 40 0 0 0) (fun S35 => iv (ge S35 40 0 21) (fun x36 => iv (x36 - (1 : Int32)) (fun x37 => bd (F_X7_in p1 0 x37 S35) (fun v38 S39 => bb (v38 = (0 : Int32)) (B_X7_thing_25  p1 p2 1 S39) (B_X7_thing_25  p1 p2 0 S39)))))
set_option maxHeartbeats 4000000 in
set_option maxRecDepth 100000 in
theorem c_X7_thing (l : Launch) (D : va_G) (K : Nat → ClassId) (b0 : Nat) (sa : sT) (sz : Nat) (L : List Nat) (f0 : Nat → va_E) (ad : Nat → Nat → Nat) (P : Nat → Nat → Prop) {n : Nat × Nat} (hP : ∀ a i : Nat, isn n a i → P a i) (S0 : fS) (hw : PW K ad P S0 L f0) (hn : S0.2.2.1 = n) (p1 : Int32) (p2 : Int32) (v : Int32) (S1 : fS) (h : F_X7_thing p1 p2 S0 = some (v, S1)) : Met l yX7_thing (.code yX7_thing cX7_thing 3 (some .int) :: gt) { frames := 1, cells := 0, slots := 0, locals := 22 } (va_Pc [.ref (ad 40 0), .int p1, .int p2] (hPre D K b0 sa sz L f0)) (hQ D K b0 (fun v9 u9 => ∃ f2 : Nat → va_E, v9 = some (.int v) ∧ u9 = lU L f2 ∧ PW K ad P S1 L f2 ∧ S1.2.2.1 = n ∧ Kp ad P L f0 f2)) 0 0 (fun q => b0 ≤ q) := by
  refine t_of (own := RX7) (by decide) rfl ?_ (Nat.le_of_ble_eq_true rfl)
  intro p e s m below meth c ls C w hsz hr hlk hnm hl
  have hx := C.1
  have hb := C.2.1
  have hl : lv_has ls 3 [(0, .ref (ad 40 0)), (1, .int p1), (2, .int p2)] := hl
  have J47 : ∀ (a1 : Int32) (a2 : Int32) (t0 : Int32) (S : fS), B_X7_thing_47  a1 a2 t0 S = some (v, S1) → Gw D K b0 sa ad P n L f0 p l e { frames := 1, cells := 0, slots := 0, locals := 22 } s m [.ref (ad 40 0), .int p1, .int p2].toArray below meth c 3 (MQ below (hQ D K b0 (fun v9 u9 => ∃ f2 : Nat → va_E, v9 = some (.int v) ∧ u9 = lU L f2 ∧ PW K ad P S1 L f2 ∧ S1.2.2.1 = n ∧ Kp ad P L f0 f2)) [.ref (ad 40 0), .int p1, .int p2].toArray s 0 0 (fun q => b0 ≤ q)) 0 0 47 [(0, .ref (ad 40 0)), (1, .int a1), (2, .int a2)] [.int t0, .ref (ad 40 0)] S := by
    intro a1 a2 t0 S h
    dsimp only [B_X7_thing_47] at h
    intro f H locs w hw hn hk ls hl
    refine lv_iconst (v := 2) hx hb dX7_thing_47 (by decide) ?_
    obtain ⟨v1, S2, h3, h⟩ := bd_some h
    refine u_callV (n := 2) C w hw (hP _ _ (isn_f rfl rfl (by decide))) rfl rfl rfl (c_X7_bad l D K b0 sa _ L _ ad P hP S hw hn t0 2 v1 S2 h3) gw_1347 gw_1344 gw_1346 gs_22 gw_8 ⟨by decide, by decide, by decide +kernel⟩ rfl rfl ⟨by decide, by decide⟩ rfl hl.1 rfl (Nat.le_of_ble_eq_true rfl) dX7_thing_48 ⟨Nat.le_of_ble_eq_true rfl, Nat.le_of_ble_eq_true rfl⟩ (fun v9 u H locs hp w => ?_)
    obtain ⟨f2, rfl, rfl, hw, hn, hk1⟩ := hp
    have hk := hk.tr hk1
    generalize f2 = f at w hw hk
    refine lv_if_eq (tgt := 56) hx hb dX7_thing_51 (by decide) (fun c4 => ?_) (fun c4 => ?_)
    · have h := bb_t h c4
      refine lv_iload_n hx hb dX7_thing_56 rfl (lv_at hl 2 rfl) ?_
      by_cases c5 : a2.toInt = 0
      · have h := bb_t h c5
        refine lv_tableIn (tgt := 92) hx hb dX7_thing_57 (by omega) (by omega) (by rw [c5]; rfl) (by decide) ?_
        refine lv_aload_n hx hb dX7_thing_92 rfl (lv_at hl 0 rfl) ?_
        refine u_getr C w hw (hP _ _ (isn_f rfl rfl (by decide))) rfl (N := 57) rfl rfl cin_7 26 (by decide) (by decide) (a2 := 50) (i2 := 0) rfl gw_1182 dX7_thing_93 ?_
        refine lv_iload_n hx hb dX7_thing_96 rfl (lv_at hl 1 rfl) ?_
        obtain ⟨g6, h⟩ := gd_some h
        refine u_iald C w hw (hP _ _ (isn_f rfl rfl (by decide))) rfl rfl (n := 24) rfl (vp_in_iff.mpr g6) dX7_thing_97 ?_
        refine u_iv h (fun x7 h => ?_)
        exact t_iret C hr hlk w ⟨_, so_v h, rfl, so_w h hw, so_n h hn, hk⟩ (by decide) (by decide) dX7_thing_98
      have h := bb_f h c5
      by_cases c8 : a2.toInt = 1
      · have h := bb_t h c8
        refine lv_tableIn (tgt := 99) hx hb dX7_thing_57 (by omega) (by omega) (by rw [c8]; rfl) (by decide) ?_
        refine lv_aload_n hx hb dX7_thing_99 rfl (lv_at hl 0 rfl) ?_
        refine u_getr C w hw (hP _ _ (isn_f rfl rfl (by decide))) rfl (N := 57) rfl rfl cin_7 26 (by decide) (by decide) (a2 := 50) (i2 := 0) rfl gw_1182 dX7_thing_100 ?_
        refine lv_iload_n hx hb dX7_thing_103 rfl (lv_at hl 1 rfl) ?_
        obtain ⟨g9, h⟩ := gd_some h
        refine u_iald C w hw (hP _ _ (isn_f rfl rfl (by decide))) rfl rfl (n := 24) rfl (vp_in_iff.mpr g9) dX7_thing_104 ?_
        refine u_iv h (fun x10 h => ?_)
        refine lv_if_ge (tgt := 112) hx hb dX7_thing_105 (by decide) (fun c11 => ?_) (fun c11 => ?_)
        · have h := bb_t h c11
          refine lv_aload_n hx hb dX7_thing_112 rfl (lv_at hl 0 rfl) ?_
          refine lv_iload_n hx hb dX7_thing_113 rfl (lv_at hl 1 rfl) ?_
          obtain ⟨v12, S13, h14, h⟩ := bd_some h
          refine u_callV (n := 1) C w hw (hP _ _ (isn_f rfl rfl (by decide))) rfl rfl rfl (c_X7_levelOf l D K b0 sa _ L _ ad P hP S2 hw hn a1 v12 S13 h14) gw_1487 gw_1484 gw_1486 gs_48 gw_8 ⟨by decide, by decide, by decide +kernel⟩ rfl rfl ⟨by decide, by decide⟩ rfl hl.1 rfl (Nat.le_of_ble_eq_true rfl) dX7_thing_114 ⟨Nat.le_of_ble_eq_true rfl, Nat.le_of_ble_eq_true rfl⟩ (fun v9 u H locs hp w => ?_)
          obtain ⟨f2, rfl, rfl, hw, hn, hk1⟩ := hp
          have hk := hk.tr hk1
          generalize f2 = f at w hw hk
          exact t_iret C hr hlk w ⟨_, so_v h, rfl, so_w h hw, so_n h hn, hk⟩ (by decide) (by decide) dX7_thing_117
        · have h := bb_f h c11
          refine lv_iconst (v := (-1)) hx hb dX7_thing_108 (by decide) ?_
          refine lv_goto (tgt := 117) hx hb dX7_thing_109 (by decide) ?_
          exact t_iret C hr hlk w ⟨_, so_v h, rfl, so_w h hw, so_n h hn, hk⟩ (by decide) (by decide) dX7_thing_117
      have h := bb_f h c8
      by_cases c15 : a2.toInt = 2
      · have h := bb_t h c15
        refine lv_tableIn (tgt := 118) hx hb dX7_thing_57 (by omega) (by omega) (by rw [c15]; rfl) (by decide) ?_
        refine lv_aload_n hx hb dX7_thing_118 rfl (lv_at hl 0 rfl) ?_
        refine u_getr C w hw (hP _ _ (isn_f rfl rfl (by decide))) rfl (N := 57) rfl rfl cin_7 22 (by decide) (by decide) (a2 := 46) (i2 := 0) rfl gw_1178 dX7_thing_119 ?_
        refine lv_iload_n hx hb dX7_thing_122 rfl (lv_at hl 1 rfl) ?_
        obtain ⟨g16, h⟩ := gd_some h
        refine u_iald C w hw (hP _ _ (isn_f rfl rfl (by decide))) rfl rfl (n := 24) rfl (vp_in_iff.mpr g16) dX7_thing_123 ?_
        refine u_iv h (fun x17 h => ?_)
        exact t_iret C hr hlk w ⟨_, so_v h, rfl, so_w h hw, so_n h hn, hk⟩ (by decide) (by decide) dX7_thing_124
      have h := bb_f h c15
      by_cases c18 : a2.toInt = 3
      · have h := bb_t h c18
        refine lv_tableIn (tgt := 125) hx hb dX7_thing_57 (by omega) (by omega) (by rw [c18]; rfl) (by decide) ?_
        refine lv_aload_n hx hb dX7_thing_125 rfl (lv_at hl 0 rfl) ?_
        refine u_getr C w hw (hP _ _ (isn_f rfl rfl (by decide))) rfl (N := 57) rfl rfl cin_7 23 (by decide) (by decide) (a2 := 47) (i2 := 0) rfl gw_1179 dX7_thing_126 ?_
        refine lv_iload_n hx hb dX7_thing_129 rfl (lv_at hl 1 rfl) ?_
        obtain ⟨g19, h⟩ := gd_some h
        refine u_iald C w hw (hP _ _ (isn_f rfl rfl (by decide))) rfl rfl (n := 24) rfl (vp_in_iff.mpr g19) dX7_thing_130 ?_
        refine u_iv h (fun x20 h => ?_)
        exact t_iret C hr hlk w ⟨_, so_v h, rfl, so_w h hw, so_n h hn, hk⟩ (by decide) (by decide) dX7_thing_131
      have h := bb_f h c18
      by_cases c21 : a2.toInt = 4
      · have h := bb_t h c21
        refine lv_tableIn (tgt := 132) hx hb dX7_thing_57 (by omega) (by omega) (by rw [c21]; rfl) (by decide) ?_
        refine lv_aload_n hx hb dX7_thing_132 rfl (lv_at hl 0 rfl) ?_
        refine u_getr C w hw (hP _ _ (isn_f rfl rfl (by decide))) rfl (N := 57) rfl rfl cin_7 24 (by decide) (by decide) (a2 := 48) (i2 := 0) rfl gw_1180 dX7_thing_133 ?_
        refine lv_iload_n hx hb dX7_thing_136 rfl (lv_at hl 1 rfl) ?_
        obtain ⟨g22, h⟩ := gd_some h
        refine u_iald C w hw (hP _ _ (isn_f rfl rfl (by decide))) rfl rfl (n := 24) rfl (vp_in_iff.mpr g22) dX7_thing_137 ?_
        refine u_iv h (fun x23 h => ?_)
        exact t_iret C hr hlk w ⟨_, so_v h, rfl, so_w h hw, so_n h hn, hk⟩ (by decide) (by decide) dX7_thing_138
      have h := bb_f h c21
      refine lv_tableOut (tgt := 139) hx hb dX7_thing_57 (by omega) (by decide) ?_
      refine lv_aload_n hx hb dX7_thing_139 rfl (lv_at hl 0 rfl) ?_
      refine u_getr C w hw (hP _ _ (isn_f rfl rfl (by decide))) rfl (N := 57) rfl rfl cin_7 27 (by decide) (by decide) (a2 := 51) (i2 := 0) rfl gw_1183 dX7_thing_140 ?_
      refine lv_iload_n hx hb dX7_thing_143 rfl (lv_at hl 1 rfl) ?_
      obtain ⟨g24, h⟩ := gd_some h
      refine u_zald C w hw (hP _ _ (isn_f rfl rfl (by decide))) rfl rfl (n := 24) rfl (vp_in_iff.mpr g24) dX7_thing_144 ?_
      refine u_iv h (fun x25 h => ?_)
      refine lv_if_eq (tgt := 152) hx hb dX7_thing_145 (by decide) (fun c26 => ?_) (fun c26 => ?_)
      · have h := bb_t h c26
        refine lv_iconst (v := 0) hx hb dX7_thing_152 (by decide) ?_
        exact t_iret C hr hlk w ⟨_, so_v h, rfl, so_w h hw, so_n h hn, hk⟩ (by decide) (by decide) dX7_thing_153
      · have h := bb_f h c26
        refine lv_iconst (v := 1) hx hb dX7_thing_148 (by decide) ?_
        refine lv_goto (tgt := 153) hx hb dX7_thing_149 (by decide) ?_
        exact t_iret C hr hlk w ⟨_, so_v h, rfl, so_w h hw, so_n h hn, hk⟩ (by decide) (by decide) dX7_thing_153
    · have h := bb_f h c4
      refine lv_iconst (v := 0) hx hb dX7_thing_54 (by decide) ?_
      exact t_iret C hr hlk w ⟨_, so_v h, rfl, so_w h hw, so_n h hn, hk⟩ (by decide) (by decide) dX7_thing_55
  have J25 : ∀ (a1 : Int32) (a2 : Int32) (t0 : Int32) (S : fS), B_X7_thing_25  a1 a2 t0 S = some (v, S1) → Gw D K b0 sa ad P n L f0 p l e { frames := 1, cells := 0, slots := 0, locals := 22 } s m [.ref (ad 40 0), .int p1, .int p2].toArray below meth c 3 (MQ below (hQ D K b0 (fun v9 u9 => ∃ f2 : Nat → va_E, v9 = some (.int v) ∧ u9 = lU L f2 ∧ PW K ad P S1 L f2 ∧ S1.2.2.1 = n ∧ Kp ad P L f0 f2)) [.ref (ad 40 0), .int p1, .int p2].toArray s 0 0 (fun q => b0 ≤ q)) 0 0 25 [(0, .ref (ad 40 0)), (1, .int a1), (2, .int a2)] [.int t0, .ref (ad 40 0)] S := by
    intro a1 a2 t0 S h
    dsimp only [B_X7_thing_25] at h
    intro f H locs w hw hn hk ls hl
    refine lv_iconst (v := 1) hx hb dX7_thing_25 (by decide) ?_
    obtain ⟨v27, S28, h29, h⟩ := bd_some h
    refine u_callV (n := 2) C w hw (hP _ _ (isn_f rfl rfl (by decide))) rfl rfl rfl (c_X7_bad l D K b0 sa _ L _ ad P hP S hw hn t0 1 v27 S28 h29) gw_1347 gw_1344 gw_1346 gs_22 gw_8 ⟨by decide, by decide, by decide +kernel⟩ rfl rfl ⟨by decide, by decide⟩ rfl hl.1 rfl (Nat.le_of_ble_eq_true rfl) dX7_thing_26 ⟨Nat.le_of_ble_eq_true rfl, Nat.le_of_ble_eq_true rfl⟩ (fun v9 u H locs hp w => ?_)
    obtain ⟨f2, rfl, rfl, hw, hn, hk1⟩ := hp
    have hk := hk.tr hk1
    generalize f2 = f at w hw hk
    refine lv_if_ne (tgt := 54) hx hb dX7_thing_29 (by decide) (fun c30 => ?_) (fun c30 => ?_)
    · have h := bb_f h c30
      refine lv_iconst (v := 0) hx hb dX7_thing_54 (by decide) ?_
      exact t_iret C hr hlk w ⟨_, so_v h, rfl, so_w h hw, so_n h hn, hk⟩ (by decide) (by decide) dX7_thing_55
    · have h := bb_t h c30
      refine lv_aload_n hx hb dX7_thing_32 rfl (lv_at hl 0 rfl) ?_
      refine lv_iload_n hx hb dX7_thing_33 rfl (lv_at hl 2 rfl) ?_
      refine lv_iconst (v := 0) hx hb dX7_thing_34 (by decide) ?_
      refine lv_iconst (v := 5) hx hb dX7_thing_35 (by decide) ?_
      obtain ⟨v31, S32, h33, h⟩ := bd_some h
      refine t_callS (n := 3) C w (c_X7_in l D K b0 sa _ L _ ad P hP S28 hw hn a2 0 5 v31 S32 h33) gw_1343 gw_1341 gw_1342 gw_8 ⟨by decide, by decide, by decide +kernel⟩ rfl rfl ⟨by decide, by decide⟩ rfl hl.1 rfl (Nat.le_of_ble_eq_true rfl) dX7_thing_36 ⟨Nat.le_of_ble_eq_true rfl, Nat.le_of_ble_eq_true rfl⟩ (fun v9 u H locs hp w => ?_)
      obtain ⟨f2, rfl, rfl, hw, hn, hk1⟩ := hp
      have hk := hk.tr hk1
      generalize f2 = f at w hw hk
      refine lv_if_ne (tgt := 46) hx hb dX7_thing_39 (by decide) (fun c34 => ?_) (fun c34 => ?_)
      · have h := bb_f h c34
        refine lv_iconst (v := 0) hx hb dX7_thing_46 (by decide) ?_
        exact J47  a1 a2 0 S32 h f H locs w hw hn hk ls (lv_sub hl [0, 1, 2] rfl)
      · have h := bb_t h c34
        refine lv_iconst (v := 1) hx hb dX7_thing_42 (by decide) ?_
        refine lv_goto (tgt := 47) hx hb dX7_thing_43 (by decide) ?_
        exact J47  a1 a2 1 S32 h f H locs w hw hn hk ls (lv_sub hl [0, 1, 2] rfl)
  dsimp only [F_X7_thing] at h
  obtain ⟨f, ef⟩ : ∃ z, z = f0 := ⟨_, rfl⟩
  rw [← ef] at w hw
  have hk : Kp ad P L f0 f := by rw [ef]; exact Kp.rf
  obtain ⟨H, eH⟩ : ∃ z, z = s.heap := ⟨_, rfl⟩
  obtain ⟨locs, el⟩ : ∃ z : List Loc, z = [] := ⟨_, rfl⟩
  rw [← eH, ← el] at w ⊢
  refine lv_aload_n hx hb dX7_thing_0 rfl (lv_at hl 0 rfl) ?_
  refine lv_iconst (v := 0) hx hb dX7_thing_1 (by decide) ?_
  refine u_puti C w hw (hP _ _ (isn_f rfl rfl (by decide))) rfl (N := 57) rfl rfl cin_7 tyX7 tyX7_ok nmX7 0 (by decide) rfl rfl rfl rfl gw_1156 dX7_thing_2 (fun f H locs w hw hk1 => ?_)
  have hk := hk.tr hk1
  refine u_sv h hw hn (fun S35 h hw hn => ?_)
  refine lv_aload_n hx hb dX7_thing_5 rfl (lv_at hl 0 rfl) ?_
  refine lv_iload_n hx hb dX7_thing_6 rfl (lv_at hl 1 rfl) ?_
  refine lv_iconst (v := 0) hx hb dX7_thing_7 (by decide) ?_
  refine lv_aload_n hx hb dX7_thing_8 rfl (lv_at hl 0 rfl) ?_
  refine u_geti C w hw (hP _ _ (isn_f rfl rfl (by decide))) rfl (N := 57) rfl rfl cin_7 21 (by decide) rfl gw_1177 dX7_thing_9 ?_
  refine u_iv h (fun x36 h => ?_)
  refine lv_iconst (v := 1) hx hb dX7_thing_12 (by decide) ?_
  refine lv_isub hx hb dX7_thing_13 ?_
  refine u_iv h (fun x37 h => ?_)
  obtain ⟨v38, S39, h40, h⟩ := bd_some h
  refine t_callS (n := 3) C w (c_X7_in l D K b0 sa _ L _ ad P hP S35 hw hn p1 0 x37 v38 S39 h40) gw_1343 gw_1341 gw_1342 gw_8 ⟨by decide, by decide, by decide +kernel⟩ rfl rfl ⟨by decide, by decide⟩ rfl hl.1 rfl (Nat.le_of_ble_eq_true rfl) dX7_thing_14 ⟨Nat.le_of_ble_eq_true rfl, Nat.le_of_ble_eq_true rfl⟩ (fun v9 u H locs hp w => ?_)
  obtain ⟨f2, rfl, rfl, hw, hn, hk1⟩ := hp
  have hk := hk.tr hk1
  generalize f2 = f at w hw hk
  refine lv_if_ne (tgt := 24) hx hb dX7_thing_17 (by decide) (fun c41 => ?_) (fun c41 => ?_)
  · have h := bb_f h c41
    refine lv_iconst (v := 0) hx hb dX7_thing_24 (by decide) ?_
    exact J25  p1 p2 0 S39 h f H locs w hw hn hk ls (lv_sub hl [0, 1, 2] rfl)
  · have h := bb_t h c41
    refine lv_iconst (v := 1) hx hb dX7_thing_20 (by decide) ?_
    refine lv_goto (tgt := 25) hx hb dX7_thing_21 (by decide) ?_
    exact J25  p1 p2 1 S39 h f H locs w hw hn hk ls (lv_sub hl [0, 1, 2] rfl)
