theorem dX6_codeInForce_0 : decode cX6_codeInForce 0 = .ok (.aload_n 0, 1) := by decide +kernel
theorem dX6_codeInForce_1 : decode cX6_codeInForce 1 = .ok (.getfield 10, 3) := by decide +kernel
theorem dX6_codeInForce_4 : decode cX6_codeInForce 4 = .ok (.getfield 175, 3) := by decide +kernel
theorem dX6_codeInForce_7 : decode cX6_codeInForce 7 = .ok (.iconst 0, 1) := by decide +kernel
theorem dX6_codeInForce_8 : decode cX6_codeInForce 8 = .ok (.aload_n 0, 1) := by decide +kernel
theorem dX6_codeInForce_9 : decode cX6_codeInForce 9 = .ok (.getfield 33, 3) := by decide +kernel
theorem dX6_codeInForce_12 : decode cX6_codeInForce 12 = .ok (.iconst 1, 1) := by decide +kernel
theorem dX6_codeInForce_13 : decode cX6_codeInForce 13 = .ok (.isub, 1) := by decide +kernel
theorem dX6_codeInForce_14 : decode cX6_codeInForce 14 = .ok (.invokestatic 92, 3) := by decide +kernel
theorem dX6_codeInForce_17 : decode cX6_codeInForce 17 = .ok (.ifCond .eq 18, 3) := by decide +kernel
theorem dX6_codeInForce_20 : decode cX6_codeInForce 20 = .ok (.aload_n 0, 1) := by decide +kernel
theorem dX6_codeInForce_21 : decode cX6_codeInForce 21 = .ok (.getfield 29, 3) := by decide +kernel
theorem dX6_codeInForce_24 : decode cX6_codeInForce 24 = .ok (.aload_n 0, 1) := by decide +kernel
theorem dX6_codeInForce_25 : decode cX6_codeInForce 25 = .ok (.getfield 10, 3) := by decide +kernel
theorem dX6_codeInForce_28 : decode cX6_codeInForce 28 = .ok (.getfield 175, 3) := by decide +kernel
theorem dX6_codeInForce_31 : decode cX6_codeInForce 31 = .ok (.aaload, 1) := by decide +kernel
theorem dX6_codeInForce_32 : decode cX6_codeInForce 32 = .ok (.goto 4, 3) := by decide +kernel
theorem dX6_codeInForce_35 : decode cX6_codeInForce 35 = .ok (.aconst_null, 1) := by decide +kernel
theorem dX6_codeInForce_36 : decode cX6_codeInForce 36 = .ok (.areturn, 1) := by decide +kernel
theorem dX6_tellLots_0 : decode cX6_tellLots 0 = .ok (.aload_n 0, 1) := by decide +kernel
theorem dX6_tellLots_1 : decode cX6_tellLots 1 = .ok (.invokevirtual 182, 3) := by decide +kernel
theorem dX6_tellLots_4 : decode cX6_tellLots 4 = .ok (.astore_n 1, 1) := by decide +kernel
theorem dX6_tellLots_5 : decode cX6_tellLots 5 = .ok (.aload_n 0, 1) := by decide +kernel
theorem dX6_tellLots_6 : decode cX6_tellLots 6 = .ok (.getfield 75, 3) := by decide +kernel
theorem dX6_tellLots_9 : decode cX6_tellLots 9 = .ok (.aload_n 0, 1) := by decide +kernel
theorem dX6_tellLots_10 : decode cX6_tellLots 10 = .ok (.getfield 10, 3) := by decide +kernel
theorem dX6_tellLots_13 : decode cX6_tellLots 13 = .ok (.invokevirtual 178, 3) := by decide +kernel
theorem dX6_tellLots_16 : decode cX6_tellLots 16 = .ok (.aload_n 0, 1) := by decide +kernel
theorem dX6_tellLots_17 : decode cX6_tellLots 17 = .ok (.getfield 68, 3) := by decide +kernel
theorem dX6_tellLots_20 : decode cX6_tellLots 20 = .ok (.aload_n 1, 1) := by decide +kernel
theorem dX6_tellLots_21 : decode cX6_tellLots 21 = .ok (.aload_n 0, 1) := by decide +kernel
theorem dX6_tellLots_22 : decode cX6_tellLots 22 = .ok (.getfield 75, 3) := by decide +kernel
theorem dX6_tellLots_25 : decode cX6_tellLots 25 = .ok (.iconst 0, 1) := by decide +kernel
theorem dX6_tellLots_26 : decode cX6_tellLots 26 = .ok (.invokevirtual 186, 3) := by decide +kernel
theorem dX6_tellLots_29 : decode cX6_tellLots 29 = .ok (.aload_n 0, 1) := by decide +kernel
theorem dX6_tellLots_30 : decode cX6_tellLots 30 = .ok (.getfield 68, 3) := by decide +kernel
theorem dX6_tellLots_33 : decode cX6_tellLots 33 = .ok (.invokevirtual 196, 3) := by decide +kernel
theorem dX6_tellLots_36 : decode cX6_tellLots 36 = .ok (.istore_n 2, 1) := by decide +kernel
theorem dX6_tellLots_37 : decode cX6_tellLots 37 = .ok (.iconst 0, 1) := by decide +kernel
theorem dX6_tellLots_38 : decode cX6_tellLots 38 = .ok (.istore_n 3, 1) := by decide +kernel
theorem dX6_tellLots_39 : decode cX6_tellLots 39 = .ok (.iload_n 3, 1) := by decide +kernel
theorem dX6_tellLots_40 : decode cX6_tellLots 40 = .ok (.iload_n 2, 1) := by decide +kernel
theorem dX6_tellLots_41 : decode cX6_tellLots 41 = .ok (.if_icmp .ge 54, 3) := by decide +kernel
theorem dX6_tellLots_44 : decode cX6_tellLots 44 = .ok (.iload_n 3, 1) := by decide +kernel
theorem dX6_tellLots_45 : decode cX6_tellLots 45 = .ok (.bipush 36, 2) := by decide +kernel
theorem dX6_tellLots_47 : decode cX6_tellLots 47 = .ok (.if_icmp .ge 48, 3) := by decide +kernel
theorem dX6_tellLots_50 : decode cX6_tellLots 50 = .ok (.aload_n 0, 1) := by decide +kernel
theorem dX6_tellLots_51 : decode cX6_tellLots 51 = .ok (.getfield 68, 3) := by decide +kernel
theorem dX6_tellLots_54 : decode cX6_tellLots 54 = .ok (.aload_n 1, 1) := by decide +kernel
theorem dX6_tellLots_55 : decode cX6_tellLots 55 = .ok (.aload_n 0, 1) := by decide +kernel
theorem dX6_tellLots_56 : decode cX6_tellLots 56 = .ok (.getfield 75, 3) := by decide +kernel
theorem dX6_tellLots_59 : decode cX6_tellLots 59 = .ok (.iload_n 3, 1) := by decide +kernel
theorem dX6_tellLots_60 : decode cX6_tellLots 60 = .ok (.invokevirtual 186, 3) := by decide +kernel
theorem dX6_tellLots_63 : decode cX6_tellLots 63 = .ok (.aload_n 0, 1) := by decide +kernel
theorem dX6_tellLots_64 : decode cX6_tellLots 64 = .ok (.getfield 79, 3) := by decide +kernel
theorem dX6_tellLots_67 : decode cX6_tellLots 67 = .ok (.iload_n 3, 1) := by decide +kernel
theorem dX6_tellLots_68 : decode cX6_tellLots 68 = .ok (.aload_n 0, 1) := by decide +kernel
theorem dX6_tellLots_69 : decode cX6_tellLots 69 = .ok (.getfield 68, 3) := by decide +kernel
theorem dX6_tellLots_72 : decode cX6_tellLots 72 = .ok (.invokevirtual 190, 3) := by decide +kernel
theorem dX6_tellLots_75 : decode cX6_tellLots 75 = .ok (.iastore, 1) := by decide +kernel
theorem dX6_tellLots_76 : decode cX6_tellLots 76 = .ok (.aload_n 0, 1) := by decide +kernel
theorem dX6_tellLots_77 : decode cX6_tellLots 77 = .ok (.getfield 82, 3) := by decide +kernel
theorem dX6_tellLots_80 : decode cX6_tellLots 80 = .ok (.iload_n 3, 1) := by decide +kernel
theorem dX6_tellLots_81 : decode cX6_tellLots 81 = .ok (.aload_n 0, 1) := by decide +kernel
theorem dX6_tellLots_82 : decode cX6_tellLots 82 = .ok (.getfield 68, 3) := by decide +kernel
theorem dX6_tellLots_85 : decode cX6_tellLots 85 = .ok (.invokevirtual 193, 3) := by decide +kernel
theorem dX6_tellLots_88 : decode cX6_tellLots 88 = .ok (.iastore, 1) := by decide +kernel
theorem dX6_tellLots_89 : decode cX6_tellLots 89 = .ok (.iinc 3 1, 3) := by decide +kernel
theorem dX6_tellLots_92 : decode cX6_tellLots 92 = .ok (.goto (-53), 3) := by decide +kernel
theorem dX6_tellLots_95 : decode cX6_tellLots 95 = .ok (.iload_n 2, 1) := by decide +kernel
theorem dX6_tellLots_96 : decode cX6_tellLots 96 = .ok (.ireturn, 1) := by decide +kernel
theorem dX6_leastPaying_0 : decode cX6_leastPaying 0 = .ok (.aload_n 0, 1) := by decide +kernel
theorem dX6_leastPaying_1 : decode cX6_leastPaying 1 = .ok (.invokevirtual 355, 3) := by decide +kernel
theorem dX6_leastPaying_4 : decode cX6_leastPaying 4 = .ok (.istore_n 2, 1) := by decide +kernel
theorem dX6_leastPaying_5 : decode cX6_leastPaying 5 = .ok (.iconst 0, 1) := by decide +kernel
theorem dX6_leastPaying_6 : decode cX6_leastPaying 6 = .ok (.istore_n 3, 1) := by decide +kernel
theorem dX6_leastPaying_7 : decode cX6_leastPaying 7 = .ok (.iload_n 3, 1) := by decide +kernel
theorem dX6_leastPaying_8 : decode cX6_leastPaying 8 = .ok (.bipush 64, 2) := by decide +kernel
theorem dX6_leastPaying_10 : decode cX6_leastPaying 10 = .ok (.if_icmp .ge 44, 3) := by decide +kernel
theorem dX6_leastPaying_13 : decode cX6_leastPaying 13 = .ok (.aload_n 0, 1) := by decide +kernel
theorem dX6_leastPaying_14 : decode cX6_leastPaying 14 = .ok (.getfield 75, 3) := by decide +kernel
theorem dX6_leastPaying_17 : decode cX6_leastPaying 17 = .ok (.aload_n 0, 1) := by decide +kernel
theorem dX6_leastPaying_18 : decode cX6_leastPaying 18 = .ok (.getfield 10, 3) := by decide +kernel
theorem dX6_leastPaying_21 : decode cX6_leastPaying 21 = .ok (.iload_n 3, 1) := by decide +kernel
theorem dX6_leastPaying_22 : decode cX6_leastPaying 22 = .ok (.invokevirtual 234, 3) := by decide +kernel
theorem dX6_leastPaying_25 : decode cX6_leastPaying 25 = .ok (.aload_n 0, 1) := by decide +kernel
theorem dX6_leastPaying_26 : decode cX6_leastPaying 26 = .ok (.getfield 75, 3) := by decide +kernel
theorem dX6_leastPaying_29 : decode cX6_leastPaying 29 = .ok (.getfield 345, 3) := by decide +kernel
theorem dX6_leastPaying_32 : decode cX6_leastPaying 32 = .ok (.bipush 6, 2) := by decide +kernel
theorem dX6_leastPaying_34 : decode cX6_leastPaying 34 = .ok (.if_icmp .ne 14, 3) := by decide +kernel
theorem dX6_leastPaying_37 : decode cX6_leastPaying 37 = .ok (.aload_n 0, 1) := by decide +kernel
theorem dX6_leastPaying_38 : decode cX6_leastPaying 38 = .ok (.iload_n 2, 1) := by decide +kernel
theorem dX6_leastPaying_39 : decode cX6_leastPaying 39 = .ok (.iload_n 1, 1) := by decide +kernel
theorem dX6_leastPaying_40 : decode cX6_leastPaying 40 = .ok (.invokevirtual 358, 3) := by decide +kernel
theorem dX6_leastPaying_43 : decode cX6_leastPaying 43 = .ok (.ifCond .eq 5, 3) := by decide +kernel
theorem dX6_leastPaying_46 : decode cX6_leastPaying 46 = .ok (.iload_n 3, 1) := by decide +kernel
theorem dX6_leastPaying_47 : decode cX6_leastPaying 47 = .ok (.ireturn, 1) := by decide +kernel
theorem dX6_leastPaying_48 : decode cX6_leastPaying 48 = .ok (.iinc 3 1, 3) := by decide +kernel
theorem dX6_leastPaying_51 : decode cX6_leastPaying 51 = .ok (.goto (-44), 3) := by decide +kernel
theorem dX6_leastPaying_54 : decode cX6_leastPaying 54 = .ok (.iconst (-1), 1) := by decide +kernel
theorem dX6_leastPaying_55 : decode cX6_leastPaying 55 = .ok (.ireturn, 1) := by decide +kernel
theorem dX6_pays_0 : decode cX6_pays 0 = .ok (.aload_n 0, 1) := by decide +kernel
theorem dX6_pays_1 : decode cX6_pays 1 = .ok (.getfield 75, 3) := by decide +kernel
theorem dX6_pays_4 : decode cX6_pays 4 = .ok (.aload_n 1, 1) := by decide +kernel
theorem dX6_pays_5 : decode cX6_pays 5 = .ok (.iload_n 2, 1) := by decide +kernel
theorem dX6_pays_6 : decode cX6_pays 6 = .ok (.invokevirtual 234, 3) := by decide +kernel
theorem dX6_pays_9 : decode cX6_pays 9 = .ok (.aload_n 0, 1) := by decide +kernel
theorem dX6_pays_10 : decode cX6_pays 10 = .ok (.getfield 75, 3) := by decide +kernel
theorem dX6_pays_13 : decode cX6_pays 13 = .ok (.aload_n 0, 1) := by decide +kernel
theorem dX6_pays_14 : decode cX6_pays 14 = .ok (.getfield 75, 3) := by decide +kernel
theorem dX6_pays_17 : decode cX6_pays 17 = .ok (.iload_n 3, 1) := by decide +kernel
theorem dX6_pays_18 : decode cX6_pays 18 = .ok (.iload 4, 2) := by decide +kernel
theorem dX6_pays_20 : decode cX6_pays 20 = .ok (.invokevirtual 238, 3) := by decide +kernel
theorem dX6_pays_23 : decode cX6_pays 23 = .ok (.invokevirtual 241, 3) := by decide +kernel
theorem dX6_pays_26 : decode cX6_pays 26 = .ok (.iconst 5, 1) := by decide +kernel
theorem dX6_pays_27 : decode cX6_pays 27 = .ok (.if_icmp .ne 7, 3) := by decide +kernel
theorem dX6_pays_30 : decode cX6_pays 30 = .ok (.iconst 1, 1) := by decide +kernel
theorem dX6_pays_31 : decode cX6_pays 31 = .ok (.goto 4, 3) := by decide +kernel
theorem dX6_pays_34 : decode cX6_pays 34 = .ok (.iconst 0, 1) := by decide +kernel
theorem dX6_pays_35 : decode cX6_pays 35 = .ok (.ireturn, 1) := by decide +kernel
theorem dX6_cellsPaying_0 : decode cX6_cellsPaying 0 = .ok (.iconst 0, 1) := by decide +kernel
theorem dX6_cellsPaying_1 : decode cX6_cellsPaying 1 = .ok (.istore_n 3, 1) := by decide +kernel
theorem dX6_cellsPaying_2 : decode cX6_cellsPaying 2 = .ok (.iconst 0, 1) := by decide +kernel
theorem dX6_cellsPaying_3 : decode cX6_cellsPaying 3 = .ok (.istore 4, 2) := by decide +kernel
theorem dX6_cellsPaying_5 : decode cX6_cellsPaying 5 = .ok (.iload 4, 2) := by decide +kernel
theorem dX6_cellsPaying_7 : decode cX6_cellsPaying 7 = .ok (.bipush 64, 2) := by decide +kernel
theorem dX6_cellsPaying_9 : decode cX6_cellsPaying 9 = .ok (.if_icmp .ge 32, 3) := by decide +kernel
theorem dX6_cellsPaying_12 : decode cX6_cellsPaying 12 = .ok (.iload_n 3, 1) := by decide +kernel
theorem dX6_cellsPaying_13 : decode cX6_cellsPaying 13 = .ok (.aload_n 0, 1) := by decide +kernel
theorem dX6_cellsPaying_14 : decode cX6_cellsPaying 14 = .ok (.aload_n 0, 1) := by decide +kernel
theorem dX6_cellsPaying_15 : decode cX6_cellsPaying 15 = .ok (.getfield 10, 3) := by decide +kernel
theorem dX6_cellsPaying_18 : decode cX6_cellsPaying 18 = .ok (.iload 4, 2) := by decide +kernel
theorem dX6_cellsPaying_20 : decode cX6_cellsPaying 20 = .ok (.iload_n 1, 1) := by decide +kernel
theorem dX6_cellsPaying_21 : decode cX6_cellsPaying 21 = .ok (.iload_n 2, 1) := by decide +kernel
theorem dX6_cellsPaying_22 : decode cX6_cellsPaying 22 = .ok (.invokevirtual 230, 3) := by decide +kernel
theorem dX6_cellsPaying_25 : decode cX6_cellsPaying 25 = .ok (.ifCond .eq 7, 3) := by decide +kernel
theorem dX6_cellsPaying_28 : decode cX6_cellsPaying 28 = .ok (.iconst 1, 1) := by decide +kernel
theorem dX6_cellsPaying_29 : decode cX6_cellsPaying 29 = .ok (.goto 4, 3) := by decide +kernel
theorem dX6_cellsPaying_32 : decode cX6_cellsPaying 32 = .ok (.iconst 0, 1) := by decide +kernel
theorem dX6_cellsPaying_33 : decode cX6_cellsPaying 33 = .ok (.iadd, 1) := by decide +kernel
theorem dX6_cellsPaying_34 : decode cX6_cellsPaying 34 = .ok (.istore_n 3, 1) := by decide +kernel
theorem dX6_cellsPaying_35 : decode cX6_cellsPaying 35 = .ok (.iinc 4 1, 3) := by decide +kernel
theorem dX6_cellsPaying_38 : decode cX6_cellsPaying 38 = .ok (.goto (-33), 3) := by decide +kernel
theorem dX6_cellsPaying_41 : decode cX6_cellsPaying 41 = .ok (.iload_n 3, 1) := by decide +kernel
theorem dX6_cellsPaying_42 : decode cX6_cellsPaying 42 = .ok (.ireturn, 1) := by decide +kernel
set_option maxHeartbeats 4000000 in
set_option maxRecDepth 100000 in
theorem c_X6_codeInForce (l : Launch) (D : va_G) (K : Nat → ClassId) (b0 : Nat) (sa : Nat × Nat × Nat) (sz : Nat) (L : List Nat) (f0 : Nat → va_E) (Ψ : Nat → Nat) (hT : TW K (gof gX1) Ψ L f0) (x : Nat) (hm_x : x ∈ L) (ht_x : Ψ x = 6) : Met l yX6_codeInForce (.code yX6_codeInForce cX6_codeInForce 1 (some (.object "ClawBoxes$Code")) :: gt) { frames := 1, cells := 0, slots := 0, locals := 22 } (va_Pc [.ref x] (hPre D K b0 sa sz L f0)) (hQ D K b0 (fun v9 u9 => ∃ r : Value, v9 = some r ∧ u9 = ((gof gX1), Ψ, L, f0) ∧ (r = .null))) 0 0 (fun q => b0 ≤ q) := by
  refine t_of (own := RX6) (by decide) rfl ?_ (Nat.le_of_ble_eq_true rfl)
  intro p e s m below meth c ls C w hsz hr hlk hnm hl
  have hx := C.1
  have hb := C.2.1
  have hl : lv_has ls 1 [(0, .ref x)] := hl
  have hR : rawk Ψ L f0 f0 := rawk.rf
  refine lv_aload_n hx hb dX6_codeInForce_0 rfl (lv_at hl 0 rfl) ?_
  refine t_getr C w hT hm_x ht_x (by decide) rfl cin_6 0 (by decide) rfl gw_287 dX6_codeInForce_1 (fun q1 hm_q1 ht_q1 => ?_)
  refine t_geti C w hT hm_q1 ht_q1 (by decide) rfl cin_0 6 (by decide) rfl rfl gw_106 dX6_codeInForce_4 (fun x2 hg => ?_)
  obtain rfl : x2 = (-1) := gof_at rfl hg
  refine lv_iconst (v := 0) hx hb dX6_codeInForce_7 (by decide) ?_
  refine lv_aload_n hx hb dX6_codeInForce_8 rfl (lv_at hl 0 rfl) ?_
  refine t_geti C w hT hm_x ht_x (by decide) rfl cin_6 5 (by decide) rfl rfl gw_292 dX6_codeInForce_9 (fun x3 hg => ?_)
  obtain rfl : x3 = 0 := gof_at rfl hg
  refine lv_iconst (v := 1) hx hb dX6_codeInForce_12 (by decide) ?_
  refine lv_isub hx hb dX6_codeInForce_13 ?_
  refine lv_topi (fun y4 ey4 => ?_)
  obtain rfl : y4 = (-1) := ey4.trans (by decide)
  have nm1 : ((-1) : Int32).toInt = -1 := by decide
  have n0 : (0 : Int32).toInt = 0 := by decide
  refine t_callS (n := 3) C w (c_X6_within l D K b0 sa _ L _ Ψ (gof gX1) hT (-1) 0 (-1)) gw_376 gw_374 gw_375 gw_1 ⟨by decide, by decide, by decide +kernel⟩ rfl rfl ⟨by decide, by decide⟩ rfl hl.1 rfl (Nat.le_of_ble_eq_true rfl) dX6_codeInForce_14 ⟨by decide, by decide⟩ (fun v u H locs hp w => ?_)
  obtain ⟨r5, rfl, rfl, hrr5⟩ := hp
  rcases hrr5 with ⟨rfl, hf0_r5, hf1_r5⟩ | ⟨rfl, hf0_r5⟩
  · exfalso; omega
  ·
    refine lv_if_eq (tgt := 35) hx hb dX6_codeInForce_17 (by decide) (fun _ => ?_) (fun c0 => absurd c0 (by decide))
    refine lv_null hx hb dX6_codeInForce_35 ?_
    exact t_aret C hr (Or.inl ⟨_, rfl⟩) hlk w (Or.inl rfl) ⟨_, rfl, rfl, rfl⟩ (by decide) (by decide) dX6_codeInForce_36
set_option maxHeartbeats 4000000 in
set_option maxRecDepth 100000 in
theorem c_X6_tellLots (l : Launch) (D : va_G) (K : Nat → ClassId) (b0 : Nat) (sa : Nat × Nat × Nat) (sz : Nat) (L : List Nat) (f0 : Nat → va_E) (Ψ : Nat → Nat) (hT : TW K (gof gX1) Ψ L f0) (x : Nat) (hm_x : x ∈ L) (ht_x : Ψ x = 6) : Met l yX6_tellLots (.code yX6_tellLots cX6_tellLots 4 (some .int) :: gt) { frames := 2, cells := 0, slots := 0, locals := 48 } (va_Pc [.ref x] (hPre D K b0 sa sz L f0)) (hQ D K b0 (fun v9 u9 => ∃ (r : Int32) (f2 : Nat → va_E), v9 = some (.int r) ∧ u9 = ((gof gX1), Ψ, L, f2) ∧ TW K (gof gX1) Ψ L f2 ∧ rawk Ψ L f0 f2 ∧ (r = 1))) 0 0 (fun q => b0 ≤ q) := by
  refine t_of (own := RX6) (by decide) rfl ?_ (Nat.le_of_ble_eq_true rfl)
  intro p e s m below meth c ls C w hsz hr hlk hnm hl
  have hx := C.1
  have hb := C.2.1
  have hl : lv_has ls 4 [(0, .ref x)] := hl
  have hR : rawk Ψ L f0 f0 := rawk.rf
  refine lv_aload_n hx hb dX6_tellLots_0 rfl (lv_at hl 0 rfl) ?_
  refine t_callV (n := 0) C w hT hm_x ht_x (by decide) rfl rfl (c_X6_codeInForce l D K b0 sa _ L _ Ψ hT x hm_x ht_x) gw_373 gw_370 gw_372 gs_3 gw_1 ⟨by decide, by decide, by decide +kernel⟩ rfl rfl ⟨by decide, by decide⟩ rfl hl.1 rfl (Nat.le_of_ble_eq_true rfl) dX6_tellLots_1 ⟨by decide, by decide⟩ (fun v u H locs hp w => ?_)
  obtain ⟨r1, rfl, rfl, hrr1⟩ := hp
  subst hrr1
  refine lv_astore_nN (lv' := [(1, .null), (0, .ref x)]) hx hb dX6_tellLots_4 rfl hl (by decide) rfl (fun ls hl => ?_)
  refine lv_aload_n hx hb dX6_tellLots_5 rfl (lv_at hl 1 rfl) ?_
  refine t_getr C w hT hm_x ht_x (by decide) rfl cin_6 15 (by decide) rfl gw_302 dX6_tellLots_6 (fun q2 hm_q2 ht_q2 => ?_)
  refine lv_aload_n hx hb dX6_tellLots_9 rfl (lv_at hl 1 rfl) ?_
  refine t_getr C w hT hm_x ht_x (by decide) rfl cin_6 0 (by decide) rfl gw_287 dX6_tellLots_10 (fun q3 hm_q3 ht_q3 => ?_)
  refine t_callV (n := 1) C w hT hm_q2 ht_q2 (by decide) rfl rfl (c_X5_nameNext l D K b0 sa _ L _ Ψ hT q2 hm_q2 ht_q2 q3 hm_q3 ht_q3) gw_380 gw_377 gw_378 gw_379 gw_7 ⟨by decide, by decide, by decide +kernel⟩ rfl rfl ⟨by decide, by decide⟩ rfl hl.1 rfl (Nat.le_of_ble_eq_true rfl) dX6_tellLots_13 ⟨by decide, by decide⟩ (fun v u H locs hp w => ?_)
  obtain ⟨f2, rfl, rfl, hT2, hR1⟩ := hp
  have hR := hR.tr hR1
  clear hT
  have hT := hT2
  clear hT2
  generalize f2 = f at w hT hR
  refine lv_aload_n hx hb dX6_tellLots_16 rfl (lv_at hl 1 rfl) ?_
  refine t_getr C w hT hm_x ht_x (by decide) rfl cin_6 14 (by decide) rfl gw_301 dX6_tellLots_17 (fun q4 hm_q4 ht_q4 => ?_)
  refine lv_aload_nN hx hb dX6_tellLots_20 rfl (lv_at hl 0 rfl) ?_
  refine lv_aload_n hx hb dX6_tellLots_21 rfl (lv_at hl 1 rfl) ?_
  refine t_getr C w hT hm_x ht_x (by decide) rfl cin_6 15 (by decide) rfl gw_302 dX6_tellLots_22 (fun q5 hm_q5 ht_q5 => ?_)
  refine lv_iconst (v := 0) hx hb dX6_tellLots_25 (by decide) ?_
  have n0 : (0 : Int32).toInt = 0 := by decide
  refine t_callV (n := 3) C w hT hm_q4 ht_q4 (by decide) rfl rfl (c_X3_run l D K b0 sa _ L _ Ψ hT q4 hm_q4 ht_q4 q5 hm_q5 ht_q5 0) gw_384 gw_381 gw_382 gw_383 gw_6 ⟨by decide, by decide, by decide +kernel⟩ rfl rfl ⟨by decide, by decide⟩ rfl hl.1 rfl (Nat.le_of_ble_eq_true rfl) dX6_tellLots_26 ⟨by decide, by decide⟩ (fun v u H locs hp w => ?_)
  obtain ⟨f2, rfl, rfl, hT2, hR1⟩ := hp
  have hR := hR.tr hR1
  clear hT
  have hT := hT2
  clear hT2
  generalize f2 = f at w hT hR
  refine lv_aload_n hx hb dX6_tellLots_29 rfl (lv_at hl 1 rfl) ?_
  refine t_getr C w hT hm_x ht_x (by decide) rfl cin_6 14 (by decide) rfl gw_301 dX6_tellLots_30 (fun q6 hm_q6 ht_q6 => ?_)
  refine t_callV (n := 0) C w hT hm_q6 ht_q6 (by decide) rfl rfl (c_X3_lots l D K b0 sa _ L _ Ψ hT q6 hm_q6 ht_q6) gw_417 gw_414 gw_415 gw_416 gw_6 ⟨by decide, by decide, by decide +kernel⟩ rfl rfl ⟨by decide, by decide⟩ rfl hl.1 rfl (Nat.le_of_ble_eq_true rfl) dX6_tellLots_33 ⟨by decide, by decide⟩ (fun v u H locs hp w => ?_)
  obtain ⟨r7, rfl, rfl, hrr7⟩ := hp
  obtain rfl := hrr7
  refine lv_istore_n (lv' := [(2, .int 1), (1, .null), (0, .ref x)]) hx hb dX6_tellLots_36 rfl hl (by decide) rfl (fun ls hl => ?_)
  refine lv_iconst (v := 0) hx hb dX6_tellLots_37 (by decide) ?_
  refine lv_istore_n (lv' := [(3, .int 0), (2, .int 1), (1, .null), (0, .ref x)]) hx hb dX6_tellLots_38 rfl hl (by decide) rfl (fun ls hl => ?_)
  refine lv_iload_n hx hb dX6_tellLots_39 rfl (lv_at hl 0 rfl) ?_
  refine lv_iload_n hx hb dX6_tellLots_40 rfl (lv_at hl 1 rfl) ?_
  refine lv_icmp_ge (tgt := 95) hx hb dX6_tellLots_41 (by decide) (fun c0 => absurd c0 (by decide)) (fun _ => ?_)
  refine lv_iload_n hx hb dX6_tellLots_44 rfl (lv_at hl 0 rfl) ?_
  refine lv_bipush (v := 36) hx hb dX6_tellLots_45 (by decide) ?_
  refine lv_icmp_ge (tgt := 95) hx hb dX6_tellLots_47 (by decide) (fun c0 => absurd c0 (by decide)) (fun _ => ?_)
  refine lv_aload_n hx hb dX6_tellLots_50 rfl (lv_at hl 3 rfl) ?_
  refine t_getr C w hT hm_x ht_x (by decide) rfl cin_6 14 (by decide) rfl gw_301 dX6_tellLots_51 (fun q8 hm_q8 ht_q8 => ?_)
  refine lv_aload_nN hx hb dX6_tellLots_54 rfl (lv_at hl 2 rfl) ?_
  refine lv_aload_n hx hb dX6_tellLots_55 rfl (lv_at hl 3 rfl) ?_
  refine t_getr C w hT hm_x ht_x (by decide) rfl cin_6 15 (by decide) rfl gw_302 dX6_tellLots_56 (fun q9 hm_q9 ht_q9 => ?_)
  refine lv_iload_n hx hb dX6_tellLots_59 rfl (lv_at hl 0 rfl) ?_
  refine t_callV (n := 3) C w hT hm_q8 ht_q8 (by decide) rfl rfl (c_X3_run l D K b0 sa _ L _ Ψ hT q8 hm_q8 ht_q8 q9 hm_q9 ht_q9 0) gw_384 gw_381 gw_382 gw_383 gw_6 ⟨by decide, by decide, by decide +kernel⟩ rfl rfl ⟨by decide, by decide⟩ rfl hl.1 rfl (Nat.le_of_ble_eq_true rfl) dX6_tellLots_60 ⟨by decide, by decide⟩ (fun v u H locs hp w => ?_)
  obtain ⟨f2, rfl, rfl, hT2, hR1⟩ := hp
  have hR := hR.tr hR1
  clear hT
  have hT := hT2
  clear hT2
  generalize f2 = f at w hT hR
  refine lv_aload_n hx hb dX6_tellLots_63 rfl (lv_at hl 3 rfl) ?_
  refine t_getr C w hT hm_x ht_x (by decide) rfl cin_6 16 (by decide) rfl gw_303 dX6_tellLots_64 (fun q10 hm_q10 ht_q10 => ?_)
  refine lv_iload_n hx hb dX6_tellLots_67 rfl (lv_at hl 0 rfl) ?_
  refine lv_aload_n hx hb dX6_tellLots_68 rfl (lv_at hl 3 rfl) ?_
  refine t_getr C w hT hm_x ht_x (by decide) rfl cin_6 14 (by decide) rfl gw_301 dX6_tellLots_69 (fun q11 hm_q11 ht_q11 => ?_)
  refine t_callV (n := 0) C w hT hm_q11 ht_q11 (by decide) rfl rfl (c_X3_grip l D K b0 sa _ L _ Ψ hT q11 hm_q11 ht_q11) gw_421 gw_418 gw_419 gw_420 gw_6 ⟨by decide, by decide, by decide +kernel⟩ rfl rfl ⟨by decide, by decide⟩ rfl hl.1 rfl (Nat.le_of_ble_eq_true rfl) dX6_tellLots_72 ⟨by decide, by decide⟩ (fun v u H locs hp w => ?_)
  obtain ⟨r12, rfl, rfl, hrr12⟩ := hp
  obtain rfl := hrr12
  refine t_iast C w hT hm_q10 ht_q10 (by decide) (by decide) rfl (vp_in_iff.mpr ⟨by decide, by decide⟩) (gof_no rfl) dX6_tellLots_75 (fun f H locs w hT hR1 => ?_)
  have hR := hR.tr hR1
  refine lv_aload_n hx hb dX6_tellLots_76 rfl (lv_at hl 3 rfl) ?_
  refine t_getr C w hT hm_x ht_x (by decide) rfl cin_6 17 (by decide) rfl gw_304 dX6_tellLots_77 (fun q13 hm_q13 ht_q13 => ?_)
  refine lv_iload_n hx hb dX6_tellLots_80 rfl (lv_at hl 0 rfl) ?_
  refine lv_aload_n hx hb dX6_tellLots_81 rfl (lv_at hl 3 rfl) ?_
  refine t_getr C w hT hm_x ht_x (by decide) rfl cin_6 14 (by decide) rfl gw_301 dX6_tellLots_82 (fun q14 hm_q14 ht_q14 => ?_)
  refine t_callV (n := 0) C w hT hm_q14 ht_q14 (by decide) rfl rfl (c_X3_slip l D K b0 sa _ L _ Ψ hT q14 hm_q14 ht_q14) gw_425 gw_422 gw_423 gw_424 gw_6 ⟨by decide, by decide, by decide +kernel⟩ rfl rfl ⟨by decide, by decide⟩ rfl hl.1 rfl (Nat.le_of_ble_eq_true rfl) dX6_tellLots_85 ⟨by decide, by decide⟩ (fun v u H locs hp w => ?_)
  obtain ⟨r15, rfl, rfl, hrr15⟩ := hp
  obtain rfl := hrr15
  refine t_iast C w hT hm_q13 ht_q13 (by decide) (by decide) rfl (vp_in_iff.mpr ⟨by decide, by decide⟩) (gof_no rfl) dX6_tellLots_88 (fun f H locs w hT hR1 => ?_)
  have hR := hR.tr hR1
  refine lv_iinc (v := 1) (lv' := [(3, .int 1), (2, .int 1), (1, .null), (0, .ref x)]) hx hb dX6_tellLots_89 hl (k := 0) rfl (by decide) (by decide) rfl (fun ls hl => ?_)
  refine lv_goto (tgt := 39) hx hb dX6_tellLots_92 (by decide) ?_
  refine lv_iload_n hx hb dX6_tellLots_39 rfl (lv_at hl 0 rfl) ?_
  refine lv_iload_n hx hb dX6_tellLots_40 rfl (lv_at hl 1 rfl) ?_
  refine lv_icmp_ge (tgt := 95) hx hb dX6_tellLots_41 (by decide) (fun _ => ?_) (fun c0 => absurd c0 (by decide))
  refine lv_iload_n hx hb dX6_tellLots_95 rfl (lv_at hl 1 rfl) ?_
  have n1 : (1 : Int32).toInt = 1 := by decide
  exact t_iret C hr hlk w ⟨_, _, rfl, rfl, hT, hR, rfl⟩ (by decide) (by decide) dX6_tellLots_96
set_option maxHeartbeats 4000000 in
set_option maxRecDepth 100000 in
theorem c_X6_leastPaying (l : Launch) (D : va_G) (K : Nat → ClassId) (b0 : Nat) (sa : Nat × Nat × Nat) (sz : Nat) (L : List Nat) (f0 : Nat → va_E) (Ψ : Nat → Nat) (hT : TW K (gof gX1) Ψ L f0) (x : Nat) (hm_x : x ∈ L) (ht_x : Ψ x = 6) (al : Int32) : Met l yX6_leastPaying (.code yX6_leastPaying cX6_leastPaying 4 (some .int) :: gt) { frames := 3, cells := 0, slots := 0, locals := 71 } (va_Pc [.ref x, .int al] (hPre D K b0 sa sz L f0)) (hQ D K b0 (fun v9 u9 => ∃ (r : Int32) (f2 : Nat → va_E), v9 = some (.int r) ∧ u9 = ((gof gX1), Ψ, L, f2) ∧ TW K (gof gX1) Ψ L f2 ∧ rawk Ψ L f0 f2 ∧ (r = (-1)))) 0 0 (fun q => b0 ≤ q) := by
  refine t_of (own := RX6) (by decide) rfl ?_ (Nat.le_of_ble_eq_true rfl)
  intro p e s m below meth c ls C w hsz hr hlk hnm hl
  have hx := C.1
  have hb := C.2.1
  have hl : lv_has ls 4 [(0, .ref x), (1, .int al)] := hl
  have hb_al := ti_bd al
  have hR : rawk Ψ L f0 f0 := rawk.rf
  refine lv_aload_n hx hb dX6_leastPaying_0 rfl (lv_at hl 0 rfl) ?_
  refine t_callV (n := 0) C w hT hm_x ht_x (by decide) rfl rfl (c_X6_tellLots l D K b0 sa _ L _ Ψ hT x hm_x ht_x) gw_369 gw_366 gw_368 gs_2 gw_1 ⟨by decide, by decide, by decide +kernel⟩ rfl rfl ⟨by decide, by decide⟩ rfl hl.1 rfl (Nat.le_of_ble_eq_true rfl) dX6_leastPaying_1 ⟨by decide, by decide⟩ (fun v u H locs hp w => ?_)
  obtain ⟨r1, f2, rfl, rfl, hT2, hR1, hrr1⟩ := hp
  have hR := hR.tr hR1
  clear hT
  have hT := hT2
  clear hT2
  generalize f2 = f at w hT hR
  obtain rfl := hrr1
  refine lv_istore_n (lv' := [(2, .int 1), (0, .ref x), (1, .int al)]) hx hb dX6_leastPaying_4 rfl hl (by decide) rfl (fun ls hl => ?_)
  refine lv_iconst (v := 0) hx hb dX6_leastPaying_5 (by decide) ?_
  refine lv_istore_n (lv' := [(3, .int 0), (2, .int 1), (0, .ref x), (1, .int al)]) hx hb dX6_leastPaying_6 rfl hl (by decide) rfl (fun ls hl => ?_)
  have loop2 : ∀ (n i2 : Nat), i2 ≤ 64 → 64 - i2 < n → ∀ (f : Nat → va_E) (H : Heap) (locs : List Loc), Wh D K b0 sa s H locs L f → TW K (gof gX1) Ψ L f → rawk Ψ L f0 f → ∀ ls : Array Slot, lv_has ls 4 [(3, .int (nI i2)), (2, .int 1), (0, .ref x), (1, .int al)] → W p l e { frames := 3, cells := 0, slots := 0, locals := 71 } s m [.ref x, .int al].toArray below meth c H locs 0 0 (MQ below (hQ D K b0 (fun v9 u9 => ∃ (r : Int32) (f2 : Nat → va_E), v9 = some (.int r) ∧ u9 = ((gof gX1), Ψ, L, f2) ∧ TW K (gof gX1) Ψ L f2 ∧ rawk Ψ L f0 f2 ∧ (r = (-1)))) [.ref x, .int al].toArray s 0 0 (fun q => b0 ≤ q)) (F0 m 7 ls []) := by
    intro n
    induction n with
    | zero => intro i2 h1 h2; exact absurd h2 (Nat.not_lt_zero _)
    | succ n ih2 =>
      intro i2 hi2 hn2 f H locs w hT hR ls hl
      have ti2 : (nI i2).toInt = (i2 : Int) := nI_toInt (by omega)
      refine lv_iload_n hx hb dX6_leastPaying_7 rfl (lv_at hl 0 rfl) ?_
      refine lv_bipush (v := 64) hx hb dX6_leastPaying_8 (by decide) ?_
      have n64 : (64 : Int32).toInt = 64 := by decide
      refine lv_icmp_ge (tgt := 54) hx hb dX6_leastPaying_10 (by decide) (fun c3 => ?_) (fun c3 => ?_)
      · have c3 := le_toInt c3
        refine lv_iconst (v := (-1)) hx hb dX6_leastPaying_54 (by decide) ?_
        have nm1 : ((-1) : Int32).toInt = -1 := by decide
        exact t_iret C hr hlk w ⟨_, _, rfl, rfl, hT, hR, rfl⟩ (by decide) (by decide) dX6_leastPaying_55
      · have c3 := nle_toInt c3
        refine lv_aload_n hx hb dX6_leastPaying_13 rfl (lv_at hl 2 rfl) ?_
        refine t_getr C w hT hm_x ht_x (by decide) rfl cin_6 15 (by decide) rfl gw_302 dX6_leastPaying_14 (fun q4 hm_q4 ht_q4 => ?_)
        refine lv_aload_n hx hb dX6_leastPaying_17 rfl (lv_at hl 2 rfl) ?_
        refine t_getr C w hT hm_x ht_x (by decide) rfl cin_6 0 (by decide) rfl gw_287 dX6_leastPaying_18 (fun q5 hm_q5 ht_q5 => ?_)
        refine lv_iload_n hx hb dX6_leastPaying_21 rfl (lv_at hl 0 rfl) ?_
        refine t_callV (n := 2) C w hT hm_q4 ht_q4 (by decide) rfl rfl (c_X5_look l D K b0 sa _ L _ Ψ hT q4 hm_q4 ht_q4 q5 hm_q5 ht_q5 (nI i2)) gw_429 gw_426 gw_427 gw_428 gw_7 ⟨by decide, by decide, by decide +kernel⟩ rfl rfl ⟨by decide, by decide⟩ rfl hl.1 rfl (Nat.le_of_ble_eq_true rfl) dX6_leastPaying_22 ⟨by decide, by decide⟩ (fun v u H locs hp w => ?_)
        obtain ⟨f2, rfl, rfl, hT2, hR1⟩ := hp
        have hR := hR.tr hR1
        clear hT
        have hT := hT2
        clear hT2
        generalize f2 = f at w hT hR
        refine lv_aload_n hx hb dX6_leastPaying_25 rfl (lv_at hl 2 rfl) ?_
        refine t_getr C w hT hm_x ht_x (by decide) rfl cin_6 15 (by decide) rfl gw_302 dX6_leastPaying_26 (fun q6 hm_q6 ht_q6 => ?_)
        refine t_geti C w hT hm_q6 ht_q6 (by decide) rfl cin_5 1 (by decide) rfl rfl gw_222 dX6_leastPaying_29 (fun x7 hg => ?_)
        obtain rfl : x7 = 0 := gof_at rfl hg
        refine lv_bipush (v := 6) hx hb dX6_leastPaying_32 (by decide) ?_
        refine lv_icmp_ne (tgt := 48) hx hb dX6_leastPaying_34 (by decide) (fun _ => ?_) (fun c0 => absurd c0 (by decide))
        refine lv_iinc (v := (nI (i2 + 1))) (lv' := [(3, .int (nI (i2 + 1))), (2, .int 1), (0, .ref x), (1, .int al)]) hx hb dX6_leastPaying_48 hl (k := 0) rfl (by exact nI_1 i2) (by decide) rfl (fun ls hl => ?_)
        refine lv_goto (tgt := 7) hx hb dX6_leastPaying_51 (by decide) ?_
        exact ih2 (i2 + 1) (by omega) (by omega) _ _ _ w hT hR ls (lv_sub hl [0, 1, 2, 3] rfl)
  exact loop2 65 0 (by decide) (by decide) _ _ _ w hT hR ls hl
set_option maxHeartbeats 4000000 in
set_option maxRecDepth 100000 in
theorem c_X6_pays (l : Launch) (D : va_G) (K : Nat → ClassId) (b0 : Nat) (sa : Nat × Nat × Nat) (sz : Nat) (L : List Nat) (f0 : Nat → va_E) (Ψ : Nat → Nat) (hT : TW K (gof gX1) Ψ L f0) (x : Nat) (hm_x : x ∈ L) (ht_x : Ψ x = 6) (bx : Nat) (hm_bx : bx ∈ L) (ht_bx : Ψ bx = 0) (ce : Int32) (g_ : Int32) (sl : Int32) : Met l yX6_pays (.code yX6_pays cX6_pays 5 (some .boolean) :: gt) { frames := 2, cells := 0, slots := 0, locals := 48 } (va_Pc [.ref x, .ref bx, .int ce, .int g_, .int sl] (hPre D K b0 sa sz L f0)) (hQ D K b0 (fun v9 u9 => ∃ (r : Int32) (f2 : Nat → va_E), v9 = some (.int r) ∧ u9 = ((gof gX1), Ψ, L, f2) ∧ TW K (gof gX1) Ψ L f2 ∧ rawk Ψ L f0 f2 ∧ (r = 0))) 0 0 (fun q => b0 ≤ q) := by
  refine t_of (own := RX6) (by decide) rfl ?_ (Nat.le_of_ble_eq_true rfl)
  intro p e s m below meth c ls C w hsz hr hlk hnm hl
  have hx := C.1
  have hb := C.2.1
  have hl : lv_has ls 5 [(0, .ref x), (1, .ref bx), (2, .int ce), (3, .int g_), (4, .int sl)] := hl
  have hb_ce := ti_bd ce
  have hb_g_ := ti_bd g_
  have hb_sl := ti_bd sl
  have hR : rawk Ψ L f0 f0 := rawk.rf
  refine lv_aload_n hx hb dX6_pays_0 rfl (lv_at hl 0 rfl) ?_
  refine t_getr C w hT hm_x ht_x (by decide) rfl cin_6 15 (by decide) rfl gw_302 dX6_pays_1 (fun q1 hm_q1 ht_q1 => ?_)
  refine lv_aload_n hx hb dX6_pays_4 rfl (lv_at hl 1 rfl) ?_
  refine lv_iload_n hx hb dX6_pays_5 rfl (lv_at hl 2 rfl) ?_
  refine t_callV (n := 2) C w hT hm_q1 ht_q1 (by decide) rfl rfl (c_X5_look l D K b0 sa _ L _ Ψ hT q1 hm_q1 ht_q1 bx hm_bx ht_bx ce) gw_429 gw_426 gw_427 gw_428 gw_7 ⟨by decide, by decide, by decide +kernel⟩ rfl rfl ⟨by decide, by decide⟩ rfl hl.1 rfl (Nat.le_of_ble_eq_true rfl) dX6_pays_6 ⟨by decide, by decide⟩ (fun v u H locs hp w => ?_)
  obtain ⟨f2, rfl, rfl, hT2, hR1⟩ := hp
  have hR := hR.tr hR1
  clear hT
  have hT := hT2
  clear hT2
  generalize f2 = f at w hT hR
  refine lv_aload_n hx hb dX6_pays_9 rfl (lv_at hl 0 rfl) ?_
  refine t_getr C w hT hm_x ht_x (by decide) rfl cin_6 15 (by decide) rfl gw_302 dX6_pays_10 (fun q2 hm_q2 ht_q2 => ?_)
  refine lv_aload_n hx hb dX6_pays_13 rfl (lv_at hl 0 rfl) ?_
  refine t_getr C w hT hm_x ht_x (by decide) rfl cin_6 15 (by decide) rfl gw_302 dX6_pays_14 (fun q3 hm_q3 ht_q3 => ?_)
  refine lv_iload_n hx hb dX6_pays_17 rfl (lv_at hl 3 rfl) ?_
  refine lv_iload hx hb dX6_pays_18 (lv_at hl 4 rfl) ?_
  refine t_callV (n := 2) C w hT hm_q3 ht_q3 (by decide) rfl rfl (c_X5_failingStep l D K b0 sa _ L _ Ψ hT q3 hm_q3 ht_q3 g_ sl) gw_467 gw_464 gw_465 gw_466 gw_7 ⟨by decide, by decide, by decide +kernel⟩ rfl rfl ⟨by decide, by decide⟩ rfl hl.1 rfl (Nat.le_of_ble_eq_true rfl) dX6_pays_20 ⟨by decide, by decide⟩ (fun v u H locs hp w => ?_)
  obtain ⟨r4, rfl, rfl, hrr4⟩ := hp
  obtain rfl := hrr4
  have n0 : (0 : Int32).toInt = 0 := by decide
  refine t_callV (n := 1) C w hT hm_q2 ht_q2 (by decide) rfl rfl (c_X5_outcomeAt l D K b0 sa _ L _ Ψ hT q2 hm_q2 ht_q2 0) gw_471 gw_468 gw_469 gw_470 gw_7 ⟨by decide, by decide, by decide +kernel⟩ rfl rfl ⟨by decide, by decide⟩ rfl hl.1 rfl (Nat.le_of_ble_eq_true rfl) dX6_pays_23 ⟨by decide, by decide⟩ (fun v u H locs hp w => ?_)
  obtain ⟨r5, rfl, rfl, hrr5⟩ := hp
  obtain rfl := hrr5
  refine lv_iconst (v := 5) hx hb dX6_pays_26 (by decide) ?_
  refine lv_icmp_ne (tgt := 34) hx hb dX6_pays_27 (by decide) (fun _ => ?_) (fun c0 => absurd c0 (by decide))
  refine lv_iconst (v := 0) hx hb dX6_pays_34 (by decide) ?_
  exact t_zret C hr hlk w (by decide) ⟨_, _, rfl, rfl, hT, hR, rfl⟩ (by decide) (by decide) dX6_pays_35
set_option maxHeartbeats 4000000 in
set_option maxRecDepth 100000 in
theorem c_X6_cellsPaying (l : Launch) (D : va_G) (K : Nat → ClassId) (b0 : Nat) (sa : Nat × Nat × Nat) (sz : Nat) (L : List Nat) (f0 : Nat → va_E) (Ψ : Nat → Nat) (hT : TW K (gof gX1) Ψ L f0) (x : Nat) (hm_x : x ∈ L) (ht_x : Ψ x = 6) (g_ : Int32) (sl : Int32) : Met l yX6_cellsPaying (.code yX6_cellsPaying cX6_cellsPaying 5 (some .int) :: gt) { frames := 3, cells := 0, slots := 0, locals := 72 } (va_Pc [.ref x, .int g_, .int sl] (hPre D K b0 sa sz L f0)) (hQ D K b0 (fun v9 u9 => ∃ (r : Int32) (f2 : Nat → va_E), v9 = some (.int r) ∧ u9 = ((gof gX1), Ψ, L, f2) ∧ TW K (gof gX1) Ψ L f2 ∧ rawk Ψ L f0 f2 ∧ (r = 0))) 0 0 (fun q => b0 ≤ q) := by
  refine t_of (own := RX6) (by decide) rfl ?_ (Nat.le_of_ble_eq_true rfl)
  intro p e s m below meth c ls C w hsz hr hlk hnm hl
  have hx := C.1
  have hb := C.2.1
  have hl : lv_has ls 5 [(0, .ref x), (1, .int g_), (2, .int sl)] := hl
  have hb_g_ := ti_bd g_
  have hb_sl := ti_bd sl
  have hR : rawk Ψ L f0 f0 := rawk.rf
  refine lv_iconst (v := 0) hx hb dX6_cellsPaying_0 (by decide) ?_
  refine lv_istore_n (lv' := [(3, .int 0), (0, .ref x), (1, .int g_), (2, .int sl)]) hx hb dX6_cellsPaying_1 rfl hl (by decide) rfl (fun ls hl => ?_)
  refine lv_iconst (v := 0) hx hb dX6_cellsPaying_2 (by decide) ?_
  refine lv_istore (lv' := [(4, .int 0), (3, .int 0), (0, .ref x), (1, .int g_), (2, .int sl)]) hx hb dX6_cellsPaying_3 hl (by decide) rfl (fun ls hl => ?_)
  have loop1 : ∀ (n i1 : Nat), i1 ≤ 64 → 64 - i1 < n → ∀ (f : Nat → va_E) (H : Heap) (locs : List Loc), Wh D K b0 sa s H locs L f → TW K (gof gX1) Ψ L f → rawk Ψ L f0 f → ∀ ls : Array Slot, lv_has ls 5 [(4, .int (nI i1)), (3, .int 0), (0, .ref x), (1, .int g_), (2, .int sl)] → W p l e { frames := 3, cells := 0, slots := 0, locals := 72 } s m [.ref x, .int g_, .int sl].toArray below meth c H locs 0 0 (MQ below (hQ D K b0 (fun v9 u9 => ∃ (r : Int32) (f2 : Nat → va_E), v9 = some (.int r) ∧ u9 = ((gof gX1), Ψ, L, f2) ∧ TW K (gof gX1) Ψ L f2 ∧ rawk Ψ L f0 f2 ∧ (r = 0))) [.ref x, .int g_, .int sl].toArray s 0 0 (fun q => b0 ≤ q)) (F0 m 5 ls []) := by
    intro n
    induction n with
    | zero => intro i1 h1 h2; exact absurd h2 (Nat.not_lt_zero _)
    | succ n ih1 =>
      intro i1 hi1 hn1 f H locs w hT hR ls hl
      have ti1 : (nI i1).toInt = (i1 : Int) := nI_toInt (by omega)
      refine lv_iload hx hb dX6_cellsPaying_5 (lv_at hl 0 rfl) ?_
      refine lv_bipush (v := 64) hx hb dX6_cellsPaying_7 (by decide) ?_
      have n64 : (64 : Int32).toInt = 64 := by decide
      refine lv_icmp_ge (tgt := 41) hx hb dX6_cellsPaying_9 (by decide) (fun c2 => ?_) (fun c2 => ?_)
      · have c2 := le_toInt c2
        refine lv_iload_n hx hb dX6_cellsPaying_41 rfl (lv_at hl 1 rfl) ?_
        have n0 : (0 : Int32).toInt = 0 := by decide
        exact t_iret C hr hlk w ⟨_, _, rfl, rfl, hT, hR, rfl⟩ (by decide) (by decide) dX6_cellsPaying_42
      · have c2 := nle_toInt c2
        refine lv_iload_n hx hb dX6_cellsPaying_12 rfl (lv_at hl 1 rfl) ?_
        refine lv_aload_n hx hb dX6_cellsPaying_13 rfl (lv_at hl 2 rfl) ?_
        refine lv_aload_n hx hb dX6_cellsPaying_14 rfl (lv_at hl 2 rfl) ?_
        refine t_getr C w hT hm_x ht_x (by decide) rfl cin_6 0 (by decide) rfl gw_287 dX6_cellsPaying_15 (fun q3 hm_q3 ht_q3 => ?_)
        refine lv_iload hx hb dX6_cellsPaying_18 (lv_at hl 0 rfl) ?_
        refine lv_iload_n hx hb dX6_cellsPaying_20 rfl (lv_at hl 3 rfl) ?_
        refine lv_iload_n hx hb dX6_cellsPaying_21 rfl (lv_at hl 4 rfl) ?_
        refine t_callV (n := 4) C w hT hm_x ht_x (by decide) rfl rfl (c_X6_pays l D K b0 sa _ L _ Ψ hT x hm_x ht_x q3 hm_q3 ht_q3 (nI i1) g_ sl) gw_1027 gw_1024 gw_1026 gs_17 gw_1 ⟨by decide, by decide, by decide +kernel⟩ rfl rfl ⟨by decide, by decide⟩ rfl hl.1 rfl (Nat.le_of_ble_eq_true rfl) dX6_cellsPaying_22 ⟨by decide, by decide⟩ (fun v u H locs hp w => ?_)
        obtain ⟨r4, f2, rfl, rfl, hT2, hR1, hrr4⟩ := hp
        have hR := hR.tr hR1
        clear hT
        have hT := hT2
        clear hT2
        generalize f2 = f at w hT hR
        obtain rfl := hrr4
        refine lv_if_eq (tgt := 32) hx hb dX6_cellsPaying_25 (by decide) (fun _ => ?_) (fun c0 => absurd c0 (by decide))
        refine lv_iconst (v := 0) hx hb dX6_cellsPaying_32 (by decide) ?_
        refine lv_iadd hx hb dX6_cellsPaying_33 ?_
        refine lv_topi (fun y5 ey5 => ?_)
        obtain rfl : y5 = 0 := ey5.trans (by decide)
        refine lv_istore_n (lv' := [(3, .int 0), (4, .int (nI i1)), (0, .ref x), (1, .int g_), (2, .int sl)]) hx hb dX6_cellsPaying_34 rfl hl (by decide) rfl (fun ls hl => ?_)
        refine lv_iinc (v := (nI (i1 + 1))) (lv' := [(4, .int (nI (i1 + 1))), (3, .int 0), (0, .ref x), (1, .int g_), (2, .int sl)]) hx hb dX6_cellsPaying_35 hl (k := 1) rfl (by exact nI_1 i1) (by decide) rfl (fun ls hl => ?_)
        refine lv_goto (tgt := 5) hx hb dX6_cellsPaying_38 (by decide) ?_
        exact ih1 (i1 + 1) (by omega) (by omega) _ _ _ w hT hR ls (lv_sub hl [0, 1, 2, 3, 4] rfl)
  exact loop1 65 0 (by decide) (by decide) _ _ _ w hT hR ls hl
