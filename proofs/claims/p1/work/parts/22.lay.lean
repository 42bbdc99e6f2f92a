theorem dX2_add_0 : decode cX2_add 0 = .ok (.aload_n 0, 1) := by decide +kernel
theorem dX2_add_1 : decode cX2_add 1 = .ok (.getfield 9, 3) := by decide +kernel
theorem dX2_add_4 : decode cX2_add 4 = .ok (.bipush 24, 2) := by decide +kernel
theorem dX2_add_6 : decode cX2_add 6 = .ok (.if_icmp .lt 5, 3) := by decide +kernel
theorem dX2_add_9 : decode cX2_add 9 = .ok (.iconst (-1), 1) := by decide +kernel
theorem dX2_add_10 : decode cX2_add 10 = .ok (.ireturn, 1) := by decide +kernel
theorem dX2_add_11 : decode cX2_add 11 = .ok (.aload_n 0, 1) := by decide +kernel
theorem dX2_add_12 : decode cX2_add 12 = .ok (.getfield 9, 3) := by decide +kernel
theorem dX2_add_15 : decode cX2_add 15 = .ok (.istore 5, 2) := by decide +kernel
theorem dX2_add_17 : decode cX2_add 17 = .ok (.aload_n 0, 1) := by decide +kernel
theorem dX2_add_18 : decode cX2_add 18 = .ok (.dup, 1) := by decide +kernel
theorem dX2_add_19 : decode cX2_add 19 = .ok (.getfield 9, 3) := by decide +kernel
theorem dX2_add_22 : decode cX2_add 22 = .ok (.iconst 1, 1) := by decide +kernel
theorem dX2_add_23 : decode cX2_add 23 = .ok (.iadd, 1) := by decide +kernel
theorem dX2_add_24 : decode cX2_add 24 = .ok (.putfield 9, 3) := by decide +kernel
theorem dX2_add_27 : decode cX2_add 27 = .ok (.aload_n 0, 1) := by decide +kernel
theorem dX2_add_28 : decode cX2_add 28 = .ok (.getfield 15, 3) := by decide +kernel
theorem dX2_add_31 : decode cX2_add 31 = .ok (.iload 5, 2) := by decide +kernel
theorem dX2_add_33 : decode cX2_add 33 = .ok (.iload_n 2, 1) := by decide +kernel
theorem dX2_add_34 : decode cX2_add 34 = .ok (.iastore, 1) := by decide +kernel
theorem dX2_add_35 : decode cX2_add 35 = .ok (.aload_n 0, 1) := by decide +kernel
theorem dX2_add_36 : decode cX2_add 36 = .ok (.getfield 19, 3) := by decide +kernel
theorem dX2_add_39 : decode cX2_add 39 = .ok (.iload 5, 2) := by decide +kernel
theorem dX2_add_41 : decode cX2_add 41 = .ok (.iload_n 3, 1) := by decide +kernel
theorem dX2_add_42 : decode cX2_add 42 = .ok (.iastore, 1) := by decide +kernel
theorem dX2_add_43 : decode cX2_add 43 = .ok (.aload_n 0, 1) := by decide +kernel
theorem dX2_add_44 : decode cX2_add 44 = .ok (.getfield 22, 3) := by decide +kernel
theorem dX2_add_47 : decode cX2_add 47 = .ok (.iload 5, 2) := by decide +kernel
theorem dX2_add_49 : decode cX2_add 49 = .ok (.iload 4, 2) := by decide +kernel
theorem dX2_add_51 : decode cX2_add 51 = .ok (.iastore, 1) := by decide +kernel
theorem dX2_add_52 : decode cX2_add 52 = .ok (.aload_n 0, 1) := by decide +kernel
theorem dX2_add_53 : decode cX2_add 53 = .ok (.getfield 25, 3) := by decide +kernel
theorem dX2_add_56 : decode cX2_add 56 = .ok (.iload 5, 2) := by decide +kernel
theorem dX2_add_58 : decode cX2_add 58 = .ok (.iconst 0, 1) := by decide +kernel
theorem dX2_add_59 : decode cX2_add 59 = .ok (.iastore, 1) := by decide +kernel
theorem dX2_add_60 : decode cX2_add 60 = .ok (.aload_n 0, 1) := by decide +kernel
theorem dX2_add_61 : decode cX2_add 61 = .ok (.getfield 28, 3) := by decide +kernel
theorem dX2_add_64 : decode cX2_add 64 = .ok (.iload 5, 2) := by decide +kernel
theorem dX2_add_66 : decode cX2_add 66 = .ok (.iload_n 1, 1) := by decide +kernel
theorem dX2_add_67 : decode cX2_add 67 = .ok (.iastore, 1) := by decide +kernel
theorem dX2_add_68 : decode cX2_add 68 = .ok (.aload_n 0, 1) := by decide +kernel
theorem dX2_add_69 : decode cX2_add 69 = .ok (.iload 5, 2) := by decide +kernel
theorem dX2_add_71 : decode cX2_add 71 = .ok (.iload_n 1, 1) := by decide +kernel
theorem dX2_add_72 : decode cX2_add 72 = .ok (.invokevirtual 46, 3) := by decide +kernel
theorem dX2_add_75 : decode cX2_add 75 = .ok (.iload 5, 2) := by decide +kernel
theorem dX2_add_77 : decode cX2_add 77 = .ok (.ireturn, 1) := by decide +kernel
theorem dX2_put_0 : decode cX2_put 0 = .ok (.aload_n 0, 1) := by decide +kernel
theorem dX2_put_1 : decode cX2_put 1 = .ok (.iload_n 1, 1) := by decide +kernel
theorem dX2_put_2 : decode cX2_put 2 = .ok (.invokevirtual 50, 3) := by decide +kernel
theorem dX2_put_5 : decode cX2_put 5 = .ok (.ifCond .eq 39, 3) := by decide +kernel
theorem dX2_put_8 : decode cX2_put 8 = .ok (.iload_n 2, 1) := by decide +kernel
theorem dX2_put_9 : decode cX2_put 9 = .ok (.iconst 0, 1) := by decide +kernel
theorem dX2_put_10 : decode cX2_put 10 = .ok (.bipush 63, 2) := by decide +kernel
theorem dX2_put_12 : decode cX2_put 12 = .ok (.invokestatic 54, 3) := by decide +kernel
theorem dX2_put_15 : decode cX2_put 15 = .ok (.ifCond .eq 29, 3) := by decide +kernel
theorem dX2_put_18 : decode cX2_put 18 = .ok (.aload_n 0, 1) := by decide +kernel
theorem dX2_put_19 : decode cX2_put 19 = .ok (.getfield 31, 3) := by decide +kernel
theorem dX2_put_22 : decode cX2_put 22 = .ok (.iload_n 1, 1) := by decide +kernel
theorem dX2_put_23 : decode cX2_put 23 = .ok (.iload_n 2, 1) := by decide +kernel
theorem dX2_put_24 : decode cX2_put 24 = .ok (.iastore, 1) := by decide +kernel
theorem dX2_put_25 : decode cX2_put 25 = .ok (.aload_n 0, 1) := by decide +kernel
theorem dX2_put_26 : decode cX2_put 26 = .ok (.getfield 34, 3) := by decide +kernel
theorem dX2_put_29 : decode cX2_put 29 = .ok (.iload_n 1, 1) := by decide +kernel
theorem dX2_put_30 : decode cX2_put 30 = .ok (.aload_n 0, 1) := by decide +kernel
theorem dX2_put_31 : decode cX2_put 31 = .ok (.getfield 37, 3) := by decide +kernel
theorem dX2_put_34 : decode cX2_put 34 = .ok (.iload_n 2, 1) := by decide +kernel
theorem dX2_put_35 : decode cX2_put 35 = .ok (.iaload, 1) := by decide +kernel
theorem dX2_put_36 : decode cX2_put 36 = .ok (.iastore, 1) := by decide +kernel
theorem dX2_put_37 : decode cX2_put 37 = .ok (.aload_n 0, 1) := by decide +kernel
theorem dX2_put_38 : decode cX2_put 38 = .ok (.getfield 37, 3) := by decide +kernel
theorem dX2_put_41 : decode cX2_put 41 = .ok (.iload_n 2, 1) := by decide +kernel
theorem dX2_put_42 : decode cX2_put 42 = .ok (.iload_n 1, 1) := by decide +kernel
theorem dX2_put_43 : decode cX2_put 43 = .ok (.iastore, 1) := by decide +kernel
theorem dX2_put_44 : decode cX2_put 44 = .ok (.return_, 1) := by decide +kernel
theorem dX6_lay_0 : decode cX6_lay 0 = .ok (.iload_n 1, 1) := by decide +kernel
theorem dX6_lay_1 : decode cX6_lay 1 = .ok (.invokestatic 85, 3) := by decide +kernel
theorem dX6_lay_4 : decode cX6_lay 4 = .ok (.iload_n 1, 1) := by decide +kernel
theorem dX6_lay_5 : decode cX6_lay 5 = .ok (.aload_n 0, 1) := by decide +kernel
theorem dX6_lay_6 : decode cX6_lay 6 = .ok (.getfield 10, 3) := by decide +kernel
theorem dX6_lay_9 : decode cX6_lay 9 = .ok (.getfield 89, 3) := by decide +kernel
theorem dX6_lay_12 : decode cX6_lay 12 = .ok (.if_icmp .eq 39, 3) := by decide +kernel
theorem dX6_lay_15 : decode cX6_lay 15 = .ok (.iload_n 2, 1) := by decide +kernel
theorem dX6_lay_16 : decode cX6_lay 16 = .ok (.iconst 1, 1) := by decide +kernel
theorem dX6_lay_17 : decode cX6_lay 17 = .ok (.bipush 99, 2) := by decide +kernel
theorem dX6_lay_19 : decode cX6_lay 19 = .ok (.invokestatic 92, 3) := by decide +kernel
theorem dX6_lay_22 : decode cX6_lay 22 = .ok (.ifCond .eq 29, 3) := by decide +kernel
theorem dX6_lay_25 : decode cX6_lay 25 = .ok (.iload_n 3, 1) := by decide +kernel
theorem dX6_lay_26 : decode cX6_lay 26 = .ok (.iconst 0, 1) := by decide +kernel
theorem dX6_lay_27 : decode cX6_lay 27 = .ok (.bipush 7, 2) := by decide +kernel
theorem dX6_lay_29 : decode cX6_lay 29 = .ok (.invokestatic 92, 3) := by decide +kernel
theorem dX6_lay_32 : decode cX6_lay 32 = .ok (.ifCond .eq 19, 3) := by decide +kernel
theorem dX6_lay_35 : decode cX6_lay 35 = .ok (.iload 4, 2) := by decide +kernel
theorem dX6_lay_37 : decode cX6_lay 37 = .ok (.iconst 0, 1) := by decide +kernel
theorem dX6_lay_38 : decode cX6_lay 38 = .ok (.sipush 999, 3) := by decide +kernel
theorem dX6_lay_41 : decode cX6_lay 41 = .ok (.invokestatic 92, 3) := by decide +kernel
theorem dX6_lay_44 : decode cX6_lay 44 = .ok (.ifCond .eq 7, 3) := by decide +kernel
theorem dX6_lay_47 : decode cX6_lay 47 = .ok (.iconst 1, 1) := by decide +kernel
theorem dX6_lay_48 : decode cX6_lay 48 = .ok (.goto 4, 3) := by decide +kernel
theorem dX6_lay_51 : decode cX6_lay 51 = .ok (.iconst 0, 1) := by decide +kernel
theorem dX6_lay_52 : decode cX6_lay 52 = .ok (.invokestatic 96, 3) := by decide +kernel
theorem dX6_lay_55 : decode cX6_lay 55 = .ok (.aload_n 0, 1) := by decide +kernel
theorem dX6_lay_56 : decode cX6_lay 56 = .ok (.getfield 10, 3) := by decide +kernel
theorem dX6_lay_59 : decode cX6_lay 59 = .ok (.getfield 100, 3) := by decide +kernel
theorem dX6_lay_62 : decode cX6_lay 62 = .ok (.iload_n 1, 1) := by decide +kernel
theorem dX6_lay_63 : decode cX6_lay 63 = .ok (.iload_n 2, 1) := by decide +kernel
theorem dX6_lay_64 : decode cX6_lay 64 = .ok (.iload_n 3, 1) := by decide +kernel
theorem dX6_lay_65 : decode cX6_lay 65 = .ok (.iload 4, 2) := by decide +kernel
theorem dX6_lay_67 : decode cX6_lay 67 = .ok (.invokevirtual 104, 3) := by decide +kernel
theorem dX6_lay_70 : decode cX6_lay 70 = .ok (.ireturn, 1) := by decide +kernel
set_option maxHeartbeats 4000000 in
set_option maxRecDepth 100000 in
theorem c_X2_known2 (l : Launch) (D : va_G) (K : Nat → ClassId) (b0 : Nat) (sa : Nat × Nat × Nat) (sz : Nat) (L : List Nat) (f0 : Nat → va_E) (Ψ : Nat → Nat) (G : tG) (hT : TW K G Ψ L f0) (h : Nat) (hm_h : h ∈ L) (ht_h : Ψ h = 2) (t : Int32) : Met l yX2_known (.code yX2_known cX2_known 2 (some .boolean) :: gt) { frames := 0, cells := 0, slots := 0, locals := 0 } (va_Pc [.ref h, .int t] (hPre D K b0 sa sz L f0)) (hQ D K b0 (fun v9 u9 => ∃ r : Int32, v9 = some (.int r) ∧ u9 = (G, Ψ, L, f0) ∧ ((r = 1 ∧ (0 ≤ t.toInt) ∧ (t.toInt ≤ 23)) ∨ (r = 0)))) 0 0 (fun q => b0 ≤ q) := by
  refine t_of (own := RX2) (by decide) rfl ?_ (Nat.le_of_ble_eq_true rfl)
  intro p e s m below meth c ls C w hsz hr hlk hnm hl
  have hx := C.1
  have hb := C.2.1
  have hl : lv_has ls 2 [(0, .ref h), (1, .int t)] := hl
  have hb_t := ti_bd t
  have hR : rawk Ψ L f0 f0 := rawk.rf
  refine lv_iload_n hx hb dX2_known_0 rfl (lv_at hl 1 rfl) ?_
  have n0 : (0 : Int32).toInt = 0 := by decide
  refine lv_if_lt (tgt := 22) hx hb dX2_known_1 (by decide) (fun c1 => ?_) (fun c1 => ?_)
  · have c1 := lt_toInt c1
    refine lv_iconst (v := 0) hx hb dX2_known_22 (by decide) ?_
    exact t_zret C hr hlk w (by decide) ⟨_, rfl, rfl, Or.inr (rfl)⟩ (by decide) (by decide) dX2_known_23
  · have c1 := nlt_toInt c1
    refine lv_iload_n hx hb dX2_known_4 rfl (lv_at hl 1 rfl) ?_
    refine lv_aload_n hx hb dX2_known_5 rfl (lv_at hl 0 rfl) ?_
    refine t_geti C w hT hm_h ht_h (by decide) rfl cin_2 0 (by decide) rfl rfl gw_46 dX2_known_6 (fun x2 hg => ?_)
    refine lv_icmp_ge (tgt := 22) hx hb dX2_known_9 (by decide) (fun c3 => ?_) (fun c3 => ?_)
    · have c3 := le_toInt c3
      refine lv_iconst (v := 0) hx hb dX2_known_22 (by decide) ?_
      exact t_zret C hr hlk w (by decide) ⟨_, rfl, rfl, Or.inr (rfl)⟩ (by decide) (by decide) dX2_known_23
    · have c3 := nle_toInt c3
      refine lv_iload_n hx hb dX2_known_12 rfl (lv_at hl 1 rfl) ?_
      refine lv_bipush (v := 24) hx hb dX2_known_13 (by decide) ?_
      have n24 : (24 : Int32).toInt = 24 := by decide
      refine lv_icmp_ge (tgt := 22) hx hb dX2_known_15 (by decide) (fun c4 => ?_) (fun c4 => ?_)
      · have c4 := le_toInt c4
        refine lv_iconst (v := 0) hx hb dX2_known_22 (by decide) ?_
        exact t_zret C hr hlk w (by decide) ⟨_, rfl, rfl, Or.inr (rfl)⟩ (by decide) (by decide) dX2_known_23
      · have c4 := nle_toInt c4
        refine lv_iconst (v := 1) hx hb dX2_known_18 (by decide) ?_
        refine lv_goto (tgt := 23) hx hb dX2_known_19 (by decide) ?_
        have n1 : (1 : Int32).toInt = 1 := by decide
        exact t_zret C hr hlk w (by decide) ⟨_, rfl, rfl, Or.inl ⟨rfl, (by omega), (by omega)⟩⟩ (by decide) (by decide) dX2_known_23
set_option maxHeartbeats 4000000 in
set_option maxRecDepth 100000 in
theorem c_X2_put (l : Launch) (D : va_G) (K : Nat → ClassId) (b0 : Nat) (sa : Nat × Nat × Nat) (sz : Nat) (L : List Nat) (f0 : Nat → va_E) (Ψ : Nat → Nat) (hT : TW K (gof (gdrop 200 gX1)) Ψ L f0) (h : Nat) (hm_h : h ∈ L) (ht_h : Ψ h = 2) (t : Int32) (hl_t : 0 ≤ t.toInt) (hh_t : t.toInt ≤ 23) (ce : Int32) (hl_ce : 0 ≤ ce.toInt) (hh_ce : ce.toInt ≤ 63) : Met l yX2_put (.code yX2_put cX2_put 3 none :: gt) { frames := 1, cells := 0, slots := 0, locals := 22 } (va_Pc [.ref h, .int t, .int ce] (hPre D K b0 sa sz L f0)) (hQ D K b0 (fun v9 u9 => ∃ f2 : Nat → va_E, v9 = none ∧ u9 = ((gof gM0), Ψ, L, f2) ∧ TW K (gof gM0) Ψ L f2 ∧ rawk Ψ L f0 f2)) 0 0 (fun q => b0 ≤ q) := by
  refine t_of (own := RX2) (by decide) rfl ?_ (Nat.le_of_ble_eq_true rfl)
  intro p e s m below meth c ls C w hsz hr hlk hnm hl
  have hx := C.1
  have hb := C.2.1
  have hl : lv_has ls 3 [(0, .ref h), (1, .int t), (2, .int ce)] := hl
  have hb_t := ti_bd t
  have hb_ce := ti_bd ce
  have hR : rawk Ψ L f0 f0 := rawk.rf
  refine lv_aload_n hx hb dX2_put_0 rfl (lv_at hl 0 rfl) ?_
  refine lv_iload_n hx hb dX2_put_1 rfl (lv_at hl 1 rfl) ?_
  refine t_callV (n := 1) C w hT hm_h ht_h (by decide) rfl rfl (c_X2_known2 l D K b0 sa _ L _ Ψ (gof (gdrop 200 gX1)) hT h hm_h ht_h t) gw_434 gw_439 gw_432 gw_433 gw_3 ⟨by decide, by decide, by decide +kernel⟩ rfl rfl ⟨by decide, by decide⟩ rfl hl.1 rfl (Nat.le_of_ble_eq_true rfl) dX2_put_2 ⟨by decide, by decide⟩ (fun v u H locs hp w => ?_)
  obtain ⟨r1, rfl, rfl, hrr1⟩ := hp
  rcases hrr1 with ⟨rfl, hf0_r1, hf1_r1⟩ | rfl
  ·
    refine lv_if_eq (tgt := 44) hx hb dX2_put_5 (by decide) (fun c0 => absurd c0 (by decide)) (fun _ => ?_)
    refine lv_iload_n hx hb dX2_put_8 rfl (lv_at hl 2 rfl) ?_
    refine lv_iconst (v := 0) hx hb dX2_put_9 (by decide) ?_
    refine lv_bipush (v := 63) hx hb dX2_put_10 (by decide) ?_
    have n0 : (0 : Int32).toInt = 0 := by decide
    have n63 : (63 : Int32).toInt = 63 := by decide
    refine t_callSN (host := RX6) (n := 3) C w (c_X6_within l D K b0 sa _ L _ Ψ (gof (gdrop 200 gX1)) hT ce 0 63) gw_376 (List.mem_of_getElem? (i := 6) rfl) gw_375 gw_1 ⟨by decide, by decide, by decide +kernel⟩ rfl rfl ⟨by decide, by decide⟩ rfl hl.1 rfl (Nat.le_of_ble_eq_true rfl) dX2_put_12 ⟨by decide, by decide⟩ (fun v u H locs hp w => ?_)
    obtain ⟨r2, rfl, rfl, hrr2⟩ := hp
    rcases hrr2 with ⟨rfl, hf0_r2, hf1_r2⟩ | ⟨rfl, hf0_r2⟩
    ·
      refine lv_if_eq (tgt := 44) hx hb dX2_put_15 (by decide) (fun c0 => absurd c0 (by decide)) (fun _ => ?_)
      refine lv_aload_n hx hb dX2_put_18 rfl (lv_at hl 0 rfl) ?_
      refine t_getr C w hT hm_h ht_h (by decide) rfl cin_2 6 (by decide) rfl gw_60 dX2_put_19 (fun q3 hm_q3 ht_q3 => ?_)
      refine lv_iload_n hx hb dX2_put_22 rfl (lv_at hl 1 rfl) ?_
      refine lv_iload_n hx hb dX2_put_23 rfl (lv_at hl 2 rfl) ?_
      refine t_iast C w hT hm_q3 ht_q3 (by decide) (by decide) rfl (vp_in_iff.mpr ⟨by omega, (show _ < ((24 : Nat) : Int) by omega)⟩) (gof_no rfl) dX2_put_24 (fun f H locs w hT hR1 => ?_)
      have hR := hR.tr hR1
      refine lv_aload_n hx hb dX2_put_25 rfl (lv_at hl 0 rfl) ?_
      refine t_getr C w hT hm_h ht_h (by decide) rfl cin_2 7 (by decide) rfl gw_62 dX2_put_26 (fun q4 hm_q4 ht_q4 => ?_)
      refine lv_iload_n hx hb dX2_put_29 rfl (lv_at hl 1 rfl) ?_
      refine lv_aload_n hx hb dX2_put_30 rfl (lv_at hl 0 rfl) ?_
      refine t_getr C w hT hm_h ht_h (by decide) rfl cin_2 8 (by decide) rfl gw_63 dX2_put_31 (fun q5 hm_q5 ht_q5 => ?_)
      refine lv_iload_n hx hb dX2_put_34 rfl (lv_at hl 2 rfl) ?_
      refine t_iald C w hT hm_q5 ht_q5 (by decide) (by decide) rfl (vp_in_iff.mpr ⟨by omega, (show _ < ((64 : Nat) : Int) by omega)⟩) dX2_put_35 (fun x6 hg => ?_)
      obtain rfl : x6 = (-1) := gof_at rfl hg
      refine t_iast C w hT hm_q4 ht_q4 (by decide) (by decide) rfl (vp_in_iff.mpr ⟨by omega, (show _ < ((24 : Nat) : Int) by omega)⟩) (gof_no rfl) dX2_put_36 (fun f H locs w hT hR1 => ?_)
      have hR := hR.tr hR1
      refine lv_aload_n hx hb dX2_put_37 rfl (lv_at hl 0 rfl) ?_
      refine t_getr C w hT hm_h ht_h (by decide) rfl cin_2 8 (by decide) rfl gw_63 dX2_put_38 (fun q7 hm_q7 ht_q7 => ?_)
      refine lv_iload_n hx hb dX2_put_41 rfl (lv_at hl 2 rfl) ?_
      refine lv_iload_n hx hb dX2_put_42 rfl (lv_at hl 1 rfl) ?_
      have hT := hT.mono (gof_sub (l2 := (gdrop 1100 (gdrop 200 gX1))) rfl)
      refine t_iast C w hT hm_q7 ht_q7 (by decide) (by decide) rfl (vp_in_iff.mpr ⟨by omega, (show _ < ((64 : Nat) : Int) by omega)⟩) (gof_no rfl) dX2_put_43 (fun f H locs w hT hR1 => ?_)
      have hR := hR.tr hR1
      exact t_vret C hr hlk w ⟨_, rfl, rfl, (hT.mono (gof_sub rfl)), hR⟩ (by decide) (by decide) dX2_put_44
    · exfalso; omega
  ·
    refine lv_if_eq (tgt := 44) hx hb dX2_put_5 (by decide) (fun _ => ?_) (fun c0 => absurd c0 (by decide))
    exact t_vret C hr hlk w ⟨_, rfl, rfl, (hT.mono (gof_sub rfl)), hR⟩ (by decide) (by decide) dX2_put_44
set_option maxHeartbeats 4000000 in
set_option maxRecDepth 100000 in
theorem c_X2_add (l : Launch) (D : va_G) (K : Nat → ClassId) (b0 : Nat) (sa : Nat × Nat × Nat) (sz : Nat) (L : List Nat) (f0 : Nat → va_E) (Ψ : Nat → Nat) (hT : TW K (gof gX1) Ψ L f0) (h : Nat) (hm_h : h ∈ L) (ht_h : Ψ h = 2) (ce : Int32) (hl_ce : 0 ≤ ce.toInt) (hh_ce : ce.toInt ≤ 63) (w_ : Int32) (l_ : Int32) (v_ : Int32) : Met l yX2_add (.code yX2_add cX2_add 6 (some .int) :: gt) { frames := 2, cells := 0, slots := 0, locals := 44 } (va_Pc [.ref h, .int ce, .int w_, .int l_, .int v_] (hPre D K b0 sa sz L f0)) (hQ D K b0 (fun v9 u9 => ∃ (r : Int32) (f2 : Nat → va_E), v9 = some (.int r) ∧ u9 = ((gof gM0), Ψ, L, f2) ∧ TW K (gof gM0) Ψ L f2 ∧ rawk Ψ L f0 f2 ∧ (r = 0))) 0 0 (fun q => b0 ≤ q) := by
  refine t_of (own := RX2) (by decide) rfl ?_ (Nat.le_of_ble_eq_true rfl)
  intro p e s m below meth c ls C w hsz hr hlk hnm hl
  have hx := C.1
  have hb := C.2.1
  have hl : lv_has ls 6 [(0, .ref h), (1, .int ce), (2, .int w_), (3, .int l_), (4, .int v_)] := hl
  have hb_ce := ti_bd ce
  have hb_w_ := ti_bd w_
  have hb_l_ := ti_bd l_
  have hb_v_ := ti_bd v_
  have hR : rawk Ψ L f0 f0 := rawk.rf
  refine lv_aload_n hx hb dX2_add_0 rfl (lv_at hl 0 rfl) ?_
  refine t_geti C w hT hm_h ht_h (by decide) rfl cin_2 0 (by decide) rfl rfl gw_46 dX2_add_1 (fun x1 hg => ?_)
  obtain rfl : x1 = 0 := gof_at rfl hg
  refine lv_bipush (v := 24) hx hb dX2_add_4 (by decide) ?_
  refine lv_icmp_lt (tgt := 11) hx hb dX2_add_6 (by decide) (fun _ => ?_) (fun c0 => absurd c0 (by decide))
  refine lv_aload_n hx hb dX2_add_11 rfl (lv_at hl 0 rfl) ?_
  refine t_geti C w hT hm_h ht_h (by decide) rfl cin_2 0 (by decide) rfl rfl gw_46 dX2_add_12 (fun x2 hg => ?_)
  obtain rfl : x2 = 0 := gof_at rfl hg
  refine lv_istore (lv' := [(5, .int 0), (0, .ref h), (1, .int ce), (2, .int w_), (3, .int l_), (4, .int v_)]) hx hb dX2_add_15 hl (by decide) rfl (fun ls hl => ?_)
  refine lv_aload_n hx hb dX2_add_17 rfl (lv_at hl 1 rfl) ?_
  refine lv_dup hx hb dX2_add_18 rfl ?_
  refine t_geti C w hT hm_h ht_h (by decide) rfl cin_2 0 (by decide) rfl rfl gw_46 dX2_add_19 (fun x3 hg => ?_)
  obtain rfl : x3 = 0 := gof_at rfl hg
  refine lv_iconst (v := 1) hx hb dX2_add_22 (by decide) ?_
  refine lv_iadd hx hb dX2_add_23 ?_
  refine lv_topi (fun y4 ey4 => ?_)
  obtain rfl : y4 = 1 := ey4.trans (by decide)
  have hT := hT.mono (gof_sub (l2 := (gdrop 200 gX1)) rfl)
  refine t_puti C w hT hm_h ht_h (by decide) rfl cin_2 tyX2 tyX2_ok nmX2 0 (by decide) rfl rfl rfl rfl rfl (gof_no rfl) gw_46 dX2_add_24 (fun f H locs w hT hR1 => ?_)
  have hR := hR.tr hR1
  refine lv_aload_n hx hb dX2_add_27 rfl (lv_at hl 1 rfl) ?_
  refine t_getr C w hT hm_h ht_h (by decide) rfl cin_2 1 (by decide) rfl gw_48 dX2_add_28 (fun q5 hm_q5 ht_q5 => ?_)
  refine lv_iload hx hb dX2_add_31 (lv_at hl 0 rfl) ?_
  refine lv_iload_n hx hb dX2_add_33 rfl (lv_at hl 3 rfl) ?_
  refine t_iast C w hT hm_q5 ht_q5 (by decide) (by decide) rfl (vp_in_iff.mpr ⟨by decide, by decide⟩) (gof_no rfl) dX2_add_34 (fun f H locs w hT hR1 => ?_)
  have hR := hR.tr hR1
  refine lv_aload_n hx hb dX2_add_35 rfl (lv_at hl 1 rfl) ?_
  refine t_getr C w hT hm_h ht_h (by decide) rfl cin_2 2 (by decide) rfl gw_51 dX2_add_36 (fun q6 hm_q6 ht_q6 => ?_)
  refine lv_iload hx hb dX2_add_39 (lv_at hl 0 rfl) ?_
  refine lv_iload_n hx hb dX2_add_41 rfl (lv_at hl 4 rfl) ?_
  refine t_iast C w hT hm_q6 ht_q6 (by decide) (by decide) rfl (vp_in_iff.mpr ⟨by decide, by decide⟩) (gof_no rfl) dX2_add_42 (fun f H locs w hT hR1 => ?_)
  have hR := hR.tr hR1
  refine lv_aload_n hx hb dX2_add_43 rfl (lv_at hl 1 rfl) ?_
  refine t_getr C w hT hm_h ht_h (by decide) rfl cin_2 3 (by decide) rfl gw_54 dX2_add_44 (fun q7 hm_q7 ht_q7 => ?_)
  refine lv_iload hx hb dX2_add_47 (lv_at hl 0 rfl) ?_
  refine lv_iload hx hb dX2_add_49 (lv_at hl 5 rfl) ?_
  refine t_iast C w hT hm_q7 ht_q7 (by decide) (by decide) rfl (vp_in_iff.mpr ⟨by decide, by decide⟩) (gof_no rfl) dX2_add_51 (fun f H locs w hT hR1 => ?_)
  have hR := hR.tr hR1
  refine lv_aload_n hx hb dX2_add_52 rfl (lv_at hl 1 rfl) ?_
  refine t_getr C w hT hm_h ht_h (by decide) rfl cin_2 4 (by decide) rfl gw_56 dX2_add_53 (fun q8 hm_q8 ht_q8 => ?_)
  refine lv_iload hx hb dX2_add_56 (lv_at hl 0 rfl) ?_
  refine lv_iconst (v := 0) hx hb dX2_add_58 (by decide) ?_
  refine t_iast C w hT hm_q8 ht_q8 (by decide) (by decide) rfl (vp_in_iff.mpr ⟨by decide, by decide⟩) (gof_no rfl) dX2_add_59 (fun f H locs w hT hR1 => ?_)
  have hR := hR.tr hR1
  refine lv_aload_n hx hb dX2_add_60 rfl (lv_at hl 1 rfl) ?_
  refine t_getr C w hT hm_h ht_h (by decide) rfl cin_2 5 (by decide) rfl gw_59 dX2_add_61 (fun q9 hm_q9 ht_q9 => ?_)
  refine lv_iload hx hb dX2_add_64 (lv_at hl 0 rfl) ?_
  refine lv_iload_n hx hb dX2_add_66 rfl (lv_at hl 2 rfl) ?_
  refine t_iast C w hT hm_q9 ht_q9 (by decide) (by decide) rfl (vp_in_iff.mpr ⟨by decide, by decide⟩) (gof_no rfl) dX2_add_67 (fun f H locs w hT hR1 => ?_)
  have hR := hR.tr hR1
  refine lv_aload_n hx hb dX2_add_68 rfl (lv_at hl 1 rfl) ?_
  refine lv_iload hx hb dX2_add_69 (lv_at hl 0 rfl) ?_
  refine lv_iload_n hx hb dX2_add_71 rfl (lv_at hl 2 rfl) ?_
  have n0 : (0 : Int32).toInt = 0 := by decide
  refine t_callV (n := 2) C w hT hm_h ht_h (by decide) rfl rfl (c_X2_put l D K b0 sa _ L _ Ψ hT h hm_h ht_h 0 (by omega) (by omega) ce (by omega) (by omega)) gw_514 gw_511 gw_512 gw_513 gw_3 ⟨by decide, by decide, by decide +kernel⟩ rfl rfl ⟨by decide, by decide⟩ rfl hl.1 rfl (Nat.le_of_ble_eq_true rfl) dX2_add_72 ⟨by decide, by decide⟩ (fun v u H locs hp w => ?_)
  obtain ⟨f2, rfl, rfl, hT2, hR1⟩ := hp
  have hR := hR.tr hR1
  clear hT
  have hT := hT2
  clear hT2
  generalize f2 = f at w hT hR
  refine lv_iload hx hb dX2_add_75 (lv_at hl 0 rfl) ?_
  exact t_iret C hr hlk w ⟨_, _, rfl, rfl, hT, hR, rfl⟩ (by decide) (by decide) dX2_add_77
set_option maxHeartbeats 4000000 in
set_option maxRecDepth 100000 in
theorem c_X6_lay (l : Launch) (hls : l.stackTraces = false) (D : va_G) (K : Nat → ClassId) (b0 : Nat) (sa : Nat × Nat × Nat) (sz : Nat) (L : List Nat) (f0 : Nat → va_E) (Ψ : Nat → Nat) (hT : TW K (gof gX1) Ψ L f0) (x : Nat) (hm_x : x ∈ L) (ht_x : Ψ x = 6) (ce : Int32) (w_ : Int32) (l_ : Int32) (v_ : Int32) : vx_Met l yX6_lay (.code yX6_lay cX6_lay 5 (some .int) :: gt) { frames := 7, cells := 2, slots := 12, locals := 102 } (va_Pc [.ref x, .int ce, .int w_, .int l_, .int v_] (hPre D K b0 sa sz L f0)) (hQ D K b0 (fun v9 u9 => ∃ (r : Int32) (f2 : Nat → va_E), v9 = some (.int r) ∧ u9 = ((gof gM0), Ψ, L, f2) ∧ TW K (gof gM0) Ψ L f2 ∧ rawk Ψ L f0 f2 ∧ (r = 0 ∧ ((0 ≤ ce.toInt ∧ ce.toInt ≤ 63) ∧ ce.toInt ≠ 63 ∧ (1 ≤ w_.toInt ∧ w_.toInt ≤ 99) ∧ (0 ≤ l_.toInt ∧ l_.toInt ≤ 7) ∧ (0 ≤ v_.toInt ∧ v_.toInt ≤ 999))))) (hX D K b0 (fun E u9 => ∃ f2 : Nat → va_E, u9 = ((gof gM0), Ψ, L, f2) ∧ TW K (gof gM0) Ψ L f2 ∧ rawk Ψ L f0 f2 ∧ ((E = "java/lang/IndexOutOfBoundsException" ∧ (¬ (0 ≤ ce.toInt ∧ ce.toInt ≤ 63))) ∨ (E = "java/lang/IllegalArgumentException" ∧ (0 ≤ ce.toInt) ∧ (ce.toInt ≤ 63) ∧ (¬ ((0 ≤ ce.toInt ∧ ce.toInt ≤ 63) ∧ ce.toInt ≠ 63 ∧ (1 ≤ w_.toInt ∧ w_.toInt ≤ 99) ∧ (0 ≤ l_.toInt ∧ l_.toInt ≤ 7) ∧ (0 ≤ v_.toInt ∧ v_.toInt ≤ 999))))))) 2 12 (fun q => b0 ≤ q) := by
  refine t_xof (own := RX6) (by decide) rfl ?_ (Nat.le_of_ble_eq_true rfl)
  intro p e s m below meth c ls C w hsz hr hlk htb hl
  have hx := C.1
  have hb := C.2.1
  have hl : lv_has ls 5 [(0, .ref x), (1, .int ce), (2, .int w_), (3, .int l_), (4, .int v_)] := hl
  have hb_ce := ti_bd ce
  have hb_w_ := ti_bd w_
  have hb_l_ := ti_bd l_
  have hb_v_ := ti_bd v_
  have hR : rawk Ψ L f0 f0 := rawk.rf
  refine lv_iload_n hx hb dX6_lay_0 rfl (lv_at hl 1 rfl) ?_
  refine t_xcallS (n := 1) C w (c_X6_needCell l hls D K b0 sa _ L _ Ψ (gof gX1) hT ce) gw_554 gw_552 gw_553 gw_1 ⟨by decide, by decide, by decide +kernel⟩ rfl rfl ⟨by decide, by decide⟩ rfl hl.1 rfl (Nat.le_of_ble_eq_true rfl) dX6_lay_1 ⟨by decide, by decide⟩ (fun E ce q9 u H locs hp w hcell hv0 hcl => ?_) (fun v u H locs hp w => ?_)
  · obtain ⟨f2, rfl, hT2, hR1, hpx⟩ := hp
    have hR := hR.tr hR1
    obtain ⟨rfl, hx0⟩ := hpx
    exact t_xout w htb hlk hcell hv0 hcl ⟨_, rfl, (hT2.mono (gof_sub rfl)), hR, Or.inl ⟨rfl, (by omega)⟩⟩ (by decide) (by decide)
  ·
    obtain ⟨rfl, rfl, hpv0, hpv1⟩ := hp
    refine lv_iload_n hx hb dX6_lay_4 rfl (lv_at hl 1 rfl) ?_
    refine lv_aload_n hx hb dX6_lay_5 rfl (lv_at hl 0 rfl) ?_
    refine t_getr C w hT hm_x ht_x (by decide) rfl cin_6 0 (by decide) rfl gw_287 dX6_lay_6 (fun q1 hm_q1 ht_q1 => ?_)
    refine t_geti C w hT hm_q1 ht_q1 (by decide) rfl cin_0 1 (by decide) rfl rfl gw_92 dX6_lay_9 (fun x2 hg => ?_)
    obtain rfl : x2 = 63 := gof_at rfl hg
    have n63 : (63 : Int32).toInt = 63 := by decide
    refine lv_icmp_eq (tgt := 51) hx hb dX6_lay_12 (by decide) (fun c3 => ?_) (fun c3 => ?_)
    · have c3 := eq_toInt c3
      refine lv_iconst (v := 0) hx hb dX6_lay_51 (by decide) ?_
      have n0 : (0 : Int32).toInt = 0 := by decide
      refine t_xcallS (n := 1) C w (c_X6_need l hls D K b0 sa _ L _ Ψ (gof gX1) hT 0) gw_625 gw_623 gw_624 gw_1 ⟨by decide, by decide, by decide +kernel⟩ rfl rfl ⟨by decide, by decide⟩ rfl hl.1 rfl (Nat.le_of_ble_eq_true rfl) dX6_lay_52 ⟨by decide, by decide⟩ (fun E ce q9 u H locs hp w hcell hv0 hcl => ?_) (fun v u H locs hp w => ?_)
      · obtain ⟨f2, rfl, hT2, hR1, hpx⟩ := hp
        have hR := hR.tr hR1
        obtain ⟨rfl, hx0⟩ := hpx
        exact t_xout w htb hlk hcell hv0 hcl ⟨_, rfl, (hT2.mono (gof_sub rfl)), hR, Or.inr (⟨rfl, (by omega), (by omega), (by omega)⟩)⟩ (by decide) (by decide)
      ·
        obtain ⟨rfl, rfl, hpv0⟩ := hp
        exfalso; omega
    · have c3 := ne_toInt c3
      refine lv_iload_n hx hb dX6_lay_15 rfl (lv_at hl 2 rfl) ?_
      refine lv_iconst (v := 1) hx hb dX6_lay_16 (by decide) ?_
      refine lv_bipush (v := 99) hx hb dX6_lay_17 (by decide) ?_
      have n1 : (1 : Int32).toInt = 1 := by decide
      have n99 : (99 : Int32).toInt = 99 := by decide
      refine t_callS (n := 3) C w (c_X6_within l D K b0 sa _ L _ Ψ (gof gX1) hT w_ 1 99) gw_376 gw_374 gw_375 gw_1 ⟨by decide, by decide, by decide +kernel⟩ rfl rfl ⟨by decide, by decide⟩ rfl hl.1 rfl (Nat.le_of_ble_eq_true rfl) dX6_lay_19 ⟨by decide, by decide⟩ (fun v u H locs hp w => ?_)
      obtain ⟨r4, rfl, rfl, hrr4⟩ := hp
      rcases hrr4 with ⟨rfl, hf0_r4, hf1_r4⟩ | ⟨rfl, hf0_r4⟩
      ·
        refine lv_if_eq (tgt := 51) hx hb dX6_lay_22 (by decide) (fun c0 => absurd c0 (by decide)) (fun _ => ?_)
        refine lv_iload_n hx hb dX6_lay_25 rfl (lv_at hl 3 rfl) ?_
        refine lv_iconst (v := 0) hx hb dX6_lay_26 (by decide) ?_
        refine lv_bipush (v := 7) hx hb dX6_lay_27 (by decide) ?_
        have n0 : (0 : Int32).toInt = 0 := by decide
        have n7 : (7 : Int32).toInt = 7 := by decide
        refine t_callS (n := 3) C w (c_X6_within l D K b0 sa _ L _ Ψ (gof gX1) hT l_ 0 7) gw_376 gw_374 gw_375 gw_1 ⟨by decide, by decide, by decide +kernel⟩ rfl rfl ⟨by decide, by decide⟩ rfl hl.1 rfl (Nat.le_of_ble_eq_true rfl) dX6_lay_29 ⟨by decide, by decide⟩ (fun v u H locs hp w => ?_)
        obtain ⟨r5, rfl, rfl, hrr5⟩ := hp
        rcases hrr5 with ⟨rfl, hf0_r5, hf1_r5⟩ | ⟨rfl, hf0_r5⟩
        ·
          refine lv_if_eq (tgt := 51) hx hb dX6_lay_32 (by decide) (fun c0 => absurd c0 (by decide)) (fun _ => ?_)
          refine lv_iload hx hb dX6_lay_35 (lv_at hl 4 rfl) ?_
          refine lv_iconst (v := 0) hx hb dX6_lay_37 (by decide) ?_
          refine lv_sipush (v := 999) hx hb dX6_lay_38 (by decide) ?_
          have n999 : (999 : Int32).toInt = 999 := by decide
          refine t_callS (n := 3) C w (c_X6_within l D K b0 sa _ L _ Ψ (gof gX1) hT v_ 0 999) gw_376 gw_374 gw_375 gw_1 ⟨by decide, by decide, by decide +kernel⟩ rfl rfl ⟨by decide, by decide⟩ rfl hl.1 rfl (Nat.le_of_ble_eq_true rfl) dX6_lay_41 ⟨by decide, by decide⟩ (fun v u H locs hp w => ?_)
          obtain ⟨r6, rfl, rfl, hrr6⟩ := hp
          rcases hrr6 with ⟨rfl, hf0_r6, hf1_r6⟩ | ⟨rfl, hf0_r6⟩
          ·
            refine lv_if_eq (tgt := 51) hx hb dX6_lay_44 (by decide) (fun c0 => absurd c0 (by decide)) (fun _ => ?_)
            refine lv_iconst (v := 1) hx hb dX6_lay_47 (by decide) ?_
            refine lv_goto (tgt := 52) hx hb dX6_lay_48 (by decide) ?_
            refine t_xcallS (n := 1) C w (c_X6_need l hls D K b0 sa _ L _ Ψ (gof gX1) hT 1) gw_625 gw_623 gw_624 gw_1 ⟨by decide, by decide, by decide +kernel⟩ rfl rfl ⟨by decide, by decide⟩ rfl hl.1 rfl (Nat.le_of_ble_eq_true rfl) dX6_lay_52 ⟨by decide, by decide⟩ (fun E ce q9 u H locs hp w hcell hv0 hcl => ?_) (fun v u H locs hp w => ?_)
            · obtain ⟨f2, rfl, hT2, hR1, hpx⟩ := hp
              have hR := hR.tr hR1
              obtain ⟨rfl, hx0⟩ := hpx
              exfalso; omega
            ·
              obtain ⟨rfl, rfl, hpv0⟩ := hp
              refine lv_aload_n hx hb dX6_lay_55 rfl (lv_at hl 0 rfl) ?_
              refine t_getr C w hT hm_x ht_x (by decide) rfl cin_6 0 (by decide) rfl gw_287 dX6_lay_56 (fun q7 hm_q7 ht_q7 => ?_)
              refine t_getr C w hT hm_q7 ht_q7 (by decide) rfl cin_0 0 (by decide) rfl gw_89 dX6_lay_59 (fun q8 hm_q8 ht_q8 => ?_)
              refine lv_iload_n hx hb dX6_lay_62 rfl (lv_at hl 1 rfl) ?_
              refine lv_iload_n hx hb dX6_lay_63 rfl (lv_at hl 2 rfl) ?_
              refine lv_iload_n hx hb dX6_lay_64 rfl (lv_at hl 3 rfl) ?_
              refine lv_iload hx hb dX6_lay_65 (lv_at hl 4 rfl) ?_
              refine t_callV (n := 4) C w hT hm_q8 ht_q8 (by decide) rfl rfl (c_X2_add l D K b0 sa _ L _ Ψ hT q8 hm_q8 ht_q8 ce (by omega) (by omega) w_ l_ v_) gw_645 gw_642 gw_643 gw_644 gw_3 ⟨by decide, by decide, by decide +kernel⟩ rfl rfl ⟨by decide, by decide⟩ rfl hl.1 rfl (Nat.le_of_ble_eq_true rfl) dX6_lay_67 ⟨by decide, by decide⟩ (fun v u H locs hp w => ?_)
              obtain ⟨r9, f2, rfl, rfl, hT2, hR1, hrr9⟩ := hp
              have hR := hR.tr hR1
              clear hT
              have hT := hT2
              clear hT2
              generalize f2 = f at w hT hR
              obtain rfl := hrr9
              refine vx_ret ?_
              exact t_iret C hr hlk w ⟨_, _, rfl, rfl, hT, hR, ⟨rfl, (by omega)⟩⟩ (by decide) (by decide) dX6_lay_70
          ·
            refine lv_if_eq (tgt := 51) hx hb dX6_lay_44 (by decide) (fun _ => ?_) (fun c0 => absurd c0 (by decide))
            refine lv_iconst (v := 0) hx hb dX6_lay_51 (by decide) ?_
            refine t_xcallS (n := 1) C w (c_X6_need l hls D K b0 sa _ L _ Ψ (gof gX1) hT 0) gw_625 gw_623 gw_624 gw_1 ⟨by decide, by decide, by decide +kernel⟩ rfl rfl ⟨by decide, by decide⟩ rfl hl.1 rfl (Nat.le_of_ble_eq_true rfl) dX6_lay_52 ⟨by decide, by decide⟩ (fun E ce q9 u H locs hp w hcell hv0 hcl => ?_) (fun v u H locs hp w => ?_)
            · obtain ⟨f2, rfl, hT2, hR1, hpx⟩ := hp
              have hR := hR.tr hR1
              obtain ⟨rfl, hx0⟩ := hpx
              exact t_xout w htb hlk hcell hv0 hcl ⟨_, rfl, (hT2.mono (gof_sub rfl)), hR, Or.inr (⟨rfl, (by omega), (by omega), (by omega)⟩)⟩ (by decide) (by decide)
            ·
              obtain ⟨rfl, rfl, hpv0⟩ := hp
              exfalso; omega
        ·
          refine lv_if_eq (tgt := 51) hx hb dX6_lay_32 (by decide) (fun _ => ?_) (fun c0 => absurd c0 (by decide))
          refine lv_iconst (v := 0) hx hb dX6_lay_51 (by decide) ?_
          refine t_xcallS (n := 1) C w (c_X6_need l hls D K b0 sa _ L _ Ψ (gof gX1) hT 0) gw_625 gw_623 gw_624 gw_1 ⟨by decide, by decide, by decide +kernel⟩ rfl rfl ⟨by decide, by decide⟩ rfl hl.1 rfl (Nat.le_of_ble_eq_true rfl) dX6_lay_52 ⟨by decide, by decide⟩ (fun E ce q9 u H locs hp w hcell hv0 hcl => ?_) (fun v u H locs hp w => ?_)
          · obtain ⟨f2, rfl, hT2, hR1, hpx⟩ := hp
            have hR := hR.tr hR1
            obtain ⟨rfl, hx0⟩ := hpx
            exact t_xout w htb hlk hcell hv0 hcl ⟨_, rfl, (hT2.mono (gof_sub rfl)), hR, Or.inr (⟨rfl, (by omega), (by omega), (by omega)⟩)⟩ (by decide) (by decide)
          ·
            obtain ⟨rfl, rfl, hpv0⟩ := hp
            exfalso; omega
      ·
        refine lv_if_eq (tgt := 51) hx hb dX6_lay_22 (by decide) (fun _ => ?_) (fun c0 => absurd c0 (by decide))
        refine lv_iconst (v := 0) hx hb dX6_lay_51 (by decide) ?_
        have n0 : (0 : Int32).toInt = 0 := by decide
        refine t_xcallS (n := 1) C w (c_X6_need l hls D K b0 sa _ L _ Ψ (gof gX1) hT 0) gw_625 gw_623 gw_624 gw_1 ⟨by decide, by decide, by decide +kernel⟩ rfl rfl ⟨by decide, by decide⟩ rfl hl.1 rfl (Nat.le_of_ble_eq_true rfl) dX6_lay_52 ⟨by decide, by decide⟩ (fun E ce q9 u H locs hp w hcell hv0 hcl => ?_) (fun v u H locs hp w => ?_)
        · obtain ⟨f2, rfl, hT2, hR1, hpx⟩ := hp
          have hR := hR.tr hR1
          obtain ⟨rfl, hx0⟩ := hpx
          exact t_xout w htb hlk hcell hv0 hcl ⟨_, rfl, (hT2.mono (gof_sub rfl)), hR, Or.inr (⟨rfl, (by omega), (by omega), (by omega)⟩)⟩ (by decide) (by decide)
        ·
          obtain ⟨rfl, rfl, hpv0⟩ := hp
          exfalso; omega
