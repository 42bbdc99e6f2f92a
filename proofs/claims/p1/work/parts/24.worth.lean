theorem dX6_worth_0 : decode cX6_worth 0 = .ok (.iload_n 1, 1) := by decide +kernel
theorem dX6_worth_1 : decode cX6_worth 1 = .ok (.invokestatic 85, 3) := by decide +kernel
theorem dX6_worth_4 : decode cX6_worth 4 = .ok (.iload_n 2, 1) := by decide +kernel
theorem dX6_worth_5 : decode cX6_worth 5 = .ok (.invokestatic 85, 3) := by decide +kernel
theorem dX6_worth_8 : decode cX6_worth 8 = .ok (.iload_n 3, 1) := by decide +kernel
theorem dX6_worth_9 : decode cX6_worth 9 = .ok (.iconst 1, 1) := by decide +kernel
theorem dX6_worth_10 : decode cX6_worth 10 = .ok (.bipush 20, 2) := by decide +kernel
theorem dX6_worth_12 : decode cX6_worth 12 = .ok (.invokestatic 92, 3) := by decide +kernel
theorem dX6_worth_15 : decode cX6_worth 15 = .ok (.invokestatic 96, 3) := by decide +kernel
theorem dX6_worth_18 : decode cX6_worth 18 = .ok (.aload_n 0, 1) := by decide +kernel
theorem dX6_worth_19 : decode cX6_worth 19 = .ok (.getfield 16, 3) := by decide +kernel
theorem dX6_worth_22 : decode cX6_worth 22 = .ok (.aload_n 0, 1) := by decide +kernel
theorem dX6_worth_23 : decode cX6_worth 23 = .ok (.getfield 10, 3) := by decide +kernel
theorem dX6_worth_26 : decode cX6_worth 26 = .ok (.invokevirtual 266, 3) := by decide +kernel
theorem dX6_worth_29 : decode cX6_worth 29 = .ok (.iconst 1, 1) := by decide +kernel
theorem dX6_worth_30 : decode cX6_worth 30 = .ok (.istore 4, 2) := by decide +kernel
theorem dX6_worth_32 : decode cX6_worth 32 = .ok (.iload 4, 2) := by decide +kernel
theorem dX6_worth_34 : decode cX6_worth 34 = .ok (.iload_n 3, 1) := by decide +kernel
theorem dX6_worth_35 : decode cX6_worth 35 = .ok (.if_icmp .ge 15, 3) := by decide +kernel
theorem dX6_worth_38 : decode cX6_worth 38 = .ok (.aload_n 0, 1) := by decide +kernel
theorem dX6_worth_39 : decode cX6_worth 39 = .ok (.iload_n 1, 1) := by decide +kernel
theorem dX6_worth_40 : decode cX6_worth 40 = .ok (.invokevirtual 269, 3) := by decide +kernel
theorem dX6_worth_43 : decode cX6_worth 43 = .ok (.pop, 1) := by decide +kernel
theorem dX6_worth_44 : decode cX6_worth 44 = .ok (.iinc 4 1, 3) := by decide +kernel
theorem dX6_worth_47 : decode cX6_worth 47 = .ok (.goto (-15), 3) := by decide +kernel
theorem dX6_worth_50 : decode cX6_worth 50 = .ok (.aload_n 0, 1) := by decide +kernel
theorem dX6_worth_51 : decode cX6_worth 51 = .ok (.iload_n 2, 1) := by decide +kernel
theorem dX6_worth_52 : decode cX6_worth 52 = .ok (.invokevirtual 272, 3) := by decide +kernel
theorem dX6_worth_55 : decode cX6_worth 55 = .ok (.ireturn, 1) := by decide +kernel
theorem dX6_bide_0 : decode cX6_bide 0 = .ok (.iload_n 1, 1) := by decide +kernel
theorem dX6_bide_1 : decode cX6_bide 1 = .ok (.invokestatic 85, 3) := by decide +kernel
theorem dX6_bide_4 : decode cX6_bide 4 = .ok (.iload_n 2, 1) := by decide +kernel
theorem dX6_bide_5 : decode cX6_bide 5 = .ok (.invokestatic 85, 3) := by decide +kernel
theorem dX6_bide_8 : decode cX6_bide 8 = .ok (.aload_n 0, 1) := by decide +kernel
theorem dX6_bide_9 : decode cX6_bide 9 = .ok (.getfield 16, 3) := by decide +kernel
theorem dX6_bide_12 : decode cX6_bide 12 = .ok (.aload_n 0, 1) := by decide +kernel
theorem dX6_bide_13 : decode cX6_bide 13 = .ok (.getfield 10, 3) := by decide +kernel
theorem dX6_bide_16 : decode cX6_bide 16 = .ok (.invokevirtual 266, 3) := by decide +kernel
theorem dX6_bide_19 : decode cX6_bide 19 = .ok (.iconst 1, 1) := by decide +kernel
theorem dX6_bide_20 : decode cX6_bide 20 = .ok (.istore_n 3, 1) := by decide +kernel
theorem dX6_bide_21 : decode cX6_bide 21 = .ok (.aload_n 0, 1) := by decide +kernel
theorem dX6_bide_22 : decode cX6_bide 22 = .ok (.iload_n 2, 1) := by decide +kernel
theorem dX6_bide_23 : decode cX6_bide 23 = .ok (.invokevirtual 272, 3) := by decide +kernel
theorem dX6_bide_26 : decode cX6_bide 26 = .ok (.istore 4, 2) := by decide +kernel
theorem dX6_bide_28 : decode cX6_bide 28 = .ok (.iconst 2, 1) := by decide +kernel
theorem dX6_bide_29 : decode cX6_bide 29 = .ok (.istore 5, 2) := by decide +kernel
theorem dX6_bide_31 : decode cX6_bide 31 = .ok (.iload 5, 2) := by decide +kernel
theorem dX6_bide_33 : decode cX6_bide 33 = .ok (.bipush 20, 2) := by decide +kernel
theorem dX6_bide_35 : decode cX6_bide 35 = .ok (.if_icmp .gt 36, 3) := by decide +kernel
theorem dX6_bide_38 : decode cX6_bide 38 = .ok (.aload_n 0, 1) := by decide +kernel
theorem dX6_bide_39 : decode cX6_bide 39 = .ok (.iload_n 1, 1) := by decide +kernel
theorem dX6_bide_40 : decode cX6_bide 40 = .ok (.invokevirtual 269, 3) := by decide +kernel
theorem dX6_bide_43 : decode cX6_bide 43 = .ok (.pop, 1) := by decide +kernel
theorem dX6_bide_44 : decode cX6_bide 44 = .ok (.aload_n 0, 1) := by decide +kernel
theorem dX6_bide_45 : decode cX6_bide 45 = .ok (.iload_n 2, 1) := by decide +kernel
theorem dX6_bide_46 : decode cX6_bide 46 = .ok (.invokevirtual 272, 3) := by decide +kernel
theorem dX6_bide_49 : decode cX6_bide 49 = .ok (.istore 6, 2) := by decide +kernel
theorem dX6_bide_51 : decode cX6_bide 51 = .ok (.iload 6, 2) := by decide +kernel
theorem dX6_bide_53 : decode cX6_bide 53 = .ok (.iload 4, 2) := by decide +kernel
theorem dX6_bide_55 : decode cX6_bide 55 = .ok (.if_icmp .le 10, 3) := by decide +kernel
theorem dX6_bide_58 : decode cX6_bide 58 = .ok (.iload 6, 2) := by decide +kernel
theorem dX6_bide_60 : decode cX6_bide 60 = .ok (.istore 4, 2) := by decide +kernel
theorem dX6_bide_62 : decode cX6_bide 62 = .ok (.iload 5, 2) := by decide +kernel
theorem dX6_bide_64 : decode cX6_bide 64 = .ok (.istore_n 3, 1) := by decide +kernel
theorem dX6_bide_65 : decode cX6_bide 65 = .ok (.iinc 5 1, 3) := by decide +kernel
theorem dX6_bide_68 : decode cX6_bide 68 = .ok (.goto (-37), 3) := by decide +kernel
theorem dX6_bide_71 : decode cX6_bide 71 = .ok (.iload_n 3, 1) := by decide +kernel
theorem dX6_bide_72 : decode cX6_bide 72 = .ok (.ireturn, 1) := by decide +kernel
theorem dX6_fair_0 : decode cX6_fair 0 = .ok (.iload_n 1, 1) := by decide +kernel
theorem dX6_fair_1 : decode cX6_fair 1 = .ok (.iconst 0, 1) := by decide +kernel
theorem dX6_fair_2 : decode cX6_fair 2 = .ok (.bipush 64, 2) := by decide +kernel
theorem dX6_fair_4 : decode cX6_fair 4 = .ok (.invokestatic 92, 3) := by decide +kernel
theorem dX6_fair_7 : decode cX6_fair 7 = .ok (.invokestatic 96, 3) := by decide +kernel
theorem dX6_fair_10 : decode cX6_fair 10 = .ok (.bipush 8, 2) := by decide +kernel
theorem dX6_fair_12 : decode cX6_fair 12 = .ok (.istore_n 2, 1) := by decide +kernel
theorem dX6_fair_13 : decode cX6_fair 13 = .ok (.iload_n 2, 1) := by decide +kernel
theorem dX6_fair_14 : decode cX6_fair 14 = .ok (.ifCond .lt 41, 3) := by decide +kernel
theorem dX6_fair_17 : decode cX6_fair 17 = .ok (.bipush 10, 2) := by decide +kernel
theorem dX6_fair_19 : decode cX6_fair 19 = .ok (.istore_n 3, 1) := by decide +kernel
theorem dX6_fair_20 : decode cX6_fair 20 = .ok (.iload_n 3, 1) := by decide +kernel
theorem dX6_fair_21 : decode cX6_fair 21 = .ok (.bipush 90, 2) := by decide +kernel
theorem dX6_fair_23 : decode cX6_fair 23 = .ok (.if_icmp .gt 26, 3) := by decide +kernel
theorem dX6_fair_26 : decode cX6_fair 26 = .ok (.aload_n 0, 1) := by decide +kernel
theorem dX6_fair_27 : decode cX6_fair 27 = .ok (.iload_n 3, 1) := by decide +kernel
theorem dX6_fair_28 : decode cX6_fair 28 = .ok (.iload_n 2, 1) := by decide +kernel
theorem dX6_fair_29 : decode cX6_fair 29 = .ok (.invokevirtual 306, 3) := by decide +kernel
theorem dX6_fair_32 : decode cX6_fair 32 = .ok (.iload_n 1, 1) := by decide +kernel
theorem dX6_fair_33 : decode cX6_fair 33 = .ok (.if_icmp .lt 10, 3) := by decide +kernel
theorem dX6_fair_36 : decode cX6_fair 36 = .ok (.bipush 100, 2) := by decide +kernel
theorem dX6_fair_38 : decode cX6_fair 38 = .ok (.iload_n 3, 1) := by decide +kernel
theorem dX6_fair_39 : decode cX6_fair 39 = .ok (.imul, 1) := by decide +kernel
theorem dX6_fair_40 : decode cX6_fair 40 = .ok (.iload_n 2, 1) := by decide +kernel
theorem dX6_fair_41 : decode cX6_fair 41 = .ok (.iadd, 1) := by decide +kernel
theorem dX6_fair_42 : decode cX6_fair 42 = .ok (.ireturn, 1) := by decide +kernel
theorem dX6_fair_43 : decode cX6_fair 43 = .ok (.iinc 3 10, 3) := by decide +kernel
theorem dX6_fair_46 : decode cX6_fair 46 = .ok (.goto (-26), 3) := by decide +kernel
theorem dX6_fair_49 : decode cX6_fair 49 = .ok (.iinc 2 (-2), 3) := by decide +kernel
theorem dX6_fair_52 : decode cX6_fair 52 = .ok (.goto (-39), 3) := by decide +kernel
theorem dX6_fair_55 : decode cX6_fair 55 = .ok (.iconst (-1), 1) := by decide +kernel
theorem dX6_fair_56 : decode cX6_fair 56 = .ok (.ireturn, 1) := by decide +kernel
set_option maxHeartbeats 4000000 in
set_option maxRecDepth 100000 in
theorem c_X6_worth (l : Launch) (hls : l.stackTraces = false) (D : va_G) (K : Nat → ClassId) (b0 : Nat) (sa : Nat × Nat × Nat) (sz : Nat) (L : List Nat) (f0 : Nat → va_E) (Ψ : Nat → Nat) (hT : TW K (gof gX1) Ψ L f0) (x : Nat) (hm_x : x ∈ L) (ht_x : Ψ x = 6) (ot : Int32) (yo : Int32) (k_ : Int32) : vx_Met l yX6_worth (.code yX6_worth cX6_worth 5 (some .int) :: gt) { frames := 7, cells := 3, slots := 18, locals := 111 } (va_Pc [.ref x, .int ot, .int yo, .int k_] (hPre D K b0 sa sz L f0)) (hQ D K b0 (fun v9 u9 => ∃ (r : Int32) (f2 : Nat → va_E), v9 = some (.int r) ∧ u9 = ((gof gX1), Ψ, L, f2) ∧ TW K (gof gX1) Ψ L f2 ∧ rawk Ψ L f0 f2 ∧ (r = (-1) ∧ (0 ≤ ot.toInt ∧ ot.toInt ≤ 63 ∧ 0 ≤ yo.toInt ∧ yo.toInt ≤ 63) ∧ (1 ≤ k_.toInt ∧ k_.toInt ≤ 20)))) (hX D K b0 (fun E u9 => ∃ f2 : Nat → va_E, u9 = ((gof gX1), Ψ, L, f2) ∧ TW K (gof gX1) Ψ L f2 ∧ rawk Ψ L f0 f2 ∧ ((E = "java/lang/IndexOutOfBoundsException" ∧ (¬ (0 ≤ ot.toInt ∧ ot.toInt ≤ 63 ∧ 0 ≤ yo.toInt ∧ yo.toInt ≤ 63))) ∨ (E = "java/lang/IllegalArgumentException" ∧ (0 ≤ ot.toInt ∧ ot.toInt ≤ 63 ∧ 0 ≤ yo.toInt ∧ yo.toInt ≤ 63) ∧ (¬ (1 ≤ k_.toInt ∧ k_.toInt ≤ 20)))))) 3 18 (fun q => b0 ≤ q) := by
  refine t_xof (own := RX6) (by decide) rfl ?_ (Nat.le_of_ble_eq_true rfl)
  intro p e s m below meth c ls C w hsz hr hlk htb hl
  have hx := C.1
  have hb := C.2.1
  have hl : lv_has ls 5 [(0, .ref x), (1, .int ot), (2, .int yo), (3, .int k_)] := hl
  have hb_ot := ti_bd ot
  have hb_yo := ti_bd yo
  have hb_k_ := ti_bd k_
  have hR : rawk Ψ L f0 f0 := rawk.rf
  refine lv_iload_n hx hb dX6_worth_0 rfl (lv_at hl 1 rfl) ?_
  refine t_xcallS (n := 1) C w (c_X6_needCell l hls D K b0 sa _ L _ Ψ (gof gX1) hT ot) gw_554 gw_552 gw_553 gw_1 ⟨by decide, by decide, by decide +kernel⟩ rfl rfl ⟨by decide, by decide⟩ rfl hl.1 rfl (Nat.le_of_ble_eq_true rfl) dX6_worth_1 ⟨by decide, by decide⟩ (fun E ce q9 u H locs hp w hcell hv0 hcl => ?_) (fun v u H locs hp w => ?_)
  · obtain ⟨f2, rfl, hT2, hR1, hpx⟩ := hp
    have hR := hR.tr hR1
    obtain ⟨rfl, hx0⟩ := hpx
    exact t_xout w htb hlk hcell hv0 hcl ⟨_, rfl, hT2, hR, Or.inl ⟨rfl, (by omega)⟩⟩ (by decide) (by decide)
  ·
    obtain ⟨rfl, rfl, hpv0, hpv1⟩ := hp
    refine lv_iload_n hx hb dX6_worth_4 rfl (lv_at hl 2 rfl) ?_
    refine t_xcallS (n := 1) C w (c_X6_needCell l hls D K b0 sa _ L _ Ψ (gof gX1) hT yo) gw_554 gw_552 gw_553 gw_1 ⟨by decide, by decide, by decide +kernel⟩ rfl rfl ⟨by decide, by decide⟩ rfl hl.1 rfl (Nat.le_of_ble_eq_true rfl) dX6_worth_5 ⟨by decide, by decide⟩ (fun E ce q9 u H locs hp w hcell hv0 hcl => ?_) (fun v u H locs hp w => ?_)
    · obtain ⟨f2, rfl, hT2, hR1, hpx⟩ := hp
      have hR := hR.tr hR1
      obtain ⟨rfl, hx0⟩ := hpx
      exact t_xout w htb hlk hcell hv0 hcl ⟨_, rfl, hT2, hR, Or.inl ⟨rfl, (by omega)⟩⟩ (by decide) (by decide)
    ·
      obtain ⟨rfl, rfl, hpv0, hpv1⟩ := hp
      refine lv_iload_n hx hb dX6_worth_8 rfl (lv_at hl 3 rfl) ?_
      refine lv_iconst (v := 1) hx hb dX6_worth_9 (by decide) ?_
      refine lv_bipush (v := 20) hx hb dX6_worth_10 (by decide) ?_
      have n1 : (1 : Int32).toInt = 1 := by decide
      have n20 : (20 : Int32).toInt = 20 := by decide
      refine t_callS (n := 3) C w (c_X6_within l D K b0 sa _ L _ Ψ (gof gX1) hT k_ 1 20) gw_376 gw_374 gw_375 gw_1 ⟨by decide, by decide, by decide +kernel⟩ rfl rfl ⟨by decide, by decide⟩ rfl hl.1 rfl (Nat.le_of_ble_eq_true rfl) dX6_worth_12 ⟨by decide, by decide⟩ (fun v u H locs hp w => ?_)
      obtain ⟨r1, rfl, rfl, hrr1⟩ := hp
      rcases hrr1 with ⟨rfl, hf0_r1, hf1_r1⟩ | ⟨rfl, hf0_r1⟩
      ·
        refine t_xcallS (n := 1) C w (c_X6_need l hls D K b0 sa _ L _ Ψ (gof gX1) hT 1) gw_625 gw_623 gw_624 gw_1 ⟨by decide, by decide, by decide +kernel⟩ rfl rfl ⟨by decide, by decide⟩ rfl hl.1 rfl (Nat.le_of_ble_eq_true rfl) dX6_worth_15 ⟨by decide, by decide⟩ (fun E ce q9 u H locs hp w hcell hv0 hcl => ?_) (fun v u H locs hp w => ?_)
        · obtain ⟨f2, rfl, hT2, hR1, hpx⟩ := hp
          have hR := hR.tr hR1
          obtain ⟨rfl, hx0⟩ := hpx
          exfalso; omega
        ·
          obtain ⟨rfl, rfl, hpv0⟩ := hp
          refine lv_aload_n hx hb dX6_worth_18 rfl (lv_at hl 0 rfl) ?_
          refine t_getr C w hT hm_x ht_x (by decide) rfl cin_6 1 (by decide) rfl gw_288 dX6_worth_19 (fun q2 hm_q2 ht_q2 => ?_)
          refine lv_aload_n hx hb dX6_worth_22 rfl (lv_at hl 0 rfl) ?_
          refine t_getr C w hT hm_x ht_x (by decide) rfl cin_6 0 (by decide) rfl gw_287 dX6_worth_23 (fun q3 hm_q3 ht_q3 => ?_)
          refine t_callV (n := 1) C w hT hm_q2 ht_q2 (by decide) rfl rfl (c_X0_copyFrom l D K b0 sa _ L _ Ψ hT q2 hm_q2 ht_q2 q3 hm_q3 ht_q3) gw_523 gw_520 gw_521 gw_522 gw_2 ⟨by decide, by decide, by decide +kernel⟩ rfl rfl ⟨by decide, by decide⟩ rfl hl.1 rfl (Nat.le_of_ble_eq_true rfl) dX6_worth_26 ⟨by decide, by decide⟩ (fun v u H locs hp w => ?_)
          obtain ⟨f2, rfl, rfl, hT2, hR1⟩ := hp
          have hR := hR.tr hR1
          clear hT
          have hT := hT2
          clear hT2
          generalize f2 = f at w hT hR
          refine lv_iconst (v := 1) hx hb dX6_worth_29 (by decide) ?_
          refine lv_istore (lv' := [(4, .int 1), (0, .ref x), (1, .int ot), (2, .int yo), (3, .int k_)]) hx hb dX6_worth_30 hl (by decide) rfl (fun ls hl => ?_)
          have loop4 : ∀ (n i4 : Nat), 1 ≤ i4 → (i4 : Int) ≤ k_.toInt → k_.toInt - (i4 : Int) < (n : Int) → ∀ (f : Nat → va_E) (H : Heap) (locs : List Loc), Wh D K b0 sa s H locs L f → TW K (gof gX1) Ψ L f → rawk Ψ L f0 f → ∀ ls : Array Slot, lv_has ls 5 [(4, .int (nI i4)), (0, .ref x), (1, .int ot), (2, .int yo), (3, .int k_)] → W p l e { frames := 7, cells := 3, slots := 18, locals := 111 } s m [.ref x, .int ot, .int yo, .int k_].toArray below meth c H locs 3 18 (vx_MQ below (hQ D K b0 (fun v9 u9 => ∃ (r : Int32) (f2 : Nat → va_E), v9 = some (.int r) ∧ u9 = ((gof gX1), Ψ, L, f2) ∧ TW K (gof gX1) Ψ L f2 ∧ rawk Ψ L f0 f2 ∧ (r = (-1) ∧ (0 ≤ ot.toInt ∧ ot.toInt ≤ 63 ∧ 0 ≤ yo.toInt ∧ yo.toInt ≤ 63) ∧ (1 ≤ k_.toInt ∧ k_.toInt ≤ 20)))) (hX D K b0 (fun E u9 => ∃ f2 : Nat → va_E, u9 = ((gof gX1), Ψ, L, f2) ∧ TW K (gof gX1) Ψ L f2 ∧ rawk Ψ L f0 f2 ∧ ((E = "java/lang/IndexOutOfBoundsException" ∧ (¬ (0 ≤ ot.toInt ∧ ot.toInt ≤ 63 ∧ 0 ≤ yo.toInt ∧ yo.toInt ≤ 63))) ∨ (E = "java/lang/IllegalArgumentException" ∧ (0 ≤ ot.toInt ∧ ot.toInt ≤ 63 ∧ 0 ≤ yo.toInt ∧ yo.toInt ≤ 63) ∧ (¬ (1 ≤ k_.toInt ∧ k_.toInt ≤ 20)))))) [.ref x, .int ot, .int yo, .int k_].toArray s 3 18 (fun q => b0 ≤ q)) (F0 m 32 ls []) := by
            intro n
            induction n with
            | zero => intro i4 h0 h1 h2; exact absurd h2 (by omega)
            | succ n ih4 =>
              intro i4 hj4 hi4 hn4 f H locs w hT hR ls hl
              have ti4 : (nI i4).toInt = (i4 : Int) := nI_toInt (by omega)
              refine lv_iload hx hb dX6_worth_32 (lv_at hl 0 rfl) ?_
              refine lv_iload_n hx hb dX6_worth_34 rfl (lv_at hl 4 rfl) ?_
              refine lv_icmp_ge (tgt := 50) hx hb dX6_worth_35 (by decide) (fun c5 => ?_) (fun c5 => ?_)
              · have c5 := le_toInt c5
                refine lv_aload_n hx hb dX6_worth_50 rfl (lv_at hl 1 rfl) ?_
                refine lv_iload_n hx hb dX6_worth_51 rfl (lv_at hl 3 rfl) ?_
                refine t_callV (n := 1) C w hT hm_x ht_x (by decide) rfl rfl (c_X6_worthOnCopy l D K b0 sa _ L _ Ψ hT x hm_x ht_x yo) gw_1074 gw_1071 gw_1073 gs_20 gw_1 ⟨by decide, by decide, by decide +kernel⟩ rfl rfl ⟨by decide, by decide⟩ rfl hl.1 rfl (Nat.le_of_ble_eq_true rfl) dX6_worth_52 ⟨by decide, by decide⟩ (fun v u H locs hp w => ?_)
                obtain ⟨r6, f2, rfl, rfl, hT2, hR1, hrr6⟩ := hp
                have hR := hR.tr hR1
                clear hT
                have hT := hT2
                clear hT2
                generalize f2 = f at w hT hR
                obtain rfl := hrr6
                have nm1 : ((-1) : Int32).toInt = -1 := by decide
                refine vx_ret ?_
                exact t_iret C hr hlk w ⟨_, _, rfl, rfl, hT, hR, ⟨rfl, (by omega), (by omega)⟩⟩ (by decide) (by decide) dX6_worth_55
              · have c5 := nle_toInt c5
                refine lv_aload_n hx hb dX6_worth_38 rfl (lv_at hl 1 rfl) ?_
                refine lv_iload_n hx hb dX6_worth_39 rfl (lv_at hl 2 rfl) ?_
                refine t_callV (n := 1) C w hT hm_x ht_x (by decide) rfl rfl (c_X6_tryOnCopy l D K b0 sa _ L _ Ψ hT x hm_x ht_x ot) gw_1066 gw_1063 gw_1065 gs_18 gw_1 ⟨by decide, by decide, by decide +kernel⟩ rfl rfl ⟨by decide, by decide⟩ rfl hl.1 rfl (Nat.le_of_ble_eq_true rfl) dX6_worth_40 ⟨by decide, by decide⟩ (fun v u H locs hp w => ?_)
                obtain ⟨r7, f2, rfl, rfl, hT2, hR1, hrr7⟩ := hp
                have hR := hR.tr hR1
                clear hT
                have hT := hT2
                clear hT2
                generalize f2 = f at w hT hR
                obtain rfl := hrr7
                refine lv_pop hx hb dX6_worth_43 rfl ?_
                refine lv_iinc (v := (nI (i4 + 1))) (lv' := [(4, .int (nI (i4 + 1))), (0, .ref x), (1, .int ot), (2, .int yo), (3, .int k_)]) hx hb dX6_worth_44 hl (k := 0) rfl (by exact nI_1 i4) (by decide) rfl (fun ls hl => ?_)
                refine lv_goto (tgt := 32) hx hb dX6_worth_47 (by decide) ?_
                exact ih4 (i4 + 1) (by omega) (by omega) (by omega) _ _ _ w hT hR ls (lv_sub hl [0, 1, 2, 3, 4] rfl)
          exact loop4 22 1 (by omega) (by omega) (by omega) _ _ _ w hT hR ls hl
      ·
        have n0 : (0 : Int32).toInt = 0 := by decide
        refine t_xcallS (n := 1) C w (c_X6_need l hls D K b0 sa _ L _ Ψ (gof gX1) hT 0) gw_625 gw_623 gw_624 gw_1 ⟨by decide, by decide, by decide +kernel⟩ rfl rfl ⟨by decide, by decide⟩ rfl hl.1 rfl (Nat.le_of_ble_eq_true rfl) dX6_worth_15 ⟨by decide, by decide⟩ (fun E ce q9 u H locs hp w hcell hv0 hcl => ?_) (fun v u H locs hp w => ?_)
        · obtain ⟨f2, rfl, hT2, hR1, hpx⟩ := hp
          have hR := hR.tr hR1
          obtain ⟨rfl, hx0⟩ := hpx
          exact t_xout w htb hlk hcell hv0 hcl ⟨_, rfl, hT2, hR, Or.inr (⟨rfl, (by omega), (by omega)⟩)⟩ (by decide) (by decide)
        ·
          obtain ⟨rfl, rfl, hpv0⟩ := hp
          exfalso; omega
set_option maxHeartbeats 4000000 in
set_option maxRecDepth 100000 in
theorem c_X6_bide (l : Launch) (hls : l.stackTraces = false) (D : va_G) (K : Nat → ClassId) (b0 : Nat) (sa : Nat × Nat × Nat) (sz : Nat) (L : List Nat) (f0 : Nat → va_E) (Ψ : Nat → Nat) (hT : TW K (gof gX1) Ψ L f0) (x : Nat) (hm_x : x ∈ L) (ht_x : Ψ x = 6) (ot : Int32) (yo : Int32) : vx_Met l yX6_bide (.code yX6_bide cX6_bide 7 (some .int) :: gt) { frames := 7, cells := 2, slots := 12, locals := 111 } (va_Pc [.ref x, .int ot, .int yo] (hPre D K b0 sa sz L f0)) (hQ D K b0 (fun v9 u9 => ∃ (r : Int32) (f2 : Nat → va_E), v9 = some (.int r) ∧ u9 = ((gof gX1), Ψ, L, f2) ∧ TW K (gof gX1) Ψ L f2 ∧ rawk Ψ L f0 f2 ∧ (r = 1 ∧ (0 ≤ ot.toInt ∧ ot.toInt ≤ 63 ∧ 0 ≤ yo.toInt ∧ yo.toInt ≤ 63)))) (hX D K b0 (fun E u9 => ∃ f2 : Nat → va_E, u9 = ((gof gX1), Ψ, L, f2) ∧ TW K (gof gX1) Ψ L f2 ∧ rawk Ψ L f0 f2 ∧ (E = "java/lang/IndexOutOfBoundsException" ∧ (¬ (0 ≤ ot.toInt ∧ ot.toInt ≤ 63 ∧ 0 ≤ yo.toInt ∧ yo.toInt ≤ 63))))) 2 12 (fun q => b0 ≤ q) := by
  refine t_xof (own := RX6) (by decide) rfl ?_ (Nat.le_of_ble_eq_true rfl)
  intro p e s m below meth c ls C w hsz hr hlk htb hl
  have hx := C.1
  have hb := C.2.1
  have hl : lv_has ls 7 [(0, .ref x), (1, .int ot), (2, .int yo)] := hl
  have hb_ot := ti_bd ot
  have hb_yo := ti_bd yo
  have hR : rawk Ψ L f0 f0 := rawk.rf
  refine lv_iload_n hx hb dX6_bide_0 rfl (lv_at hl 1 rfl) ?_
  refine t_xcallS (n := 1) C w (c_X6_needCell l hls D K b0 sa _ L _ Ψ (gof gX1) hT ot) gw_554 gw_552 gw_553 gw_1 ⟨by decide, by decide, by decide +kernel⟩ rfl rfl ⟨by decide, by decide⟩ rfl hl.1 rfl (Nat.le_of_ble_eq_true rfl) dX6_bide_1 ⟨by decide, by decide⟩ (fun E ce q9 u H locs hp w hcell hv0 hcl => ?_) (fun v u H locs hp w => ?_)
  · obtain ⟨f2, rfl, hT2, hR1, hpx⟩ := hp
    have hR := hR.tr hR1
    obtain ⟨rfl, hx0⟩ := hpx
    exact t_xout w htb hlk hcell hv0 hcl ⟨_, rfl, hT2, hR, ⟨rfl, (by omega)⟩⟩ (by decide) (by decide)
  ·
    obtain ⟨rfl, rfl, hpv0, hpv1⟩ := hp
    refine lv_iload_n hx hb dX6_bide_4 rfl (lv_at hl 2 rfl) ?_
    refine t_xcallS (n := 1) C w (c_X6_needCell l hls D K b0 sa _ L _ Ψ (gof gX1) hT yo) gw_554 gw_552 gw_553 gw_1 ⟨by decide, by decide, by decide +kernel⟩ rfl rfl ⟨by decide, by decide⟩ rfl hl.1 rfl (Nat.le_of_ble_eq_true rfl) dX6_bide_5 ⟨by decide, by decide⟩ (fun E ce q9 u H locs hp w hcell hv0 hcl => ?_) (fun v u H locs hp w => ?_)
    · obtain ⟨f2, rfl, hT2, hR1, hpx⟩ := hp
      have hR := hR.tr hR1
      obtain ⟨rfl, hx0⟩ := hpx
      exact t_xout w htb hlk hcell hv0 hcl ⟨_, rfl, hT2, hR, ⟨rfl, (by omega)⟩⟩ (by decide) (by decide)
    ·
      obtain ⟨rfl, rfl, hpv0, hpv1⟩ := hp
      refine lv_aload_n hx hb dX6_bide_8 rfl (lv_at hl 0 rfl) ?_
      refine t_getr C w hT hm_x ht_x (by decide) rfl cin_6 1 (by decide) rfl gw_288 dX6_bide_9 (fun q1 hm_q1 ht_q1 => ?_)
      refine lv_aload_n hx hb dX6_bide_12 rfl (lv_at hl 0 rfl) ?_
      refine t_getr C w hT hm_x ht_x (by decide) rfl cin_6 0 (by decide) rfl gw_287 dX6_bide_13 (fun q2 hm_q2 ht_q2 => ?_)
      refine t_callV (n := 1) C w hT hm_q1 ht_q1 (by decide) rfl rfl (c_X0_copyFrom l D K b0 sa _ L _ Ψ hT q1 hm_q1 ht_q1 q2 hm_q2 ht_q2) gw_523 gw_520 gw_521 gw_522 gw_2 ⟨by decide, by decide, by decide +kernel⟩ rfl rfl ⟨by decide, by decide⟩ rfl hl.1 rfl (Nat.le_of_ble_eq_true rfl) dX6_bide_16 ⟨by decide, by decide⟩ (fun v u H locs hp w => ?_)
      obtain ⟨f2, rfl, rfl, hT2, hR1⟩ := hp
      have hR := hR.tr hR1
      clear hT
      have hT := hT2
      clear hT2
      generalize f2 = f at w hT hR
      refine lv_iconst (v := 1) hx hb dX6_bide_19 (by decide) ?_
      refine lv_istore_n (lv' := [(3, .int 1), (0, .ref x), (1, .int ot), (2, .int yo)]) hx hb dX6_bide_20 rfl hl (by decide) rfl (fun ls hl => ?_)
      refine lv_aload_n hx hb dX6_bide_21 rfl (lv_at hl 1 rfl) ?_
      refine lv_iload_n hx hb dX6_bide_22 rfl (lv_at hl 3 rfl) ?_
      refine t_callV (n := 1) C w hT hm_x ht_x (by decide) rfl rfl (c_X6_worthOnCopy l D K b0 sa _ L _ Ψ hT x hm_x ht_x yo) gw_1074 gw_1071 gw_1073 gs_20 gw_1 ⟨by decide, by decide, by decide +kernel⟩ rfl rfl ⟨by decide, by decide⟩ rfl hl.1 rfl (Nat.le_of_ble_eq_true rfl) dX6_bide_23 ⟨by decide, by decide⟩ (fun v u H locs hp w => ?_)
      obtain ⟨r3, f2, rfl, rfl, hT2, hR1, hrr3⟩ := hp
      have hR := hR.tr hR1
      clear hT
      have hT := hT2
      clear hT2
      generalize f2 = f at w hT hR
      obtain rfl := hrr3
      refine lv_istore (lv' := [(4, .int (-1)), (3, .int 1), (0, .ref x), (1, .int ot), (2, .int yo)]) hx hb dX6_bide_26 hl (by decide) rfl (fun ls hl => ?_)
      refine lv_iconst (v := 2) hx hb dX6_bide_28 (by decide) ?_
      refine lv_istore (lv' := [(5, .int 2), (4, .int (-1)), (3, .int 1), (0, .ref x), (1, .int ot), (2, .int yo)]) hx hb dX6_bide_29 hl (by decide) rfl (fun ls hl => ?_)
      have loop4 : ∀ (n i4 : Nat), i4 ≤ 21 → 21 - i4 < n → ∀ (f : Nat → va_E) (H : Heap) (locs : List Loc), Wh D K b0 sa s H locs L f → TW K (gof gX1) Ψ L f → rawk Ψ L f0 f → ∀ ls : Array Slot, lv_has ls 7 [(5, .int (nI i4)), (4, .int (-1)), (3, .int 1), (0, .ref x), (1, .int ot), (2, .int yo)] → W p l e { frames := 7, cells := 2, slots := 12, locals := 111 } s m [.ref x, .int ot, .int yo].toArray below meth c H locs 2 12 (vx_MQ below (hQ D K b0 (fun v9 u9 => ∃ (r : Int32) (f2 : Nat → va_E), v9 = some (.int r) ∧ u9 = ((gof gX1), Ψ, L, f2) ∧ TW K (gof gX1) Ψ L f2 ∧ rawk Ψ L f0 f2 ∧ (r = 1 ∧ (0 ≤ ot.toInt ∧ ot.toInt ≤ 63 ∧ 0 ≤ yo.toInt ∧ yo.toInt ≤ 63)))) (hX D K b0 (fun E u9 => ∃ f2 : Nat → va_E, u9 = ((gof gX1), Ψ, L, f2) ∧ TW K (gof gX1) Ψ L f2 ∧ rawk Ψ L f0 f2 ∧ (E = "java/lang/IndexOutOfBoundsException" ∧ (¬ (0 ≤ ot.toInt ∧ ot.toInt ≤ 63 ∧ 0 ≤ yo.toInt ∧ yo.toInt ≤ 63))))) [.ref x, .int ot, .int yo].toArray s 2 12 (fun q => b0 ≤ q)) (F0 m 31 ls []) := by
        intro n
        induction n with
        | zero => intro i4 h1 h2; exact absurd h2 (Nat.not_lt_zero _)
        | succ n ih4 =>
          intro i4 hi4 hn4 f H locs w hT hR ls hl
          have ti4 : (nI i4).toInt = (i4 : Int) := nI_toInt (by omega)
          refine lv_iload hx hb dX6_bide_31 (lv_at hl 0 rfl) ?_
          refine lv_bipush (v := 20) hx hb dX6_bide_33 (by decide) ?_
          have n20 : (20 : Int32).toInt = 20 := by decide
          refine lv_icmp_gt (tgt := 71) hx hb dX6_bide_35 (by decide) (fun c5 => ?_) (fun c5 => ?_)
          · have c5 := lt_toInt c5
            refine lv_iload_n hx hb dX6_bide_71 rfl (lv_at hl 2 rfl) ?_
            have n1 : (1 : Int32).toInt = 1 := by decide
            refine vx_ret ?_
            exact t_iret C hr hlk w ⟨_, _, rfl, rfl, hT, hR, ⟨rfl, (by omega)⟩⟩ (by decide) (by decide) dX6_bide_72
          · have c5 := nlt_toInt c5
            refine lv_aload_n hx hb dX6_bide_38 rfl (lv_at hl 3 rfl) ?_
            refine lv_iload_n hx hb dX6_bide_39 rfl (lv_at hl 4 rfl) ?_
            refine t_callV (n := 1) C w hT hm_x ht_x (by decide) rfl rfl (c_X6_tryOnCopy l D K b0 sa _ L _ Ψ hT x hm_x ht_x ot) gw_1066 gw_1063 gw_1065 gs_18 gw_1 ⟨by decide, by decide, by decide +kernel⟩ rfl rfl ⟨by decide, by decide⟩ rfl hl.1 rfl (Nat.le_of_ble_eq_true rfl) dX6_bide_40 ⟨by decide, by decide⟩ (fun v u H locs hp w => ?_)
            obtain ⟨r6, f2, rfl, rfl, hT2, hR1, hrr6⟩ := hp
            have hR := hR.tr hR1
            clear hT
            have hT := hT2
            clear hT2
            generalize f2 = f at w hT hR
            obtain rfl := hrr6
            refine lv_pop hx hb dX6_bide_43 rfl ?_
            refine lv_aload_n hx hb dX6_bide_44 rfl (lv_at hl 3 rfl) ?_
            refine lv_iload_n hx hb dX6_bide_45 rfl (lv_at hl 5 rfl) ?_
            refine t_callV (n := 1) C w hT hm_x ht_x (by decide) rfl rfl (c_X6_worthOnCopy l D K b0 sa _ L _ Ψ hT x hm_x ht_x yo) gw_1074 gw_1071 gw_1073 gs_20 gw_1 ⟨by decide, by decide, by decide +kernel⟩ rfl rfl ⟨by decide, by decide⟩ rfl hl.1 rfl (Nat.le_of_ble_eq_true rfl) dX6_bide_46 ⟨by decide, by decide⟩ (fun v u H locs hp w => ?_)
            obtain ⟨r7, f2, rfl, rfl, hT2, hR1, hrr7⟩ := hp
            have hR := hR.tr hR1
            clear hT
            have hT := hT2
            clear hT2
            generalize f2 = f at w hT hR
            obtain rfl := hrr7
            refine lv_istore (lv' := [(6, .int (-1)), (5, .int (nI i4)), (4, .int (-1)), (3, .int 1), (0, .ref x), (1, .int ot), (2, .int yo)]) hx hb dX6_bide_49 hl (by decide) rfl (fun ls hl => ?_)
            refine lv_iload hx hb dX6_bide_51 (lv_at hl 0 rfl) ?_
            refine lv_iload hx hb dX6_bide_53 (lv_at hl 2 rfl) ?_
            refine lv_icmp_le (tgt := 65) hx hb dX6_bide_55 (by decide) (fun _ => ?_) (fun c0 => absurd c0 (by decide))
            refine lv_iinc (v := (nI (i4 + 1))) (lv' := [(5, .int (nI (i4 + 1))), (6, .int (-1)), (4, .int (-1)), (3, .int 1), (0, .ref x), (1, .int ot), (2, .int yo)]) hx hb dX6_bide_65 hl (k := 1) rfl (by exact nI_1 i4) (by decide) rfl (fun ls hl => ?_)
            refine lv_goto (tgt := 31) hx hb dX6_bide_68 (by decide) ?_
            exact ih4 (i4 + 1) (by omega) (by omega) _ _ _ w hT hR ls (lv_sub hl [0, 2, 3, 4, 5, 6] rfl)
      exact loop4 20 2 (by decide) (by decide) _ _ _ w hT hR ls hl
set_option maxHeartbeats 4000000 in
set_option maxRecDepth 100000 in
theorem c_X6_fair (l : Launch) (hls : l.stackTraces = false) (D : va_G) (K : Nat → ClassId) (b0 : Nat) (sa : Nat × Nat × Nat) (sz : Nat) (L : List Nat) (f0 : Nat → va_E) (Ψ : Nat → Nat) (hT : TW K (gof gX1) Ψ L f0) (x : Nat) (hm_x : x ∈ L) (ht_x : Ψ x = 6) (ma : Int32) : vx_Met l yX6_fair (.code yX6_fair cX6_fair 4 (some .int) :: gt) { frames := 7, cells := 1, slots := 6, locals := 102 } (va_Pc [.ref x, .int ma] (hPre D K b0 sa sz L f0)) (hQ D K b0 (fun v9 u9 => ∃ (r : Int32) (f2 : Nat → va_E), v9 = some (.int r) ∧ u9 = ((gof gX1), Ψ, L, f2) ∧ TW K (gof gX1) Ψ L f2 ∧ rawk Ψ L f0 f2 ∧ ((r = 1008 ∧ (ma.toInt = 0)) ∨ (r = (-1) ∧ (1 ≤ ma.toInt ∧ ma.toInt ≤ 64))))) (hX D K b0 (fun E u9 => ∃ f2 : Nat → va_E, u9 = ((gof gX1), Ψ, L, f2) ∧ TW K (gof gX1) Ψ L f2 ∧ rawk Ψ L f0 f2 ∧ (E = "java/lang/IllegalArgumentException" ∧ (¬ (0 ≤ ma.toInt ∧ ma.toInt ≤ 64))))) 1 6 (fun q => b0 ≤ q) := by
  refine t_xof (own := RX6) (by decide) rfl ?_ (Nat.le_of_ble_eq_true rfl)
  intro p e s m below meth c ls C w hsz hr hlk htb hl
  have hx := C.1
  have hb := C.2.1
  have hl : lv_has ls 4 [(0, .ref x), (1, .int ma)] := hl
  have hb_ma := ti_bd ma
  have hR : rawk Ψ L f0 f0 := rawk.rf
  refine lv_iload_n hx hb dX6_fair_0 rfl (lv_at hl 1 rfl) ?_
  refine lv_iconst (v := 0) hx hb dX6_fair_1 (by decide) ?_
  refine lv_bipush (v := 64) hx hb dX6_fair_2 (by decide) ?_
  have n0 : (0 : Int32).toInt = 0 := by decide
  have n64 : (64 : Int32).toInt = 64 := by decide
  refine t_callS (n := 3) C w (c_X6_within l D K b0 sa _ L _ Ψ (gof gX1) hT ma 0 64) gw_376 gw_374 gw_375 gw_1 ⟨by decide, by decide, by decide +kernel⟩ rfl rfl ⟨by decide, by decide⟩ rfl hl.1 rfl (Nat.le_of_ble_eq_true rfl) dX6_fair_4 ⟨by decide, by decide⟩ (fun v u H locs hp w => ?_)
  obtain ⟨r1, rfl, rfl, hrr1⟩ := hp
  rcases hrr1 with ⟨rfl, hf0_r1, hf1_r1⟩ | ⟨rfl, hf0_r1⟩
  ·
    have n1 : (1 : Int32).toInt = 1 := by decide
    refine t_xcallS (n := 1) C w (c_X6_need l hls D K b0 sa _ L _ Ψ (gof gX1) hT 1) gw_625 gw_623 gw_624 gw_1 ⟨by decide, by decide, by decide +kernel⟩ rfl rfl ⟨by decide, by decide⟩ rfl hl.1 rfl (Nat.le_of_ble_eq_true rfl) dX6_fair_7 ⟨by decide, by decide⟩ (fun E ce q9 u H locs hp w hcell hv0 hcl => ?_) (fun v u H locs hp w => ?_)
    · obtain ⟨f2, rfl, hT2, hR1, hpx⟩ := hp
      have hR := hR.tr hR1
      obtain ⟨rfl, hx0⟩ := hpx
      exfalso; omega
    ·
      obtain ⟨rfl, rfl, hpv0⟩ := hp
      refine lv_bipush (v := 8) hx hb dX6_fair_10 (by decide) ?_
      refine lv_istore_n (lv' := [(2, .int 8), (0, .ref x), (1, .int ma)]) hx hb dX6_fair_12 rfl hl (by decide) rfl (fun ls hl => ?_)
      refine lv_iload_n hx hb dX6_fair_13 rfl (lv_at hl 0 rfl) ?_
      refine lv_if_lt (tgt := 55) hx hb dX6_fair_14 (by decide) (fun c0 => absurd c0 (by decide)) (fun _ => ?_)
      refine lv_bipush (v := 10) hx hb dX6_fair_17 (by decide) ?_
      refine lv_istore_n (lv' := [(3, .int 10), (2, .int 8), (0, .ref x), (1, .int ma)]) hx hb dX6_fair_19 rfl hl (by decide) rfl (fun ls hl => ?_)
      refine lv_iload_n hx hb dX6_fair_20 rfl (lv_at hl 0 rfl) ?_
      refine lv_bipush (v := 90) hx hb dX6_fair_21 (by decide) ?_
      refine lv_icmp_gt (tgt := 49) hx hb dX6_fair_23 (by decide) (fun c0 => absurd c0 (by decide)) (fun _ => ?_)
      refine lv_aload_n hx hb dX6_fair_26 rfl (lv_at hl 2 rfl) ?_
      refine lv_iload_n hx hb dX6_fair_27 rfl (lv_at hl 0 rfl) ?_
      refine lv_iload_n hx hb dX6_fair_28 rfl (lv_at hl 1 rfl) ?_
      have n10 : (10 : Int32).toInt = 10 := by decide
      have n8 : (8 : Int32).toInt = 8 := by decide
      refine t_callV (n := 2) C w hT hm_x ht_x (by decide) rfl rfl (c_X6_cellsPaying l D K b0 sa _ L _ Ψ hT x hm_x ht_x 10 8) gw_1147 gw_1144 gw_1146 gs_21 gw_1 ⟨by decide, by decide, by decide +kernel⟩ rfl rfl ⟨by decide, by decide⟩ rfl hl.1 rfl (Nat.le_of_ble_eq_true rfl) dX6_fair_29 ⟨by decide, by decide⟩ (fun v u H locs hp w => ?_)
      obtain ⟨r2, f2, rfl, rfl, hT2, hR1, hrr2⟩ := hp
      have hR := hR.tr hR1
      clear hT
      have hT := hT2
      clear hT2
      generalize f2 = f at w hT hR
      obtain rfl := hrr2
      refine lv_iload_n hx hb dX6_fair_32 rfl (lv_at hl 3 rfl) ?_
      refine lv_icmp_lt (tgt := 43) hx hb dX6_fair_33 (by decide) (fun c3 => ?_) (fun c3 => ?_)
      · have c3 := lt_toInt c3
        refine lv_iinc (v := 20) (lv' := [(3, .int 20), (2, .int 8), (0, .ref x), (1, .int ma)]) hx hb dX6_fair_43 hl (k := 0) rfl (by decide) (by decide) rfl (fun ls hl => ?_)
        refine lv_goto (tgt := 20) hx hb dX6_fair_46 (by decide) ?_
        refine lv_iload_n hx hb dX6_fair_20 rfl (lv_at hl 0 rfl) ?_
        refine lv_bipush (v := 90) hx hb dX6_fair_21 (by decide) ?_
        refine lv_icmp_gt (tgt := 49) hx hb dX6_fair_23 (by decide) (fun c0 => absurd c0 (by decide)) (fun _ => ?_)
        refine lv_aload_n hx hb dX6_fair_26 rfl (lv_at hl 2 rfl) ?_
        refine lv_iload_n hx hb dX6_fair_27 rfl (lv_at hl 0 rfl) ?_
        refine lv_iload_n hx hb dX6_fair_28 rfl (lv_at hl 1 rfl) ?_
        have n20 : (20 : Int32).toInt = 20 := by decide
        refine t_callV (n := 2) C w hT hm_x ht_x (by decide) rfl rfl (c_X6_cellsPaying l D K b0 sa _ L _ Ψ hT x hm_x ht_x 20 8) gw_1147 gw_1144 gw_1146 gs_21 gw_1 ⟨by decide, by decide, by decide +kernel⟩ rfl rfl ⟨by decide, by decide⟩ rfl hl.1 rfl (Nat.le_of_ble_eq_true rfl) dX6_fair_29 ⟨by decide, by decide⟩ (fun v u H locs hp w => ?_)
        obtain ⟨r4, f2, rfl, rfl, hT2, hR1, hrr4⟩ := hp
        have hR := hR.tr hR1
        clear hT
        have hT := hT2
        clear hT2
        generalize f2 = f at w hT hR
        obtain rfl := hrr4
        refine lv_iload_n hx hb dX6_fair_32 rfl (lv_at hl 3 rfl) ?_
        refine lv_icmp_lt (tgt := 43) hx hb dX6_fair_33 (by decide) (fun c5 => ?_) (fun c5 => ?_)
        · have c5 := lt_toInt c5
          refine lv_iinc (v := 30) (lv' := [(3, .int 30), (2, .int 8), (0, .ref x), (1, .int ma)]) hx hb dX6_fair_43 hl (k := 0) rfl (by decide) (by decide) rfl (fun ls hl => ?_)
          refine lv_goto (tgt := 20) hx hb dX6_fair_46 (by decide) ?_
          refine lv_iload_n hx hb dX6_fair_20 rfl (lv_at hl 0 rfl) ?_
          refine lv_bipush (v := 90) hx hb dX6_fair_21 (by decide) ?_
          refine lv_icmp_gt (tgt := 49) hx hb dX6_fair_23 (by decide) (fun c0 => absurd c0 (by decide)) (fun _ => ?_)
          refine lv_aload_n hx hb dX6_fair_26 rfl (lv_at hl 2 rfl) ?_
          refine lv_iload_n hx hb dX6_fair_27 rfl (lv_at hl 0 rfl) ?_
          refine lv_iload_n hx hb dX6_fair_28 rfl (lv_at hl 1 rfl) ?_
          have n30 : (30 : Int32).toInt = 30 := by decide
          refine t_callV (n := 2) C w hT hm_x ht_x (by decide) rfl rfl (c_X6_cellsPaying l D K b0 sa _ L _ Ψ hT x hm_x ht_x 30 8) gw_1147 gw_1144 gw_1146 gs_21 gw_1 ⟨by decide, by decide, by decide +kernel⟩ rfl rfl ⟨by decide, by decide⟩ rfl hl.1 rfl (Nat.le_of_ble_eq_true rfl) dX6_fair_29 ⟨by decide, by decide⟩ (fun v u H locs hp w => ?_)
          obtain ⟨r6, f2, rfl, rfl, hT2, hR1, hrr6⟩ := hp
          have hR := hR.tr hR1
          clear hT
          have hT := hT2
          clear hT2
          generalize f2 = f at w hT hR
          obtain rfl := hrr6
          refine lv_iload_n hx hb dX6_fair_32 rfl (lv_at hl 3 rfl) ?_
          refine lv_icmp_lt (tgt := 43) hx hb dX6_fair_33 (by decide) (fun c7 => ?_) (fun c7 => ?_)
          · have c7 := lt_toInt c7
            refine lv_iinc (v := 40) (lv' := [(3, .int 40), (2, .int 8), (0, .ref x), (1, .int ma)]) hx hb dX6_fair_43 hl (k := 0) rfl (by decide) (by decide) rfl (fun ls hl => ?_)
            refine lv_goto (tgt := 20) hx hb dX6_fair_46 (by decide) ?_
            refine lv_iload_n hx hb dX6_fair_20 rfl (lv_at hl 0 rfl) ?_
            refine lv_bipush (v := 90) hx hb dX6_fair_21 (by decide) ?_
            refine lv_icmp_gt (tgt := 49) hx hb dX6_fair_23 (by decide) (fun c0 => absurd c0 (by decide)) (fun _ => ?_)
            refine lv_aload_n hx hb dX6_fair_26 rfl (lv_at hl 2 rfl) ?_
            refine lv_iload_n hx hb dX6_fair_27 rfl (lv_at hl 0 rfl) ?_
            refine lv_iload_n hx hb dX6_fair_28 rfl (lv_at hl 1 rfl) ?_
            have n40 : (40 : Int32).toInt = 40 := by decide
            refine t_callV (n := 2) C w hT hm_x ht_x (by decide) rfl rfl (c_X6_cellsPaying l D K b0 sa _ L _ Ψ hT x hm_x ht_x 40 8) gw_1147 gw_1144 gw_1146 gs_21 gw_1 ⟨by decide, by decide, by decide +kernel⟩ rfl rfl ⟨by decide, by decide⟩ rfl hl.1 rfl (Nat.le_of_ble_eq_true rfl) dX6_fair_29 ⟨by decide, by decide⟩ (fun v u H locs hp w => ?_)
            obtain ⟨r8, f2, rfl, rfl, hT2, hR1, hrr8⟩ := hp
            have hR := hR.tr hR1
            clear hT
            have hT := hT2
            clear hT2
            generalize f2 = f at w hT hR
            obtain rfl := hrr8
            refine lv_iload_n hx hb dX6_fair_32 rfl (lv_at hl 3 rfl) ?_
            refine lv_icmp_lt (tgt := 43) hx hb dX6_fair_33 (by decide) (fun c9 => ?_) (fun c9 => ?_)
            · have c9 := lt_toInt c9
              refine lv_iinc (v := 50) (lv' := [(3, .int 50), (2, .int 8), (0, .ref x), (1, .int ma)]) hx hb dX6_fair_43 hl (k := 0) rfl (by decide) (by decide) rfl (fun ls hl => ?_)
              refine lv_goto (tgt := 20) hx hb dX6_fair_46 (by decide) ?_
              refine lv_iload_n hx hb dX6_fair_20 rfl (lv_at hl 0 rfl) ?_
              refine lv_bipush (v := 90) hx hb dX6_fair_21 (by decide) ?_
              refine lv_icmp_gt (tgt := 49) hx hb dX6_fair_23 (by decide) (fun c0 => absurd c0 (by decide)) (fun _ => ?_)
              refine lv_aload_n hx hb dX6_fair_26 rfl (lv_at hl 2 rfl) ?_
              refine lv_iload_n hx hb dX6_fair_27 rfl (lv_at hl 0 rfl) ?_
              refine lv_iload_n hx hb dX6_fair_28 rfl (lv_at hl 1 rfl) ?_
              have n50 : (50 : Int32).toInt = 50 := by decide
              refine t_callV (n := 2) C w hT hm_x ht_x (by decide) rfl rfl (c_X6_cellsPaying l D K b0 sa _ L _ Ψ hT x hm_x ht_x 50 8) gw_1147 gw_1144 gw_1146 gs_21 gw_1 ⟨by decide, by decide, by decide +kernel⟩ rfl rfl ⟨by decide, by decide⟩ rfl hl.1 rfl (Nat.le_of_ble_eq_true rfl) dX6_fair_29 ⟨by decide, by decide⟩ (fun v u H locs hp w => ?_)
              obtain ⟨r10, f2, rfl, rfl, hT2, hR1, hrr10⟩ := hp
              have hR := hR.tr hR1
              clear hT
              have hT := hT2
              clear hT2
              generalize f2 = f at w hT hR
              obtain rfl := hrr10
              refine lv_iload_n hx hb dX6_fair_32 rfl (lv_at hl 3 rfl) ?_
              refine lv_icmp_lt (tgt := 43) hx hb dX6_fair_33 (by decide) (fun c11 => ?_) (fun c11 => ?_)
              · have c11 := lt_toInt c11
                refine lv_iinc (v := 60) (lv' := [(3, .int 60), (2, .int 8), (0, .ref x), (1, .int ma)]) hx hb dX6_fair_43 hl (k := 0) rfl (by decide) (by decide) rfl (fun ls hl => ?_)
                refine lv_goto (tgt := 20) hx hb dX6_fair_46 (by decide) ?_
                refine lv_iload_n hx hb dX6_fair_20 rfl (lv_at hl 0 rfl) ?_
                refine lv_bipush (v := 90) hx hb dX6_fair_21 (by decide) ?_
                refine lv_icmp_gt (tgt := 49) hx hb dX6_fair_23 (by decide) (fun c0 => absurd c0 (by decide)) (fun _ => ?_)
                refine lv_aload_n hx hb dX6_fair_26 rfl (lv_at hl 2 rfl) ?_
                refine lv_iload_n hx hb dX6_fair_27 rfl (lv_at hl 0 rfl) ?_
                refine lv_iload_n hx hb dX6_fair_28 rfl (lv_at hl 1 rfl) ?_
                have n60 : (60 : Int32).toInt = 60 := by decide
                refine t_callV (n := 2) C w hT hm_x ht_x (by decide) rfl rfl (c_X6_cellsPaying l D K b0 sa _ L _ Ψ hT x hm_x ht_x 60 8) gw_1147 gw_1144 gw_1146 gs_21 gw_1 ⟨by decide, by decide, by decide +kernel⟩ rfl rfl ⟨by decide, by decide⟩ rfl hl.1 rfl (Nat.le_of_ble_eq_true rfl) dX6_fair_29 ⟨by decide, by decide⟩ (fun v u H locs hp w => ?_)
                obtain ⟨r12, f2, rfl, rfl, hT2, hR1, hrr12⟩ := hp
                have hR := hR.tr hR1
                clear hT
                have hT := hT2
                clear hT2
                generalize f2 = f at w hT hR
                obtain rfl := hrr12
                refine lv_iload_n hx hb dX6_fair_32 rfl (lv_at hl 3 rfl) ?_
                refine lv_icmp_lt (tgt := 43) hx hb dX6_fair_33 (by decide) (fun c13 => ?_) (fun c13 => ?_)
                · have c13 := lt_toInt c13
                  refine lv_iinc (v := 70) (lv' := [(3, .int 70), (2, .int 8), (0, .ref x), (1, .int ma)]) hx hb dX6_fair_43 hl (k := 0) rfl (by decide) (by decide) rfl (fun ls hl => ?_)
                  refine lv_goto (tgt := 20) hx hb dX6_fair_46 (by decide) ?_
                  refine lv_iload_n hx hb dX6_fair_20 rfl (lv_at hl 0 rfl) ?_
                  refine lv_bipush (v := 90) hx hb dX6_fair_21 (by decide) ?_
                  refine lv_icmp_gt (tgt := 49) hx hb dX6_fair_23 (by decide) (fun c0 => absurd c0 (by decide)) (fun _ => ?_)
                  refine lv_aload_n hx hb dX6_fair_26 rfl (lv_at hl 2 rfl) ?_
                  refine lv_iload_n hx hb dX6_fair_27 rfl (lv_at hl 0 rfl) ?_
                  refine lv_iload_n hx hb dX6_fair_28 rfl (lv_at hl 1 rfl) ?_
                  have n70 : (70 : Int32).toInt = 70 := by decide
                  refine t_callV (n := 2) C w hT hm_x ht_x (by decide) rfl rfl (c_X6_cellsPaying l D K b0 sa _ L _ Ψ hT x hm_x ht_x 70 8) gw_1147 gw_1144 gw_1146 gs_21 gw_1 ⟨by decide, by decide, by decide +kernel⟩ rfl rfl ⟨by decide, by decide⟩ rfl hl.1 rfl (Nat.le_of_ble_eq_true rfl) dX6_fair_29 ⟨by decide, by decide⟩ (fun v u H locs hp w => ?_)
                  obtain ⟨r14, f2, rfl, rfl, hT2, hR1, hrr14⟩ := hp
                  have hR := hR.tr hR1
                  clear hT
                  have hT := hT2
                  clear hT2
                  generalize f2 = f at w hT hR
                  obtain rfl := hrr14
                  refine lv_iload_n hx hb dX6_fair_32 rfl (lv_at hl 3 rfl) ?_
                  refine lv_icmp_lt (tgt := 43) hx hb dX6_fair_33 (by decide) (fun c15 => ?_) (fun c15 => ?_)
                  · have c15 := lt_toInt c15
                    refine lv_iinc (v := 80) (lv' := [(3, .int 80), (2, .int 8), (0, .ref x), (1, .int ma)]) hx hb dX6_fair_43 hl (k := 0) rfl (by decide) (by decide) rfl (fun ls hl => ?_)
                    refine lv_goto (tgt := 20) hx hb dX6_fair_46 (by decide) ?_
                    refine lv_iload_n hx hb dX6_fair_20 rfl (lv_at hl 0 rfl) ?_
                    refine lv_bipush (v := 90) hx hb dX6_fair_21 (by decide) ?_
                    refine lv_icmp_gt (tgt := 49) hx hb dX6_fair_23 (by decide) (fun c0 => absurd c0 (by decide)) (fun _ => ?_)
                    refine lv_aload_n hx hb dX6_fair_26 rfl (lv_at hl 2 rfl) ?_
                    refine lv_iload_n hx hb dX6_fair_27 rfl (lv_at hl 0 rfl) ?_
                    refine lv_iload_n hx hb dX6_fair_28 rfl (lv_at hl 1 rfl) ?_
                    have n80 : (80 : Int32).toInt = 80 := by decide
                    refine t_callV (n := 2) C w hT hm_x ht_x (by decide) rfl rfl (c_X6_cellsPaying l D K b0 sa _ L _ Ψ hT x hm_x ht_x 80 8) gw_1147 gw_1144 gw_1146 gs_21 gw_1 ⟨by decide, by decide, by decide +kernel⟩ rfl rfl ⟨by decide, by decide⟩ rfl hl.1 rfl (Nat.le_of_ble_eq_true rfl) dX6_fair_29 ⟨by decide, by decide⟩ (fun v u H locs hp w => ?_)
                    obtain ⟨r16, f2, rfl, rfl, hT2, hR1, hrr16⟩ := hp
                    have hR := hR.tr hR1
                    clear hT
                    have hT := hT2
                    clear hT2
                    generalize f2 = f at w hT hR
                    obtain rfl := hrr16
                    refine lv_iload_n hx hb dX6_fair_32 rfl (lv_at hl 3 rfl) ?_
                    refine lv_icmp_lt (tgt := 43) hx hb dX6_fair_33 (by decide) (fun c17 => ?_) (fun c17 => ?_)
                    · have c17 := lt_toInt c17
                      refine lv_iinc (v := 90) (lv' := [(3, .int 90), (2, .int 8), (0, .ref x), (1, .int ma)]) hx hb dX6_fair_43 hl (k := 0) rfl (by decide) (by decide) rfl (fun ls hl => ?_)
                      refine lv_goto (tgt := 20) hx hb dX6_fair_46 (by decide) ?_
                      refine lv_iload_n hx hb dX6_fair_20 rfl (lv_at hl 0 rfl) ?_
                      refine lv_bipush (v := 90) hx hb dX6_fair_21 (by decide) ?_
                      refine lv_icmp_gt (tgt := 49) hx hb dX6_fair_23 (by decide) (fun c0 => absurd c0 (by decide)) (fun _ => ?_)
                      refine lv_aload_n hx hb dX6_fair_26 rfl (lv_at hl 2 rfl) ?_
                      refine lv_iload_n hx hb dX6_fair_27 rfl (lv_at hl 0 rfl) ?_
                      refine lv_iload_n hx hb dX6_fair_28 rfl (lv_at hl 1 rfl) ?_
                      have n90 : (90 : Int32).toInt = 90 := by decide
                      refine t_callV (n := 2) C w hT hm_x ht_x (by decide) rfl rfl (c_X6_cellsPaying l D K b0 sa _ L _ Ψ hT x hm_x ht_x 90 8) gw_1147 gw_1144 gw_1146 gs_21 gw_1 ⟨by decide, by decide, by decide +kernel⟩ rfl rfl ⟨by decide, by decide⟩ rfl hl.1 rfl (Nat.le_of_ble_eq_true rfl) dX6_fair_29 ⟨by decide, by decide⟩ (fun v u H locs hp w => ?_)
                      obtain ⟨r18, f2, rfl, rfl, hT2, hR1, hrr18⟩ := hp
                      have hR := hR.tr hR1
                      clear hT
                      have hT := hT2
                      clear hT2
                      generalize f2 = f at w hT hR
                      obtain rfl := hrr18
                      refine lv_iload_n hx hb dX6_fair_32 rfl (lv_at hl 3 rfl) ?_
                      refine lv_icmp_lt (tgt := 43) hx hb dX6_fair_33 (by decide) (fun c19 => ?_) (fun c19 => ?_)
                      · have c19 := lt_toInt c19
                        refine lv_iinc (v := 100) (lv' := [(3, .int 100), (2, .int 8), (0, .ref x), (1, .int ma)]) hx hb dX6_fair_43 hl (k := 0) rfl (by decide) (by decide) rfl (fun ls hl => ?_)
                        refine lv_goto (tgt := 20) hx hb dX6_fair_46 (by decide) ?_
                        refine lv_iload_n hx hb dX6_fair_20 rfl (lv_at hl 0 rfl) ?_
                        refine lv_bipush (v := 90) hx hb dX6_fair_21 (by decide) ?_
                        refine lv_icmp_gt (tgt := 49) hx hb dX6_fair_23 (by decide) (fun _ => ?_) (fun c0 => absurd c0 (by decide))
                        refine lv_iinc (v := 6) (lv' := [(2, .int 6), (3, .int 100), (0, .ref x), (1, .int ma)]) hx hb dX6_fair_49 hl (k := 1) rfl (by decide) (by decide) rfl (fun ls hl => ?_)
                        refine lv_goto (tgt := 13) hx hb dX6_fair_52 (by decide) ?_
                        refine lv_iload_n hx hb dX6_fair_13 rfl (lv_at hl 0 rfl) ?_
                        refine lv_if_lt (tgt := 55) hx hb dX6_fair_14 (by decide) (fun c0 => absurd c0 (by decide)) (fun _ => ?_)
                        refine lv_bipush (v := 10) hx hb dX6_fair_17 (by decide) ?_
                        refine lv_istore_n (lv' := [(3, .int 10), (2, .int 6), (0, .ref x), (1, .int ma)]) hx hb dX6_fair_19 rfl hl (by decide) rfl (fun ls hl => ?_)
                        refine lv_iload_n hx hb dX6_fair_20 rfl (lv_at hl 0 rfl) ?_
                        refine lv_bipush (v := 90) hx hb dX6_fair_21 (by decide) ?_
                        refine lv_icmp_gt (tgt := 49) hx hb dX6_fair_23 (by decide) (fun c0 => absurd c0 (by decide)) (fun _ => ?_)
                        refine lv_aload_n hx hb dX6_fair_26 rfl (lv_at hl 2 rfl) ?_
                        refine lv_iload_n hx hb dX6_fair_27 rfl (lv_at hl 0 rfl) ?_
                        refine lv_iload_n hx hb dX6_fair_28 rfl (lv_at hl 1 rfl) ?_
                        have n6 : (6 : Int32).toInt = 6 := by decide
                        refine t_callV (n := 2) C w hT hm_x ht_x (by decide) rfl rfl (c_X6_cellsPaying l D K b0 sa _ L _ Ψ hT x hm_x ht_x 10 6) gw_1147 gw_1144 gw_1146 gs_21 gw_1 ⟨by decide, by decide, by decide +kernel⟩ rfl rfl ⟨by decide, by decide⟩ rfl hl.1 rfl (Nat.le_of_ble_eq_true rfl) dX6_fair_29 ⟨by decide, by decide⟩ (fun v u H locs hp w => ?_)
                        obtain ⟨r20, f2, rfl, rfl, hT2, hR1, hrr20⟩ := hp
                        have hR := hR.tr hR1
                        clear hT
                        have hT := hT2
                        clear hT2
                        generalize f2 = f at w hT hR
                        obtain rfl := hrr20
                        refine lv_iload_n hx hb dX6_fair_32 rfl (lv_at hl 3 rfl) ?_
                        refine lv_icmp_lt (tgt := 43) hx hb dX6_fair_33 (by decide) (fun c21 => ?_) (fun c21 => ?_)
                        · have c21 := lt_toInt c21
                          refine lv_iinc (v := 20) (lv' := [(3, .int 20), (2, .int 6), (0, .ref x), (1, .int ma)]) hx hb dX6_fair_43 hl (k := 0) rfl (by decide) (by decide) rfl (fun ls hl => ?_)
                          refine lv_goto (tgt := 20) hx hb dX6_fair_46 (by decide) ?_
                          refine lv_iload_n hx hb dX6_fair_20 rfl (lv_at hl 0 rfl) ?_
                          refine lv_bipush (v := 90) hx hb dX6_fair_21 (by decide) ?_
                          refine lv_icmp_gt (tgt := 49) hx hb dX6_fair_23 (by decide) (fun c0 => absurd c0 (by decide)) (fun _ => ?_)
                          refine lv_aload_n hx hb dX6_fair_26 rfl (lv_at hl 2 rfl) ?_
                          refine lv_iload_n hx hb dX6_fair_27 rfl (lv_at hl 0 rfl) ?_
                          refine lv_iload_n hx hb dX6_fair_28 rfl (lv_at hl 1 rfl) ?_
                          refine t_callV (n := 2) C w hT hm_x ht_x (by decide) rfl rfl (c_X6_cellsPaying l D K b0 sa _ L _ Ψ hT x hm_x ht_x 20 6) gw_1147 gw_1144 gw_1146 gs_21 gw_1 ⟨by decide, by decide, by decide +kernel⟩ rfl rfl ⟨by decide, by decide⟩ rfl hl.1 rfl (Nat.le_of_ble_eq_true rfl) dX6_fair_29 ⟨by decide, by decide⟩ (fun v u H locs hp w => ?_)
                          obtain ⟨r22, f2, rfl, rfl, hT2, hR1, hrr22⟩ := hp
                          have hR := hR.tr hR1
                          clear hT
                          have hT := hT2
                          clear hT2
                          generalize f2 = f at w hT hR
                          obtain rfl := hrr22
                          refine lv_iload_n hx hb dX6_fair_32 rfl (lv_at hl 3 rfl) ?_
                          refine lv_icmp_lt (tgt := 43) hx hb dX6_fair_33 (by decide) (fun c23 => ?_) (fun c23 => ?_)
                          · have c23 := lt_toInt c23
                            refine lv_iinc (v := 30) (lv' := [(3, .int 30), (2, .int 6), (0, .ref x), (1, .int ma)]) hx hb dX6_fair_43 hl (k := 0) rfl (by decide) (by decide) rfl (fun ls hl => ?_)
                            refine lv_goto (tgt := 20) hx hb dX6_fair_46 (by decide) ?_
                            refine lv_iload_n hx hb dX6_fair_20 rfl (lv_at hl 0 rfl) ?_
                            refine lv_bipush (v := 90) hx hb dX6_fair_21 (by decide) ?_
                            refine lv_icmp_gt (tgt := 49) hx hb dX6_fair_23 (by decide) (fun c0 => absurd c0 (by decide)) (fun _ => ?_)
                            refine lv_aload_n hx hb dX6_fair_26 rfl (lv_at hl 2 rfl) ?_
                            refine lv_iload_n hx hb dX6_fair_27 rfl (lv_at hl 0 rfl) ?_
                            refine lv_iload_n hx hb dX6_fair_28 rfl (lv_at hl 1 rfl) ?_
                            refine t_callV (n := 2) C w hT hm_x ht_x (by decide) rfl rfl (c_X6_cellsPaying l D K b0 sa _ L _ Ψ hT x hm_x ht_x 30 6) gw_1147 gw_1144 gw_1146 gs_21 gw_1 ⟨by decide, by decide, by decide +kernel⟩ rfl rfl ⟨by decide, by decide⟩ rfl hl.1 rfl (Nat.le_of_ble_eq_true rfl) dX6_fair_29 ⟨by decide, by decide⟩ (fun v u H locs hp w => ?_)
                            obtain ⟨r24, f2, rfl, rfl, hT2, hR1, hrr24⟩ := hp
                            have hR := hR.tr hR1
                            clear hT
                            have hT := hT2
                            clear hT2
                            generalize f2 = f at w hT hR
                            obtain rfl := hrr24
                            refine lv_iload_n hx hb dX6_fair_32 rfl (lv_at hl 3 rfl) ?_
                            refine lv_icmp_lt (tgt := 43) hx hb dX6_fair_33 (by decide) (fun c25 => ?_) (fun c25 => ?_)
                            · have c25 := lt_toInt c25
                              refine lv_iinc (v := 40) (lv' := [(3, .int 40), (2, .int 6), (0, .ref x), (1, .int ma)]) hx hb dX6_fair_43 hl (k := 0) rfl (by decide) (by decide) rfl (fun ls hl => ?_)
                              refine lv_goto (tgt := 20) hx hb dX6_fair_46 (by decide) ?_
                              refine lv_iload_n hx hb dX6_fair_20 rfl (lv_at hl 0 rfl) ?_
                              refine lv_bipush (v := 90) hx hb dX6_fair_21 (by decide) ?_
                              refine lv_icmp_gt (tgt := 49) hx hb dX6_fair_23 (by decide) (fun c0 => absurd c0 (by decide)) (fun _ => ?_)
                              refine lv_aload_n hx hb dX6_fair_26 rfl (lv_at hl 2 rfl) ?_
                              refine lv_iload_n hx hb dX6_fair_27 rfl (lv_at hl 0 rfl) ?_
                              refine lv_iload_n hx hb dX6_fair_28 rfl (lv_at hl 1 rfl) ?_
                              refine t_callV (n := 2) C w hT hm_x ht_x (by decide) rfl rfl (c_X6_cellsPaying l D K b0 sa _ L _ Ψ hT x hm_x ht_x 40 6) gw_1147 gw_1144 gw_1146 gs_21 gw_1 ⟨by decide, by decide, by decide +kernel⟩ rfl rfl ⟨by decide, by decide⟩ rfl hl.1 rfl (Nat.le_of_ble_eq_true rfl) dX6_fair_29 ⟨by decide, by decide⟩ (fun v u H locs hp w => ?_)
                              obtain ⟨r26, f2, rfl, rfl, hT2, hR1, hrr26⟩ := hp
                              have hR := hR.tr hR1
                              clear hT
                              have hT := hT2
                              clear hT2
                              generalize f2 = f at w hT hR
                              obtain rfl := hrr26
                              refine lv_iload_n hx hb dX6_fair_32 rfl (lv_at hl 3 rfl) ?_
                              refine lv_icmp_lt (tgt := 43) hx hb dX6_fair_33 (by decide) (fun c27 => ?_) (fun c27 => ?_)
                              · have c27 := lt_toInt c27
                                refine lv_iinc (v := 50) (lv' := [(3, .int 50), (2, .int 6), (0, .ref x), (1, .int ma)]) hx hb dX6_fair_43 hl (k := 0) rfl (by decide) (by decide) rfl (fun ls hl => ?_)
                                refine lv_goto (tgt := 20) hx hb dX6_fair_46 (by decide) ?_
                                refine lv_iload_n hx hb dX6_fair_20 rfl (lv_at hl 0 rfl) ?_
                                refine lv_bipush (v := 90) hx hb dX6_fair_21 (by decide) ?_
                                refine lv_icmp_gt (tgt := 49) hx hb dX6_fair_23 (by decide) (fun c0 => absurd c0 (by decide)) (fun _ => ?_)
                                refine lv_aload_n hx hb dX6_fair_26 rfl (lv_at hl 2 rfl) ?_
                                refine lv_iload_n hx hb dX6_fair_27 rfl (lv_at hl 0 rfl) ?_
                                refine lv_iload_n hx hb dX6_fair_28 rfl (lv_at hl 1 rfl) ?_
                                refine t_callV (n := 2) C w hT hm_x ht_x (by decide) rfl rfl (c_X6_cellsPaying l D K b0 sa _ L _ Ψ hT x hm_x ht_x 50 6) gw_1147 gw_1144 gw_1146 gs_21 gw_1 ⟨by decide, by decide, by decide +kernel⟩ rfl rfl ⟨by decide, by decide⟩ rfl hl.1 rfl (Nat.le_of_ble_eq_true rfl) dX6_fair_29 ⟨by decide, by decide⟩ (fun v u H locs hp w => ?_)
                                obtain ⟨r28, f2, rfl, rfl, hT2, hR1, hrr28⟩ := hp
                                have hR := hR.tr hR1
                                clear hT
                                have hT := hT2
                                clear hT2
                                generalize f2 = f at w hT hR
                                obtain rfl := hrr28
                                refine lv_iload_n hx hb dX6_fair_32 rfl (lv_at hl 3 rfl) ?_
                                refine lv_icmp_lt (tgt := 43) hx hb dX6_fair_33 (by decide) (fun c29 => ?_) (fun c29 => ?_)
                                · have c29 := lt_toInt c29
                                  refine lv_iinc (v := 60) (lv' := [(3, .int 60), (2, .int 6), (0, .ref x), (1, .int ma)]) hx hb dX6_fair_43 hl (k := 0) rfl (by decide) (by decide) rfl (fun ls hl => ?_)
                                  refine lv_goto (tgt := 20) hx hb dX6_fair_46 (by decide) ?_
                                  refine lv_iload_n hx hb dX6_fair_20 rfl (lv_at hl 0 rfl) ?_
                                  refine lv_bipush (v := 90) hx hb dX6_fair_21 (by decide) ?_
                                  refine lv_icmp_gt (tgt := 49) hx hb dX6_fair_23 (by decide) (fun c0 => absurd c0 (by decide)) (fun _ => ?_)
                                  refine lv_aload_n hx hb dX6_fair_26 rfl (lv_at hl 2 rfl) ?_
                                  refine lv_iload_n hx hb dX6_fair_27 rfl (lv_at hl 0 rfl) ?_
                                  refine lv_iload_n hx hb dX6_fair_28 rfl (lv_at hl 1 rfl) ?_
                                  refine t_callV (n := 2) C w hT hm_x ht_x (by decide) rfl rfl (c_X6_cellsPaying l D K b0 sa _ L _ Ψ hT x hm_x ht_x 60 6) gw_1147 gw_1144 gw_1146 gs_21 gw_1 ⟨by decide, by decide, by decide +kernel⟩ rfl rfl ⟨by decide, by decide⟩ rfl hl.1 rfl (Nat.le_of_ble_eq_true rfl) dX6_fair_29 ⟨by decide, by decide⟩ (fun v u H locs hp w => ?_)
                                  obtain ⟨r30, f2, rfl, rfl, hT2, hR1, hrr30⟩ := hp
                                  have hR := hR.tr hR1
                                  clear hT
                                  have hT := hT2
                                  clear hT2
                                  generalize f2 = f at w hT hR
                                  obtain rfl := hrr30
                                  refine lv_iload_n hx hb dX6_fair_32 rfl (lv_at hl 3 rfl) ?_
                                  refine lv_icmp_lt (tgt := 43) hx hb dX6_fair_33 (by decide) (fun c31 => ?_) (fun c31 => ?_)
                                  · have c31 := lt_toInt c31
                                    refine lv_iinc (v := 70) (lv' := [(3, .int 70), (2, .int 6), (0, .ref x), (1, .int ma)]) hx hb dX6_fair_43 hl (k := 0) rfl (by decide) (by decide) rfl (fun ls hl => ?_)
                                    refine lv_goto (tgt := 20) hx hb dX6_fair_46 (by decide) ?_
                                    refine lv_iload_n hx hb dX6_fair_20 rfl (lv_at hl 0 rfl) ?_
                                    refine lv_bipush (v := 90) hx hb dX6_fair_21 (by decide) ?_
                                    refine lv_icmp_gt (tgt := 49) hx hb dX6_fair_23 (by decide) (fun c0 => absurd c0 (by decide)) (fun _ => ?_)
                                    refine lv_aload_n hx hb dX6_fair_26 rfl (lv_at hl 2 rfl) ?_
                                    refine lv_iload_n hx hb dX6_fair_27 rfl (lv_at hl 0 rfl) ?_
                                    refine lv_iload_n hx hb dX6_fair_28 rfl (lv_at hl 1 rfl) ?_
                                    refine t_callV (n := 2) C w hT hm_x ht_x (by decide) rfl rfl (c_X6_cellsPaying l D K b0 sa _ L _ Ψ hT x hm_x ht_x 70 6) gw_1147 gw_1144 gw_1146 gs_21 gw_1 ⟨by decide, by decide, by decide +kernel⟩ rfl rfl ⟨by decide, by decide⟩ rfl hl.1 rfl (Nat.le_of_ble_eq_true rfl) dX6_fair_29 ⟨by decide, by decide⟩ (fun v u H locs hp w => ?_)
                                    obtain ⟨r32, f2, rfl, rfl, hT2, hR1, hrr32⟩ := hp
                                    have hR := hR.tr hR1
                                    clear hT
                                    have hT := hT2
                                    clear hT2
                                    generalize f2 = f at w hT hR
                                    obtain rfl := hrr32
                                    refine lv_iload_n hx hb dX6_fair_32 rfl (lv_at hl 3 rfl) ?_
                                    refine lv_icmp_lt (tgt := 43) hx hb dX6_fair_33 (by decide) (fun c33 => ?_) (fun c33 => ?_)
                                    · have c33 := lt_toInt c33
                                      refine lv_iinc (v := 80) (lv' := [(3, .int 80), (2, .int 6), (0, .ref x), (1, .int ma)]) hx hb dX6_fair_43 hl (k := 0) rfl (by decide) (by decide) rfl (fun ls hl => ?_)
                                      refine lv_goto (tgt := 20) hx hb dX6_fair_46 (by decide) ?_
                                      refine lv_iload_n hx hb dX6_fair_20 rfl (lv_at hl 0 rfl) ?_
                                      refine lv_bipush (v := 90) hx hb dX6_fair_21 (by decide) ?_
                                      refine lv_icmp_gt (tgt := 49) hx hb dX6_fair_23 (by decide) (fun c0 => absurd c0 (by decide)) (fun _ => ?_)
                                      refine lv_aload_n hx hb dX6_fair_26 rfl (lv_at hl 2 rfl) ?_
                                      refine lv_iload_n hx hb dX6_fair_27 rfl (lv_at hl 0 rfl) ?_
                                      refine lv_iload_n hx hb dX6_fair_28 rfl (lv_at hl 1 rfl) ?_
                                      refine t_callV (n := 2) C w hT hm_x ht_x (by decide) rfl rfl (c_X6_cellsPaying l D K b0 sa _ L _ Ψ hT x hm_x ht_x 80 6) gw_1147 gw_1144 gw_1146 gs_21 gw_1 ⟨by decide, by decide, by decide +kernel⟩ rfl rfl ⟨by decide, by decide⟩ rfl hl.1 rfl (Nat.le_of_ble_eq_true rfl) dX6_fair_29 ⟨by decide, by decide⟩ (fun v u H locs hp w => ?_)
                                      obtain ⟨r34, f2, rfl, rfl, hT2, hR1, hrr34⟩ := hp
                                      have hR := hR.tr hR1
                                      clear hT
                                      have hT := hT2
                                      clear hT2
                                      generalize f2 = f at w hT hR
                                      obtain rfl := hrr34
                                      refine lv_iload_n hx hb dX6_fair_32 rfl (lv_at hl 3 rfl) ?_
                                      refine lv_icmp_lt (tgt := 43) hx hb dX6_fair_33 (by decide) (fun c35 => ?_) (fun c35 => ?_)
                                      · have c35 := lt_toInt c35
                                        refine lv_iinc (v := 90) (lv' := [(3, .int 90), (2, .int 6), (0, .ref x), (1, .int ma)]) hx hb dX6_fair_43 hl (k := 0) rfl (by decide) (by decide) rfl (fun ls hl => ?_)
                                        refine lv_goto (tgt := 20) hx hb dX6_fair_46 (by decide) ?_
                                        refine lv_iload_n hx hb dX6_fair_20 rfl (lv_at hl 0 rfl) ?_
                                        refine lv_bipush (v := 90) hx hb dX6_fair_21 (by decide) ?_
                                        refine lv_icmp_gt (tgt := 49) hx hb dX6_fair_23 (by decide) (fun c0 => absurd c0 (by decide)) (fun _ => ?_)
                                        refine lv_aload_n hx hb dX6_fair_26 rfl (lv_at hl 2 rfl) ?_
                                        refine lv_iload_n hx hb dX6_fair_27 rfl (lv_at hl 0 rfl) ?_
                                        refine lv_iload_n hx hb dX6_fair_28 rfl (lv_at hl 1 rfl) ?_
                                        refine t_callV (n := 2) C w hT hm_x ht_x (by decide) rfl rfl (c_X6_cellsPaying l D K b0 sa _ L _ Ψ hT x hm_x ht_x 90 6) gw_1147 gw_1144 gw_1146 gs_21 gw_1 ⟨by decide, by decide, by decide +kernel⟩ rfl rfl ⟨by decide, by decide⟩ rfl hl.1 rfl (Nat.le_of_ble_eq_true rfl) dX6_fair_29 ⟨by decide, by decide⟩ (fun v u H locs hp w => ?_)
                                        obtain ⟨r36, f2, rfl, rfl, hT2, hR1, hrr36⟩ := hp
                                        have hR := hR.tr hR1
                                        clear hT
                                        have hT := hT2
                                        clear hT2
                                        generalize f2 = f at w hT hR
                                        obtain rfl := hrr36
                                        refine lv_iload_n hx hb dX6_fair_32 rfl (lv_at hl 3 rfl) ?_
                                        refine lv_icmp_lt (tgt := 43) hx hb dX6_fair_33 (by decide) (fun c37 => ?_) (fun c37 => ?_)
                                        · have c37 := lt_toInt c37
                                          refine lv_iinc (v := 100) (lv' := [(3, .int 100), (2, .int 6), (0, .ref x), (1, .int ma)]) hx hb dX6_fair_43 hl (k := 0) rfl (by decide) (by decide) rfl (fun ls hl => ?_)
                                          refine lv_goto (tgt := 20) hx hb dX6_fair_46 (by decide) ?_
                                          refine lv_iload_n hx hb dX6_fair_20 rfl (lv_at hl 0 rfl) ?_
                                          refine lv_bipush (v := 90) hx hb dX6_fair_21 (by decide) ?_
                                          refine lv_icmp_gt (tgt := 49) hx hb dX6_fair_23 (by decide) (fun _ => ?_) (fun c0 => absurd c0 (by decide))
                                          refine lv_iinc (v := 4) (lv' := [(2, .int 4), (3, .int 100), (0, .ref x), (1, .int ma)]) hx hb dX6_fair_49 hl (k := 1) rfl (by decide) (by decide) rfl (fun ls hl => ?_)
                                          refine lv_goto (tgt := 13) hx hb dX6_fair_52 (by decide) ?_
                                          refine lv_iload_n hx hb dX6_fair_13 rfl (lv_at hl 0 rfl) ?_
                                          refine lv_if_lt (tgt := 55) hx hb dX6_fair_14 (by decide) (fun c0 => absurd c0 (by decide)) (fun _ => ?_)
                                          refine lv_bipush (v := 10) hx hb dX6_fair_17 (by decide) ?_
                                          refine lv_istore_n (lv' := [(3, .int 10), (2, .int 4), (0, .ref x), (1, .int ma)]) hx hb dX6_fair_19 rfl hl (by decide) rfl (fun ls hl => ?_)
                                          refine lv_iload_n hx hb dX6_fair_20 rfl (lv_at hl 0 rfl) ?_
                                          refine lv_bipush (v := 90) hx hb dX6_fair_21 (by decide) ?_
                                          refine lv_icmp_gt (tgt := 49) hx hb dX6_fair_23 (by decide) (fun c0 => absurd c0 (by decide)) (fun _ => ?_)
                                          refine lv_aload_n hx hb dX6_fair_26 rfl (lv_at hl 2 rfl) ?_
                                          refine lv_iload_n hx hb dX6_fair_27 rfl (lv_at hl 0 rfl) ?_
                                          refine lv_iload_n hx hb dX6_fair_28 rfl (lv_at hl 1 rfl) ?_
                                          have n4 : (4 : Int32).toInt = 4 := by decide
                                          refine t_callV (n := 2) C w hT hm_x ht_x (by decide) rfl rfl (c_X6_cellsPaying l D K b0 sa _ L _ Ψ hT x hm_x ht_x 10 4) gw_1147 gw_1144 gw_1146 gs_21 gw_1 ⟨by decide, by decide, by decide +kernel⟩ rfl rfl ⟨by decide, by decide⟩ rfl hl.1 rfl (Nat.le_of_ble_eq_true rfl) dX6_fair_29 ⟨by decide, by decide⟩ (fun v u H locs hp w => ?_)
                                          obtain ⟨r38, f2, rfl, rfl, hT2, hR1, hrr38⟩ := hp
                                          have hR := hR.tr hR1
                                          clear hT
                                          have hT := hT2
                                          clear hT2
                                          generalize f2 = f at w hT hR
                                          obtain rfl := hrr38
                                          refine lv_iload_n hx hb dX6_fair_32 rfl (lv_at hl 3 rfl) ?_
                                          refine lv_icmp_lt (tgt := 43) hx hb dX6_fair_33 (by decide) (fun c39 => ?_) (fun c39 => ?_)
                                          · have c39 := lt_toInt c39
                                            refine lv_iinc (v := 20) (lv' := [(3, .int 20), (2, .int 4), (0, .ref x), (1, .int ma)]) hx hb dX6_fair_43 hl (k := 0) rfl (by decide) (by decide) rfl (fun ls hl => ?_)
                                            refine lv_goto (tgt := 20) hx hb dX6_fair_46 (by decide) ?_
                                            refine lv_iload_n hx hb dX6_fair_20 rfl (lv_at hl 0 rfl) ?_
                                            refine lv_bipush (v := 90) hx hb dX6_fair_21 (by decide) ?_
                                            refine lv_icmp_gt (tgt := 49) hx hb dX6_fair_23 (by decide) (fun c0 => absurd c0 (by decide)) (fun _ => ?_)
                                            refine lv_aload_n hx hb dX6_fair_26 rfl (lv_at hl 2 rfl) ?_
                                            refine lv_iload_n hx hb dX6_fair_27 rfl (lv_at hl 0 rfl) ?_
                                            refine lv_iload_n hx hb dX6_fair_28 rfl (lv_at hl 1 rfl) ?_
                                            refine t_callV (n := 2) C w hT hm_x ht_x (by decide) rfl rfl (c_X6_cellsPaying l D K b0 sa _ L _ Ψ hT x hm_x ht_x 20 4) gw_1147 gw_1144 gw_1146 gs_21 gw_1 ⟨by decide, by decide, by decide +kernel⟩ rfl rfl ⟨by decide, by decide⟩ rfl hl.1 rfl (Nat.le_of_ble_eq_true rfl) dX6_fair_29 ⟨by decide, by decide⟩ (fun v u H locs hp w => ?_)
                                            obtain ⟨r40, f2, rfl, rfl, hT2, hR1, hrr40⟩ := hp
                                            have hR := hR.tr hR1
                                            clear hT
                                            have hT := hT2
                                            clear hT2
                                            generalize f2 = f at w hT hR
                                            obtain rfl := hrr40
                                            refine lv_iload_n hx hb dX6_fair_32 rfl (lv_at hl 3 rfl) ?_
                                            refine lv_icmp_lt (tgt := 43) hx hb dX6_fair_33 (by decide) (fun c41 => ?_) (fun c41 => ?_)
                                            · have c41 := lt_toInt c41
                                              refine lv_iinc (v := 30) (lv' := [(3, .int 30), (2, .int 4), (0, .ref x), (1, .int ma)]) hx hb dX6_fair_43 hl (k := 0) rfl (by decide) (by decide) rfl (fun ls hl => ?_)
                                              refine lv_goto (tgt := 20) hx hb dX6_fair_46 (by decide) ?_
                                              refine lv_iload_n hx hb dX6_fair_20 rfl (lv_at hl 0 rfl) ?_
                                              refine lv_bipush (v := 90) hx hb dX6_fair_21 (by decide) ?_
                                              refine lv_icmp_gt (tgt := 49) hx hb dX6_fair_23 (by decide) (fun c0 => absurd c0 (by decide)) (fun _ => ?_)
                                              refine lv_aload_n hx hb dX6_fair_26 rfl (lv_at hl 2 rfl) ?_
                                              refine lv_iload_n hx hb dX6_fair_27 rfl (lv_at hl 0 rfl) ?_
                                              refine lv_iload_n hx hb dX6_fair_28 rfl (lv_at hl 1 rfl) ?_
                                              refine t_callV (n := 2) C w hT hm_x ht_x (by decide) rfl rfl (c_X6_cellsPaying l D K b0 sa _ L _ Ψ hT x hm_x ht_x 30 4) gw_1147 gw_1144 gw_1146 gs_21 gw_1 ⟨by decide, by decide, by decide +kernel⟩ rfl rfl ⟨by decide, by decide⟩ rfl hl.1 rfl (Nat.le_of_ble_eq_true rfl) dX6_fair_29 ⟨by decide, by decide⟩ (fun v u H locs hp w => ?_)
                                              obtain ⟨r42, f2, rfl, rfl, hT2, hR1, hrr42⟩ := hp
                                              have hR := hR.tr hR1
                                              clear hT
                                              have hT := hT2
                                              clear hT2
                                              generalize f2 = f at w hT hR
                                              obtain rfl := hrr42
                                              refine lv_iload_n hx hb dX6_fair_32 rfl (lv_at hl 3 rfl) ?_
                                              refine lv_icmp_lt (tgt := 43) hx hb dX6_fair_33 (by decide) (fun c43 => ?_) (fun c43 => ?_)
                                              · have c43 := lt_toInt c43
                                                refine lv_iinc (v := 40) (lv' := [(3, .int 40), (2, .int 4), (0, .ref x), (1, .int ma)]) hx hb dX6_fair_43 hl (k := 0) rfl (by decide) (by decide) rfl (fun ls hl => ?_)
                                                refine lv_goto (tgt := 20) hx hb dX6_fair_46 (by decide) ?_
                                                refine lv_iload_n hx hb dX6_fair_20 rfl (lv_at hl 0 rfl) ?_
                                                refine lv_bipush (v := 90) hx hb dX6_fair_21 (by decide) ?_
                                                refine lv_icmp_gt (tgt := 49) hx hb dX6_fair_23 (by decide) (fun c0 => absurd c0 (by decide)) (fun _ => ?_)
                                                refine lv_aload_n hx hb dX6_fair_26 rfl (lv_at hl 2 rfl) ?_
                                                refine lv_iload_n hx hb dX6_fair_27 rfl (lv_at hl 0 rfl) ?_
                                                refine lv_iload_n hx hb dX6_fair_28 rfl (lv_at hl 1 rfl) ?_
                                                refine t_callV (n := 2) C w hT hm_x ht_x (by decide) rfl rfl (c_X6_cellsPaying l D K b0 sa _ L _ Ψ hT x hm_x ht_x 40 4) gw_1147 gw_1144 gw_1146 gs_21 gw_1 ⟨by decide, by decide, by decide +kernel⟩ rfl rfl ⟨by decide, by decide⟩ rfl hl.1 rfl (Nat.le_of_ble_eq_true rfl) dX6_fair_29 ⟨by decide, by decide⟩ (fun v u H locs hp w => ?_)
                                                obtain ⟨r44, f2, rfl, rfl, hT2, hR1, hrr44⟩ := hp
                                                have hR := hR.tr hR1
                                                clear hT
                                                have hT := hT2
                                                clear hT2
                                                generalize f2 = f at w hT hR
                                                obtain rfl := hrr44
                                                refine lv_iload_n hx hb dX6_fair_32 rfl (lv_at hl 3 rfl) ?_
                                                refine lv_icmp_lt (tgt := 43) hx hb dX6_fair_33 (by decide) (fun c45 => ?_) (fun c45 => ?_)
                                                · have c45 := lt_toInt c45
                                                  refine lv_iinc (v := 50) (lv' := [(3, .int 50), (2, .int 4), (0, .ref x), (1, .int ma)]) hx hb dX6_fair_43 hl (k := 0) rfl (by decide) (by decide) rfl (fun ls hl => ?_)
                                                  refine lv_goto (tgt := 20) hx hb dX6_fair_46 (by decide) ?_
                                                  refine lv_iload_n hx hb dX6_fair_20 rfl (lv_at hl 0 rfl) ?_
                                                  refine lv_bipush (v := 90) hx hb dX6_fair_21 (by decide) ?_
                                                  refine lv_icmp_gt (tgt := 49) hx hb dX6_fair_23 (by decide) (fun c0 => absurd c0 (by decide)) (fun _ => ?_)
                                                  refine lv_aload_n hx hb dX6_fair_26 rfl (lv_at hl 2 rfl) ?_
                                                  refine lv_iload_n hx hb dX6_fair_27 rfl (lv_at hl 0 rfl) ?_
                                                  refine lv_iload_n hx hb dX6_fair_28 rfl (lv_at hl 1 rfl) ?_
                                                  refine t_callV (n := 2) C w hT hm_x ht_x (by decide) rfl rfl (c_X6_cellsPaying l D K b0 sa _ L _ Ψ hT x hm_x ht_x 50 4) gw_1147 gw_1144 gw_1146 gs_21 gw_1 ⟨by decide, by decide, by decide +kernel⟩ rfl rfl ⟨by decide, by decide⟩ rfl hl.1 rfl (Nat.le_of_ble_eq_true rfl) dX6_fair_29 ⟨by decide, by decide⟩ (fun v u H locs hp w => ?_)
                                                  obtain ⟨r46, f2, rfl, rfl, hT2, hR1, hrr46⟩ := hp
                                                  have hR := hR.tr hR1
                                                  clear hT
                                                  have hT := hT2
                                                  clear hT2
                                                  generalize f2 = f at w hT hR
                                                  obtain rfl := hrr46
                                                  refine lv_iload_n hx hb dX6_fair_32 rfl (lv_at hl 3 rfl) ?_
                                                  refine lv_icmp_lt (tgt := 43) hx hb dX6_fair_33 (by decide) (fun c47 => ?_) (fun c47 => ?_)
                                                  · have c47 := lt_toInt c47
                                                    refine lv_iinc (v := 60) (lv' := [(3, .int 60), (2, .int 4), (0, .ref x), (1, .int ma)]) hx hb dX6_fair_43 hl (k := 0) rfl (by decide) (by decide) rfl (fun ls hl => ?_)
                                                    refine lv_goto (tgt := 20) hx hb dX6_fair_46 (by decide) ?_
                                                    refine lv_iload_n hx hb dX6_fair_20 rfl (lv_at hl 0 rfl) ?_
                                                    refine lv_bipush (v := 90) hx hb dX6_fair_21 (by decide) ?_
                                                    refine lv_icmp_gt (tgt := 49) hx hb dX6_fair_23 (by decide) (fun c0 => absurd c0 (by decide)) (fun _ => ?_)
                                                    refine lv_aload_n hx hb dX6_fair_26 rfl (lv_at hl 2 rfl) ?_
                                                    refine lv_iload_n hx hb dX6_fair_27 rfl (lv_at hl 0 rfl) ?_
                                                    refine lv_iload_n hx hb dX6_fair_28 rfl (lv_at hl 1 rfl) ?_
                                                    refine t_callV (n := 2) C w hT hm_x ht_x (by decide) rfl rfl (c_X6_cellsPaying l D K b0 sa _ L _ Ψ hT x hm_x ht_x 60 4) gw_1147 gw_1144 gw_1146 gs_21 gw_1 ⟨by decide, by decide, by decide +kernel⟩ rfl rfl ⟨by decide, by decide⟩ rfl hl.1 rfl (Nat.le_of_ble_eq_true rfl) dX6_fair_29 ⟨by decide, by decide⟩ (fun v u H locs hp w => ?_)
                                                    obtain ⟨r48, f2, rfl, rfl, hT2, hR1, hrr48⟩ := hp
                                                    have hR := hR.tr hR1
                                                    clear hT
                                                    have hT := hT2
                                                    clear hT2
                                                    generalize f2 = f at w hT hR
                                                    obtain rfl := hrr48
                                                    refine lv_iload_n hx hb dX6_fair_32 rfl (lv_at hl 3 rfl) ?_
                                                    refine lv_icmp_lt (tgt := 43) hx hb dX6_fair_33 (by decide) (fun c49 => ?_) (fun c49 => ?_)
                                                    · have c49 := lt_toInt c49
                                                      refine lv_iinc (v := 70) (lv' := [(3, .int 70), (2, .int 4), (0, .ref x), (1, .int ma)]) hx hb dX6_fair_43 hl (k := 0) rfl (by decide) (by decide) rfl (fun ls hl => ?_)
                                                      refine lv_goto (tgt := 20) hx hb dX6_fair_46 (by decide) ?_
                                                      refine lv_iload_n hx hb dX6_fair_20 rfl (lv_at hl 0 rfl) ?_
                                                      refine lv_bipush (v := 90) hx hb dX6_fair_21 (by decide) ?_
                                                      refine lv_icmp_gt (tgt := 49) hx hb dX6_fair_23 (by decide) (fun c0 => absurd c0 (by decide)) (fun _ => ?_)
                                                      refine lv_aload_n hx hb dX6_fair_26 rfl (lv_at hl 2 rfl) ?_
                                                      refine lv_iload_n hx hb dX6_fair_27 rfl (lv_at hl 0 rfl) ?_
                                                      refine lv_iload_n hx hb dX6_fair_28 rfl (lv_at hl 1 rfl) ?_
                                                      refine t_callV (n := 2) C w hT hm_x ht_x (by decide) rfl rfl (c_X6_cellsPaying l D K b0 sa _ L _ Ψ hT x hm_x ht_x 70 4) gw_1147 gw_1144 gw_1146 gs_21 gw_1 ⟨by decide, by decide, by decide +kernel⟩ rfl rfl ⟨by decide, by decide⟩ rfl hl.1 rfl (Nat.le_of_ble_eq_true rfl) dX6_fair_29 ⟨by decide, by decide⟩ (fun v u H locs hp w => ?_)
                                                      obtain ⟨r50, f2, rfl, rfl, hT2, hR1, hrr50⟩ := hp
                                                      have hR := hR.tr hR1
                                                      clear hT
                                                      have hT := hT2
                                                      clear hT2
                                                      generalize f2 = f at w hT hR
                                                      obtain rfl := hrr50
                                                      refine lv_iload_n hx hb dX6_fair_32 rfl (lv_at hl 3 rfl) ?_
                                                      refine lv_icmp_lt (tgt := 43) hx hb dX6_fair_33 (by decide) (fun c51 => ?_) (fun c51 => ?_)
                                                      · have c51 := lt_toInt c51
                                                        refine lv_iinc (v := 80) (lv' := [(3, .int 80), (2, .int 4), (0, .ref x), (1, .int ma)]) hx hb dX6_fair_43 hl (k := 0) rfl (by decide) (by decide) rfl (fun ls hl => ?_)
                                                        refine lv_goto (tgt := 20) hx hb dX6_fair_46 (by decide) ?_
                                                        refine lv_iload_n hx hb dX6_fair_20 rfl (lv_at hl 0 rfl) ?_
                                                        refine lv_bipush (v := 90) hx hb dX6_fair_21 (by decide) ?_
                                                        refine lv_icmp_gt (tgt := 49) hx hb dX6_fair_23 (by decide) (fun c0 => absurd c0 (by decide)) (fun _ => ?_)
                                                        refine lv_aload_n hx hb dX6_fair_26 rfl (lv_at hl 2 rfl) ?_
                                                        refine lv_iload_n hx hb dX6_fair_27 rfl (lv_at hl 0 rfl) ?_
                                                        refine lv_iload_n hx hb dX6_fair_28 rfl (lv_at hl 1 rfl) ?_
                                                        refine t_callV (n := 2) C w hT hm_x ht_x (by decide) rfl rfl (c_X6_cellsPaying l D K b0 sa _ L _ Ψ hT x hm_x ht_x 80 4) gw_1147 gw_1144 gw_1146 gs_21 gw_1 ⟨by decide, by decide, by decide +kernel⟩ rfl rfl ⟨by decide, by decide⟩ rfl hl.1 rfl (Nat.le_of_ble_eq_true rfl) dX6_fair_29 ⟨by decide, by decide⟩ (fun v u H locs hp w => ?_)
                                                        obtain ⟨r52, f2, rfl, rfl, hT2, hR1, hrr52⟩ := hp
                                                        have hR := hR.tr hR1
                                                        clear hT
                                                        have hT := hT2
                                                        clear hT2
                                                        generalize f2 = f at w hT hR
                                                        obtain rfl := hrr52
                                                        refine lv_iload_n hx hb dX6_fair_32 rfl (lv_at hl 3 rfl) ?_
                                                        refine lv_icmp_lt (tgt := 43) hx hb dX6_fair_33 (by decide) (fun c53 => ?_) (fun c53 => ?_)
                                                        · have c53 := lt_toInt c53
                                                          refine lv_iinc (v := 90) (lv' := [(3, .int 90), (2, .int 4), (0, .ref x), (1, .int ma)]) hx hb dX6_fair_43 hl (k := 0) rfl (by decide) (by decide) rfl (fun ls hl => ?_)
                                                          refine lv_goto (tgt := 20) hx hb dX6_fair_46 (by decide) ?_
                                                          refine lv_iload_n hx hb dX6_fair_20 rfl (lv_at hl 0 rfl) ?_
                                                          refine lv_bipush (v := 90) hx hb dX6_fair_21 (by decide) ?_
                                                          refine lv_icmp_gt (tgt := 49) hx hb dX6_fair_23 (by decide) (fun c0 => absurd c0 (by decide)) (fun _ => ?_)
                                                          refine lv_aload_n hx hb dX6_fair_26 rfl (lv_at hl 2 rfl) ?_
                                                          refine lv_iload_n hx hb dX6_fair_27 rfl (lv_at hl 0 rfl) ?_
                                                          refine lv_iload_n hx hb dX6_fair_28 rfl (lv_at hl 1 rfl) ?_
                                                          refine t_callV (n := 2) C w hT hm_x ht_x (by decide) rfl rfl (c_X6_cellsPaying l D K b0 sa _ L _ Ψ hT x hm_x ht_x 90 4) gw_1147 gw_1144 gw_1146 gs_21 gw_1 ⟨by decide, by decide, by decide +kernel⟩ rfl rfl ⟨by decide, by decide⟩ rfl hl.1 rfl (Nat.le_of_ble_eq_true rfl) dX6_fair_29 ⟨by decide, by decide⟩ (fun v u H locs hp w => ?_)
                                                          obtain ⟨r54, f2, rfl, rfl, hT2, hR1, hrr54⟩ := hp
                                                          have hR := hR.tr hR1
                                                          clear hT
                                                          have hT := hT2
                                                          clear hT2
                                                          generalize f2 = f at w hT hR
                                                          obtain rfl := hrr54
                                                          refine lv_iload_n hx hb dX6_fair_32 rfl (lv_at hl 3 rfl) ?_
                                                          refine lv_icmp_lt (tgt := 43) hx hb dX6_fair_33 (by decide) (fun c55 => ?_) (fun c55 => ?_)
                                                          · have c55 := lt_toInt c55
                                                            refine lv_iinc (v := 100) (lv' := [(3, .int 100), (2, .int 4), (0, .ref x), (1, .int ma)]) hx hb dX6_fair_43 hl (k := 0) rfl (by decide) (by decide) rfl (fun ls hl => ?_)
                                                            refine lv_goto (tgt := 20) hx hb dX6_fair_46 (by decide) ?_
                                                            refine lv_iload_n hx hb dX6_fair_20 rfl (lv_at hl 0 rfl) ?_
                                                            refine lv_bipush (v := 90) hx hb dX6_fair_21 (by decide) ?_
                                                            refine lv_icmp_gt (tgt := 49) hx hb dX6_fair_23 (by decide) (fun _ => ?_) (fun c0 => absurd c0 (by decide))
                                                            refine lv_iinc (v := 2) (lv' := [(2, .int 2), (3, .int 100), (0, .ref x), (1, .int ma)]) hx hb dX6_fair_49 hl (k := 1) rfl (by decide) (by decide) rfl (fun ls hl => ?_)
                                                            refine lv_goto (tgt := 13) hx hb dX6_fair_52 (by decide) ?_
                                                            refine lv_iload_n hx hb dX6_fair_13 rfl (lv_at hl 0 rfl) ?_
                                                            refine lv_if_lt (tgt := 55) hx hb dX6_fair_14 (by decide) (fun c0 => absurd c0 (by decide)) (fun _ => ?_)
                                                            refine lv_bipush (v := 10) hx hb dX6_fair_17 (by decide) ?_
                                                            refine lv_istore_n (lv' := [(3, .int 10), (2, .int 2), (0, .ref x), (1, .int ma)]) hx hb dX6_fair_19 rfl hl (by decide) rfl (fun ls hl => ?_)
                                                            refine lv_iload_n hx hb dX6_fair_20 rfl (lv_at hl 0 rfl) ?_
                                                            refine lv_bipush (v := 90) hx hb dX6_fair_21 (by decide) ?_
                                                            refine lv_icmp_gt (tgt := 49) hx hb dX6_fair_23 (by decide) (fun c0 => absurd c0 (by decide)) (fun _ => ?_)
                                                            refine lv_aload_n hx hb dX6_fair_26 rfl (lv_at hl 2 rfl) ?_
                                                            refine lv_iload_n hx hb dX6_fair_27 rfl (lv_at hl 0 rfl) ?_
                                                            refine lv_iload_n hx hb dX6_fair_28 rfl (lv_at hl 1 rfl) ?_
                                                            have n2 : (2 : Int32).toInt = 2 := by decide
                                                            refine t_callV (n := 2) C w hT hm_x ht_x (by decide) rfl rfl (c_X6_cellsPaying l D K b0 sa _ L _ Ψ hT x hm_x ht_x 10 2) gw_1147 gw_1144 gw_1146 gs_21 gw_1 ⟨by decide, by decide, by decide +kernel⟩ rfl rfl ⟨by decide, by decide⟩ rfl hl.1 rfl (Nat.le_of_ble_eq_true rfl) dX6_fair_29 ⟨by decide, by decide⟩ (fun v u H locs hp w => ?_)
                                                            obtain ⟨r56, f2, rfl, rfl, hT2, hR1, hrr56⟩ := hp
                                                            have hR := hR.tr hR1
                                                            clear hT
                                                            have hT := hT2
                                                            clear hT2
                                                            generalize f2 = f at w hT hR
                                                            obtain rfl := hrr56
                                                            refine lv_iload_n hx hb dX6_fair_32 rfl (lv_at hl 3 rfl) ?_
                                                            refine lv_icmp_lt (tgt := 43) hx hb dX6_fair_33 (by decide) (fun c57 => ?_) (fun c57 => ?_)
                                                            · have c57 := lt_toInt c57
                                                              refine lv_iinc (v := 20) (lv' := [(3, .int 20), (2, .int 2), (0, .ref x), (1, .int ma)]) hx hb dX6_fair_43 hl (k := 0) rfl (by decide) (by decide) rfl (fun ls hl => ?_)
                                                              refine lv_goto (tgt := 20) hx hb dX6_fair_46 (by decide) ?_
                                                              refine lv_iload_n hx hb dX6_fair_20 rfl (lv_at hl 0 rfl) ?_
                                                              refine lv_bipush (v := 90) hx hb dX6_fair_21 (by decide) ?_
                                                              refine lv_icmp_gt (tgt := 49) hx hb dX6_fair_23 (by decide) (fun c0 => absurd c0 (by decide)) (fun _ => ?_)
                                                              refine lv_aload_n hx hb dX6_fair_26 rfl (lv_at hl 2 rfl) ?_
                                                              refine lv_iload_n hx hb dX6_fair_27 rfl (lv_at hl 0 rfl) ?_
                                                              refine lv_iload_n hx hb dX6_fair_28 rfl (lv_at hl 1 rfl) ?_
                                                              refine t_callV (n := 2) C w hT hm_x ht_x (by decide) rfl rfl (c_X6_cellsPaying l D K b0 sa _ L _ Ψ hT x hm_x ht_x 20 2) gw_1147 gw_1144 gw_1146 gs_21 gw_1 ⟨by decide, by decide, by decide +kernel⟩ rfl rfl ⟨by decide, by decide⟩ rfl hl.1 rfl (Nat.le_of_ble_eq_true rfl) dX6_fair_29 ⟨by decide, by decide⟩ (fun v u H locs hp w => ?_)
                                                              obtain ⟨r58, f2, rfl, rfl, hT2, hR1, hrr58⟩ := hp
                                                              have hR := hR.tr hR1
                                                              clear hT
                                                              have hT := hT2
                                                              clear hT2
                                                              generalize f2 = f at w hT hR
                                                              obtain rfl := hrr58
                                                              refine lv_iload_n hx hb dX6_fair_32 rfl (lv_at hl 3 rfl) ?_
                                                              refine lv_icmp_lt (tgt := 43) hx hb dX6_fair_33 (by decide) (fun c59 => ?_) (fun c59 => ?_)
                                                              · have c59 := lt_toInt c59
                                                                refine lv_iinc (v := 30) (lv' := [(3, .int 30), (2, .int 2), (0, .ref x), (1, .int ma)]) hx hb dX6_fair_43 hl (k := 0) rfl (by decide) (by decide) rfl (fun ls hl => ?_)
                                                                refine lv_goto (tgt := 20) hx hb dX6_fair_46 (by decide) ?_
                                                                refine lv_iload_n hx hb dX6_fair_20 rfl (lv_at hl 0 rfl) ?_
                                                                refine lv_bipush (v := 90) hx hb dX6_fair_21 (by decide) ?_
                                                                refine lv_icmp_gt (tgt := 49) hx hb dX6_fair_23 (by decide) (fun c0 => absurd c0 (by decide)) (fun _ => ?_)
                                                                refine lv_aload_n hx hb dX6_fair_26 rfl (lv_at hl 2 rfl) ?_
                                                                refine lv_iload_n hx hb dX6_fair_27 rfl (lv_at hl 0 rfl) ?_
                                                                refine lv_iload_n hx hb dX6_fair_28 rfl (lv_at hl 1 rfl) ?_
                                                                refine t_callV (n := 2) C w hT hm_x ht_x (by decide) rfl rfl (c_X6_cellsPaying l D K b0 sa _ L _ Ψ hT x hm_x ht_x 30 2) gw_1147 gw_1144 gw_1146 gs_21 gw_1 ⟨by decide, by decide, by decide +kernel⟩ rfl rfl ⟨by decide, by decide⟩ rfl hl.1 rfl (Nat.le_of_ble_eq_true rfl) dX6_fair_29 ⟨by decide, by decide⟩ (fun v u H locs hp w => ?_)
                                                                obtain ⟨r60, f2, rfl, rfl, hT2, hR1, hrr60⟩ := hp
                                                                have hR := hR.tr hR1
                                                                clear hT
                                                                have hT := hT2
                                                                clear hT2
                                                                generalize f2 = f at w hT hR
                                                                obtain rfl := hrr60
                                                                refine lv_iload_n hx hb dX6_fair_32 rfl (lv_at hl 3 rfl) ?_
                                                                refine lv_icmp_lt (tgt := 43) hx hb dX6_fair_33 (by decide) (fun c61 => ?_) (fun c61 => ?_)
                                                                · have c61 := lt_toInt c61
                                                                  refine lv_iinc (v := 40) (lv' := [(3, .int 40), (2, .int 2), (0, .ref x), (1, .int ma)]) hx hb dX6_fair_43 hl (k := 0) rfl (by decide) (by decide) rfl (fun ls hl => ?_)
                                                                  refine lv_goto (tgt := 20) hx hb dX6_fair_46 (by decide) ?_
                                                                  refine lv_iload_n hx hb dX6_fair_20 rfl (lv_at hl 0 rfl) ?_
                                                                  refine lv_bipush (v := 90) hx hb dX6_fair_21 (by decide) ?_
                                                                  refine lv_icmp_gt (tgt := 49) hx hb dX6_fair_23 (by decide) (fun c0 => absurd c0 (by decide)) (fun _ => ?_)
                                                                  refine lv_aload_n hx hb dX6_fair_26 rfl (lv_at hl 2 rfl) ?_
                                                                  refine lv_iload_n hx hb dX6_fair_27 rfl (lv_at hl 0 rfl) ?_
                                                                  refine lv_iload_n hx hb dX6_fair_28 rfl (lv_at hl 1 rfl) ?_
                                                                  refine t_callV (n := 2) C w hT hm_x ht_x (by decide) rfl rfl (c_X6_cellsPaying l D K b0 sa _ L _ Ψ hT x hm_x ht_x 40 2) gw_1147 gw_1144 gw_1146 gs_21 gw_1 ⟨by decide, by decide, by decide +kernel⟩ rfl rfl ⟨by decide, by decide⟩ rfl hl.1 rfl (Nat.le_of_ble_eq_true rfl) dX6_fair_29 ⟨by decide, by decide⟩ (fun v u H locs hp w => ?_)
                                                                  obtain ⟨r62, f2, rfl, rfl, hT2, hR1, hrr62⟩ := hp
                                                                  have hR := hR.tr hR1
                                                                  clear hT
                                                                  have hT := hT2
                                                                  clear hT2
                                                                  generalize f2 = f at w hT hR
                                                                  obtain rfl := hrr62
                                                                  refine lv_iload_n hx hb dX6_fair_32 rfl (lv_at hl 3 rfl) ?_
                                                                  refine lv_icmp_lt (tgt := 43) hx hb dX6_fair_33 (by decide) (fun c63 => ?_) (fun c63 => ?_)
                                                                  · have c63 := lt_toInt c63
                                                                    refine lv_iinc (v := 50) (lv' := [(3, .int 50), (2, .int 2), (0, .ref x), (1, .int ma)]) hx hb dX6_fair_43 hl (k := 0) rfl (by decide) (by decide) rfl (fun ls hl => ?_)
                                                                    refine lv_goto (tgt := 20) hx hb dX6_fair_46 (by decide) ?_
                                                                    refine lv_iload_n hx hb dX6_fair_20 rfl (lv_at hl 0 rfl) ?_
                                                                    refine lv_bipush (v := 90) hx hb dX6_fair_21 (by decide) ?_
                                                                    refine lv_icmp_gt (tgt := 49) hx hb dX6_fair_23 (by decide) (fun c0 => absurd c0 (by decide)) (fun _ => ?_)
                                                                    refine lv_aload_n hx hb dX6_fair_26 rfl (lv_at hl 2 rfl) ?_
                                                                    refine lv_iload_n hx hb dX6_fair_27 rfl (lv_at hl 0 rfl) ?_
                                                                    refine lv_iload_n hx hb dX6_fair_28 rfl (lv_at hl 1 rfl) ?_
                                                                    refine t_callV (n := 2) C w hT hm_x ht_x (by decide) rfl rfl (c_X6_cellsPaying l D K b0 sa _ L _ Ψ hT x hm_x ht_x 50 2) gw_1147 gw_1144 gw_1146 gs_21 gw_1 ⟨by decide, by decide, by decide +kernel⟩ rfl rfl ⟨by decide, by decide⟩ rfl hl.1 rfl (Nat.le_of_ble_eq_true rfl) dX6_fair_29 ⟨by decide, by decide⟩ (fun v u H locs hp w => ?_)
                                                                    obtain ⟨r64, f2, rfl, rfl, hT2, hR1, hrr64⟩ := hp
                                                                    have hR := hR.tr hR1
                                                                    clear hT
                                                                    have hT := hT2
                                                                    clear hT2
                                                                    generalize f2 = f at w hT hR
                                                                    obtain rfl := hrr64
                                                                    refine lv_iload_n hx hb dX6_fair_32 rfl (lv_at hl 3 rfl) ?_
                                                                    refine lv_icmp_lt (tgt := 43) hx hb dX6_fair_33 (by decide) (fun c65 => ?_) (fun c65 => ?_)
                                                                    · have c65 := lt_toInt c65
                                                                      refine lv_iinc (v := 60) (lv' := [(3, .int 60), (2, .int 2), (0, .ref x), (1, .int ma)]) hx hb dX6_fair_43 hl (k := 0) rfl (by decide) (by decide) rfl (fun ls hl => ?_)
                                                                      refine lv_goto (tgt := 20) hx hb dX6_fair_46 (by decide) ?_
                                                                      refine lv_iload_n hx hb dX6_fair_20 rfl (lv_at hl 0 rfl) ?_
                                                                      refine lv_bipush (v := 90) hx hb dX6_fair_21 (by decide) ?_
                                                                      refine lv_icmp_gt (tgt := 49) hx hb dX6_fair_23 (by decide) (fun c0 => absurd c0 (by decide)) (fun _ => ?_)
                                                                      refine lv_aload_n hx hb dX6_fair_26 rfl (lv_at hl 2 rfl) ?_
                                                                      refine lv_iload_n hx hb dX6_fair_27 rfl (lv_at hl 0 rfl) ?_
                                                                      refine lv_iload_n hx hb dX6_fair_28 rfl (lv_at hl 1 rfl) ?_
                                                                      refine t_callV (n := 2) C w hT hm_x ht_x (by decide) rfl rfl (c_X6_cellsPaying l D K b0 sa _ L _ Ψ hT x hm_x ht_x 60 2) gw_1147 gw_1144 gw_1146 gs_21 gw_1 ⟨by decide, by decide, by decide +kernel⟩ rfl rfl ⟨by decide, by decide⟩ rfl hl.1 rfl (Nat.le_of_ble_eq_true rfl) dX6_fair_29 ⟨by decide, by decide⟩ (fun v u H locs hp w => ?_)
                                                                      obtain ⟨r66, f2, rfl, rfl, hT2, hR1, hrr66⟩ := hp
                                                                      have hR := hR.tr hR1
                                                                      clear hT
                                                                      have hT := hT2
                                                                      clear hT2
                                                                      generalize f2 = f at w hT hR
                                                                      obtain rfl := hrr66
                                                                      refine lv_iload_n hx hb dX6_fair_32 rfl (lv_at hl 3 rfl) ?_
                                                                      refine lv_icmp_lt (tgt := 43) hx hb dX6_fair_33 (by decide) (fun c67 => ?_) (fun c67 => ?_)
                                                                      · have c67 := lt_toInt c67
                                                                        refine lv_iinc (v := 70) (lv' := [(3, .int 70), (2, .int 2), (0, .ref x), (1, .int ma)]) hx hb dX6_fair_43 hl (k := 0) rfl (by decide) (by decide) rfl (fun ls hl => ?_)
                                                                        refine lv_goto (tgt := 20) hx hb dX6_fair_46 (by decide) ?_
                                                                        refine lv_iload_n hx hb dX6_fair_20 rfl (lv_at hl 0 rfl) ?_
                                                                        refine lv_bipush (v := 90) hx hb dX6_fair_21 (by decide) ?_
                                                                        refine lv_icmp_gt (tgt := 49) hx hb dX6_fair_23 (by decide) (fun c0 => absurd c0 (by decide)) (fun _ => ?_)
                                                                        refine lv_aload_n hx hb dX6_fair_26 rfl (lv_at hl 2 rfl) ?_
                                                                        refine lv_iload_n hx hb dX6_fair_27 rfl (lv_at hl 0 rfl) ?_
                                                                        refine lv_iload_n hx hb dX6_fair_28 rfl (lv_at hl 1 rfl) ?_
                                                                        refine t_callV (n := 2) C w hT hm_x ht_x (by decide) rfl rfl (c_X6_cellsPaying l D K b0 sa _ L _ Ψ hT x hm_x ht_x 70 2) gw_1147 gw_1144 gw_1146 gs_21 gw_1 ⟨by decide, by decide, by decide +kernel⟩ rfl rfl ⟨by decide, by decide⟩ rfl hl.1 rfl (Nat.le_of_ble_eq_true rfl) dX6_fair_29 ⟨by decide, by decide⟩ (fun v u H locs hp w => ?_)
                                                                        obtain ⟨r68, f2, rfl, rfl, hT2, hR1, hrr68⟩ := hp
                                                                        have hR := hR.tr hR1
                                                                        clear hT
                                                                        have hT := hT2
                                                                        clear hT2
                                                                        generalize f2 = f at w hT hR
                                                                        obtain rfl := hrr68
                                                                        refine lv_iload_n hx hb dX6_fair_32 rfl (lv_at hl 3 rfl) ?_
                                                                        refine lv_icmp_lt (tgt := 43) hx hb dX6_fair_33 (by decide) (fun c69 => ?_) (fun c69 => ?_)
                                                                        · have c69 := lt_toInt c69
                                                                          refine lv_iinc (v := 80) (lv' := [(3, .int 80), (2, .int 2), (0, .ref x), (1, .int ma)]) hx hb dX6_fair_43 hl (k := 0) rfl (by decide) (by decide) rfl (fun ls hl => ?_)
                                                                          refine lv_goto (tgt := 20) hx hb dX6_fair_46 (by decide) ?_
                                                                          refine lv_iload_n hx hb dX6_fair_20 rfl (lv_at hl 0 rfl) ?_
                                                                          refine lv_bipush (v := 90) hx hb dX6_fair_21 (by decide) ?_
                                                                          refine lv_icmp_gt (tgt := 49) hx hb dX6_fair_23 (by decide) (fun c0 => absurd c0 (by decide)) (fun _ => ?_)
                                                                          refine lv_aload_n hx hb dX6_fair_26 rfl (lv_at hl 2 rfl) ?_
                                                                          refine lv_iload_n hx hb dX6_fair_27 rfl (lv_at hl 0 rfl) ?_
                                                                          refine lv_iload_n hx hb dX6_fair_28 rfl (lv_at hl 1 rfl) ?_
                                                                          refine t_callV (n := 2) C w hT hm_x ht_x (by decide) rfl rfl (c_X6_cellsPaying l D K b0 sa _ L _ Ψ hT x hm_x ht_x 80 2) gw_1147 gw_1144 gw_1146 gs_21 gw_1 ⟨by decide, by decide, by decide +kernel⟩ rfl rfl ⟨by decide, by decide⟩ rfl hl.1 rfl (Nat.le_of_ble_eq_true rfl) dX6_fair_29 ⟨by decide, by decide⟩ (fun v u H locs hp w => ?_)
                                                                          obtain ⟨r70, f2, rfl, rfl, hT2, hR1, hrr70⟩ := hp
                                                                          have hR := hR.tr hR1
                                                                          clear hT
                                                                          have hT := hT2
                                                                          clear hT2
                                                                          generalize f2 = f at w hT hR
                                                                          obtain rfl := hrr70
                                                                          refine lv_iload_n hx hb dX6_fair_32 rfl (lv_at hl 3 rfl) ?_
                                                                          refine lv_icmp_lt (tgt := 43) hx hb dX6_fair_33 (by decide) (fun c71 => ?_) (fun c71 => ?_)
                                                                          · have c71 := lt_toInt c71
                                                                            refine lv_iinc (v := 90) (lv' := [(3, .int 90), (2, .int 2), (0, .ref x), (1, .int ma)]) hx hb dX6_fair_43 hl (k := 0) rfl (by decide) (by decide) rfl (fun ls hl => ?_)
                                                                            refine lv_goto (tgt := 20) hx hb dX6_fair_46 (by decide) ?_
                                                                            refine lv_iload_n hx hb dX6_fair_20 rfl (lv_at hl 0 rfl) ?_
                                                                            refine lv_bipush (v := 90) hx hb dX6_fair_21 (by decide) ?_
                                                                            refine lv_icmp_gt (tgt := 49) hx hb dX6_fair_23 (by decide) (fun c0 => absurd c0 (by decide)) (fun _ => ?_)
                                                                            refine lv_aload_n hx hb dX6_fair_26 rfl (lv_at hl 2 rfl) ?_
                                                                            refine lv_iload_n hx hb dX6_fair_27 rfl (lv_at hl 0 rfl) ?_
                                                                            refine lv_iload_n hx hb dX6_fair_28 rfl (lv_at hl 1 rfl) ?_
                                                                            refine t_callV (n := 2) C w hT hm_x ht_x (by decide) rfl rfl (c_X6_cellsPaying l D K b0 sa _ L _ Ψ hT x hm_x ht_x 90 2) gw_1147 gw_1144 gw_1146 gs_21 gw_1 ⟨by decide, by decide, by decide +kernel⟩ rfl rfl ⟨by decide, by decide⟩ rfl hl.1 rfl (Nat.le_of_ble_eq_true rfl) dX6_fair_29 ⟨by decide, by decide⟩ (fun v u H locs hp w => ?_)
                                                                            obtain ⟨r72, f2, rfl, rfl, hT2, hR1, hrr72⟩ := hp
                                                                            have hR := hR.tr hR1
                                                                            clear hT
                                                                            have hT := hT2
                                                                            clear hT2
                                                                            generalize f2 = f at w hT hR
                                                                            obtain rfl := hrr72
                                                                            refine lv_iload_n hx hb dX6_fair_32 rfl (lv_at hl 3 rfl) ?_
                                                                            refine lv_icmp_lt (tgt := 43) hx hb dX6_fair_33 (by decide) (fun c73 => ?_) (fun c73 => ?_)
                                                                            · have c73 := lt_toInt c73
                                                                              refine lv_iinc (v := 100) (lv' := [(3, .int 100), (2, .int 2), (0, .ref x), (1, .int ma)]) hx hb dX6_fair_43 hl (k := 0) rfl (by decide) (by decide) rfl (fun ls hl => ?_)
                                                                              refine lv_goto (tgt := 20) hx hb dX6_fair_46 (by decide) ?_
                                                                              refine lv_iload_n hx hb dX6_fair_20 rfl (lv_at hl 0 rfl) ?_
                                                                              refine lv_bipush (v := 90) hx hb dX6_fair_21 (by decide) ?_
                                                                              refine lv_icmp_gt (tgt := 49) hx hb dX6_fair_23 (by decide) (fun _ => ?_) (fun c0 => absurd c0 (by decide))
                                                                              refine lv_iinc (v := 0) (lv' := [(2, .int 0), (3, .int 100), (0, .ref x), (1, .int ma)]) hx hb dX6_fair_49 hl (k := 1) rfl (by decide) (by decide) rfl (fun ls hl => ?_)
                                                                              refine lv_goto (tgt := 13) hx hb dX6_fair_52 (by decide) ?_
                                                                              refine lv_iload_n hx hb dX6_fair_13 rfl (lv_at hl 0 rfl) ?_
                                                                              refine lv_if_lt (tgt := 55) hx hb dX6_fair_14 (by decide) (fun c0 => absurd c0 (by decide)) (fun _ => ?_)
                                                                              refine lv_bipush (v := 10) hx hb dX6_fair_17 (by decide) ?_
                                                                              refine lv_istore_n (lv' := [(3, .int 10), (2, .int 0), (0, .ref x), (1, .int ma)]) hx hb dX6_fair_19 rfl hl (by decide) rfl (fun ls hl => ?_)
                                                                              refine lv_iload_n hx hb dX6_fair_20 rfl (lv_at hl 0 rfl) ?_
                                                                              refine lv_bipush (v := 90) hx hb dX6_fair_21 (by decide) ?_
                                                                              refine lv_icmp_gt (tgt := 49) hx hb dX6_fair_23 (by decide) (fun c0 => absurd c0 (by decide)) (fun _ => ?_)
                                                                              refine lv_aload_n hx hb dX6_fair_26 rfl (lv_at hl 2 rfl) ?_
                                                                              refine lv_iload_n hx hb dX6_fair_27 rfl (lv_at hl 0 rfl) ?_
                                                                              refine lv_iload_n hx hb dX6_fair_28 rfl (lv_at hl 1 rfl) ?_
                                                                              refine t_callV (n := 2) C w hT hm_x ht_x (by decide) rfl rfl (c_X6_cellsPaying l D K b0 sa _ L _ Ψ hT x hm_x ht_x 10 0) gw_1147 gw_1144 gw_1146 gs_21 gw_1 ⟨by decide, by decide, by decide +kernel⟩ rfl rfl ⟨by decide, by decide⟩ rfl hl.1 rfl (Nat.le_of_ble_eq_true rfl) dX6_fair_29 ⟨by decide, by decide⟩ (fun v u H locs hp w => ?_)
                                                                              obtain ⟨r74, f2, rfl, rfl, hT2, hR1, hrr74⟩ := hp
                                                                              have hR := hR.tr hR1
                                                                              clear hT
                                                                              have hT := hT2
                                                                              clear hT2
                                                                              generalize f2 = f at w hT hR
                                                                              obtain rfl := hrr74
                                                                              refine lv_iload_n hx hb dX6_fair_32 rfl (lv_at hl 3 rfl) ?_
                                                                              refine lv_icmp_lt (tgt := 43) hx hb dX6_fair_33 (by decide) (fun c75 => ?_) (fun c75 => ?_)
                                                                              · have c75 := lt_toInt c75
                                                                                refine lv_iinc (v := 20) (lv' := [(3, .int 20), (2, .int 0), (0, .ref x), (1, .int ma)]) hx hb dX6_fair_43 hl (k := 0) rfl (by decide) (by decide) rfl (fun ls hl => ?_)
                                                                                refine lv_goto (tgt := 20) hx hb dX6_fair_46 (by decide) ?_
                                                                                refine lv_iload_n hx hb dX6_fair_20 rfl (lv_at hl 0 rfl) ?_
                                                                                refine lv_bipush (v := 90) hx hb dX6_fair_21 (by decide) ?_
                                                                                refine lv_icmp_gt (tgt := 49) hx hb dX6_fair_23 (by decide) (fun c0 => absurd c0 (by decide)) (fun _ => ?_)
                                                                                refine lv_aload_n hx hb dX6_fair_26 rfl (lv_at hl 2 rfl) ?_
                                                                                refine lv_iload_n hx hb dX6_fair_27 rfl (lv_at hl 0 rfl) ?_
                                                                                refine lv_iload_n hx hb dX6_fair_28 rfl (lv_at hl 1 rfl) ?_
                                                                                refine t_callV (n := 2) C w hT hm_x ht_x (by decide) rfl rfl (c_X6_cellsPaying l D K b0 sa _ L _ Ψ hT x hm_x ht_x 20 0) gw_1147 gw_1144 gw_1146 gs_21 gw_1 ⟨by decide, by decide, by decide +kernel⟩ rfl rfl ⟨by decide, by decide⟩ rfl hl.1 rfl (Nat.le_of_ble_eq_true rfl) dX6_fair_29 ⟨by decide, by decide⟩ (fun v u H locs hp w => ?_)
                                                                                obtain ⟨r76, f2, rfl, rfl, hT2, hR1, hrr76⟩ := hp
                                                                                have hR := hR.tr hR1
                                                                                clear hT
                                                                                have hT := hT2
                                                                                clear hT2
                                                                                generalize f2 = f at w hT hR
                                                                                obtain rfl := hrr76
                                                                                refine lv_iload_n hx hb dX6_fair_32 rfl (lv_at hl 3 rfl) ?_
                                                                                refine lv_icmp_lt (tgt := 43) hx hb dX6_fair_33 (by decide) (fun c77 => ?_) (fun c77 => ?_)
                                                                                · have c77 := lt_toInt c77
                                                                                  refine lv_iinc (v := 30) (lv' := [(3, .int 30), (2, .int 0), (0, .ref x), (1, .int ma)]) hx hb dX6_fair_43 hl (k := 0) rfl (by decide) (by decide) rfl (fun ls hl => ?_)
                                                                                  refine lv_goto (tgt := 20) hx hb dX6_fair_46 (by decide) ?_
                                                                                  refine lv_iload_n hx hb dX6_fair_20 rfl (lv_at hl 0 rfl) ?_
                                                                                  refine lv_bipush (v := 90) hx hb dX6_fair_21 (by decide) ?_
                                                                                  refine lv_icmp_gt (tgt := 49) hx hb dX6_fair_23 (by decide) (fun c0 => absurd c0 (by decide)) (fun _ => ?_)
                                                                                  refine lv_aload_n hx hb dX6_fair_26 rfl (lv_at hl 2 rfl) ?_
                                                                                  refine lv_iload_n hx hb dX6_fair_27 rfl (lv_at hl 0 rfl) ?_
                                                                                  refine lv_iload_n hx hb dX6_fair_28 rfl (lv_at hl 1 rfl) ?_
                                                                                  refine t_callV (n := 2) C w hT hm_x ht_x (by decide) rfl rfl (c_X6_cellsPaying l D K b0 sa _ L _ Ψ hT x hm_x ht_x 30 0) gw_1147 gw_1144 gw_1146 gs_21 gw_1 ⟨by decide, by decide, by decide +kernel⟩ rfl rfl ⟨by decide, by decide⟩ rfl hl.1 rfl (Nat.le_of_ble_eq_true rfl) dX6_fair_29 ⟨by decide, by decide⟩ (fun v u H locs hp w => ?_)
                                                                                  obtain ⟨r78, f2, rfl, rfl, hT2, hR1, hrr78⟩ := hp
                                                                                  have hR := hR.tr hR1
                                                                                  clear hT
                                                                                  have hT := hT2
                                                                                  clear hT2
                                                                                  generalize f2 = f at w hT hR
                                                                                  obtain rfl := hrr78
                                                                                  refine lv_iload_n hx hb dX6_fair_32 rfl (lv_at hl 3 rfl) ?_
                                                                                  refine lv_icmp_lt (tgt := 43) hx hb dX6_fair_33 (by decide) (fun c79 => ?_) (fun c79 => ?_)
                                                                                  · have c79 := lt_toInt c79
                                                                                    refine lv_iinc (v := 40) (lv' := [(3, .int 40), (2, .int 0), (0, .ref x), (1, .int ma)]) hx hb dX6_fair_43 hl (k := 0) rfl (by decide) (by decide) rfl (fun ls hl => ?_)
                                                                                    refine lv_goto (tgt := 20) hx hb dX6_fair_46 (by decide) ?_
                                                                                    refine lv_iload_n hx hb dX6_fair_20 rfl (lv_at hl 0 rfl) ?_
                                                                                    refine lv_bipush (v := 90) hx hb dX6_fair_21 (by decide) ?_
                                                                                    refine lv_icmp_gt (tgt := 49) hx hb dX6_fair_23 (by decide) (fun c0 => absurd c0 (by decide)) (fun _ => ?_)
                                                                                    refine lv_aload_n hx hb dX6_fair_26 rfl (lv_at hl 2 rfl) ?_
                                                                                    refine lv_iload_n hx hb dX6_fair_27 rfl (lv_at hl 0 rfl) ?_
                                                                                    refine lv_iload_n hx hb dX6_fair_28 rfl (lv_at hl 1 rfl) ?_
                                                                                    refine t_callV (n := 2) C w hT hm_x ht_x (by decide) rfl rfl (c_X6_cellsPaying l D K b0 sa _ L _ Ψ hT x hm_x ht_x 40 0) gw_1147 gw_1144 gw_1146 gs_21 gw_1 ⟨by decide, by decide, by decide +kernel⟩ rfl rfl ⟨by decide, by decide⟩ rfl hl.1 rfl (Nat.le_of_ble_eq_true rfl) dX6_fair_29 ⟨by decide, by decide⟩ (fun v u H locs hp w => ?_)
                                                                                    obtain ⟨r80, f2, rfl, rfl, hT2, hR1, hrr80⟩ := hp
                                                                                    have hR := hR.tr hR1
                                                                                    clear hT
                                                                                    have hT := hT2
                                                                                    clear hT2
                                                                                    generalize f2 = f at w hT hR
                                                                                    obtain rfl := hrr80
                                                                                    refine lv_iload_n hx hb dX6_fair_32 rfl (lv_at hl 3 rfl) ?_
                                                                                    refine lv_icmp_lt (tgt := 43) hx hb dX6_fair_33 (by decide) (fun c81 => ?_) (fun c81 => ?_)
                                                                                    · have c81 := lt_toInt c81
                                                                                      refine lv_iinc (v := 50) (lv' := [(3, .int 50), (2, .int 0), (0, .ref x), (1, .int ma)]) hx hb dX6_fair_43 hl (k := 0) rfl (by decide) (by decide) rfl (fun ls hl => ?_)
                                                                                      refine lv_goto (tgt := 20) hx hb dX6_fair_46 (by decide) ?_
                                                                                      refine lv_iload_n hx hb dX6_fair_20 rfl (lv_at hl 0 rfl) ?_
                                                                                      refine lv_bipush (v := 90) hx hb dX6_fair_21 (by decide) ?_
                                                                                      refine lv_icmp_gt (tgt := 49) hx hb dX6_fair_23 (by decide) (fun c0 => absurd c0 (by decide)) (fun _ => ?_)
                                                                                      refine lv_aload_n hx hb dX6_fair_26 rfl (lv_at hl 2 rfl) ?_
                                                                                      refine lv_iload_n hx hb dX6_fair_27 rfl (lv_at hl 0 rfl) ?_
                                                                                      refine lv_iload_n hx hb dX6_fair_28 rfl (lv_at hl 1 rfl) ?_
                                                                                      refine t_callV (n := 2) C w hT hm_x ht_x (by decide) rfl rfl (c_X6_cellsPaying l D K b0 sa _ L _ Ψ hT x hm_x ht_x 50 0) gw_1147 gw_1144 gw_1146 gs_21 gw_1 ⟨by decide, by decide, by decide +kernel⟩ rfl rfl ⟨by decide, by decide⟩ rfl hl.1 rfl (Nat.le_of_ble_eq_true rfl) dX6_fair_29 ⟨by decide, by decide⟩ (fun v u H locs hp w => ?_)
                                                                                      obtain ⟨r82, f2, rfl, rfl, hT2, hR1, hrr82⟩ := hp
                                                                                      have hR := hR.tr hR1
                                                                                      clear hT
                                                                                      have hT := hT2
                                                                                      clear hT2
                                                                                      generalize f2 = f at w hT hR
                                                                                      obtain rfl := hrr82
                                                                                      refine lv_iload_n hx hb dX6_fair_32 rfl (lv_at hl 3 rfl) ?_
                                                                                      refine lv_icmp_lt (tgt := 43) hx hb dX6_fair_33 (by decide) (fun c83 => ?_) (fun c83 => ?_)
                                                                                      · have c83 := lt_toInt c83
                                                                                        refine lv_iinc (v := 60) (lv' := [(3, .int 60), (2, .int 0), (0, .ref x), (1, .int ma)]) hx hb dX6_fair_43 hl (k := 0) rfl (by decide) (by decide) rfl (fun ls hl => ?_)
                                                                                        refine lv_goto (tgt := 20) hx hb dX6_fair_46 (by decide) ?_
                                                                                        refine lv_iload_n hx hb dX6_fair_20 rfl (lv_at hl 0 rfl) ?_
                                                                                        refine lv_bipush (v := 90) hx hb dX6_fair_21 (by decide) ?_
                                                                                        refine lv_icmp_gt (tgt := 49) hx hb dX6_fair_23 (by decide) (fun c0 => absurd c0 (by decide)) (fun _ => ?_)
                                                                                        refine lv_aload_n hx hb dX6_fair_26 rfl (lv_at hl 2 rfl) ?_
                                                                                        refine lv_iload_n hx hb dX6_fair_27 rfl (lv_at hl 0 rfl) ?_
                                                                                        refine lv_iload_n hx hb dX6_fair_28 rfl (lv_at hl 1 rfl) ?_
                                                                                        refine t_callV (n := 2) C w hT hm_x ht_x (by decide) rfl rfl (c_X6_cellsPaying l D K b0 sa _ L _ Ψ hT x hm_x ht_x 60 0) gw_1147 gw_1144 gw_1146 gs_21 gw_1 ⟨by decide, by decide, by decide +kernel⟩ rfl rfl ⟨by decide, by decide⟩ rfl hl.1 rfl (Nat.le_of_ble_eq_true rfl) dX6_fair_29 ⟨by decide, by decide⟩ (fun v u H locs hp w => ?_)
                                                                                        obtain ⟨r84, f2, rfl, rfl, hT2, hR1, hrr84⟩ := hp
                                                                                        have hR := hR.tr hR1
                                                                                        clear hT
                                                                                        have hT := hT2
                                                                                        clear hT2
                                                                                        generalize f2 = f at w hT hR
                                                                                        obtain rfl := hrr84
                                                                                        refine lv_iload_n hx hb dX6_fair_32 rfl (lv_at hl 3 rfl) ?_
                                                                                        refine lv_icmp_lt (tgt := 43) hx hb dX6_fair_33 (by decide) (fun c85 => ?_) (fun c85 => ?_)
                                                                                        · have c85 := lt_toInt c85
                                                                                          refine lv_iinc (v := 70) (lv' := [(3, .int 70), (2, .int 0), (0, .ref x), (1, .int ma)]) hx hb dX6_fair_43 hl (k := 0) rfl (by decide) (by decide) rfl (fun ls hl => ?_)
                                                                                          refine lv_goto (tgt := 20) hx hb dX6_fair_46 (by decide) ?_
                                                                                          refine lv_iload_n hx hb dX6_fair_20 rfl (lv_at hl 0 rfl) ?_
                                                                                          refine lv_bipush (v := 90) hx hb dX6_fair_21 (by decide) ?_
                                                                                          refine lv_icmp_gt (tgt := 49) hx hb dX6_fair_23 (by decide) (fun c0 => absurd c0 (by decide)) (fun _ => ?_)
                                                                                          refine lv_aload_n hx hb dX6_fair_26 rfl (lv_at hl 2 rfl) ?_
                                                                                          refine lv_iload_n hx hb dX6_fair_27 rfl (lv_at hl 0 rfl) ?_
                                                                                          refine lv_iload_n hx hb dX6_fair_28 rfl (lv_at hl 1 rfl) ?_
                                                                                          refine t_callV (n := 2) C w hT hm_x ht_x (by decide) rfl rfl (c_X6_cellsPaying l D K b0 sa _ L _ Ψ hT x hm_x ht_x 70 0) gw_1147 gw_1144 gw_1146 gs_21 gw_1 ⟨by decide, by decide, by decide +kernel⟩ rfl rfl ⟨by decide, by decide⟩ rfl hl.1 rfl (Nat.le_of_ble_eq_true rfl) dX6_fair_29 ⟨by decide, by decide⟩ (fun v u H locs hp w => ?_)
                                                                                          obtain ⟨r86, f2, rfl, rfl, hT2, hR1, hrr86⟩ := hp
                                                                                          have hR := hR.tr hR1
                                                                                          clear hT
                                                                                          have hT := hT2
                                                                                          clear hT2
                                                                                          generalize f2 = f at w hT hR
                                                                                          obtain rfl := hrr86
                                                                                          refine lv_iload_n hx hb dX6_fair_32 rfl (lv_at hl 3 rfl) ?_
                                                                                          refine lv_icmp_lt (tgt := 43) hx hb dX6_fair_33 (by decide) (fun c87 => ?_) (fun c87 => ?_)
                                                                                          · have c87 := lt_toInt c87
                                                                                            refine lv_iinc (v := 80) (lv' := [(3, .int 80), (2, .int 0), (0, .ref x), (1, .int ma)]) hx hb dX6_fair_43 hl (k := 0) rfl (by decide) (by decide) rfl (fun ls hl => ?_)
                                                                                            refine lv_goto (tgt := 20) hx hb dX6_fair_46 (by decide) ?_
                                                                                            refine lv_iload_n hx hb dX6_fair_20 rfl (lv_at hl 0 rfl) ?_
                                                                                            refine lv_bipush (v := 90) hx hb dX6_fair_21 (by decide) ?_
                                                                                            refine lv_icmp_gt (tgt := 49) hx hb dX6_fair_23 (by decide) (fun c0 => absurd c0 (by decide)) (fun _ => ?_)
                                                                                            refine lv_aload_n hx hb dX6_fair_26 rfl (lv_at hl 2 rfl) ?_
                                                                                            refine lv_iload_n hx hb dX6_fair_27 rfl (lv_at hl 0 rfl) ?_
                                                                                            refine lv_iload_n hx hb dX6_fair_28 rfl (lv_at hl 1 rfl) ?_
                                                                                            refine t_callV (n := 2) C w hT hm_x ht_x (by decide) rfl rfl (c_X6_cellsPaying l D K b0 sa _ L _ Ψ hT x hm_x ht_x 80 0) gw_1147 gw_1144 gw_1146 gs_21 gw_1 ⟨by decide, by decide, by decide +kernel⟩ rfl rfl ⟨by decide, by decide⟩ rfl hl.1 rfl (Nat.le_of_ble_eq_true rfl) dX6_fair_29 ⟨by decide, by decide⟩ (fun v u H locs hp w => ?_)
                                                                                            obtain ⟨r88, f2, rfl, rfl, hT2, hR1, hrr88⟩ := hp
                                                                                            have hR := hR.tr hR1
                                                                                            clear hT
                                                                                            have hT := hT2
                                                                                            clear hT2
                                                                                            generalize f2 = f at w hT hR
                                                                                            obtain rfl := hrr88
                                                                                            refine lv_iload_n hx hb dX6_fair_32 rfl (lv_at hl 3 rfl) ?_
                                                                                            refine lv_icmp_lt (tgt := 43) hx hb dX6_fair_33 (by decide) (fun c89 => ?_) (fun c89 => ?_)
                                                                                            · have c89 := lt_toInt c89
                                                                                              refine lv_iinc (v := 90) (lv' := [(3, .int 90), (2, .int 0), (0, .ref x), (1, .int ma)]) hx hb dX6_fair_43 hl (k := 0) rfl (by decide) (by decide) rfl (fun ls hl => ?_)
                                                                                              refine lv_goto (tgt := 20) hx hb dX6_fair_46 (by decide) ?_
                                                                                              refine lv_iload_n hx hb dX6_fair_20 rfl (lv_at hl 0 rfl) ?_
                                                                                              refine lv_bipush (v := 90) hx hb dX6_fair_21 (by decide) ?_
                                                                                              refine lv_icmp_gt (tgt := 49) hx hb dX6_fair_23 (by decide) (fun c0 => absurd c0 (by decide)) (fun _ => ?_)
                                                                                              refine lv_aload_n hx hb dX6_fair_26 rfl (lv_at hl 2 rfl) ?_
                                                                                              refine lv_iload_n hx hb dX6_fair_27 rfl (lv_at hl 0 rfl) ?_
                                                                                              refine lv_iload_n hx hb dX6_fair_28 rfl (lv_at hl 1 rfl) ?_
                                                                                              refine t_callV (n := 2) C w hT hm_x ht_x (by decide) rfl rfl (c_X6_cellsPaying l D K b0 sa _ L _ Ψ hT x hm_x ht_x 90 0) gw_1147 gw_1144 gw_1146 gs_21 gw_1 ⟨by decide, by decide, by decide +kernel⟩ rfl rfl ⟨by decide, by decide⟩ rfl hl.1 rfl (Nat.le_of_ble_eq_true rfl) dX6_fair_29 ⟨by decide, by decide⟩ (fun v u H locs hp w => ?_)
                                                                                              obtain ⟨r90, f2, rfl, rfl, hT2, hR1, hrr90⟩ := hp
                                                                                              have hR := hR.tr hR1
                                                                                              clear hT
                                                                                              have hT := hT2
                                                                                              clear hT2
                                                                                              generalize f2 = f at w hT hR
                                                                                              obtain rfl := hrr90
                                                                                              refine lv_iload_n hx hb dX6_fair_32 rfl (lv_at hl 3 rfl) ?_
                                                                                              refine lv_icmp_lt (tgt := 43) hx hb dX6_fair_33 (by decide) (fun c91 => ?_) (fun c91 => ?_)
                                                                                              · have c91 := lt_toInt c91
                                                                                                refine lv_iinc (v := 100) (lv' := [(3, .int 100), (2, .int 0), (0, .ref x), (1, .int ma)]) hx hb dX6_fair_43 hl (k := 0) rfl (by decide) (by decide) rfl (fun ls hl => ?_)
                                                                                                refine lv_goto (tgt := 20) hx hb dX6_fair_46 (by decide) ?_
                                                                                                refine lv_iload_n hx hb dX6_fair_20 rfl (lv_at hl 0 rfl) ?_
                                                                                                refine lv_bipush (v := 90) hx hb dX6_fair_21 (by decide) ?_
                                                                                                refine lv_icmp_gt (tgt := 49) hx hb dX6_fair_23 (by decide) (fun _ => ?_) (fun c0 => absurd c0 (by decide))
                                                                                                refine lv_iinc (v := (-2)) (lv' := [(2, .int (-2)), (3, .int 100), (0, .ref x), (1, .int ma)]) hx hb dX6_fair_49 hl (k := 1) rfl (by decide) (by decide) rfl (fun ls hl => ?_)
                                                                                                refine lv_goto (tgt := 13) hx hb dX6_fair_52 (by decide) ?_
                                                                                                refine lv_iload_n hx hb dX6_fair_13 rfl (lv_at hl 0 rfl) ?_
                                                                                                refine lv_if_lt (tgt := 55) hx hb dX6_fair_14 (by decide) (fun _ => ?_) (fun c0 => absurd c0 (by decide))
                                                                                                refine lv_iconst (v := (-1)) hx hb dX6_fair_55 (by decide) ?_
                                                                                                have nm1 : ((-1) : Int32).toInt = -1 := by decide
                                                                                                refine vx_ret ?_
                                                                                                exact t_iret C hr hlk w ⟨_, _, rfl, rfl, hT, hR, Or.inr (⟨rfl, (by omega)⟩)⟩ (by decide) (by decide) dX6_fair_56
                                                                                              · exact absurd (nlt_toInt c91) (by omega)
                                                                                            · exact absurd (nlt_toInt c89) (by omega)
                                                                                          · exact absurd (nlt_toInt c87) (by omega)
                                                                                        · exact absurd (nlt_toInt c85) (by omega)
                                                                                      · exact absurd (nlt_toInt c83) (by omega)
                                                                                    · exact absurd (nlt_toInt c81) (by omega)
                                                                                  · exact absurd (nlt_toInt c79) (by omega)
                                                                                · exact absurd (nlt_toInt c77) (by omega)
                                                                              · exact absurd (nlt_toInt c75) (by omega)
                                                                            · exact absurd (nlt_toInt c73) (by omega)
                                                                          · exact absurd (nlt_toInt c71) (by omega)
                                                                        · exact absurd (nlt_toInt c69) (by omega)
                                                                      · exact absurd (nlt_toInt c67) (by omega)
                                                                    · exact absurd (nlt_toInt c65) (by omega)
                                                                  · exact absurd (nlt_toInt c63) (by omega)
                                                                · exact absurd (nlt_toInt c61) (by omega)
                                                              · exact absurd (nlt_toInt c59) (by omega)
                                                            · exact absurd (nlt_toInt c57) (by omega)
                                                          · exact absurd (nlt_toInt c55) (by omega)
                                                        · exact absurd (nlt_toInt c53) (by omega)
                                                      · exact absurd (nlt_toInt c51) (by omega)
                                                    · exact absurd (nlt_toInt c49) (by omega)
                                                  · exact absurd (nlt_toInt c47) (by omega)
                                                · exact absurd (nlt_toInt c45) (by omega)
                                              · exact absurd (nlt_toInt c43) (by omega)
                                            · exact absurd (nlt_toInt c41) (by omega)
                                          · exact absurd (nlt_toInt c39) (by omega)
                                        · exact absurd (nlt_toInt c37) (by omega)
                                      · exact absurd (nlt_toInt c35) (by omega)
                                    · exact absurd (nlt_toInt c33) (by omega)
                                  · exact absurd (nlt_toInt c31) (by omega)
                                · exact absurd (nlt_toInt c29) (by omega)
                              · exact absurd (nlt_toInt c27) (by omega)
                            · exact absurd (nlt_toInt c25) (by omega)
                          · exact absurd (nlt_toInt c23) (by omega)
                        · exact absurd (nlt_toInt c21) (by omega)
                      · exact absurd (nlt_toInt c19) (by omega)
                    · exact absurd (nlt_toInt c17) (by omega)
                  · exact absurd (nlt_toInt c15) (by omega)
                · exact absurd (nlt_toInt c13) (by omega)
              · exact absurd (nlt_toInt c11) (by omega)
            · exact absurd (nlt_toInt c9) (by omega)
          · exact absurd (nlt_toInt c7) (by omega)
        · exact absurd (nlt_toInt c5) (by omega)
      · have c3 := nlt_toInt c3
        refine lv_bipush (v := 100) hx hb dX6_fair_36 (by decide) ?_
        refine lv_iload_n hx hb dX6_fair_38 rfl (lv_at hl 0 rfl) ?_
        refine lv_imul hx hb dX6_fair_39 ?_
        refine lv_topi (fun y92 ey92 => ?_)
        obtain rfl : y92 = 1000 := ey92.trans (by decide)
        refine lv_iload_n hx hb dX6_fair_40 rfl (lv_at hl 1 rfl) ?_
        refine lv_iadd hx hb dX6_fair_41 ?_
        refine lv_topi (fun y93 ey93 => ?_)
        obtain rfl : y93 = 1008 := ey93.trans (by decide)
        have n1008 : (1008 : Int32).toInt = 1008 := by decide
        refine vx_ret ?_
        exact t_iret C hr hlk w ⟨_, _, rfl, rfl, hT, hR, Or.inl ⟨rfl, (by omega)⟩⟩ (by decide) (by decide) dX6_fair_42
  ·
    refine t_xcallS (n := 1) C w (c_X6_need l hls D K b0 sa _ L _ Ψ (gof gX1) hT 0) gw_625 gw_623 gw_624 gw_1 ⟨by decide, by decide, by decide +kernel⟩ rfl rfl ⟨by decide, by decide⟩ rfl hl.1 rfl (Nat.le_of_ble_eq_true rfl) dX6_fair_7 ⟨by decide, by decide⟩ (fun E ce q9 u H locs hp w hcell hv0 hcl => ?_) (fun v u H locs hp w => ?_)
    · obtain ⟨f2, rfl, hT2, hR1, hpx⟩ := hp
      have hR := hR.tr hR1
      obtain ⟨rfl, hx0⟩ := hpx
      exact t_xout w htb hlk hcell hv0 hcl ⟨_, rfl, hT2, hR, ⟨rfl, (by omega)⟩⟩ (by decide) (by decide)
    ·
      obtain ⟨rfl, rfl, hpv0⟩ := hp
      exfalso; omega
