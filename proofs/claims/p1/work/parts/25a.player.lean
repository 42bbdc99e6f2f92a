theorem dX6_player_0 : decode cX6_player 0 = .ok (.iload_n 1, 1) := by decide +kernel
theorem dX6_player_1 : decode cX6_player 1 = .ok (.invokestatic 85, 3) := by decide +kernel
theorem dX6_player_4 : decode cX6_player 4 = .ok (.iload_n 2, 1) := by decide +kernel
theorem dX6_player_5 : decode cX6_player 5 = .ok (.iconst 1, 1) := by decide +kernel
theorem dX6_player_6 : decode cX6_player 6 = .ok (.bipush 99, 2) := by decide +kernel
theorem dX6_player_8 : decode cX6_player 8 = .ok (.invokestatic 92, 3) := by decide +kernel
theorem dX6_player_11 : decode cX6_player 11 = .ok (.ifCond .eq 27, 3) := by decide +kernel
theorem dX6_player_14 : decode cX6_player 14 = .ok (.iload_n 3, 1) := by decide +kernel
theorem dX6_player_15 : decode cX6_player 15 = .ok (.iconst 0, 1) := by decide +kernel
theorem dX6_player_16 : decode cX6_player 16 = .ok (.bipush 99, 2) := by decide +kernel
theorem dX6_player_18 : decode cX6_player 18 = .ok (.invokestatic 92, 3) := by decide +kernel
theorem dX6_player_21 : decode cX6_player 21 = .ok (.ifCond .eq 17, 3) := by decide +kernel
theorem dX6_player_24 : decode cX6_player 24 = .ok (.iload 4, 2) := by decide +kernel
theorem dX6_player_26 : decode cX6_player 26 = .ok (.iconst 0, 1) := by decide +kernel
theorem dX6_player_27 : decode cX6_player 27 = .ok (.iconst 3, 1) := by decide +kernel
theorem dX6_player_28 : decode cX6_player 28 = .ok (.invokestatic 92, 3) := by decide +kernel
theorem dX6_player_31 : decode cX6_player 31 = .ok (.ifCond .eq 7, 3) := by decide +kernel
theorem dX6_player_34 : decode cX6_player 34 = .ok (.iconst 1, 1) := by decide +kernel
theorem dX6_player_35 : decode cX6_player 35 = .ok (.goto 4, 3) := by decide +kernel
theorem dX6_player_38 : decode cX6_player 38 = .ok (.iconst 0, 1) := by decide +kernel
theorem dX6_player_39 : decode cX6_player 39 = .ok (.invokestatic 96, 3) := by decide +kernel
theorem dX6_player_42 : decode cX6_player 42 = .ok (.aload_n 0, 1) := by decide +kernel
theorem dX6_player_43 : decode cX6_player 43 = .ok (.getfield 16, 3) := by decide +kernel
theorem dX6_player_46 : decode cX6_player 46 = .ok (.aload_n 0, 1) := by decide +kernel
theorem dX6_player_47 : decode cX6_player 47 = .ok (.getfield 10, 3) := by decide +kernel
theorem dX6_player_50 : decode cX6_player 50 = .ok (.invokevirtual 266, 3) := by decide +kernel
theorem dX6_player_53 : decode cX6_player 53 = .ok (.iload_n 2, 1) := by decide +kernel
theorem dX6_player_54 : decode cX6_player 54 = .ok (.istore 5, 2) := by decide +kernel
theorem dX6_player_56 : decode cX6_player 56 = .ok (.iconst 0, 1) := by decide +kernel
theorem dX6_player_57 : decode cX6_player 57 = .ok (.istore 6, 2) := by decide +kernel
theorem dX6_player_59 : decode cX6_player 59 = .ok (.iconst 0, 1) := by decide +kernel
theorem dX6_player_60 : decode cX6_player 60 = .ok (.istore 7, 2) := by decide +kernel
theorem dX6_player_62 : decode cX6_player 62 = .ok (.iconst 0, 1) := by decide +kernel
theorem dX6_player_63 : decode cX6_player 63 = .ok (.istore 8, 2) := by decide +kernel
theorem dX6_player_65 : decode cX6_player 65 = .ok (.iload 6, 2) := by decide +kernel
theorem dX6_player_67 : decode cX6_player 67 = .ok (.iload_n 3, 1) := by decide +kernel
theorem dX6_player_68 : decode cX6_player 68 = .ok (.if_icmp .ge 78, 3) := by decide +kernel
theorem dX6_player_71 : decode cX6_player 71 = .ok (.iload 5, 2) := by decide +kernel
theorem dX6_player_73 : decode cX6_player 73 = .ok (.ifCond .le 73, 3) := by decide +kernel
theorem dX6_player_76 : decode cX6_player 76 = .ok (.aload_n 0, 1) := by decide +kernel
theorem dX6_player_77 : decode cX6_player 77 = .ok (.iload_n 1, 1) := by decide +kernel
theorem dX6_player_78 : decode cX6_player 78 = .ok (.invokevirtual 269, 3) := by decide +kernel
theorem dX6_player_81 : decode cX6_player 81 = .ok (.istore 9, 2) := by decide +kernel
theorem dX6_player_83 : decode cX6_player 83 = .ok (.iinc 6 1, 3) := by decide +kernel
theorem dX6_player_86 : decode cX6_player 86 = .ok (.iload 7, 2) := by decide +kernel
theorem dX6_player_88 : decode cX6_player 88 = .ok (.iload 9, 2) := by decide +kernel
theorem dX6_player_90 : decode cX6_player 90 = .ok (.iconst 2, 1) := by decide +kernel
theorem dX6_player_91 : decode cX6_player 91 = .ok (.if_icmp .eq 9, 3) := by decide +kernel
theorem dX6_player_94 : decode cX6_player 94 = .ok (.iload 9, 2) := by decide +kernel
theorem dX6_player_96 : decode cX6_player 96 = .ok (.iconst 3, 1) := by decide +kernel
theorem dX6_player_97 : decode cX6_player 97 = .ok (.if_icmp .ne 7, 3) := by decide +kernel
theorem dX6_player_100 : decode cX6_player 100 = .ok (.iconst 1, 1) := by decide +kernel
theorem dX6_player_101 : decode cX6_player 101 = .ok (.goto 4, 3) := by decide +kernel
theorem dX6_player_104 : decode cX6_player 104 = .ok (.iconst 0, 1) := by decide +kernel
theorem dX6_player_105 : decode cX6_player 105 = .ok (.iadd, 1) := by decide +kernel
theorem dX6_player_106 : decode cX6_player 106 = .ok (.istore 7, 2) := by decide +kernel
theorem dX6_player_108 : decode cX6_player 108 = .ok (.iload 8, 2) := by decide +kernel
theorem dX6_player_110 : decode cX6_player 110 = .ok (.iload 9, 2) := by decide +kernel
theorem dX6_player_112 : decode cX6_player 112 = .ok (.iconst 5, 1) := by decide +kernel
theorem dX6_player_113 : decode cX6_player 113 = .ok (.if_icmp .ne 7, 3) := by decide +kernel
theorem dX6_player_116 : decode cX6_player 116 = .ok (.iconst 1, 1) := by decide +kernel
theorem dX6_player_117 : decode cX6_player 117 = .ok (.goto 4, 3) := by decide +kernel
theorem dX6_player_120 : decode cX6_player 120 = .ok (.iconst 0, 1) := by decide +kernel
theorem dX6_player_121 : decode cX6_player 121 = .ok (.iadd, 1) := by decide +kernel
theorem dX6_player_122 : decode cX6_player 122 = .ok (.istore 8, 2) := by decide +kernel
theorem dX6_player_124 : decode cX6_player 124 = .ok (.iconst 0, 1) := by decide +kernel
theorem dX6_player_125 : decode cX6_player 125 = .ok (.bipush 99, 2) := by decide +kernel
theorem dX6_player_127 : decode cX6_player 127 = .ok (.iload 5, 2) := by decide +kernel
theorem dX6_player_129 : decode cX6_player 129 = .ok (.iload 9, 2) := by decide +kernel
theorem dX6_player_131 : decode cX6_player 131 = .ok (.invokestatic 297, 3) := by decide +kernel
theorem dX6_player_134 : decode cX6_player 134 = .ok (.iadd, 1) := by decide +kernel
theorem dX6_player_135 : decode cX6_player 135 = .ok (.invokestatic 300, 3) := by decide +kernel
theorem dX6_player_138 : decode cX6_player 138 = .ok (.invokestatic 303, 3) := by decide +kernel
theorem dX6_player_141 : decode cX6_player 141 = .ok (.istore 5, 2) := by decide +kernel
theorem dX6_player_143 : decode cX6_player 143 = .ok (.goto (-78), 3) := by decide +kernel
theorem dX6_player_146 : decode cX6_player 146 = .ok (.iload 4, 2) := by decide +kernel
theorem dX6_player_148 : decode cX6_player 148 = .ok (.ifCond .ne 8, 3) := by decide +kernel
theorem dX6_player_151 : decode cX6_player 151 = .ok (.iload 6, 2) := by decide +kernel
theorem dX6_player_153 : decode cX6_player 153 = .ok (.goto 27, 3) := by decide +kernel
theorem dX6_player_156 : decode cX6_player 156 = .ok (.iload 4, 2) := by decide +kernel
theorem dX6_player_158 : decode cX6_player 158 = .ok (.iconst 1, 1) := by decide +kernel
theorem dX6_player_159 : decode cX6_player 159 = .ok (.if_icmp .ne 8, 3) := by decide +kernel
theorem dX6_player_162 : decode cX6_player 162 = .ok (.iload 7, 2) := by decide +kernel
theorem dX6_player_164 : decode cX6_player 164 = .ok (.goto 16, 3) := by decide +kernel
theorem dX6_player_167 : decode cX6_player 167 = .ok (.iload 4, 2) := by decide +kernel
theorem dX6_player_169 : decode cX6_player 169 = .ok (.iconst 2, 1) := by decide +kernel
theorem dX6_player_170 : decode cX6_player 170 = .ok (.if_icmp .ne 8, 3) := by decide +kernel
theorem dX6_player_173 : decode cX6_player 173 = .ok (.iload 5, 2) := by decide +kernel
theorem dX6_player_175 : decode cX6_player 175 = .ok (.goto 5, 3) := by decide +kernel
theorem dX6_player_178 : decode cX6_player 178 = .ok (.iload 8, 2) := by decide +kernel
theorem dX6_player_180 : decode cX6_player 180 = .ok (.ireturn, 1) := by decide +kernel
set_option maxHeartbeats 4000000 in
set_option maxRecDepth 100000 in
theorem c_X6_player (l : Launch) (hls : l.stackTraces = false) (D : va_G) (K : Nat → ClassId) (b0 : Nat) (sa : Nat × Nat × Nat) (sz : Nat) (L : List Nat) (f0 : Nat → va_E) (Ψ : Nat → Nat) (hT : TW K (gof gX1) Ψ L f0) (x : Nat) (hm_x : x ∈ L) (ht_x : Ψ x = 6) (ce : Int32) (be : Int32) (co : Int32) (wh : Int32) : vx_Met l yX6_player (.code yX6_player cX6_player 10 (some .int) :: gt) { frames := 7, cells := 2, slots := 12, locals := 111 } (va_Pc [.ref x, .int ce, .int be, .int co, .int wh] (hPre D K b0 sa sz L f0)) (hQ D K b0 (fun v9 u9 => ∃ (r : Int32) (f2 : Nat → va_E), v9 = some (.int r) ∧ u9 = ((gof gX1), Ψ, L, f2) ∧ TW K (gof gX1) Ψ L f2 ∧ rawk Ψ L f0 f2 ∧ (((0 ≤ ce.toInt ∧ ce.toInt ≤ 63) ∧ (1 ≤ be.toInt ∧ be.toInt ≤ 99) ∧ (0 ≤ co.toInt ∧ co.toInt ≤ 99) ∧ (0 ≤ wh.toInt ∧ wh.toInt ≤ 3)) ∧ (wh.toInt = 0 → (r.toInt ≤ co.toInt ∧ 0 ≤ r.toInt ∧ 2 * r.toInt ≤ be.toInt + 1 ∧ (r.toInt = co.toInt ∨ be.toInt ≤ 2 * r.toInt))) ∧ (wh.toInt = 1 → r.toInt = 0) ∧ (wh.toInt = 2 → 0 ≤ r.toInt ∧ ((r.toInt = be.toInt - 2 * co.toInt) ∨ (r.toInt = 0 ∧ be.toInt ≤ 2 * co.toInt))) ∧ (wh.toInt = 3 → r.toInt = 0)))) (hX D K b0 (fun E u9 => ∃ f2 : Nat → va_E, u9 = ((gof gX1), Ψ, L, f2) ∧ TW K (gof gX1) Ψ L f2 ∧ rawk Ψ L f0 f2 ∧ ((E = "java/lang/IndexOutOfBoundsException" ∧ (¬ (0 ≤ ce.toInt ∧ ce.toInt ≤ 63))) ∨ (E = "java/lang/IllegalArgumentException" ∧ (0 ≤ ce.toInt) ∧ (ce.toInt ≤ 63) ∧ (¬ ((0 ≤ ce.toInt ∧ ce.toInt ≤ 63) ∧ (1 ≤ be.toInt ∧ be.toInt ≤ 99) ∧ (0 ≤ co.toInt ∧ co.toInt ≤ 99) ∧ (0 ≤ wh.toInt ∧ wh.toInt ≤ 3))))))) 2 12 (fun q => b0 ≤ q) := by
  refine t_xof (own := RX6) (by decide) rfl ?_ (Nat.le_of_ble_eq_true rfl)
  intro p e s m below meth c ls C w hsz hr hlk htb hl
  have hx := C.1
  have hb := C.2.1
  have hl : lv_has ls 10 [(0, .ref x), (1, .int ce), (2, .int be), (3, .int co), (4, .int wh)] := hl
  have hb_ce := ti_bd ce
  have hb_be := ti_bd be
  have hb_co := ti_bd co
  have hb_wh := ti_bd wh
  have hR : rawk Ψ L f0 f0 := rawk.rf
  refine lv_iload_n hx hb dX6_player_0 rfl (lv_at hl 1 rfl) ?_
  refine t_xcallS (n := 1) C w (c_X6_needCell l hls D K b0 sa _ L _ Ψ (gof gX1) hT ce) gw_554 gw_552 gw_553 gw_1 ⟨by decide, by decide, by decide +kernel⟩ rfl rfl ⟨by decide, by decide⟩ rfl hl.1 rfl (Nat.le_of_ble_eq_true rfl) dX6_player_1 ⟨by decide, by decide⟩ (fun E ce q9 u H locs hp w hcell hv0 hcl => ?_) (fun v u H locs hp w => ?_)
  · obtain ⟨f2, rfl, hT2, hR1, hpx⟩ := hp
    have hR := hR.tr hR1
    obtain ⟨rfl, hx0⟩ := hpx
    exact t_xout w htb hlk hcell hv0 hcl ⟨_, rfl, hT2, hR, Or.inl ⟨rfl, (by omega)⟩⟩ (by decide) (by decide)
  ·
    obtain ⟨rfl, rfl, hpv0, hpv1⟩ := hp
    refine lv_iload_n hx hb dX6_player_4 rfl (lv_at hl 2 rfl) ?_
    refine lv_iconst (v := 1) hx hb dX6_player_5 (by decide) ?_
    refine lv_bipush (v := 99) hx hb dX6_player_6 (by decide) ?_
    have n1 : (1 : Int32).toInt = 1 := by decide
    have n99 : (99 : Int32).toInt = 99 := by decide
    refine t_callS (n := 3) C w (c_X6_within l D K b0 sa _ L _ Ψ (gof gX1) hT be 1 99) gw_376 gw_374 gw_375 gw_1 ⟨by decide, by decide, by decide +kernel⟩ rfl rfl ⟨by decide, by decide⟩ rfl hl.1 rfl (Nat.le_of_ble_eq_true rfl) dX6_player_8 ⟨by decide, by decide⟩ (fun v u H locs hp w => ?_)
    obtain ⟨r1, rfl, rfl, hrr1⟩ := hp
    rcases hrr1 with ⟨rfl, hf0_r1, hf1_r1⟩ | ⟨rfl, hf0_r1⟩
    ·
      refine lv_if_eq (tgt := 38) hx hb dX6_player_11 (by decide) (fun c0 => absurd c0 (by decide)) (fun _ => ?_)
      refine lv_iload_n hx hb dX6_player_14 rfl (lv_at hl 3 rfl) ?_
      refine lv_iconst (v := 0) hx hb dX6_player_15 (by decide) ?_
      refine lv_bipush (v := 99) hx hb dX6_player_16 (by decide) ?_
      have n0 : (0 : Int32).toInt = 0 := by decide
      refine t_callS (n := 3) C w (c_X6_within l D K b0 sa _ L _ Ψ (gof gX1) hT co 0 99) gw_376 gw_374 gw_375 gw_1 ⟨by decide, by decide, by decide +kernel⟩ rfl rfl ⟨by decide, by decide⟩ rfl hl.1 rfl (Nat.le_of_ble_eq_true rfl) dX6_player_18 ⟨by decide, by decide⟩ (fun v u H locs hp w => ?_)
      obtain ⟨r2, rfl, rfl, hrr2⟩ := hp
      rcases hrr2 with ⟨rfl, hf0_r2, hf1_r2⟩ | ⟨rfl, hf0_r2⟩
      ·
        refine lv_if_eq (tgt := 38) hx hb dX6_player_21 (by decide) (fun c0 => absurd c0 (by decide)) (fun _ => ?_)
        refine lv_iload hx hb dX6_player_24 (lv_at hl 4 rfl) ?_
        refine lv_iconst (v := 0) hx hb dX6_player_26 (by decide) ?_
        refine lv_iconst (v := 3) hx hb dX6_player_27 (by decide) ?_
        have n3 : (3 : Int32).toInt = 3 := by decide
        refine t_callS (n := 3) C w (c_X6_within l D K b0 sa _ L _ Ψ (gof gX1) hT wh 0 3) gw_376 gw_374 gw_375 gw_1 ⟨by decide, by decide, by decide +kernel⟩ rfl rfl ⟨by decide, by decide⟩ rfl hl.1 rfl (Nat.le_of_ble_eq_true rfl) dX6_player_28 ⟨by decide, by decide⟩ (fun v u H locs hp w => ?_)
        obtain ⟨r3, rfl, rfl, hrr3⟩ := hp
        rcases hrr3 with ⟨rfl, hf0_r3, hf1_r3⟩ | ⟨rfl, hf0_r3⟩
        ·
          refine lv_if_eq (tgt := 38) hx hb dX6_player_31 (by decide) (fun c0 => absurd c0 (by decide)) (fun _ => ?_)
          refine lv_iconst (v := 1) hx hb dX6_player_34 (by decide) ?_
          refine lv_goto (tgt := 39) hx hb dX6_player_35 (by decide) ?_
          refine t_xcallS (n := 1) C w (c_X6_need l hls D K b0 sa _ L _ Ψ (gof gX1) hT 1) gw_625 gw_623 gw_624 gw_1 ⟨by decide, by decide, by decide +kernel⟩ rfl rfl ⟨by decide, by decide⟩ rfl hl.1 rfl (Nat.le_of_ble_eq_true rfl) dX6_player_39 ⟨by decide, by decide⟩ (fun E ce q9 u H locs hp w hcell hv0 hcl => ?_) (fun v u H locs hp w => ?_)
          · obtain ⟨f2, rfl, hT2, hR1, hpx⟩ := hp
            have hR := hR.tr hR1
            obtain ⟨rfl, hx0⟩ := hpx
            exfalso; omega
          ·
            obtain ⟨rfl, rfl, hpv0⟩ := hp
            refine lv_aload_n hx hb dX6_player_42 rfl (lv_at hl 0 rfl) ?_
            refine t_getr C w hT hm_x ht_x (by decide) rfl cin_6 1 (by decide) rfl gw_288 dX6_player_43 (fun q4 hm_q4 ht_q4 => ?_)
            refine lv_aload_n hx hb dX6_player_46 rfl (lv_at hl 0 rfl) ?_
            refine t_getr C w hT hm_x ht_x (by decide) rfl cin_6 0 (by decide) rfl gw_287 dX6_player_47 (fun q5 hm_q5 ht_q5 => ?_)
            refine t_callV (n := 1) C w hT hm_q4 ht_q4 (by decide) rfl rfl (c_X0_copyFrom l D K b0 sa _ L _ Ψ hT q4 hm_q4 ht_q4 q5 hm_q5 ht_q5) gw_523 gw_520 gw_521 gw_522 gw_2 ⟨by decide, by decide, by decide +kernel⟩ rfl rfl ⟨by decide, by decide⟩ rfl hl.1 rfl (Nat.le_of_ble_eq_true rfl) dX6_player_50 ⟨by decide, by decide⟩ (fun v u H locs hp w => ?_)
            obtain ⟨f2, rfl, rfl, hT2, hR1⟩ := hp
            have hR := hR.tr hR1
            clear hT
            have hT := hT2
            clear hT2
            generalize f2 = f at w hT hR
            refine lv_iload_n hx hb dX6_player_53 rfl (lv_at hl 2 rfl) ?_
            refine lv_istore (lv' := [(5, .int be), (0, .ref x), (1, .int ce), (2, .int be), (3, .int co), (4, .int wh)]) hx hb dX6_player_54 hl (by decide) rfl (fun ls hl => ?_)
            refine lv_iconst (v := 0) hx hb dX6_player_56 (by decide) ?_
            refine lv_istore (lv' := [(6, .int 0), (5, .int be), (0, .ref x), (1, .int ce), (2, .int be), (3, .int co), (4, .int wh)]) hx hb dX6_player_57 hl (by decide) rfl (fun ls hl => ?_)
            refine lv_iconst (v := 0) hx hb dX6_player_59 (by decide) ?_
            refine lv_istore (lv' := [(7, .int 0), (6, .int 0), (5, .int be), (0, .ref x), (1, .int ce), (2, .int be), (3, .int co), (4, .int wh)]) hx hb dX6_player_60 hl (by decide) rfl (fun ls hl => ?_)
            refine lv_iconst (v := 0) hx hb dX6_player_62 (by decide) ?_
            refine lv_istore (lv' := [(8, .int 0), (7, .int 0), (6, .int 0), (5, .int be), (0, .ref x), (1, .int ce), (2, .int be), (3, .int co), (4, .int wh)]) hx hb dX6_player_63 hl (by decide) rfl (fun ls hl => ?_)
            have loop6 : ∀ (n i6 : Nat), 0 ≤ i6 → (i6 : Int) ≤ co.toInt → co.toInt - (i6 : Int) < (n : Int) → ∀ (z6_5 : Int32), (0 ≤ z6_5.toInt ∧ z6_5.toInt ≤ 99 ∧ 2 * (i6 : Int) ≤ be.toInt + 1 ∧ (z6_5.toInt = be.toInt - 2 * (i6 : Int) ∨ (z6_5.toInt = 0 ∧ be.toInt = 2 * (i6 : Int) - 1))) → ∀ (f : Nat → va_E) (H : Heap) (locs : List Loc), Wh D K b0 sa s H locs L f → TW K (gof gX1) Ψ L f → rawk Ψ L f0 f → ∀ ls : Array Slot, lv_has ls 10 [(8, .int 0), (7, .int 0), (6, .int (nI i6)), (5, .int z6_5), (0, .ref x), (1, .int ce), (2, .int be), (3, .int co), (4, .int wh)] → W p l e { frames := 7, cells := 2, slots := 12, locals := 111 } s m [.ref x, .int ce, .int be, .int co, .int wh].toArray below meth c H locs 2 12 (vx_MQ below (hQ D K b0 (fun v9 u9 => ∃ (r : Int32) (f2 : Nat → va_E), v9 = some (.int r) ∧ u9 = ((gof gX1), Ψ, L, f2) ∧ TW K (gof gX1) Ψ L f2 ∧ rawk Ψ L f0 f2 ∧ (((0 ≤ ce.toInt ∧ ce.toInt ≤ 63) ∧ (1 ≤ be.toInt ∧ be.toInt ≤ 99) ∧ (0 ≤ co.toInt ∧ co.toInt ≤ 99) ∧ (0 ≤ wh.toInt ∧ wh.toInt ≤ 3)) ∧ (wh.toInt = 0 → (r.toInt ≤ co.toInt ∧ 0 ≤ r.toInt ∧ 2 * r.toInt ≤ be.toInt + 1 ∧ (r.toInt = co.toInt ∨ be.toInt ≤ 2 * r.toInt))) ∧ (wh.toInt = 1 → r.toInt = 0) ∧ (wh.toInt = 2 → 0 ≤ r.toInt ∧ ((r.toInt = be.toInt - 2 * co.toInt) ∨ (r.toInt = 0 ∧ be.toInt ≤ 2 * co.toInt))) ∧ (wh.toInt = 3 → r.toInt = 0)))) (hX D K b0 (fun E u9 => ∃ f2 : Nat → va_E, u9 = ((gof gX1), Ψ, L, f2) ∧ TW K (gof gX1) Ψ L f2 ∧ rawk Ψ L f0 f2 ∧ ((E = "java/lang/IndexOutOfBoundsException" ∧ (¬ (0 ≤ ce.toInt ∧ ce.toInt ≤ 63))) ∨ (E = "java/lang/IllegalArgumentException" ∧ (0 ≤ ce.toInt) ∧ (ce.toInt ≤ 63) ∧ (¬ ((0 ≤ ce.toInt ∧ ce.toInt ≤ 63) ∧ (1 ≤ be.toInt ∧ be.toInt ≤ 99) ∧ (0 ≤ co.toInt ∧ co.toInt ≤ 99) ∧ (0 ≤ wh.toInt ∧ wh.toInt ≤ 3))))))) [.ref x, .int ce, .int be, .int co, .int wh].toArray s 2 12 (fun q => b0 ≤ q)) (F0 m 65 ls []) := by
              intro n
              induction n with
              | zero => intro i6 h0 h1 h2; exact absurd h2 (by omega)
              | succ n ih6 =>
                intro i6 hj6 hi6 hn6 z6_5 hv6 f H locs w hT hR ls hl
                have ti6 : (nI i6).toInt = (i6 : Int) := nI_toInt (by omega)
                have hbz6_5 := ti_bd z6_5
                refine lv_iload hx hb dX6_player_65 (lv_at hl 2 rfl) ?_
                refine lv_iload_n hx hb dX6_player_67 rfl (lv_at hl 7 rfl) ?_
                refine lv_icmp_ge (tgt := 146) hx hb dX6_player_68 (by decide) (fun c7 => ?_) (fun c7 => ?_)
                · have c7 := le_toInt c7
                  refine lv_iload hx hb dX6_player_146 (lv_at hl 8 rfl) ?_
                  have n0 : (0 : Int32).toInt = 0 := by decide
                  refine lv_if_ne (tgt := 156) hx hb dX6_player_148 (by decide) (fun c8 => ?_) (fun c8 => ?_)
                  · have c8 := ne_toInt c8
                    refine lv_iload hx hb dX6_player_156 (lv_at hl 8 rfl) ?_
                    refine lv_iconst (v := 1) hx hb dX6_player_158 (by decide) ?_
                    have n1 : (1 : Int32).toInt = 1 := by decide
                    refine lv_icmp_ne (tgt := 167) hx hb dX6_player_159 (by decide) (fun c9 => ?_) (fun c9 => ?_)
                    · have c9 := ne_toInt c9
                      refine lv_iload hx hb dX6_player_167 (lv_at hl 8 rfl) ?_
                      refine lv_iconst (v := 2) hx hb dX6_player_169 (by decide) ?_
                      have n2 : (2 : Int32).toInt = 2 := by decide
                      refine lv_icmp_ne (tgt := 178) hx hb dX6_player_170 (by decide) (fun c10 => ?_) (fun c10 => ?_)
                      · have c10 := ne_toInt c10
                        refine lv_iload hx hb dX6_player_178 (lv_at hl 0 rfl) ?_
                        refine vx_ret ?_
                        exact t_iret C hr hlk w ⟨_, _, rfl, rfl, hT, hR, ⟨(by omega), (by omega), (by omega), (by omega), (by omega)⟩⟩ (by decide) (by decide) dX6_player_180
                      · have c10 := eq_toInt c10
                        refine lv_iload hx hb dX6_player_173 (lv_at hl 3 rfl) ?_
                        refine lv_goto (tgt := 180) hx hb dX6_player_175 (by decide) ?_
                        refine vx_ret ?_
                        exact t_iret C hr hlk w ⟨_, _, rfl, rfl, hT, hR, ⟨(by omega), (by omega), (by omega), (by omega), (by omega)⟩⟩ (by decide) (by decide) dX6_player_180
                    · have c9 := eq_toInt c9
                      refine lv_iload hx hb dX6_player_162 (lv_at hl 1 rfl) ?_
                      refine lv_goto (tgt := 180) hx hb dX6_player_164 (by decide) ?_
                      refine vx_ret ?_
                      exact t_iret C hr hlk w ⟨_, _, rfl, rfl, hT, hR, ⟨(by omega), (by omega), (by omega), (by omega), (by omega)⟩⟩ (by decide) (by decide) dX6_player_180
                  · have c8 := eq_toInt c8
                    refine lv_iload hx hb dX6_player_151 (lv_at hl 2 rfl) ?_
                    refine lv_goto (tgt := 180) hx hb dX6_player_153 (by decide) ?_
                    refine vx_ret ?_
                    exact t_iret C hr hlk w ⟨_, _, rfl, rfl, hT, hR, ⟨(by omega), (by omega), (by omega), (by omega), (by omega)⟩⟩ (by decide) (by decide) dX6_player_180
                · have c7 := nle_toInt c7
                  refine lv_iload hx hb dX6_player_71 (lv_at hl 3 rfl) ?_
                  have n0 : (0 : Int32).toInt = 0 := by decide
                  refine lv_if_le (tgt := 146) hx hb dX6_player_73 (by decide) (fun c11 => ?_) (fun c11 => ?_)
                  · have c11 := le_toInt c11
                    refine lv_iload hx hb dX6_player_146 (lv_at hl 8 rfl) ?_
                    refine lv_if_ne (tgt := 156) hx hb dX6_player_148 (by decide) (fun c12 => ?_) (fun c12 => ?_)
                    · have c12 := ne_toInt c12
                      refine lv_iload hx hb dX6_player_156 (lv_at hl 8 rfl) ?_
                      refine lv_iconst (v := 1) hx hb dX6_player_158 (by decide) ?_
                      have n1 : (1 : Int32).toInt = 1 := by decide
                      refine lv_icmp_ne (tgt := 167) hx hb dX6_player_159 (by decide) (fun c13 => ?_) (fun c13 => ?_)
                      · have c13 := ne_toInt c13
                        refine lv_iload hx hb dX6_player_167 (lv_at hl 8 rfl) ?_
                        refine lv_iconst (v := 2) hx hb dX6_player_169 (by decide) ?_
                        have n2 : (2 : Int32).toInt = 2 := by decide
                        refine lv_icmp_ne (tgt := 178) hx hb dX6_player_170 (by decide) (fun c14 => ?_) (fun c14 => ?_)
                        · have c14 := ne_toInt c14
                          refine lv_iload hx hb dX6_player_178 (lv_at hl 0 rfl) ?_
                          refine vx_ret ?_
                          exact t_iret C hr hlk w ⟨_, _, rfl, rfl, hT, hR, ⟨(by omega), (by omega), (by omega), (by omega), (by omega)⟩⟩ (by decide) (by decide) dX6_player_180
                        · have c14 := eq_toInt c14
                          refine lv_iload hx hb dX6_player_173 (lv_at hl 3 rfl) ?_
                          refine lv_goto (tgt := 180) hx hb dX6_player_175 (by decide) ?_
                          refine vx_ret ?_
                          exact t_iret C hr hlk w ⟨_, _, rfl, rfl, hT, hR, ⟨(by omega), (by omega), (by omega), (by omega), (by omega)⟩⟩ (by decide) (by decide) dX6_player_180
                      · have c13 := eq_toInt c13
                        refine lv_iload hx hb dX6_player_162 (lv_at hl 1 rfl) ?_
                        refine lv_goto (tgt := 180) hx hb dX6_player_164 (by decide) ?_
                        refine vx_ret ?_
                        exact t_iret C hr hlk w ⟨_, _, rfl, rfl, hT, hR, ⟨(by omega), (by omega), (by omega), (by omega), (by omega)⟩⟩ (by decide) (by decide) dX6_player_180
                    · have c12 := eq_toInt c12
                      refine lv_iload hx hb dX6_player_151 (lv_at hl 2 rfl) ?_
                      refine lv_goto (tgt := 180) hx hb dX6_player_153 (by decide) ?_
                      refine vx_ret ?_
                      exact t_iret C hr hlk w ⟨_, _, rfl, rfl, hT, hR, ⟨(by omega), (by omega), (by omega), (by omega), (by omega)⟩⟩ (by decide) (by decide) dX6_player_180
                  · have c11 := nle_toInt c11
                    refine lv_aload_n hx hb dX6_player_76 rfl (lv_at hl 4 rfl) ?_
                    refine lv_iload_n hx hb dX6_player_77 rfl (lv_at hl 5 rfl) ?_
                    refine t_callV (n := 1) C w hT hm_x ht_x (by decide) rfl rfl (c_X6_tryOnCopy l D K b0 sa _ L _ Ψ hT x hm_x ht_x ce) gw_1066 gw_1063 gw_1065 gs_18 gw_1 ⟨by decide, by decide, by decide +kernel⟩ rfl rfl ⟨by decide, by decide⟩ rfl hl.1 rfl (Nat.le_of_ble_eq_true rfl) dX6_player_78 ⟨by decide, by decide⟩ (fun v u H locs hp w => ?_)
                    obtain ⟨r15, f2, rfl, rfl, hT2, hR1, hrr15⟩ := hp
                    have hR := hR.tr hR1
                    clear hT
                    have hT := hT2
                    clear hT2
                    generalize f2 = f at w hT hR
                    obtain rfl := hrr15
                    refine lv_istore (lv' := [(9, .int 0), (8, .int 0), (7, .int 0), (6, .int (nI i6)), (5, .int z6_5), (0, .ref x), (1, .int ce), (2, .int be), (3, .int co), (4, .int wh)]) hx hb dX6_player_81 hl (by decide) rfl (fun ls hl => ?_)
                    refine lv_iinc (v := (nI (i6 + 1))) (lv' := [(6, .int (nI (i6 + 1))), (9, .int 0), (8, .int 0), (7, .int 0), (5, .int z6_5), (0, .ref x), (1, .int ce), (2, .int be), (3, .int co), (4, .int wh)]) hx hb dX6_player_83 hl (k := 3) rfl (by exact nI_1 i6) (by decide) rfl (fun ls hl => ?_)
                    refine lv_iload hx hb dX6_player_86 (lv_at hl 3 rfl) ?_
                    refine lv_iload hx hb dX6_player_88 (lv_at hl 1 rfl) ?_
                    refine lv_iconst (v := 2) hx hb dX6_player_90 (by decide) ?_
                    refine lv_icmp_eq (tgt := 100) hx hb dX6_player_91 (by decide) (fun c0 => absurd c0 (by decide)) (fun _ => ?_)
                    refine lv_iload hx hb dX6_player_94 (lv_at hl 1 rfl) ?_
                    refine lv_iconst (v := 3) hx hb dX6_player_96 (by decide) ?_
                    refine lv_icmp_ne (tgt := 104) hx hb dX6_player_97 (by decide) (fun _ => ?_) (fun c0 => absurd c0 (by decide))
                    refine lv_iconst (v := 0) hx hb dX6_player_104 (by decide) ?_
                    refine lv_iadd hx hb dX6_player_105 ?_
                    refine lv_topi (fun y16 ey16 => ?_)
                    obtain rfl : y16 = 0 := ey16.trans (by decide)
                    refine lv_istore (lv' := [(7, .int 0), (6, .int (nI (i6 + 1))), (9, .int 0), (8, .int 0), (5, .int z6_5), (0, .ref x), (1, .int ce), (2, .int be), (3, .int co), (4, .int wh)]) hx hb dX6_player_106 hl (by decide) rfl (fun ls hl => ?_)
                    refine lv_iload hx hb dX6_player_108 (lv_at hl 3 rfl) ?_
                    refine lv_iload hx hb dX6_player_110 (lv_at hl 2 rfl) ?_
                    refine lv_iconst (v := 5) hx hb dX6_player_112 (by decide) ?_
                    refine lv_icmp_ne (tgt := 120) hx hb dX6_player_113 (by decide) (fun _ => ?_) (fun c0 => absurd c0 (by decide))
                    refine lv_iconst (v := 0) hx hb dX6_player_120 (by decide) ?_
                    refine lv_iadd hx hb dX6_player_121 ?_
                    refine lv_topi (fun y17 ey17 => ?_)
                    obtain rfl : y17 = 0 := ey17.trans (by decide)
                    refine lv_istore (lv' := [(8, .int 0), (7, .int 0), (6, .int (nI (i6 + 1))), (9, .int 0), (5, .int z6_5), (0, .ref x), (1, .int ce), (2, .int be), (3, .int co), (4, .int wh)]) hx hb dX6_player_122 hl (by decide) rfl (fun ls hl => ?_)
                    refine lv_iconst (v := 0) hx hb dX6_player_124 (by decide) ?_
                    refine lv_bipush (v := 99) hx hb dX6_player_125 (by decide) ?_
                    refine lv_iload hx hb dX6_player_127 (lv_at hl 4 rfl) ?_
                    refine lv_iload hx hb dX6_player_129 (lv_at hl 3 rfl) ?_
                    refine t_callS (n := 1) C w (c_X6_faithGiven l D K b0 sa _ L _ Ψ (gof gX1) hT) gw_1136 gw_1134 gw_1135 gw_1 ⟨by decide, by decide, by decide +kernel⟩ rfl rfl ⟨by decide, by decide⟩ rfl hl.1 rfl (Nat.le_of_ble_eq_true rfl) dX6_player_131 ⟨by decide, by decide⟩ (fun v u H locs hp w => ?_)
                    obtain ⟨r18, rfl, rfl, hrr18⟩ := hp
                    obtain rfl := hrr18
                    refine lv_iadd hx hb dX6_player_134 ?_
                    refine lv_topi (fun y19 ey19 => ?_)
                    have nm2 : ((-2) : Int32).toInt = -2 := by decide
                    have ty19 : y19.toInt = (z6_5 : Int32).toInt + ((-2) : Int32).toInt := by rw [ey19]; exact ti_add (by omega) (by omega)
                    refine va_mmin hx hb (C.2.2.1.trans hl.1.symm) C.2.2.2.1 (C.2.2.2.2 _ gw_1015) (C.2.2.2.2 _ gw_409) (C.2.2.2.2 _ gw_15) (C.2.2.2.2 _ gw_410) (by decide) (Nat.le_of_ble_eq_true rfl) (by decide) (by decide) dX6_player_135 ?_
                    refine lv_topi (fun y20 ey20 => ?_)
                    have n99 : (99 : Int32).toInt = 99 := by decide
                    have ty20 := mm_min ey20
                    refine va_mmax hx hb (C.2.2.1.trans hl.1.symm) C.2.2.2.1 (C.2.2.2.2 _ gw_1016) (C.2.2.2.2 _ gw_412) (C.2.2.2.2 _ gw_15) (C.2.2.2.2 _ gw_413) (by decide) (Nat.le_of_ble_eq_true rfl) (by decide) (by decide) dX6_player_138 ?_
                    refine lv_topi (fun y21 ey21 => ?_)
                    have ty21 := mm_max ey21
                    refine lv_istore (lv' := [(5, .int y21), (8, .int 0), (7, .int 0), (6, .int (nI (i6 + 1))), (9, .int 0), (0, .ref x), (1, .int ce), (2, .int be), (3, .int co), (4, .int wh)]) hx hb dX6_player_141 hl (by decide) rfl (fun ls hl => ?_)
                    refine lv_goto (tgt := 65) hx hb dX6_player_143 (by decide) ?_
                    exact ih6 (i6 + 1) (by omega) (by omega) (by omega) y21 (by omega) _ _ _ w hT hR ls (lv_sub hl [1, 2, 3, 0, 5, 6, 7, 8, 9] rfl)
            exact loop6 101 0 (by omega) (by omega) (by omega) be (by omega) _ _ _ w hT hR ls hl
        ·
          refine lv_if_eq (tgt := 38) hx hb dX6_player_31 (by decide) (fun _ => ?_) (fun c0 => absurd c0 (by decide))
          refine lv_iconst (v := 0) hx hb dX6_player_38 (by decide) ?_
          refine t_xcallS (n := 1) C w (c_X6_need l hls D K b0 sa _ L _ Ψ (gof gX1) hT 0) gw_625 gw_623 gw_624 gw_1 ⟨by decide, by decide, by decide +kernel⟩ rfl rfl ⟨by decide, by decide⟩ rfl hl.1 rfl (Nat.le_of_ble_eq_true rfl) dX6_player_39 ⟨by decide, by decide⟩ (fun E ce q9 u H locs hp w hcell hv0 hcl => ?_) (fun v u H locs hp w => ?_)
          · obtain ⟨f2, rfl, hT2, hR1, hpx⟩ := hp
            have hR := hR.tr hR1
            obtain ⟨rfl, hx0⟩ := hpx
            exact t_xout w htb hlk hcell hv0 hcl ⟨_, rfl, hT2, hR, Or.inr (⟨rfl, (by omega), (by omega), (by omega)⟩)⟩ (by decide) (by decide)
          ·
            obtain ⟨rfl, rfl, hpv0⟩ := hp
            exfalso; omega
      ·
        refine lv_if_eq (tgt := 38) hx hb dX6_player_21 (by decide) (fun _ => ?_) (fun c0 => absurd c0 (by decide))
        refine lv_iconst (v := 0) hx hb dX6_player_38 (by decide) ?_
        refine t_xcallS (n := 1) C w (c_X6_need l hls D K b0 sa _ L _ Ψ (gof gX1) hT 0) gw_625 gw_623 gw_624 gw_1 ⟨by decide, by decide, by decide +kernel⟩ rfl rfl ⟨by decide, by decide⟩ rfl hl.1 rfl (Nat.le_of_ble_eq_true rfl) dX6_player_39 ⟨by decide, by decide⟩ (fun E ce q9 u H locs hp w hcell hv0 hcl => ?_) (fun v u H locs hp w => ?_)
        · obtain ⟨f2, rfl, hT2, hR1, hpx⟩ := hp
          have hR := hR.tr hR1
          obtain ⟨rfl, hx0⟩ := hpx
          exact t_xout w htb hlk hcell hv0 hcl ⟨_, rfl, hT2, hR, Or.inr (⟨rfl, (by omega), (by omega), (by omega)⟩)⟩ (by decide) (by decide)
        ·
          obtain ⟨rfl, rfl, hpv0⟩ := hp
          exfalso; omega
    ·
      refine lv_if_eq (tgt := 38) hx hb dX6_player_11 (by decide) (fun _ => ?_) (fun c0 => absurd c0 (by decide))
      refine lv_iconst (v := 0) hx hb dX6_player_38 (by decide) ?_
      have n0 : (0 : Int32).toInt = 0 := by decide
      refine t_xcallS (n := 1) C w (c_X6_need l hls D K b0 sa _ L _ Ψ (gof gX1) hT 0) gw_625 gw_623 gw_624 gw_1 ⟨by decide, by decide, by decide +kernel⟩ rfl rfl ⟨by decide, by decide⟩ rfl hl.1 rfl (Nat.le_of_ble_eq_true rfl) dX6_player_39 ⟨by decide, by decide⟩ (fun E ce q9 u H locs hp w hcell hv0 hcl => ?_) (fun v u H locs hp w => ?_)
      · obtain ⟨f2, rfl, hT2, hR1, hpx⟩ := hp
        have hR := hR.tr hR1
        obtain ⟨rfl, hx0⟩ := hpx
        exact t_xout w htb hlk hcell hv0 hcl ⟨_, rfl, hT2, hR, Or.inr (⟨rfl, (by omega), (by omega), (by omega)⟩)⟩ (by decide) (by decide)
      ·
        obtain ⟨rfl, rfl, hpv0⟩ := hp
        exfalso; omega
