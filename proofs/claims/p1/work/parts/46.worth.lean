theorem dX7_worthOf_0 : decode cX7_worthOf 0 = .ok (.aload_n 0, 1) := by decide +kernel
theorem dX7_worthOf_1 : decode cX7_worthOf 1 = .ok (.iconst 3, 1) := by decide +kernel
theorem dX7_worthOf_2 : decode cX7_worthOf 2 = .ok (.invokevirtual 352, 3) := by decide +kernel
theorem dX7_worthOf_5 : decode cX7_worthOf 5 = .ok (.iconst 1, 1) := by decide +kernel
theorem dX7_worthOf_6 : decode cX7_worthOf 6 = .ok (.istore 4, 2) := by decide +kernel
theorem dX7_worthOf_8 : decode cX7_worthOf 8 = .ok (.iload 4, 2) := by decide +kernel
theorem dX7_worthOf_10 : decode cX7_worthOf 10 = .ok (.iload_n 3, 1) := by decide +kernel
theorem dX7_worthOf_11 : decode cX7_worthOf 11 = .ok (.if_icmp .ge 15, 3) := by decide +kernel
theorem dX7_worthOf_14 : decode cX7_worthOf 14 = .ok (.aload_n 0, 1) := by decide +kernel
theorem dX7_worthOf_15 : decode cX7_worthOf 15 = .ok (.iload_n 1, 1) := by decide +kernel
theorem dX7_worthOf_16 : decode cX7_worthOf 16 = .ok (.iconst 0, 1) := by decide +kernel
theorem dX7_worthOf_17 : decode cX7_worthOf 17 = .ok (.invokevirtual 323, 3) := by decide +kernel
theorem dX7_worthOf_20 : decode cX7_worthOf 20 = .ok (.iinc 4 1, 3) := by decide +kernel
theorem dX7_worthOf_23 : decode cX7_worthOf 23 = .ok (.goto (-15), 3) := by decide +kernel
theorem dX7_worthOf_26 : decode cX7_worthOf 26 = .ok (.aload_n 0, 1) := by decide +kernel
theorem dX7_worthOf_27 : decode cX7_worthOf 27 = .ok (.iload_n 2, 1) := by decide +kernel
theorem dX7_worthOf_28 : decode cX7_worthOf 28 = .ok (.iconst 0, 1) := by decide +kernel
theorem dX7_worthOf_29 : decode cX7_worthOf 29 = .ok (.invokevirtual 323, 3) := by decide +kernel
theorem dX7_worthOf_32 : decode cX7_worthOf 32 = .ok (.aload_n 0, 1) := by decide +kernel
theorem dX7_worthOf_33 : decode cX7_worthOf 33 = .ok (.getfield 310, 3) := by decide +kernel
theorem dX7_worthOf_36 : decode cX7_worthOf 36 = .ok (.aload_n 0, 1) := by decide +kernel
theorem dX7_worthOf_37 : decode cX7_worthOf 37 = .ok (.getfield 64, 3) := by decide +kernel
theorem dX7_worthOf_40 : decode cX7_worthOf 40 = .ok (.isub, 1) := by decide +kernel
theorem dX7_worthOf_41 : decode cX7_worthOf 41 = .ok (.istore 4, 2) := by decide +kernel
theorem dX7_worthOf_43 : decode cX7_worthOf 43 = .ok (.aload_n 0, 1) := by decide +kernel
theorem dX7_worthOf_44 : decode cX7_worthOf 44 = .ok (.iconst 3, 1) := by decide +kernel
theorem dX7_worthOf_45 : decode cX7_worthOf 45 = .ok (.invokevirtual 355, 3) := by decide +kernel
theorem dX7_worthOf_48 : decode cX7_worthOf 48 = .ok (.iload 4, 2) := by decide +kernel
theorem dX7_worthOf_50 : decode cX7_worthOf 50 = .ok (.ireturn, 1) := by decide +kernel
theorem dX7_worth_0 : decode cX7_worth 0 = .ok (.aload_n 0, 1) := by decide +kernel
theorem dX7_worth_1 : decode cX7_worth 1 = .ok (.iconst 0, 1) := by decide +kernel
theorem dX7_worth_2 : decode cX7_worth 2 = .ok (.putfield 97, 3) := by decide +kernel
theorem dX7_worth_5 : decode cX7_worth 5 = .ok (.aload_n 0, 1) := by decide +kernel
theorem dX7_worth_6 : decode cX7_worth 6 = .ok (.iload_n 1, 1) := by decide +kernel
theorem dX7_worth_7 : decode cX7_worth 7 = .ok (.invokestatic 253, 3) := by decide +kernel
theorem dX7_worth_10 : decode cX7_worth 10 = .ok (.ifCond .eq 10, 3) := by decide +kernel
theorem dX7_worth_13 : decode cX7_worth 13 = .ok (.iload_n 2, 1) := by decide +kernel
theorem dX7_worth_14 : decode cX7_worth 14 = .ok (.invokestatic 253, 3) := by decide +kernel
theorem dX7_worth_17 : decode cX7_worth 17 = .ok (.ifCond .ne 7, 3) := by decide +kernel
theorem dX7_worth_20 : decode cX7_worth 20 = .ok (.iconst 1, 1) := by decide +kernel
theorem dX7_worth_21 : decode cX7_worth 21 = .ok (.goto 4, 3) := by decide +kernel
theorem dX7_worth_24 : decode cX7_worth 24 = .ok (.iconst 0, 1) := by decide +kernel
theorem dX7_worth_25 : decode cX7_worth 25 = .ok (.iconst 1, 1) := by decide +kernel
theorem dX7_worth_26 : decode cX7_worth 26 = .ok (.invokevirtual 206, 3) := by decide +kernel
theorem dX7_worth_29 : decode cX7_worth 29 = .ok (.ifCond .ne 26, 3) := by decide +kernel
theorem dX7_worth_32 : decode cX7_worth 32 = .ok (.aload_n 0, 1) := by decide +kernel
theorem dX7_worth_33 : decode cX7_worth 33 = .ok (.iload_n 3, 1) := by decide +kernel
theorem dX7_worth_34 : decode cX7_worth 34 = .ok (.iconst 1, 1) := by decide +kernel
theorem dX7_worth_35 : decode cX7_worth 35 = .ok (.bipush 20, 2) := by decide +kernel
theorem dX7_worth_37 : decode cX7_worth 37 = .ok (.invokestatic 100, 3) := by decide +kernel
theorem dX7_worth_40 : decode cX7_worth 40 = .ok (.ifCond .ne 7, 3) := by decide +kernel
theorem dX7_worth_43 : decode cX7_worth 43 = .ok (.iconst 1, 1) := by decide +kernel
theorem dX7_worth_44 : decode cX7_worth 44 = .ok (.goto 4, 3) := by decide +kernel
theorem dX7_worth_47 : decode cX7_worth 47 = .ok (.iconst 0, 1) := by decide +kernel
theorem dX7_worth_48 : decode cX7_worth 48 = .ok (.iconst 2, 1) := by decide +kernel
theorem dX7_worth_49 : decode cX7_worth 49 = .ok (.invokevirtual 206, 3) := by decide +kernel
theorem dX7_worth_52 : decode cX7_worth 52 = .ok (.ifCond .eq 5, 3) := by decide +kernel
theorem dX7_worth_55 : decode cX7_worth 55 = .ok (.iconst 0, 1) := by decide +kernel
theorem dX7_worth_56 : decode cX7_worth 56 = .ok (.ireturn, 1) := by decide +kernel
theorem dX7_worth_57 : decode cX7_worth 57 = .ok (.aload_n 0, 1) := by decide +kernel
theorem dX7_worth_58 : decode cX7_worth 58 = .ok (.iload_n 1, 1) := by decide +kernel
theorem dX7_worth_59 : decode cX7_worth 59 = .ok (.iload_n 2, 1) := by decide +kernel
theorem dX7_worth_60 : decode cX7_worth 60 = .ok (.iload_n 3, 1) := by decide +kernel
theorem dX7_worth_61 : decode cX7_worth 61 = .ok (.invokevirtual 358, 3) := by decide +kernel
theorem dX7_worth_64 : decode cX7_worth 64 = .ok (.ireturn, 1) := by decide +kernel
theorem dX7_bide_0 : decode cX7_bide 0 = .ok (.aload_n 0, 1) := by decide +kernel
theorem dX7_bide_1 : decode cX7_bide 1 = .ok (.iconst 0, 1) := by decide +kernel
theorem dX7_bide_2 : decode cX7_bide 2 = .ok (.putfield 97, 3) := by decide +kernel
theorem dX7_bide_5 : decode cX7_bide 5 = .ok (.aload_n 0, 1) := by decide +kernel
theorem dX7_bide_6 : decode cX7_bide 6 = .ok (.iload_n 1, 1) := by decide +kernel
theorem dX7_bide_7 : decode cX7_bide 7 = .ok (.invokestatic 253, 3) := by decide +kernel
theorem dX7_bide_10 : decode cX7_bide 10 = .ok (.ifCond .eq 10, 3) := by decide +kernel
theorem dX7_bide_13 : decode cX7_bide 13 = .ok (.iload_n 2, 1) := by decide +kernel
theorem dX7_bide_14 : decode cX7_bide 14 = .ok (.invokestatic 253, 3) := by decide +kernel
theorem dX7_bide_17 : decode cX7_bide 17 = .ok (.ifCond .ne 7, 3) := by decide +kernel
theorem dX7_bide_20 : decode cX7_bide 20 = .ok (.iconst 1, 1) := by decide +kernel
theorem dX7_bide_21 : decode cX7_bide 21 = .ok (.goto 4, 3) := by decide +kernel
theorem dX7_bide_24 : decode cX7_bide 24 = .ok (.iconst 0, 1) := by decide +kernel
theorem dX7_bide_25 : decode cX7_bide 25 = .ok (.iconst 1, 1) := by decide +kernel
theorem dX7_bide_26 : decode cX7_bide 26 = .ok (.invokevirtual 206, 3) := by decide +kernel
theorem dX7_bide_29 : decode cX7_bide 29 = .ok (.ifCond .eq 5, 3) := by decide +kernel
theorem dX7_bide_32 : decode cX7_bide 32 = .ok (.iconst 0, 1) := by decide +kernel
theorem dX7_bide_33 : decode cX7_bide 33 = .ok (.ireturn, 1) := by decide +kernel
theorem dX7_bide_34 : decode cX7_bide 34 = .ok (.iconst 1, 1) := by decide +kernel
theorem dX7_bide_35 : decode cX7_bide 35 = .ok (.istore_n 3, 1) := by decide +kernel
theorem dX7_bide_36 : decode cX7_bide 36 = .ok (.aload_n 0, 1) := by decide +kernel
theorem dX7_bide_37 : decode cX7_bide 37 = .ok (.iload_n 1, 1) := by decide +kernel
theorem dX7_bide_38 : decode cX7_bide 38 = .ok (.iload_n 2, 1) := by decide +kernel
theorem dX7_bide_39 : decode cX7_bide 39 = .ok (.iconst 1, 1) := by decide +kernel
theorem dX7_bide_40 : decode cX7_bide 40 = .ok (.invokevirtual 358, 3) := by decide +kernel
theorem dX7_bide_43 : decode cX7_bide 43 = .ok (.istore 4, 2) := by decide +kernel
theorem dX7_bide_45 : decode cX7_bide 45 = .ok (.iconst 2, 1) := by decide +kernel
theorem dX7_bide_46 : decode cX7_bide 46 = .ok (.istore 5, 2) := by decide +kernel
theorem dX7_bide_48 : decode cX7_bide 48 = .ok (.iload 5, 2) := by decide +kernel
theorem dX7_bide_50 : decode cX7_bide 50 = .ok (.bipush 20, 2) := by decide +kernel
theorem dX7_bide_52 : decode cX7_bide 52 = .ok (.if_icmp .gt 49, 3) := by decide +kernel
theorem dX7_bide_55 : decode cX7_bide 55 = .ok (.aload_n 0, 1) := by decide +kernel
theorem dX7_bide_56 : decode cX7_bide 56 = .ok (.iload_n 1, 1) := by decide +kernel
theorem dX7_bide_57 : decode cX7_bide 57 = .ok (.iload_n 2, 1) := by decide +kernel
theorem dX7_bide_58 : decode cX7_bide 58 = .ok (.iload 5, 2) := by decide +kernel
theorem dX7_bide_60 : decode cX7_bide 60 = .ok (.invokevirtual 358, 3) := by decide +kernel
theorem dX7_bide_63 : decode cX7_bide 63 = .ok (.istore 6, 2) := by decide +kernel
theorem dX7_bide_65 : decode cX7_bide 65 = .ok (.iload 6, 2) := by decide +kernel
theorem dX7_bide_67 : decode cX7_bide 67 = .ok (.iload 4, 2) := by decide +kernel
theorem dX7_bide_69 : decode cX7_bide 69 = .ok (.if_icmp .le 8, 3) := by decide +kernel
theorem dX7_bide_72 : decode cX7_bide 72 = .ok (.iload 5, 2) := by decide +kernel
theorem dX7_bide_74 : decode cX7_bide 74 = .ok (.goto 4, 3) := by decide +kernel
theorem dX7_bide_77 : decode cX7_bide 77 = .ok (.iload_n 3, 1) := by decide +kernel
theorem dX7_bide_78 : decode cX7_bide 78 = .ok (.istore_n 3, 1) := by decide +kernel
theorem dX7_bide_79 : decode cX7_bide 79 = .ok (.iload 6, 2) := by decide +kernel
theorem dX7_bide_81 : decode cX7_bide 81 = .ok (.iload 4, 2) := by decide +kernel
theorem dX7_bide_83 : decode cX7_bide 83 = .ok (.if_icmp .le 8, 3) := by decide +kernel
theorem dX7_bide_86 : decode cX7_bide 86 = .ok (.iload 6, 2) := by decide +kernel
theorem dX7_bide_88 : decode cX7_bide 88 = .ok (.goto 5, 3) := by decide +kernel
theorem dX7_bide_91 : decode cX7_bide 91 = .ok (.iload 4, 2) := by decide +kernel
theorem dX7_bide_93 : decode cX7_bide 93 = .ok (.istore 4, 2) := by decide +kernel
theorem dX7_bide_95 : decode cX7_bide 95 = .ok (.iinc 5 1, 3) := by decide +kernel
theorem dX7_bide_98 : decode cX7_bide 98 = .ok (.goto (-50), 3) := by decide +kernel
theorem dX7_bide_101 : decode cX7_bide 101 = .ok (.iload_n 3, 1) := by decide +kernel
theorem dX7_bide_102 : decode cX7_bide 102 = .ok (.ireturn, 1) := by decide +kernel
set_option maxHeartbeats 4000000 in
set_option maxRecDepth 100000 in
theorem c_X7_worthOf (l : Launch) (D : va_G) (K : Nat → ClassId) (b0 : Nat) (sa : Nat × Nat × Nat) (sz : Nat) (L : List Nat) (f0 : Nat → va_E) (Ψ : Nat → Nat) (hT : TW K (gof gM1) Ψ L f0) (m_ : Nat) (hm_m_ : m_ ∈ L) (ht_m_ : Ψ m_ = 7) (ot : Int32) (hl_ot : 0 ≤ ot.toInt) (hh_ot : ot.toInt ≤ 63) (yo : Int32) (hl_yo : 0 ≤ yo.toInt) (hh_yo : yo.toInt ≤ 63) (k_ : Int32) (hl_k_ : 1 ≤ k_.toInt) (hh_k_ : k_.toInt ≤ 20) (hu_7 : ∀ b c : Nat, b ∈ L → c ∈ L → Ψ b = 7 → Ψ c = 7 → b = c) : Met l yX7_worthOf (.code yX7_worthOf cX7_worthOf 5 (some .int) :: gt) { frames := 4, cells := 0, slots := 0, locals := 94 } (va_Pc [.ref m_, .int ot, .int yo, .int k_] (hPre D K b0 sa sz L f0)) (hQ D K b0 (fun v9 u9 => ∃ (r : Int32) (f2 : Nat → va_E), v9 = some (.int r) ∧ u9 = ((gof gM1), Ψ, L, f2) ∧ TW K (gof gM1) Ψ L f2 ∧ rawk Ψ L f0 f2 ∧ (r = (-1)))) 0 0 (fun q => b0 ≤ q) := by
  refine t_of (own := RX7) (by decide) rfl ?_ (Nat.le_of_ble_eq_true rfl)
  intro p e s m below meth c ls C w hsz hr hlk hnm hl
  have hx := C.1
  have hb := C.2.1
  have hl : lv_has ls 5 [(0, .ref m_), (1, .int ot), (2, .int yo), (3, .int k_)] := hl
  have hb_ot := ti_bd ot
  have hb_yo := ti_bd yo
  have hb_k_ := ti_bd k_
  have hR : rawk Ψ L f0 f0 := rawk.rf
  refine lv_aload_n hx hb dX7_worthOf_0 rfl (lv_at hl 0 rfl) ?_
  refine lv_iconst (v := 3) hx hb dX7_worthOf_1 (by decide) ?_
  refine t_callV (n := 1) C w hT hm_m_ ht_m_ (by decide) rfl rfl (c_X7_lays3 l D K b0 sa _ L _ Ψ hT m_ hm_m_ ht_m_) gw_1637 gw_1634 gw_1636 gs_64 gw_8 ⟨by decide, by decide, by decide +kernel⟩ rfl rfl ⟨by decide, by decide⟩ rfl hl.1 rfl (Nat.le_of_ble_eq_true rfl) dX7_worthOf_2 ⟨by decide, by decide⟩ (fun v u H locs hp w => ?_)
  obtain ⟨f2, rfl, rfl, hT2, hR1⟩ := hp
  have hR := hR.tr hR1
  clear hT
  have hT := hT2
  clear hT2
  generalize f2 = f at w hT hR
  refine lv_iconst (v := 1) hx hb dX7_worthOf_5 (by decide) ?_
  refine lv_istore (lv' := [(4, .int 1), (0, .ref m_), (1, .int ot), (2, .int yo), (3, .int k_)]) hx hb dX7_worthOf_6 hl (by decide) rfl (fun ls hl => ?_)
  have loop1 : ∀ (n i1 : Nat), 1 ≤ i1 → (i1 : Int) ≤ k_.toInt → k_.toInt - (i1 : Int) < (n : Int) → ∀ (f : Nat → va_E) (H : Heap) (locs : List Loc), Wh D K b0 sa s H locs L f → TW K (gof gM1) Ψ L f → rawk Ψ L f0 f → ∀ ls : Array Slot, lv_has ls 5 [(4, .int (nI i1)), (0, .ref m_), (1, .int ot), (2, .int yo), (3, .int k_)] → W p l e { frames := 4, cells := 0, slots := 0, locals := 94 } s m [.ref m_, .int ot, .int yo, .int k_].toArray below meth c H locs 0 0 (MQ below (hQ D K b0 (fun v9 u9 => ∃ (r : Int32) (f2 : Nat → va_E), v9 = some (.int r) ∧ u9 = ((gof gM1), Ψ, L, f2) ∧ TW K (gof gM1) Ψ L f2 ∧ rawk Ψ L f0 f2 ∧ (r = (-1)))) [.ref m_, .int ot, .int yo, .int k_].toArray s 0 0 (fun q => b0 ≤ q)) (F0 m 8 ls []) := by
    intro n
    induction n with
    | zero => intro i1 h0 h1 h2; exact absurd h2 (by omega)
    | succ n ih1 =>
      intro i1 hj1 hi1 hn1 f H locs w hT hR ls hl
      have ti1 : (nI i1).toInt = (i1 : Int) := nI_toInt (by omega)
      refine lv_iload hx hb dX7_worthOf_8 (lv_at hl 0 rfl) ?_
      refine lv_iload_n hx hb dX7_worthOf_10 rfl (lv_at hl 4 rfl) ?_
      refine lv_icmp_ge (tgt := 26) hx hb dX7_worthOf_11 (by decide) (fun c2 => ?_) (fun c2 => ?_)
      · have c2 := le_toInt c2
        refine lv_aload_n hx hb dX7_worthOf_26 rfl (lv_at hl 1 rfl) ?_
        refine lv_iload_n hx hb dX7_worthOf_27 rfl (lv_at hl 3 rfl) ?_
        refine lv_iconst (v := 0) hx hb dX7_worthOf_28 (by decide) ?_
        have n0 : (0 : Int32).toInt = 0 := by decide
        refine t_callV (n := 2) C w hT hm_m_ ht_m_ (by decide) rfl rfl (c_X7_triesAt l D K b0 sa _ L _ Ψ hT m_ hm_m_ ht_m_ yo (by omega) (by omega) 0 hu_7) gw_1557 gw_1554 gw_1556 gs_57 gw_8 ⟨by decide, by decide, by decide +kernel⟩ rfl rfl ⟨by decide, by decide⟩ rfl hl.1 rfl (Nat.le_of_ble_eq_true rfl) dX7_worthOf_29 ⟨by decide, by decide⟩ (fun v u H locs hp w => ?_)
        obtain ⟨f2, rfl, rfl, hT2, hR1⟩ := hp
        have hR := hR.tr hR1
        clear hT
        have hT := hT2
        clear hT2
        generalize f2 = f at w hT hR
        refine lv_aload_n hx hb dX7_worthOf_32 rfl (lv_at hl 1 rfl) ?_
        refine t_geti C w hT hm_m_ ht_m_ (by decide) rfl cin_7 43 (by decide) rfl rfl gw_1199 dX7_worthOf_33 (fun x3 hg => ?_)
        obtain rfl : x3 = 0 := gof_at rfl hg
        refine lv_aload_n hx hb dX7_worthOf_36 rfl (lv_at hl 1 rfl) ?_
        refine t_geti C w hT hm_m_ ht_m_ (by decide) rfl cin_7 32 (by decide) rfl rfl gw_1188 dX7_worthOf_37 (fun x4 hg => ?_)
        obtain rfl : x4 = 1 := gof_at rfl hg
        refine lv_isub hx hb dX7_worthOf_40 ?_
        refine lv_topi (fun y5 ey5 => ?_)
        obtain rfl : y5 = (-1) := ey5.trans (by decide)
        refine lv_istore (lv' := [(4, .int (-1)), (0, .ref m_), (1, .int ot), (2, .int yo), (3, .int k_)]) hx hb dX7_worthOf_41 hl (by decide) rfl (fun ls hl => ?_)
        refine lv_aload_n hx hb dX7_worthOf_43 rfl (lv_at hl 1 rfl) ?_
        refine lv_iconst (v := 3) hx hb dX7_worthOf_44 (by decide) ?_
        refine t_callV (n := 1) C w hT hm_m_ ht_m_ (by decide) rfl rfl (c_X7_laysBack l D K b0 sa _ L _ Ψ hT m_ hm_m_ ht_m_) gw_1641 gw_1638 gw_1640 gs_65 gw_8 ⟨by decide, by decide, by decide +kernel⟩ rfl rfl ⟨by decide, by decide⟩ rfl hl.1 rfl (Nat.le_of_ble_eq_true rfl) dX7_worthOf_45 ⟨by decide, by decide⟩ (fun v u H locs hp w => ?_)
        obtain ⟨f2, rfl, rfl, hT2, hR1⟩ := hp
        have hR := hR.tr hR1
        clear hT
        have hT := hT2
        clear hT2
        generalize f2 = f at w hT hR
        refine lv_iload hx hb dX7_worthOf_48 (lv_at hl 0 rfl) ?_
        have nm1 : ((-1) : Int32).toInt = -1 := by decide
        exact t_iret C hr hlk w ⟨_, _, rfl, rfl, hT, hR, rfl⟩ (by decide) (by decide) dX7_worthOf_50
      · have c2 := nle_toInt c2
        refine lv_aload_n hx hb dX7_worthOf_14 rfl (lv_at hl 1 rfl) ?_
        refine lv_iload_n hx hb dX7_worthOf_15 rfl (lv_at hl 2 rfl) ?_
        refine lv_iconst (v := 0) hx hb dX7_worthOf_16 (by decide) ?_
        have n0 : (0 : Int32).toInt = 0 := by decide
        refine t_callV (n := 2) C w hT hm_m_ ht_m_ (by decide) rfl rfl (c_X7_triesAt l D K b0 sa _ L _ Ψ hT m_ hm_m_ ht_m_ ot (by omega) (by omega) 0 hu_7) gw_1557 gw_1554 gw_1556 gs_57 gw_8 ⟨by decide, by decide, by decide +kernel⟩ rfl rfl ⟨by decide, by decide⟩ rfl hl.1 rfl (Nat.le_of_ble_eq_true rfl) dX7_worthOf_17 ⟨by decide, by decide⟩ (fun v u H locs hp w => ?_)
        obtain ⟨f2, rfl, rfl, hT2, hR1⟩ := hp
        have hR := hR.tr hR1
        clear hT
        have hT := hT2
        clear hT2
        generalize f2 = f at w hT hR
        refine lv_iinc (v := (nI (i1 + 1))) (lv' := [(4, .int (nI (i1 + 1))), (0, .ref m_), (1, .int ot), (2, .int yo), (3, .int k_)]) hx hb dX7_worthOf_20 hl (k := 0) rfl (by exact nI_1 i1) (by decide) rfl (fun ls hl => ?_)
        refine lv_goto (tgt := 8) hx hb dX7_worthOf_23 (by decide) ?_
        exact ih1 (i1 + 1) (by omega) (by omega) (by omega) _ _ _ w hT hR ls (lv_sub hl [0, 1, 2, 3, 4] rfl)
  exact loop1 22 1 (by omega) (by omega) (by omega) _ _ _ w hT hR ls hl
set_option maxHeartbeats 4000000 in
set_option maxRecDepth 100000 in
theorem c_X7_worth (l : Launch) (D : va_G) (K : Nat → ClassId) (b0 : Nat) (sa : Nat × Nat × Nat) (sz : Nat) (L : List Nat) (f0 : Nat → va_E) (Ψ : Nat → Nat) (hT : TW K (gof gM0) Ψ L f0) (m_ : Nat) (hm_m_ : m_ ∈ L) (ht_m_ : Ψ m_ = 7) (ot : Int32) (yo : Int32) (k_ : Int32) (hu_7 : ∀ b c : Nat, b ∈ L → c ∈ L → Ψ b = 7 → Ψ c = 7 → b = c) : Met l yX7_worth (.code yX7_worth cX7_worth 4 (some .int) :: gt) { frames := 5, cells := 0, slots := 0, locals := 118 } (va_Pc [.ref m_, .int ot, .int yo, .int k_] (hPre D K b0 sa sz L f0)) (hQ D K b0 (fun v9 u9 => ∃ (r : Int32) (th : Int32) (f2 : Nat → va_E), v9 = some (.int r) ∧ u9 = (gof [(700, th)], Ψ, L, f2) ∧ TW K (gof [(700, th)]) Ψ L f2 ∧ rawk Ψ L f0 f2 ∧ ((r = 0 ∧ th = 1 ∧ (¬ (0 ≤ ot.toInt ∧ ot.toInt ≤ 63 ∧ 0 ≤ yo.toInt ∧ yo.toInt ≤ 63))) ∨ (r = 0 ∧ th = 2 ∧ (0 ≤ ot.toInt ∧ ot.toInt ≤ 63 ∧ 0 ≤ yo.toInt ∧ yo.toInt ≤ 63) ∧ (¬ (1 ≤ k_.toInt ∧ k_.toInt ≤ 20))) ∨ (r = (-1) ∧ th = 0 ∧ (0 ≤ ot.toInt ∧ ot.toInt ≤ 63 ∧ 0 ≤ yo.toInt ∧ yo.toInt ≤ 63) ∧ (1 ≤ k_.toInt ∧ k_.toInt ≤ 20))))) 0 0 (fun q => b0 ≤ q) := by
  refine t_of (own := RX7) (by decide) rfl ?_ (Nat.le_of_ble_eq_true rfl)
  intro p e s m below meth c ls C w hsz hr hlk hnm hl
  have hx := C.1
  have hb := C.2.1
  have hl : lv_has ls 4 [(0, .ref m_), (1, .int ot), (2, .int yo), (3, .int k_)] := hl
  have hb_ot := ti_bd ot
  have hb_yo := ti_bd yo
  have hb_k_ := ti_bd k_
  have hR : rawk Ψ L f0 f0 := rawk.rf
  refine lv_aload_n hx hb dX7_worth_0 rfl (lv_at hl 0 rfl) ?_
  refine lv_iconst (v := 0) hx hb dX7_worth_1 (by decide) ?_
  refine t_puti C w hT hm_m_ ht_m_ (by decide) rfl cin_7 tyX7 tyX7_ok nmX7 0 (by decide) rfl rfl rfl rfl rfl (gof_is rfl) gw_1156 dX7_worth_2 (fun f H locs w hT hR1 => ?_)
  have hR := hR.tr hR1
  refine lv_aload_n hx hb dX7_worth_5 rfl (lv_at hl 0 rfl) ?_
  refine lv_iload_n hx hb dX7_worth_6 rfl (lv_at hl 1 rfl) ?_
  refine t_callS (n := 1) C w (c_X7_isCell l D K b0 sa _ L _ Ψ (gof gM0) hT ot) gw_1467 gw_1465 gw_1466 gw_8 ⟨by decide, by decide, by decide +kernel⟩ rfl rfl ⟨by decide, by decide⟩ rfl hl.1 rfl (Nat.le_of_ble_eq_true rfl) dX7_worth_7 ⟨by decide, by decide⟩ (fun v u H locs hp w => ?_)
  obtain ⟨r1, rfl, rfl, hrr1⟩ := hp
  rcases hrr1 with ⟨rfl, hf0_r1, hf1_r1⟩ | ⟨rfl, hf0_r1⟩
  ·
    refine lv_if_eq (tgt := 20) hx hb dX7_worth_10 (by decide) (fun c0 => absurd c0 (by decide)) (fun _ => ?_)
    refine lv_iload_n hx hb dX7_worth_13 rfl (lv_at hl 2 rfl) ?_
    refine t_callS (n := 1) C w (c_X7_isCell l D K b0 sa _ L _ Ψ (gof gM0) hT yo) gw_1467 gw_1465 gw_1466 gw_8 ⟨by decide, by decide, by decide +kernel⟩ rfl rfl ⟨by decide, by decide⟩ rfl hl.1 rfl (Nat.le_of_ble_eq_true rfl) dX7_worth_14 ⟨by decide, by decide⟩ (fun v u H locs hp w => ?_)
    obtain ⟨r2, rfl, rfl, hrr2⟩ := hp
    rcases hrr2 with ⟨rfl, hf0_r2, hf1_r2⟩ | ⟨rfl, hf0_r2⟩
    ·
      refine lv_if_ne (tgt := 24) hx hb dX7_worth_17 (by decide) (fun _ => ?_) (fun c0 => absurd c0 (by decide))
      refine lv_iconst (v := 0) hx hb dX7_worth_24 (by decide) ?_
      refine lv_iconst (v := 1) hx hb dX7_worth_25 (by decide) ?_
      have n1 : (1 : Int32).toInt = 1 := by decide
      refine t_callV (n := 2) C w hT hm_m_ ht_m_ (by decide) rfl rfl (c_X7_bad0 l D K b0 sa _ L _ Ψ (hT.mono (gof_sub rfl)) m_ hm_m_ ht_m_ 1) gw_1347 gw_1344 gw_1346 gs_22 gw_8 ⟨by decide, by decide, by decide +kernel⟩ rfl rfl ⟨by decide, by decide⟩ rfl hl.1 rfl (Nat.le_of_ble_eq_true rfl) dX7_worth_26 ⟨by decide, by decide⟩ (fun v u H locs hp w => ?_)
      obtain ⟨r3, rfl, rfl, hrr3⟩ := hp
      obtain rfl := hrr3
      refine lv_if_ne (tgt := 55) hx hb dX7_worth_29 (by decide) (fun c0 => absurd c0 (by decide)) (fun _ => ?_)
      refine lv_aload_n hx hb dX7_worth_32 rfl (lv_at hl 0 rfl) ?_
      refine lv_iload_n hx hb dX7_worth_33 rfl (lv_at hl 3 rfl) ?_
      refine lv_iconst (v := 1) hx hb dX7_worth_34 (by decide) ?_
      refine lv_bipush (v := 20) hx hb dX7_worth_35 (by decide) ?_
      have n20 : (20 : Int32).toInt = 20 := by decide
      refine t_callS (n := 3) C w (c_X7_in l D K b0 sa _ L _ Ψ (gof gM0) hT k_ 1 20) gw_1343 gw_1341 gw_1342 gw_8 ⟨by decide, by decide, by decide +kernel⟩ rfl rfl ⟨by decide, by decide⟩ rfl hl.1 rfl (Nat.le_of_ble_eq_true rfl) dX7_worth_37 ⟨by decide, by decide⟩ (fun v u H locs hp w => ?_)
      obtain ⟨r4, rfl, rfl, hrr4⟩ := hp
      rcases hrr4 with ⟨rfl, hf0_r4, hf1_r4⟩ | ⟨rfl, hf0_r4⟩
      ·
        refine lv_if_ne (tgt := 47) hx hb dX7_worth_40 (by decide) (fun _ => ?_) (fun c0 => absurd c0 (by decide))
        refine lv_iconst (v := 0) hx hb dX7_worth_47 (by decide) ?_
        refine lv_iconst (v := 2) hx hb dX7_worth_48 (by decide) ?_
        have n2 : (2 : Int32).toInt = 2 := by decide
        refine t_callV (n := 2) C w hT hm_m_ ht_m_ (by decide) rfl rfl (c_X7_bad0 l D K b0 sa _ L _ Ψ (hT.mono (gof_sub rfl)) m_ hm_m_ ht_m_ 2) gw_1347 gw_1344 gw_1346 gs_22 gw_8 ⟨by decide, by decide, by decide +kernel⟩ rfl rfl ⟨by decide, by decide⟩ rfl hl.1 rfl (Nat.le_of_ble_eq_true rfl) dX7_worth_49 ⟨by decide, by decide⟩ (fun v u H locs hp w => ?_)
        obtain ⟨r5, rfl, rfl, hrr5⟩ := hp
        obtain rfl := hrr5
        refine lv_if_eq (tgt := 57) hx hb dX7_worth_52 (by decide) (fun _ => ?_) (fun c0 => absurd c0 (by decide))
        refine lv_aload_n hx hb dX7_worth_57 rfl (lv_at hl 0 rfl) ?_
        refine lv_iload_n hx hb dX7_worth_58 rfl (lv_at hl 1 rfl) ?_
        refine lv_iload_n hx hb dX7_worth_59 rfl (lv_at hl 2 rfl) ?_
        refine lv_iload_n hx hb dX7_worth_60 rfl (lv_at hl 3 rfl) ?_
        refine t_callV (n := 3) C w hT hm_m_ ht_m_ (by decide) rfl rfl (c_X7_worthOf l D K b0 sa _ L _ Ψ (hT.mono (gof_sub rfl)) m_ hm_m_ ht_m_ ot (by omega) (by omega) yo (by omega) (by omega) k_ (by omega) (by omega) hu_7) gw_1633 gw_1630 gw_1632 gs_63 gw_8 ⟨by decide, by decide, by decide +kernel⟩ rfl rfl ⟨by decide, by decide⟩ rfl hl.1 rfl (Nat.le_of_ble_eq_true rfl) dX7_worth_61 ⟨by decide, by decide⟩ (fun v u H locs hp w => ?_)
        obtain ⟨r6, f2, rfl, rfl, hT2, hR1, hrr6⟩ := hp
        have hR := hR.tr hR1
        clear hT
        have hT := hT2
        clear hT2
        generalize f2 = f at w hT hR
        obtain rfl := hrr6
        have nm1 : ((-1) : Int32).toInt = -1 := by decide
        exact t_iret C hr hlk w ⟨_, 0, _, rfl, rfl, hT.mono (gof_sub rfl), hR, Or.inr (Or.inr (⟨rfl, rfl, (by omega), (by omega)⟩))⟩ (by decide) (by decide) dX7_worth_64
      ·
        refine lv_if_ne (tgt := 47) hx hb dX7_worth_40 (by decide) (fun c0 => absurd c0 (by decide)) (fun _ => ?_)
        refine lv_iconst (v := 1) hx hb dX7_worth_43 (by decide) ?_
        refine lv_goto (tgt := 48) hx hb dX7_worth_44 (by decide) ?_
        refine lv_iconst (v := 2) hx hb dX7_worth_48 (by decide) ?_
        refine t_callV (n := 2) C w hT hm_m_ ht_m_ (by decide) rfl rfl (c_X7_bad2 l D K b0 sa _ L _ Ψ hT m_ hm_m_ ht_m_ hu_7) gw_1347 gw_1344 gw_1346 gs_22 gw_8 ⟨by decide, by decide, by decide +kernel⟩ rfl rfl ⟨by decide, by decide⟩ rfl hl.1 rfl (Nat.le_of_ble_eq_true rfl) dX7_worth_49 ⟨by decide, by decide⟩ (fun v u H locs hp w => ?_)
        obtain ⟨r7, f2, rfl, rfl, hT2, hR1, hrr7⟩ := hp
        have hR := hR.tr hR1
        clear hT
        have hT := hT2
        clear hT2
        generalize f2 = f at w hT hR
        obtain rfl := hrr7
        refine lv_if_eq (tgt := 57) hx hb dX7_worth_52 (by decide) (fun c0 => absurd c0 (by decide)) (fun _ => ?_)
        refine lv_iconst (v := 0) hx hb dX7_worth_55 (by decide) ?_
        have n0 : (0 : Int32).toInt = 0 := by decide
        exact t_iret C hr hlk w ⟨_, 2, _, rfl, rfl, hT.mono (gof_sub rfl), hR, Or.inr (Or.inl ⟨rfl, rfl, (by omega), (by omega)⟩)⟩ (by decide) (by decide) dX7_worth_56
    ·
      refine lv_if_ne (tgt := 24) hx hb dX7_worth_17 (by decide) (fun c0 => absurd c0 (by decide)) (fun _ => ?_)
      refine lv_iconst (v := 1) hx hb dX7_worth_20 (by decide) ?_
      refine lv_goto (tgt := 25) hx hb dX7_worth_21 (by decide) ?_
      refine lv_iconst (v := 1) hx hb dX7_worth_25 (by decide) ?_
      refine t_callV (n := 2) C w hT hm_m_ ht_m_ (by decide) rfl rfl (c_X7_bad1 l D K b0 sa _ L _ Ψ hT m_ hm_m_ ht_m_ hu_7) gw_1347 gw_1344 gw_1346 gs_22 gw_8 ⟨by decide, by decide, by decide +kernel⟩ rfl rfl ⟨by decide, by decide⟩ rfl hl.1 rfl (Nat.le_of_ble_eq_true rfl) dX7_worth_26 ⟨by decide, by decide⟩ (fun v u H locs hp w => ?_)
      obtain ⟨r8, f2, rfl, rfl, hT2, hR1, hrr8⟩ := hp
      have hR := hR.tr hR1
      clear hT
      have hT := hT2
      clear hT2
      generalize f2 = f at w hT hR
      obtain rfl := hrr8
      refine lv_if_ne (tgt := 55) hx hb dX7_worth_29 (by decide) (fun _ => ?_) (fun c0 => absurd c0 (by decide))
      refine lv_iconst (v := 0) hx hb dX7_worth_55 (by decide) ?_
      have n0 : (0 : Int32).toInt = 0 := by decide
      exact t_iret C hr hlk w ⟨_, 1, _, rfl, rfl, hT.mono (gof_sub rfl), hR, Or.inl ⟨rfl, rfl, (by omega)⟩⟩ (by decide) (by decide) dX7_worth_56
  ·
    refine lv_if_eq (tgt := 20) hx hb dX7_worth_10 (by decide) (fun _ => ?_) (fun c0 => absurd c0 (by decide))
    refine lv_iconst (v := 1) hx hb dX7_worth_20 (by decide) ?_
    refine lv_goto (tgt := 25) hx hb dX7_worth_21 (by decide) ?_
    refine lv_iconst (v := 1) hx hb dX7_worth_25 (by decide) ?_
    refine t_callV (n := 2) C w hT hm_m_ ht_m_ (by decide) rfl rfl (c_X7_bad1 l D K b0 sa _ L _ Ψ hT m_ hm_m_ ht_m_ hu_7) gw_1347 gw_1344 gw_1346 gs_22 gw_8 ⟨by decide, by decide, by decide +kernel⟩ rfl rfl ⟨by decide, by decide⟩ rfl hl.1 rfl (Nat.le_of_ble_eq_true rfl) dX7_worth_26 ⟨by decide, by decide⟩ (fun v u H locs hp w => ?_)
    obtain ⟨r9, f2, rfl, rfl, hT2, hR1, hrr9⟩ := hp
    have hR := hR.tr hR1
    clear hT
    have hT := hT2
    clear hT2
    generalize f2 = f at w hT hR
    obtain rfl := hrr9
    refine lv_if_ne (tgt := 55) hx hb dX7_worth_29 (by decide) (fun _ => ?_) (fun c0 => absurd c0 (by decide))
    refine lv_iconst (v := 0) hx hb dX7_worth_55 (by decide) ?_
    have n0 : (0 : Int32).toInt = 0 := by decide
    exact t_iret C hr hlk w ⟨_, 1, _, rfl, rfl, hT.mono (gof_sub rfl), hR, Or.inl ⟨rfl, rfl, (by omega)⟩⟩ (by decide) (by decide) dX7_worth_56
set_option maxHeartbeats 4000000 in
set_option maxRecDepth 100000 in
theorem c_X7_bide (l : Launch) (D : va_G) (K : Nat → ClassId) (b0 : Nat) (sa : Nat × Nat × Nat) (sz : Nat) (L : List Nat) (f0 : Nat → va_E) (Ψ : Nat → Nat) (hT : TW K (gof gM0) Ψ L f0) (m_ : Nat) (hm_m_ : m_ ∈ L) (ht_m_ : Ψ m_ = 7) (ot : Int32) (yo : Int32) (hu_7 : ∀ b c : Nat, b ∈ L → c ∈ L → Ψ b = 7 → Ψ c = 7 → b = c) : Met l yX7_bide (.code yX7_bide cX7_bide 7 (some .int) :: gt) { frames := 5, cells := 0, slots := 0, locals := 118 } (va_Pc [.ref m_, .int ot, .int yo] (hPre D K b0 sa sz L f0)) (hQ D K b0 (fun v9 u9 => ∃ (r : Int32) (th : Int32) (f2 : Nat → va_E), v9 = some (.int r) ∧ u9 = (gof [(700, th)], Ψ, L, f2) ∧ TW K (gof [(700, th)]) Ψ L f2 ∧ rawk Ψ L f0 f2 ∧ ((r = 0 ∧ th = 1 ∧ (¬ (0 ≤ ot.toInt ∧ ot.toInt ≤ 63 ∧ 0 ≤ yo.toInt ∧ yo.toInt ≤ 63))) ∨ (r = 1 ∧ th = 0 ∧ (0 ≤ ot.toInt ∧ ot.toInt ≤ 63 ∧ 0 ≤ yo.toInt ∧ yo.toInt ≤ 63))))) 0 0 (fun q => b0 ≤ q) := by
  refine t_of (own := RX7) (by decide) rfl ?_ (Nat.le_of_ble_eq_true rfl)
  intro p e s m below meth c ls C w hsz hr hlk hnm hl
  have hx := C.1
  have hb := C.2.1
  have hl : lv_has ls 7 [(0, .ref m_), (1, .int ot), (2, .int yo)] := hl
  have hb_ot := ti_bd ot
  have hb_yo := ti_bd yo
  have hR : rawk Ψ L f0 f0 := rawk.rf
  refine lv_aload_n hx hb dX7_bide_0 rfl (lv_at hl 0 rfl) ?_
  refine lv_iconst (v := 0) hx hb dX7_bide_1 (by decide) ?_
  refine t_puti C w hT hm_m_ ht_m_ (by decide) rfl cin_7 tyX7 tyX7_ok nmX7 0 (by decide) rfl rfl rfl rfl rfl (gof_is rfl) gw_1156 dX7_bide_2 (fun f H locs w hT hR1 => ?_)
  have hR := hR.tr hR1
  refine lv_aload_n hx hb dX7_bide_5 rfl (lv_at hl 0 rfl) ?_
  refine lv_iload_n hx hb dX7_bide_6 rfl (lv_at hl 1 rfl) ?_
  refine t_callS (n := 1) C w (c_X7_isCell l D K b0 sa _ L _ Ψ (gof gM0) hT ot) gw_1467 gw_1465 gw_1466 gw_8 ⟨by decide, by decide, by decide +kernel⟩ rfl rfl ⟨by decide, by decide⟩ rfl hl.1 rfl (Nat.le_of_ble_eq_true rfl) dX7_bide_7 ⟨by decide, by decide⟩ (fun v u H locs hp w => ?_)
  obtain ⟨r1, rfl, rfl, hrr1⟩ := hp
  rcases hrr1 with ⟨rfl, hf0_r1, hf1_r1⟩ | ⟨rfl, hf0_r1⟩
  ·
    refine lv_if_eq (tgt := 20) hx hb dX7_bide_10 (by decide) (fun c0 => absurd c0 (by decide)) (fun _ => ?_)
    refine lv_iload_n hx hb dX7_bide_13 rfl (lv_at hl 2 rfl) ?_
    refine t_callS (n := 1) C w (c_X7_isCell l D K b0 sa _ L _ Ψ (gof gM0) hT yo) gw_1467 gw_1465 gw_1466 gw_8 ⟨by decide, by decide, by decide +kernel⟩ rfl rfl ⟨by decide, by decide⟩ rfl hl.1 rfl (Nat.le_of_ble_eq_true rfl) dX7_bide_14 ⟨by decide, by decide⟩ (fun v u H locs hp w => ?_)
    obtain ⟨r2, rfl, rfl, hrr2⟩ := hp
    rcases hrr2 with ⟨rfl, hf0_r2, hf1_r2⟩ | ⟨rfl, hf0_r2⟩
    ·
      refine lv_if_ne (tgt := 24) hx hb dX7_bide_17 (by decide) (fun _ => ?_) (fun c0 => absurd c0 (by decide))
      refine lv_iconst (v := 0) hx hb dX7_bide_24 (by decide) ?_
      refine lv_iconst (v := 1) hx hb dX7_bide_25 (by decide) ?_
      have n1 : (1 : Int32).toInt = 1 := by decide
      refine t_callV (n := 2) C w hT hm_m_ ht_m_ (by decide) rfl rfl (c_X7_bad0 l D K b0 sa _ L _ Ψ (hT.mono (gof_sub rfl)) m_ hm_m_ ht_m_ 1) gw_1347 gw_1344 gw_1346 gs_22 gw_8 ⟨by decide, by decide, by decide +kernel⟩ rfl rfl ⟨by decide, by decide⟩ rfl hl.1 rfl (Nat.le_of_ble_eq_true rfl) dX7_bide_26 ⟨by decide, by decide⟩ (fun v u H locs hp w => ?_)
      obtain ⟨r3, rfl, rfl, hrr3⟩ := hp
      obtain rfl := hrr3
      refine lv_if_eq (tgt := 34) hx hb dX7_bide_29 (by decide) (fun _ => ?_) (fun c0 => absurd c0 (by decide))
      refine lv_iconst (v := 1) hx hb dX7_bide_34 (by decide) ?_
      refine lv_istore_n (lv' := [(3, .int 1), (0, .ref m_), (1, .int ot), (2, .int yo)]) hx hb dX7_bide_35 rfl hl (by decide) rfl (fun ls hl => ?_)
      refine lv_aload_n hx hb dX7_bide_36 rfl (lv_at hl 1 rfl) ?_
      refine lv_iload_n hx hb dX7_bide_37 rfl (lv_at hl 2 rfl) ?_
      refine lv_iload_n hx hb dX7_bide_38 rfl (lv_at hl 3 rfl) ?_
      refine lv_iconst (v := 1) hx hb dX7_bide_39 (by decide) ?_
      refine t_callV (n := 3) C w hT hm_m_ ht_m_ (by decide) rfl rfl (c_X7_worthOf l D K b0 sa _ L _ Ψ (hT.mono (gof_sub rfl)) m_ hm_m_ ht_m_ ot (by omega) (by omega) yo (by omega) (by omega) 1 (by omega) (by omega) hu_7) gw_1633 gw_1630 gw_1632 gs_63 gw_8 ⟨by decide, by decide, by decide +kernel⟩ rfl rfl ⟨by decide, by decide⟩ rfl hl.1 rfl (Nat.le_of_ble_eq_true rfl) dX7_bide_40 ⟨by decide, by decide⟩ (fun v u H locs hp w => ?_)
      obtain ⟨r4, f2, rfl, rfl, hT2, hR1, hrr4⟩ := hp
      have hR := hR.tr hR1
      clear hT
      have hT := hT2
      clear hT2
      generalize f2 = f at w hT hR
      obtain rfl := hrr4
      refine lv_istore (lv' := [(4, .int (-1)), (3, .int 1), (0, .ref m_), (1, .int ot), (2, .int yo)]) hx hb dX7_bide_43 hl (by decide) rfl (fun ls hl => ?_)
      refine lv_iconst (v := 2) hx hb dX7_bide_45 (by decide) ?_
      refine lv_istore (lv' := [(5, .int 2), (4, .int (-1)), (3, .int 1), (0, .ref m_), (1, .int ot), (2, .int yo)]) hx hb dX7_bide_46 hl (by decide) rfl (fun ls hl => ?_)
      have loop5 : ∀ (n i5 : Nat), 2 ≤ i5 → (i5 : Int) ≤ 21 → 21 - (i5 : Int) < (n : Int) → ∀ (f : Nat → va_E) (H : Heap) (locs : List Loc), Wh D K b0 sa s H locs L f → TW K (gof gM1) Ψ L f → rawk Ψ L f0 f → ∀ ls : Array Slot, lv_has ls 7 [(5, .int (nI i5)), (4, .int (-1)), (3, .int 1), (0, .ref m_), (1, .int ot), (2, .int yo)] → W p l e { frames := 5, cells := 0, slots := 0, locals := 118 } s m [.ref m_, .int ot, .int yo].toArray below meth c H locs 0 0 (MQ below (hQ D K b0 (fun v9 u9 => ∃ (r : Int32) (th : Int32) (f2 : Nat → va_E), v9 = some (.int r) ∧ u9 = (gof [(700, th)], Ψ, L, f2) ∧ TW K (gof [(700, th)]) Ψ L f2 ∧ rawk Ψ L f0 f2 ∧ ((r = 0 ∧ th = 1 ∧ (¬ (0 ≤ ot.toInt ∧ ot.toInt ≤ 63 ∧ 0 ≤ yo.toInt ∧ yo.toInt ≤ 63))) ∨ (r = 1 ∧ th = 0 ∧ (0 ≤ ot.toInt ∧ ot.toInt ≤ 63 ∧ 0 ≤ yo.toInt ∧ yo.toInt ≤ 63))))) [.ref m_, .int ot, .int yo].toArray s 0 0 (fun q => b0 ≤ q)) (F0 m 48 ls []) := by
        intro n
        induction n with
        | zero => intro i5 h0 h1 h2; exact absurd h2 (by omega)
        | succ n ih5 =>
          intro i5 hj5 hi5 hn5 f H locs w hT hR ls hl
          have ti5 : (nI i5).toInt = (i5 : Int) := nI_toInt (by omega)
          refine lv_iload hx hb dX7_bide_48 (lv_at hl 0 rfl) ?_
          refine lv_bipush (v := 20) hx hb dX7_bide_50 (by decide) ?_
          have n20 : (20 : Int32).toInt = 20 := by decide
          refine lv_icmp_gt (tgt := 101) hx hb dX7_bide_52 (by decide) (fun c6 => ?_) (fun c6 => ?_)
          · have c6 := lt_toInt c6
            refine lv_iload_n hx hb dX7_bide_101 rfl (lv_at hl 2 rfl) ?_
            have n1 : (1 : Int32).toInt = 1 := by decide
            exact t_iret C hr hlk w ⟨_, 0, _, rfl, rfl, hT.mono (gof_sub rfl), hR, Or.inr (⟨rfl, rfl, (by omega)⟩)⟩ (by decide) (by decide) dX7_bide_102
          · have c6 := nlt_toInt c6
            refine lv_aload_n hx hb dX7_bide_55 rfl (lv_at hl 3 rfl) ?_
            refine lv_iload_n hx hb dX7_bide_56 rfl (lv_at hl 4 rfl) ?_
            refine lv_iload_n hx hb dX7_bide_57 rfl (lv_at hl 5 rfl) ?_
            refine lv_iload hx hb dX7_bide_58 (lv_at hl 0 rfl) ?_
            refine t_callV (n := 3) C w hT hm_m_ ht_m_ (by decide) rfl rfl (c_X7_worthOf l D K b0 sa _ L _ Ψ hT m_ hm_m_ ht_m_ ot (by omega) (by omega) yo (by omega) (by omega) (nI i5) (by omega) (by omega) hu_7) gw_1633 gw_1630 gw_1632 gs_63 gw_8 ⟨by decide, by decide, by decide +kernel⟩ rfl rfl ⟨by decide, by decide⟩ rfl hl.1 rfl (Nat.le_of_ble_eq_true rfl) dX7_bide_60 ⟨by decide, by decide⟩ (fun v u H locs hp w => ?_)
            obtain ⟨r7, f2, rfl, rfl, hT2, hR1, hrr7⟩ := hp
            have hR := hR.tr hR1
            clear hT
            have hT := hT2
            clear hT2
            generalize f2 = f at w hT hR
            obtain rfl := hrr7
            refine lv_istore (lv' := [(6, .int (-1)), (5, .int (nI i5)), (4, .int (-1)), (3, .int 1), (0, .ref m_), (1, .int ot), (2, .int yo)]) hx hb dX7_bide_63 hl (by decide) rfl (fun ls hl => ?_)
            refine lv_iload hx hb dX7_bide_65 (lv_at hl 0 rfl) ?_
            refine lv_iload hx hb dX7_bide_67 (lv_at hl 2 rfl) ?_
            refine lv_icmp_le (tgt := 77) hx hb dX7_bide_69 (by decide) (fun _ => ?_) (fun c0 => absurd c0 (by decide))
            refine lv_iload_n hx hb dX7_bide_77 rfl (lv_at hl 3 rfl) ?_
            refine lv_istore_n (lv' := [(3, .int 1), (6, .int (-1)), (5, .int (nI i5)), (4, .int (-1)), (0, .ref m_), (1, .int ot), (2, .int yo)]) hx hb dX7_bide_78 rfl hl (by decide) rfl (fun ls hl => ?_)
            refine lv_iload hx hb dX7_bide_79 (lv_at hl 1 rfl) ?_
            refine lv_iload hx hb dX7_bide_81 (lv_at hl 3 rfl) ?_
            refine lv_icmp_le (tgt := 91) hx hb dX7_bide_83 (by decide) (fun _ => ?_) (fun c0 => absurd c0 (by decide))
            refine lv_iload hx hb dX7_bide_91 (lv_at hl 3 rfl) ?_
            refine lv_istore (lv' := [(4, .int (-1)), (3, .int 1), (6, .int (-1)), (5, .int (nI i5)), (0, .ref m_), (1, .int ot), (2, .int yo)]) hx hb dX7_bide_93 hl (by decide) rfl (fun ls hl => ?_)
            refine lv_iinc (v := (nI (i5 + 1))) (lv' := [(5, .int (nI (i5 + 1))), (4, .int (-1)), (3, .int 1), (6, .int (-1)), (0, .ref m_), (1, .int ot), (2, .int yo)]) hx hb dX7_bide_95 hl (k := 3) rfl (by exact nI_1 i5) (by decide) rfl (fun ls hl => ?_)
            refine lv_goto (tgt := 48) hx hb dX7_bide_98 (by decide) ?_
            exact ih5 (i5 + 1) (by omega) (by omega) (by omega) _ _ _ w hT hR ls (lv_sub hl [0, 1, 2, 4, 5, 6] rfl)
      exact loop5 23 2 (by omega) (by omega) (by omega) _ _ _ w hT hR ls hl
    ·
      refine lv_if_ne (tgt := 24) hx hb dX7_bide_17 (by decide) (fun c0 => absurd c0 (by decide)) (fun _ => ?_)
      refine lv_iconst (v := 1) hx hb dX7_bide_20 (by decide) ?_
      refine lv_goto (tgt := 25) hx hb dX7_bide_21 (by decide) ?_
      refine lv_iconst (v := 1) hx hb dX7_bide_25 (by decide) ?_
      refine t_callV (n := 2) C w hT hm_m_ ht_m_ (by decide) rfl rfl (c_X7_bad1 l D K b0 sa _ L _ Ψ hT m_ hm_m_ ht_m_ hu_7) gw_1347 gw_1344 gw_1346 gs_22 gw_8 ⟨by decide, by decide, by decide +kernel⟩ rfl rfl ⟨by decide, by decide⟩ rfl hl.1 rfl (Nat.le_of_ble_eq_true rfl) dX7_bide_26 ⟨by decide, by decide⟩ (fun v u H locs hp w => ?_)
      obtain ⟨r8, f2, rfl, rfl, hT2, hR1, hrr8⟩ := hp
      have hR := hR.tr hR1
      clear hT
      have hT := hT2
      clear hT2
      generalize f2 = f at w hT hR
      obtain rfl := hrr8
      refine lv_if_eq (tgt := 34) hx hb dX7_bide_29 (by decide) (fun c0 => absurd c0 (by decide)) (fun _ => ?_)
      refine lv_iconst (v := 0) hx hb dX7_bide_32 (by decide) ?_
      have n0 : (0 : Int32).toInt = 0 := by decide
      exact t_iret C hr hlk w ⟨_, 1, _, rfl, rfl, hT.mono (gof_sub rfl), hR, Or.inl ⟨rfl, rfl, (by omega)⟩⟩ (by decide) (by decide) dX7_bide_33
  ·
    refine lv_if_eq (tgt := 20) hx hb dX7_bide_10 (by decide) (fun _ => ?_) (fun c0 => absurd c0 (by decide))
    refine lv_iconst (v := 1) hx hb dX7_bide_20 (by decide) ?_
    refine lv_goto (tgt := 25) hx hb dX7_bide_21 (by decide) ?_
    refine lv_iconst (v := 1) hx hb dX7_bide_25 (by decide) ?_
    refine t_callV (n := 2) C w hT hm_m_ ht_m_ (by decide) rfl rfl (c_X7_bad1 l D K b0 sa _ L _ Ψ hT m_ hm_m_ ht_m_ hu_7) gw_1347 gw_1344 gw_1346 gs_22 gw_8 ⟨by decide, by decide, by decide +kernel⟩ rfl rfl ⟨by decide, by decide⟩ rfl hl.1 rfl (Nat.le_of_ble_eq_true rfl) dX7_bide_26 ⟨by decide, by decide⟩ (fun v u H locs hp w => ?_)
    obtain ⟨r9, f2, rfl, rfl, hT2, hR1, hrr9⟩ := hp
    have hR := hR.tr hR1
    clear hT
    have hT := hT2
    clear hT2
    generalize f2 = f at w hT hR
    obtain rfl := hrr9
    refine lv_if_eq (tgt := 34) hx hb dX7_bide_29 (by decide) (fun c0 => absurd c0 (by decide)) (fun _ => ?_)
    refine lv_iconst (v := 0) hx hb dX7_bide_32 (by decide) ?_
    have n0 : (0 : Int32).toInt = 0 := by decide
    exact t_iret C hr hlk w ⟨_, 1, _, rfl, rfl, hT.mono (gof_sub rfl), hR, Or.inl ⟨rfl, rfl, (by omega)⟩⟩ (by decide) (by decide) dX7_bide_33
