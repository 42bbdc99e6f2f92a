/-! the pure part: the reader -/
theorem s_B_X4_condition_6 (R : Nat → Int32 → fS → Option (Int32 × fS)) (d : Int) (hR0 : ∀ (q : Int32) (S : fS), RI S → 3 * (6 - (ge S 17 0 8).toInt) + 5 ≤ d → zk (R 0 q S) (fun v S9 => RI S9 ∧ Fr 4097 S S9 ∧ (v.toInt = 0 ∨ (v.toInt = 1 ∧ (ge S9 17 0 8).toInt = (ge S 17 0 8).toInt)))) (hR1 : ∀ (q : Int32) (S : fS), RI S → 3 * (6 - (ge S 17 0 8).toInt) + 4 ≤ d → zk (R 1 q S) (fun v S9 => RI S9 ∧ Fr 4097 S S9 ∧ (v.toInt = 0 ∨ (v.toInt = 1 ∧ (ge S9 17 0 8).toInt = (ge S 17 0 8).toInt)))) (hR2 : ∀ (q : Int32) (S : fS), RI S → 3 * (6 - (ge S 17 0 8).toInt) + 2 ≤ d → zk (R 2 q S) (fun v S9 => RI S9 ∧ Fr 4097 S S9 ∧ (v.toInt = 0 ∨ (v.toInt = 1 ∧ (ge S9 17 0 8).toInt = (ge S 17 0 8).toInt)))) (hR3 : ∀ (q : Int32) (S : fS), RI S → 3 * (6 - (ge S 17 0 8).toInt) + 3 ≤ d → zk (R 3 q S) (fun v S9 => RI S9 ∧ Fr 4097 S S9 ∧ (v.toInt = 0 ∨ (v.toInt = 1 ∧ (ge S9 17 0 8).toInt = (ge S 17 0 8).toInt)))) (hR4 : ∀ (q : Int32) (S : fS), RI S → 3 * (6 - (ge S 17 0 8).toInt) + 2 ≤ d → zk (R 4 q S) (fun v S9 => RI S9 ∧ Fr 4097 S S9 ∧ (v.toInt = 0 ∨ (v.toInt = 1 ∧ (ge S9 17 0 8).toInt = (ge S 17 0 8).toInt)))) (hR5 : ∀ (q : Int32) (S : fS), RI S → 3 * (6 - (ge S 17 0 8).toInt) + 1 ≤ d → zk (R 5 q S) (fun v S9 => RI S9 ∧ Fr 4097 S S9 ∧ (v.toInt = 0 ∨ (v.toInt = 1 ∧ (ge S9 17 0 8).toInt = (ge S 17 0 8).toInt)))) (z : Int32 × Int32 × Int32) (S : fS) (RS : RI S) (hi : 0 ≤ z.2.2.toInt ∧ z.2.2.toInt ≤ 301 ∧ 3 * (6 - (ge S 17 0 8).toInt) + 4 ≤ d) (hm : (301 - z.2.2.toInt).toNat < 4294967296) : zk (lp (B_X4_condition_6 R) fuel z S) (fun v S9 => RI S9 ∧ Fr 4097 S S9 ∧ (v.toInt = 0 ∨ (v.toInt = 1 ∧ (ge S9 17 0 8).toInt = (ge S 17 0 8).toInt))) := by
  have l0 : (0 : Int32).toInt = 0 := by decide
  have l1 : (1 : Int32).toInt = 1 := by decide
  have l264 : (264 : Int32).toInt = 264 := by decide
  have l265 : (265 : Int32).toInt = 265 := by decide
  have l300 : (300 : Int32).toInt = 300 := by decide
  have l2009 : (2009 : Int32).toInt = 2009 := by decide
  have l2010 : (2010 : Int32).toInt = 2010 := by decide
  have lo1 : (Int32.ofInt 1).toInt = 1 := by decide
  refine zk_lp (fun z S => RI S ∧ (0 ≤ z.2.2.toInt ∧ z.2.2.toInt ≤ 301 ∧ 3 * (6 - (ge S 17 0 8).toInt) + 4 ≤ d)) (fun z S => (301 - z.2.2.toInt).toNat) (fun z S (v : Int32) S9 => RI S9 ∧ Fr 4097 S S9 ∧ (v.toInt = 0 ∨ (v.toInt = 1 ∧ (ge S9 17 0 8).toInt = (ge S 17 0 8).toInt))) ?_ z S ⟨RS, hi⟩ hm
  clear RS hi hm
  intro k z S hI hk
  obtain ⟨RS, hI⟩ := hI
  obtain ⟨a1, a2, a3⟩ := z
  (try dsimp only at hI); (try dsimp only at hk); (try dsimp only)
  have FS : Fr 4097 S S := Fr.rf
  unfold B_X4_condition_6
  dsimp only
  obtain ⟨y1, ey1⟩ : ∃ y : Int32, y = ge S 17 0 8 := ⟨_, rfl⟩
  have gy1 : 0 ≤ y1.toInt ∧ y1.toInt ≤ 6 := by rw [ey1]; exact RS 17 _ _
  have q2 : (ge S 17 0 8).toInt = y1.toInt := congrArg Int32.toInt (show ge S 17 0 8 = y1 from ey1.symm)
  refine zk_lt (fun c3 => ?_) (fun c3 => ?_)
  ·
    have q4 : (ge S 17 0 8).toInt = y1.toInt := congrArg Int32.toInt (show ge S 17 0 8 = y1 from ey1.symm)
    refine zk_bd (s_F_X4_fail _ _ RS) (fun v5 T6 h5 => ?_)
    obtain ⟨RT6, fT6, h5⟩ := h5
    have FT6 := FS.tr (fT6.sub (m := 4097) (by decide))
    have q7 : (ge T6 17 0 8).toInt = y1.toInt := congrArg Int32.toInt (show ge T6 17 0 8 = y1 from ((fT6.1 17 0 8 rfl).trans ey1.symm))
    refine zk_gd (z01 (by omega)) ?_
    have q8 : (ge T6 17 0 8).toInt = y1.toInt := congrArg Int32.toInt (show ge T6 17 0 8 = y1 from ((fT6.1 17 0 8 rfl).trans ey1.symm))
    exact zk_some ⟨RT6, FT6, by omega⟩
  ·
    have q9 : (ge S 17 0 8).toInt = y1.toInt := congrArg Int32.toInt (show ge S 17 0 8 = y1 from ey1.symm)
    refine zk_bd (hR1 _ _ RS (by omega)) (fun v10 T11 h10 => ?_)
    obtain ⟨RT11, fT11, h10⟩ := h10
    have FT11 := FS.tr (fT11.sub (m := 4097) (by decide))
    obtain ⟨y12, ey12⟩ : ∃ y : Int32, y = ge T11 17 0 8 := ⟨_, rfl⟩
    have gy12 : 0 ≤ y12.toInt ∧ y12.toInt ≤ 6 := by rw [ey12]; exact RT11 17 _ _
    have q13 : (ge T11 17 0 8).toInt = y12.toInt := congrArg Int32.toInt (show ge T11 17 0 8 = y12 from ey12.symm)
    refine zk_eq (fun c14 => ?_) (fun c14 => ?_)
    ·
      have q15 : (ge T11 17 0 8).toInt = y12.toInt := congrArg Int32.toInt (show ge T11 17 0 8 = y12 from ey12.symm)
      exact zk_some ⟨RT11, FT11, by omega⟩
    ·
      have b16 := ti_bd a2
      refine zk_eq (fun c17 => ?_) (fun c17 => ?_)
      ·
        unfold B_X4_condition_33
        have q18 : (ge T11 17 0 8).toInt = y12.toInt := congrArg Int32.toInt (show ge T11 17 0 8 = y12 from ey12.symm)
        refine zk_bd (s_F_X4_passed _ _ RT11) (fun v19 T20 h19 => ?_)
        obtain ⟨RT20, fT20, h19⟩ := h19
        have FT20 := FT11.tr (fT20.sub (m := 4097) (by decide))
        have q21 : (ge T20 17 0 8).toInt = y12.toInt := congrArg Int32.toInt (show ge T20 17 0 8 = y12 from ((fT20.1 17 0 8 rfl).trans ey12.symm))
        refine zk_eq (fun c22 => ?_) (fun c22 => ?_)
        ·
          have b23 := ti_bd a1
          refine zk_eq (fun c24 => ?_) (fun c24 => ?_)
          ·
            unfold B_X4_condition_56
            have q25 : (ge T20 17 0 8).toInt = y12.toInt := congrArg Int32.toInt (show ge T20 17 0 8 = y12 from ((fT20.1 17 0 8 rfl).trans ey12.symm))
            refine zk_bd (s_F_X4_passed _ _ RT20) (fun v26 T27 h26 => ?_)
            obtain ⟨RT27, fT27, h26⟩ := h26
            have FT27 := FT20.tr (fT27.sub (m := 4097) (by decide))
            have q28 : (ge T27 17 0 8).toInt = y12.toInt := congrArg Int32.toInt (show ge T27 17 0 8 = y12 from ((fT27.1 17 0 8 rfl).trans ((fT20.1 17 0 8 rfl).trans ey12.symm)))
            refine zk_eq (fun c29 => ?_) (fun c29 => ?_)
            ·
              have q30 : (ge T27 17 0 8).toInt = y12.toInt := congrArg Int32.toInt (show ge T27 17 0 8 = y12 from ((fT27.1 17 0 8 rfl).trans ((fT20.1 17 0 8 rfl).trans ey12.symm)))
              exact zk_some ⟨RT27, FT27, by omega⟩
            ·
              unfold B_X4_condition_70
              refine zk_iv fun x31 e31 => ?_
              have gx31 : x31.toInt = a3.toInt + (Int32.ofInt 1).toInt := by rw [e31]; exact ti_add (by omega) (by omega)
              have q32 : (ge T27 17 0 8).toInt = y12.toInt := congrArg Int32.toInt (show ge T27 17 0 8 = y12 from ((fT27.1 17 0 8 rfl).trans ((fT20.1 17 0 8 rfl).trans ey12.symm)))
              refine zk_imp (hk (v26, v19, x31) _ ⟨RT27, (by (try dsimp only) <;> omega)⟩ (by (try dsimp only) <;> omega)) (fun v33 T34 h33 => ?_)
              obtain ⟨RT34, FT34, h33⟩ := h33
              try dsimp only at h33
              exact ⟨RT34, FT27.tr FT34, by omega⟩
          ·
            have q35 : (ge T20 17 0 8).toInt = y12.toInt := congrArg Int32.toInt (show ge T20 17 0 8 = y12 from ((fT20.1 17 0 8 rfl).trans ey12.symm))
            refine zk_bd (s_F_X4_emit _ _ RT20) (fun v36 T37 h36 => ?_)
            obtain ⟨RT37, fT37, h36⟩ := h36
            have FT37 := FT20.tr (fT37.sub (m := 4097) (by decide))
            have q38 : (ge T37 17 0 8).toInt = y12.toInt := congrArg Int32.toInt (show ge T37 17 0 8 = y12 from ((fT37.1 17 0 8 rfl).trans ((fT20.1 17 0 8 rfl).trans ey12.symm)))
            unfold B_X4_condition_56
            have q39 : (ge T37 17 0 8).toInt = y12.toInt := congrArg Int32.toInt (show ge T37 17 0 8 = y12 from ((fT37.1 17 0 8 rfl).trans ((fT20.1 17 0 8 rfl).trans ey12.symm)))
            refine zk_bd (s_F_X4_passed _ _ RT37) (fun v40 T41 h40 => ?_)
            obtain ⟨RT41, fT41, h40⟩ := h40
            have FT41 := FT37.tr (fT41.sub (m := 4097) (by decide))
            have q42 : (ge T41 17 0 8).toInt = y12.toInt := congrArg Int32.toInt (show ge T41 17 0 8 = y12 from ((fT41.1 17 0 8 rfl).trans ((fT37.1 17 0 8 rfl).trans ((fT20.1 17 0 8 rfl).trans ey12.symm))))
            refine zk_eq (fun c43 => ?_) (fun c43 => ?_)
            ·
              have q44 : (ge T41 17 0 8).toInt = y12.toInt := congrArg Int32.toInt (show ge T41 17 0 8 = y12 from ((fT41.1 17 0 8 rfl).trans ((fT37.1 17 0 8 rfl).trans ((fT20.1 17 0 8 rfl).trans ey12.symm))))
              exact zk_some ⟨RT41, FT41, by omega⟩
            ·
              unfold B_X4_condition_70
              refine zk_iv fun x45 e45 => ?_
              have gx45 : x45.toInt = a3.toInt + (Int32.ofInt 1).toInt := by rw [e45]; exact ti_add (by omega) (by omega)
              have q46 : (ge T41 17 0 8).toInt = y12.toInt := congrArg Int32.toInt (show ge T41 17 0 8 = y12 from ((fT41.1 17 0 8 rfl).trans ((fT37.1 17 0 8 rfl).trans ((fT20.1 17 0 8 rfl).trans ey12.symm))))
              refine zk_imp (hk (v40, v19, x45) _ ⟨RT41, (by (try dsimp only) <;> omega)⟩ (by (try dsimp only) <;> omega)) (fun v47 T48 h47 => ?_)
              obtain ⟨RT48, FT48, h47⟩ := h47
              try dsimp only at h47
              exact ⟨RT48, FT41.tr FT48, by omega⟩
        ·
          unfold B_X4_condition_70
          refine zk_iv fun x49 e49 => ?_
          have gx49 : x49.toInt = a3.toInt + (Int32.ofInt 1).toInt := by rw [e49]; exact ti_add (by omega) (by omega)
          have q50 : (ge T20 17 0 8).toInt = y12.toInt := congrArg Int32.toInt (show ge T20 17 0 8 = y12 from ((fT20.1 17 0 8 rfl).trans ey12.symm))
          refine zk_imp (hk (a1, v19, x49) _ ⟨RT20, (by (try dsimp only) <;> omega)⟩ (by (try dsimp only) <;> omega)) (fun v51 T52 h51 => ?_)
          obtain ⟨RT52, FT52, h51⟩ := h51
          try dsimp only at h51
          exact ⟨RT52, FT20.tr FT52, by omega⟩
      ·
        have q53 : (ge T11 17 0 8).toInt = y12.toInt := congrArg Int32.toInt (show ge T11 17 0 8 = y12 from ey12.symm)
        refine zk_bd (s_F_X4_emit _ _ RT11) (fun v54 T55 h54 => ?_)
        obtain ⟨RT55, fT55, h54⟩ := h54
        have FT55 := FT11.tr (fT55.sub (m := 4097) (by decide))
        have q56 : (ge T55 17 0 8).toInt = y12.toInt := congrArg Int32.toInt (show ge T55 17 0 8 = y12 from ((fT55.1 17 0 8 rfl).trans ey12.symm))
        unfold B_X4_condition_33
        have q57 : (ge T55 17 0 8).toInt = y12.toInt := congrArg Int32.toInt (show ge T55 17 0 8 = y12 from ((fT55.1 17 0 8 rfl).trans ey12.symm))
        refine zk_bd (s_F_X4_passed _ _ RT55) (fun v58 T59 h58 => ?_)
        obtain ⟨RT59, fT59, h58⟩ := h58
        have FT59 := FT55.tr (fT59.sub (m := 4097) (by decide))
        have q60 : (ge T59 17 0 8).toInt = y12.toInt := congrArg Int32.toInt (show ge T59 17 0 8 = y12 from ((fT59.1 17 0 8 rfl).trans ((fT55.1 17 0 8 rfl).trans ey12.symm)))
        refine zk_eq (fun c61 => ?_) (fun c61 => ?_)
        ·
          have b62 := ti_bd a1
          refine zk_eq (fun c63 => ?_) (fun c63 => ?_)
          ·
            unfold B_X4_condition_56
            have q64 : (ge T59 17 0 8).toInt = y12.toInt := congrArg Int32.toInt (show ge T59 17 0 8 = y12 from ((fT59.1 17 0 8 rfl).trans ((fT55.1 17 0 8 rfl).trans ey12.symm)))
            refine zk_bd (s_F_X4_passed _ _ RT59) (fun v65 T66 h65 => ?_)
            obtain ⟨RT66, fT66, h65⟩ := h65
            have FT66 := FT59.tr (fT66.sub (m := 4097) (by decide))
            have q67 : (ge T66 17 0 8).toInt = y12.toInt := congrArg Int32.toInt (show ge T66 17 0 8 = y12 from ((fT66.1 17 0 8 rfl).trans ((fT59.1 17 0 8 rfl).trans ((fT55.1 17 0 8 rfl).trans ey12.symm))))
            refine zk_eq (fun c68 => ?_) (fun c68 => ?_)
            ·
              have q69 : (ge T66 17 0 8).toInt = y12.toInt := congrArg Int32.toInt (show ge T66 17 0 8 = y12 from ((fT66.1 17 0 8 rfl).trans ((fT59.1 17 0 8 rfl).trans ((fT55.1 17 0 8 rfl).trans ey12.symm))))
              exact zk_some ⟨RT66, FT66, by omega⟩
            ·
              unfold B_X4_condition_70
              refine zk_iv fun x70 e70 => ?_
              have gx70 : x70.toInt = a3.toInt + (Int32.ofInt 1).toInt := by rw [e70]; exact ti_add (by omega) (by omega)
              have q71 : (ge T66 17 0 8).toInt = y12.toInt := congrArg Int32.toInt (show ge T66 17 0 8 = y12 from ((fT66.1 17 0 8 rfl).trans ((fT59.1 17 0 8 rfl).trans ((fT55.1 17 0 8 rfl).trans ey12.symm))))
              refine zk_imp (hk (v65, v58, x70) _ ⟨RT66, (by (try dsimp only) <;> omega)⟩ (by (try dsimp only) <;> omega)) (fun v72 T73 h72 => ?_)
              obtain ⟨RT73, FT73, h72⟩ := h72
              try dsimp only at h72
              exact ⟨RT73, FT66.tr FT73, by omega⟩
          ·
            have q74 : (ge T59 17 0 8).toInt = y12.toInt := congrArg Int32.toInt (show ge T59 17 0 8 = y12 from ((fT59.1 17 0 8 rfl).trans ((fT55.1 17 0 8 rfl).trans ey12.symm)))
            refine zk_bd (s_F_X4_emit _ _ RT59) (fun v75 T76 h75 => ?_)
            obtain ⟨RT76, fT76, h75⟩ := h75
            have FT76 := FT59.tr (fT76.sub (m := 4097) (by decide))
            have q77 : (ge T76 17 0 8).toInt = y12.toInt := congrArg Int32.toInt (show ge T76 17 0 8 = y12 from ((fT76.1 17 0 8 rfl).trans ((fT59.1 17 0 8 rfl).trans ((fT55.1 17 0 8 rfl).trans ey12.symm))))
            unfold B_X4_condition_56
            have q78 : (ge T76 17 0 8).toInt = y12.toInt := congrArg Int32.toInt (show ge T76 17 0 8 = y12 from ((fT76.1 17 0 8 rfl).trans ((fT59.1 17 0 8 rfl).trans ((fT55.1 17 0 8 rfl).trans ey12.symm))))
            refine zk_bd (s_F_X4_passed _ _ RT76) (fun v79 T80 h79 => ?_)
            obtain ⟨RT80, fT80, h79⟩ := h79
            have FT80 := FT76.tr (fT80.sub (m := 4097) (by decide))
            have q81 : (ge T80 17 0 8).toInt = y12.toInt := congrArg Int32.toInt (show ge T80 17 0 8 = y12 from ((fT80.1 17 0 8 rfl).trans ((fT76.1 17 0 8 rfl).trans ((fT59.1 17 0 8 rfl).trans ((fT55.1 17 0 8 rfl).trans ey12.symm)))))
            refine zk_eq (fun c82 => ?_) (fun c82 => ?_)
            ·
              have q83 : (ge T80 17 0 8).toInt = y12.toInt := congrArg Int32.toInt (show ge T80 17 0 8 = y12 from ((fT80.1 17 0 8 rfl).trans ((fT76.1 17 0 8 rfl).trans ((fT59.1 17 0 8 rfl).trans ((fT55.1 17 0 8 rfl).trans ey12.symm)))))
              exact zk_some ⟨RT80, FT80, by omega⟩
            ·
              unfold B_X4_condition_70
              refine zk_iv fun x84 e84 => ?_
              have gx84 : x84.toInt = a3.toInt + (Int32.ofInt 1).toInt := by rw [e84]; exact ti_add (by omega) (by omega)
              have q85 : (ge T80 17 0 8).toInt = y12.toInt := congrArg Int32.toInt (show ge T80 17 0 8 = y12 from ((fT80.1 17 0 8 rfl).trans ((fT76.1 17 0 8 rfl).trans ((fT59.1 17 0 8 rfl).trans ((fT55.1 17 0 8 rfl).trans ey12.symm)))))
              refine zk_imp (hk (v79, v58, x84) _ ⟨RT80, (by (try dsimp only) <;> omega)⟩ (by (try dsimp only) <;> omega)) (fun v86 T87 h86 => ?_)
              obtain ⟨RT87, FT87, h86⟩ := h86
              try dsimp only at h86
              exact ⟨RT87, FT80.tr FT87, by omega⟩
        ·
          unfold B_X4_condition_70
          refine zk_iv fun x88 e88 => ?_
          have gx88 : x88.toInt = a3.toInt + (Int32.ofInt 1).toInt := by rw [e88]; exact ti_add (by omega) (by omega)
          have q89 : (ge T59 17 0 8).toInt = y12.toInt := congrArg Int32.toInt (show ge T59 17 0 8 = y12 from ((fT59.1 17 0 8 rfl).trans ((fT55.1 17 0 8 rfl).trans ey12.symm)))
          refine zk_imp (hk (a1, v58, x88) _ ⟨RT59, (by (try dsimp only) <;> omega)⟩ (by (try dsimp only) <;> omega)) (fun v90 T91 h90 => ?_)
          obtain ⟨RT91, FT91, h90⟩ := h90
          try dsimp only at h90
          exact ⟨RT91, FT59.tr FT91, by omega⟩
theorem s_N_X4_condition (R : Nat → Int32 → fS → Option (Int32 × fS)) (d : Int) (hR0 : ∀ (q : Int32) (S : fS), RI S → 3 * (6 - (ge S 17 0 8).toInt) + 5 ≤ d → zk (R 0 q S) (fun v S9 => RI S9 ∧ Fr 4097 S S9 ∧ (v.toInt = 0 ∨ (v.toInt = 1 ∧ (ge S9 17 0 8).toInt = (ge S 17 0 8).toInt)))) (hR1 : ∀ (q : Int32) (S : fS), RI S → 3 * (6 - (ge S 17 0 8).toInt) + 4 ≤ d → zk (R 1 q S) (fun v S9 => RI S9 ∧ Fr 4097 S S9 ∧ (v.toInt = 0 ∨ (v.toInt = 1 ∧ (ge S9 17 0 8).toInt = (ge S 17 0 8).toInt)))) (hR2 : ∀ (q : Int32) (S : fS), RI S → 3 * (6 - (ge S 17 0 8).toInt) + 2 ≤ d → zk (R 2 q S) (fun v S9 => RI S9 ∧ Fr 4097 S S9 ∧ (v.toInt = 0 ∨ (v.toInt = 1 ∧ (ge S9 17 0 8).toInt = (ge S 17 0 8).toInt)))) (hR3 : ∀ (q : Int32) (S : fS), RI S → 3 * (6 - (ge S 17 0 8).toInt) + 3 ≤ d → zk (R 3 q S) (fun v S9 => RI S9 ∧ Fr 4097 S S9 ∧ (v.toInt = 0 ∨ (v.toInt = 1 ∧ (ge S9 17 0 8).toInt = (ge S 17 0 8).toInt)))) (hR4 : ∀ (q : Int32) (S : fS), RI S → 3 * (6 - (ge S 17 0 8).toInt) + 2 ≤ d → zk (R 4 q S) (fun v S9 => RI S9 ∧ Fr 4097 S S9 ∧ (v.toInt = 0 ∨ (v.toInt = 1 ∧ (ge S9 17 0 8).toInt = (ge S 17 0 8).toInt)))) (hR5 : ∀ (q : Int32) (S : fS), RI S → 3 * (6 - (ge S 17 0 8).toInt) + 1 ≤ d → zk (R 5 q S) (fun v S9 => RI S9 ∧ Fr 4097 S S9 ∧ (v.toInt = 0 ∨ (v.toInt = 1 ∧ (ge S9 17 0 8).toInt = (ge S 17 0 8).toInt)))) (S0 : fS) (RS0 : RI S0) (hpr : 3 * (6 - (ge S0 17 0 8).toInt) + 5 ≤ d + 1) : zk (N_X4_condition R S0) (fun v S9 => RI S9 ∧ Fr 4097 S0 S9 ∧ (v.toInt = 0 ∨ (v.toInt = 1 ∧ (ge S9 17 0 8).toInt = (ge S0 17 0 8).toInt))) := by
  have l0 : (0 : Int32).toInt = 0 := by decide
  have FS0 : Fr 4097 S0 S0 := Fr.rf
  unfold N_X4_condition
  obtain ⟨y1, ey1⟩ : ∃ y : Int32, y = ge S0 17 0 8 := ⟨_, rfl⟩
  have gy1 : 0 ≤ y1.toInt ∧ y1.toInt ≤ 6 := by rw [ey1]; exact RS0 17 _ _
  have q2 : (ge S0 17 0 8).toInt = y1.toInt := congrArg Int32.toInt (show ge S0 17 0 8 = y1 from ey1.symm)
  have q3 : (ge S0 17 0 8).toInt = y1.toInt := congrArg Int32.toInt (show ge S0 17 0 8 = y1 from ey1.symm)
  refine zk_imp (s_B_X4_condition_6 R d hR0 hR1 hR2 hR3 hR4 hR5 _ _ RS0 (by (try dsimp only) <;> omega) (by (try dsimp only) <;> omega)) (fun v4 T5 h4 => ?_)
  obtain ⟨RT5, fT5, h4⟩ := h4
  have FT5 := FS0.tr (fT5.sub (m := 4097) (by decide))
  obtain ⟨y6, ey6⟩ : ∃ y : Int32, y = ge T5 17 0 8 := ⟨_, rfl⟩
  have gy6 : 0 ≤ y6.toInt ∧ y6.toInt ≤ 6 := by rw [ey6]; exact RT5 17 _ _
  have q7 : (ge T5 17 0 8).toInt = y6.toInt := congrArg Int32.toInt (show ge T5 17 0 8 = y6 from ey6.symm)
  try dsimp only at h4
  exact ⟨RT5, FT5, by omega⟩
theorem s_N_X4_claim (R : Nat → Int32 → fS → Option (Int32 × fS)) (d : Int) (hR0 : ∀ (q : Int32) (S : fS), RI S → 3 * (6 - (ge S 17 0 8).toInt) + 5 ≤ d → zk (R 0 q S) (fun v S9 => RI S9 ∧ Fr 4097 S S9 ∧ (v.toInt = 0 ∨ (v.toInt = 1 ∧ (ge S9 17 0 8).toInt = (ge S 17 0 8).toInt)))) (hR1 : ∀ (q : Int32) (S : fS), RI S → 3 * (6 - (ge S 17 0 8).toInt) + 4 ≤ d → zk (R 1 q S) (fun v S9 => RI S9 ∧ Fr 4097 S S9 ∧ (v.toInt = 0 ∨ (v.toInt = 1 ∧ (ge S9 17 0 8).toInt = (ge S 17 0 8).toInt)))) (hR2 : ∀ (q : Int32) (S : fS), RI S → 3 * (6 - (ge S 17 0 8).toInt) + 2 ≤ d → zk (R 2 q S) (fun v S9 => RI S9 ∧ Fr 4097 S S9 ∧ (v.toInt = 0 ∨ (v.toInt = 1 ∧ (ge S9 17 0 8).toInt = (ge S 17 0 8).toInt)))) (hR3 : ∀ (q : Int32) (S : fS), RI S → 3 * (6 - (ge S 17 0 8).toInt) + 3 ≤ d → zk (R 3 q S) (fun v S9 => RI S9 ∧ Fr 4097 S S9 ∧ (v.toInt = 0 ∨ (v.toInt = 1 ∧ (ge S9 17 0 8).toInt = (ge S 17 0 8).toInt)))) (hR4 : ∀ (q : Int32) (S : fS), RI S → 3 * (6 - (ge S 17 0 8).toInt) + 2 ≤ d → zk (R 4 q S) (fun v S9 => RI S9 ∧ Fr 4097 S S9 ∧ (v.toInt = 0 ∨ (v.toInt = 1 ∧ (ge S9 17 0 8).toInt = (ge S 17 0 8).toInt)))) (hR5 : ∀ (q : Int32) (S : fS), RI S → 3 * (6 - (ge S 17 0 8).toInt) + 1 ≤ d → zk (R 5 q S) (fun v S9 => RI S9 ∧ Fr 4097 S S9 ∧ (v.toInt = 0 ∨ (v.toInt = 1 ∧ (ge S9 17 0 8).toInt = (ge S 17 0 8).toInt)))) (S0 : fS) (RS0 : RI S0) (hpr : 3 * (6 - (ge S0 17 0 8).toInt) + 4 ≤ d + 1) : zk (N_X4_claim R S0) (fun v S9 => RI S9 ∧ Fr 4097 S0 S9 ∧ (v.toInt = 0 ∨ (v.toInt = 1 ∧ (ge S9 17 0 8).toInt = (ge S0 17 0 8).toInt))) := by
  have lm1 : (-1 : Int32).toInt = -1 := by decide
  have l0 : (0 : Int32).toInt = 0 := by decide
  have l1 : (1 : Int32).toInt = 1 := by decide
  have l4 : (4 : Int32).toInt = 4 := by decide
  have l91 : (91 : Int32).toInt = 91 := by decide
  have l93 : (93 : Int32).toInt = 93 := by decide
  have l266 : (266 : Int32).toInt = 266 := by decide
  have FS0 : Fr 4097 S0 S0 := Fr.rf
  unfold N_X4_claim
  obtain ⟨y1, ey1⟩ : ∃ y : Int32, y = ge S0 17 0 8 := ⟨_, rfl⟩
  have gy1 : 0 ≤ y1.toInt ∧ y1.toInt ≤ 6 := by rw [ey1]; exact RS0 17 _ _
  have q2 : (ge S0 17 0 8).toInt = y1.toInt := congrArg Int32.toInt (show ge S0 17 0 8 = y1 from ey1.symm)
  refine zk_bd (s_F_X4_here _ RS0) (fun v3 T4 h3 => ?_)
  obtain ⟨rfl, h3⟩ := h3
  have b5 := ti_bd v3
  refine zk_eq (fun c6 => ?_) (fun c6 => ?_)
  ·
    have q7 : (ge S0 17 0 8).toInt = y1.toInt := congrArg Int32.toInt (show ge S0 17 0 8 = y1 from ey1.symm)
    refine zk_bd (hR2 _ _ RS0 (by omega)) (fun v8 T9 h8 => ?_)
    obtain ⟨RT9, fT9, h8⟩ := h8
    have FT9 := FS0.tr (fT9.sub (m := 4097) (by decide))
    obtain ⟨y10, ey10⟩ : ∃ y : Int32, y = ge T9 17 0 8 := ⟨_, rfl⟩
    have gy10 : 0 ≤ y10.toInt ∧ y10.toInt ≤ 6 := by rw [ey10]; exact RT9 17 _ _
    have q11 : (ge T9 17 0 8).toInt = y10.toInt := congrArg Int32.toInt (show ge T9 17 0 8 = y10 from ey10.symm)
    refine zk_gd (z01 (by omega)) ?_
    have q12 : (ge T9 17 0 8).toInt = y10.toInt := congrArg Int32.toInt (show ge T9 17 0 8 = y10 from ey10.symm)
    exact zk_some ⟨RT9, FT9, by omega⟩
  ·
    refine zk_bd (s_F_X4_here _ RS0) (fun v13 T14 h13 => ?_)
    obtain ⟨rfl, h13⟩ := h13
    have b15 := ti_bd v13
    refine zk_eq (fun c16 => ?_) (fun c16 => ?_)
    ·
      have q17 : (ge S0 17 0 8).toInt = y1.toInt := congrArg Int32.toInt (show ge S0 17 0 8 = y1 from ey1.symm)
      refine zk_bd (s_F_X4_opened _ _ RS0) (fun v18 T19 h18 => ?_)
      obtain ⟨RT19, fT19, h18⟩ := h18
      have FT19 := FS0.tr (fT19.sub (m := 4097) (by decide))
      obtain ⟨y20, ey20⟩ : ∃ y : Int32, y = ge T19 17 0 8 := ⟨_, rfl⟩
      have gy20 : 0 ≤ y20.toInt ∧ y20.toInt ≤ 6 := by rw [ey20]; exact RT19 17 _ _
      have q21 : (ge T19 17 0 8).toInt = y20.toInt := congrArg Int32.toInt (show ge T19 17 0 8 = y20 from ey20.symm)
      refine zk_eq (fun c22 => ?_) (fun c22 => ?_)
      ·
        have q23 : (ge T19 17 0 8).toInt = y20.toInt := congrArg Int32.toInt (show ge T19 17 0 8 = y20 from ey20.symm)
        exact zk_some ⟨RT19, FT19, by omega⟩
      ·
        have q24 : (ge T19 17 0 8).toInt = y20.toInt := congrArg Int32.toInt (show ge T19 17 0 8 = y20 from ey20.symm)
        refine zk_bd (hR0 _ _ RT19 (by omega)) (fun v25 T26 h25 => ?_)
        obtain ⟨RT26, fT26, h25⟩ := h25
        have FT26 := FT19.tr (fT26.sub (m := 4097) (by decide))
        obtain ⟨y27, ey27⟩ : ∃ y : Int32, y = ge T26 17 0 8 := ⟨_, rfl⟩
        have gy27 : 0 ≤ y27.toInt ∧ y27.toInt ≤ 6 := by rw [ey27]; exact RT26 17 _ _
        have q28 : (ge T26 17 0 8).toInt = y27.toInt := congrArg Int32.toInt (show ge T26 17 0 8 = y27 from ey27.symm)
        refine zk_eq (fun c29 => ?_) (fun c29 => ?_)
        ·
          have q30 : (ge T26 17 0 8).toInt = y27.toInt := congrArg Int32.toInt (show ge T26 17 0 8 = y27 from ey27.symm)
          exact zk_some ⟨RT26, FT26, by omega⟩
        ·
          have q31 : (ge T26 17 0 8).toInt = y27.toInt := congrArg Int32.toInt (show ge T26 17 0 8 = y27 from ey27.symm)
          refine zk_bd (s_F_X4_closed _ _ RT26 (by omega)) (fun v32 T33 h32 => ?_)
          obtain ⟨RT33, fT33, h32⟩ := h32
          have FT33 := FT26.tr (fT33.sub (m := 4097) (by decide))
          obtain ⟨y34, ey34⟩ : ∃ y : Int32, y = ge T33 17 0 8 := ⟨_, rfl⟩
          have gy34 : 0 ≤ y34.toInt ∧ y34.toInt ≤ 6 := by rw [ey34]; exact RT33 17 _ _
          have q35 : (ge T33 17 0 8).toInt = y34.toInt := congrArg Int32.toInt (show ge T33 17 0 8 = y34 from ey34.symm)
          refine zk_eq (fun c36 => ?_) (fun c36 => ?_)
          ·
            have q37 : (ge T33 17 0 8).toInt = y34.toInt := congrArg Int32.toInt (show ge T33 17 0 8 = y34 from ey34.symm)
            exact zk_some ⟨RT33, FT33, by omega⟩
          ·
            have q38 : (ge T33 17 0 8).toInt = y34.toInt := congrArg Int32.toInt (show ge T33 17 0 8 = y34 from ey34.symm)
            exact zk_some ⟨RT33, FT33, by omega⟩
    ·
      have q39 : (ge S0 17 0 8).toInt = y1.toInt := congrArg Int32.toInt (show ge S0 17 0 8 = y1 from ey1.symm)
      refine zk_bd (hR3 _ _ RS0 (by omega)) (fun v40 T41 h40 => ?_)
      obtain ⟨RT41, fT41, h40⟩ := h40
      have FT41 := FS0.tr (fT41.sub (m := 4097) (by decide))
      obtain ⟨y42, ey42⟩ : ∃ y : Int32, y = ge T41 17 0 8 := ⟨_, rfl⟩
      have gy42 : 0 ≤ y42.toInt ∧ y42.toInt ≤ 6 := by rw [ey42]; exact RT41 17 _ _
      have q43 : (ge T41 17 0 8).toInt = y42.toInt := congrArg Int32.toInt (show ge T41 17 0 8 = y42 from ey42.symm)
      refine zk_eq (fun c44 => ?_) (fun c44 => ?_)
      ·
        have q45 : (ge T41 17 0 8).toInt = y42.toInt := congrArg Int32.toInt (show ge T41 17 0 8 = y42 from ey42.symm)
        exact zk_some ⟨RT41, FT41, by omega⟩
      ·
        refine zk_bd (s_F_X4_comparison _ RT41) (fun v46 T47 h46 => ?_)
        obtain ⟨rfl, h46⟩ := h46
        have b48 := ti_bd v46
        refine zk_eq (fun c49 => ?_) (fun c49 => ?_)
        ·
          have q50 : (ge T41 17 0 8).toInt = y42.toInt := congrArg Int32.toInt (show ge T41 17 0 8 = y42 from ey42.symm)
          refine zk_bd (s_F_X4_fail _ _ RT41) (fun v51 T52 h51 => ?_)
          obtain ⟨RT52, fT52, h51⟩ := h51
          have FT52 := FT41.tr (fT52.sub (m := 4097) (by decide))
          have q53 : (ge T52 17 0 8).toInt = y42.toInt := congrArg Int32.toInt (show ge T52 17 0 8 = y42 from ((fT52.1 17 0 8 rfl).trans ey42.symm))
          refine zk_gd (z01 (by omega)) ?_
          have q54 : (ge T52 17 0 8).toInt = y42.toInt := congrArg Int32.toInt (show ge T52 17 0 8 = y42 from ((fT52.1 17 0 8 rfl).trans ey42.symm))
          exact zk_some ⟨RT52, FT52, by omega⟩
        ·
          refine zk_iv fun x55 e55 => ?_
          refine zk_iv fun x56 e56 => ?_
          refine zk_sv fun S57 E57 => ?_
          have RS57 : RI S57 := by rw [E57]; exact RT41.wf rfl
          have FS57 : Fr 4097 S0 S57 := by rw [E57]; exact FT41.wr (k := 0) rfl rfl
          have q58 : (ge S57 17 0 8).toInt = y42.toInt := congrArg Int32.toInt (show ge S57 17 0 8 = y42 from (by rw [E57]; exact (ge_puj (by decide)).trans ey42.symm))
          refine zk_bd (hR3 _ _ RS57 (by omega)) (fun v59 T60 h59 => ?_)
          obtain ⟨RT60, fT60, h59⟩ := h59
          have FT60 := FS57.tr (fT60.sub (m := 4097) (by decide))
          obtain ⟨y61, ey61⟩ : ∃ y : Int32, y = ge T60 17 0 8 := ⟨_, rfl⟩
          have gy61 : 0 ≤ y61.toInt ∧ y61.toInt ≤ 6 := by rw [ey61]; exact RT60 17 _ _
          have q62 : (ge T60 17 0 8).toInt = y61.toInt := congrArg Int32.toInt (show ge T60 17 0 8 = y61 from ey61.symm)
          refine zk_eq (fun c63 => ?_) (fun c63 => ?_)
          ·
            have q64 : (ge T60 17 0 8).toInt = y61.toInt := congrArg Int32.toInt (show ge T60 17 0 8 = y61 from ey61.symm)
            exact zk_some ⟨RT60, FT60, by omega⟩
          ·
            have q65 : (ge T60 17 0 8).toInt = y61.toInt := congrArg Int32.toInt (show ge T60 17 0 8 = y61 from ey61.symm)
            refine zk_bd (s_F_X4_emit _ _ RT60) (fun v66 T67 h66 => ?_)
            obtain ⟨RT67, fT67, h66⟩ := h66
            have FT67 := FT60.tr (fT67.sub (m := 4097) (by decide))
            have q68 : (ge T67 17 0 8).toInt = y61.toInt := congrArg Int32.toInt (show ge T67 17 0 8 = y61 from ((fT67.1 17 0 8 rfl).trans ey61.symm))
            have q69 : (ge T67 17 0 8).toInt = y61.toInt := congrArg Int32.toInt (show ge T67 17 0 8 = y61 from ((fT67.1 17 0 8 rfl).trans ey61.symm))
            exact zk_some ⟨RT67, FT67, by omega⟩
theorem s_N_X4_denial (R : Nat → Int32 → fS → Option (Int32 × fS)) (d : Int) (hR0 : ∀ (q : Int32) (S : fS), RI S → 3 * (6 - (ge S 17 0 8).toInt) + 5 ≤ d → zk (R 0 q S) (fun v S9 => RI S9 ∧ Fr 4097 S S9 ∧ (v.toInt = 0 ∨ (v.toInt = 1 ∧ (ge S9 17 0 8).toInt = (ge S 17 0 8).toInt)))) (hR1 : ∀ (q : Int32) (S : fS), RI S → 3 * (6 - (ge S 17 0 8).toInt) + 4 ≤ d → zk (R 1 q S) (fun v S9 => RI S9 ∧ Fr 4097 S S9 ∧ (v.toInt = 0 ∨ (v.toInt = 1 ∧ (ge S9 17 0 8).toInt = (ge S 17 0 8).toInt)))) (hR2 : ∀ (q : Int32) (S : fS), RI S → 3 * (6 - (ge S 17 0 8).toInt) + 2 ≤ d → zk (R 2 q S) (fun v S9 => RI S9 ∧ Fr 4097 S S9 ∧ (v.toInt = 0 ∨ (v.toInt = 1 ∧ (ge S9 17 0 8).toInt = (ge S 17 0 8).toInt)))) (hR3 : ∀ (q : Int32) (S : fS), RI S → 3 * (6 - (ge S 17 0 8).toInt) + 3 ≤ d → zk (R 3 q S) (fun v S9 => RI S9 ∧ Fr 4097 S S9 ∧ (v.toInt = 0 ∨ (v.toInt = 1 ∧ (ge S9 17 0 8).toInt = (ge S 17 0 8).toInt)))) (hR4 : ∀ (q : Int32) (S : fS), RI S → 3 * (6 - (ge S 17 0 8).toInt) + 2 ≤ d → zk (R 4 q S) (fun v S9 => RI S9 ∧ Fr 4097 S S9 ∧ (v.toInt = 0 ∨ (v.toInt = 1 ∧ (ge S9 17 0 8).toInt = (ge S 17 0 8).toInt)))) (hR5 : ∀ (q : Int32) (S : fS), RI S → 3 * (6 - (ge S 17 0 8).toInt) + 1 ≤ d → zk (R 5 q S) (fun v S9 => RI S9 ∧ Fr 4097 S S9 ∧ (v.toInt = 0 ∨ (v.toInt = 1 ∧ (ge S9 17 0 8).toInt = (ge S 17 0 8).toInt)))) (S0 : fS) (RS0 : RI S0) (hpr : 3 * (6 - (ge S0 17 0 8).toInt) + 2 ≤ d + 1) : zk (N_X4_denial R S0) (fun v S9 => RI S9 ∧ Fr 4097 S0 S9 ∧ (v.toInt = 0 ∨ (v.toInt = 1 ∧ (ge S9 17 0 8).toInt = (ge S0 17 0 8).toInt))) := by
  have l0 : (0 : Int32).toInt = 0 := by decide
  have l1 : (1 : Int32).toInt = 1 := by decide
  have l8 : (8 : Int32).toInt = 8 := by decide
  have l266 : (266 : Int32).toInt = 266 := by decide
  have l2011 : (2011 : Int32).toInt = 2011 := by decide
  have FS0 : Fr 4097 S0 S0 := Fr.rf
  unfold N_X4_denial
  obtain ⟨y1, ey1⟩ : ∃ y : Int32, y = ge S0 17 0 8 := ⟨_, rfl⟩
  have gy1 : 0 ≤ y1.toInt ∧ y1.toInt ≤ 6 := by rw [ey1]; exact RS0 17 _ _
  have q2 : (ge S0 17 0 8).toInt = y1.toInt := congrArg Int32.toInt (show ge S0 17 0 8 = y1 from ey1.symm)
  have q3 : (ge S0 17 0 8).toInt = y1.toInt := congrArg Int32.toInt (show ge S0 17 0 8 = y1 from ey1.symm)
  refine zk_bd (s_F_X4_opened _ _ RS0) (fun v4 T5 h4 => ?_)
  obtain ⟨RT5, fT5, h4⟩ := h4
  have FT5 := FS0.tr (fT5.sub (m := 4097) (by decide))
  obtain ⟨y6, ey6⟩ : ∃ y : Int32, y = ge T5 17 0 8 := ⟨_, rfl⟩
  have gy6 : 0 ≤ y6.toInt ∧ y6.toInt ≤ 6 := by rw [ey6]; exact RT5 17 _ _
  have q7 : (ge T5 17 0 8).toInt = y6.toInt := congrArg Int32.toInt (show ge T5 17 0 8 = y6 from ey6.symm)
  refine zk_eq (fun c8 => ?_) (fun c8 => ?_)
  ·
    have q9 : (ge T5 17 0 8).toInt = y6.toInt := congrArg Int32.toInt (show ge T5 17 0 8 = y6 from ey6.symm)
    exact zk_some ⟨RT5, FT5, by omega⟩
  ·
    have q10 : (ge T5 17 0 8).toInt = y6.toInt := congrArg Int32.toInt (show ge T5 17 0 8 = y6 from ey6.symm)
    refine zk_bd (hR1 _ _ RT5 (by omega)) (fun v11 T12 h11 => ?_)
    obtain ⟨RT12, fT12, h11⟩ := h11
    have FT12 := FT5.tr (fT12.sub (m := 4097) (by decide))
    obtain ⟨y13, ey13⟩ : ∃ y : Int32, y = ge T12 17 0 8 := ⟨_, rfl⟩
    have gy13 : 0 ≤ y13.toInt ∧ y13.toInt ≤ 6 := by rw [ey13]; exact RT12 17 _ _
    have q14 : (ge T12 17 0 8).toInt = y13.toInt := congrArg Int32.toInt (show ge T12 17 0 8 = y13 from ey13.symm)
    refine zk_eq (fun c15 => ?_) (fun c15 => ?_)
    ·
      have q16 : (ge T12 17 0 8).toInt = y13.toInt := congrArg Int32.toInt (show ge T12 17 0 8 = y13 from ey13.symm)
      exact zk_some ⟨RT12, FT12, by omega⟩
    ·
      refine zk_ivq (x := y13) ey13.symm ?_
      refine zk_iv fun x17 e17 => ?_
      have gx17 : x17.toInt = y13.toInt - (1 : Int32).toInt := by rw [e17]; exact ti_sub (by omega) (by omega)
      refine zk_sv fun S18 E18 => ?_
      have RS18 : RI S18 := by rw [E18]; exact RT12.wr (show (0 : Int) ≤ x17.toInt by omega) (show x17.toInt ≤ 6 by omega)
      have FS18 : Fr 4097 S0 S18 := by rw [E18]; exact FT12.wr (k := 12) rfl rfl
      have q19 : (ge S18 17 0 8).toInt = x17.toInt := congrArg Int32.toInt (show ge S18 17 0 8 = x17 from (by rw [E18]; exact ge_pus))
      refine zk_bd (s_F_X4_emit _ _ RS18) (fun v20 T21 h20 => ?_)
      obtain ⟨RT21, fT21, h20⟩ := h20
      have FT21 := FS18.tr (fT21.sub (m := 4097) (by decide))
      have q22 : (ge T21 17 0 8).toInt = x17.toInt := congrArg Int32.toInt (show ge T21 17 0 8 = x17 from ((fT21.1 17 0 8 rfl).trans (by rw [E18]; exact ge_pus)))
      have q23 : (ge T21 17 0 8).toInt = x17.toInt := congrArg Int32.toInt (show ge T21 17 0 8 = x17 from ((fT21.1 17 0 8 rfl).trans (by rw [E18]; exact ge_pus)))
      exact zk_some ⟨RT21, FT21, by omega⟩
theorem s_B_X4_sum_6 (R : Nat → Int32 → fS → Option (Int32 × fS)) (d : Int) (hR0 : ∀ (q : Int32) (S : fS), RI S → 3 * (6 - (ge S 17 0 8).toInt) + 5 ≤ d → zk (R 0 q S) (fun v S9 => RI S9 ∧ Fr 4097 S S9 ∧ (v.toInt = 0 ∨ (v.toInt = 1 ∧ (ge S9 17 0 8).toInt = (ge S 17 0 8).toInt)))) (hR1 : ∀ (q : Int32) (S : fS), RI S → 3 * (6 - (ge S 17 0 8).toInt) + 4 ≤ d → zk (R 1 q S) (fun v S9 => RI S9 ∧ Fr 4097 S S9 ∧ (v.toInt = 0 ∨ (v.toInt = 1 ∧ (ge S9 17 0 8).toInt = (ge S 17 0 8).toInt)))) (hR2 : ∀ (q : Int32) (S : fS), RI S → 3 * (6 - (ge S 17 0 8).toInt) + 2 ≤ d → zk (R 2 q S) (fun v S9 => RI S9 ∧ Fr 4097 S S9 ∧ (v.toInt = 0 ∨ (v.toInt = 1 ∧ (ge S9 17 0 8).toInt = (ge S 17 0 8).toInt)))) (hR3 : ∀ (q : Int32) (S : fS), RI S → 3 * (6 - (ge S 17 0 8).toInt) + 3 ≤ d → zk (R 3 q S) (fun v S9 => RI S9 ∧ Fr 4097 S S9 ∧ (v.toInt = 0 ∨ (v.toInt = 1 ∧ (ge S9 17 0 8).toInt = (ge S 17 0 8).toInt)))) (hR4 : ∀ (q : Int32) (S : fS), RI S → 3 * (6 - (ge S 17 0 8).toInt) + 2 ≤ d → zk (R 4 q S) (fun v S9 => RI S9 ∧ Fr 4097 S S9 ∧ (v.toInt = 0 ∨ (v.toInt = 1 ∧ (ge S9 17 0 8).toInt = (ge S 17 0 8).toInt)))) (hR5 : ∀ (q : Int32) (S : fS), RI S → 3 * (6 - (ge S 17 0 8).toInt) + 1 ≤ d → zk (R 5 q S) (fun v S9 => RI S9 ∧ Fr 4097 S S9 ∧ (v.toInt = 0 ∨ (v.toInt = 1 ∧ (ge S9 17 0 8).toInt = (ge S 17 0 8).toInt)))) (z : Int32 × Int32 × Int32) (S : fS) (RS : RI S) (hi : 0 ≤ z.2.2.toInt ∧ z.2.2.toInt ≤ 301 ∧ 3 * (6 - (ge S 17 0 8).toInt) + 2 ≤ d) (hm : (301 - z.2.2.toInt).toNat < 4294967296) : zk (lp (B_X4_sum_6 R) fuel z S) (fun v S9 => RI S9 ∧ Fr 4097 S S9 ∧ (v.toInt = 0 ∨ (v.toInt = 1 ∧ (ge S9 17 0 8).toInt = (ge S 17 0 8).toInt))) := by
  have lm1 : (-1 : Int32).toInt = -1 := by decide
  have l0 : (0 : Int32).toInt = 0 := by decide
  have l1 : (1 : Int32).toInt = 1 := by decide
  have l42 : (42 : Int32).toInt = 42 := by decide
  have l43 : (43 : Int32).toInt = 43 := by decide
  have l45 : (45 : Int32).toInt = 45 := by decide
  have l47 : (47 : Int32).toInt = 47 := by decide
  have l300 : (300 : Int32).toInt = 300 := by decide
  have l2000 : (2000 : Int32).toInt = 2000 := by decide
  have l2001 : (2001 : Int32).toInt = 2001 := by decide
  have l2002 : (2002 : Int32).toInt = 2002 := by decide
  have l2003 : (2003 : Int32).toInt = 2003 := by decide
  have lo1 : (Int32.ofInt 1).toInt = 1 := by decide
  refine zk_lp (fun z S => RI S ∧ (0 ≤ z.2.2.toInt ∧ z.2.2.toInt ≤ 301 ∧ 3 * (6 - (ge S 17 0 8).toInt) + 2 ≤ d)) (fun z S => (301 - z.2.2.toInt).toNat) (fun z S (v : Int32) S9 => RI S9 ∧ Fr 4097 S S9 ∧ (v.toInt = 0 ∨ (v.toInt = 1 ∧ (ge S9 17 0 8).toInt = (ge S 17 0 8).toInt))) ?_ z S ⟨RS, hi⟩ hm
  clear RS hi hm
  intro k z S hI hk
  obtain ⟨RS, hI⟩ := hI
  obtain ⟨a1, a2, a3⟩ := z
  (try dsimp only at hI); (try dsimp only at hk); (try dsimp only)
  have FS : Fr 4097 S S := Fr.rf
  unfold B_X4_sum_6
  dsimp only
  obtain ⟨y1, ey1⟩ : ∃ y : Int32, y = ge S 17 0 8 := ⟨_, rfl⟩
  have gy1 : 0 ≤ y1.toInt ∧ y1.toInt ≤ 6 := by rw [ey1]; exact RS 17 _ _
  have q2 : (ge S 17 0 8).toInt = y1.toInt := congrArg Int32.toInt (show ge S 17 0 8 = y1 from ey1.symm)
  refine zk_lt (fun c3 => ?_) (fun c3 => ?_)
  ·
    have q4 : (ge S 17 0 8).toInt = y1.toInt := congrArg Int32.toInt (show ge S 17 0 8 = y1 from ey1.symm)
    refine zk_bd (s_F_X4_fail _ _ RS) (fun v5 T6 h5 => ?_)
    obtain ⟨RT6, fT6, h5⟩ := h5
    have FT6 := FS.tr (fT6.sub (m := 4097) (by decide))
    have q7 : (ge T6 17 0 8).toInt = y1.toInt := congrArg Int32.toInt (show ge T6 17 0 8 = y1 from ((fT6.1 17 0 8 rfl).trans ey1.symm))
    refine zk_gd (z01 (by omega)) ?_
    have q8 : (ge T6 17 0 8).toInt = y1.toInt := congrArg Int32.toInt (show ge T6 17 0 8 = y1 from ((fT6.1 17 0 8 rfl).trans ey1.symm))
    exact zk_some ⟨RT6, FT6, by omega⟩
  ·
    have q9 : (ge S 17 0 8).toInt = y1.toInt := congrArg Int32.toInt (show ge S 17 0 8 = y1 from ey1.symm)
    refine zk_bd (hR4 _ _ RS (by omega)) (fun v10 T11 h10 => ?_)
    obtain ⟨RT11, fT11, h10⟩ := h10
    have FT11 := FS.tr (fT11.sub (m := 4097) (by decide))
    obtain ⟨y12, ey12⟩ : ∃ y : Int32, y = ge T11 17 0 8 := ⟨_, rfl⟩
    have gy12 : 0 ≤ y12.toInt ∧ y12.toInt ≤ 6 := by rw [ey12]; exact RT11 17 _ _
    have q13 : (ge T11 17 0 8).toInt = y12.toInt := congrArg Int32.toInt (show ge T11 17 0 8 = y12 from ey12.symm)
    refine zk_eq (fun c14 => ?_) (fun c14 => ?_)
    ·
      have q15 : (ge T11 17 0 8).toInt = y12.toInt := congrArg Int32.toInt (show ge T11 17 0 8 = y12 from ey12.symm)
      exact zk_some ⟨RT11, FT11, by omega⟩
    ·
      have b16 := ti_bd a2
      refine zk_eq (fun c17 => ?_) (fun c17 => ?_)
      ·
        unfold B_X4_sum_32
        have q18 : (ge T11 17 0 8).toInt = y12.toInt := congrArg Int32.toInt (show ge T11 17 0 8 = y12 from ey12.symm)
        refine zk_bd (s_F_X4_passed _ _ RT11) (fun v19 T20 h19 => ?_)
        obtain ⟨RT20, fT20, h19⟩ := h19
        have FT20 := FT11.tr (fT20.sub (m := 4097) (by decide))
        have q21 : (ge T20 17 0 8).toInt = y12.toInt := congrArg Int32.toInt (show ge T20 17 0 8 = y12 from ((fT20.1 17 0 8 rfl).trans ey12.symm))
        refine zk_eq (fun c22 => ?_) (fun c22 => ?_)
        ·
          have q23 : (ge T20 17 0 8).toInt = y12.toInt := congrArg Int32.toInt (show ge T20 17 0 8 = y12 from ((fT20.1 17 0 8 rfl).trans ey12.symm))
          refine zk_bd (s_F_X4_passed _ _ RT20) (fun v24 T25 h24 => ?_)
          obtain ⟨RT25, fT25, h24⟩ := h24
          have FT25 := FT20.tr (fT25.sub (m := 4097) (by decide))
          have q26 : (ge T25 17 0 8).toInt = y12.toInt := congrArg Int32.toInt (show ge T25 17 0 8 = y12 from ((fT25.1 17 0 8 rfl).trans ((fT20.1 17 0 8 rfl).trans ey12.symm)))
          refine zk_eq (fun c27 => ?_) (fun c27 => ?_)
          ·
            unfold B_X4_sum_63
            refine zk_bbt (by decide) ?_
            have b28 := ti_bd a1
            refine zk_eq (fun c29 => ?_) (fun c29 => ?_)
            ·
              unfold B_X4_sum_79
              have q30 : (ge T25 17 0 8).toInt = y12.toInt := congrArg Int32.toInt (show ge T25 17 0 8 = y12 from ((fT25.1 17 0 8 rfl).trans ((fT20.1 17 0 8 rfl).trans ey12.symm)))
              refine zk_bd (s_F_X4_passed _ _ RT25) (fun v31 T32 h31 => ?_)
              obtain ⟨RT32, fT32, h31⟩ := h31
              have FT32 := FT25.tr (fT32.sub (m := 4097) (by decide))
              have q33 : (ge T32 17 0 8).toInt = y12.toInt := congrArg Int32.toInt (show ge T32 17 0 8 = y12 from ((fT32.1 17 0 8 rfl).trans ((fT25.1 17 0 8 rfl).trans ((fT20.1 17 0 8 rfl).trans ey12.symm))))
              refine zk_eq (fun c34 => ?_) (fun c34 => ?_)
              ·
                have q35 : (ge T32 17 0 8).toInt = y12.toInt := congrArg Int32.toInt (show ge T32 17 0 8 = y12 from ((fT32.1 17 0 8 rfl).trans ((fT25.1 17 0 8 rfl).trans ((fT20.1 17 0 8 rfl).trans ey12.symm))))
                refine zk_bd (s_F_X4_passed _ _ RT32) (fun v36 T37 h36 => ?_)
                obtain ⟨RT37, fT37, h36⟩ := h36
                have FT37 := FT32.tr (fT37.sub (m := 4097) (by decide))
                have q38 : (ge T37 17 0 8).toInt = y12.toInt := congrArg Int32.toInt (show ge T37 17 0 8 = y12 from ((fT37.1 17 0 8 rfl).trans ((fT32.1 17 0 8 rfl).trans ((fT25.1 17 0 8 rfl).trans ((fT20.1 17 0 8 rfl).trans ey12.symm)))))
                refine zk_eq (fun c39 => ?_) (fun c39 => ?_)
                ·
                  unfold B_X4_sum_110
                  refine zk_bbt (by decide) ?_
                  have q40 : (ge T37 17 0 8).toInt = y12.toInt := congrArg Int32.toInt (show ge T37 17 0 8 = y12 from ((fT37.1 17 0 8 rfl).trans ((fT32.1 17 0 8 rfl).trans ((fT25.1 17 0 8 rfl).trans ((fT20.1 17 0 8 rfl).trans ey12.symm)))))
                  exact zk_some ⟨RT37, FT37, by omega⟩
                ·
                  unfold B_X4_sum_110
                  refine zk_bbf (by decide) ?_
                  unfold B_X4_sum_118
                  refine zk_iv fun x41 e41 => ?_
                  have gx41 : x41.toInt = a3.toInt + (Int32.ofInt 1).toInt := by rw [e41]; exact ti_add (by omega) (by omega)
                  have q42 : (ge T37 17 0 8).toInt = y12.toInt := congrArg Int32.toInt (show ge T37 17 0 8 = y12 from ((fT37.1 17 0 8 rfl).trans ((fT32.1 17 0 8 rfl).trans ((fT25.1 17 0 8 rfl).trans ((fT20.1 17 0 8 rfl).trans ey12.symm)))))
                  refine zk_imp (hk ((2001 : Int32), ((-1) : Int32), x41) _ ⟨RT37, (by (try dsimp only) <;> omega)⟩ (by (try dsimp only) <;> omega)) (fun v43 T44 h43 => ?_)
                  obtain ⟨RT44, FT44, h43⟩ := h43
                  try dsimp only at h43
                  exact ⟨RT44, FT37.tr FT44, by omega⟩
              ·
                unfold B_X4_sum_110
                refine zk_bbf (by decide) ?_
                unfold B_X4_sum_118
                refine zk_iv fun x45 e45 => ?_
                have gx45 : x45.toInt = a3.toInt + (Int32.ofInt 1).toInt := by rw [e45]; exact ti_add (by omega) (by omega)
                have q46 : (ge T32 17 0 8).toInt = y12.toInt := congrArg Int32.toInt (show ge T32 17 0 8 = y12 from ((fT32.1 17 0 8 rfl).trans ((fT25.1 17 0 8 rfl).trans ((fT20.1 17 0 8 rfl).trans ey12.symm))))
                refine zk_imp (hk ((2000 : Int32), ((-1) : Int32), x45) _ ⟨RT32, (by (try dsimp only) <;> omega)⟩ (by (try dsimp only) <;> omega)) (fun v47 T48 h47 => ?_)
                obtain ⟨RT48, FT48, h47⟩ := h47
                try dsimp only at h47
                exact ⟨RT48, FT32.tr FT48, by omega⟩
            ·
              have q49 : (ge T25 17 0 8).toInt = y12.toInt := congrArg Int32.toInt (show ge T25 17 0 8 = y12 from ((fT25.1 17 0 8 rfl).trans ((fT20.1 17 0 8 rfl).trans ey12.symm)))
              refine zk_bd (s_F_X4_emit _ _ RT25) (fun v50 T51 h50 => ?_)
              obtain ⟨RT51, fT51, h50⟩ := h50
              have FT51 := FT25.tr (fT51.sub (m := 4097) (by decide))
              have q52 : (ge T51 17 0 8).toInt = y12.toInt := congrArg Int32.toInt (show ge T51 17 0 8 = y12 from ((fT51.1 17 0 8 rfl).trans ((fT25.1 17 0 8 rfl).trans ((fT20.1 17 0 8 rfl).trans ey12.symm))))
              unfold B_X4_sum_79
              have q53 : (ge T51 17 0 8).toInt = y12.toInt := congrArg Int32.toInt (show ge T51 17 0 8 = y12 from ((fT51.1 17 0 8 rfl).trans ((fT25.1 17 0 8 rfl).trans ((fT20.1 17 0 8 rfl).trans ey12.symm))))
              refine zk_bd (s_F_X4_passed _ _ RT51) (fun v54 T55 h54 => ?_)
              obtain ⟨RT55, fT55, h54⟩ := h54
              have FT55 := FT51.tr (fT55.sub (m := 4097) (by decide))
              have q56 : (ge T55 17 0 8).toInt = y12.toInt := congrArg Int32.toInt (show ge T55 17 0 8 = y12 from ((fT55.1 17 0 8 rfl).trans ((fT51.1 17 0 8 rfl).trans ((fT25.1 17 0 8 rfl).trans ((fT20.1 17 0 8 rfl).trans ey12.symm)))))
              refine zk_eq (fun c57 => ?_) (fun c57 => ?_)
              ·
                have q58 : (ge T55 17 0 8).toInt = y12.toInt := congrArg Int32.toInt (show ge T55 17 0 8 = y12 from ((fT55.1 17 0 8 rfl).trans ((fT51.1 17 0 8 rfl).trans ((fT25.1 17 0 8 rfl).trans ((fT20.1 17 0 8 rfl).trans ey12.symm)))))
                refine zk_bd (s_F_X4_passed _ _ RT55) (fun v59 T60 h59 => ?_)
                obtain ⟨RT60, fT60, h59⟩ := h59
                have FT60 := FT55.tr (fT60.sub (m := 4097) (by decide))
                have q61 : (ge T60 17 0 8).toInt = y12.toInt := congrArg Int32.toInt (show ge T60 17 0 8 = y12 from ((fT60.1 17 0 8 rfl).trans ((fT55.1 17 0 8 rfl).trans ((fT51.1 17 0 8 rfl).trans ((fT25.1 17 0 8 rfl).trans ((fT20.1 17 0 8 rfl).trans ey12.symm))))))
                refine zk_eq (fun c62 => ?_) (fun c62 => ?_)
                ·
                  unfold B_X4_sum_110
                  refine zk_bbt (by decide) ?_
                  have q63 : (ge T60 17 0 8).toInt = y12.toInt := congrArg Int32.toInt (show ge T60 17 0 8 = y12 from ((fT60.1 17 0 8 rfl).trans ((fT55.1 17 0 8 rfl).trans ((fT51.1 17 0 8 rfl).trans ((fT25.1 17 0 8 rfl).trans ((fT20.1 17 0 8 rfl).trans ey12.symm))))))
                  exact zk_some ⟨RT60, FT60, by omega⟩
                ·
                  unfold B_X4_sum_110
                  refine zk_bbf (by decide) ?_
                  unfold B_X4_sum_118
                  refine zk_iv fun x64 e64 => ?_
                  have gx64 : x64.toInt = a3.toInt + (Int32.ofInt 1).toInt := by rw [e64]; exact ti_add (by omega) (by omega)
                  have q65 : (ge T60 17 0 8).toInt = y12.toInt := congrArg Int32.toInt (show ge T60 17 0 8 = y12 from ((fT60.1 17 0 8 rfl).trans ((fT55.1 17 0 8 rfl).trans ((fT51.1 17 0 8 rfl).trans ((fT25.1 17 0 8 rfl).trans ((fT20.1 17 0 8 rfl).trans ey12.symm))))))
                  refine zk_imp (hk ((2001 : Int32), ((-1) : Int32), x64) _ ⟨RT60, (by (try dsimp only) <;> omega)⟩ (by (try dsimp only) <;> omega)) (fun v66 T67 h66 => ?_)
                  obtain ⟨RT67, FT67, h66⟩ := h66
                  try dsimp only at h66
                  exact ⟨RT67, FT60.tr FT67, by omega⟩
              ·
                unfold B_X4_sum_110
                refine zk_bbf (by decide) ?_
                unfold B_X4_sum_118
                refine zk_iv fun x68 e68 => ?_
                have gx68 : x68.toInt = a3.toInt + (Int32.ofInt 1).toInt := by rw [e68]; exact ti_add (by omega) (by omega)
                have q69 : (ge T55 17 0 8).toInt = y12.toInt := congrArg Int32.toInt (show ge T55 17 0 8 = y12 from ((fT55.1 17 0 8 rfl).trans ((fT51.1 17 0 8 rfl).trans ((fT25.1 17 0 8 rfl).trans ((fT20.1 17 0 8 rfl).trans ey12.symm)))))
                refine zk_imp (hk ((2000 : Int32), ((-1) : Int32), x68) _ ⟨RT55, (by (try dsimp only) <;> omega)⟩ (by (try dsimp only) <;> omega)) (fun v70 T71 h70 => ?_)
                obtain ⟨RT71, FT71, h70⟩ := h70
                try dsimp only at h70
                exact ⟨RT71, FT55.tr FT71, by omega⟩
          ·
            unfold B_X4_sum_63
            refine zk_bbf (by decide) ?_
            unfold B_X4_sum_118
            refine zk_iv fun x72 e72 => ?_
            have gx72 : x72.toInt = a3.toInt + (Int32.ofInt 1).toInt := by rw [e72]; exact ti_add (by omega) (by omega)
            have q73 : (ge T25 17 0 8).toInt = y12.toInt := congrArg Int32.toInt (show ge T25 17 0 8 = y12 from ((fT25.1 17 0 8 rfl).trans ((fT20.1 17 0 8 rfl).trans ey12.symm)))
            refine zk_imp (hk (a1, (2003 : Int32), x72) _ ⟨RT25, (by (try dsimp only) <;> omega)⟩ (by (try dsimp only) <;> omega)) (fun v74 T75 h74 => ?_)
            obtain ⟨RT75, FT75, h74⟩ := h74
            try dsimp only at h74
            exact ⟨RT75, FT25.tr FT75, by omega⟩
        ·
          unfold B_X4_sum_63
          refine zk_bbf (by decide) ?_
          unfold B_X4_sum_118
          refine zk_iv fun x76 e76 => ?_
          have gx76 : x76.toInt = a3.toInt + (Int32.ofInt 1).toInt := by rw [e76]; exact ti_add (by omega) (by omega)
          have q77 : (ge T20 17 0 8).toInt = y12.toInt := congrArg Int32.toInt (show ge T20 17 0 8 = y12 from ((fT20.1 17 0 8 rfl).trans ey12.symm))
          refine zk_imp (hk (a1, (2002 : Int32), x76) _ ⟨RT20, (by (try dsimp only) <;> omega)⟩ (by (try dsimp only) <;> omega)) (fun v78 T79 h78 => ?_)
          obtain ⟨RT79, FT79, h78⟩ := h78
          try dsimp only at h78
          exact ⟨RT79, FT20.tr FT79, by omega⟩
      ·
        have q80 : (ge T11 17 0 8).toInt = y12.toInt := congrArg Int32.toInt (show ge T11 17 0 8 = y12 from ey12.symm)
        refine zk_bd (s_F_X4_emit _ _ RT11) (fun v81 T82 h81 => ?_)
        obtain ⟨RT82, fT82, h81⟩ := h81
        have FT82 := FT11.tr (fT82.sub (m := 4097) (by decide))
        have q83 : (ge T82 17 0 8).toInt = y12.toInt := congrArg Int32.toInt (show ge T82 17 0 8 = y12 from ((fT82.1 17 0 8 rfl).trans ey12.symm))
        unfold B_X4_sum_32
        have q84 : (ge T82 17 0 8).toInt = y12.toInt := congrArg Int32.toInt (show ge T82 17 0 8 = y12 from ((fT82.1 17 0 8 rfl).trans ey12.symm))
        refine zk_bd (s_F_X4_passed _ _ RT82) (fun v85 T86 h85 => ?_)
        obtain ⟨RT86, fT86, h85⟩ := h85
        have FT86 := FT82.tr (fT86.sub (m := 4097) (by decide))
        have q87 : (ge T86 17 0 8).toInt = y12.toInt := congrArg Int32.toInt (show ge T86 17 0 8 = y12 from ((fT86.1 17 0 8 rfl).trans ((fT82.1 17 0 8 rfl).trans ey12.symm)))
        refine zk_eq (fun c88 => ?_) (fun c88 => ?_)
        ·
          have q89 : (ge T86 17 0 8).toInt = y12.toInt := congrArg Int32.toInt (show ge T86 17 0 8 = y12 from ((fT86.1 17 0 8 rfl).trans ((fT82.1 17 0 8 rfl).trans ey12.symm)))
          refine zk_bd (s_F_X4_passed _ _ RT86) (fun v90 T91 h90 => ?_)
          obtain ⟨RT91, fT91, h90⟩ := h90
          have FT91 := FT86.tr (fT91.sub (m := 4097) (by decide))
          have q92 : (ge T91 17 0 8).toInt = y12.toInt := congrArg Int32.toInt (show ge T91 17 0 8 = y12 from ((fT91.1 17 0 8 rfl).trans ((fT86.1 17 0 8 rfl).trans ((fT82.1 17 0 8 rfl).trans ey12.symm))))
          refine zk_eq (fun c93 => ?_) (fun c93 => ?_)
          ·
            unfold B_X4_sum_63
            refine zk_bbt (by decide) ?_
            have b94 := ti_bd a1
            refine zk_eq (fun c95 => ?_) (fun c95 => ?_)
            ·
              unfold B_X4_sum_79
              have q96 : (ge T91 17 0 8).toInt = y12.toInt := congrArg Int32.toInt (show ge T91 17 0 8 = y12 from ((fT91.1 17 0 8 rfl).trans ((fT86.1 17 0 8 rfl).trans ((fT82.1 17 0 8 rfl).trans ey12.symm))))
              refine zk_bd (s_F_X4_passed _ _ RT91) (fun v97 T98 h97 => ?_)
              obtain ⟨RT98, fT98, h97⟩ := h97
              have FT98 := FT91.tr (fT98.sub (m := 4097) (by decide))
              have q99 : (ge T98 17 0 8).toInt = y12.toInt := congrArg Int32.toInt (show ge T98 17 0 8 = y12 from ((fT98.1 17 0 8 rfl).trans ((fT91.1 17 0 8 rfl).trans ((fT86.1 17 0 8 rfl).trans ((fT82.1 17 0 8 rfl).trans ey12.symm)))))
              refine zk_eq (fun c100 => ?_) (fun c100 => ?_)
              ·
                have q101 : (ge T98 17 0 8).toInt = y12.toInt := congrArg Int32.toInt (show ge T98 17 0 8 = y12 from ((fT98.1 17 0 8 rfl).trans ((fT91.1 17 0 8 rfl).trans ((fT86.1 17 0 8 rfl).trans ((fT82.1 17 0 8 rfl).trans ey12.symm)))))
                refine zk_bd (s_F_X4_passed _ _ RT98) (fun v102 T103 h102 => ?_)
                obtain ⟨RT103, fT103, h102⟩ := h102
                have FT103 := FT98.tr (fT103.sub (m := 4097) (by decide))
                have q104 : (ge T103 17 0 8).toInt = y12.toInt := congrArg Int32.toInt (show ge T103 17 0 8 = y12 from ((fT103.1 17 0 8 rfl).trans ((fT98.1 17 0 8 rfl).trans ((fT91.1 17 0 8 rfl).trans ((fT86.1 17 0 8 rfl).trans ((fT82.1 17 0 8 rfl).trans ey12.symm))))))
                refine zk_eq (fun c105 => ?_) (fun c105 => ?_)
                ·
                  unfold B_X4_sum_110
                  refine zk_bbt (by decide) ?_
                  have q106 : (ge T103 17 0 8).toInt = y12.toInt := congrArg Int32.toInt (show ge T103 17 0 8 = y12 from ((fT103.1 17 0 8 rfl).trans ((fT98.1 17 0 8 rfl).trans ((fT91.1 17 0 8 rfl).trans ((fT86.1 17 0 8 rfl).trans ((fT82.1 17 0 8 rfl).trans ey12.symm))))))
                  exact zk_some ⟨RT103, FT103, by omega⟩
                ·
                  unfold B_X4_sum_110
                  refine zk_bbf (by decide) ?_
                  unfold B_X4_sum_118
                  refine zk_iv fun x107 e107 => ?_
                  have gx107 : x107.toInt = a3.toInt + (Int32.ofInt 1).toInt := by rw [e107]; exact ti_add (by omega) (by omega)
                  have q108 : (ge T103 17 0 8).toInt = y12.toInt := congrArg Int32.toInt (show ge T103 17 0 8 = y12 from ((fT103.1 17 0 8 rfl).trans ((fT98.1 17 0 8 rfl).trans ((fT91.1 17 0 8 rfl).trans ((fT86.1 17 0 8 rfl).trans ((fT82.1 17 0 8 rfl).trans ey12.symm))))))
                  refine zk_imp (hk ((2001 : Int32), ((-1) : Int32), x107) _ ⟨RT103, (by (try dsimp only) <;> omega)⟩ (by (try dsimp only) <;> omega)) (fun v109 T110 h109 => ?_)
                  obtain ⟨RT110, FT110, h109⟩ := h109
                  try dsimp only at h109
                  exact ⟨RT110, FT103.tr FT110, by omega⟩
              ·
                unfold B_X4_sum_110
                refine zk_bbf (by decide) ?_
                unfold B_X4_sum_118
                refine zk_iv fun x111 e111 => ?_
                have gx111 : x111.toInt = a3.toInt + (Int32.ofInt 1).toInt := by rw [e111]; exact ti_add (by omega) (by omega)
                have q112 : (ge T98 17 0 8).toInt = y12.toInt := congrArg Int32.toInt (show ge T98 17 0 8 = y12 from ((fT98.1 17 0 8 rfl).trans ((fT91.1 17 0 8 rfl).trans ((fT86.1 17 0 8 rfl).trans ((fT82.1 17 0 8 rfl).trans ey12.symm)))))
                refine zk_imp (hk ((2000 : Int32), ((-1) : Int32), x111) _ ⟨RT98, (by (try dsimp only) <;> omega)⟩ (by (try dsimp only) <;> omega)) (fun v113 T114 h113 => ?_)
                obtain ⟨RT114, FT114, h113⟩ := h113
                try dsimp only at h113
                exact ⟨RT114, FT98.tr FT114, by omega⟩
            ·
              have q115 : (ge T91 17 0 8).toInt = y12.toInt := congrArg Int32.toInt (show ge T91 17 0 8 = y12 from ((fT91.1 17 0 8 rfl).trans ((fT86.1 17 0 8 rfl).trans ((fT82.1 17 0 8 rfl).trans ey12.symm))))
              refine zk_bd (s_F_X4_emit _ _ RT91) (fun v116 T117 h116 => ?_)
              obtain ⟨RT117, fT117, h116⟩ := h116
              have FT117 := FT91.tr (fT117.sub (m := 4097) (by decide))
              have q118 : (ge T117 17 0 8).toInt = y12.toInt := congrArg Int32.toInt (show ge T117 17 0 8 = y12 from ((fT117.1 17 0 8 rfl).trans ((fT91.1 17 0 8 rfl).trans ((fT86.1 17 0 8 rfl).trans ((fT82.1 17 0 8 rfl).trans ey12.symm)))))
              unfold B_X4_sum_79
              have q119 : (ge T117 17 0 8).toInt = y12.toInt := congrArg Int32.toInt (show ge T117 17 0 8 = y12 from ((fT117.1 17 0 8 rfl).trans ((fT91.1 17 0 8 rfl).trans ((fT86.1 17 0 8 rfl).trans ((fT82.1 17 0 8 rfl).trans ey12.symm)))))
              refine zk_bd (s_F_X4_passed _ _ RT117) (fun v120 T121 h120 => ?_)
              obtain ⟨RT121, fT121, h120⟩ := h120
              have FT121 := FT117.tr (fT121.sub (m := 4097) (by decide))
              have q122 : (ge T121 17 0 8).toInt = y12.toInt := congrArg Int32.toInt (show ge T121 17 0 8 = y12 from ((fT121.1 17 0 8 rfl).trans ((fT117.1 17 0 8 rfl).trans ((fT91.1 17 0 8 rfl).trans ((fT86.1 17 0 8 rfl).trans ((fT82.1 17 0 8 rfl).trans ey12.symm))))))
              refine zk_eq (fun c123 => ?_) (fun c123 => ?_)
              ·
                have q124 : (ge T121 17 0 8).toInt = y12.toInt := congrArg Int32.toInt (show ge T121 17 0 8 = y12 from ((fT121.1 17 0 8 rfl).trans ((fT117.1 17 0 8 rfl).trans ((fT91.1 17 0 8 rfl).trans ((fT86.1 17 0 8 rfl).trans ((fT82.1 17 0 8 rfl).trans ey12.symm))))))
                refine zk_bd (s_F_X4_passed _ _ RT121) (fun v125 T126 h125 => ?_)
                obtain ⟨RT126, fT126, h125⟩ := h125
                have FT126 := FT121.tr (fT126.sub (m := 4097) (by decide))
                have q127 : (ge T126 17 0 8).toInt = y12.toInt := congrArg Int32.toInt (show ge T126 17 0 8 = y12 from ((fT126.1 17 0 8 rfl).trans ((fT121.1 17 0 8 rfl).trans ((fT117.1 17 0 8 rfl).trans ((fT91.1 17 0 8 rfl).trans ((fT86.1 17 0 8 rfl).trans ((fT82.1 17 0 8 rfl).trans ey12.symm)))))))
                refine zk_eq (fun c128 => ?_) (fun c128 => ?_)
                ·
                  unfold B_X4_sum_110
                  refine zk_bbt (by decide) ?_
                  have q129 : (ge T126 17 0 8).toInt = y12.toInt := congrArg Int32.toInt (show ge T126 17 0 8 = y12 from ((fT126.1 17 0 8 rfl).trans ((fT121.1 17 0 8 rfl).trans ((fT117.1 17 0 8 rfl).trans ((fT91.1 17 0 8 rfl).trans ((fT86.1 17 0 8 rfl).trans ((fT82.1 17 0 8 rfl).trans ey12.symm)))))))
                  exact zk_some ⟨RT126, FT126, by omega⟩
                ·
                  unfold B_X4_sum_110
                  refine zk_bbf (by decide) ?_
                  unfold B_X4_sum_118
                  refine zk_iv fun x130 e130 => ?_
                  have gx130 : x130.toInt = a3.toInt + (Int32.ofInt 1).toInt := by rw [e130]; exact ti_add (by omega) (by omega)
                  have q131 : (ge T126 17 0 8).toInt = y12.toInt := congrArg Int32.toInt (show ge T126 17 0 8 = y12 from ((fT126.1 17 0 8 rfl).trans ((fT121.1 17 0 8 rfl).trans ((fT117.1 17 0 8 rfl).trans ((fT91.1 17 0 8 rfl).trans ((fT86.1 17 0 8 rfl).trans ((fT82.1 17 0 8 rfl).trans ey12.symm)))))))
                  refine zk_imp (hk ((2001 : Int32), ((-1) : Int32), x130) _ ⟨RT126, (by (try dsimp only) <;> omega)⟩ (by (try dsimp only) <;> omega)) (fun v132 T133 h132 => ?_)
                  obtain ⟨RT133, FT133, h132⟩ := h132
                  try dsimp only at h132
                  exact ⟨RT133, FT126.tr FT133, by omega⟩
              ·
                unfold B_X4_sum_110
                refine zk_bbf (by decide) ?_
                unfold B_X4_sum_118
                refine zk_iv fun x134 e134 => ?_
                have gx134 : x134.toInt = a3.toInt + (Int32.ofInt 1).toInt := by rw [e134]; exact ti_add (by omega) (by omega)
                have q135 : (ge T121 17 0 8).toInt = y12.toInt := congrArg Int32.toInt (show ge T121 17 0 8 = y12 from ((fT121.1 17 0 8 rfl).trans ((fT117.1 17 0 8 rfl).trans ((fT91.1 17 0 8 rfl).trans ((fT86.1 17 0 8 rfl).trans ((fT82.1 17 0 8 rfl).trans ey12.symm))))))
                refine zk_imp (hk ((2000 : Int32), ((-1) : Int32), x134) _ ⟨RT121, (by (try dsimp only) <;> omega)⟩ (by (try dsimp only) <;> omega)) (fun v136 T137 h136 => ?_)
                obtain ⟨RT137, FT137, h136⟩ := h136
                try dsimp only at h136
                exact ⟨RT137, FT121.tr FT137, by omega⟩
          ·
            unfold B_X4_sum_63
            refine zk_bbf (by decide) ?_
            unfold B_X4_sum_118
            refine zk_iv fun x138 e138 => ?_
            have gx138 : x138.toInt = a3.toInt + (Int32.ofInt 1).toInt := by rw [e138]; exact ti_add (by omega) (by omega)
            have q139 : (ge T91 17 0 8).toInt = y12.toInt := congrArg Int32.toInt (show ge T91 17 0 8 = y12 from ((fT91.1 17 0 8 rfl).trans ((fT86.1 17 0 8 rfl).trans ((fT82.1 17 0 8 rfl).trans ey12.symm))))
            refine zk_imp (hk (a1, (2003 : Int32), x138) _ ⟨RT91, (by (try dsimp only) <;> omega)⟩ (by (try dsimp only) <;> omega)) (fun v140 T141 h140 => ?_)
            obtain ⟨RT141, FT141, h140⟩ := h140
            try dsimp only at h140
            exact ⟨RT141, FT91.tr FT141, by omega⟩
        ·
          unfold B_X4_sum_63
          refine zk_bbf (by decide) ?_
          unfold B_X4_sum_118
          refine zk_iv fun x142 e142 => ?_
          have gx142 : x142.toInt = a3.toInt + (Int32.ofInt 1).toInt := by rw [e142]; exact ti_add (by omega) (by omega)
          have q143 : (ge T86 17 0 8).toInt = y12.toInt := congrArg Int32.toInt (show ge T86 17 0 8 = y12 from ((fT86.1 17 0 8 rfl).trans ((fT82.1 17 0 8 rfl).trans ey12.symm)))
          refine zk_imp (hk (a1, (2002 : Int32), x142) _ ⟨RT86, (by (try dsimp only) <;> omega)⟩ (by (try dsimp only) <;> omega)) (fun v144 T145 h144 => ?_)
          obtain ⟨RT145, FT145, h144⟩ := h144
          try dsimp only at h144
          exact ⟨RT145, FT86.tr FT145, by omega⟩
theorem s_N_X4_sum (R : Nat → Int32 → fS → Option (Int32 × fS)) (d : Int) (hR0 : ∀ (q : Int32) (S : fS), RI S → 3 * (6 - (ge S 17 0 8).toInt) + 5 ≤ d → zk (R 0 q S) (fun v S9 => RI S9 ∧ Fr 4097 S S9 ∧ (v.toInt = 0 ∨ (v.toInt = 1 ∧ (ge S9 17 0 8).toInt = (ge S 17 0 8).toInt)))) (hR1 : ∀ (q : Int32) (S : fS), RI S → 3 * (6 - (ge S 17 0 8).toInt) + 4 ≤ d → zk (R 1 q S) (fun v S9 => RI S9 ∧ Fr 4097 S S9 ∧ (v.toInt = 0 ∨ (v.toInt = 1 ∧ (ge S9 17 0 8).toInt = (ge S 17 0 8).toInt)))) (hR2 : ∀ (q : Int32) (S : fS), RI S → 3 * (6 - (ge S 17 0 8).toInt) + 2 ≤ d → zk (R 2 q S) (fun v S9 => RI S9 ∧ Fr 4097 S S9 ∧ (v.toInt = 0 ∨ (v.toInt = 1 ∧ (ge S9 17 0 8).toInt = (ge S 17 0 8).toInt)))) (hR3 : ∀ (q : Int32) (S : fS), RI S → 3 * (6 - (ge S 17 0 8).toInt) + 3 ≤ d → zk (R 3 q S) (fun v S9 => RI S9 ∧ Fr 4097 S S9 ∧ (v.toInt = 0 ∨ (v.toInt = 1 ∧ (ge S9 17 0 8).toInt = (ge S 17 0 8).toInt)))) (hR4 : ∀ (q : Int32) (S : fS), RI S → 3 * (6 - (ge S 17 0 8).toInt) + 2 ≤ d → zk (R 4 q S) (fun v S9 => RI S9 ∧ Fr 4097 S S9 ∧ (v.toInt = 0 ∨ (v.toInt = 1 ∧ (ge S9 17 0 8).toInt = (ge S 17 0 8).toInt)))) (hR5 : ∀ (q : Int32) (S : fS), RI S → 3 * (6 - (ge S 17 0 8).toInt) + 1 ≤ d → zk (R 5 q S) (fun v S9 => RI S9 ∧ Fr 4097 S S9 ∧ (v.toInt = 0 ∨ (v.toInt = 1 ∧ (ge S9 17 0 8).toInt = (ge S 17 0 8).toInt)))) (S0 : fS) (RS0 : RI S0) (hpr : 3 * (6 - (ge S0 17 0 8).toInt) + 3 ≤ d + 1) : zk (N_X4_sum R S0) (fun v S9 => RI S9 ∧ Fr 4097 S0 S9 ∧ (v.toInt = 0 ∨ (v.toInt = 1 ∧ (ge S9 17 0 8).toInt = (ge S0 17 0 8).toInt))) := by
  have lm1 : (-1 : Int32).toInt = -1 := by decide
  have l0 : (0 : Int32).toInt = 0 := by decide
  have FS0 : Fr 4097 S0 S0 := Fr.rf
  unfold N_X4_sum
  obtain ⟨y1, ey1⟩ : ∃ y : Int32, y = ge S0 17 0 8 := ⟨_, rfl⟩
  have gy1 : 0 ≤ y1.toInt ∧ y1.toInt ≤ 6 := by rw [ey1]; exact RS0 17 _ _
  have q2 : (ge S0 17 0 8).toInt = y1.toInt := congrArg Int32.toInt (show ge S0 17 0 8 = y1 from ey1.symm)
  have q3 : (ge S0 17 0 8).toInt = y1.toInt := congrArg Int32.toInt (show ge S0 17 0 8 = y1 from ey1.symm)
  refine zk_imp (s_B_X4_sum_6 R d hR0 hR1 hR2 hR3 hR4 hR5 _ _ RS0 (by (try dsimp only) <;> omega) (by (try dsimp only) <;> omega)) (fun v4 T5 h4 => ?_)
  obtain ⟨RT5, fT5, h4⟩ := h4
  have FT5 := FS0.tr (fT5.sub (m := 4097) (by decide))
  obtain ⟨y6, ey6⟩ : ∃ y : Int32, y = ge T5 17 0 8 := ⟨_, rfl⟩
  have gy6 : 0 ≤ y6.toInt ∧ y6.toInt ≤ 6 := by rw [ey6]; exact RT5 17 _ _
  have q7 : (ge T5 17 0 8).toInt = y6.toInt := congrArg Int32.toInt (show ge T5 17 0 8 = y6 from ey6.symm)
  try dsimp only at h4
  exact ⟨RT5, FT5, by omega⟩
theorem s_N_X4_unit (R : Nat → Int32 → fS → Option (Int32 × fS)) (d : Int) (hR0 : ∀ (q : Int32) (S : fS), RI S → 3 * (6 - (ge S 17 0 8).toInt) + 5 ≤ d → zk (R 0 q S) (fun v S9 => RI S9 ∧ Fr 4097 S S9 ∧ (v.toInt = 0 ∨ (v.toInt = 1 ∧ (ge S9 17 0 8).toInt = (ge S 17 0 8).toInt)))) (hR1 : ∀ (q : Int32) (S : fS), RI S → 3 * (6 - (ge S 17 0 8).toInt) + 4 ≤ d → zk (R 1 q S) (fun v S9 => RI S9 ∧ Fr 4097 S S9 ∧ (v.toInt = 0 ∨ (v.toInt = 1 ∧ (ge S9 17 0 8).toInt = (ge S 17 0 8).toInt)))) (hR2 : ∀ (q : Int32) (S : fS), RI S → 3 * (6 - (ge S 17 0 8).toInt) + 2 ≤ d → zk (R 2 q S) (fun v S9 => RI S9 ∧ Fr 4097 S S9 ∧ (v.toInt = 0 ∨ (v.toInt = 1 ∧ (ge S9 17 0 8).toInt = (ge S 17 0 8).toInt)))) (hR3 : ∀ (q : Int32) (S : fS), RI S → 3 * (6 - (ge S 17 0 8).toInt) + 3 ≤ d → zk (R 3 q S) (fun v S9 => RI S9 ∧ Fr 4097 S S9 ∧ (v.toInt = 0 ∨ (v.toInt = 1 ∧ (ge S9 17 0 8).toInt = (ge S 17 0 8).toInt)))) (hR4 : ∀ (q : Int32) (S : fS), RI S → 3 * (6 - (ge S 17 0 8).toInt) + 2 ≤ d → zk (R 4 q S) (fun v S9 => RI S9 ∧ Fr 4097 S S9 ∧ (v.toInt = 0 ∨ (v.toInt = 1 ∧ (ge S9 17 0 8).toInt = (ge S 17 0 8).toInt)))) (hR5 : ∀ (q : Int32) (S : fS), RI S → 3 * (6 - (ge S 17 0 8).toInt) + 1 ≤ d → zk (R 5 q S) (fun v S9 => RI S9 ∧ Fr 4097 S S9 ∧ (v.toInt = 0 ∨ (v.toInt = 1 ∧ (ge S9 17 0 8).toInt = (ge S 17 0 8).toInt)))) (S0 : fS) (RS0 : RI S0) (hpr : 3 * (6 - (ge S0 17 0 8).toInt) + 2 ≤ d + 1) : zk (N_X4_unit R S0) (fun v S9 => RI S9 ∧ Fr 4097 S0 S9 ∧ (v.toInt = 0 ∨ (v.toInt = 1 ∧ (ge S9 17 0 8).toInt = (ge S0 17 0 8).toInt))) := by
  have l0 : (0 : Int32).toInt = 0 := by decide
  have l1 : (1 : Int32).toInt = 1 := by decide
  have l4 : (4 : Int32).toInt = 4 := by decide
  have l9 : (9 : Int32).toInt = 9 := by decide
  have l40 : (40 : Int32).toInt = 40 := by decide
  have l41 : (41 : Int32).toInt = 41 := by decide
  have l257 : (257 : Int32).toInt = 257 := by decide
  have l267 : (267 : Int32).toInt = 267 := by decide
  have l268 : (268 : Int32).toInt = 268 := by decide
  have l270 : (270 : Int32).toInt = 270 := by decide
  have l275 : (275 : Int32).toInt = 275 := by decide
  have l276 : (276 : Int32).toInt = 276 := by decide
  have l1000 : (1000 : Int32).toInt = 1000 := by decide
  have l2004 : (2004 : Int32).toInt = 2004 := by decide
  have l2005 : (2005 : Int32).toInt = 2005 := by decide
  have FS0 : Fr 4097 S0 S0 := Fr.rf
  unfold N_X4_unit
  obtain ⟨y1, ey1⟩ : ∃ y : Int32, y = ge S0 17 0 8 := ⟨_, rfl⟩
  have gy1 : 0 ≤ y1.toInt ∧ y1.toInt ≤ 6 := by rw [ey1]; exact RS0 17 _ _
  have q2 : (ge S0 17 0 8).toInt = y1.toInt := congrArg Int32.toInt (show ge S0 17 0 8 = y1 from ey1.symm)
  refine zk_bd (s_F_X4_here _ RS0) (fun v3 T4 h3 => ?_)
  obtain ⟨rfl, h3⟩ := h3
  have b5 := ti_bd v3
  refine zk_eq (fun c6 => ?_) (fun c6 => ?_)
  ·
    have q7 : (ge S0 17 0 8).toInt = y1.toInt := congrArg Int32.toInt (show ge S0 17 0 8 = y1 from ey1.symm)
    refine zk_bd (s_F_X4_number _ RS0) (fun v8 T9 h8 => ?_)
    obtain ⟨RT9, fT9, h8⟩ := h8
    have FT9 := FS0.tr (fT9.sub (m := 4097) (by decide))
    have q10 : (ge T9 17 0 8).toInt = y1.toInt := congrArg Int32.toInt (show ge T9 17 0 8 = y1 from ((fT9.1 17 0 8 rfl).trans ey1.symm))
    refine zk_gd (z01 (by omega)) ?_
    have q11 : (ge T9 17 0 8).toInt = y1.toInt := congrArg Int32.toInt (show ge T9 17 0 8 = y1 from ((fT9.1 17 0 8 rfl).trans ey1.symm))
    exact zk_some ⟨RT9, FT9, by omega⟩
  ·
    refine zk_iv fun x12 e12 => ?_
    have b13 := ti_bd x12
    refine zk_eq (fun c14 => ?_) (fun c14 => ?_)
    ·
      unfold B_X4_unit_37
      refine zk_bd (s_F_X6_within _ _ _ _ RS0) (fun v15 T16 h15 => ?_)
      obtain ⟨rfl, h15⟩ := h15
      refine zk_eq (fun c17 => ?_) (fun c17 => ?_)
      ·
        refine zk_eq (fun c18 => ?_) (fun c18 => ?_)
        ·
          have q19 : (ge S0 17 0 8).toInt = y1.toInt := congrArg Int32.toInt (show ge S0 17 0 8 = y1 from ey1.symm)
          refine zk_bd (s_F_X4_opened _ _ RS0) (fun v20 T21 h20 => ?_)
          obtain ⟨RT21, fT21, h20⟩ := h20
          have FT21 := FS0.tr (fT21.sub (m := 4097) (by decide))
          obtain ⟨y22, ey22⟩ : ∃ y : Int32, y = ge T21 17 0 8 := ⟨_, rfl⟩
          have gy22 : 0 ≤ y22.toInt ∧ y22.toInt ≤ 6 := by rw [ey22]; exact RT21 17 _ _
          have q23 : (ge T21 17 0 8).toInt = y22.toInt := congrArg Int32.toInt (show ge T21 17 0 8 = y22 from ey22.symm)
          refine zk_eq (fun c24 => ?_) (fun c24 => ?_)
          ·
            have q25 : (ge T21 17 0 8).toInt = y22.toInt := congrArg Int32.toInt (show ge T21 17 0 8 = y22 from ey22.symm)
            exact zk_some ⟨RT21, FT21, by omega⟩
          ·
            have q26 : (ge T21 17 0 8).toInt = y22.toInt := congrArg Int32.toInt (show ge T21 17 0 8 = y22 from ey22.symm)
            refine zk_bd (hR3 _ _ RT21 (by omega)) (fun v27 T28 h27 => ?_)
            obtain ⟨RT28, fT28, h27⟩ := h27
            have FT28 := FT21.tr (fT28.sub (m := 4097) (by decide))
            obtain ⟨y29, ey29⟩ : ∃ y : Int32, y = ge T28 17 0 8 := ⟨_, rfl⟩
            have gy29 : 0 ≤ y29.toInt ∧ y29.toInt ≤ 6 := by rw [ey29]; exact RT28 17 _ _
            have q30 : (ge T28 17 0 8).toInt = y29.toInt := congrArg Int32.toInt (show ge T28 17 0 8 = y29 from ey29.symm)
            refine zk_eq (fun c31 => ?_) (fun c31 => ?_)
            ·
              have q32 : (ge T28 17 0 8).toInt = y29.toInt := congrArg Int32.toInt (show ge T28 17 0 8 = y29 from ey29.symm)
              exact zk_some ⟨RT28, FT28, by omega⟩
            ·
              have q33 : (ge T28 17 0 8).toInt = y29.toInt := congrArg Int32.toInt (show ge T28 17 0 8 = y29 from ey29.symm)
              refine zk_bd (s_F_X4_closed _ _ RT28 (by omega)) (fun v34 T35 h34 => ?_)
              obtain ⟨RT35, fT35, h34⟩ := h34
              have FT35 := FT28.tr (fT35.sub (m := 4097) (by decide))
              obtain ⟨y36, ey36⟩ : ∃ y : Int32, y = ge T35 17 0 8 := ⟨_, rfl⟩
              have gy36 : 0 ≤ y36.toInt ∧ y36.toInt ≤ 6 := by rw [ey36]; exact RT35 17 _ _
              have q37 : (ge T35 17 0 8).toInt = y36.toInt := congrArg Int32.toInt (show ge T35 17 0 8 = y36 from ey36.symm)
              refine zk_eq (fun c38 => ?_) (fun c38 => ?_)
              ·
                have q39 : (ge T35 17 0 8).toInt = y36.toInt := congrArg Int32.toInt (show ge T35 17 0 8 = y36 from ey36.symm)
                exact zk_some ⟨RT35, FT35, by omega⟩
              ·
                have q40 : (ge T35 17 0 8).toInt = y36.toInt := congrArg Int32.toInt (show ge T35 17 0 8 = y36 from ey36.symm)
                exact zk_some ⟨RT35, FT35, by omega⟩
        ·
          refine zk_eq (fun c41 => ?_) (fun c41 => ?_)
          ·
            unfold B_X4_unit_115
            refine zk_eq (fun c42 => ?_) (fun c42 => ?_)
            ·
              unfold B_X4_unit_132
              have q43 : (ge S0 17 0 8).toInt = y1.toInt := congrArg Int32.toInt (show ge S0 17 0 8 = y1 from ey1.symm)
              refine zk_bd (hR5 _ _ RS0 (by omega)) (fun v44 T45 h44 => ?_)
              obtain ⟨RT45, fT45, h44⟩ := h44
              have FT45 := FS0.tr (fT45.sub (m := 4097) (by decide))
              obtain ⟨y46, ey46⟩ : ∃ y : Int32, y = ge T45 17 0 8 := ⟨_, rfl⟩
              have gy46 : 0 ≤ y46.toInt ∧ y46.toInt ≤ 6 := by rw [ey46]; exact RT45 17 _ _
              have q47 : (ge T45 17 0 8).toInt = y46.toInt := congrArg Int32.toInt (show ge T45 17 0 8 = y46 from ey46.symm)
              refine zk_gd (z01 (by omega)) ?_
              have q48 : (ge T45 17 0 8).toInt = y46.toInt := congrArg Int32.toInt (show ge T45 17 0 8 = y46 from ey46.symm)
              exact zk_some ⟨RT45, FT45, by omega⟩
            ·
              exact False.elim (by omega)
          ·
            refine zk_eq (fun c49 => ?_) (fun c49 => ?_)
            ·
              unfold B_X4_unit_115
              refine zk_eq (fun c50 => ?_) (fun c50 => ?_)
              ·
                exact False.elim (by omega)
              ·
                unfold B_X4_unit_132
                have q51 : (ge S0 17 0 8).toInt = y1.toInt := congrArg Int32.toInt (show ge S0 17 0 8 = y1 from ey1.symm)
                refine zk_bd (hR5 _ _ RS0 (by omega)) (fun v52 T53 h52 => ?_)
                obtain ⟨RT53, fT53, h52⟩ := h52
                have FT53 := FS0.tr (fT53.sub (m := 4097) (by decide))
                obtain ⟨y54, ey54⟩ : ∃ y : Int32, y = ge T53 17 0 8 := ⟨_, rfl⟩
                have gy54 : 0 ≤ y54.toInt ∧ y54.toInt ≤ 6 := by rw [ey54]; exact RT53 17 _ _
                have q55 : (ge T53 17 0 8).toInt = y54.toInt := congrArg Int32.toInt (show ge T53 17 0 8 = y54 from ey54.symm)
                refine zk_gd (z01 (by omega)) ?_
                have q56 : (ge T53 17 0 8).toInt = y54.toInt := congrArg Int32.toInt (show ge T53 17 0 8 = y54 from ey54.symm)
                exact zk_some ⟨RT53, FT53, by omega⟩
            ·
              have q57 : (ge S0 17 0 8).toInt = y1.toInt := congrArg Int32.toInt (show ge S0 17 0 8 = y1 from ey1.symm)
              refine zk_bd (s_F_X4_fail _ _ RS0) (fun v58 T59 h58 => ?_)
              obtain ⟨RT59, fT59, h58⟩ := h58
              have FT59 := FS0.tr (fT59.sub (m := 4097) (by decide))
              have q60 : (ge T59 17 0 8).toInt = y1.toInt := congrArg Int32.toInt (show ge T59 17 0 8 = y1 from ((fT59.1 17 0 8 rfl).trans ey1.symm))
              refine zk_gd (z01 (by omega)) ?_
              have q61 : (ge T59 17 0 8).toInt = y1.toInt := congrArg Int32.toInt (show ge T59 17 0 8 = y1 from ((fT59.1 17 0 8 rfl).trans ey1.symm))
              exact zk_some ⟨RT59, FT59, by omega⟩
      ·
        refine zk_iv fun x62 e62 => ?_
        have gx62 : x62.toInt = (1000 : Int32).toInt + v3.toInt := by rw [e62]; exact ti_add (by omega) (by omega)
        have q63 : (ge S0 17 0 8).toInt = y1.toInt := congrArg Int32.toInt (show ge S0 17 0 8 = y1 from ey1.symm)
        refine zk_bd (s_F_X4_emit _ _ RS0) (fun v64 T65 h64 => ?_)
        obtain ⟨RT65, fT65, h64⟩ := h64
        have FT65 := FS0.tr (fT65.sub (m := 4097) (by decide))
        have q66 : (ge T65 17 0 8).toInt = y1.toInt := congrArg Int32.toInt (show ge T65 17 0 8 = y1 from ((fT65.1 17 0 8 rfl).trans ey1.symm))
        refine zk_iv fun x67 e67 => ?_
        refine zk_iv fun x68 e68 => ?_
        refine zk_sv fun S69 E69 => ?_
        have RS69 : RI S69 := by rw [E69]; exact RT65.wf rfl
        have FS69 : Fr 4097 S0 S69 := by rw [E69]; exact FT65.wr (k := 0) rfl rfl
        have q70 : (ge S69 17 0 8).toInt = y1.toInt := congrArg Int32.toInt (show ge S69 17 0 8 = y1 from (by rw [E69]; exact (ge_puj (by decide)).trans ((fT65.1 17 0 8 rfl).trans ey1.symm)))
        exact zk_some ⟨RS69, FS69, by omega⟩
    ·
      unfold B_X4_unit_37
      refine zk_bd (s_F_X6_within _ _ _ _ RS0) (fun v71 T72 h71 => ?_)
      obtain ⟨rfl, h71⟩ := h71
      refine zk_eq (fun c73 => ?_) (fun c73 => ?_)
      ·
        refine zk_eq (fun c74 => ?_) (fun c74 => ?_)
        ·
          have q75 : (ge S0 17 0 8).toInt = y1.toInt := congrArg Int32.toInt (show ge S0 17 0 8 = y1 from ey1.symm)
          refine zk_bd (s_F_X4_opened _ _ RS0) (fun v76 T77 h76 => ?_)
          obtain ⟨RT77, fT77, h76⟩ := h76
          have FT77 := FS0.tr (fT77.sub (m := 4097) (by decide))
          obtain ⟨y78, ey78⟩ : ∃ y : Int32, y = ge T77 17 0 8 := ⟨_, rfl⟩
          have gy78 : 0 ≤ y78.toInt ∧ y78.toInt ≤ 6 := by rw [ey78]; exact RT77 17 _ _
          have q79 : (ge T77 17 0 8).toInt = y78.toInt := congrArg Int32.toInt (show ge T77 17 0 8 = y78 from ey78.symm)
          refine zk_eq (fun c80 => ?_) (fun c80 => ?_)
          ·
            have q81 : (ge T77 17 0 8).toInt = y78.toInt := congrArg Int32.toInt (show ge T77 17 0 8 = y78 from ey78.symm)
            exact zk_some ⟨RT77, FT77, by omega⟩
          ·
            have q82 : (ge T77 17 0 8).toInt = y78.toInt := congrArg Int32.toInt (show ge T77 17 0 8 = y78 from ey78.symm)
            refine zk_bd (hR3 _ _ RT77 (by omega)) (fun v83 T84 h83 => ?_)
            obtain ⟨RT84, fT84, h83⟩ := h83
            have FT84 := FT77.tr (fT84.sub (m := 4097) (by decide))
            obtain ⟨y85, ey85⟩ : ∃ y : Int32, y = ge T84 17 0 8 := ⟨_, rfl⟩
            have gy85 : 0 ≤ y85.toInt ∧ y85.toInt ≤ 6 := by rw [ey85]; exact RT84 17 _ _
            have q86 : (ge T84 17 0 8).toInt = y85.toInt := congrArg Int32.toInt (show ge T84 17 0 8 = y85 from ey85.symm)
            refine zk_eq (fun c87 => ?_) (fun c87 => ?_)
            ·
              have q88 : (ge T84 17 0 8).toInt = y85.toInt := congrArg Int32.toInt (show ge T84 17 0 8 = y85 from ey85.symm)
              exact zk_some ⟨RT84, FT84, by omega⟩
            ·
              have q89 : (ge T84 17 0 8).toInt = y85.toInt := congrArg Int32.toInt (show ge T84 17 0 8 = y85 from ey85.symm)
              refine zk_bd (s_F_X4_closed _ _ RT84 (by omega)) (fun v90 T91 h90 => ?_)
              obtain ⟨RT91, fT91, h90⟩ := h90
              have FT91 := FT84.tr (fT91.sub (m := 4097) (by decide))
              obtain ⟨y92, ey92⟩ : ∃ y : Int32, y = ge T91 17 0 8 := ⟨_, rfl⟩
              have gy92 : 0 ≤ y92.toInt ∧ y92.toInt ≤ 6 := by rw [ey92]; exact RT91 17 _ _
              have q93 : (ge T91 17 0 8).toInt = y92.toInt := congrArg Int32.toInt (show ge T91 17 0 8 = y92 from ey92.symm)
              refine zk_eq (fun c94 => ?_) (fun c94 => ?_)
              ·
                have q95 : (ge T91 17 0 8).toInt = y92.toInt := congrArg Int32.toInt (show ge T91 17 0 8 = y92 from ey92.symm)
                exact zk_some ⟨RT91, FT91, by omega⟩
              ·
                have q96 : (ge T91 17 0 8).toInt = y92.toInt := congrArg Int32.toInt (show ge T91 17 0 8 = y92 from ey92.symm)
                exact zk_some ⟨RT91, FT91, by omega⟩
        ·
          refine zk_eq (fun c97 => ?_) (fun c97 => ?_)
          ·
            unfold B_X4_unit_115
            refine zk_eq (fun c98 => ?_) (fun c98 => ?_)
            ·
              unfold B_X4_unit_132
              have q99 : (ge S0 17 0 8).toInt = y1.toInt := congrArg Int32.toInt (show ge S0 17 0 8 = y1 from ey1.symm)
              refine zk_bd (hR5 _ _ RS0 (by omega)) (fun v100 T101 h100 => ?_)
              obtain ⟨RT101, fT101, h100⟩ := h100
              have FT101 := FS0.tr (fT101.sub (m := 4097) (by decide))
              obtain ⟨y102, ey102⟩ : ∃ y : Int32, y = ge T101 17 0 8 := ⟨_, rfl⟩
              have gy102 : 0 ≤ y102.toInt ∧ y102.toInt ≤ 6 := by rw [ey102]; exact RT101 17 _ _
              have q103 : (ge T101 17 0 8).toInt = y102.toInt := congrArg Int32.toInt (show ge T101 17 0 8 = y102 from ey102.symm)
              refine zk_gd (z01 (by omega)) ?_
              have q104 : (ge T101 17 0 8).toInt = y102.toInt := congrArg Int32.toInt (show ge T101 17 0 8 = y102 from ey102.symm)
              exact zk_some ⟨RT101, FT101, by omega⟩
            ·
              exact False.elim (by omega)
          ·
            refine zk_eq (fun c105 => ?_) (fun c105 => ?_)
            ·
              unfold B_X4_unit_115
              refine zk_eq (fun c106 => ?_) (fun c106 => ?_)
              ·
                exact False.elim (by omega)
              ·
                unfold B_X4_unit_132
                have q107 : (ge S0 17 0 8).toInt = y1.toInt := congrArg Int32.toInt (show ge S0 17 0 8 = y1 from ey1.symm)
                refine zk_bd (hR5 _ _ RS0 (by omega)) (fun v108 T109 h108 => ?_)
                obtain ⟨RT109, fT109, h108⟩ := h108
                have FT109 := FS0.tr (fT109.sub (m := 4097) (by decide))
                obtain ⟨y110, ey110⟩ : ∃ y : Int32, y = ge T109 17 0 8 := ⟨_, rfl⟩
                have gy110 : 0 ≤ y110.toInt ∧ y110.toInt ≤ 6 := by rw [ey110]; exact RT109 17 _ _
                have q111 : (ge T109 17 0 8).toInt = y110.toInt := congrArg Int32.toInt (show ge T109 17 0 8 = y110 from ey110.symm)
                refine zk_gd (z01 (by omega)) ?_
                have q112 : (ge T109 17 0 8).toInt = y110.toInt := congrArg Int32.toInt (show ge T109 17 0 8 = y110 from ey110.symm)
                exact zk_some ⟨RT109, FT109, by omega⟩
            ·
              have q113 : (ge S0 17 0 8).toInt = y1.toInt := congrArg Int32.toInt (show ge S0 17 0 8 = y1 from ey1.symm)
              refine zk_bd (s_F_X4_fail _ _ RS0) (fun v114 T115 h114 => ?_)
              obtain ⟨RT115, fT115, h114⟩ := h114
              have FT115 := FS0.tr (fT115.sub (m := 4097) (by decide))
              have q116 : (ge T115 17 0 8).toInt = y1.toInt := congrArg Int32.toInt (show ge T115 17 0 8 = y1 from ((fT115.1 17 0 8 rfl).trans ey1.symm))
              refine zk_gd (z01 (by omega)) ?_
              have q117 : (ge T115 17 0 8).toInt = y1.toInt := congrArg Int32.toInt (show ge T115 17 0 8 = y1 from ((fT115.1 17 0 8 rfl).trans ey1.symm))
              exact zk_some ⟨RT115, FT115, by omega⟩
      ·
        refine zk_iv fun x118 e118 => ?_
        have gx118 : x118.toInt = (1000 : Int32).toInt + v3.toInt := by rw [e118]; exact ti_add (by omega) (by omega)
        have q119 : (ge S0 17 0 8).toInt = y1.toInt := congrArg Int32.toInt (show ge S0 17 0 8 = y1 from ey1.symm)
        refine zk_bd (s_F_X4_emit _ _ RS0) (fun v120 T121 h120 => ?_)
        obtain ⟨RT121, fT121, h120⟩ := h120
        have FT121 := FS0.tr (fT121.sub (m := 4097) (by decide))
        have q122 : (ge T121 17 0 8).toInt = y1.toInt := congrArg Int32.toInt (show ge T121 17 0 8 = y1 from ((fT121.1 17 0 8 rfl).trans ey1.symm))
        refine zk_iv fun x123 e123 => ?_
        refine zk_iv fun x124 e124 => ?_
        refine zk_sv fun S125 E125 => ?_
        have RS125 : RI S125 := by rw [E125]; exact RT121.wf rfl
        have FS125 : Fr 4097 S0 S125 := by rw [E125]; exact FT121.wr (k := 0) rfl rfl
        have q126 : (ge S125 17 0 8).toInt = y1.toInt := congrArg Int32.toInt (show ge S125 17 0 8 = y1 from (by rw [E125]; exact (ge_puj (by decide)).trans ((fT121.1 17 0 8 rfl).trans ey1.symm)))
        exact zk_some ⟨RS125, FS125, by omega⟩
theorem s_N_X4_choice (R : Nat → Int32 → fS → Option (Int32 × fS)) (d : Int) (hR0 : ∀ (q : Int32) (S : fS), RI S → 3 * (6 - (ge S 17 0 8).toInt) + 5 ≤ d → zk (R 0 q S) (fun v S9 => RI S9 ∧ Fr 4097 S S9 ∧ (v.toInt = 0 ∨ (v.toInt = 1 ∧ (ge S9 17 0 8).toInt = (ge S 17 0 8).toInt)))) (hR1 : ∀ (q : Int32) (S : fS), RI S → 3 * (6 - (ge S 17 0 8).toInt) + 4 ≤ d → zk (R 1 q S) (fun v S9 => RI S9 ∧ Fr 4097 S S9 ∧ (v.toInt = 0 ∨ (v.toInt = 1 ∧ (ge S9 17 0 8).toInt = (ge S 17 0 8).toInt)))) (hR2 : ∀ (q : Int32) (S : fS), RI S → 3 * (6 - (ge S 17 0 8).toInt) + 2 ≤ d → zk (R 2 q S) (fun v S9 => RI S9 ∧ Fr 4097 S S9 ∧ (v.toInt = 0 ∨ (v.toInt = 1 ∧ (ge S9 17 0 8).toInt = (ge S 17 0 8).toInt)))) (hR3 : ∀ (q : Int32) (S : fS), RI S → 3 * (6 - (ge S 17 0 8).toInt) + 3 ≤ d → zk (R 3 q S) (fun v S9 => RI S9 ∧ Fr 4097 S S9 ∧ (v.toInt = 0 ∨ (v.toInt = 1 ∧ (ge S9 17 0 8).toInt = (ge S 17 0 8).toInt)))) (hR4 : ∀ (q : Int32) (S : fS), RI S → 3 * (6 - (ge S 17 0 8).toInt) + 2 ≤ d → zk (R 4 q S) (fun v S9 => RI S9 ∧ Fr 4097 S S9 ∧ (v.toInt = 0 ∨ (v.toInt = 1 ∧ (ge S9 17 0 8).toInt = (ge S 17 0 8).toInt)))) (hR5 : ∀ (q : Int32) (S : fS), RI S → 3 * (6 - (ge S 17 0 8).toInt) + 1 ≤ d → zk (R 5 q S) (fun v S9 => RI S9 ∧ Fr 4097 S S9 ∧ (v.toInt = 0 ∨ (v.toInt = 1 ∧ (ge S9 17 0 8).toInt = (ge S 17 0 8).toInt)))) (p1 : Int32) (S0 : fS) (RS0 : RI S0) (hpr : 3 * (6 - (ge S0 17 0 8).toInt) + 1 ≤ d + 1) : zk (N_X4_choice R p1 S0) (fun v S9 => RI S9 ∧ Fr 4097 S0 S9 ∧ (v.toInt = 0 ∨ (v.toInt = 1 ∧ (ge S9 17 0 8).toInt = (ge S0 17 0 8).toInt))) := by
  have l0 : (0 : Int32).toInt = 0 := by decide
  have l1 : (1 : Int32).toInt = 1 := by decide
  have l4 : (4 : Int32).toInt = 4 := by decide
  have l40 : (40 : Int32).toInt = 40 := by decide
  have l41 : (41 : Int32).toInt = 41 := by decide
  have l44 : (44 : Int32).toInt = 44 := by decide
  have FS0 : Fr 4097 S0 S0 := Fr.rf
  unfold N_X4_choice
  obtain ⟨y1, ey1⟩ : ∃ y : Int32, y = ge S0 17 0 8 := ⟨_, rfl⟩
  have gy1 : 0 ≤ y1.toInt ∧ y1.toInt ≤ 6 := by rw [ey1]; exact RS0 17 _ _
  have q2 : (ge S0 17 0 8).toInt = y1.toInt := congrArg Int32.toInt (show ge S0 17 0 8 = y1 from ey1.symm)
  refine zk_iv fun x3 e3 => ?_
  refine zk_iv fun x4 e4 => ?_
  refine zk_sv fun S5 E5 => ?_
  have RS5 : RI S5 := by rw [E5]; exact RS0.wf rfl
  have FS5 : Fr 4097 S0 S5 := by rw [E5]; exact FS0.wr (k := 0) rfl rfl
  have q6 : (ge S5 17 0 8).toInt = y1.toInt := congrArg Int32.toInt (show ge S5 17 0 8 = y1 from (by rw [E5]; exact (ge_puj (by decide)).trans ey1.symm))
  refine zk_bd (s_F_X4_opened _ _ RS5) (fun v7 T8 h7 => ?_)
  obtain ⟨RT8, fT8, h7⟩ := h7
  have FT8 := FS5.tr (fT8.sub (m := 4097) (by decide))
  obtain ⟨y9, ey9⟩ : ∃ y : Int32, y = ge T8 17 0 8 := ⟨_, rfl⟩
  have gy9 : 0 ≤ y9.toInt ∧ y9.toInt ≤ 6 := by rw [ey9]; exact RT8 17 _ _
  have q10 : (ge T8 17 0 8).toInt = y9.toInt := congrArg Int32.toInt (show ge T8 17 0 8 = y9 from ey9.symm)
  refine zk_eq (fun c11 => ?_) (fun c11 => ?_)
  ·
    have q12 : (ge T8 17 0 8).toInt = y9.toInt := congrArg Int32.toInt (show ge T8 17 0 8 = y9 from ey9.symm)
    exact zk_some ⟨RT8, FT8, by omega⟩
  ·
    have q13 : (ge T8 17 0 8).toInt = y9.toInt := congrArg Int32.toInt (show ge T8 17 0 8 = y9 from ey9.symm)
    refine zk_bd (hR3 _ _ RT8 (by omega)) (fun v14 T15 h14 => ?_)
    obtain ⟨RT15, fT15, h14⟩ := h14
    have FT15 := FT8.tr (fT15.sub (m := 4097) (by decide))
    obtain ⟨y16, ey16⟩ : ∃ y : Int32, y = ge T15 17 0 8 := ⟨_, rfl⟩
    have gy16 : 0 ≤ y16.toInt ∧ y16.toInt ≤ 6 := by rw [ey16]; exact RT15 17 _ _
    have q17 : (ge T15 17 0 8).toInt = y16.toInt := congrArg Int32.toInt (show ge T15 17 0 8 = y16 from ey16.symm)
    refine zk_eq (fun c18 => ?_) (fun c18 => ?_)
    ·
      have q19 : (ge T15 17 0 8).toInt = y16.toInt := congrArg Int32.toInt (show ge T15 17 0 8 = y16 from ey16.symm)
      exact zk_some ⟨RT15, FT15, by omega⟩
    ·
      have q20 : (ge T15 17 0 8).toInt = y16.toInt := congrArg Int32.toInt (show ge T15 17 0 8 = y16 from ey16.symm)
      refine zk_bd (s_F_X4_passed _ _ RT15) (fun v21 T22 h21 => ?_)
      obtain ⟨RT22, fT22, h21⟩ := h21
      have FT22 := FT15.tr (fT22.sub (m := 4097) (by decide))
      have q23 : (ge T22 17 0 8).toInt = y16.toInt := congrArg Int32.toInt (show ge T22 17 0 8 = y16 from ((fT22.1 17 0 8 rfl).trans ey16.symm))
      refine zk_eq (fun c24 => ?_) (fun c24 => ?_)
      ·
        have q25 : (ge T22 17 0 8).toInt = y16.toInt := congrArg Int32.toInt (show ge T22 17 0 8 = y16 from ((fT22.1 17 0 8 rfl).trans ey16.symm))
        refine zk_bd (s_F_X4_fail _ _ RT22) (fun v26 T27 h26 => ?_)
        obtain ⟨RT27, fT27, h26⟩ := h26
        have FT27 := FT22.tr (fT27.sub (m := 4097) (by decide))
        have q28 : (ge T27 17 0 8).toInt = y16.toInt := congrArg Int32.toInt (show ge T27 17 0 8 = y16 from ((fT27.1 17 0 8 rfl).trans ((fT22.1 17 0 8 rfl).trans ey16.symm)))
        refine zk_gd (z01 (by omega)) ?_
        have q29 : (ge T27 17 0 8).toInt = y16.toInt := congrArg Int32.toInt (show ge T27 17 0 8 = y16 from ((fT27.1 17 0 8 rfl).trans ((fT22.1 17 0 8 rfl).trans ey16.symm)))
        exact zk_some ⟨RT27, FT27, by omega⟩
      ·
        have q30 : (ge T22 17 0 8).toInt = y16.toInt := congrArg Int32.toInt (show ge T22 17 0 8 = y16 from ((fT22.1 17 0 8 rfl).trans ey16.symm))
        refine zk_bd (hR3 _ _ RT22 (by omega)) (fun v31 T32 h31 => ?_)
        obtain ⟨RT32, fT32, h31⟩ := h31
        have FT32 := FT22.tr (fT32.sub (m := 4097) (by decide))
        obtain ⟨y33, ey33⟩ : ∃ y : Int32, y = ge T32 17 0 8 := ⟨_, rfl⟩
        have gy33 : 0 ≤ y33.toInt ∧ y33.toInt ≤ 6 := by rw [ey33]; exact RT32 17 _ _
        have q34 : (ge T32 17 0 8).toInt = y33.toInt := congrArg Int32.toInt (show ge T32 17 0 8 = y33 from ey33.symm)
        refine zk_eq (fun c35 => ?_) (fun c35 => ?_)
        ·
          have q36 : (ge T32 17 0 8).toInt = y33.toInt := congrArg Int32.toInt (show ge T32 17 0 8 = y33 from ey33.symm)
          exact zk_some ⟨RT32, FT32, by omega⟩
        ·
          have q37 : (ge T32 17 0 8).toInt = y33.toInt := congrArg Int32.toInt (show ge T32 17 0 8 = y33 from ey33.symm)
          refine zk_bd (s_F_X4_closed _ _ RT32 (by omega)) (fun v38 T39 h38 => ?_)
          obtain ⟨RT39, fT39, h38⟩ := h38
          have FT39 := FT32.tr (fT39.sub (m := 4097) (by decide))
          obtain ⟨y40, ey40⟩ : ∃ y : Int32, y = ge T39 17 0 8 := ⟨_, rfl⟩
          have gy40 : 0 ≤ y40.toInt ∧ y40.toInt ≤ 6 := by rw [ey40]; exact RT39 17 _ _
          have q41 : (ge T39 17 0 8).toInt = y40.toInt := congrArg Int32.toInt (show ge T39 17 0 8 = y40 from ey40.symm)
          refine zk_eq (fun c42 => ?_) (fun c42 => ?_)
          ·
            have q43 : (ge T39 17 0 8).toInt = y40.toInt := congrArg Int32.toInt (show ge T39 17 0 8 = y40 from ey40.symm)
            exact zk_some ⟨RT39, FT39, by omega⟩
          ·
            have q44 : (ge T39 17 0 8).toInt = y40.toInt := congrArg Int32.toInt (show ge T39 17 0 8 = y40 from ey40.symm)
            refine zk_bd (s_F_X4_emit _ _ RT39) (fun v45 T46 h45 => ?_)
            obtain ⟨RT46, fT46, h45⟩ := h45
            have FT46 := FT39.tr (fT46.sub (m := 4097) (by decide))
            have q47 : (ge T46 17 0 8).toInt = y40.toInt := congrArg Int32.toInt (show ge T46 17 0 8 = y40 from ((fT46.1 17 0 8 rfl).trans ey40.symm))
            have q48 : (ge T46 17 0 8).toInt = y40.toInt := congrArg Int32.toInt (show ge T46 17 0 8 = y40 from ((fT46.1 17 0 8 rfl).trans ey40.symm))
            exact zk_some ⟨RT46, FT46, by omega⟩
