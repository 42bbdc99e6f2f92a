/-! the pure part: the reference, expressions -/
theorem s_F_X7_opens (p1 : Int32) (S0 : fS) (RS0 : RI S0) (hp : 0 ≤ p1.toInt ∧ p1.toInt ≤ 3) (hpr : (ge S0 40 0 4).toInt + p1.toInt ≤ 300 ∧ (ge S0 40 0 5).toInt ≤ 6) : zk (F_X7_opens p1 S0) (fun v S9 => RI S9 ∧ Fr 13421838336 S0 S9 ∧ ((ge S9 40 0 4).toInt = (ge S0 40 0 4).toInt + p1.toInt ∧ (ge S9 40 0 5).toInt = (ge S0 40 0 5).toInt + 1 ∧ (¬ (ge S0 40 0 6).toInt = 0 → ¬ (ge S9 40 0 6).toInt = 0) ∧ (¬ (ge S9 40 0 6).toInt = 0 ∨ (ge S9 40 0 5).toInt ≤ 6))) := by
  have l0 : (0 : Int32).toInt = 0 := by decide
  have l1 : (1 : Int32).toInt = 1 := by decide
  have l3 : (3 : Int32).toInt = 3 := by decide
  have l4 : (4 : Int32).toInt = 4 := by decide
  have l5 : (5 : Int32).toInt = 5 := by decide
  have l6 : (6 : Int32).toInt = 6 := by decide
  have FS0 : Fr 13421838336 S0 S0 := Fr.rf
  unfold F_X7_opens
  obtain ⟨y1, ey1⟩ : ∃ y : Int32, y = ge S0 40 0 2 := ⟨_, rfl⟩
  have gy1 : 0 ≤ y1.toInt ∧ y1.toInt ≤ 300 := by rw [ey1]; exact RS0 40 _ _
  have q2 : (ge S0 40 0 2).toInt = y1.toInt := congrArg Int32.toInt (show ge S0 40 0 2 = y1 from ey1.symm)
  obtain ⟨y3, ey3⟩ : ∃ y : Int32, y = ge S0 40 0 4 := ⟨_, rfl⟩
  have gy3 : 0 ≤ y3.toInt ∧ y3.toInt ≤ 300 := by rw [ey3]; exact RS0 40 _ _
  have q4 : (ge S0 40 0 4).toInt = y3.toInt := congrArg Int32.toInt (show ge S0 40 0 4 = y3 from ey3.symm)
  obtain ⟨y5, ey5⟩ : ∃ y : Int32, y = ge S0 40 0 6 := ⟨_, rfl⟩
  have q6 : (ge S0 40 0 6).toInt = y5.toInt := congrArg Int32.toInt (show ge S0 40 0 6 = y5 from ey5.symm)
  obtain ⟨y7, ey7⟩ : ∃ y : Int32, y = ge S0 40 0 5 := ⟨_, rfl⟩
  have gy7 : 0 ≤ y7.toInt ∧ y7.toInt ≤ 7 := by rw [ey7]; exact RS0 40 _ _
  have q8 : (ge S0 40 0 5).toInt = y7.toInt := congrArg Int32.toInt (show ge S0 40 0 5 = y7 from ey7.symm)
  refine zk_ivq (x := y7) ey7.symm ?_
  refine zk_eq (fun c9 => ?_) (fun c9 => ?_)
  ·
    refine zk_ivq (x := y3) ey3.symm ?_
    have q10 : (ge S0 40 0 2).toInt = y1.toInt := congrArg Int32.toInt (show ge S0 40 0 2 = y1 from ey1.symm)
    have q11 : (ge S0 40 0 4).toInt = y3.toInt := congrArg Int32.toInt (show ge S0 40 0 4 = y3 from ey3.symm)
    have q12 : (ge S0 40 0 6).toInt = y5.toInt := congrArg Int32.toInt (show ge S0 40 0 6 = y5 from ey5.symm)
    have q13 : (ge S0 40 0 5).toInt = y7.toInt := congrArg Int32.toInt (show ge S0 40 0 5 = y7 from ey7.symm)
    refine zk_bd (s_F_X7_wrong _ _ _ RS0 (by omega)) (fun v14 T15 h14 => ?_)
    obtain ⟨RT15, fT15, h14⟩ := h14
    have FT15 := FS0.tr (fT15.sub (m := 13421838336) (by decide))
    have q16 : (ge T15 40 0 2).toInt = y1.toInt := congrArg Int32.toInt (show ge T15 40 0 2 = y1 from ((fT15.1 40 0 2 rfl).trans ey1.symm))
    have q17 : (ge T15 40 0 4).toInt = y3.toInt := congrArg Int32.toInt (show ge T15 40 0 4 = y3 from ((fT15.1 40 0 4 rfl).trans ey3.symm))
    obtain ⟨y18, ey18⟩ : ∃ y : Int32, y = ge T15 40 0 6 := ⟨_, rfl⟩
    have q19 : (ge T15 40 0 6).toInt = y18.toInt := congrArg Int32.toInt (show ge T15 40 0 6 = y18 from ey18.symm)
    have q20 : (ge T15 40 0 5).toInt = y7.toInt := congrArg Int32.toInt (show ge T15 40 0 5 = y7 from ((fT15.1 40 0 5 rfl).trans ey7.symm))
    unfold B_X7_opens_18
    refine zk_ivq (x := y7) ((fT15.1 40 0 5 rfl).trans ey7.symm) ?_
    refine zk_iv fun x21 e21 => ?_
    have gx21 : x21.toInt = y7.toInt + (1 : Int32).toInt := by rw [e21]; exact ti_add (by omega) (by omega)
    refine zk_sv fun S22 E22 => ?_
    have RS22 : RI S22 := by rw [E22]; exact RT15.wr (show (0 : Int) ≤ x21.toInt by omega) (show x21.toInt ≤ 7 by omega)
    have FS22 : Fr 13421838336 S0 S22 := by rw [E22]; exact FT15.wr (k := 32) rfl rfl
    refine zk_ivq (x := y3) (by rw [E22]; exact (ge_puj (by decide)).trans ((fT15.1 40 0 4 rfl).trans ey3.symm)) ?_
    refine zk_iv fun x23 e23 => ?_
    have gx23 : x23.toInt = y3.toInt + p1.toInt := by rw [e23]; exact ti_add (by omega) (by omega)
    refine zk_sv fun S24 E24 => ?_
    have RS24 : RI S24 := by rw [E24]; exact RS22.wr (show (0 : Int) ≤ x23.toInt by omega) (show x23.toInt ≤ 300 by omega)
    have FS24 : Fr 13421838336 S0 S24 := by rw [E24]; exact FS22.wr (k := 29) rfl rfl
    have q25 : (ge S24 40 0 2).toInt = y1.toInt := congrArg Int32.toInt (show ge S24 40 0 2 = y1 from (by rw [E24]; exact (ge_puj (by decide)).trans (by rw [E22]; exact (ge_puj (by decide)).trans ((fT15.1 40 0 2 rfl).trans ey1.symm))))
    have q26 : (ge S24 40 0 4).toInt = x23.toInt := congrArg Int32.toInt (show ge S24 40 0 4 = x23 from (by rw [E24]; exact ge_pus))
    have q27 : (ge S24 40 0 6).toInt = y18.toInt := congrArg Int32.toInt (show ge S24 40 0 6 = y18 from (by rw [E24]; exact (ge_puj (by decide)).trans (by rw [E22]; exact (ge_puj (by decide)).trans ey18.symm)))
    have q28 : (ge S24 40 0 5).toInt = x21.toInt := congrArg Int32.toInt (show ge S24 40 0 5 = x21 from (by rw [E24]; exact (ge_puj (by decide)).trans (by rw [E22]; exact ge_pus)))
    exact zk_some ⟨RS24, FS24, by omega⟩
  ·
    unfold B_X7_opens_18
    refine zk_ivq (x := y7) ey7.symm ?_
    refine zk_iv fun x29 e29 => ?_
    have gx29 : x29.toInt = y7.toInt + (1 : Int32).toInt := by rw [e29]; exact ti_add (by omega) (by omega)
    refine zk_sv fun S30 E30 => ?_
    have RS30 : RI S30 := by rw [E30]; exact RS0.wr (show (0 : Int) ≤ x29.toInt by omega) (show x29.toInt ≤ 7 by omega)
    have FS30 : Fr 13421838336 S0 S30 := by rw [E30]; exact FS0.wr (k := 32) rfl rfl
    refine zk_ivq (x := y3) (by rw [E30]; exact (ge_puj (by decide)).trans ey3.symm) ?_
    refine zk_iv fun x31 e31 => ?_
    have gx31 : x31.toInt = y3.toInt + p1.toInt := by rw [e31]; exact ti_add (by omega) (by omega)
    refine zk_sv fun S32 E32 => ?_
    have RS32 : RI S32 := by rw [E32]; exact RS30.wr (show (0 : Int) ≤ x31.toInt by omega) (show x31.toInt ≤ 300 by omega)
    have FS32 : Fr 13421838336 S0 S32 := by rw [E32]; exact FS30.wr (k := 29) rfl rfl
    have q33 : (ge S32 40 0 2).toInt = y1.toInt := congrArg Int32.toInt (show ge S32 40 0 2 = y1 from (by rw [E32]; exact (ge_puj (by decide)).trans (by rw [E30]; exact (ge_puj (by decide)).trans ey1.symm)))
    have q34 : (ge S32 40 0 4).toInt = x31.toInt := congrArg Int32.toInt (show ge S32 40 0 4 = x31 from (by rw [E32]; exact ge_pus))
    have q35 : (ge S32 40 0 6).toInt = y5.toInt := congrArg Int32.toInt (show ge S32 40 0 6 = y5 from (by rw [E32]; exact (ge_puj (by decide)).trans (by rw [E30]; exact (ge_puj (by decide)).trans ey5.symm)))
    have q36 : (ge S32 40 0 5).toInt = x29.toInt := congrArg Int32.toInt (show ge S32 40 0 5 = x29 from (by rw [E32]; exact (ge_puj (by decide)).trans (by rw [E30]; exact ge_pus)))
    exact zk_some ⟨RS32, FS32, by omega⟩
theorem s_N_X7_unit (R : Nat → Int32 → fS → Option (Int32 × fS)) (d : Int) (hR0 : ∀ (q : Int32) (S : fS), RI S → ((¬ (ge S 40 0 6).toInt = 0 ∧ 1 ≤ d) ∨ ((ge S 40 0 5).toInt ≤ 6 ∧ 3 * (7 - (ge S 40 0 5).toInt) + 1 ≤ d)) → zk (R 0 q S) (fun v S9 => RI S9 ∧ Fr 13421838336 S S9 ∧ ((ge S 40 0 4).toInt ≤ (ge S9 40 0 4).toInt ∧ (ge S9 40 0 5).toInt = (ge S 40 0 5).toInt ∧ (¬ (ge S 40 0 6).toInt = 0 → ¬ (ge S9 40 0 6).toInt = 0)))) (hR1 : ∀ (q : Int32) (S : fS), RI S → ((¬ (ge S 40 0 6).toInt = 0 ∧ 2 ≤ d) ∨ ((ge S 40 0 5).toInt ≤ 6 ∧ 3 * (7 - (ge S 40 0 5).toInt) + 2 ≤ d)) → zk (R 1 q S) (fun v S9 => RI S9 ∧ Fr 13421838336 S S9 ∧ ((ge S 40 0 4).toInt ≤ (ge S9 40 0 4).toInt ∧ (ge S9 40 0 5).toInt = (ge S 40 0 5).toInt ∧ (¬ (ge S 40 0 6).toInt = 0 → ¬ (ge S9 40 0 6).toInt = 0)))) (hR2 : ∀ (q : Int32) (S : fS), RI S → ((¬ (ge S 40 0 6).toInt = 0 ∧ 3 ≤ d) ∨ ((ge S 40 0 5).toInt ≤ 6 ∧ 3 * (7 - (ge S 40 0 5).toInt) + 3 ≤ d)) → zk (R 2 q S) (fun v S9 => RI S9 ∧ Fr 13421838336 S S9 ∧ ((ge S 40 0 4).toInt ≤ (ge S9 40 0 4).toInt ∧ (ge S9 40 0 5).toInt = (ge S 40 0 5).toInt ∧ (¬ (ge S 40 0 6).toInt = 0 → ¬ (ge S9 40 0 6).toInt = 0)))) (hR3 : ∀ (q : Int32) (S : fS), RI S → ((¬ (ge S 40 0 6).toInt = 0 ∧ 1 ≤ d) ∨ ((ge S 40 0 5).toInt ≤ 6 ∧ 3 * (7 - (ge S 40 0 5).toInt) + 4 ≤ d)) → zk (R 3 q S) (fun v S9 => RI S9 ∧ Fr 13421838336 S S9 ∧ ((ge S 40 0 4).toInt ≤ (ge S9 40 0 4).toInt ∧ (ge S9 40 0 5).toInt = (ge S 40 0 5).toInt ∧ (¬ (ge S 40 0 6).toInt = 0 → ¬ (ge S9 40 0 6).toInt = 0) ∧ 0 ≤ v.toInt ∧ v.toInt ≤ 1))) (hR4 : ∀ (q : Int32) (S : fS), RI S → ((¬ (ge S 40 0 6).toInt = 0 ∧ 2 ≤ d) ∨ ((ge S 40 0 5).toInt ≤ 6 ∧ 3 * (7 - (ge S 40 0 5).toInt) + 5 ≤ d)) → zk (R 4 q S) (fun v S9 => RI S9 ∧ Fr 13421838336 S S9 ∧ ((ge S 40 0 4).toInt ≤ (ge S9 40 0 4).toInt ∧ (ge S9 40 0 5).toInt = (ge S 40 0 5).toInt ∧ (¬ (ge S 40 0 6).toInt = 0 → ¬ (ge S9 40 0 6).toInt = 0) ∧ 0 ≤ v.toInt ∧ v.toInt ≤ 1))) (hR5 : ∀ (q : Int32) (S : fS), RI S → ((¬ (ge S 40 0 6).toInt = 0 ∧ 3 ≤ d) ∨ ((ge S 40 0 5).toInt ≤ 6 ∧ 3 * (7 - (ge S 40 0 5).toInt) + 6 ≤ d)) → zk (R 5 q S) (fun v S9 => RI S9 ∧ Fr 13421838336 S S9 ∧ ((ge S 40 0 4).toInt ≤ (ge S9 40 0 4).toInt ∧ (ge S9 40 0 5).toInt = (ge S 40 0 5).toInt ∧ (¬ (ge S 40 0 6).toInt = 0 → ¬ (ge S9 40 0 6).toInt = 0) ∧ 0 ≤ v.toInt ∧ v.toInt ≤ 1))) (S0 : fS) (RS0 : RI S0) (hpr : ((¬ (ge S0 40 0 6).toInt = 0 ∧ 1 ≤ d + 1) ∨ ((ge S0 40 0 5).toInt ≤ 6 ∧ 3 * (7 - (ge S0 40 0 5).toInt) + 1 ≤ d + 1))) : zk (N_X7_unit R S0) (fun v S9 => RI S9 ∧ Fr 13421838336 S0 S9 ∧ ((ge S0 40 0 4).toInt ≤ (ge S9 40 0 4).toInt ∧ (ge S9 40 0 5).toInt = (ge S0 40 0 5).toInt ∧ (¬ (ge S0 40 0 6).toInt = 0 → ¬ (ge S9 40 0 6).toInt = 0))) := by
  have lm1 : (-1 : Int32).toInt = -1 := by decide
  have l0 : (0 : Int32).toInt = 0 := by decide
  have l1 : (1 : Int32).toInt = 1 := by decide
  have l4 : (4 : Int32).toInt = 4 := by decide
  have l5 : (5 : Int32).toInt = 5 := by decide
  have l6 : (6 : Int32).toInt = 6 := by decide
  have l12 : (12 : Int32).toInt = 12 := by decide
  have l13 : (13 : Int32).toInt = 13 := by decide
  have l15 : (15 : Int32).toInt = 15 := by decide
  have l19 : (19 : Int32).toInt = 19 := by decide
  have l20 : (20 : Int32).toInt = 20 := by decide
  have l40 : (40 : Int32).toInt = 40 := by decide
  have l41 : (41 : Int32).toInt = 41 := by decide
  have l44 : (44 : Int32).toInt = 44 := by decide
  have FS0 : Fr 13421838336 S0 S0 := Fr.rf
  unfold N_X7_unit
  obtain ⟨y1, ey1⟩ : ∃ y : Int32, y = ge S0 40 0 2 := ⟨_, rfl⟩
  have gy1 : 0 ≤ y1.toInt ∧ y1.toInt ≤ 300 := by rw [ey1]; exact RS0 40 _ _
  have q2 : (ge S0 40 0 2).toInt = y1.toInt := congrArg Int32.toInt (show ge S0 40 0 2 = y1 from ey1.symm)
  obtain ⟨y3, ey3⟩ : ∃ y : Int32, y = ge S0 40 0 4 := ⟨_, rfl⟩
  have gy3 : 0 ≤ y3.toInt ∧ y3.toInt ≤ 300 := by rw [ey3]; exact RS0 40 _ _
  have q4 : (ge S0 40 0 4).toInt = y3.toInt := congrArg Int32.toInt (show ge S0 40 0 4 = y3 from ey3.symm)
  have q5 : byv S0 (ge S0 40 0 4) = byv S0 y3 := congrArg (byv S0) (show ge S0 40 0 4 = y3 from ey3.symm)
  obtain ⟨y6, ey6⟩ : ∃ y : Int32, y = ge S0 40 0 6 := ⟨_, rfl⟩
  have q7 : (ge S0 40 0 6).toInt = y6.toInt := congrArg Int32.toInt (show ge S0 40 0 6 = y6 from ey6.symm)
  obtain ⟨y8, ey8⟩ : ∃ y : Int32, y = ge S0 40 0 5 := ⟨_, rfl⟩
  have gy8 : 0 ≤ y8.toInt ∧ y8.toInt ≤ 7 := by rw [ey8]; exact RS0 40 _ _
  have q9 : (ge S0 40 0 5).toInt = y8.toInt := congrArg Int32.toInt (show ge S0 40 0 5 = y8 from ey8.symm)
  refine zk_ivq (x := y6) ey6.symm ?_
  have b10 := ti_bd y6
  refine zk_eq (fun c11 => ?_) (fun c11 => ?_)
  ·
    have q12 : (ge S0 40 0 2).toInt = y1.toInt := congrArg Int32.toInt (show ge S0 40 0 2 = y1 from ey1.symm)
    have q13 : (ge S0 40 0 4).toInt = y3.toInt := congrArg Int32.toInt (show ge S0 40 0 4 = y3 from ey3.symm)
    have q14 : byv S0 (ge S0 40 0 4) = byv S0 y3 := congrArg (byv S0) (show ge S0 40 0 4 = y3 from ey3.symm)
    have q15 : (ge S0 40 0 6).toInt = y6.toInt := congrArg Int32.toInt (show ge S0 40 0 6 = y6 from ey6.symm)
    have q16 : (ge S0 40 0 5).toInt = y8.toInt := congrArg Int32.toInt (show ge S0 40 0 5 = y8 from ey8.symm)
    refine zk_bd (s_F_X7_blanks _ RS0) (fun v17 T18 h17 => ?_)
    obtain ⟨RT18, fT18, h17⟩ := h17
    have FT18 := FS0.tr (fT18.sub (m := 13421838336) (by decide))
    have q19 : (ge T18 40 0 2).toInt = y1.toInt := congrArg Int32.toInt (show ge T18 40 0 2 = y1 from ((fT18.1 40 0 2 rfl).trans ey1.symm))
    obtain ⟨y20, ey20⟩ : ∃ y : Int32, y = ge T18 40 0 4 := ⟨_, rfl⟩
    have gy20 : 0 ≤ y20.toInt ∧ y20.toInt ≤ 300 := by rw [ey20]; exact RT18 40 _ _
    have q21 : (ge T18 40 0 4).toInt = y20.toInt := congrArg Int32.toInt (show ge T18 40 0 4 = y20 from ey20.symm)
    have q22 : byv T18 (ge T18 40 0 4) = byv T18 y20 := congrArg (byv T18) (show ge T18 40 0 4 = y20 from ey20.symm)
    have q23 := byv_fr FT18 rfl y20
    have q24 : (ge T18 40 0 6).toInt = y6.toInt := congrArg Int32.toInt (show ge T18 40 0 6 = y6 from ((fT18.1 40 0 6 rfl).trans ey6.symm))
    have q25 : (ge T18 40 0 5).toInt = y8.toInt := congrArg Int32.toInt (show ge T18 40 0 5 = y8 from ((fT18.1 40 0 5 rfl).trans ey8.symm))
    refine zk_ivq (x := y20) ey20.symm ?_
    refine zk_bd (s_F_X7_byteAt _ _ RT18 (by omega)) (fun v26 T27 h26 => ?_)
    obtain ⟨rfl, h26⟩ := h26
    have h26b := byv_bd RT18 y20
    rw [← h26] at h26b
    have q28 : (ge T18 40 0 2).toInt = y1.toInt := congrArg Int32.toInt (show ge T18 40 0 2 = y1 from ((fT18.1 40 0 2 rfl).trans ey1.symm))
    have q29 : (ge T18 40 0 4).toInt = y20.toInt := congrArg Int32.toInt (show ge T18 40 0 4 = y20 from ey20.symm)
    have q30 : byv T18 (ge T18 40 0 4) = byv T18 y20 := congrArg (byv T18) (show ge T18 40 0 4 = y20 from ey20.symm)
    have q31 := byv_fr FT18 rfl y20
    have q32 : (ge T18 40 0 6).toInt = y6.toInt := congrArg Int32.toInt (show ge T18 40 0 6 = y6 from ((fT18.1 40 0 6 rfl).trans ey6.symm))
    have q33 : (ge T18 40 0 5).toInt = y8.toInt := congrArg Int32.toInt (show ge T18 40 0 5 = y8 from ((fT18.1 40 0 5 rfl).trans ey8.symm))
    refine zk_bd (s_F_X7_isDigit _ _ RT18) (fun v34 T35 h34 => ?_)
    obtain ⟨rfl, h34⟩ := h34
    refine zk_eq (fun c36 => ?_) (fun c36 => ?_)
    ·
      have q37 : (ge T18 40 0 2).toInt = y1.toInt := congrArg Int32.toInt (show ge T18 40 0 2 = y1 from ((fT18.1 40 0 2 rfl).trans ey1.symm))
      have q38 : (ge T18 40 0 4).toInt = y20.toInt := congrArg Int32.toInt (show ge T18 40 0 4 = y20 from ey20.symm)
      have q39 : byv T18 (ge T18 40 0 4) = byv T18 y20 := congrArg (byv T18) (show ge T18 40 0 4 = y20 from ey20.symm)
      have q40 := byv_fr FT18 rfl y20
      have q41 : (ge T18 40 0 6).toInt = y6.toInt := congrArg Int32.toInt (show ge T18 40 0 6 = y6 from ((fT18.1 40 0 6 rfl).trans ey6.symm))
      have q42 : (ge T18 40 0 5).toInt = y8.toInt := congrArg Int32.toInt (show ge T18 40 0 5 = y8 from ((fT18.1 40 0 5 rfl).trans ey8.symm))
      refine zk_bd (s_F_X7_nameHere _ RT18) (fun v43 T44 h43 => ?_)
      obtain ⟨RT44, fT44, h43⟩ := h43
      have FT44 := FT18.tr (fT44.sub (m := 13421838336) (by decide))
      have q45 : (ge T44 40 0 2).toInt = y1.toInt := congrArg Int32.toInt (show ge T44 40 0 2 = y1 from ((fT44.1 40 0 2 rfl).trans ((fT18.1 40 0 2 rfl).trans ey1.symm)))
      obtain ⟨y46, ey46⟩ : ∃ y : Int32, y = ge T44 40 0 4 := ⟨_, rfl⟩
      have gy46 : 0 ≤ y46.toInt ∧ y46.toInt ≤ 300 := by rw [ey46]; exact RT44 40 _ _
      have q47 : (ge T44 40 0 4).toInt = y46.toInt := congrArg Int32.toInt (show ge T44 40 0 4 = y46 from ey46.symm)
      have q48 : byv T44 (ge T44 40 0 4) = byv T44 y46 := congrArg (byv T44) (show ge T44 40 0 4 = y46 from ey46.symm)
      have q49 := byv_fr FT44 rfl y46
      have q50 : (ge T44 40 0 6).toInt = y6.toInt := congrArg Int32.toInt (show ge T44 40 0 6 = y6 from ((fT44.1 40 0 6 rfl).trans ((fT18.1 40 0 6 rfl).trans ey6.symm)))
      have q51 : (ge T44 40 0 5).toInt = y8.toInt := congrArg Int32.toInt (show ge T44 40 0 5 = y8 from ((fT44.1 40 0 5 rfl).trans ((fT18.1 40 0 5 rfl).trans ey8.symm)))
      have b52 := ti_bd v43
      refine zk_eq (fun c53 => ?_) (fun c53 => ?_)
      ·
        have q54 : (ge T44 40 0 2).toInt = y1.toInt := congrArg Int32.toInt (show ge T44 40 0 2 = y1 from ((fT44.1 40 0 2 rfl).trans ((fT18.1 40 0 2 rfl).trans ey1.symm)))
        have q55 : (ge T44 40 0 4).toInt = y46.toInt := congrArg Int32.toInt (show ge T44 40 0 4 = y46 from ey46.symm)
        have q56 : byv T44 (ge T44 40 0 4) = byv T44 y46 := congrArg (byv T44) (show ge T44 40 0 4 = y46 from ey46.symm)
        have q57 := byv_fr FT44 rfl y46
        have q58 : (ge T44 40 0 6).toInt = y6.toInt := congrArg Int32.toInt (show ge T44 40 0 6 = y6 from ((fT44.1 40 0 6 rfl).trans ((fT18.1 40 0 6 rfl).trans ey6.symm)))
        have q59 : (ge T44 40 0 5).toInt = y8.toInt := congrArg Int32.toInt (show ge T44 40 0 5 = y8 from ((fT44.1 40 0 5 rfl).trans ((fT18.1 40 0 5 rfl).trans ey8.symm)))
        refine zk_bd (s_F_X7_isWord _ _ _ _ _ _ RT44) (fun v60 T61 h60 => ?_)
        obtain ⟨RT61, fT61, h60⟩ := h60
        have FT61 := FT44.tr (fT61.sub (m := 13421838336) (by decide))
        have q62 : (ge T61 40 0 2).toInt = y1.toInt := congrArg Int32.toInt (show ge T61 40 0 2 = y1 from ((fT61.1 40 0 2 rfl).trans ((fT44.1 40 0 2 rfl).trans ((fT18.1 40 0 2 rfl).trans ey1.symm))))
        obtain ⟨y63, ey63⟩ : ∃ y : Int32, y = ge T61 40 0 4 := ⟨_, rfl⟩
        have gy63 : 0 ≤ y63.toInt ∧ y63.toInt ≤ 300 := by rw [ey63]; exact RT61 40 _ _
        have q64 : (ge T61 40 0 4).toInt = y63.toInt := congrArg Int32.toInt (show ge T61 40 0 4 = y63 from ey63.symm)
        have q65 : byv T61 (ge T61 40 0 4) = byv T61 y63 := congrArg (byv T61) (show ge T61 40 0 4 = y63 from ey63.symm)
        have q66 := byv_fr FT61 rfl y63
        have q67 : (ge T61 40 0 6).toInt = y6.toInt := congrArg Int32.toInt (show ge T61 40 0 6 = y6 from ((fT61.1 40 0 6 rfl).trans ((fT44.1 40 0 6 rfl).trans ((fT18.1 40 0 6 rfl).trans ey6.symm))))
        have q68 : (ge T61 40 0 5).toInt = y8.toInt := congrArg Int32.toInt (show ge T61 40 0 5 = y8 from ((fT61.1 40 0 5 rfl).trans ((fT44.1 40 0 5 rfl).trans ((fT18.1 40 0 5 rfl).trans ey8.symm))))
        have h60w := isw3 h60.2 (by decide)
        replace h60 := h60.1
        have q69 : (ge T61 40 0 2).toInt = y1.toInt := congrArg Int32.toInt (show ge T61 40 0 2 = y1 from ((fT61.1 40 0 2 rfl).trans ((fT44.1 40 0 2 rfl).trans ((fT18.1 40 0 2 rfl).trans ey1.symm))))
        have q70 : (ge T61 40 0 4).toInt = y63.toInt := congrArg Int32.toInt (show ge T61 40 0 4 = y63 from ey63.symm)
        have q71 : byv T61 (ge T61 40 0 4) = byv T61 y63 := congrArg (byv T61) (show ge T61 40 0 4 = y63 from ey63.symm)
        have q72 := byv_fr FT61 rfl y63
        have q73 : (ge T61 40 0 6).toInt = y6.toInt := congrArg Int32.toInt (show ge T61 40 0 6 = y6 from ((fT61.1 40 0 6 rfl).trans ((fT44.1 40 0 6 rfl).trans ((fT18.1 40 0 6 rfl).trans ey6.symm))))
        have q74 : (ge T61 40 0 5).toInt = y8.toInt := congrArg Int32.toInt (show ge T61 40 0 5 = y8 from ((fT61.1 40 0 5 rfl).trans ((fT44.1 40 0 5 rfl).trans ((fT18.1 40 0 5 rfl).trans ey8.symm))))
        refine zk_bd (s_F_X7_isWord _ _ _ _ _ _ RT61) (fun v75 T76 h75 => ?_)
        obtain ⟨RT76, fT76, h75⟩ := h75
        have FT76 := FT61.tr (fT76.sub (m := 13421838336) (by decide))
        have q77 : (ge T76 40 0 2).toInt = y1.toInt := congrArg Int32.toInt (show ge T76 40 0 2 = y1 from ((fT76.1 40 0 2 rfl).trans ((fT61.1 40 0 2 rfl).trans ((fT44.1 40 0 2 rfl).trans ((fT18.1 40 0 2 rfl).trans ey1.symm)))))
        obtain ⟨y78, ey78⟩ : ∃ y : Int32, y = ge T76 40 0 4 := ⟨_, rfl⟩
        have gy78 : 0 ≤ y78.toInt ∧ y78.toInt ≤ 300 := by rw [ey78]; exact RT76 40 _ _
        have q79 : (ge T76 40 0 4).toInt = y78.toInt := congrArg Int32.toInt (show ge T76 40 0 4 = y78 from ey78.symm)
        have q80 : byv T76 (ge T76 40 0 4) = byv T76 y78 := congrArg (byv T76) (show ge T76 40 0 4 = y78 from ey78.symm)
        have q81 := byv_fr FT76 rfl y78
        have q82 : (ge T76 40 0 6).toInt = y6.toInt := congrArg Int32.toInt (show ge T76 40 0 6 = y6 from ((fT76.1 40 0 6 rfl).trans ((fT61.1 40 0 6 rfl).trans ((fT44.1 40 0 6 rfl).trans ((fT18.1 40 0 6 rfl).trans ey6.symm)))))
        have q83 : (ge T76 40 0 5).toInt = y8.toInt := congrArg Int32.toInt (show ge T76 40 0 5 = y8 from ((fT76.1 40 0 5 rfl).trans ((fT61.1 40 0 5 rfl).trans ((fT44.1 40 0 5 rfl).trans ((fT18.1 40 0 5 rfl).trans ey8.symm)))))
        have h75w := isw3 h75.2 (by decide)
        replace h75 := h75.1
        refine zk_eq (fun c84 => ?_) (fun c84 => ?_)
        ·
          refine zk_eq (fun c85 => ?_) (fun c85 => ?_)
          ·
            unfold B_X7_unit_92
            have q86 : (ge T76 40 0 2).toInt = y1.toInt := congrArg Int32.toInt (show ge T76 40 0 2 = y1 from ((fT76.1 40 0 2 rfl).trans ((fT61.1 40 0 2 rfl).trans ((fT44.1 40 0 2 rfl).trans ((fT18.1 40 0 2 rfl).trans ey1.symm)))))
            have q87 : (ge T76 40 0 4).toInt = y78.toInt := congrArg Int32.toInt (show ge T76 40 0 4 = y78 from ey78.symm)
            have q88 : byv T76 (ge T76 40 0 4) = byv T76 y78 := congrArg (byv T76) (show ge T76 40 0 4 = y78 from ey78.symm)
            have q89 := byv_fr FT76 rfl y78
            have q90 : (ge T76 40 0 6).toInt = y6.toInt := congrArg Int32.toInt (show ge T76 40 0 6 = y6 from ((fT76.1 40 0 6 rfl).trans ((fT61.1 40 0 6 rfl).trans ((fT44.1 40 0 6 rfl).trans ((fT18.1 40 0 6 rfl).trans ey6.symm)))))
            have q91 : (ge T76 40 0 5).toInt = y8.toInt := congrArg Int32.toInt (show ge T76 40 0 5 = y8 from ((fT76.1 40 0 5 rfl).trans ((fT61.1 40 0 5 rfl).trans ((fT44.1 40 0 5 rfl).trans ((fT18.1 40 0 5 rfl).trans ey8.symm)))))
            refine zk_bd (s_F_X7_blanks _ RT76) (fun v92 T93 h92 => ?_)
            obtain ⟨RT93, fT93, h92⟩ := h92
            have FT93 := FT76.tr (fT93.sub (m := 13421838336) (by decide))
            have q94 : (ge T93 40 0 2).toInt = y1.toInt := congrArg Int32.toInt (show ge T93 40 0 2 = y1 from ((fT93.1 40 0 2 rfl).trans ((fT76.1 40 0 2 rfl).trans ((fT61.1 40 0 2 rfl).trans ((fT44.1 40 0 2 rfl).trans ((fT18.1 40 0 2 rfl).trans ey1.symm))))))
            obtain ⟨y95, ey95⟩ : ∃ y : Int32, y = ge T93 40 0 4 := ⟨_, rfl⟩
            have gy95 : 0 ≤ y95.toInt ∧ y95.toInt ≤ 300 := by rw [ey95]; exact RT93 40 _ _
            have q96 : (ge T93 40 0 4).toInt = y95.toInt := congrArg Int32.toInt (show ge T93 40 0 4 = y95 from ey95.symm)
            have q97 : byv T93 (ge T93 40 0 4) = byv T93 y95 := congrArg (byv T93) (show ge T93 40 0 4 = y95 from ey95.symm)
            have q98 := byv_fr FT93 rfl y95
            have q99 : (ge T93 40 0 6).toInt = y6.toInt := congrArg Int32.toInt (show ge T93 40 0 6 = y6 from ((fT93.1 40 0 6 rfl).trans ((fT76.1 40 0 6 rfl).trans ((fT61.1 40 0 6 rfl).trans ((fT44.1 40 0 6 rfl).trans ((fT18.1 40 0 6 rfl).trans ey6.symm))))))
            have q100 : (ge T93 40 0 5).toInt = y8.toInt := congrArg Int32.toInt (show ge T93 40 0 5 = y8 from ((fT93.1 40 0 5 rfl).trans ((fT76.1 40 0 5 rfl).trans ((fT61.1 40 0 5 rfl).trans ((fT44.1 40 0 5 rfl).trans ((fT18.1 40 0 5 rfl).trans ey8.symm))))))
            refine zk_ivq (x := y95) ey95.symm ?_
            refine zk_bd (s_F_X7_byteAt _ _ RT93 (by omega)) (fun v101 T102 h101 => ?_)
            obtain ⟨rfl, h101⟩ := h101
            have h101b := byv_bd RT93 y95
            rw [← h101] at h101b
            have q103 : (ge T93 40 0 2).toInt = y1.toInt := congrArg Int32.toInt (show ge T93 40 0 2 = y1 from ((fT93.1 40 0 2 rfl).trans ((fT76.1 40 0 2 rfl).trans ((fT61.1 40 0 2 rfl).trans ((fT44.1 40 0 2 rfl).trans ((fT18.1 40 0 2 rfl).trans ey1.symm))))))
            have q104 : (ge T93 40 0 4).toInt = y95.toInt := congrArg Int32.toInt (show ge T93 40 0 4 = y95 from ey95.symm)
            have q105 : byv T93 (ge T93 40 0 4) = byv T93 y95 := congrArg (byv T93) (show ge T93 40 0 4 = y95 from ey95.symm)
            have q106 := byv_fr FT93 rfl y95
            have q107 : (ge T93 40 0 6).toInt = y6.toInt := congrArg Int32.toInt (show ge T93 40 0 6 = y6 from ((fT93.1 40 0 6 rfl).trans ((fT76.1 40 0 6 rfl).trans ((fT61.1 40 0 6 rfl).trans ((fT44.1 40 0 6 rfl).trans ((fT18.1 40 0 6 rfl).trans ey6.symm))))))
            have q108 : (ge T93 40 0 5).toInt = y8.toInt := congrArg Int32.toInt (show ge T93 40 0 5 = y8 from ((fT93.1 40 0 5 rfl).trans ((fT76.1 40 0 5 rfl).trans ((fT61.1 40 0 5 rfl).trans ((fT44.1 40 0 5 rfl).trans ((fT18.1 40 0 5 rfl).trans ey8.symm))))))
            refine zk_eq (fun c109 => ?_) (fun c109 => ?_)
            ·
              have q110 : (ge T93 40 0 2).toInt = y1.toInt := congrArg Int32.toInt (show ge T93 40 0 2 = y1 from ((fT93.1 40 0 2 rfl).trans ((fT76.1 40 0 2 rfl).trans ((fT61.1 40 0 2 rfl).trans ((fT44.1 40 0 2 rfl).trans ((fT18.1 40 0 2 rfl).trans ey1.symm))))))
              have q111 : (ge T93 40 0 4).toInt = y95.toInt := congrArg Int32.toInt (show ge T93 40 0 4 = y95 from ey95.symm)
              have q112 : byv T93 (ge T93 40 0 4) = byv T93 y95 := congrArg (byv T93) (show ge T93 40 0 4 = y95 from ey95.symm)
              have q113 := byv_fr FT93 rfl y95
              have q114 : (ge T93 40 0 6).toInt = y6.toInt := congrArg Int32.toInt (show ge T93 40 0 6 = y6 from ((fT93.1 40 0 6 rfl).trans ((fT76.1 40 0 6 rfl).trans ((fT61.1 40 0 6 rfl).trans ((fT44.1 40 0 6 rfl).trans ((fT18.1 40 0 6 rfl).trans ey6.symm))))))
              have q115 : (ge T93 40 0 5).toInt = y8.toInt := congrArg Int32.toInt (show ge T93 40 0 5 = y8 from ((fT93.1 40 0 5 rfl).trans ((fT76.1 40 0 5 rfl).trans ((fT61.1 40 0 5 rfl).trans ((fT44.1 40 0 5 rfl).trans ((fT18.1 40 0 5 rfl).trans ey8.symm))))))
              refine zk_bd (s_F_X7_opens _ _ RT93 (by omega) (by omega)) (fun v116 T117 h116 => ?_)
              obtain ⟨RT117, fT117, h116⟩ := h116
              have FT117 := FT93.tr (fT117.sub (m := 13421838336) (by decide))
              have q118 : (ge T117 40 0 2).toInt = y1.toInt := congrArg Int32.toInt (show ge T117 40 0 2 = y1 from ((fT117.1 40 0 2 rfl).trans ((fT93.1 40 0 2 rfl).trans ((fT76.1 40 0 2 rfl).trans ((fT61.1 40 0 2 rfl).trans ((fT44.1 40 0 2 rfl).trans ((fT18.1 40 0 2 rfl).trans ey1.symm)))))))
              obtain ⟨y119, ey119⟩ : ∃ y : Int32, y = ge T117 40 0 4 := ⟨_, rfl⟩
              have gy119 : 0 ≤ y119.toInt ∧ y119.toInt ≤ 300 := by rw [ey119]; exact RT117 40 _ _
              have q120 : (ge T117 40 0 4).toInt = y119.toInt := congrArg Int32.toInt (show ge T117 40 0 4 = y119 from ey119.symm)
              have q121 : byv T117 (ge T117 40 0 4) = byv T117 y119 := congrArg (byv T117) (show ge T117 40 0 4 = y119 from ey119.symm)
              have q122 := byv_fr FT117 rfl y119
              obtain ⟨y123, ey123⟩ : ∃ y : Int32, y = ge T117 40 0 6 := ⟨_, rfl⟩
              have q124 : (ge T117 40 0 6).toInt = y123.toInt := congrArg Int32.toInt (show ge T117 40 0 6 = y123 from ey123.symm)
              obtain ⟨y125, ey125⟩ : ∃ y : Int32, y = ge T117 40 0 5 := ⟨_, rfl⟩
              have gy125 : 0 ≤ y125.toInt ∧ y125.toInt ≤ 7 := by rw [ey125]; exact RT117 40 _ _
              have q126 : (ge T117 40 0 5).toInt = y125.toInt := congrArg Int32.toInt (show ge T117 40 0 5 = y125 from ey125.symm)
              have q127 : (ge T117 40 0 2).toInt = y1.toInt := congrArg Int32.toInt (show ge T117 40 0 2 = y1 from ((fT117.1 40 0 2 rfl).trans ((fT93.1 40 0 2 rfl).trans ((fT76.1 40 0 2 rfl).trans ((fT61.1 40 0 2 rfl).trans ((fT44.1 40 0 2 rfl).trans ((fT18.1 40 0 2 rfl).trans ey1.symm)))))))
              have q128 : (ge T117 40 0 4).toInt = y119.toInt := congrArg Int32.toInt (show ge T117 40 0 4 = y119 from ey119.symm)
              have q129 : byv T117 (ge T117 40 0 4) = byv T117 y119 := congrArg (byv T117) (show ge T117 40 0 4 = y119 from ey119.symm)
              have q130 := byv_fr FT117 rfl y119
              have q131 : (ge T117 40 0 6).toInt = y123.toInt := congrArg Int32.toInt (show ge T117 40 0 6 = y123 from ey123.symm)
              have q132 : (ge T117 40 0 5).toInt = y125.toInt := congrArg Int32.toInt (show ge T117 40 0 5 = y125 from ey125.symm)
              refine zk_bd (hR2 _ _ RT117 (by omega)) (fun v133 T134 h133 => ?_)
              obtain ⟨RT134, fT134, h133⟩ := h133
              have FT134 := FT117.tr (fT134.sub (m := 13421838336) (by decide))
              have q135 : (ge T134 40 0 2).toInt = y1.toInt := congrArg Int32.toInt (show ge T134 40 0 2 = y1 from ((fT134.1 40 0 2 rfl).trans ((fT117.1 40 0 2 rfl).trans ((fT93.1 40 0 2 rfl).trans ((fT76.1 40 0 2 rfl).trans ((fT61.1 40 0 2 rfl).trans ((fT44.1 40 0 2 rfl).trans ((fT18.1 40 0 2 rfl).trans ey1.symm))))))))
              obtain ⟨y136, ey136⟩ : ∃ y : Int32, y = ge T134 40 0 4 := ⟨_, rfl⟩
              have gy136 : 0 ≤ y136.toInt ∧ y136.toInt ≤ 300 := by rw [ey136]; exact RT134 40 _ _
              have q137 : (ge T134 40 0 4).toInt = y136.toInt := congrArg Int32.toInt (show ge T134 40 0 4 = y136 from ey136.symm)
              have q138 : byv T134 (ge T134 40 0 4) = byv T134 y136 := congrArg (byv T134) (show ge T134 40 0 4 = y136 from ey136.symm)
              have q139 := byv_fr FT134 rfl y136
              obtain ⟨y140, ey140⟩ : ∃ y : Int32, y = ge T134 40 0 6 := ⟨_, rfl⟩
              have q141 : (ge T134 40 0 6).toInt = y140.toInt := congrArg Int32.toInt (show ge T134 40 0 6 = y140 from ey140.symm)
              obtain ⟨y142, ey142⟩ : ∃ y : Int32, y = ge T134 40 0 5 := ⟨_, rfl⟩
              have gy142 : 0 ≤ y142.toInt ∧ y142.toInt ≤ 7 := by rw [ey142]; exact RT134 40 _ _
              have q143 : (ge T134 40 0 5).toInt = y142.toInt := congrArg Int32.toInt (show ge T134 40 0 5 = y142 from ey142.symm)
              refine zk_eq (fun c144 => ?_) (fun c144 => ?_)
              ·
                refine zk_eq (fun c145 => ?_) (fun c145 => ?_)
                ·
                  unfold B_X7_unit_176
                  have q146 : (ge T134 40 0 2).toInt = y1.toInt := congrArg Int32.toInt (show ge T134 40 0 2 = y1 from ((fT134.1 40 0 2 rfl).trans ((fT117.1 40 0 2 rfl).trans ((fT93.1 40 0 2 rfl).trans ((fT76.1 40 0 2 rfl).trans ((fT61.1 40 0 2 rfl).trans ((fT44.1 40 0 2 rfl).trans ((fT18.1 40 0 2 rfl).trans ey1.symm))))))))
                  have q147 : (ge T134 40 0 4).toInt = y136.toInt := congrArg Int32.toInt (show ge T134 40 0 4 = y136 from ey136.symm)
                  have q148 : byv T134 (ge T134 40 0 4) = byv T134 y136 := congrArg (byv T134) (show ge T134 40 0 4 = y136 from ey136.symm)
                  have q149 := byv_fr FT134 rfl y136
                  have q150 : (ge T134 40 0 6).toInt = y140.toInt := congrArg Int32.toInt (show ge T134 40 0 6 = y140 from ey140.symm)
                  have q151 : (ge T134 40 0 5).toInt = y142.toInt := congrArg Int32.toInt (show ge T134 40 0 5 = y142 from ey142.symm)
                  refine zk_bd (s_F_X7_sign _ _ RT134 (by omega)) (fun v152 T153 h152 => ?_)
                  obtain ⟨RT153, fT153, h152⟩ := h152
                  have FT153 := FT134.tr (fT153.sub (m := 13421838336) (by decide))
                  have q154 : (ge T153 40 0 2).toInt = y1.toInt := congrArg Int32.toInt (show ge T153 40 0 2 = y1 from ((fT153.1 40 0 2 rfl).trans ((fT134.1 40 0 2 rfl).trans ((fT117.1 40 0 2 rfl).trans ((fT93.1 40 0 2 rfl).trans ((fT76.1 40 0 2 rfl).trans ((fT61.1 40 0 2 rfl).trans ((fT44.1 40 0 2 rfl).trans ((fT18.1 40 0 2 rfl).trans ey1.symm)))))))))
                  obtain ⟨y155, ey155⟩ : ∃ y : Int32, y = ge T153 40 0 4 := ⟨_, rfl⟩
                  have gy155 : 0 ≤ y155.toInt ∧ y155.toInt ≤ 300 := by rw [ey155]; exact RT153 40 _ _
                  have q156 : (ge T153 40 0 4).toInt = y155.toInt := congrArg Int32.toInt (show ge T153 40 0 4 = y155 from ey155.symm)
                  have q157 : byv T153 (ge T153 40 0 4) = byv T153 y155 := congrArg (byv T153) (show ge T153 40 0 4 = y155 from ey155.symm)
                  have q158 := byv_fr FT153 rfl y155
                  obtain ⟨y159, ey159⟩ : ∃ y : Int32, y = ge T153 40 0 6 := ⟨_, rfl⟩
                  have q160 : (ge T153 40 0 6).toInt = y159.toInt := congrArg Int32.toInt (show ge T153 40 0 6 = y159 from ey159.symm)
                  have q161 : (ge T153 40 0 5).toInt = y142.toInt := congrArg Int32.toInt (show ge T153 40 0 5 = y142 from ((fT153.1 40 0 5 rfl).trans ey142.symm))
                  refine zk_ivq (x := y142) ((fT153.1 40 0 5 rfl).trans ey142.symm) ?_
                  refine zk_iv fun x162 e162 => ?_
                  have gx162 : x162.toInt = y142.toInt - (1 : Int32).toInt := by rw [e162]; exact ti_sub (by omega) (by omega)
                  refine zk_sv fun S163 E163 => ?_
                  have RS163 : RI S163 := by rw [E163]; exact RT153.wr (show (0 : Int) ≤ x162.toInt by omega) (show x162.toInt ≤ 7 by omega)
                  have FS163 : Fr 13421838336 S0 S163 := by rw [E163]; exact FT153.wr (k := 32) rfl rfl
                  have q164 : (ge S163 40 0 2).toInt = y1.toInt := congrArg Int32.toInt (show ge S163 40 0 2 = y1 from (by rw [E163]; exact (ge_puj (by decide)).trans ((fT153.1 40 0 2 rfl).trans ((fT134.1 40 0 2 rfl).trans ((fT117.1 40 0 2 rfl).trans ((fT93.1 40 0 2 rfl).trans ((fT76.1 40 0 2 rfl).trans ((fT61.1 40 0 2 rfl).trans ((fT44.1 40 0 2 rfl).trans ((fT18.1 40 0 2 rfl).trans ey1.symm))))))))))
                  have q165 : (ge S163 40 0 4).toInt = y155.toInt := congrArg Int32.toInt (show ge S163 40 0 4 = y155 from (by rw [E163]; exact (ge_puj (by decide)).trans ey155.symm))
                  have q166 : byv S163 (ge S163 40 0 4) = byv S163 y155 := congrArg (byv S163) (show ge S163 40 0 4 = y155 from (by rw [E163]; exact (ge_puj (by decide)).trans ey155.symm))
                  have q167 := byv_fr FS163 rfl y155
                  have q168 : (ge S163 40 0 6).toInt = y159.toInt := congrArg Int32.toInt (show ge S163 40 0 6 = y159 from (by rw [E163]; exact (ge_puj (by decide)).trans ey159.symm))
                  have q169 : (ge S163 40 0 5).toInt = x162.toInt := congrArg Int32.toInt (show ge S163 40 0 5 = x162 from (by rw [E163]; exact ge_pus))
                  exact zk_some ⟨RS163, FS163, by omega⟩
                ·
                  exact False.elim (by omega)
              ·
                exact False.elim (by omega)
            ·
              refine zk_ivq (x := y95) ey95.symm ?_
              have q170 : (ge T93 40 0 2).toInt = y1.toInt := congrArg Int32.toInt (show ge T93 40 0 2 = y1 from ((fT93.1 40 0 2 rfl).trans ((fT76.1 40 0 2 rfl).trans ((fT61.1 40 0 2 rfl).trans ((fT44.1 40 0 2 rfl).trans ((fT18.1 40 0 2 rfl).trans ey1.symm))))))
              have q171 : (ge T93 40 0 4).toInt = y95.toInt := congrArg Int32.toInt (show ge T93 40 0 4 = y95 from ey95.symm)
              have q172 : byv T93 (ge T93 40 0 4) = byv T93 y95 := congrArg (byv T93) (show ge T93 40 0 4 = y95 from ey95.symm)
              have q173 := byv_fr FT93 rfl y95
              have q174 : (ge T93 40 0 6).toInt = y6.toInt := congrArg Int32.toInt (show ge T93 40 0 6 = y6 from ((fT93.1 40 0 6 rfl).trans ((fT76.1 40 0 6 rfl).trans ((fT61.1 40 0 6 rfl).trans ((fT44.1 40 0 6 rfl).trans ((fT18.1 40 0 6 rfl).trans ey6.symm))))))
              have q175 : (ge T93 40 0 5).toInt = y8.toInt := congrArg Int32.toInt (show ge T93 40 0 5 = y8 from ((fT93.1 40 0 5 rfl).trans ((fT76.1 40 0 5 rfl).trans ((fT61.1 40 0 5 rfl).trans ((fT44.1 40 0 5 rfl).trans ((fT18.1 40 0 5 rfl).trans ey8.symm))))))
              refine zk_bd (s_F_X7_wrong _ _ _ RT93 (by omega)) (fun v176 T177 h176 => ?_)
              obtain ⟨RT177, fT177, h176⟩ := h176
              have FT177 := FT93.tr (fT177.sub (m := 13421838336) (by decide))
              have q178 : (ge T177 40 0 2).toInt = y1.toInt := congrArg Int32.toInt (show ge T177 40 0 2 = y1 from ((fT177.1 40 0 2 rfl).trans ((fT93.1 40 0 2 rfl).trans ((fT76.1 40 0 2 rfl).trans ((fT61.1 40 0 2 rfl).trans ((fT44.1 40 0 2 rfl).trans ((fT18.1 40 0 2 rfl).trans ey1.symm)))))))
              have q179 : (ge T177 40 0 4).toInt = y95.toInt := congrArg Int32.toInt (show ge T177 40 0 4 = y95 from ((fT177.1 40 0 4 rfl).trans ey95.symm))
              have q180 : byv T177 (ge T177 40 0 4) = byv T177 y95 := congrArg (byv T177) (show ge T177 40 0 4 = y95 from ((fT177.1 40 0 4 rfl).trans ey95.symm))
              have q181 := byv_fr FT177 rfl y95
              obtain ⟨y182, ey182⟩ : ∃ y : Int32, y = ge T177 40 0 6 := ⟨_, rfl⟩
              have q183 : (ge T177 40 0 6).toInt = y182.toInt := congrArg Int32.toInt (show ge T177 40 0 6 = y182 from ey182.symm)
              have q184 : (ge T177 40 0 5).toInt = y8.toInt := congrArg Int32.toInt (show ge T177 40 0 5 = y8 from ((fT177.1 40 0 5 rfl).trans ((fT93.1 40 0 5 rfl).trans ((fT76.1 40 0 5 rfl).trans ((fT61.1 40 0 5 rfl).trans ((fT44.1 40 0 5 rfl).trans ((fT18.1 40 0 5 rfl).trans ey8.symm)))))))
              have q185 : (ge T177 40 0 2).toInt = y1.toInt := congrArg Int32.toInt (show ge T177 40 0 2 = y1 from ((fT177.1 40 0 2 rfl).trans ((fT93.1 40 0 2 rfl).trans ((fT76.1 40 0 2 rfl).trans ((fT61.1 40 0 2 rfl).trans ((fT44.1 40 0 2 rfl).trans ((fT18.1 40 0 2 rfl).trans ey1.symm)))))))
              have q186 : (ge T177 40 0 4).toInt = y95.toInt := congrArg Int32.toInt (show ge T177 40 0 4 = y95 from ((fT177.1 40 0 4 rfl).trans ey95.symm))
              have q187 : byv T177 (ge T177 40 0 4) = byv T177 y95 := congrArg (byv T177) (show ge T177 40 0 4 = y95 from ((fT177.1 40 0 4 rfl).trans ey95.symm))
              have q188 := byv_fr FT177 rfl y95
              have q189 : (ge T177 40 0 6).toInt = y182.toInt := congrArg Int32.toInt (show ge T177 40 0 6 = y182 from ey182.symm)
              have q190 : (ge T177 40 0 5).toInt = y8.toInt := congrArg Int32.toInt (show ge T177 40 0 5 = y8 from ((fT177.1 40 0 5 rfl).trans ((fT93.1 40 0 5 rfl).trans ((fT76.1 40 0 5 rfl).trans ((fT61.1 40 0 5 rfl).trans ((fT44.1 40 0 5 rfl).trans ((fT18.1 40 0 5 rfl).trans ey8.symm)))))))
              exact zk_some ⟨RT177, FT177, by omega⟩
          ·
            unfold B_X7_unit_88
            have q191 : (ge T76 40 0 2).toInt = y1.toInt := congrArg Int32.toInt (show ge T76 40 0 2 = y1 from ((fT76.1 40 0 2 rfl).trans ((fT61.1 40 0 2 rfl).trans ((fT44.1 40 0 2 rfl).trans ((fT18.1 40 0 2 rfl).trans ey1.symm)))))
            have q192 : (ge T76 40 0 4).toInt = y78.toInt := congrArg Int32.toInt (show ge T76 40 0 4 = y78 from ey78.symm)
            have q193 : byv T76 (ge T76 40 0 4) = byv T76 y78 := congrArg (byv T76) (show ge T76 40 0 4 = y78 from ey78.symm)
            have q194 := byv_fr FT76 rfl y78
            have q195 : (ge T76 40 0 6).toInt = y6.toInt := congrArg Int32.toInt (show ge T76 40 0 6 = y6 from ((fT76.1 40 0 6 rfl).trans ((fT61.1 40 0 6 rfl).trans ((fT44.1 40 0 6 rfl).trans ((fT18.1 40 0 6 rfl).trans ey6.symm)))))
            have q196 : (ge T76 40 0 5).toInt = y8.toInt := congrArg Int32.toInt (show ge T76 40 0 5 = y8 from ((fT76.1 40 0 5 rfl).trans ((fT61.1 40 0 5 rfl).trans ((fT44.1 40 0 5 rfl).trans ((fT18.1 40 0 5 rfl).trans ey8.symm)))))
            refine zk_bd (s_F_X7_skipWord _ RT76) (fun v197 T198 h197 => ?_)
            obtain ⟨RT198, fT198, h197⟩ := h197
            have FT198 := FT76.tr (fT198.sub (m := 13421838336) (by decide))
            have q199 : (ge T198 40 0 2).toInt = y1.toInt := congrArg Int32.toInt (show ge T198 40 0 2 = y1 from ((fT198.1 40 0 2 rfl).trans ((fT76.1 40 0 2 rfl).trans ((fT61.1 40 0 2 rfl).trans ((fT44.1 40 0 2 rfl).trans ((fT18.1 40 0 2 rfl).trans ey1.symm))))))
            obtain ⟨y200, ey200⟩ : ∃ y : Int32, y = ge T198 40 0 4 := ⟨_, rfl⟩
            have gy200 : 0 ≤ y200.toInt ∧ y200.toInt ≤ 300 := by rw [ey200]; exact RT198 40 _ _
            have q201 : (ge T198 40 0 4).toInt = y200.toInt := congrArg Int32.toInt (show ge T198 40 0 4 = y200 from ey200.symm)
            have q202 : byv T198 (ge T198 40 0 4) = byv T198 y200 := congrArg (byv T198) (show ge T198 40 0 4 = y200 from ey200.symm)
            have q203 := byv_fr FT198 rfl y200
            have q204 : (ge T198 40 0 6).toInt = y6.toInt := congrArg Int32.toInt (show ge T198 40 0 6 = y6 from ((fT198.1 40 0 6 rfl).trans ((fT76.1 40 0 6 rfl).trans ((fT61.1 40 0 6 rfl).trans ((fT44.1 40 0 6 rfl).trans ((fT18.1 40 0 6 rfl).trans ey6.symm))))))
            have q205 : (ge T198 40 0 5).toInt = y8.toInt := congrArg Int32.toInt (show ge T198 40 0 5 = y8 from ((fT198.1 40 0 5 rfl).trans ((fT76.1 40 0 5 rfl).trans ((fT61.1 40 0 5 rfl).trans ((fT44.1 40 0 5 rfl).trans ((fT18.1 40 0 5 rfl).trans ey8.symm))))))
            unfold B_X7_unit_92
            have q206 : (ge T198 40 0 2).toInt = y1.toInt := congrArg Int32.toInt (show ge T198 40 0 2 = y1 from ((fT198.1 40 0 2 rfl).trans ((fT76.1 40 0 2 rfl).trans ((fT61.1 40 0 2 rfl).trans ((fT44.1 40 0 2 rfl).trans ((fT18.1 40 0 2 rfl).trans ey1.symm))))))
            have q207 : (ge T198 40 0 4).toInt = y200.toInt := congrArg Int32.toInt (show ge T198 40 0 4 = y200 from ey200.symm)
            have q208 : byv T198 (ge T198 40 0 4) = byv T198 y200 := congrArg (byv T198) (show ge T198 40 0 4 = y200 from ey200.symm)
            have q209 := byv_fr FT198 rfl y200
            have q210 : (ge T198 40 0 6).toInt = y6.toInt := congrArg Int32.toInt (show ge T198 40 0 6 = y6 from ((fT198.1 40 0 6 rfl).trans ((fT76.1 40 0 6 rfl).trans ((fT61.1 40 0 6 rfl).trans ((fT44.1 40 0 6 rfl).trans ((fT18.1 40 0 6 rfl).trans ey6.symm))))))
            have q211 : (ge T198 40 0 5).toInt = y8.toInt := congrArg Int32.toInt (show ge T198 40 0 5 = y8 from ((fT198.1 40 0 5 rfl).trans ((fT76.1 40 0 5 rfl).trans ((fT61.1 40 0 5 rfl).trans ((fT44.1 40 0 5 rfl).trans ((fT18.1 40 0 5 rfl).trans ey8.symm))))))
            refine zk_bd (s_F_X7_blanks _ RT198) (fun v212 T213 h212 => ?_)
            obtain ⟨RT213, fT213, h212⟩ := h212
            have FT213 := FT198.tr (fT213.sub (m := 13421838336) (by decide))
            have q214 : (ge T213 40 0 2).toInt = y1.toInt := congrArg Int32.toInt (show ge T213 40 0 2 = y1 from ((fT213.1 40 0 2 rfl).trans ((fT198.1 40 0 2 rfl).trans ((fT76.1 40 0 2 rfl).trans ((fT61.1 40 0 2 rfl).trans ((fT44.1 40 0 2 rfl).trans ((fT18.1 40 0 2 rfl).trans ey1.symm)))))))
            obtain ⟨y215, ey215⟩ : ∃ y : Int32, y = ge T213 40 0 4 := ⟨_, rfl⟩
            have gy215 : 0 ≤ y215.toInt ∧ y215.toInt ≤ 300 := by rw [ey215]; exact RT213 40 _ _
            have q216 : (ge T213 40 0 4).toInt = y215.toInt := congrArg Int32.toInt (show ge T213 40 0 4 = y215 from ey215.symm)
            have q217 : byv T213 (ge T213 40 0 4) = byv T213 y215 := congrArg (byv T213) (show ge T213 40 0 4 = y215 from ey215.symm)
            have q218 := byv_fr FT213 rfl y215
            have q219 : (ge T213 40 0 6).toInt = y6.toInt := congrArg Int32.toInt (show ge T213 40 0 6 = y6 from ((fT213.1 40 0 6 rfl).trans ((fT198.1 40 0 6 rfl).trans ((fT76.1 40 0 6 rfl).trans ((fT61.1 40 0 6 rfl).trans ((fT44.1 40 0 6 rfl).trans ((fT18.1 40 0 6 rfl).trans ey6.symm)))))))
            have q220 : (ge T213 40 0 5).toInt = y8.toInt := congrArg Int32.toInt (show ge T213 40 0 5 = y8 from ((fT213.1 40 0 5 rfl).trans ((fT198.1 40 0 5 rfl).trans ((fT76.1 40 0 5 rfl).trans ((fT61.1 40 0 5 rfl).trans ((fT44.1 40 0 5 rfl).trans ((fT18.1 40 0 5 rfl).trans ey8.symm)))))))
            refine zk_ivq (x := y215) ey215.symm ?_
            refine zk_bd (s_F_X7_byteAt _ _ RT213 (by omega)) (fun v221 T222 h221 => ?_)
            obtain ⟨rfl, h221⟩ := h221
            have h221b := byv_bd RT213 y215
            rw [← h221] at h221b
            have q223 : (ge T213 40 0 2).toInt = y1.toInt := congrArg Int32.toInt (show ge T213 40 0 2 = y1 from ((fT213.1 40 0 2 rfl).trans ((fT198.1 40 0 2 rfl).trans ((fT76.1 40 0 2 rfl).trans ((fT61.1 40 0 2 rfl).trans ((fT44.1 40 0 2 rfl).trans ((fT18.1 40 0 2 rfl).trans ey1.symm)))))))
            have q224 : (ge T213 40 0 4).toInt = y215.toInt := congrArg Int32.toInt (show ge T213 40 0 4 = y215 from ey215.symm)
            have q225 : byv T213 (ge T213 40 0 4) = byv T213 y215 := congrArg (byv T213) (show ge T213 40 0 4 = y215 from ey215.symm)
            have q226 := byv_fr FT213 rfl y215
            have q227 : (ge T213 40 0 6).toInt = y6.toInt := congrArg Int32.toInt (show ge T213 40 0 6 = y6 from ((fT213.1 40 0 6 rfl).trans ((fT198.1 40 0 6 rfl).trans ((fT76.1 40 0 6 rfl).trans ((fT61.1 40 0 6 rfl).trans ((fT44.1 40 0 6 rfl).trans ((fT18.1 40 0 6 rfl).trans ey6.symm)))))))
            have q228 : (ge T213 40 0 5).toInt = y8.toInt := congrArg Int32.toInt (show ge T213 40 0 5 = y8 from ((fT213.1 40 0 5 rfl).trans ((fT198.1 40 0 5 rfl).trans ((fT76.1 40 0 5 rfl).trans ((fT61.1 40 0 5 rfl).trans ((fT44.1 40 0 5 rfl).trans ((fT18.1 40 0 5 rfl).trans ey8.symm)))))))
            refine zk_eq (fun c229 => ?_) (fun c229 => ?_)
            ·
              have q230 : (ge T213 40 0 2).toInt = y1.toInt := congrArg Int32.toInt (show ge T213 40 0 2 = y1 from ((fT213.1 40 0 2 rfl).trans ((fT198.1 40 0 2 rfl).trans ((fT76.1 40 0 2 rfl).trans ((fT61.1 40 0 2 rfl).trans ((fT44.1 40 0 2 rfl).trans ((fT18.1 40 0 2 rfl).trans ey1.symm)))))))
              have q231 : (ge T213 40 0 4).toInt = y215.toInt := congrArg Int32.toInt (show ge T213 40 0 4 = y215 from ey215.symm)
              have q232 : byv T213 (ge T213 40 0 4) = byv T213 y215 := congrArg (byv T213) (show ge T213 40 0 4 = y215 from ey215.symm)
              have q233 := byv_fr FT213 rfl y215
              have q234 : (ge T213 40 0 6).toInt = y6.toInt := congrArg Int32.toInt (show ge T213 40 0 6 = y6 from ((fT213.1 40 0 6 rfl).trans ((fT198.1 40 0 6 rfl).trans ((fT76.1 40 0 6 rfl).trans ((fT61.1 40 0 6 rfl).trans ((fT44.1 40 0 6 rfl).trans ((fT18.1 40 0 6 rfl).trans ey6.symm)))))))
              have q235 : (ge T213 40 0 5).toInt = y8.toInt := congrArg Int32.toInt (show ge T213 40 0 5 = y8 from ((fT213.1 40 0 5 rfl).trans ((fT198.1 40 0 5 rfl).trans ((fT76.1 40 0 5 rfl).trans ((fT61.1 40 0 5 rfl).trans ((fT44.1 40 0 5 rfl).trans ((fT18.1 40 0 5 rfl).trans ey8.symm)))))))
              refine zk_bd (s_F_X7_opens _ _ RT213 (by omega) (by omega)) (fun v236 T237 h236 => ?_)
              obtain ⟨RT237, fT237, h236⟩ := h236
              have FT237 := FT213.tr (fT237.sub (m := 13421838336) (by decide))
              have q238 : (ge T237 40 0 2).toInt = y1.toInt := congrArg Int32.toInt (show ge T237 40 0 2 = y1 from ((fT237.1 40 0 2 rfl).trans ((fT213.1 40 0 2 rfl).trans ((fT198.1 40 0 2 rfl).trans ((fT76.1 40 0 2 rfl).trans ((fT61.1 40 0 2 rfl).trans ((fT44.1 40 0 2 rfl).trans ((fT18.1 40 0 2 rfl).trans ey1.symm))))))))
              obtain ⟨y239, ey239⟩ : ∃ y : Int32, y = ge T237 40 0 4 := ⟨_, rfl⟩
              have gy239 : 0 ≤ y239.toInt ∧ y239.toInt ≤ 300 := by rw [ey239]; exact RT237 40 _ _
              have q240 : (ge T237 40 0 4).toInt = y239.toInt := congrArg Int32.toInt (show ge T237 40 0 4 = y239 from ey239.symm)
              have q241 : byv T237 (ge T237 40 0 4) = byv T237 y239 := congrArg (byv T237) (show ge T237 40 0 4 = y239 from ey239.symm)
              have q242 := byv_fr FT237 rfl y239
              obtain ⟨y243, ey243⟩ : ∃ y : Int32, y = ge T237 40 0 6 := ⟨_, rfl⟩
              have q244 : (ge T237 40 0 6).toInt = y243.toInt := congrArg Int32.toInt (show ge T237 40 0 6 = y243 from ey243.symm)
              obtain ⟨y245, ey245⟩ : ∃ y : Int32, y = ge T237 40 0 5 := ⟨_, rfl⟩
              have gy245 : 0 ≤ y245.toInt ∧ y245.toInt ≤ 7 := by rw [ey245]; exact RT237 40 _ _
              have q246 : (ge T237 40 0 5).toInt = y245.toInt := congrArg Int32.toInt (show ge T237 40 0 5 = y245 from ey245.symm)
              have q247 : (ge T237 40 0 2).toInt = y1.toInt := congrArg Int32.toInt (show ge T237 40 0 2 = y1 from ((fT237.1 40 0 2 rfl).trans ((fT213.1 40 0 2 rfl).trans ((fT198.1 40 0 2 rfl).trans ((fT76.1 40 0 2 rfl).trans ((fT61.1 40 0 2 rfl).trans ((fT44.1 40 0 2 rfl).trans ((fT18.1 40 0 2 rfl).trans ey1.symm))))))))
              have q248 : (ge T237 40 0 4).toInt = y239.toInt := congrArg Int32.toInt (show ge T237 40 0 4 = y239 from ey239.symm)
              have q249 : byv T237 (ge T237 40 0 4) = byv T237 y239 := congrArg (byv T237) (show ge T237 40 0 4 = y239 from ey239.symm)
              have q250 := byv_fr FT237 rfl y239
              have q251 : (ge T237 40 0 6).toInt = y243.toInt := congrArg Int32.toInt (show ge T237 40 0 6 = y243 from ey243.symm)
              have q252 : (ge T237 40 0 5).toInt = y245.toInt := congrArg Int32.toInt (show ge T237 40 0 5 = y245 from ey245.symm)
              refine zk_bd (hR2 _ _ RT237 (by omega)) (fun v253 T254 h253 => ?_)
              obtain ⟨RT254, fT254, h253⟩ := h253
              have FT254 := FT237.tr (fT254.sub (m := 13421838336) (by decide))
              have q255 : (ge T254 40 0 2).toInt = y1.toInt := congrArg Int32.toInt (show ge T254 40 0 2 = y1 from ((fT254.1 40 0 2 rfl).trans ((fT237.1 40 0 2 rfl).trans ((fT213.1 40 0 2 rfl).trans ((fT198.1 40 0 2 rfl).trans ((fT76.1 40 0 2 rfl).trans ((fT61.1 40 0 2 rfl).trans ((fT44.1 40 0 2 rfl).trans ((fT18.1 40 0 2 rfl).trans ey1.symm)))))))))
              obtain ⟨y256, ey256⟩ : ∃ y : Int32, y = ge T254 40 0 4 := ⟨_, rfl⟩
              have gy256 : 0 ≤ y256.toInt ∧ y256.toInt ≤ 300 := by rw [ey256]; exact RT254 40 _ _
              have q257 : (ge T254 40 0 4).toInt = y256.toInt := congrArg Int32.toInt (show ge T254 40 0 4 = y256 from ey256.symm)
              have q258 : byv T254 (ge T254 40 0 4) = byv T254 y256 := congrArg (byv T254) (show ge T254 40 0 4 = y256 from ey256.symm)
              have q259 := byv_fr FT254 rfl y256
              obtain ⟨y260, ey260⟩ : ∃ y : Int32, y = ge T254 40 0 6 := ⟨_, rfl⟩
              have q261 : (ge T254 40 0 6).toInt = y260.toInt := congrArg Int32.toInt (show ge T254 40 0 6 = y260 from ey260.symm)
              obtain ⟨y262, ey262⟩ : ∃ y : Int32, y = ge T254 40 0 5 := ⟨_, rfl⟩
              have gy262 : 0 ≤ y262.toInt ∧ y262.toInt ≤ 7 := by rw [ey262]; exact RT254 40 _ _
              have q263 : (ge T254 40 0 5).toInt = y262.toInt := congrArg Int32.toInt (show ge T254 40 0 5 = y262 from ey262.symm)
              refine zk_eq (fun c264 => ?_) (fun c264 => ?_)
              ·
                refine zk_eq (fun c265 => ?_) (fun c265 => ?_)
                ·
                  exact False.elim (by omega)
                ·
                  unfold B_X7_unit_139
                  have q266 : (ge T254 40 0 2).toInt = y1.toInt := congrArg Int32.toInt (show ge T254 40 0 2 = y1 from ((fT254.1 40 0 2 rfl).trans ((fT237.1 40 0 2 rfl).trans ((fT213.1 40 0 2 rfl).trans ((fT198.1 40 0 2 rfl).trans ((fT76.1 40 0 2 rfl).trans ((fT61.1 40 0 2 rfl).trans ((fT44.1 40 0 2 rfl).trans ((fT18.1 40 0 2 rfl).trans ey1.symm)))))))))
                  have q267 : (ge T254 40 0 4).toInt = y256.toInt := congrArg Int32.toInt (show ge T254 40 0 4 = y256 from ey256.symm)
                  have q268 : byv T254 (ge T254 40 0 4) = byv T254 y256 := congrArg (byv T254) (show ge T254 40 0 4 = y256 from ey256.symm)
                  have q269 := byv_fr FT254 rfl y256
                  have q270 : (ge T254 40 0 6).toInt = y260.toInt := congrArg Int32.toInt (show ge T254 40 0 6 = y260 from ey260.symm)
                  have q271 : (ge T254 40 0 5).toInt = y262.toInt := congrArg Int32.toInt (show ge T254 40 0 5 = y262 from ey262.symm)
                  refine zk_bd (s_F_X7_sign _ _ RT254 (by omega)) (fun v272 T273 h272 => ?_)
                  obtain ⟨RT273, fT273, h272⟩ := h272
                  have FT273 := FT254.tr (fT273.sub (m := 13421838336) (by decide))
                  have q274 : (ge T273 40 0 2).toInt = y1.toInt := congrArg Int32.toInt (show ge T273 40 0 2 = y1 from ((fT273.1 40 0 2 rfl).trans ((fT254.1 40 0 2 rfl).trans ((fT237.1 40 0 2 rfl).trans ((fT213.1 40 0 2 rfl).trans ((fT198.1 40 0 2 rfl).trans ((fT76.1 40 0 2 rfl).trans ((fT61.1 40 0 2 rfl).trans ((fT44.1 40 0 2 rfl).trans ((fT18.1 40 0 2 rfl).trans ey1.symm))))))))))
                  obtain ⟨y275, ey275⟩ : ∃ y : Int32, y = ge T273 40 0 4 := ⟨_, rfl⟩
                  have gy275 : 0 ≤ y275.toInt ∧ y275.toInt ≤ 300 := by rw [ey275]; exact RT273 40 _ _
                  have q276 : (ge T273 40 0 4).toInt = y275.toInt := congrArg Int32.toInt (show ge T273 40 0 4 = y275 from ey275.symm)
                  have q277 : byv T273 (ge T273 40 0 4) = byv T273 y275 := congrArg (byv T273) (show ge T273 40 0 4 = y275 from ey275.symm)
                  have q278 := byv_fr FT273 rfl y275
                  obtain ⟨y279, ey279⟩ : ∃ y : Int32, y = ge T273 40 0 6 := ⟨_, rfl⟩
                  have q280 : (ge T273 40 0 6).toInt = y279.toInt := congrArg Int32.toInt (show ge T273 40 0 6 = y279 from ey279.symm)
                  have q281 : (ge T273 40 0 5).toInt = y262.toInt := congrArg Int32.toInt (show ge T273 40 0 5 = y262 from ((fT273.1 40 0 5 rfl).trans ey262.symm))
                  have q282 : (ge T273 40 0 2).toInt = y1.toInt := congrArg Int32.toInt (show ge T273 40 0 2 = y1 from ((fT273.1 40 0 2 rfl).trans ((fT254.1 40 0 2 rfl).trans ((fT237.1 40 0 2 rfl).trans ((fT213.1 40 0 2 rfl).trans ((fT198.1 40 0 2 rfl).trans ((fT76.1 40 0 2 rfl).trans ((fT61.1 40 0 2 rfl).trans ((fT44.1 40 0 2 rfl).trans ((fT18.1 40 0 2 rfl).trans ey1.symm))))))))))
                  have q283 : (ge T273 40 0 4).toInt = y275.toInt := congrArg Int32.toInt (show ge T273 40 0 4 = y275 from ey275.symm)
                  have q284 : byv T273 (ge T273 40 0 4) = byv T273 y275 := congrArg (byv T273) (show ge T273 40 0 4 = y275 from ey275.symm)
                  have q285 := byv_fr FT273 rfl y275
                  have q286 : (ge T273 40 0 6).toInt = y279.toInt := congrArg Int32.toInt (show ge T273 40 0 6 = y279 from ey279.symm)
                  have q287 : (ge T273 40 0 5).toInt = y262.toInt := congrArg Int32.toInt (show ge T273 40 0 5 = y262 from ((fT273.1 40 0 5 rfl).trans ey262.symm))
                  refine zk_bd (hR2 _ _ RT273 (by omega)) (fun v288 T289 h288 => ?_)
                  obtain ⟨RT289, fT289, h288⟩ := h288
                  have FT289 := FT273.tr (fT289.sub (m := 13421838336) (by decide))
                  have q290 : (ge T289 40 0 2).toInt = y1.toInt := congrArg Int32.toInt (show ge T289 40 0 2 = y1 from ((fT289.1 40 0 2 rfl).trans ((fT273.1 40 0 2 rfl).trans ((fT254.1 40 0 2 rfl).trans ((fT237.1 40 0 2 rfl).trans ((fT213.1 40 0 2 rfl).trans ((fT198.1 40 0 2 rfl).trans ((fT76.1 40 0 2 rfl).trans ((fT61.1 40 0 2 rfl).trans ((fT44.1 40 0 2 rfl).trans ((fT18.1 40 0 2 rfl).trans ey1.symm)))))))))))
                  obtain ⟨y291, ey291⟩ : ∃ y : Int32, y = ge T289 40 0 4 := ⟨_, rfl⟩
                  have gy291 : 0 ≤ y291.toInt ∧ y291.toInt ≤ 300 := by rw [ey291]; exact RT289 40 _ _
                  have q292 : (ge T289 40 0 4).toInt = y291.toInt := congrArg Int32.toInt (show ge T289 40 0 4 = y291 from ey291.symm)
                  have q293 : byv T289 (ge T289 40 0 4) = byv T289 y291 := congrArg (byv T289) (show ge T289 40 0 4 = y291 from ey291.symm)
                  have q294 := byv_fr FT289 rfl y291
                  obtain ⟨y295, ey295⟩ : ∃ y : Int32, y = ge T289 40 0 6 := ⟨_, rfl⟩
                  have q296 : (ge T289 40 0 6).toInt = y295.toInt := congrArg Int32.toInt (show ge T289 40 0 6 = y295 from ey295.symm)
                  obtain ⟨y297, ey297⟩ : ∃ y : Int32, y = ge T289 40 0 5 := ⟨_, rfl⟩
                  have gy297 : 0 ≤ y297.toInt ∧ y297.toInt ≤ 7 := by rw [ey297]; exact RT289 40 _ _
                  have q298 : (ge T289 40 0 5).toInt = y297.toInt := congrArg Int32.toInt (show ge T289 40 0 5 = y297 from ey297.symm)
                  refine zk_le (fun c299 => ?_) (fun c299 => ?_)
                  ·
                    unfold B_X7_unit_164
                    refine zk_eq (fun c300 => ?_) (fun c300 => ?_)
                    ·
                      unfold B_X7_unit_174
                      unfold B_X7_unit_176
                      have q301 : (ge T289 40 0 2).toInt = y1.toInt := congrArg Int32.toInt (show ge T289 40 0 2 = y1 from ((fT289.1 40 0 2 rfl).trans ((fT273.1 40 0 2 rfl).trans ((fT254.1 40 0 2 rfl).trans ((fT237.1 40 0 2 rfl).trans ((fT213.1 40 0 2 rfl).trans ((fT198.1 40 0 2 rfl).trans ((fT76.1 40 0 2 rfl).trans ((fT61.1 40 0 2 rfl).trans ((fT44.1 40 0 2 rfl).trans ((fT18.1 40 0 2 rfl).trans ey1.symm)))))))))))
                      have q302 : (ge T289 40 0 4).toInt = y291.toInt := congrArg Int32.toInt (show ge T289 40 0 4 = y291 from ey291.symm)
                      have q303 : byv T289 (ge T289 40 0 4) = byv T289 y291 := congrArg (byv T289) (show ge T289 40 0 4 = y291 from ey291.symm)
                      have q304 := byv_fr FT289 rfl y291
                      have q305 : (ge T289 40 0 6).toInt = y295.toInt := congrArg Int32.toInt (show ge T289 40 0 6 = y295 from ey295.symm)
                      have q306 : (ge T289 40 0 5).toInt = y297.toInt := congrArg Int32.toInt (show ge T289 40 0 5 = y297 from ey297.symm)
                      refine zk_bd (s_F_X7_sign _ _ RT289 (by omega)) (fun v307 T308 h307 => ?_)
                      obtain ⟨RT308, fT308, h307⟩ := h307
                      have FT308 := FT289.tr (fT308.sub (m := 13421838336) (by decide))
                      have q309 : (ge T308 40 0 2).toInt = y1.toInt := congrArg Int32.toInt (show ge T308 40 0 2 = y1 from ((fT308.1 40 0 2 rfl).trans ((fT289.1 40 0 2 rfl).trans ((fT273.1 40 0 2 rfl).trans ((fT254.1 40 0 2 rfl).trans ((fT237.1 40 0 2 rfl).trans ((fT213.1 40 0 2 rfl).trans ((fT198.1 40 0 2 rfl).trans ((fT76.1 40 0 2 rfl).trans ((fT61.1 40 0 2 rfl).trans ((fT44.1 40 0 2 rfl).trans ((fT18.1 40 0 2 rfl).trans ey1.symm))))))))))))
                      obtain ⟨y310, ey310⟩ : ∃ y : Int32, y = ge T308 40 0 4 := ⟨_, rfl⟩
                      have gy310 : 0 ≤ y310.toInt ∧ y310.toInt ≤ 300 := by rw [ey310]; exact RT308 40 _ _
                      have q311 : (ge T308 40 0 4).toInt = y310.toInt := congrArg Int32.toInt (show ge T308 40 0 4 = y310 from ey310.symm)
                      have q312 : byv T308 (ge T308 40 0 4) = byv T308 y310 := congrArg (byv T308) (show ge T308 40 0 4 = y310 from ey310.symm)
                      have q313 := byv_fr FT308 rfl y310
                      obtain ⟨y314, ey314⟩ : ∃ y : Int32, y = ge T308 40 0 6 := ⟨_, rfl⟩
                      have q315 : (ge T308 40 0 6).toInt = y314.toInt := congrArg Int32.toInt (show ge T308 40 0 6 = y314 from ey314.symm)
                      have q316 : (ge T308 40 0 5).toInt = y297.toInt := congrArg Int32.toInt (show ge T308 40 0 5 = y297 from ((fT308.1 40 0 5 rfl).trans ey297.symm))
                      refine zk_ivq (x := y297) ((fT308.1 40 0 5 rfl).trans ey297.symm) ?_
                      refine zk_iv fun x317 e317 => ?_
                      have gx317 : x317.toInt = y297.toInt - (1 : Int32).toInt := by rw [e317]; exact ti_sub (by omega) (by omega)
                      refine zk_sv fun S318 E318 => ?_
                      have RS318 : RI S318 := by rw [E318]; exact RT308.wr (show (0 : Int) ≤ x317.toInt by omega) (show x317.toInt ≤ 7 by omega)
                      have FS318 : Fr 13421838336 S0 S318 := by rw [E318]; exact FT308.wr (k := 32) rfl rfl
                      have q319 : (ge S318 40 0 2).toInt = y1.toInt := congrArg Int32.toInt (show ge S318 40 0 2 = y1 from (by rw [E318]; exact (ge_puj (by decide)).trans ((fT308.1 40 0 2 rfl).trans ((fT289.1 40 0 2 rfl).trans ((fT273.1 40 0 2 rfl).trans ((fT254.1 40 0 2 rfl).trans ((fT237.1 40 0 2 rfl).trans ((fT213.1 40 0 2 rfl).trans ((fT198.1 40 0 2 rfl).trans ((fT76.1 40 0 2 rfl).trans ((fT61.1 40 0 2 rfl).trans ((fT44.1 40 0 2 rfl).trans ((fT18.1 40 0 2 rfl).trans ey1.symm)))))))))))))
                      have q320 : (ge S318 40 0 4).toInt = y310.toInt := congrArg Int32.toInt (show ge S318 40 0 4 = y310 from (by rw [E318]; exact (ge_puj (by decide)).trans ey310.symm))
                      have q321 : byv S318 (ge S318 40 0 4) = byv S318 y310 := congrArg (byv S318) (show ge S318 40 0 4 = y310 from (by rw [E318]; exact (ge_puj (by decide)).trans ey310.symm))
                      have q322 := byv_fr FS318 rfl y310
                      have q323 : (ge S318 40 0 6).toInt = y314.toInt := congrArg Int32.toInt (show ge S318 40 0 6 = y314 from (by rw [E318]; exact (ge_puj (by decide)).trans ey314.symm))
                      have q324 : (ge S318 40 0 5).toInt = x317.toInt := congrArg Int32.toInt (show ge S318 40 0 5 = x317 from (by rw [E318]; exact ge_pus))
                      exact zk_some ⟨RS318, FS318, by omega⟩
                    ·
                      exact False.elim (by omega)
                  ·
                    unfold B_X7_unit_164
                    refine zk_eq (fun c325 => ?_) (fun c325 => ?_)
                    ·
                      exact False.elim (by omega)
                    ·
                      unfold B_X7_unit_174
                      unfold B_X7_unit_176
                      have q326 : (ge T289 40 0 2).toInt = y1.toInt := congrArg Int32.toInt (show ge T289 40 0 2 = y1 from ((fT289.1 40 0 2 rfl).trans ((fT273.1 40 0 2 rfl).trans ((fT254.1 40 0 2 rfl).trans ((fT237.1 40 0 2 rfl).trans ((fT213.1 40 0 2 rfl).trans ((fT198.1 40 0 2 rfl).trans ((fT76.1 40 0 2 rfl).trans ((fT61.1 40 0 2 rfl).trans ((fT44.1 40 0 2 rfl).trans ((fT18.1 40 0 2 rfl).trans ey1.symm)))))))))))
                      have q327 : (ge T289 40 0 4).toInt = y291.toInt := congrArg Int32.toInt (show ge T289 40 0 4 = y291 from ey291.symm)
                      have q328 : byv T289 (ge T289 40 0 4) = byv T289 y291 := congrArg (byv T289) (show ge T289 40 0 4 = y291 from ey291.symm)
                      have q329 := byv_fr FT289 rfl y291
                      have q330 : (ge T289 40 0 6).toInt = y295.toInt := congrArg Int32.toInt (show ge T289 40 0 6 = y295 from ey295.symm)
                      have q331 : (ge T289 40 0 5).toInt = y297.toInt := congrArg Int32.toInt (show ge T289 40 0 5 = y297 from ey297.symm)
                      refine zk_bd (s_F_X7_sign _ _ RT289 (by omega)) (fun v332 T333 h332 => ?_)
                      obtain ⟨RT333, fT333, h332⟩ := h332
                      have FT333 := FT289.tr (fT333.sub (m := 13421838336) (by decide))
                      have q334 : (ge T333 40 0 2).toInt = y1.toInt := congrArg Int32.toInt (show ge T333 40 0 2 = y1 from ((fT333.1 40 0 2 rfl).trans ((fT289.1 40 0 2 rfl).trans ((fT273.1 40 0 2 rfl).trans ((fT254.1 40 0 2 rfl).trans ((fT237.1 40 0 2 rfl).trans ((fT213.1 40 0 2 rfl).trans ((fT198.1 40 0 2 rfl).trans ((fT76.1 40 0 2 rfl).trans ((fT61.1 40 0 2 rfl).trans ((fT44.1 40 0 2 rfl).trans ((fT18.1 40 0 2 rfl).trans ey1.symm))))))))))))
                      obtain ⟨y335, ey335⟩ : ∃ y : Int32, y = ge T333 40 0 4 := ⟨_, rfl⟩
                      have gy335 : 0 ≤ y335.toInt ∧ y335.toInt ≤ 300 := by rw [ey335]; exact RT333 40 _ _
                      have q336 : (ge T333 40 0 4).toInt = y335.toInt := congrArg Int32.toInt (show ge T333 40 0 4 = y335 from ey335.symm)
                      have q337 : byv T333 (ge T333 40 0 4) = byv T333 y335 := congrArg (byv T333) (show ge T333 40 0 4 = y335 from ey335.symm)
                      have q338 := byv_fr FT333 rfl y335
                      obtain ⟨y339, ey339⟩ : ∃ y : Int32, y = ge T333 40 0 6 := ⟨_, rfl⟩
                      have q340 : (ge T333 40 0 6).toInt = y339.toInt := congrArg Int32.toInt (show ge T333 40 0 6 = y339 from ey339.symm)
                      have q341 : (ge T333 40 0 5).toInt = y297.toInt := congrArg Int32.toInt (show ge T333 40 0 5 = y297 from ((fT333.1 40 0 5 rfl).trans ey297.symm))
                      refine zk_ivq (x := y297) ((fT333.1 40 0 5 rfl).trans ey297.symm) ?_
                      refine zk_iv fun x342 e342 => ?_
                      have gx342 : x342.toInt = y297.toInt - (1 : Int32).toInt := by rw [e342]; exact ti_sub (by omega) (by omega)
                      refine zk_sv fun S343 E343 => ?_
                      have RS343 : RI S343 := by rw [E343]; exact RT333.wr (show (0 : Int) ≤ x342.toInt by omega) (show x342.toInt ≤ 7 by omega)
                      have FS343 : Fr 13421838336 S0 S343 := by rw [E343]; exact FT333.wr (k := 32) rfl rfl
                      have q344 : (ge S343 40 0 2).toInt = y1.toInt := congrArg Int32.toInt (show ge S343 40 0 2 = y1 from (by rw [E343]; exact (ge_puj (by decide)).trans ((fT333.1 40 0 2 rfl).trans ((fT289.1 40 0 2 rfl).trans ((fT273.1 40 0 2 rfl).trans ((fT254.1 40 0 2 rfl).trans ((fT237.1 40 0 2 rfl).trans ((fT213.1 40 0 2 rfl).trans ((fT198.1 40 0 2 rfl).trans ((fT76.1 40 0 2 rfl).trans ((fT61.1 40 0 2 rfl).trans ((fT44.1 40 0 2 rfl).trans ((fT18.1 40 0 2 rfl).trans ey1.symm)))))))))))))
                      have q345 : (ge S343 40 0 4).toInt = y335.toInt := congrArg Int32.toInt (show ge S343 40 0 4 = y335 from (by rw [E343]; exact (ge_puj (by decide)).trans ey335.symm))
                      have q346 : byv S343 (ge S343 40 0 4) = byv S343 y335 := congrArg (byv S343) (show ge S343 40 0 4 = y335 from (by rw [E343]; exact (ge_puj (by decide)).trans ey335.symm))
                      have q347 := byv_fr FS343 rfl y335
                      have q348 : (ge S343 40 0 6).toInt = y339.toInt := congrArg Int32.toInt (show ge S343 40 0 6 = y339 from (by rw [E343]; exact (ge_puj (by decide)).trans ey339.symm))
                      have q349 : (ge S343 40 0 5).toInt = x342.toInt := congrArg Int32.toInt (show ge S343 40 0 5 = x342 from (by rw [E343]; exact ge_pus))
                      exact zk_some ⟨RS343, FS343, by omega⟩
              ·
                exact False.elim (by omega)
            ·
              refine zk_ivq (x := y215) ey215.symm ?_
              have q350 : (ge T213 40 0 2).toInt = y1.toInt := congrArg Int32.toInt (show ge T213 40 0 2 = y1 from ((fT213.1 40 0 2 rfl).trans ((fT198.1 40 0 2 rfl).trans ((fT76.1 40 0 2 rfl).trans ((fT61.1 40 0 2 rfl).trans ((fT44.1 40 0 2 rfl).trans ((fT18.1 40 0 2 rfl).trans ey1.symm)))))))
              have q351 : (ge T213 40 0 4).toInt = y215.toInt := congrArg Int32.toInt (show ge T213 40 0 4 = y215 from ey215.symm)
              have q352 : byv T213 (ge T213 40 0 4) = byv T213 y215 := congrArg (byv T213) (show ge T213 40 0 4 = y215 from ey215.symm)
              have q353 := byv_fr FT213 rfl y215
              have q354 : (ge T213 40 0 6).toInt = y6.toInt := congrArg Int32.toInt (show ge T213 40 0 6 = y6 from ((fT213.1 40 0 6 rfl).trans ((fT198.1 40 0 6 rfl).trans ((fT76.1 40 0 6 rfl).trans ((fT61.1 40 0 6 rfl).trans ((fT44.1 40 0 6 rfl).trans ((fT18.1 40 0 6 rfl).trans ey6.symm)))))))
              have q355 : (ge T213 40 0 5).toInt = y8.toInt := congrArg Int32.toInt (show ge T213 40 0 5 = y8 from ((fT213.1 40 0 5 rfl).trans ((fT198.1 40 0 5 rfl).trans ((fT76.1 40 0 5 rfl).trans ((fT61.1 40 0 5 rfl).trans ((fT44.1 40 0 5 rfl).trans ((fT18.1 40 0 5 rfl).trans ey8.symm)))))))
              refine zk_bd (s_F_X7_wrong _ _ _ RT213 (by omega)) (fun v356 T357 h356 => ?_)
              obtain ⟨RT357, fT357, h356⟩ := h356
              have FT357 := FT213.tr (fT357.sub (m := 13421838336) (by decide))
              have q358 : (ge T357 40 0 2).toInt = y1.toInt := congrArg Int32.toInt (show ge T357 40 0 2 = y1 from ((fT357.1 40 0 2 rfl).trans ((fT213.1 40 0 2 rfl).trans ((fT198.1 40 0 2 rfl).trans ((fT76.1 40 0 2 rfl).trans ((fT61.1 40 0 2 rfl).trans ((fT44.1 40 0 2 rfl).trans ((fT18.1 40 0 2 rfl).trans ey1.symm))))))))
              have q359 : (ge T357 40 0 4).toInt = y215.toInt := congrArg Int32.toInt (show ge T357 40 0 4 = y215 from ((fT357.1 40 0 4 rfl).trans ey215.symm))
              have q360 : byv T357 (ge T357 40 0 4) = byv T357 y215 := congrArg (byv T357) (show ge T357 40 0 4 = y215 from ((fT357.1 40 0 4 rfl).trans ey215.symm))
              have q361 := byv_fr FT357 rfl y215
              obtain ⟨y362, ey362⟩ : ∃ y : Int32, y = ge T357 40 0 6 := ⟨_, rfl⟩
              have q363 : (ge T357 40 0 6).toInt = y362.toInt := congrArg Int32.toInt (show ge T357 40 0 6 = y362 from ey362.symm)
              have q364 : (ge T357 40 0 5).toInt = y8.toInt := congrArg Int32.toInt (show ge T357 40 0 5 = y8 from ((fT357.1 40 0 5 rfl).trans ((fT213.1 40 0 5 rfl).trans ((fT198.1 40 0 5 rfl).trans ((fT76.1 40 0 5 rfl).trans ((fT61.1 40 0 5 rfl).trans ((fT44.1 40 0 5 rfl).trans ((fT18.1 40 0 5 rfl).trans ey8.symm))))))))
              have q365 : (ge T357 40 0 2).toInt = y1.toInt := congrArg Int32.toInt (show ge T357 40 0 2 = y1 from ((fT357.1 40 0 2 rfl).trans ((fT213.1 40 0 2 rfl).trans ((fT198.1 40 0 2 rfl).trans ((fT76.1 40 0 2 rfl).trans ((fT61.1 40 0 2 rfl).trans ((fT44.1 40 0 2 rfl).trans ((fT18.1 40 0 2 rfl).trans ey1.symm))))))))
              have q366 : (ge T357 40 0 4).toInt = y215.toInt := congrArg Int32.toInt (show ge T357 40 0 4 = y215 from ((fT357.1 40 0 4 rfl).trans ey215.symm))
              have q367 : byv T357 (ge T357 40 0 4) = byv T357 y215 := congrArg (byv T357) (show ge T357 40 0 4 = y215 from ((fT357.1 40 0 4 rfl).trans ey215.symm))
              have q368 := byv_fr FT357 rfl y215
              have q369 : (ge T357 40 0 6).toInt = y362.toInt := congrArg Int32.toInt (show ge T357 40 0 6 = y362 from ey362.symm)
              have q370 : (ge T357 40 0 5).toInt = y8.toInt := congrArg Int32.toInt (show ge T357 40 0 5 = y8 from ((fT357.1 40 0 5 rfl).trans ((fT213.1 40 0 5 rfl).trans ((fT198.1 40 0 5 rfl).trans ((fT76.1 40 0 5 rfl).trans ((fT61.1 40 0 5 rfl).trans ((fT44.1 40 0 5 rfl).trans ((fT18.1 40 0 5 rfl).trans ey8.symm))))))))
              exact zk_some ⟨RT357, FT357, by omega⟩
        ·
          unfold B_X7_unit_88
          have q371 : (ge T76 40 0 2).toInt = y1.toInt := congrArg Int32.toInt (show ge T76 40 0 2 = y1 from ((fT76.1 40 0 2 rfl).trans ((fT61.1 40 0 2 rfl).trans ((fT44.1 40 0 2 rfl).trans ((fT18.1 40 0 2 rfl).trans ey1.symm)))))
          have q372 : (ge T76 40 0 4).toInt = y78.toInt := congrArg Int32.toInt (show ge T76 40 0 4 = y78 from ey78.symm)
          have q373 : byv T76 (ge T76 40 0 4) = byv T76 y78 := congrArg (byv T76) (show ge T76 40 0 4 = y78 from ey78.symm)
          have q374 := byv_fr FT76 rfl y78
          have q375 : (ge T76 40 0 6).toInt = y6.toInt := congrArg Int32.toInt (show ge T76 40 0 6 = y6 from ((fT76.1 40 0 6 rfl).trans ((fT61.1 40 0 6 rfl).trans ((fT44.1 40 0 6 rfl).trans ((fT18.1 40 0 6 rfl).trans ey6.symm)))))
          have q376 : (ge T76 40 0 5).toInt = y8.toInt := congrArg Int32.toInt (show ge T76 40 0 5 = y8 from ((fT76.1 40 0 5 rfl).trans ((fT61.1 40 0 5 rfl).trans ((fT44.1 40 0 5 rfl).trans ((fT18.1 40 0 5 rfl).trans ey8.symm)))))
          refine zk_bd (s_F_X7_skipWord _ RT76) (fun v377 T378 h377 => ?_)
          obtain ⟨RT378, fT378, h377⟩ := h377
          have FT378 := FT76.tr (fT378.sub (m := 13421838336) (by decide))
          have q379 : (ge T378 40 0 2).toInt = y1.toInt := congrArg Int32.toInt (show ge T378 40 0 2 = y1 from ((fT378.1 40 0 2 rfl).trans ((fT76.1 40 0 2 rfl).trans ((fT61.1 40 0 2 rfl).trans ((fT44.1 40 0 2 rfl).trans ((fT18.1 40 0 2 rfl).trans ey1.symm))))))
          obtain ⟨y380, ey380⟩ : ∃ y : Int32, y = ge T378 40 0 4 := ⟨_, rfl⟩
          have gy380 : 0 ≤ y380.toInt ∧ y380.toInt ≤ 300 := by rw [ey380]; exact RT378 40 _ _
          have q381 : (ge T378 40 0 4).toInt = y380.toInt := congrArg Int32.toInt (show ge T378 40 0 4 = y380 from ey380.symm)
          have q382 : byv T378 (ge T378 40 0 4) = byv T378 y380 := congrArg (byv T378) (show ge T378 40 0 4 = y380 from ey380.symm)
          have q383 := byv_fr FT378 rfl y380
          have q384 : (ge T378 40 0 6).toInt = y6.toInt := congrArg Int32.toInt (show ge T378 40 0 6 = y6 from ((fT378.1 40 0 6 rfl).trans ((fT76.1 40 0 6 rfl).trans ((fT61.1 40 0 6 rfl).trans ((fT44.1 40 0 6 rfl).trans ((fT18.1 40 0 6 rfl).trans ey6.symm))))))
          have q385 : (ge T378 40 0 5).toInt = y8.toInt := congrArg Int32.toInt (show ge T378 40 0 5 = y8 from ((fT378.1 40 0 5 rfl).trans ((fT76.1 40 0 5 rfl).trans ((fT61.1 40 0 5 rfl).trans ((fT44.1 40 0 5 rfl).trans ((fT18.1 40 0 5 rfl).trans ey8.symm))))))
          unfold B_X7_unit_92
          have q386 : (ge T378 40 0 2).toInt = y1.toInt := congrArg Int32.toInt (show ge T378 40 0 2 = y1 from ((fT378.1 40 0 2 rfl).trans ((fT76.1 40 0 2 rfl).trans ((fT61.1 40 0 2 rfl).trans ((fT44.1 40 0 2 rfl).trans ((fT18.1 40 0 2 rfl).trans ey1.symm))))))
          have q387 : (ge T378 40 0 4).toInt = y380.toInt := congrArg Int32.toInt (show ge T378 40 0 4 = y380 from ey380.symm)
          have q388 : byv T378 (ge T378 40 0 4) = byv T378 y380 := congrArg (byv T378) (show ge T378 40 0 4 = y380 from ey380.symm)
          have q389 := byv_fr FT378 rfl y380
          have q390 : (ge T378 40 0 6).toInt = y6.toInt := congrArg Int32.toInt (show ge T378 40 0 6 = y6 from ((fT378.1 40 0 6 rfl).trans ((fT76.1 40 0 6 rfl).trans ((fT61.1 40 0 6 rfl).trans ((fT44.1 40 0 6 rfl).trans ((fT18.1 40 0 6 rfl).trans ey6.symm))))))
          have q391 : (ge T378 40 0 5).toInt = y8.toInt := congrArg Int32.toInt (show ge T378 40 0 5 = y8 from ((fT378.1 40 0 5 rfl).trans ((fT76.1 40 0 5 rfl).trans ((fT61.1 40 0 5 rfl).trans ((fT44.1 40 0 5 rfl).trans ((fT18.1 40 0 5 rfl).trans ey8.symm))))))
          refine zk_bd (s_F_X7_blanks _ RT378) (fun v392 T393 h392 => ?_)
          obtain ⟨RT393, fT393, h392⟩ := h392
          have FT393 := FT378.tr (fT393.sub (m := 13421838336) (by decide))
          have q394 : (ge T393 40 0 2).toInt = y1.toInt := congrArg Int32.toInt (show ge T393 40 0 2 = y1 from ((fT393.1 40 0 2 rfl).trans ((fT378.1 40 0 2 rfl).trans ((fT76.1 40 0 2 rfl).trans ((fT61.1 40 0 2 rfl).trans ((fT44.1 40 0 2 rfl).trans ((fT18.1 40 0 2 rfl).trans ey1.symm)))))))
          obtain ⟨y395, ey395⟩ : ∃ y : Int32, y = ge T393 40 0 4 := ⟨_, rfl⟩
          have gy395 : 0 ≤ y395.toInt ∧ y395.toInt ≤ 300 := by rw [ey395]; exact RT393 40 _ _
          have q396 : (ge T393 40 0 4).toInt = y395.toInt := congrArg Int32.toInt (show ge T393 40 0 4 = y395 from ey395.symm)
          have q397 : byv T393 (ge T393 40 0 4) = byv T393 y395 := congrArg (byv T393) (show ge T393 40 0 4 = y395 from ey395.symm)
          have q398 := byv_fr FT393 rfl y395
          have q399 : (ge T393 40 0 6).toInt = y6.toInt := congrArg Int32.toInt (show ge T393 40 0 6 = y6 from ((fT393.1 40 0 6 rfl).trans ((fT378.1 40 0 6 rfl).trans ((fT76.1 40 0 6 rfl).trans ((fT61.1 40 0 6 rfl).trans ((fT44.1 40 0 6 rfl).trans ((fT18.1 40 0 6 rfl).trans ey6.symm)))))))
          have q400 : (ge T393 40 0 5).toInt = y8.toInt := congrArg Int32.toInt (show ge T393 40 0 5 = y8 from ((fT393.1 40 0 5 rfl).trans ((fT378.1 40 0 5 rfl).trans ((fT76.1 40 0 5 rfl).trans ((fT61.1 40 0 5 rfl).trans ((fT44.1 40 0 5 rfl).trans ((fT18.1 40 0 5 rfl).trans ey8.symm)))))))
          refine zk_ivq (x := y395) ey395.symm ?_
          refine zk_bd (s_F_X7_byteAt _ _ RT393 (by omega)) (fun v401 T402 h401 => ?_)
          obtain ⟨rfl, h401⟩ := h401
          have h401b := byv_bd RT393 y395
          rw [← h401] at h401b
          have q403 : (ge T393 40 0 2).toInt = y1.toInt := congrArg Int32.toInt (show ge T393 40 0 2 = y1 from ((fT393.1 40 0 2 rfl).trans ((fT378.1 40 0 2 rfl).trans ((fT76.1 40 0 2 rfl).trans ((fT61.1 40 0 2 rfl).trans ((fT44.1 40 0 2 rfl).trans ((fT18.1 40 0 2 rfl).trans ey1.symm)))))))
          have q404 : (ge T393 40 0 4).toInt = y395.toInt := congrArg Int32.toInt (show ge T393 40 0 4 = y395 from ey395.symm)
          have q405 : byv T393 (ge T393 40 0 4) = byv T393 y395 := congrArg (byv T393) (show ge T393 40 0 4 = y395 from ey395.symm)
          have q406 := byv_fr FT393 rfl y395
          have q407 : (ge T393 40 0 6).toInt = y6.toInt := congrArg Int32.toInt (show ge T393 40 0 6 = y6 from ((fT393.1 40 0 6 rfl).trans ((fT378.1 40 0 6 rfl).trans ((fT76.1 40 0 6 rfl).trans ((fT61.1 40 0 6 rfl).trans ((fT44.1 40 0 6 rfl).trans ((fT18.1 40 0 6 rfl).trans ey6.symm)))))))
          have q408 : (ge T393 40 0 5).toInt = y8.toInt := congrArg Int32.toInt (show ge T393 40 0 5 = y8 from ((fT393.1 40 0 5 rfl).trans ((fT378.1 40 0 5 rfl).trans ((fT76.1 40 0 5 rfl).trans ((fT61.1 40 0 5 rfl).trans ((fT44.1 40 0 5 rfl).trans ((fT18.1 40 0 5 rfl).trans ey8.symm)))))))
          refine zk_eq (fun c409 => ?_) (fun c409 => ?_)
          ·
            have q410 : (ge T393 40 0 2).toInt = y1.toInt := congrArg Int32.toInt (show ge T393 40 0 2 = y1 from ((fT393.1 40 0 2 rfl).trans ((fT378.1 40 0 2 rfl).trans ((fT76.1 40 0 2 rfl).trans ((fT61.1 40 0 2 rfl).trans ((fT44.1 40 0 2 rfl).trans ((fT18.1 40 0 2 rfl).trans ey1.symm)))))))
            have q411 : (ge T393 40 0 4).toInt = y395.toInt := congrArg Int32.toInt (show ge T393 40 0 4 = y395 from ey395.symm)
            have q412 : byv T393 (ge T393 40 0 4) = byv T393 y395 := congrArg (byv T393) (show ge T393 40 0 4 = y395 from ey395.symm)
            have q413 := byv_fr FT393 rfl y395
            have q414 : (ge T393 40 0 6).toInt = y6.toInt := congrArg Int32.toInt (show ge T393 40 0 6 = y6 from ((fT393.1 40 0 6 rfl).trans ((fT378.1 40 0 6 rfl).trans ((fT76.1 40 0 6 rfl).trans ((fT61.1 40 0 6 rfl).trans ((fT44.1 40 0 6 rfl).trans ((fT18.1 40 0 6 rfl).trans ey6.symm)))))))
            have q415 : (ge T393 40 0 5).toInt = y8.toInt := congrArg Int32.toInt (show ge T393 40 0 5 = y8 from ((fT393.1 40 0 5 rfl).trans ((fT378.1 40 0 5 rfl).trans ((fT76.1 40 0 5 rfl).trans ((fT61.1 40 0 5 rfl).trans ((fT44.1 40 0 5 rfl).trans ((fT18.1 40 0 5 rfl).trans ey8.symm)))))))
            refine zk_bd (s_F_X7_opens _ _ RT393 (by omega) (by omega)) (fun v416 T417 h416 => ?_)
            obtain ⟨RT417, fT417, h416⟩ := h416
            have FT417 := FT393.tr (fT417.sub (m := 13421838336) (by decide))
            have q418 : (ge T417 40 0 2).toInt = y1.toInt := congrArg Int32.toInt (show ge T417 40 0 2 = y1 from ((fT417.1 40 0 2 rfl).trans ((fT393.1 40 0 2 rfl).trans ((fT378.1 40 0 2 rfl).trans ((fT76.1 40 0 2 rfl).trans ((fT61.1 40 0 2 rfl).trans ((fT44.1 40 0 2 rfl).trans ((fT18.1 40 0 2 rfl).trans ey1.symm))))))))
            obtain ⟨y419, ey419⟩ : ∃ y : Int32, y = ge T417 40 0 4 := ⟨_, rfl⟩
            have gy419 : 0 ≤ y419.toInt ∧ y419.toInt ≤ 300 := by rw [ey419]; exact RT417 40 _ _
            have q420 : (ge T417 40 0 4).toInt = y419.toInt := congrArg Int32.toInt (show ge T417 40 0 4 = y419 from ey419.symm)
            have q421 : byv T417 (ge T417 40 0 4) = byv T417 y419 := congrArg (byv T417) (show ge T417 40 0 4 = y419 from ey419.symm)
            have q422 := byv_fr FT417 rfl y419
            obtain ⟨y423, ey423⟩ : ∃ y : Int32, y = ge T417 40 0 6 := ⟨_, rfl⟩
            have q424 : (ge T417 40 0 6).toInt = y423.toInt := congrArg Int32.toInt (show ge T417 40 0 6 = y423 from ey423.symm)
            obtain ⟨y425, ey425⟩ : ∃ y : Int32, y = ge T417 40 0 5 := ⟨_, rfl⟩
            have gy425 : 0 ≤ y425.toInt ∧ y425.toInt ≤ 7 := by rw [ey425]; exact RT417 40 _ _
            have q426 : (ge T417 40 0 5).toInt = y425.toInt := congrArg Int32.toInt (show ge T417 40 0 5 = y425 from ey425.symm)
            have q427 : (ge T417 40 0 2).toInt = y1.toInt := congrArg Int32.toInt (show ge T417 40 0 2 = y1 from ((fT417.1 40 0 2 rfl).trans ((fT393.1 40 0 2 rfl).trans ((fT378.1 40 0 2 rfl).trans ((fT76.1 40 0 2 rfl).trans ((fT61.1 40 0 2 rfl).trans ((fT44.1 40 0 2 rfl).trans ((fT18.1 40 0 2 rfl).trans ey1.symm))))))))
            have q428 : (ge T417 40 0 4).toInt = y419.toInt := congrArg Int32.toInt (show ge T417 40 0 4 = y419 from ey419.symm)
            have q429 : byv T417 (ge T417 40 0 4) = byv T417 y419 := congrArg (byv T417) (show ge T417 40 0 4 = y419 from ey419.symm)
            have q430 := byv_fr FT417 rfl y419
            have q431 : (ge T417 40 0 6).toInt = y423.toInt := congrArg Int32.toInt (show ge T417 40 0 6 = y423 from ey423.symm)
            have q432 : (ge T417 40 0 5).toInt = y425.toInt := congrArg Int32.toInt (show ge T417 40 0 5 = y425 from ey425.symm)
            refine zk_bd (hR2 _ _ RT417 (by omega)) (fun v433 T434 h433 => ?_)
            obtain ⟨RT434, fT434, h433⟩ := h433
            have FT434 := FT417.tr (fT434.sub (m := 13421838336) (by decide))
            have q435 : (ge T434 40 0 2).toInt = y1.toInt := congrArg Int32.toInt (show ge T434 40 0 2 = y1 from ((fT434.1 40 0 2 rfl).trans ((fT417.1 40 0 2 rfl).trans ((fT393.1 40 0 2 rfl).trans ((fT378.1 40 0 2 rfl).trans ((fT76.1 40 0 2 rfl).trans ((fT61.1 40 0 2 rfl).trans ((fT44.1 40 0 2 rfl).trans ((fT18.1 40 0 2 rfl).trans ey1.symm)))))))))
            obtain ⟨y436, ey436⟩ : ∃ y : Int32, y = ge T434 40 0 4 := ⟨_, rfl⟩
            have gy436 : 0 ≤ y436.toInt ∧ y436.toInt ≤ 300 := by rw [ey436]; exact RT434 40 _ _
            have q437 : (ge T434 40 0 4).toInt = y436.toInt := congrArg Int32.toInt (show ge T434 40 0 4 = y436 from ey436.symm)
            have q438 : byv T434 (ge T434 40 0 4) = byv T434 y436 := congrArg (byv T434) (show ge T434 40 0 4 = y436 from ey436.symm)
            have q439 := byv_fr FT434 rfl y436
            obtain ⟨y440, ey440⟩ : ∃ y : Int32, y = ge T434 40 0 6 := ⟨_, rfl⟩
            have q441 : (ge T434 40 0 6).toInt = y440.toInt := congrArg Int32.toInt (show ge T434 40 0 6 = y440 from ey440.symm)
            obtain ⟨y442, ey442⟩ : ∃ y : Int32, y = ge T434 40 0 5 := ⟨_, rfl⟩
            have gy442 : 0 ≤ y442.toInt ∧ y442.toInt ≤ 7 := by rw [ey442]; exact RT434 40 _ _
            have q443 : (ge T434 40 0 5).toInt = y442.toInt := congrArg Int32.toInt (show ge T434 40 0 5 = y442 from ey442.symm)
            refine zk_eq (fun c444 => ?_) (fun c444 => ?_)
            ·
              exact False.elim (by omega)
            ·
              unfold B_X7_unit_139
              have q445 : (ge T434 40 0 2).toInt = y1.toInt := congrArg Int32.toInt (show ge T434 40 0 2 = y1 from ((fT434.1 40 0 2 rfl).trans ((fT417.1 40 0 2 rfl).trans ((fT393.1 40 0 2 rfl).trans ((fT378.1 40 0 2 rfl).trans ((fT76.1 40 0 2 rfl).trans ((fT61.1 40 0 2 rfl).trans ((fT44.1 40 0 2 rfl).trans ((fT18.1 40 0 2 rfl).trans ey1.symm)))))))))
              have q446 : (ge T434 40 0 4).toInt = y436.toInt := congrArg Int32.toInt (show ge T434 40 0 4 = y436 from ey436.symm)
              have q447 : byv T434 (ge T434 40 0 4) = byv T434 y436 := congrArg (byv T434) (show ge T434 40 0 4 = y436 from ey436.symm)
              have q448 := byv_fr FT434 rfl y436
              have q449 : (ge T434 40 0 6).toInt = y440.toInt := congrArg Int32.toInt (show ge T434 40 0 6 = y440 from ey440.symm)
              have q450 : (ge T434 40 0 5).toInt = y442.toInt := congrArg Int32.toInt (show ge T434 40 0 5 = y442 from ey442.symm)
              refine zk_bd (s_F_X7_sign _ _ RT434 (by omega)) (fun v451 T452 h451 => ?_)
              obtain ⟨RT452, fT452, h451⟩ := h451
              have FT452 := FT434.tr (fT452.sub (m := 13421838336) (by decide))
              have q453 : (ge T452 40 0 2).toInt = y1.toInt := congrArg Int32.toInt (show ge T452 40 0 2 = y1 from ((fT452.1 40 0 2 rfl).trans ((fT434.1 40 0 2 rfl).trans ((fT417.1 40 0 2 rfl).trans ((fT393.1 40 0 2 rfl).trans ((fT378.1 40 0 2 rfl).trans ((fT76.1 40 0 2 rfl).trans ((fT61.1 40 0 2 rfl).trans ((fT44.1 40 0 2 rfl).trans ((fT18.1 40 0 2 rfl).trans ey1.symm))))))))))
              obtain ⟨y454, ey454⟩ : ∃ y : Int32, y = ge T452 40 0 4 := ⟨_, rfl⟩
              have gy454 : 0 ≤ y454.toInt ∧ y454.toInt ≤ 300 := by rw [ey454]; exact RT452 40 _ _
              have q455 : (ge T452 40 0 4).toInt = y454.toInt := congrArg Int32.toInt (show ge T452 40 0 4 = y454 from ey454.symm)
              have q456 : byv T452 (ge T452 40 0 4) = byv T452 y454 := congrArg (byv T452) (show ge T452 40 0 4 = y454 from ey454.symm)
              have q457 := byv_fr FT452 rfl y454
              obtain ⟨y458, ey458⟩ : ∃ y : Int32, y = ge T452 40 0 6 := ⟨_, rfl⟩
              have q459 : (ge T452 40 0 6).toInt = y458.toInt := congrArg Int32.toInt (show ge T452 40 0 6 = y458 from ey458.symm)
              have q460 : (ge T452 40 0 5).toInt = y442.toInt := congrArg Int32.toInt (show ge T452 40 0 5 = y442 from ((fT452.1 40 0 5 rfl).trans ey442.symm))
              have q461 : (ge T452 40 0 2).toInt = y1.toInt := congrArg Int32.toInt (show ge T452 40 0 2 = y1 from ((fT452.1 40 0 2 rfl).trans ((fT434.1 40 0 2 rfl).trans ((fT417.1 40 0 2 rfl).trans ((fT393.1 40 0 2 rfl).trans ((fT378.1 40 0 2 rfl).trans ((fT76.1 40 0 2 rfl).trans ((fT61.1 40 0 2 rfl).trans ((fT44.1 40 0 2 rfl).trans ((fT18.1 40 0 2 rfl).trans ey1.symm))))))))))
              have q462 : (ge T452 40 0 4).toInt = y454.toInt := congrArg Int32.toInt (show ge T452 40 0 4 = y454 from ey454.symm)
              have q463 : byv T452 (ge T452 40 0 4) = byv T452 y454 := congrArg (byv T452) (show ge T452 40 0 4 = y454 from ey454.symm)
              have q464 := byv_fr FT452 rfl y454
              have q465 : (ge T452 40 0 6).toInt = y458.toInt := congrArg Int32.toInt (show ge T452 40 0 6 = y458 from ey458.symm)
              have q466 : (ge T452 40 0 5).toInt = y442.toInt := congrArg Int32.toInt (show ge T452 40 0 5 = y442 from ((fT452.1 40 0 5 rfl).trans ey442.symm))
              refine zk_bd (hR2 _ _ RT452 (by omega)) (fun v467 T468 h467 => ?_)
              obtain ⟨RT468, fT468, h467⟩ := h467
              have FT468 := FT452.tr (fT468.sub (m := 13421838336) (by decide))
              have q469 : (ge T468 40 0 2).toInt = y1.toInt := congrArg Int32.toInt (show ge T468 40 0 2 = y1 from ((fT468.1 40 0 2 rfl).trans ((fT452.1 40 0 2 rfl).trans ((fT434.1 40 0 2 rfl).trans ((fT417.1 40 0 2 rfl).trans ((fT393.1 40 0 2 rfl).trans ((fT378.1 40 0 2 rfl).trans ((fT76.1 40 0 2 rfl).trans ((fT61.1 40 0 2 rfl).trans ((fT44.1 40 0 2 rfl).trans ((fT18.1 40 0 2 rfl).trans ey1.symm)))))))))))
              obtain ⟨y470, ey470⟩ : ∃ y : Int32, y = ge T468 40 0 4 := ⟨_, rfl⟩
              have gy470 : 0 ≤ y470.toInt ∧ y470.toInt ≤ 300 := by rw [ey470]; exact RT468 40 _ _
              have q471 : (ge T468 40 0 4).toInt = y470.toInt := congrArg Int32.toInt (show ge T468 40 0 4 = y470 from ey470.symm)
              have q472 : byv T468 (ge T468 40 0 4) = byv T468 y470 := congrArg (byv T468) (show ge T468 40 0 4 = y470 from ey470.symm)
              have q473 := byv_fr FT468 rfl y470
              obtain ⟨y474, ey474⟩ : ∃ y : Int32, y = ge T468 40 0 6 := ⟨_, rfl⟩
              have q475 : (ge T468 40 0 6).toInt = y474.toInt := congrArg Int32.toInt (show ge T468 40 0 6 = y474 from ey474.symm)
              obtain ⟨y476, ey476⟩ : ∃ y : Int32, y = ge T468 40 0 5 := ⟨_, rfl⟩
              have gy476 : 0 ≤ y476.toInt ∧ y476.toInt ≤ 7 := by rw [ey476]; exact RT468 40 _ _
              have q477 : (ge T468 40 0 5).toInt = y476.toInt := congrArg Int32.toInt (show ge T468 40 0 5 = y476 from ey476.symm)
              refine zk_le (fun c478 => ?_) (fun c478 => ?_)
              ·
                unfold B_X7_unit_164
                refine zk_eq (fun c479 => ?_) (fun c479 => ?_)
                ·
                  exact False.elim (by omega)
                ·
                  unfold B_X7_unit_174
                  unfold B_X7_unit_176
                  have q480 : (ge T468 40 0 2).toInt = y1.toInt := congrArg Int32.toInt (show ge T468 40 0 2 = y1 from ((fT468.1 40 0 2 rfl).trans ((fT452.1 40 0 2 rfl).trans ((fT434.1 40 0 2 rfl).trans ((fT417.1 40 0 2 rfl).trans ((fT393.1 40 0 2 rfl).trans ((fT378.1 40 0 2 rfl).trans ((fT76.1 40 0 2 rfl).trans ((fT61.1 40 0 2 rfl).trans ((fT44.1 40 0 2 rfl).trans ((fT18.1 40 0 2 rfl).trans ey1.symm)))))))))))
                  have q481 : (ge T468 40 0 4).toInt = y470.toInt := congrArg Int32.toInt (show ge T468 40 0 4 = y470 from ey470.symm)
                  have q482 : byv T468 (ge T468 40 0 4) = byv T468 y470 := congrArg (byv T468) (show ge T468 40 0 4 = y470 from ey470.symm)
                  have q483 := byv_fr FT468 rfl y470
                  have q484 : (ge T468 40 0 6).toInt = y474.toInt := congrArg Int32.toInt (show ge T468 40 0 6 = y474 from ey474.symm)
                  have q485 : (ge T468 40 0 5).toInt = y476.toInt := congrArg Int32.toInt (show ge T468 40 0 5 = y476 from ey476.symm)
                  refine zk_bd (s_F_X7_sign _ _ RT468 (by omega)) (fun v486 T487 h486 => ?_)
                  obtain ⟨RT487, fT487, h486⟩ := h486
                  have FT487 := FT468.tr (fT487.sub (m := 13421838336) (by decide))
                  have q488 : (ge T487 40 0 2).toInt = y1.toInt := congrArg Int32.toInt (show ge T487 40 0 2 = y1 from ((fT487.1 40 0 2 rfl).trans ((fT468.1 40 0 2 rfl).trans ((fT452.1 40 0 2 rfl).trans ((fT434.1 40 0 2 rfl).trans ((fT417.1 40 0 2 rfl).trans ((fT393.1 40 0 2 rfl).trans ((fT378.1 40 0 2 rfl).trans ((fT76.1 40 0 2 rfl).trans ((fT61.1 40 0 2 rfl).trans ((fT44.1 40 0 2 rfl).trans ((fT18.1 40 0 2 rfl).trans ey1.symm))))))))))))
                  obtain ⟨y489, ey489⟩ : ∃ y : Int32, y = ge T487 40 0 4 := ⟨_, rfl⟩
                  have gy489 : 0 ≤ y489.toInt ∧ y489.toInt ≤ 300 := by rw [ey489]; exact RT487 40 _ _
                  have q490 : (ge T487 40 0 4).toInt = y489.toInt := congrArg Int32.toInt (show ge T487 40 0 4 = y489 from ey489.symm)
                  have q491 : byv T487 (ge T487 40 0 4) = byv T487 y489 := congrArg (byv T487) (show ge T487 40 0 4 = y489 from ey489.symm)
                  have q492 := byv_fr FT487 rfl y489
                  obtain ⟨y493, ey493⟩ : ∃ y : Int32, y = ge T487 40 0 6 := ⟨_, rfl⟩
                  have q494 : (ge T487 40 0 6).toInt = y493.toInt := congrArg Int32.toInt (show ge T487 40 0 6 = y493 from ey493.symm)
                  have q495 : (ge T487 40 0 5).toInt = y476.toInt := congrArg Int32.toInt (show ge T487 40 0 5 = y476 from ((fT487.1 40 0 5 rfl).trans ey476.symm))
                  refine zk_ivq (x := y476) ((fT487.1 40 0 5 rfl).trans ey476.symm) ?_
                  refine zk_iv fun x496 e496 => ?_
                  have gx496 : x496.toInt = y476.toInt - (1 : Int32).toInt := by rw [e496]; exact ti_sub (by omega) (by omega)
                  refine zk_sv fun S497 E497 => ?_
                  have RS497 : RI S497 := by rw [E497]; exact RT487.wr (show (0 : Int) ≤ x496.toInt by omega) (show x496.toInt ≤ 7 by omega)
                  have FS497 : Fr 13421838336 S0 S497 := by rw [E497]; exact FT487.wr (k := 32) rfl rfl
                  have q498 : (ge S497 40 0 2).toInt = y1.toInt := congrArg Int32.toInt (show ge S497 40 0 2 = y1 from (by rw [E497]; exact (ge_puj (by decide)).trans ((fT487.1 40 0 2 rfl).trans ((fT468.1 40 0 2 rfl).trans ((fT452.1 40 0 2 rfl).trans ((fT434.1 40 0 2 rfl).trans ((fT417.1 40 0 2 rfl).trans ((fT393.1 40 0 2 rfl).trans ((fT378.1 40 0 2 rfl).trans ((fT76.1 40 0 2 rfl).trans ((fT61.1 40 0 2 rfl).trans ((fT44.1 40 0 2 rfl).trans ((fT18.1 40 0 2 rfl).trans ey1.symm)))))))))))))
                  have q499 : (ge S497 40 0 4).toInt = y489.toInt := congrArg Int32.toInt (show ge S497 40 0 4 = y489 from (by rw [E497]; exact (ge_puj (by decide)).trans ey489.symm))
                  have q500 : byv S497 (ge S497 40 0 4) = byv S497 y489 := congrArg (byv S497) (show ge S497 40 0 4 = y489 from (by rw [E497]; exact (ge_puj (by decide)).trans ey489.symm))
                  have q501 := byv_fr FS497 rfl y489
                  have q502 : (ge S497 40 0 6).toInt = y493.toInt := congrArg Int32.toInt (show ge S497 40 0 6 = y493 from (by rw [E497]; exact (ge_puj (by decide)).trans ey493.symm))
                  have q503 : (ge S497 40 0 5).toInt = x496.toInt := congrArg Int32.toInt (show ge S497 40 0 5 = x496 from (by rw [E497]; exact ge_pus))
                  exact zk_some ⟨RS497, FS497, by omega⟩
              ·
                unfold B_X7_unit_164
                refine zk_eq (fun c504 => ?_) (fun c504 => ?_)
                ·
                  unfold B_X7_unit_174
                  unfold B_X7_unit_176
                  have q505 : (ge T468 40 0 2).toInt = y1.toInt := congrArg Int32.toInt (show ge T468 40 0 2 = y1 from ((fT468.1 40 0 2 rfl).trans ((fT452.1 40 0 2 rfl).trans ((fT434.1 40 0 2 rfl).trans ((fT417.1 40 0 2 rfl).trans ((fT393.1 40 0 2 rfl).trans ((fT378.1 40 0 2 rfl).trans ((fT76.1 40 0 2 rfl).trans ((fT61.1 40 0 2 rfl).trans ((fT44.1 40 0 2 rfl).trans ((fT18.1 40 0 2 rfl).trans ey1.symm)))))))))))
                  have q506 : (ge T468 40 0 4).toInt = y470.toInt := congrArg Int32.toInt (show ge T468 40 0 4 = y470 from ey470.symm)
                  have q507 : byv T468 (ge T468 40 0 4) = byv T468 y470 := congrArg (byv T468) (show ge T468 40 0 4 = y470 from ey470.symm)
                  have q508 := byv_fr FT468 rfl y470
                  have q509 : (ge T468 40 0 6).toInt = y474.toInt := congrArg Int32.toInt (show ge T468 40 0 6 = y474 from ey474.symm)
                  have q510 : (ge T468 40 0 5).toInt = y476.toInt := congrArg Int32.toInt (show ge T468 40 0 5 = y476 from ey476.symm)
                  refine zk_bd (s_F_X7_sign _ _ RT468 (by omega)) (fun v511 T512 h511 => ?_)
                  obtain ⟨RT512, fT512, h511⟩ := h511
                  have FT512 := FT468.tr (fT512.sub (m := 13421838336) (by decide))
                  have q513 : (ge T512 40 0 2).toInt = y1.toInt := congrArg Int32.toInt (show ge T512 40 0 2 = y1 from ((fT512.1 40 0 2 rfl).trans ((fT468.1 40 0 2 rfl).trans ((fT452.1 40 0 2 rfl).trans ((fT434.1 40 0 2 rfl).trans ((fT417.1 40 0 2 rfl).trans ((fT393.1 40 0 2 rfl).trans ((fT378.1 40 0 2 rfl).trans ((fT76.1 40 0 2 rfl).trans ((fT61.1 40 0 2 rfl).trans ((fT44.1 40 0 2 rfl).trans ((fT18.1 40 0 2 rfl).trans ey1.symm))))))))))))
                  obtain ⟨y514, ey514⟩ : ∃ y : Int32, y = ge T512 40 0 4 := ⟨_, rfl⟩
                  have gy514 : 0 ≤ y514.toInt ∧ y514.toInt ≤ 300 := by rw [ey514]; exact RT512 40 _ _
                  have q515 : (ge T512 40 0 4).toInt = y514.toInt := congrArg Int32.toInt (show ge T512 40 0 4 = y514 from ey514.symm)
                  have q516 : byv T512 (ge T512 40 0 4) = byv T512 y514 := congrArg (byv T512) (show ge T512 40 0 4 = y514 from ey514.symm)
                  have q517 := byv_fr FT512 rfl y514
                  obtain ⟨y518, ey518⟩ : ∃ y : Int32, y = ge T512 40 0 6 := ⟨_, rfl⟩
                  have q519 : (ge T512 40 0 6).toInt = y518.toInt := congrArg Int32.toInt (show ge T512 40 0 6 = y518 from ey518.symm)
                  have q520 : (ge T512 40 0 5).toInt = y476.toInt := congrArg Int32.toInt (show ge T512 40 0 5 = y476 from ((fT512.1 40 0 5 rfl).trans ey476.symm))
                  refine zk_ivq (x := y476) ((fT512.1 40 0 5 rfl).trans ey476.symm) ?_
                  refine zk_iv fun x521 e521 => ?_
                  have gx521 : x521.toInt = y476.toInt - (1 : Int32).toInt := by rw [e521]; exact ti_sub (by omega) (by omega)
                  refine zk_sv fun S522 E522 => ?_
                  have RS522 : RI S522 := by rw [E522]; exact RT512.wr (show (0 : Int) ≤ x521.toInt by omega) (show x521.toInt ≤ 7 by omega)
                  have FS522 : Fr 13421838336 S0 S522 := by rw [E522]; exact FT512.wr (k := 32) rfl rfl
                  have q523 : (ge S522 40 0 2).toInt = y1.toInt := congrArg Int32.toInt (show ge S522 40 0 2 = y1 from (by rw [E522]; exact (ge_puj (by decide)).trans ((fT512.1 40 0 2 rfl).trans ((fT468.1 40 0 2 rfl).trans ((fT452.1 40 0 2 rfl).trans ((fT434.1 40 0 2 rfl).trans ((fT417.1 40 0 2 rfl).trans ((fT393.1 40 0 2 rfl).trans ((fT378.1 40 0 2 rfl).trans ((fT76.1 40 0 2 rfl).trans ((fT61.1 40 0 2 rfl).trans ((fT44.1 40 0 2 rfl).trans ((fT18.1 40 0 2 rfl).trans ey1.symm)))))))))))))
                  have q524 : (ge S522 40 0 4).toInt = y514.toInt := congrArg Int32.toInt (show ge S522 40 0 4 = y514 from (by rw [E522]; exact (ge_puj (by decide)).trans ey514.symm))
                  have q525 : byv S522 (ge S522 40 0 4) = byv S522 y514 := congrArg (byv S522) (show ge S522 40 0 4 = y514 from (by rw [E522]; exact (ge_puj (by decide)).trans ey514.symm))
                  have q526 := byv_fr FS522 rfl y514
                  have q527 : (ge S522 40 0 6).toInt = y518.toInt := congrArg Int32.toInt (show ge S522 40 0 6 = y518 from (by rw [E522]; exact (ge_puj (by decide)).trans ey518.symm))
                  have q528 : (ge S522 40 0 5).toInt = x521.toInt := congrArg Int32.toInt (show ge S522 40 0 5 = x521 from (by rw [E522]; exact ge_pus))
                  exact zk_some ⟨RS522, FS522, by omega⟩
                ·
                  exact False.elim (by omega)
          ·
            refine zk_ivq (x := y395) ey395.symm ?_
            have q529 : (ge T393 40 0 2).toInt = y1.toInt := congrArg Int32.toInt (show ge T393 40 0 2 = y1 from ((fT393.1 40 0 2 rfl).trans ((fT378.1 40 0 2 rfl).trans ((fT76.1 40 0 2 rfl).trans ((fT61.1 40 0 2 rfl).trans ((fT44.1 40 0 2 rfl).trans ((fT18.1 40 0 2 rfl).trans ey1.symm)))))))
            have q530 : (ge T393 40 0 4).toInt = y395.toInt := congrArg Int32.toInt (show ge T393 40 0 4 = y395 from ey395.symm)
            have q531 : byv T393 (ge T393 40 0 4) = byv T393 y395 := congrArg (byv T393) (show ge T393 40 0 4 = y395 from ey395.symm)
            have q532 := byv_fr FT393 rfl y395
            have q533 : (ge T393 40 0 6).toInt = y6.toInt := congrArg Int32.toInt (show ge T393 40 0 6 = y6 from ((fT393.1 40 0 6 rfl).trans ((fT378.1 40 0 6 rfl).trans ((fT76.1 40 0 6 rfl).trans ((fT61.1 40 0 6 rfl).trans ((fT44.1 40 0 6 rfl).trans ((fT18.1 40 0 6 rfl).trans ey6.symm)))))))
            have q534 : (ge T393 40 0 5).toInt = y8.toInt := congrArg Int32.toInt (show ge T393 40 0 5 = y8 from ((fT393.1 40 0 5 rfl).trans ((fT378.1 40 0 5 rfl).trans ((fT76.1 40 0 5 rfl).trans ((fT61.1 40 0 5 rfl).trans ((fT44.1 40 0 5 rfl).trans ((fT18.1 40 0 5 rfl).trans ey8.symm)))))))
            refine zk_bd (s_F_X7_wrong _ _ _ RT393 (by omega)) (fun v535 T536 h535 => ?_)
            obtain ⟨RT536, fT536, h535⟩ := h535
            have FT536 := FT393.tr (fT536.sub (m := 13421838336) (by decide))
            have q537 : (ge T536 40 0 2).toInt = y1.toInt := congrArg Int32.toInt (show ge T536 40 0 2 = y1 from ((fT536.1 40 0 2 rfl).trans ((fT393.1 40 0 2 rfl).trans ((fT378.1 40 0 2 rfl).trans ((fT76.1 40 0 2 rfl).trans ((fT61.1 40 0 2 rfl).trans ((fT44.1 40 0 2 rfl).trans ((fT18.1 40 0 2 rfl).trans ey1.symm))))))))
            have q538 : (ge T536 40 0 4).toInt = y395.toInt := congrArg Int32.toInt (show ge T536 40 0 4 = y395 from ((fT536.1 40 0 4 rfl).trans ey395.symm))
            have q539 : byv T536 (ge T536 40 0 4) = byv T536 y395 := congrArg (byv T536) (show ge T536 40 0 4 = y395 from ((fT536.1 40 0 4 rfl).trans ey395.symm))
            have q540 := byv_fr FT536 rfl y395
            obtain ⟨y541, ey541⟩ : ∃ y : Int32, y = ge T536 40 0 6 := ⟨_, rfl⟩
            have q542 : (ge T536 40 0 6).toInt = y541.toInt := congrArg Int32.toInt (show ge T536 40 0 6 = y541 from ey541.symm)
            have q543 : (ge T536 40 0 5).toInt = y8.toInt := congrArg Int32.toInt (show ge T536 40 0 5 = y8 from ((fT536.1 40 0 5 rfl).trans ((fT393.1 40 0 5 rfl).trans ((fT378.1 40 0 5 rfl).trans ((fT76.1 40 0 5 rfl).trans ((fT61.1 40 0 5 rfl).trans ((fT44.1 40 0 5 rfl).trans ((fT18.1 40 0 5 rfl).trans ey8.symm))))))))
            have q544 : (ge T536 40 0 2).toInt = y1.toInt := congrArg Int32.toInt (show ge T536 40 0 2 = y1 from ((fT536.1 40 0 2 rfl).trans ((fT393.1 40 0 2 rfl).trans ((fT378.1 40 0 2 rfl).trans ((fT76.1 40 0 2 rfl).trans ((fT61.1 40 0 2 rfl).trans ((fT44.1 40 0 2 rfl).trans ((fT18.1 40 0 2 rfl).trans ey1.symm))))))))
            have q545 : (ge T536 40 0 4).toInt = y395.toInt := congrArg Int32.toInt (show ge T536 40 0 4 = y395 from ((fT536.1 40 0 4 rfl).trans ey395.symm))
            have q546 : byv T536 (ge T536 40 0 4) = byv T536 y395 := congrArg (byv T536) (show ge T536 40 0 4 = y395 from ((fT536.1 40 0 4 rfl).trans ey395.symm))
            have q547 := byv_fr FT536 rfl y395
            have q548 : (ge T536 40 0 6).toInt = y541.toInt := congrArg Int32.toInt (show ge T536 40 0 6 = y541 from ey541.symm)
            have q549 : (ge T536 40 0 5).toInt = y8.toInt := congrArg Int32.toInt (show ge T536 40 0 5 = y8 from ((fT536.1 40 0 5 rfl).trans ((fT393.1 40 0 5 rfl).trans ((fT378.1 40 0 5 rfl).trans ((fT76.1 40 0 5 rfl).trans ((fT61.1 40 0 5 rfl).trans ((fT44.1 40 0 5 rfl).trans ((fT18.1 40 0 5 rfl).trans ey8.symm))))))))
            exact zk_some ⟨RT536, FT536, by omega⟩
      ·
        have q550 : (ge T44 40 0 2).toInt = y1.toInt := congrArg Int32.toInt (show ge T44 40 0 2 = y1 from ((fT44.1 40 0 2 rfl).trans ((fT18.1 40 0 2 rfl).trans ey1.symm)))
        have q551 : (ge T44 40 0 4).toInt = y46.toInt := congrArg Int32.toInt (show ge T44 40 0 4 = y46 from ey46.symm)
        have q552 : byv T44 (ge T44 40 0 4) = byv T44 y46 := congrArg (byv T44) (show ge T44 40 0 4 = y46 from ey46.symm)
        have q553 := byv_fr FT44 rfl y46
        have q554 : (ge T44 40 0 6).toInt = y6.toInt := congrArg Int32.toInt (show ge T44 40 0 6 = y6 from ((fT44.1 40 0 6 rfl).trans ((fT18.1 40 0 6 rfl).trans ey6.symm)))
        have q555 : (ge T44 40 0 5).toInt = y8.toInt := congrArg Int32.toInt (show ge T44 40 0 5 = y8 from ((fT44.1 40 0 5 rfl).trans ((fT18.1 40 0 5 rfl).trans ey8.symm)))
        refine zk_bd (s_F_X7_skipWord _ RT44) (fun v556 T557 h556 => ?_)
        obtain ⟨RT557, fT557, h556⟩ := h556
        have FT557 := FT44.tr (fT557.sub (m := 13421838336) (by decide))
        have q558 : (ge T557 40 0 2).toInt = y1.toInt := congrArg Int32.toInt (show ge T557 40 0 2 = y1 from ((fT557.1 40 0 2 rfl).trans ((fT44.1 40 0 2 rfl).trans ((fT18.1 40 0 2 rfl).trans ey1.symm))))
        obtain ⟨y559, ey559⟩ : ∃ y : Int32, y = ge T557 40 0 4 := ⟨_, rfl⟩
        have gy559 : 0 ≤ y559.toInt ∧ y559.toInt ≤ 300 := by rw [ey559]; exact RT557 40 _ _
        have q560 : (ge T557 40 0 4).toInt = y559.toInt := congrArg Int32.toInt (show ge T557 40 0 4 = y559 from ey559.symm)
        have q561 : byv T557 (ge T557 40 0 4) = byv T557 y559 := congrArg (byv T557) (show ge T557 40 0 4 = y559 from ey559.symm)
        have q562 := byv_fr FT557 rfl y559
        have q563 : (ge T557 40 0 6).toInt = y6.toInt := congrArg Int32.toInt (show ge T557 40 0 6 = y6 from ((fT557.1 40 0 6 rfl).trans ((fT44.1 40 0 6 rfl).trans ((fT18.1 40 0 6 rfl).trans ey6.symm))))
        have q564 : (ge T557 40 0 5).toInt = y8.toInt := congrArg Int32.toInt (show ge T557 40 0 5 = y8 from ((fT557.1 40 0 5 rfl).trans ((fT44.1 40 0 5 rfl).trans ((fT18.1 40 0 5 rfl).trans ey8.symm))))
        refine zk_gd ⟨by omega, by omega⟩ ?_
        refine zk_iv fun x565 e565 => ?_
        have q566 : (ge T557 40 0 2).toInt = y1.toInt := congrArg Int32.toInt (show ge T557 40 0 2 = y1 from ((fT557.1 40 0 2 rfl).trans ((fT44.1 40 0 2 rfl).trans ((fT18.1 40 0 2 rfl).trans ey1.symm))))
        have q567 : (ge T557 40 0 4).toInt = y559.toInt := congrArg Int32.toInt (show ge T557 40 0 4 = y559 from ey559.symm)
        have q568 : byv T557 (ge T557 40 0 4) = byv T557 y559 := congrArg (byv T557) (show ge T557 40 0 4 = y559 from ey559.symm)
        have q569 := byv_fr FT557 rfl y559
        have q570 : (ge T557 40 0 6).toInt = y6.toInt := congrArg Int32.toInt (show ge T557 40 0 6 = y6 from ((fT557.1 40 0 6 rfl).trans ((fT44.1 40 0 6 rfl).trans ((fT18.1 40 0 6 rfl).trans ey6.symm))))
        have q571 : (ge T557 40 0 5).toInt = y8.toInt := congrArg Int32.toInt (show ge T557 40 0 5 = y8 from ((fT557.1 40 0 5 rfl).trans ((fT44.1 40 0 5 rfl).trans ((fT18.1 40 0 5 rfl).trans ey8.symm))))
        exact zk_some ⟨RT557, FT557, by omega⟩
    ·
      have q572 : (ge T18 40 0 2).toInt = y1.toInt := congrArg Int32.toInt (show ge T18 40 0 2 = y1 from ((fT18.1 40 0 2 rfl).trans ey1.symm))
      have q573 : (ge T18 40 0 4).toInt = y20.toInt := congrArg Int32.toInt (show ge T18 40 0 4 = y20 from ey20.symm)
      have q574 : byv T18 (ge T18 40 0 4) = byv T18 y20 := congrArg (byv T18) (show ge T18 40 0 4 = y20 from ey20.symm)
      have q575 := byv_fr FT18 rfl y20
      have q576 : (ge T18 40 0 6).toInt = y6.toInt := congrArg Int32.toInt (show ge T18 40 0 6 = y6 from ((fT18.1 40 0 6 rfl).trans ey6.symm))
      have q577 : (ge T18 40 0 5).toInt = y8.toInt := congrArg Int32.toInt (show ge T18 40 0 5 = y8 from ((fT18.1 40 0 5 rfl).trans ey8.symm))
      refine zk_bd (s_F_X7_number _ RT18) (fun v578 T579 h578 => ?_)
      obtain ⟨RT579, fT579, h578⟩ := h578
      have FT579 := FT18.tr (fT579.sub (m := 13421838336) (by decide))
      have q580 : (ge T579 40 0 2).toInt = y1.toInt := congrArg Int32.toInt (show ge T579 40 0 2 = y1 from ((fT579.1 40 0 2 rfl).trans ((fT18.1 40 0 2 rfl).trans ey1.symm)))
      obtain ⟨y581, ey581⟩ : ∃ y : Int32, y = ge T579 40 0 4 := ⟨_, rfl⟩
      have gy581 : 0 ≤ y581.toInt ∧ y581.toInt ≤ 300 := by rw [ey581]; exact RT579 40 _ _
      have q582 : (ge T579 40 0 4).toInt = y581.toInt := congrArg Int32.toInt (show ge T579 40 0 4 = y581 from ey581.symm)
      have q583 : byv T579 (ge T579 40 0 4) = byv T579 y581 := congrArg (byv T579) (show ge T579 40 0 4 = y581 from ey581.symm)
      have q584 := byv_fr FT579 rfl y581
      obtain ⟨y585, ey585⟩ : ∃ y : Int32, y = ge T579 40 0 6 := ⟨_, rfl⟩
      have q586 : (ge T579 40 0 6).toInt = y585.toInt := congrArg Int32.toInt (show ge T579 40 0 6 = y585 from ey585.symm)
      have q587 : (ge T579 40 0 5).toInt = y8.toInt := congrArg Int32.toInt (show ge T579 40 0 5 = y8 from ((fT579.1 40 0 5 rfl).trans ((fT18.1 40 0 5 rfl).trans ey8.symm)))
      have q588 : (ge T579 40 0 2).toInt = y1.toInt := congrArg Int32.toInt (show ge T579 40 0 2 = y1 from ((fT579.1 40 0 2 rfl).trans ((fT18.1 40 0 2 rfl).trans ey1.symm)))
      have q589 : (ge T579 40 0 4).toInt = y581.toInt := congrArg Int32.toInt (show ge T579 40 0 4 = y581 from ey581.symm)
      have q590 : byv T579 (ge T579 40 0 4) = byv T579 y581 := congrArg (byv T579) (show ge T579 40 0 4 = y581 from ey581.symm)
      have q591 := byv_fr FT579 rfl y581
      have q592 : (ge T579 40 0 6).toInt = y585.toInt := congrArg Int32.toInt (show ge T579 40 0 6 = y585 from ey585.symm)
      have q593 : (ge T579 40 0 5).toInt = y8.toInt := congrArg Int32.toInt (show ge T579 40 0 5 = y8 from ((fT579.1 40 0 5 rfl).trans ((fT18.1 40 0 5 rfl).trans ey8.symm)))
      exact zk_some ⟨RT579, FT579, by omega⟩
  ·
    have q594 : (ge S0 40 0 2).toInt = y1.toInt := congrArg Int32.toInt (show ge S0 40 0 2 = y1 from ey1.symm)
    have q595 : (ge S0 40 0 4).toInt = y3.toInt := congrArg Int32.toInt (show ge S0 40 0 4 = y3 from ey3.symm)
    have q596 : byv S0 (ge S0 40 0 4) = byv S0 y3 := congrArg (byv S0) (show ge S0 40 0 4 = y3 from ey3.symm)
    have q597 : (ge S0 40 0 6).toInt = y6.toInt := congrArg Int32.toInt (show ge S0 40 0 6 = y6 from ey6.symm)
    have q598 : (ge S0 40 0 5).toInt = y8.toInt := congrArg Int32.toInt (show ge S0 40 0 5 = y8 from ey8.symm)
    exact zk_some ⟨RS0, FS0, by omega⟩
theorem s_B_X7_product_9 (R : Nat → Int32 → fS → Option (Int32 × fS)) (d : Int) (hR0 : ∀ (q : Int32) (S : fS), RI S → ((¬ (ge S 40 0 6).toInt = 0 ∧ 1 ≤ d) ∨ ((ge S 40 0 5).toInt ≤ 6 ∧ 3 * (7 - (ge S 40 0 5).toInt) + 1 ≤ d)) → zk (R 0 q S) (fun v S9 => RI S9 ∧ Fr 13421838336 S S9 ∧ ((ge S 40 0 4).toInt ≤ (ge S9 40 0 4).toInt ∧ (ge S9 40 0 5).toInt = (ge S 40 0 5).toInt ∧ (¬ (ge S 40 0 6).toInt = 0 → ¬ (ge S9 40 0 6).toInt = 0)))) (hR1 : ∀ (q : Int32) (S : fS), RI S → ((¬ (ge S 40 0 6).toInt = 0 ∧ 2 ≤ d) ∨ ((ge S 40 0 5).toInt ≤ 6 ∧ 3 * (7 - (ge S 40 0 5).toInt) + 2 ≤ d)) → zk (R 1 q S) (fun v S9 => RI S9 ∧ Fr 13421838336 S S9 ∧ ((ge S 40 0 4).toInt ≤ (ge S9 40 0 4).toInt ∧ (ge S9 40 0 5).toInt = (ge S 40 0 5).toInt ∧ (¬ (ge S 40 0 6).toInt = 0 → ¬ (ge S9 40 0 6).toInt = 0)))) (hR2 : ∀ (q : Int32) (S : fS), RI S → ((¬ (ge S 40 0 6).toInt = 0 ∧ 3 ≤ d) ∨ ((ge S 40 0 5).toInt ≤ 6 ∧ 3 * (7 - (ge S 40 0 5).toInt) + 3 ≤ d)) → zk (R 2 q S) (fun v S9 => RI S9 ∧ Fr 13421838336 S S9 ∧ ((ge S 40 0 4).toInt ≤ (ge S9 40 0 4).toInt ∧ (ge S9 40 0 5).toInt = (ge S 40 0 5).toInt ∧ (¬ (ge S 40 0 6).toInt = 0 → ¬ (ge S9 40 0 6).toInt = 0)))) (hR3 : ∀ (q : Int32) (S : fS), RI S → ((¬ (ge S 40 0 6).toInt = 0 ∧ 1 ≤ d) ∨ ((ge S 40 0 5).toInt ≤ 6 ∧ 3 * (7 - (ge S 40 0 5).toInt) + 4 ≤ d)) → zk (R 3 q S) (fun v S9 => RI S9 ∧ Fr 13421838336 S S9 ∧ ((ge S 40 0 4).toInt ≤ (ge S9 40 0 4).toInt ∧ (ge S9 40 0 5).toInt = (ge S 40 0 5).toInt ∧ (¬ (ge S 40 0 6).toInt = 0 → ¬ (ge S9 40 0 6).toInt = 0) ∧ 0 ≤ v.toInt ∧ v.toInt ≤ 1))) (hR4 : ∀ (q : Int32) (S : fS), RI S → ((¬ (ge S 40 0 6).toInt = 0 ∧ 2 ≤ d) ∨ ((ge S 40 0 5).toInt ≤ 6 ∧ 3 * (7 - (ge S 40 0 5).toInt) + 5 ≤ d)) → zk (R 4 q S) (fun v S9 => RI S9 ∧ Fr 13421838336 S S9 ∧ ((ge S 40 0 4).toInt ≤ (ge S9 40 0 4).toInt ∧ (ge S9 40 0 5).toInt = (ge S 40 0 5).toInt ∧ (¬ (ge S 40 0 6).toInt = 0 → ¬ (ge S9 40 0 6).toInt = 0) ∧ 0 ≤ v.toInt ∧ v.toInt ≤ 1))) (hR5 : ∀ (q : Int32) (S : fS), RI S → ((¬ (ge S 40 0 6).toInt = 0 ∧ 3 ≤ d) ∨ ((ge S 40 0 5).toInt ≤ 6 ∧ 3 * (7 - (ge S 40 0 5).toInt) + 6 ≤ d)) → zk (R 5 q S) (fun v S9 => RI S9 ∧ Fr 13421838336 S S9 ∧ ((ge S 40 0 4).toInt ≤ (ge S9 40 0 4).toInt ∧ (ge S9 40 0 5).toInt = (ge S 40 0 5).toInt ∧ (¬ (ge S 40 0 6).toInt = 0 → ¬ (ge S9 40 0 6).toInt = 0) ∧ 0 ≤ v.toInt ∧ v.toInt ≤ 1))) (z : Int32) (S : fS) (RS : RI S) (hi : True ∧ ((¬ (ge S 40 0 6).toInt = 0 ∧ 1 ≤ d) ∨ ((ge S 40 0 5).toInt ≤ 6 ∧ 3 * (7 - (ge S 40 0 5).toInt) + 1 ≤ d))) (hm : (300 - (ge S 40 0 4).toInt).toNat < 4294967296) : zk (lp (B_X7_product_9 R) fuel z S) (fun v S9 => RI S9 ∧ Fr 13421838336 S S9 ∧ ((ge S 40 0 4).toInt ≤ (ge S9 40 0 4).toInt ∧ (ge S9 40 0 5).toInt = (ge S 40 0 5).toInt ∧ (¬ (ge S 40 0 6).toInt = 0 → ¬ (ge S9 40 0 6).toInt = 0))) := by
  have l0 : (0 : Int32).toInt = 0 := by decide
  have l1 : (1 : Int32).toInt = 1 := by decide
  have l4 : (4 : Int32).toInt = 4 := by decide
  have l6 : (6 : Int32).toInt = 6 := by decide
  have l42 : (42 : Int32).toInt = 42 := by decide
  have l47 : (47 : Int32).toInt = 47 := by decide
  refine zk_lp (fun z S => RI S ∧ (True ∧ ((¬ (ge S 40 0 6).toInt = 0 ∧ 1 ≤ d) ∨ ((ge S 40 0 5).toInt ≤ 6 ∧ 3 * (7 - (ge S 40 0 5).toInt) + 1 ≤ d)))) (fun z S => (300 - (ge S 40 0 4).toInt).toNat) (fun z S (v : Int32) S9 => RI S9 ∧ Fr 13421838336 S S9 ∧ ((ge S 40 0 4).toInt ≤ (ge S9 40 0 4).toInt ∧ (ge S9 40 0 5).toInt = (ge S 40 0 5).toInt ∧ (¬ (ge S 40 0 6).toInt = 0 → ¬ (ge S9 40 0 6).toInt = 0))) ?_ z S ⟨RS, hi⟩ hm
  clear RS hi hm
  intro k a1 S hI hk
  obtain ⟨RS, hI⟩ := hI
  have FS : Fr 13421838336 S S := Fr.rf
  unfold B_X7_product_9
  obtain ⟨y1, ey1⟩ : ∃ y : Int32, y = ge S 40 0 2 := ⟨_, rfl⟩
  have gy1 : 0 ≤ y1.toInt ∧ y1.toInt ≤ 300 := by rw [ey1]; exact RS 40 _ _
  have q2 : (ge S 40 0 2).toInt = y1.toInt := congrArg Int32.toInt (show ge S 40 0 2 = y1 from ey1.symm)
  obtain ⟨y3, ey3⟩ : ∃ y : Int32, y = ge S 40 0 4 := ⟨_, rfl⟩
  have gy3 : 0 ≤ y3.toInt ∧ y3.toInt ≤ 300 := by rw [ey3]; exact RS 40 _ _
  have q4 : (ge S 40 0 4).toInt = y3.toInt := congrArg Int32.toInt (show ge S 40 0 4 = y3 from ey3.symm)
  obtain ⟨y5, ey5⟩ : ∃ y : Int32, y = ge S 40 0 6 := ⟨_, rfl⟩
  have q6 : (ge S 40 0 6).toInt = y5.toInt := congrArg Int32.toInt (show ge S 40 0 6 = y5 from ey5.symm)
  obtain ⟨y7, ey7⟩ : ∃ y : Int32, y = ge S 40 0 5 := ⟨_, rfl⟩
  have gy7 : 0 ≤ y7.toInt ∧ y7.toInt ≤ 7 := by rw [ey7]; exact RS 40 _ _
  have q8 : (ge S 40 0 5).toInt = y7.toInt := congrArg Int32.toInt (show ge S 40 0 5 = y7 from ey7.symm)
  refine zk_ivq (x := y5) ey5.symm ?_
  have b9 := ti_bd y5
  refine zk_eq (fun c10 => ?_) (fun c10 => ?_)
  ·
    refine zk_ivq (x := y3) ey3.symm ?_
    refine zk_bd (s_F_X7_byteAt _ _ RS (by omega)) (fun v11 T12 h11 => ?_)
    obtain ⟨rfl, h11⟩ := h11
    have h11b := byv_bd RS y3
    rw [← h11] at h11b
    have q13 : (ge S 40 0 2).toInt = y1.toInt := congrArg Int32.toInt (show ge S 40 0 2 = y1 from ey1.symm)
    have q14 : (ge S 40 0 4).toInt = y3.toInt := congrArg Int32.toInt (show ge S 40 0 4 = y3 from ey3.symm)
    have q15 : (ge S 40 0 6).toInt = y5.toInt := congrArg Int32.toInt (show ge S 40 0 6 = y5 from ey5.symm)
    have q16 : (ge S 40 0 5).toInt = y7.toInt := congrArg Int32.toInt (show ge S 40 0 5 = y7 from ey7.symm)
    refine zk_eq (fun c17 => ?_) (fun c17 => ?_)
    ·
      unfold B_X7_product_42
      refine zk_ivq (x := y3) ey3.symm ?_
      refine zk_bd (s_F_X7_byteAt _ _ RS (by omega)) (fun v18 T19 h18 => ?_)
      obtain ⟨rfl, h18⟩ := h18
      have h18b := byv_bd RS y3
      rw [← h18] at h18b
      have q20 : (ge S 40 0 2).toInt = y1.toInt := congrArg Int32.toInt (show ge S 40 0 2 = y1 from ey1.symm)
      have q21 : (ge S 40 0 4).toInt = y3.toInt := congrArg Int32.toInt (show ge S 40 0 4 = y3 from ey3.symm)
      have q22 : (ge S 40 0 6).toInt = y5.toInt := congrArg Int32.toInt (show ge S 40 0 6 = y5 from ey5.symm)
      have q23 : (ge S 40 0 5).toInt = y7.toInt := congrArg Int32.toInt (show ge S 40 0 5 = y7 from ey7.symm)
      refine zk_ivq (x := y3) ey3.symm ?_
      refine zk_iv fun x24 e24 => ?_
      have gx24 : x24.toInt = y3.toInt + (1 : Int32).toInt := by rw [e24]; exact ti_add (by omega) (by omega)
      refine zk_sv fun S25 E25 => ?_
      have RS25 : RI S25 := by rw [E25]; exact RS.wr (show (0 : Int) ≤ x24.toInt by omega) (show x24.toInt ≤ 300 by omega)
      have FS25 : Fr 13421838336 S S25 := by rw [E25]; exact FS.wr (k := 29) rfl rfl
      have q26 : (ge S25 40 0 2).toInt = y1.toInt := congrArg Int32.toInt (show ge S25 40 0 2 = y1 from (by rw [E25]; exact (ge_puj (by decide)).trans ey1.symm))
      have q27 : (ge S25 40 0 4).toInt = x24.toInt := congrArg Int32.toInt (show ge S25 40 0 4 = x24 from (by rw [E25]; exact ge_pus))
      have q28 : (ge S25 40 0 6).toInt = y5.toInt := congrArg Int32.toInt (show ge S25 40 0 6 = y5 from (by rw [E25]; exact (ge_puj (by decide)).trans ey5.symm))
      have q29 : (ge S25 40 0 5).toInt = y7.toInt := congrArg Int32.toInt (show ge S25 40 0 5 = y7 from (by rw [E25]; exact (ge_puj (by decide)).trans ey7.symm))
      refine zk_bd (hR0 _ _ RS25 (by omega)) (fun v30 T31 h30 => ?_)
      obtain ⟨RT31, fT31, h30⟩ := h30
      have FT31 := FS25.tr (fT31.sub (m := 13421838336) (by decide))
      have q32 : (ge T31 40 0 2).toInt = y1.toInt := congrArg Int32.toInt (show ge T31 40 0 2 = y1 from ((fT31.1 40 0 2 rfl).trans (by rw [E25]; exact (ge_puj (by decide)).trans ey1.symm)))
      obtain ⟨y33, ey33⟩ : ∃ y : Int32, y = ge T31 40 0 4 := ⟨_, rfl⟩
      have gy33 : 0 ≤ y33.toInt ∧ y33.toInt ≤ 300 := by rw [ey33]; exact RT31 40 _ _
      have q34 : (ge T31 40 0 4).toInt = y33.toInt := congrArg Int32.toInt (show ge T31 40 0 4 = y33 from ey33.symm)
      obtain ⟨y35, ey35⟩ : ∃ y : Int32, y = ge T31 40 0 6 := ⟨_, rfl⟩
      have q36 : (ge T31 40 0 6).toInt = y35.toInt := congrArg Int32.toInt (show ge T31 40 0 6 = y35 from ey35.symm)
      obtain ⟨y37, ey37⟩ : ∃ y : Int32, y = ge T31 40 0 5 := ⟨_, rfl⟩
      have gy37 : 0 ≤ y37.toInt ∧ y37.toInt ≤ 7 := by rw [ey37]; exact RT31 40 _ _
      have q38 : (ge T31 40 0 5).toInt = y37.toInt := congrArg Int32.toInt (show ge T31 40 0 5 = y37 from ey37.symm)
      refine zk_eq (fun c39 => ?_) (fun c39 => ?_)
      ·
        refine zk_iv fun x40 e40 => ?_
        unfold B_X7_product_89
        have q41 : (ge T31 40 0 2).toInt = y1.toInt := congrArg Int32.toInt (show ge T31 40 0 2 = y1 from ((fT31.1 40 0 2 rfl).trans (by rw [E25]; exact (ge_puj (by decide)).trans ey1.symm)))
        have q42 : (ge T31 40 0 4).toInt = y33.toInt := congrArg Int32.toInt (show ge T31 40 0 4 = y33 from ey33.symm)
        have q43 : (ge T31 40 0 6).toInt = y35.toInt := congrArg Int32.toInt (show ge T31 40 0 6 = y35 from ey35.symm)
        have q44 : (ge T31 40 0 5).toInt = y37.toInt := congrArg Int32.toInt (show ge T31 40 0 5 = y37 from ey37.symm)
        refine zk_bd (s_F_X7_blanks _ RT31) (fun v45 T46 h45 => ?_)
        obtain ⟨RT46, fT46, h45⟩ := h45
        have FT46 := FT31.tr (fT46.sub (m := 13421838336) (by decide))
        have q47 : (ge T46 40 0 2).toInt = y1.toInt := congrArg Int32.toInt (show ge T46 40 0 2 = y1 from ((fT46.1 40 0 2 rfl).trans ((fT31.1 40 0 2 rfl).trans (by rw [E25]; exact (ge_puj (by decide)).trans ey1.symm))))
        obtain ⟨y48, ey48⟩ : ∃ y : Int32, y = ge T46 40 0 4 := ⟨_, rfl⟩
        have gy48 : 0 ≤ y48.toInt ∧ y48.toInt ≤ 300 := by rw [ey48]; exact RT46 40 _ _
        have q49 : (ge T46 40 0 4).toInt = y48.toInt := congrArg Int32.toInt (show ge T46 40 0 4 = y48 from ey48.symm)
        have q50 : (ge T46 40 0 6).toInt = y35.toInt := congrArg Int32.toInt (show ge T46 40 0 6 = y35 from ((fT46.1 40 0 6 rfl).trans ey35.symm))
        have q51 : (ge T46 40 0 5).toInt = y37.toInt := congrArg Int32.toInt (show ge T46 40 0 5 = y37 from ((fT46.1 40 0 5 rfl).trans ey37.symm))
        have q52 : (ge T46 40 0 2).toInt = y1.toInt := congrArg Int32.toInt (show ge T46 40 0 2 = y1 from ((fT46.1 40 0 2 rfl).trans ((fT31.1 40 0 2 rfl).trans (by rw [E25]; exact (ge_puj (by decide)).trans ey1.symm))))
        have q53 : (ge T46 40 0 4).toInt = y48.toInt := congrArg Int32.toInt (show ge T46 40 0 4 = y48 from ey48.symm)
        have q54 : (ge T46 40 0 6).toInt = y35.toInt := congrArg Int32.toInt (show ge T46 40 0 6 = y35 from ((fT46.1 40 0 6 rfl).trans ey35.symm))
        have q55 : (ge T46 40 0 5).toInt = y37.toInt := congrArg Int32.toInt (show ge T46 40 0 5 = y37 from ((fT46.1 40 0 5 rfl).trans ey37.symm))
        refine zk_imp (hk x40 _ ⟨RT46, trivial⟩ (by omega)) (fun v56 T57 h56 => ?_)
        obtain ⟨RT57, FT57, h56⟩ := h56
        exact ⟨RT57, FT46.tr FT57, by omega⟩
      ·
        refine zk_eq (fun c58 => ?_) (fun c58 => ?_)
        ·
          unfold B_X7_product_89
          have q59 : (ge T31 40 0 2).toInt = y1.toInt := congrArg Int32.toInt (show ge T31 40 0 2 = y1 from ((fT31.1 40 0 2 rfl).trans (by rw [E25]; exact (ge_puj (by decide)).trans ey1.symm)))
          have q60 : (ge T31 40 0 4).toInt = y33.toInt := congrArg Int32.toInt (show ge T31 40 0 4 = y33 from ey33.symm)
          have q61 : (ge T31 40 0 6).toInt = y35.toInt := congrArg Int32.toInt (show ge T31 40 0 6 = y35 from ey35.symm)
          have q62 : (ge T31 40 0 5).toInt = y37.toInt := congrArg Int32.toInt (show ge T31 40 0 5 = y37 from ey37.symm)
          refine zk_bd (s_F_X7_blanks _ RT31) (fun v63 T64 h63 => ?_)
          obtain ⟨RT64, fT64, h63⟩ := h63
          have FT64 := FT31.tr (fT64.sub (m := 13421838336) (by decide))
          have q65 : (ge T64 40 0 2).toInt = y1.toInt := congrArg Int32.toInt (show ge T64 40 0 2 = y1 from ((fT64.1 40 0 2 rfl).trans ((fT31.1 40 0 2 rfl).trans (by rw [E25]; exact (ge_puj (by decide)).trans ey1.symm))))
          obtain ⟨y66, ey66⟩ : ∃ y : Int32, y = ge T64 40 0 4 := ⟨_, rfl⟩
          have gy66 : 0 ≤ y66.toInt ∧ y66.toInt ≤ 300 := by rw [ey66]; exact RT64 40 _ _
          have q67 : (ge T64 40 0 4).toInt = y66.toInt := congrArg Int32.toInt (show ge T64 40 0 4 = y66 from ey66.symm)
          have q68 : (ge T64 40 0 6).toInt = y35.toInt := congrArg Int32.toInt (show ge T64 40 0 6 = y35 from ((fT64.1 40 0 6 rfl).trans ey35.symm))
          have q69 : (ge T64 40 0 5).toInt = y37.toInt := congrArg Int32.toInt (show ge T64 40 0 5 = y37 from ((fT64.1 40 0 5 rfl).trans ey37.symm))
          have q70 : (ge T64 40 0 2).toInt = y1.toInt := congrArg Int32.toInt (show ge T64 40 0 2 = y1 from ((fT64.1 40 0 2 rfl).trans ((fT31.1 40 0 2 rfl).trans (by rw [E25]; exact (ge_puj (by decide)).trans ey1.symm))))
          have q71 : (ge T64 40 0 4).toInt = y66.toInt := congrArg Int32.toInt (show ge T64 40 0 4 = y66 from ey66.symm)
          have q72 : (ge T64 40 0 6).toInt = y35.toInt := congrArg Int32.toInt (show ge T64 40 0 6 = y35 from ((fT64.1 40 0 6 rfl).trans ey35.symm))
          have q73 : (ge T64 40 0 5).toInt = y37.toInt := congrArg Int32.toInt (show ge T64 40 0 5 = y37 from ((fT64.1 40 0 5 rfl).trans ey37.symm))
          refine zk_imp (hk (0 : Int32) _ ⟨RT64, trivial⟩ (by omega)) (fun v74 T75 h74 => ?_)
          obtain ⟨RT75, FT75, h74⟩ := h74
          exact ⟨RT75, FT64.tr FT75, by omega⟩
        ·
          refine zk_gd (zn0 (by omega)) ?_
          refine zk_iv fun x76 e76 => ?_
          unfold B_X7_product_89
          have q77 : (ge T31 40 0 2).toInt = y1.toInt := congrArg Int32.toInt (show ge T31 40 0 2 = y1 from ((fT31.1 40 0 2 rfl).trans (by rw [E25]; exact (ge_puj (by decide)).trans ey1.symm)))
          have q78 : (ge T31 40 0 4).toInt = y33.toInt := congrArg Int32.toInt (show ge T31 40 0 4 = y33 from ey33.symm)
          have q79 : (ge T31 40 0 6).toInt = y35.toInt := congrArg Int32.toInt (show ge T31 40 0 6 = y35 from ey35.symm)
          have q80 : (ge T31 40 0 5).toInt = y37.toInt := congrArg Int32.toInt (show ge T31 40 0 5 = y37 from ey37.symm)
          refine zk_bd (s_F_X7_blanks _ RT31) (fun v81 T82 h81 => ?_)
          obtain ⟨RT82, fT82, h81⟩ := h81
          have FT82 := FT31.tr (fT82.sub (m := 13421838336) (by decide))
          have q83 : (ge T82 40 0 2).toInt = y1.toInt := congrArg Int32.toInt (show ge T82 40 0 2 = y1 from ((fT82.1 40 0 2 rfl).trans ((fT31.1 40 0 2 rfl).trans (by rw [E25]; exact (ge_puj (by decide)).trans ey1.symm))))
          obtain ⟨y84, ey84⟩ : ∃ y : Int32, y = ge T82 40 0 4 := ⟨_, rfl⟩
          have gy84 : 0 ≤ y84.toInt ∧ y84.toInt ≤ 300 := by rw [ey84]; exact RT82 40 _ _
          have q85 : (ge T82 40 0 4).toInt = y84.toInt := congrArg Int32.toInt (show ge T82 40 0 4 = y84 from ey84.symm)
          have q86 : (ge T82 40 0 6).toInt = y35.toInt := congrArg Int32.toInt (show ge T82 40 0 6 = y35 from ((fT82.1 40 0 6 rfl).trans ey35.symm))
          have q87 : (ge T82 40 0 5).toInt = y37.toInt := congrArg Int32.toInt (show ge T82 40 0 5 = y37 from ((fT82.1 40 0 5 rfl).trans ey37.symm))
          have q88 : (ge T82 40 0 2).toInt = y1.toInt := congrArg Int32.toInt (show ge T82 40 0 2 = y1 from ((fT82.1 40 0 2 rfl).trans ((fT31.1 40 0 2 rfl).trans (by rw [E25]; exact (ge_puj (by decide)).trans ey1.symm))))
          have q89 : (ge T82 40 0 4).toInt = y84.toInt := congrArg Int32.toInt (show ge T82 40 0 4 = y84 from ey84.symm)
          have q90 : (ge T82 40 0 6).toInt = y35.toInt := congrArg Int32.toInt (show ge T82 40 0 6 = y35 from ((fT82.1 40 0 6 rfl).trans ey35.symm))
          have q91 : (ge T82 40 0 5).toInt = y37.toInt := congrArg Int32.toInt (show ge T82 40 0 5 = y37 from ((fT82.1 40 0 5 rfl).trans ey37.symm))
          refine zk_imp (hk x76 _ ⟨RT82, trivial⟩ (by omega)) (fun v92 T93 h92 => ?_)
          obtain ⟨RT93, FT93, h92⟩ := h92
          exact ⟨RT93, FT82.tr FT93, by omega⟩
    ·
      refine zk_ivq (x := y3) ey3.symm ?_
      refine zk_bd (s_F_X7_byteAt _ _ RS (by omega)) (fun v94 T95 h94 => ?_)
      obtain ⟨rfl, h94⟩ := h94
      have h94b := byv_bd RS y3
      rw [← h94] at h94b
      have q96 : (ge S 40 0 2).toInt = y1.toInt := congrArg Int32.toInt (show ge S 40 0 2 = y1 from ey1.symm)
      have q97 : (ge S 40 0 4).toInt = y3.toInt := congrArg Int32.toInt (show ge S 40 0 4 = y3 from ey3.symm)
      have q98 : (ge S 40 0 6).toInt = y5.toInt := congrArg Int32.toInt (show ge S 40 0 6 = y5 from ey5.symm)
      have q99 : (ge S 40 0 5).toInt = y7.toInt := congrArg Int32.toInt (show ge S 40 0 5 = y7 from ey7.symm)
      refine zk_eq (fun c100 => ?_) (fun c100 => ?_)
      ·
        unfold B_X7_product_42
        refine zk_ivq (x := y3) ey3.symm ?_
        refine zk_bd (s_F_X7_byteAt _ _ RS (by omega)) (fun v101 T102 h101 => ?_)
        obtain ⟨rfl, h101⟩ := h101
        have h101b := byv_bd RS y3
        rw [← h101] at h101b
        have q103 : (ge S 40 0 2).toInt = y1.toInt := congrArg Int32.toInt (show ge S 40 0 2 = y1 from ey1.symm)
        have q104 : (ge S 40 0 4).toInt = y3.toInt := congrArg Int32.toInt (show ge S 40 0 4 = y3 from ey3.symm)
        have q105 : (ge S 40 0 6).toInt = y5.toInt := congrArg Int32.toInt (show ge S 40 0 6 = y5 from ey5.symm)
        have q106 : (ge S 40 0 5).toInt = y7.toInt := congrArg Int32.toInt (show ge S 40 0 5 = y7 from ey7.symm)
        refine zk_ivq (x := y3) ey3.symm ?_
        refine zk_iv fun x107 e107 => ?_
        have gx107 : x107.toInt = y3.toInt + (1 : Int32).toInt := by rw [e107]; exact ti_add (by omega) (by omega)
        refine zk_sv fun S108 E108 => ?_
        have RS108 : RI S108 := by rw [E108]; exact RS.wr (show (0 : Int) ≤ x107.toInt by omega) (show x107.toInt ≤ 300 by omega)
        have FS108 : Fr 13421838336 S S108 := by rw [E108]; exact FS.wr (k := 29) rfl rfl
        have q109 : (ge S108 40 0 2).toInt = y1.toInt := congrArg Int32.toInt (show ge S108 40 0 2 = y1 from (by rw [E108]; exact (ge_puj (by decide)).trans ey1.symm))
        have q110 : (ge S108 40 0 4).toInt = x107.toInt := congrArg Int32.toInt (show ge S108 40 0 4 = x107 from (by rw [E108]; exact ge_pus))
        have q111 : (ge S108 40 0 6).toInt = y5.toInt := congrArg Int32.toInt (show ge S108 40 0 6 = y5 from (by rw [E108]; exact (ge_puj (by decide)).trans ey5.symm))
        have q112 : (ge S108 40 0 5).toInt = y7.toInt := congrArg Int32.toInt (show ge S108 40 0 5 = y7 from (by rw [E108]; exact (ge_puj (by decide)).trans ey7.symm))
        refine zk_bd (hR0 _ _ RS108 (by omega)) (fun v113 T114 h113 => ?_)
        obtain ⟨RT114, fT114, h113⟩ := h113
        have FT114 := FS108.tr (fT114.sub (m := 13421838336) (by decide))
        have q115 : (ge T114 40 0 2).toInt = y1.toInt := congrArg Int32.toInt (show ge T114 40 0 2 = y1 from ((fT114.1 40 0 2 rfl).trans (by rw [E108]; exact (ge_puj (by decide)).trans ey1.symm)))
        obtain ⟨y116, ey116⟩ : ∃ y : Int32, y = ge T114 40 0 4 := ⟨_, rfl⟩
        have gy116 : 0 ≤ y116.toInt ∧ y116.toInt ≤ 300 := by rw [ey116]; exact RT114 40 _ _
        have q117 : (ge T114 40 0 4).toInt = y116.toInt := congrArg Int32.toInt (show ge T114 40 0 4 = y116 from ey116.symm)
        obtain ⟨y118, ey118⟩ : ∃ y : Int32, y = ge T114 40 0 6 := ⟨_, rfl⟩
        have q119 : (ge T114 40 0 6).toInt = y118.toInt := congrArg Int32.toInt (show ge T114 40 0 6 = y118 from ey118.symm)
        obtain ⟨y120, ey120⟩ : ∃ y : Int32, y = ge T114 40 0 5 := ⟨_, rfl⟩
        have gy120 : 0 ≤ y120.toInt ∧ y120.toInt ≤ 7 := by rw [ey120]; exact RT114 40 _ _
        have q121 : (ge T114 40 0 5).toInt = y120.toInt := congrArg Int32.toInt (show ge T114 40 0 5 = y120 from ey120.symm)
        refine zk_eq (fun c122 => ?_) (fun c122 => ?_)
        ·
          refine zk_iv fun x123 e123 => ?_
          unfold B_X7_product_89
          have q124 : (ge T114 40 0 2).toInt = y1.toInt := congrArg Int32.toInt (show ge T114 40 0 2 = y1 from ((fT114.1 40 0 2 rfl).trans (by rw [E108]; exact (ge_puj (by decide)).trans ey1.symm)))
          have q125 : (ge T114 40 0 4).toInt = y116.toInt := congrArg Int32.toInt (show ge T114 40 0 4 = y116 from ey116.symm)
          have q126 : (ge T114 40 0 6).toInt = y118.toInt := congrArg Int32.toInt (show ge T114 40 0 6 = y118 from ey118.symm)
          have q127 : (ge T114 40 0 5).toInt = y120.toInt := congrArg Int32.toInt (show ge T114 40 0 5 = y120 from ey120.symm)
          refine zk_bd (s_F_X7_blanks _ RT114) (fun v128 T129 h128 => ?_)
          obtain ⟨RT129, fT129, h128⟩ := h128
          have FT129 := FT114.tr (fT129.sub (m := 13421838336) (by decide))
          have q130 : (ge T129 40 0 2).toInt = y1.toInt := congrArg Int32.toInt (show ge T129 40 0 2 = y1 from ((fT129.1 40 0 2 rfl).trans ((fT114.1 40 0 2 rfl).trans (by rw [E108]; exact (ge_puj (by decide)).trans ey1.symm))))
          obtain ⟨y131, ey131⟩ : ∃ y : Int32, y = ge T129 40 0 4 := ⟨_, rfl⟩
          have gy131 : 0 ≤ y131.toInt ∧ y131.toInt ≤ 300 := by rw [ey131]; exact RT129 40 _ _
          have q132 : (ge T129 40 0 4).toInt = y131.toInt := congrArg Int32.toInt (show ge T129 40 0 4 = y131 from ey131.symm)
          have q133 : (ge T129 40 0 6).toInt = y118.toInt := congrArg Int32.toInt (show ge T129 40 0 6 = y118 from ((fT129.1 40 0 6 rfl).trans ey118.symm))
          have q134 : (ge T129 40 0 5).toInt = y120.toInt := congrArg Int32.toInt (show ge T129 40 0 5 = y120 from ((fT129.1 40 0 5 rfl).trans ey120.symm))
          have q135 : (ge T129 40 0 2).toInt = y1.toInt := congrArg Int32.toInt (show ge T129 40 0 2 = y1 from ((fT129.1 40 0 2 rfl).trans ((fT114.1 40 0 2 rfl).trans (by rw [E108]; exact (ge_puj (by decide)).trans ey1.symm))))
          have q136 : (ge T129 40 0 4).toInt = y131.toInt := congrArg Int32.toInt (show ge T129 40 0 4 = y131 from ey131.symm)
          have q137 : (ge T129 40 0 6).toInt = y118.toInt := congrArg Int32.toInt (show ge T129 40 0 6 = y118 from ((fT129.1 40 0 6 rfl).trans ey118.symm))
          have q138 : (ge T129 40 0 5).toInt = y120.toInt := congrArg Int32.toInt (show ge T129 40 0 5 = y120 from ((fT129.1 40 0 5 rfl).trans ey120.symm))
          refine zk_imp (hk x123 _ ⟨RT129, trivial⟩ (by omega)) (fun v139 T140 h139 => ?_)
          obtain ⟨RT140, FT140, h139⟩ := h139
          exact ⟨RT140, FT129.tr FT140, by omega⟩
        ·
          refine zk_eq (fun c141 => ?_) (fun c141 => ?_)
          ·
            unfold B_X7_product_89
            have q142 : (ge T114 40 0 2).toInt = y1.toInt := congrArg Int32.toInt (show ge T114 40 0 2 = y1 from ((fT114.1 40 0 2 rfl).trans (by rw [E108]; exact (ge_puj (by decide)).trans ey1.symm)))
            have q143 : (ge T114 40 0 4).toInt = y116.toInt := congrArg Int32.toInt (show ge T114 40 0 4 = y116 from ey116.symm)
            have q144 : (ge T114 40 0 6).toInt = y118.toInt := congrArg Int32.toInt (show ge T114 40 0 6 = y118 from ey118.symm)
            have q145 : (ge T114 40 0 5).toInt = y120.toInt := congrArg Int32.toInt (show ge T114 40 0 5 = y120 from ey120.symm)
            refine zk_bd (s_F_X7_blanks _ RT114) (fun v146 T147 h146 => ?_)
            obtain ⟨RT147, fT147, h146⟩ := h146
            have FT147 := FT114.tr (fT147.sub (m := 13421838336) (by decide))
            have q148 : (ge T147 40 0 2).toInt = y1.toInt := congrArg Int32.toInt (show ge T147 40 0 2 = y1 from ((fT147.1 40 0 2 rfl).trans ((fT114.1 40 0 2 rfl).trans (by rw [E108]; exact (ge_puj (by decide)).trans ey1.symm))))
            obtain ⟨y149, ey149⟩ : ∃ y : Int32, y = ge T147 40 0 4 := ⟨_, rfl⟩
            have gy149 : 0 ≤ y149.toInt ∧ y149.toInt ≤ 300 := by rw [ey149]; exact RT147 40 _ _
            have q150 : (ge T147 40 0 4).toInt = y149.toInt := congrArg Int32.toInt (show ge T147 40 0 4 = y149 from ey149.symm)
            have q151 : (ge T147 40 0 6).toInt = y118.toInt := congrArg Int32.toInt (show ge T147 40 0 6 = y118 from ((fT147.1 40 0 6 rfl).trans ey118.symm))
            have q152 : (ge T147 40 0 5).toInt = y120.toInt := congrArg Int32.toInt (show ge T147 40 0 5 = y120 from ((fT147.1 40 0 5 rfl).trans ey120.symm))
            have q153 : (ge T147 40 0 2).toInt = y1.toInt := congrArg Int32.toInt (show ge T147 40 0 2 = y1 from ((fT147.1 40 0 2 rfl).trans ((fT114.1 40 0 2 rfl).trans (by rw [E108]; exact (ge_puj (by decide)).trans ey1.symm))))
            have q154 : (ge T147 40 0 4).toInt = y149.toInt := congrArg Int32.toInt (show ge T147 40 0 4 = y149 from ey149.symm)
            have q155 : (ge T147 40 0 6).toInt = y118.toInt := congrArg Int32.toInt (show ge T147 40 0 6 = y118 from ((fT147.1 40 0 6 rfl).trans ey118.symm))
            have q156 : (ge T147 40 0 5).toInt = y120.toInt := congrArg Int32.toInt (show ge T147 40 0 5 = y120 from ((fT147.1 40 0 5 rfl).trans ey120.symm))
            refine zk_imp (hk (0 : Int32) _ ⟨RT147, trivial⟩ (by omega)) (fun v157 T158 h157 => ?_)
            obtain ⟨RT158, FT158, h157⟩ := h157
            exact ⟨RT158, FT147.tr FT158, by omega⟩
          ·
            refine zk_gd (zn0 (by omega)) ?_
            refine zk_iv fun x159 e159 => ?_
            unfold B_X7_product_89
            have q160 : (ge T114 40 0 2).toInt = y1.toInt := congrArg Int32.toInt (show ge T114 40 0 2 = y1 from ((fT114.1 40 0 2 rfl).trans (by rw [E108]; exact (ge_puj (by decide)).trans ey1.symm)))
            have q161 : (ge T114 40 0 4).toInt = y116.toInt := congrArg Int32.toInt (show ge T114 40 0 4 = y116 from ey116.symm)
            have q162 : (ge T114 40 0 6).toInt = y118.toInt := congrArg Int32.toInt (show ge T114 40 0 6 = y118 from ey118.symm)
            have q163 : (ge T114 40 0 5).toInt = y120.toInt := congrArg Int32.toInt (show ge T114 40 0 5 = y120 from ey120.symm)
            refine zk_bd (s_F_X7_blanks _ RT114) (fun v164 T165 h164 => ?_)
            obtain ⟨RT165, fT165, h164⟩ := h164
            have FT165 := FT114.tr (fT165.sub (m := 13421838336) (by decide))
            have q166 : (ge T165 40 0 2).toInt = y1.toInt := congrArg Int32.toInt (show ge T165 40 0 2 = y1 from ((fT165.1 40 0 2 rfl).trans ((fT114.1 40 0 2 rfl).trans (by rw [E108]; exact (ge_puj (by decide)).trans ey1.symm))))
            obtain ⟨y167, ey167⟩ : ∃ y : Int32, y = ge T165 40 0 4 := ⟨_, rfl⟩
            have gy167 : 0 ≤ y167.toInt ∧ y167.toInt ≤ 300 := by rw [ey167]; exact RT165 40 _ _
            have q168 : (ge T165 40 0 4).toInt = y167.toInt := congrArg Int32.toInt (show ge T165 40 0 4 = y167 from ey167.symm)
            have q169 : (ge T165 40 0 6).toInt = y118.toInt := congrArg Int32.toInt (show ge T165 40 0 6 = y118 from ((fT165.1 40 0 6 rfl).trans ey118.symm))
            have q170 : (ge T165 40 0 5).toInt = y120.toInt := congrArg Int32.toInt (show ge T165 40 0 5 = y120 from ((fT165.1 40 0 5 rfl).trans ey120.symm))
            have q171 : (ge T165 40 0 2).toInt = y1.toInt := congrArg Int32.toInt (show ge T165 40 0 2 = y1 from ((fT165.1 40 0 2 rfl).trans ((fT114.1 40 0 2 rfl).trans (by rw [E108]; exact (ge_puj (by decide)).trans ey1.symm))))
            have q172 : (ge T165 40 0 4).toInt = y167.toInt := congrArg Int32.toInt (show ge T165 40 0 4 = y167 from ey167.symm)
            have q173 : (ge T165 40 0 6).toInt = y118.toInt := congrArg Int32.toInt (show ge T165 40 0 6 = y118 from ((fT165.1 40 0 6 rfl).trans ey118.symm))
            have q174 : (ge T165 40 0 5).toInt = y120.toInt := congrArg Int32.toInt (show ge T165 40 0 5 = y120 from ((fT165.1 40 0 5 rfl).trans ey120.symm))
            refine zk_imp (hk x159 _ ⟨RT165, trivial⟩ (by omega)) (fun v175 T176 h175 => ?_)
            obtain ⟨RT176, FT176, h175⟩ := h175
            exact ⟨RT176, FT165.tr FT176, by omega⟩
      ·
        have q177 : (ge S 40 0 2).toInt = y1.toInt := congrArg Int32.toInt (show ge S 40 0 2 = y1 from ey1.symm)
        have q178 : (ge S 40 0 4).toInt = y3.toInt := congrArg Int32.toInt (show ge S 40 0 4 = y3 from ey3.symm)
        have q179 : (ge S 40 0 6).toInt = y5.toInt := congrArg Int32.toInt (show ge S 40 0 6 = y5 from ey5.symm)
        have q180 : (ge S 40 0 5).toInt = y7.toInt := congrArg Int32.toInt (show ge S 40 0 5 = y7 from ey7.symm)
        exact zk_some ⟨RS, FS, by omega⟩
  ·
    have q181 : (ge S 40 0 2).toInt = y1.toInt := congrArg Int32.toInt (show ge S 40 0 2 = y1 from ey1.symm)
    have q182 : (ge S 40 0 4).toInt = y3.toInt := congrArg Int32.toInt (show ge S 40 0 4 = y3 from ey3.symm)
    have q183 : (ge S 40 0 6).toInt = y5.toInt := congrArg Int32.toInt (show ge S 40 0 6 = y5 from ey5.symm)
    have q184 : (ge S 40 0 5).toInt = y7.toInt := congrArg Int32.toInt (show ge S 40 0 5 = y7 from ey7.symm)
    exact zk_some ⟨RS, FS, by omega⟩
theorem s_N_X7_product (R : Nat → Int32 → fS → Option (Int32 × fS)) (d : Int) (hR0 : ∀ (q : Int32) (S : fS), RI S → ((¬ (ge S 40 0 6).toInt = 0 ∧ 1 ≤ d) ∨ ((ge S 40 0 5).toInt ≤ 6 ∧ 3 * (7 - (ge S 40 0 5).toInt) + 1 ≤ d)) → zk (R 0 q S) (fun v S9 => RI S9 ∧ Fr 13421838336 S S9 ∧ ((ge S 40 0 4).toInt ≤ (ge S9 40 0 4).toInt ∧ (ge S9 40 0 5).toInt = (ge S 40 0 5).toInt ∧ (¬ (ge S 40 0 6).toInt = 0 → ¬ (ge S9 40 0 6).toInt = 0)))) (hR1 : ∀ (q : Int32) (S : fS), RI S → ((¬ (ge S 40 0 6).toInt = 0 ∧ 2 ≤ d) ∨ ((ge S 40 0 5).toInt ≤ 6 ∧ 3 * (7 - (ge S 40 0 5).toInt) + 2 ≤ d)) → zk (R 1 q S) (fun v S9 => RI S9 ∧ Fr 13421838336 S S9 ∧ ((ge S 40 0 4).toInt ≤ (ge S9 40 0 4).toInt ∧ (ge S9 40 0 5).toInt = (ge S 40 0 5).toInt ∧ (¬ (ge S 40 0 6).toInt = 0 → ¬ (ge S9 40 0 6).toInt = 0)))) (hR2 : ∀ (q : Int32) (S : fS), RI S → ((¬ (ge S 40 0 6).toInt = 0 ∧ 3 ≤ d) ∨ ((ge S 40 0 5).toInt ≤ 6 ∧ 3 * (7 - (ge S 40 0 5).toInt) + 3 ≤ d)) → zk (R 2 q S) (fun v S9 => RI S9 ∧ Fr 13421838336 S S9 ∧ ((ge S 40 0 4).toInt ≤ (ge S9 40 0 4).toInt ∧ (ge S9 40 0 5).toInt = (ge S 40 0 5).toInt ∧ (¬ (ge S 40 0 6).toInt = 0 → ¬ (ge S9 40 0 6).toInt = 0)))) (hR3 : ∀ (q : Int32) (S : fS), RI S → ((¬ (ge S 40 0 6).toInt = 0 ∧ 1 ≤ d) ∨ ((ge S 40 0 5).toInt ≤ 6 ∧ 3 * (7 - (ge S 40 0 5).toInt) + 4 ≤ d)) → zk (R 3 q S) (fun v S9 => RI S9 ∧ Fr 13421838336 S S9 ∧ ((ge S 40 0 4).toInt ≤ (ge S9 40 0 4).toInt ∧ (ge S9 40 0 5).toInt = (ge S 40 0 5).toInt ∧ (¬ (ge S 40 0 6).toInt = 0 → ¬ (ge S9 40 0 6).toInt = 0) ∧ 0 ≤ v.toInt ∧ v.toInt ≤ 1))) (hR4 : ∀ (q : Int32) (S : fS), RI S → ((¬ (ge S 40 0 6).toInt = 0 ∧ 2 ≤ d) ∨ ((ge S 40 0 5).toInt ≤ 6 ∧ 3 * (7 - (ge S 40 0 5).toInt) + 5 ≤ d)) → zk (R 4 q S) (fun v S9 => RI S9 ∧ Fr 13421838336 S S9 ∧ ((ge S 40 0 4).toInt ≤ (ge S9 40 0 4).toInt ∧ (ge S9 40 0 5).toInt = (ge S 40 0 5).toInt ∧ (¬ (ge S 40 0 6).toInt = 0 → ¬ (ge S9 40 0 6).toInt = 0) ∧ 0 ≤ v.toInt ∧ v.toInt ≤ 1))) (hR5 : ∀ (q : Int32) (S : fS), RI S → ((¬ (ge S 40 0 6).toInt = 0 ∧ 3 ≤ d) ∨ ((ge S 40 0 5).toInt ≤ 6 ∧ 3 * (7 - (ge S 40 0 5).toInt) + 6 ≤ d)) → zk (R 5 q S) (fun v S9 => RI S9 ∧ Fr 13421838336 S S9 ∧ ((ge S 40 0 4).toInt ≤ (ge S9 40 0 4).toInt ∧ (ge S9 40 0 5).toInt = (ge S 40 0 5).toInt ∧ (¬ (ge S 40 0 6).toInt = 0 → ¬ (ge S9 40 0 6).toInt = 0) ∧ 0 ≤ v.toInt ∧ v.toInt ≤ 1))) (S0 : fS) (RS0 : RI S0) (hpr : ((¬ (ge S0 40 0 6).toInt = 0 ∧ 2 ≤ d + 1) ∨ ((ge S0 40 0 5).toInt ≤ 6 ∧ 3 * (7 - (ge S0 40 0 5).toInt) + 2 ≤ d + 1))) : zk (N_X7_product R S0) (fun v S9 => RI S9 ∧ Fr 13421838336 S0 S9 ∧ ((ge S0 40 0 4).toInt ≤ (ge S9 40 0 4).toInt ∧ (ge S9 40 0 5).toInt = (ge S0 40 0 5).toInt ∧ (¬ (ge S0 40 0 6).toInt = 0 → ¬ (ge S9 40 0 6).toInt = 0))) := by
  have l0 : (0 : Int32).toInt = 0 := by decide
  have FS0 : Fr 13421838336 S0 S0 := Fr.rf
  unfold N_X7_product
  obtain ⟨y1, ey1⟩ : ∃ y : Int32, y = ge S0 40 0 2 := ⟨_, rfl⟩
  have gy1 : 0 ≤ y1.toInt ∧ y1.toInt ≤ 300 := by rw [ey1]; exact RS0 40 _ _
  have q2 : (ge S0 40 0 2).toInt = y1.toInt := congrArg Int32.toInt (show ge S0 40 0 2 = y1 from ey1.symm)
  obtain ⟨y3, ey3⟩ : ∃ y : Int32, y = ge S0 40 0 4 := ⟨_, rfl⟩
  have gy3 : 0 ≤ y3.toInt ∧ y3.toInt ≤ 300 := by rw [ey3]; exact RS0 40 _ _
  have q4 : (ge S0 40 0 4).toInt = y3.toInt := congrArg Int32.toInt (show ge S0 40 0 4 = y3 from ey3.symm)
  have q5 : byv S0 (ge S0 40 0 4) = byv S0 y3 := congrArg (byv S0) (show ge S0 40 0 4 = y3 from ey3.symm)
  obtain ⟨y6, ey6⟩ : ∃ y : Int32, y = ge S0 40 0 6 := ⟨_, rfl⟩
  have q7 : (ge S0 40 0 6).toInt = y6.toInt := congrArg Int32.toInt (show ge S0 40 0 6 = y6 from ey6.symm)
  obtain ⟨y8, ey8⟩ : ∃ y : Int32, y = ge S0 40 0 5 := ⟨_, rfl⟩
  have gy8 : 0 ≤ y8.toInt ∧ y8.toInt ≤ 7 := by rw [ey8]; exact RS0 40 _ _
  have q9 : (ge S0 40 0 5).toInt = y8.toInt := congrArg Int32.toInt (show ge S0 40 0 5 = y8 from ey8.symm)
  have q10 : (ge S0 40 0 2).toInt = y1.toInt := congrArg Int32.toInt (show ge S0 40 0 2 = y1 from ey1.symm)
  have q11 : (ge S0 40 0 4).toInt = y3.toInt := congrArg Int32.toInt (show ge S0 40 0 4 = y3 from ey3.symm)
  have q12 : byv S0 (ge S0 40 0 4) = byv S0 y3 := congrArg (byv S0) (show ge S0 40 0 4 = y3 from ey3.symm)
  have q13 : (ge S0 40 0 6).toInt = y6.toInt := congrArg Int32.toInt (show ge S0 40 0 6 = y6 from ey6.symm)
  have q14 : (ge S0 40 0 5).toInt = y8.toInt := congrArg Int32.toInt (show ge S0 40 0 5 = y8 from ey8.symm)
  refine zk_bd (hR0 _ _ RS0 (by omega)) (fun v15 T16 h15 => ?_)
  obtain ⟨RT16, fT16, h15⟩ := h15
  have FT16 := FS0.tr (fT16.sub (m := 13421838336) (by decide))
  have q17 : (ge T16 40 0 2).toInt = y1.toInt := congrArg Int32.toInt (show ge T16 40 0 2 = y1 from ((fT16.1 40 0 2 rfl).trans ey1.symm))
  obtain ⟨y18, ey18⟩ : ∃ y : Int32, y = ge T16 40 0 4 := ⟨_, rfl⟩
  have gy18 : 0 ≤ y18.toInt ∧ y18.toInt ≤ 300 := by rw [ey18]; exact RT16 40 _ _
  have q19 : (ge T16 40 0 4).toInt = y18.toInt := congrArg Int32.toInt (show ge T16 40 0 4 = y18 from ey18.symm)
  have q20 : byv T16 (ge T16 40 0 4) = byv T16 y18 := congrArg (byv T16) (show ge T16 40 0 4 = y18 from ey18.symm)
  have q21 := byv_fr FT16 rfl y18
  obtain ⟨y22, ey22⟩ : ∃ y : Int32, y = ge T16 40 0 6 := ⟨_, rfl⟩
  have q23 : (ge T16 40 0 6).toInt = y22.toInt := congrArg Int32.toInt (show ge T16 40 0 6 = y22 from ey22.symm)
  obtain ⟨y24, ey24⟩ : ∃ y : Int32, y = ge T16 40 0 5 := ⟨_, rfl⟩
  have gy24 : 0 ≤ y24.toInt ∧ y24.toInt ≤ 7 := by rw [ey24]; exact RT16 40 _ _
  have q25 : (ge T16 40 0 5).toInt = y24.toInt := congrArg Int32.toInt (show ge T16 40 0 5 = y24 from ey24.symm)
  have q26 : (ge T16 40 0 2).toInt = y1.toInt := congrArg Int32.toInt (show ge T16 40 0 2 = y1 from ((fT16.1 40 0 2 rfl).trans ey1.symm))
  have q27 : (ge T16 40 0 4).toInt = y18.toInt := congrArg Int32.toInt (show ge T16 40 0 4 = y18 from ey18.symm)
  have q28 : byv T16 (ge T16 40 0 4) = byv T16 y18 := congrArg (byv T16) (show ge T16 40 0 4 = y18 from ey18.symm)
  have q29 := byv_fr FT16 rfl y18
  have q30 : (ge T16 40 0 6).toInt = y22.toInt := congrArg Int32.toInt (show ge T16 40 0 6 = y22 from ey22.symm)
  have q31 : (ge T16 40 0 5).toInt = y24.toInt := congrArg Int32.toInt (show ge T16 40 0 5 = y24 from ey24.symm)
  refine zk_bd (s_F_X7_blanks _ RT16) (fun v32 T33 h32 => ?_)
  obtain ⟨RT33, fT33, h32⟩ := h32
  have FT33 := FT16.tr (fT33.sub (m := 13421838336) (by decide))
  have q34 : (ge T33 40 0 2).toInt = y1.toInt := congrArg Int32.toInt (show ge T33 40 0 2 = y1 from ((fT33.1 40 0 2 rfl).trans ((fT16.1 40 0 2 rfl).trans ey1.symm)))
  obtain ⟨y35, ey35⟩ : ∃ y : Int32, y = ge T33 40 0 4 := ⟨_, rfl⟩
  have gy35 : 0 ≤ y35.toInt ∧ y35.toInt ≤ 300 := by rw [ey35]; exact RT33 40 _ _
  have q36 : (ge T33 40 0 4).toInt = y35.toInt := congrArg Int32.toInt (show ge T33 40 0 4 = y35 from ey35.symm)
  have q37 : byv T33 (ge T33 40 0 4) = byv T33 y35 := congrArg (byv T33) (show ge T33 40 0 4 = y35 from ey35.symm)
  have q38 := byv_fr FT33 rfl y35
  have q39 : (ge T33 40 0 6).toInt = y22.toInt := congrArg Int32.toInt (show ge T33 40 0 6 = y22 from ((fT33.1 40 0 6 rfl).trans ey22.symm))
  have q40 : (ge T33 40 0 5).toInt = y24.toInt := congrArg Int32.toInt (show ge T33 40 0 5 = y24 from ((fT33.1 40 0 5 rfl).trans ey24.symm))
  have q41 : (ge T33 40 0 2).toInt = y1.toInt := congrArg Int32.toInt (show ge T33 40 0 2 = y1 from ((fT33.1 40 0 2 rfl).trans ((fT16.1 40 0 2 rfl).trans ey1.symm)))
  have q42 : (ge T33 40 0 4).toInt = y35.toInt := congrArg Int32.toInt (show ge T33 40 0 4 = y35 from ey35.symm)
  have q43 : byv T33 (ge T33 40 0 4) = byv T33 y35 := congrArg (byv T33) (show ge T33 40 0 4 = y35 from ey35.symm)
  have q44 := byv_fr FT33 rfl y35
  have q45 : (ge T33 40 0 6).toInt = y22.toInt := congrArg Int32.toInt (show ge T33 40 0 6 = y22 from ((fT33.1 40 0 6 rfl).trans ey22.symm))
  have q46 : (ge T33 40 0 5).toInt = y24.toInt := congrArg Int32.toInt (show ge T33 40 0 5 = y24 from ((fT33.1 40 0 5 rfl).trans ey24.symm))
  refine zk_imp (s_B_X7_product_9 R d hR0 hR1 hR2 hR3 hR4 hR5 _ _ RT33 trivial (by omega)) (fun v47 T48 h47 => ?_)
  obtain ⟨RT48, fT48, h47⟩ := h47
  have FT48 := FT33.tr (fT48.sub (m := 13421838336) (by decide))
  have q49 : (ge T48 40 0 2).toInt = y1.toInt := congrArg Int32.toInt (show ge T48 40 0 2 = y1 from ((fT48.1 40 0 2 rfl).trans ((fT33.1 40 0 2 rfl).trans ((fT16.1 40 0 2 rfl).trans ey1.symm))))
  obtain ⟨y50, ey50⟩ : ∃ y : Int32, y = ge T48 40 0 4 := ⟨_, rfl⟩
  have gy50 : 0 ≤ y50.toInt ∧ y50.toInt ≤ 300 := by rw [ey50]; exact RT48 40 _ _
  have q51 : (ge T48 40 0 4).toInt = y50.toInt := congrArg Int32.toInt (show ge T48 40 0 4 = y50 from ey50.symm)
  have q52 : byv T48 (ge T48 40 0 4) = byv T48 y50 := congrArg (byv T48) (show ge T48 40 0 4 = y50 from ey50.symm)
  have q53 := byv_fr FT48 rfl y50
  obtain ⟨y54, ey54⟩ : ∃ y : Int32, y = ge T48 40 0 6 := ⟨_, rfl⟩
  have q55 : (ge T48 40 0 6).toInt = y54.toInt := congrArg Int32.toInt (show ge T48 40 0 6 = y54 from ey54.symm)
  obtain ⟨y56, ey56⟩ : ∃ y : Int32, y = ge T48 40 0 5 := ⟨_, rfl⟩
  have gy56 : 0 ≤ y56.toInt ∧ y56.toInt ≤ 7 := by rw [ey56]; exact RT48 40 _ _
  have q57 : (ge T48 40 0 5).toInt = y56.toInt := congrArg Int32.toInt (show ge T48 40 0 5 = y56 from ey56.symm)
  exact ⟨RT48, FT48, by omega⟩
theorem s_B_X7_sum_9 (R : Nat → Int32 → fS → Option (Int32 × fS)) (d : Int) (hR0 : ∀ (q : Int32) (S : fS), RI S → ((¬ (ge S 40 0 6).toInt = 0 ∧ 1 ≤ d) ∨ ((ge S 40 0 5).toInt ≤ 6 ∧ 3 * (7 - (ge S 40 0 5).toInt) + 1 ≤ d)) → zk (R 0 q S) (fun v S9 => RI S9 ∧ Fr 13421838336 S S9 ∧ ((ge S 40 0 4).toInt ≤ (ge S9 40 0 4).toInt ∧ (ge S9 40 0 5).toInt = (ge S 40 0 5).toInt ∧ (¬ (ge S 40 0 6).toInt = 0 → ¬ (ge S9 40 0 6).toInt = 0)))) (hR1 : ∀ (q : Int32) (S : fS), RI S → ((¬ (ge S 40 0 6).toInt = 0 ∧ 2 ≤ d) ∨ ((ge S 40 0 5).toInt ≤ 6 ∧ 3 * (7 - (ge S 40 0 5).toInt) + 2 ≤ d)) → zk (R 1 q S) (fun v S9 => RI S9 ∧ Fr 13421838336 S S9 ∧ ((ge S 40 0 4).toInt ≤ (ge S9 40 0 4).toInt ∧ (ge S9 40 0 5).toInt = (ge S 40 0 5).toInt ∧ (¬ (ge S 40 0 6).toInt = 0 → ¬ (ge S9 40 0 6).toInt = 0)))) (hR2 : ∀ (q : Int32) (S : fS), RI S → ((¬ (ge S 40 0 6).toInt = 0 ∧ 3 ≤ d) ∨ ((ge S 40 0 5).toInt ≤ 6 ∧ 3 * (7 - (ge S 40 0 5).toInt) + 3 ≤ d)) → zk (R 2 q S) (fun v S9 => RI S9 ∧ Fr 13421838336 S S9 ∧ ((ge S 40 0 4).toInt ≤ (ge S9 40 0 4).toInt ∧ (ge S9 40 0 5).toInt = (ge S 40 0 5).toInt ∧ (¬ (ge S 40 0 6).toInt = 0 → ¬ (ge S9 40 0 6).toInt = 0)))) (hR3 : ∀ (q : Int32) (S : fS), RI S → ((¬ (ge S 40 0 6).toInt = 0 ∧ 1 ≤ d) ∨ ((ge S 40 0 5).toInt ≤ 6 ∧ 3 * (7 - (ge S 40 0 5).toInt) + 4 ≤ d)) → zk (R 3 q S) (fun v S9 => RI S9 ∧ Fr 13421838336 S S9 ∧ ((ge S 40 0 4).toInt ≤ (ge S9 40 0 4).toInt ∧ (ge S9 40 0 5).toInt = (ge S 40 0 5).toInt ∧ (¬ (ge S 40 0 6).toInt = 0 → ¬ (ge S9 40 0 6).toInt = 0) ∧ 0 ≤ v.toInt ∧ v.toInt ≤ 1))) (hR4 : ∀ (q : Int32) (S : fS), RI S → ((¬ (ge S 40 0 6).toInt = 0 ∧ 2 ≤ d) ∨ ((ge S 40 0 5).toInt ≤ 6 ∧ 3 * (7 - (ge S 40 0 5).toInt) + 5 ≤ d)) → zk (R 4 q S) (fun v S9 => RI S9 ∧ Fr 13421838336 S S9 ∧ ((ge S 40 0 4).toInt ≤ (ge S9 40 0 4).toInt ∧ (ge S9 40 0 5).toInt = (ge S 40 0 5).toInt ∧ (¬ (ge S 40 0 6).toInt = 0 → ¬ (ge S9 40 0 6).toInt = 0) ∧ 0 ≤ v.toInt ∧ v.toInt ≤ 1))) (hR5 : ∀ (q : Int32) (S : fS), RI S → ((¬ (ge S 40 0 6).toInt = 0 ∧ 3 ≤ d) ∨ ((ge S 40 0 5).toInt ≤ 6 ∧ 3 * (7 - (ge S 40 0 5).toInt) + 6 ≤ d)) → zk (R 5 q S) (fun v S9 => RI S9 ∧ Fr 13421838336 S S9 ∧ ((ge S 40 0 4).toInt ≤ (ge S9 40 0 4).toInt ∧ (ge S9 40 0 5).toInt = (ge S 40 0 5).toInt ∧ (¬ (ge S 40 0 6).toInt = 0 → ¬ (ge S9 40 0 6).toInt = 0) ∧ 0 ≤ v.toInt ∧ v.toInt ≤ 1))) (z : Int32) (S : fS) (RS : RI S) (hi : True ∧ ((¬ (ge S 40 0 6).toInt = 0 ∧ 2 ≤ d) ∨ ((ge S 40 0 5).toInt ≤ 6 ∧ 3 * (7 - (ge S 40 0 5).toInt) + 2 ≤ d))) (hm : (300 - (ge S 40 0 4).toInt).toNat < 4294967296) : zk (lp (B_X7_sum_9 R) fuel z S) (fun v S9 => RI S9 ∧ Fr 13421838336 S S9 ∧ ((ge S 40 0 4).toInt ≤ (ge S9 40 0 4).toInt ∧ (ge S9 40 0 5).toInt = (ge S 40 0 5).toInt ∧ (¬ (ge S 40 0 6).toInt = 0 → ¬ (ge S9 40 0 6).toInt = 0))) := by
  have l0 : (0 : Int32).toInt = 0 := by decide
  have l1 : (1 : Int32).toInt = 1 := by decide
  have l4 : (4 : Int32).toInt = 4 := by decide
  have l6 : (6 : Int32).toInt = 6 := by decide
  have l43 : (43 : Int32).toInt = 43 := by decide
  have l45 : (45 : Int32).toInt = 45 := by decide
  refine zk_lp (fun z S => RI S ∧ (True ∧ ((¬ (ge S 40 0 6).toInt = 0 ∧ 2 ≤ d) ∨ ((ge S 40 0 5).toInt ≤ 6 ∧ 3 * (7 - (ge S 40 0 5).toInt) + 2 ≤ d)))) (fun z S => (300 - (ge S 40 0 4).toInt).toNat) (fun z S (v : Int32) S9 => RI S9 ∧ Fr 13421838336 S S9 ∧ ((ge S 40 0 4).toInt ≤ (ge S9 40 0 4).toInt ∧ (ge S9 40 0 5).toInt = (ge S 40 0 5).toInt ∧ (¬ (ge S 40 0 6).toInt = 0 → ¬ (ge S9 40 0 6).toInt = 0))) ?_ z S ⟨RS, hi⟩ hm
  clear RS hi hm
  intro k a1 S hI hk
  obtain ⟨RS, hI⟩ := hI
  have FS : Fr 13421838336 S S := Fr.rf
  unfold B_X7_sum_9
  obtain ⟨y1, ey1⟩ : ∃ y : Int32, y = ge S 40 0 2 := ⟨_, rfl⟩
  have gy1 : 0 ≤ y1.toInt ∧ y1.toInt ≤ 300 := by rw [ey1]; exact RS 40 _ _
  have q2 : (ge S 40 0 2).toInt = y1.toInt := congrArg Int32.toInt (show ge S 40 0 2 = y1 from ey1.symm)
  obtain ⟨y3, ey3⟩ : ∃ y : Int32, y = ge S 40 0 4 := ⟨_, rfl⟩
  have gy3 : 0 ≤ y3.toInt ∧ y3.toInt ≤ 300 := by rw [ey3]; exact RS 40 _ _
  have q4 : (ge S 40 0 4).toInt = y3.toInt := congrArg Int32.toInt (show ge S 40 0 4 = y3 from ey3.symm)
  obtain ⟨y5, ey5⟩ : ∃ y : Int32, y = ge S 40 0 6 := ⟨_, rfl⟩
  have q6 : (ge S 40 0 6).toInt = y5.toInt := congrArg Int32.toInt (show ge S 40 0 6 = y5 from ey5.symm)
  obtain ⟨y7, ey7⟩ : ∃ y : Int32, y = ge S 40 0 5 := ⟨_, rfl⟩
  have gy7 : 0 ≤ y7.toInt ∧ y7.toInt ≤ 7 := by rw [ey7]; exact RS 40 _ _
  have q8 : (ge S 40 0 5).toInt = y7.toInt := congrArg Int32.toInt (show ge S 40 0 5 = y7 from ey7.symm)
  refine zk_ivq (x := y5) ey5.symm ?_
  have b9 := ti_bd y5
  refine zk_eq (fun c10 => ?_) (fun c10 => ?_)
  ·
    refine zk_ivq (x := y3) ey3.symm ?_
    refine zk_bd (s_F_X7_byteAt _ _ RS (by omega)) (fun v11 T12 h11 => ?_)
    obtain ⟨rfl, h11⟩ := h11
    have h11b := byv_bd RS y3
    rw [← h11] at h11b
    have q13 : (ge S 40 0 2).toInt = y1.toInt := congrArg Int32.toInt (show ge S 40 0 2 = y1 from ey1.symm)
    have q14 : (ge S 40 0 4).toInt = y3.toInt := congrArg Int32.toInt (show ge S 40 0 4 = y3 from ey3.symm)
    have q15 : (ge S 40 0 6).toInt = y5.toInt := congrArg Int32.toInt (show ge S 40 0 6 = y5 from ey5.symm)
    have q16 : (ge S 40 0 5).toInt = y7.toInt := congrArg Int32.toInt (show ge S 40 0 5 = y7 from ey7.symm)
    refine zk_eq (fun c17 => ?_) (fun c17 => ?_)
    ·
      unfold B_X7_sum_42
      refine zk_ivq (x := y3) ey3.symm ?_
      refine zk_bd (s_F_X7_byteAt _ _ RS (by omega)) (fun v18 T19 h18 => ?_)
      obtain ⟨rfl, h18⟩ := h18
      have h18b := byv_bd RS y3
      rw [← h18] at h18b
      have q20 : (ge S 40 0 2).toInt = y1.toInt := congrArg Int32.toInt (show ge S 40 0 2 = y1 from ey1.symm)
      have q21 : (ge S 40 0 4).toInt = y3.toInt := congrArg Int32.toInt (show ge S 40 0 4 = y3 from ey3.symm)
      have q22 : (ge S 40 0 6).toInt = y5.toInt := congrArg Int32.toInt (show ge S 40 0 6 = y5 from ey5.symm)
      have q23 : (ge S 40 0 5).toInt = y7.toInt := congrArg Int32.toInt (show ge S 40 0 5 = y7 from ey7.symm)
      refine zk_ivq (x := y3) ey3.symm ?_
      refine zk_iv fun x24 e24 => ?_
      have gx24 : x24.toInt = y3.toInt + (1 : Int32).toInt := by rw [e24]; exact ti_add (by omega) (by omega)
      refine zk_sv fun S25 E25 => ?_
      have RS25 : RI S25 := by rw [E25]; exact RS.wr (show (0 : Int) ≤ x24.toInt by omega) (show x24.toInt ≤ 300 by omega)
      have FS25 : Fr 13421838336 S S25 := by rw [E25]; exact FS.wr (k := 29) rfl rfl
      have q26 : (ge S25 40 0 2).toInt = y1.toInt := congrArg Int32.toInt (show ge S25 40 0 2 = y1 from (by rw [E25]; exact (ge_puj (by decide)).trans ey1.symm))
      have q27 : (ge S25 40 0 4).toInt = x24.toInt := congrArg Int32.toInt (show ge S25 40 0 4 = x24 from (by rw [E25]; exact ge_pus))
      have q28 : (ge S25 40 0 6).toInt = y5.toInt := congrArg Int32.toInt (show ge S25 40 0 6 = y5 from (by rw [E25]; exact (ge_puj (by decide)).trans ey5.symm))
      have q29 : (ge S25 40 0 5).toInt = y7.toInt := congrArg Int32.toInt (show ge S25 40 0 5 = y7 from (by rw [E25]; exact (ge_puj (by decide)).trans ey7.symm))
      refine zk_bd (hR1 _ _ RS25 (by omega)) (fun v30 T31 h30 => ?_)
      obtain ⟨RT31, fT31, h30⟩ := h30
      have FT31 := FS25.tr (fT31.sub (m := 13421838336) (by decide))
      have q32 : (ge T31 40 0 2).toInt = y1.toInt := congrArg Int32.toInt (show ge T31 40 0 2 = y1 from ((fT31.1 40 0 2 rfl).trans (by rw [E25]; exact (ge_puj (by decide)).trans ey1.symm)))
      obtain ⟨y33, ey33⟩ : ∃ y : Int32, y = ge T31 40 0 4 := ⟨_, rfl⟩
      have gy33 : 0 ≤ y33.toInt ∧ y33.toInt ≤ 300 := by rw [ey33]; exact RT31 40 _ _
      have q34 : (ge T31 40 0 4).toInt = y33.toInt := congrArg Int32.toInt (show ge T31 40 0 4 = y33 from ey33.symm)
      obtain ⟨y35, ey35⟩ : ∃ y : Int32, y = ge T31 40 0 6 := ⟨_, rfl⟩
      have q36 : (ge T31 40 0 6).toInt = y35.toInt := congrArg Int32.toInt (show ge T31 40 0 6 = y35 from ey35.symm)
      obtain ⟨y37, ey37⟩ : ∃ y : Int32, y = ge T31 40 0 5 := ⟨_, rfl⟩
      have gy37 : 0 ≤ y37.toInt ∧ y37.toInt ≤ 7 := by rw [ey37]; exact RT31 40 _ _
      have q38 : (ge T31 40 0 5).toInt = y37.toInt := congrArg Int32.toInt (show ge T31 40 0 5 = y37 from ey37.symm)
      refine zk_eq (fun c39 => ?_) (fun c39 => ?_)
      ·
        refine zk_iv fun x40 e40 => ?_
        unfold B_X7_sum_81
        have q41 : (ge T31 40 0 2).toInt = y1.toInt := congrArg Int32.toInt (show ge T31 40 0 2 = y1 from ((fT31.1 40 0 2 rfl).trans (by rw [E25]; exact (ge_puj (by decide)).trans ey1.symm)))
        have q42 : (ge T31 40 0 4).toInt = y33.toInt := congrArg Int32.toInt (show ge T31 40 0 4 = y33 from ey33.symm)
        have q43 : (ge T31 40 0 6).toInt = y35.toInt := congrArg Int32.toInt (show ge T31 40 0 6 = y35 from ey35.symm)
        have q44 : (ge T31 40 0 5).toInt = y37.toInt := congrArg Int32.toInt (show ge T31 40 0 5 = y37 from ey37.symm)
        refine zk_bd (s_F_X7_blanks _ RT31) (fun v45 T46 h45 => ?_)
        obtain ⟨RT46, fT46, h45⟩ := h45
        have FT46 := FT31.tr (fT46.sub (m := 13421838336) (by decide))
        have q47 : (ge T46 40 0 2).toInt = y1.toInt := congrArg Int32.toInt (show ge T46 40 0 2 = y1 from ((fT46.1 40 0 2 rfl).trans ((fT31.1 40 0 2 rfl).trans (by rw [E25]; exact (ge_puj (by decide)).trans ey1.symm))))
        obtain ⟨y48, ey48⟩ : ∃ y : Int32, y = ge T46 40 0 4 := ⟨_, rfl⟩
        have gy48 : 0 ≤ y48.toInt ∧ y48.toInt ≤ 300 := by rw [ey48]; exact RT46 40 _ _
        have q49 : (ge T46 40 0 4).toInt = y48.toInt := congrArg Int32.toInt (show ge T46 40 0 4 = y48 from ey48.symm)
        have q50 : (ge T46 40 0 6).toInt = y35.toInt := congrArg Int32.toInt (show ge T46 40 0 6 = y35 from ((fT46.1 40 0 6 rfl).trans ey35.symm))
        have q51 : (ge T46 40 0 5).toInt = y37.toInt := congrArg Int32.toInt (show ge T46 40 0 5 = y37 from ((fT46.1 40 0 5 rfl).trans ey37.symm))
        have q52 : (ge T46 40 0 2).toInt = y1.toInt := congrArg Int32.toInt (show ge T46 40 0 2 = y1 from ((fT46.1 40 0 2 rfl).trans ((fT31.1 40 0 2 rfl).trans (by rw [E25]; exact (ge_puj (by decide)).trans ey1.symm))))
        have q53 : (ge T46 40 0 4).toInt = y48.toInt := congrArg Int32.toInt (show ge T46 40 0 4 = y48 from ey48.symm)
        have q54 : (ge T46 40 0 6).toInt = y35.toInt := congrArg Int32.toInt (show ge T46 40 0 6 = y35 from ((fT46.1 40 0 6 rfl).trans ey35.symm))
        have q55 : (ge T46 40 0 5).toInt = y37.toInt := congrArg Int32.toInt (show ge T46 40 0 5 = y37 from ((fT46.1 40 0 5 rfl).trans ey37.symm))
        refine zk_imp (hk x40 _ ⟨RT46, trivial⟩ (by omega)) (fun v56 T57 h56 => ?_)
        obtain ⟨RT57, FT57, h56⟩ := h56
        exact ⟨RT57, FT46.tr FT57, by omega⟩
      ·
        refine zk_iv fun x58 e58 => ?_
        unfold B_X7_sum_81
        have q59 : (ge T31 40 0 2).toInt = y1.toInt := congrArg Int32.toInt (show ge T31 40 0 2 = y1 from ((fT31.1 40 0 2 rfl).trans (by rw [E25]; exact (ge_puj (by decide)).trans ey1.symm)))
        have q60 : (ge T31 40 0 4).toInt = y33.toInt := congrArg Int32.toInt (show ge T31 40 0 4 = y33 from ey33.symm)
        have q61 : (ge T31 40 0 6).toInt = y35.toInt := congrArg Int32.toInt (show ge T31 40 0 6 = y35 from ey35.symm)
        have q62 : (ge T31 40 0 5).toInt = y37.toInt := congrArg Int32.toInt (show ge T31 40 0 5 = y37 from ey37.symm)
        refine zk_bd (s_F_X7_blanks _ RT31) (fun v63 T64 h63 => ?_)
        obtain ⟨RT64, fT64, h63⟩ := h63
        have FT64 := FT31.tr (fT64.sub (m := 13421838336) (by decide))
        have q65 : (ge T64 40 0 2).toInt = y1.toInt := congrArg Int32.toInt (show ge T64 40 0 2 = y1 from ((fT64.1 40 0 2 rfl).trans ((fT31.1 40 0 2 rfl).trans (by rw [E25]; exact (ge_puj (by decide)).trans ey1.symm))))
        obtain ⟨y66, ey66⟩ : ∃ y : Int32, y = ge T64 40 0 4 := ⟨_, rfl⟩
        have gy66 : 0 ≤ y66.toInt ∧ y66.toInt ≤ 300 := by rw [ey66]; exact RT64 40 _ _
        have q67 : (ge T64 40 0 4).toInt = y66.toInt := congrArg Int32.toInt (show ge T64 40 0 4 = y66 from ey66.symm)
        have q68 : (ge T64 40 0 6).toInt = y35.toInt := congrArg Int32.toInt (show ge T64 40 0 6 = y35 from ((fT64.1 40 0 6 rfl).trans ey35.symm))
        have q69 : (ge T64 40 0 5).toInt = y37.toInt := congrArg Int32.toInt (show ge T64 40 0 5 = y37 from ((fT64.1 40 0 5 rfl).trans ey37.symm))
        have q70 : (ge T64 40 0 2).toInt = y1.toInt := congrArg Int32.toInt (show ge T64 40 0 2 = y1 from ((fT64.1 40 0 2 rfl).trans ((fT31.1 40 0 2 rfl).trans (by rw [E25]; exact (ge_puj (by decide)).trans ey1.symm))))
        have q71 : (ge T64 40 0 4).toInt = y66.toInt := congrArg Int32.toInt (show ge T64 40 0 4 = y66 from ey66.symm)
        have q72 : (ge T64 40 0 6).toInt = y35.toInt := congrArg Int32.toInt (show ge T64 40 0 6 = y35 from ((fT64.1 40 0 6 rfl).trans ey35.symm))
        have q73 : (ge T64 40 0 5).toInt = y37.toInt := congrArg Int32.toInt (show ge T64 40 0 5 = y37 from ((fT64.1 40 0 5 rfl).trans ey37.symm))
        refine zk_imp (hk x58 _ ⟨RT64, trivial⟩ (by omega)) (fun v74 T75 h74 => ?_)
        obtain ⟨RT75, FT75, h74⟩ := h74
        exact ⟨RT75, FT64.tr FT75, by omega⟩
    ·
      refine zk_ivq (x := y3) ey3.symm ?_
      refine zk_bd (s_F_X7_byteAt _ _ RS (by omega)) (fun v76 T77 h76 => ?_)
      obtain ⟨rfl, h76⟩ := h76
      have h76b := byv_bd RS y3
      rw [← h76] at h76b
      have q78 : (ge S 40 0 2).toInt = y1.toInt := congrArg Int32.toInt (show ge S 40 0 2 = y1 from ey1.symm)
      have q79 : (ge S 40 0 4).toInt = y3.toInt := congrArg Int32.toInt (show ge S 40 0 4 = y3 from ey3.symm)
      have q80 : (ge S 40 0 6).toInt = y5.toInt := congrArg Int32.toInt (show ge S 40 0 6 = y5 from ey5.symm)
      have q81 : (ge S 40 0 5).toInt = y7.toInt := congrArg Int32.toInt (show ge S 40 0 5 = y7 from ey7.symm)
      refine zk_eq (fun c82 => ?_) (fun c82 => ?_)
      ·
        unfold B_X7_sum_42
        refine zk_ivq (x := y3) ey3.symm ?_
        refine zk_bd (s_F_X7_byteAt _ _ RS (by omega)) (fun v83 T84 h83 => ?_)
        obtain ⟨rfl, h83⟩ := h83
        have h83b := byv_bd RS y3
        rw [← h83] at h83b
        have q85 : (ge S 40 0 2).toInt = y1.toInt := congrArg Int32.toInt (show ge S 40 0 2 = y1 from ey1.symm)
        have q86 : (ge S 40 0 4).toInt = y3.toInt := congrArg Int32.toInt (show ge S 40 0 4 = y3 from ey3.symm)
        have q87 : (ge S 40 0 6).toInt = y5.toInt := congrArg Int32.toInt (show ge S 40 0 6 = y5 from ey5.symm)
        have q88 : (ge S 40 0 5).toInt = y7.toInt := congrArg Int32.toInt (show ge S 40 0 5 = y7 from ey7.symm)
        refine zk_ivq (x := y3) ey3.symm ?_
        refine zk_iv fun x89 e89 => ?_
        have gx89 : x89.toInt = y3.toInt + (1 : Int32).toInt := by rw [e89]; exact ti_add (by omega) (by omega)
        refine zk_sv fun S90 E90 => ?_
        have RS90 : RI S90 := by rw [E90]; exact RS.wr (show (0 : Int) ≤ x89.toInt by omega) (show x89.toInt ≤ 300 by omega)
        have FS90 : Fr 13421838336 S S90 := by rw [E90]; exact FS.wr (k := 29) rfl rfl
        have q91 : (ge S90 40 0 2).toInt = y1.toInt := congrArg Int32.toInt (show ge S90 40 0 2 = y1 from (by rw [E90]; exact (ge_puj (by decide)).trans ey1.symm))
        have q92 : (ge S90 40 0 4).toInt = x89.toInt := congrArg Int32.toInt (show ge S90 40 0 4 = x89 from (by rw [E90]; exact ge_pus))
        have q93 : (ge S90 40 0 6).toInt = y5.toInt := congrArg Int32.toInt (show ge S90 40 0 6 = y5 from (by rw [E90]; exact (ge_puj (by decide)).trans ey5.symm))
        have q94 : (ge S90 40 0 5).toInt = y7.toInt := congrArg Int32.toInt (show ge S90 40 0 5 = y7 from (by rw [E90]; exact (ge_puj (by decide)).trans ey7.symm))
        refine zk_bd (hR1 _ _ RS90 (by omega)) (fun v95 T96 h95 => ?_)
        obtain ⟨RT96, fT96, h95⟩ := h95
        have FT96 := FS90.tr (fT96.sub (m := 13421838336) (by decide))
        have q97 : (ge T96 40 0 2).toInt = y1.toInt := congrArg Int32.toInt (show ge T96 40 0 2 = y1 from ((fT96.1 40 0 2 rfl).trans (by rw [E90]; exact (ge_puj (by decide)).trans ey1.symm)))
        obtain ⟨y98, ey98⟩ : ∃ y : Int32, y = ge T96 40 0 4 := ⟨_, rfl⟩
        have gy98 : 0 ≤ y98.toInt ∧ y98.toInt ≤ 300 := by rw [ey98]; exact RT96 40 _ _
        have q99 : (ge T96 40 0 4).toInt = y98.toInt := congrArg Int32.toInt (show ge T96 40 0 4 = y98 from ey98.symm)
        obtain ⟨y100, ey100⟩ : ∃ y : Int32, y = ge T96 40 0 6 := ⟨_, rfl⟩
        have q101 : (ge T96 40 0 6).toInt = y100.toInt := congrArg Int32.toInt (show ge T96 40 0 6 = y100 from ey100.symm)
        obtain ⟨y102, ey102⟩ : ∃ y : Int32, y = ge T96 40 0 5 := ⟨_, rfl⟩
        have gy102 : 0 ≤ y102.toInt ∧ y102.toInt ≤ 7 := by rw [ey102]; exact RT96 40 _ _
        have q103 : (ge T96 40 0 5).toInt = y102.toInt := congrArg Int32.toInt (show ge T96 40 0 5 = y102 from ey102.symm)
        refine zk_eq (fun c104 => ?_) (fun c104 => ?_)
        ·
          refine zk_iv fun x105 e105 => ?_
          unfold B_X7_sum_81
          have q106 : (ge T96 40 0 2).toInt = y1.toInt := congrArg Int32.toInt (show ge T96 40 0 2 = y1 from ((fT96.1 40 0 2 rfl).trans (by rw [E90]; exact (ge_puj (by decide)).trans ey1.symm)))
          have q107 : (ge T96 40 0 4).toInt = y98.toInt := congrArg Int32.toInt (show ge T96 40 0 4 = y98 from ey98.symm)
          have q108 : (ge T96 40 0 6).toInt = y100.toInt := congrArg Int32.toInt (show ge T96 40 0 6 = y100 from ey100.symm)
          have q109 : (ge T96 40 0 5).toInt = y102.toInt := congrArg Int32.toInt (show ge T96 40 0 5 = y102 from ey102.symm)
          refine zk_bd (s_F_X7_blanks _ RT96) (fun v110 T111 h110 => ?_)
          obtain ⟨RT111, fT111, h110⟩ := h110
          have FT111 := FT96.tr (fT111.sub (m := 13421838336) (by decide))
          have q112 : (ge T111 40 0 2).toInt = y1.toInt := congrArg Int32.toInt (show ge T111 40 0 2 = y1 from ((fT111.1 40 0 2 rfl).trans ((fT96.1 40 0 2 rfl).trans (by rw [E90]; exact (ge_puj (by decide)).trans ey1.symm))))
          obtain ⟨y113, ey113⟩ : ∃ y : Int32, y = ge T111 40 0 4 := ⟨_, rfl⟩
          have gy113 : 0 ≤ y113.toInt ∧ y113.toInt ≤ 300 := by rw [ey113]; exact RT111 40 _ _
          have q114 : (ge T111 40 0 4).toInt = y113.toInt := congrArg Int32.toInt (show ge T111 40 0 4 = y113 from ey113.symm)
          have q115 : (ge T111 40 0 6).toInt = y100.toInt := congrArg Int32.toInt (show ge T111 40 0 6 = y100 from ((fT111.1 40 0 6 rfl).trans ey100.symm))
          have q116 : (ge T111 40 0 5).toInt = y102.toInt := congrArg Int32.toInt (show ge T111 40 0 5 = y102 from ((fT111.1 40 0 5 rfl).trans ey102.symm))
          have q117 : (ge T111 40 0 2).toInt = y1.toInt := congrArg Int32.toInt (show ge T111 40 0 2 = y1 from ((fT111.1 40 0 2 rfl).trans ((fT96.1 40 0 2 rfl).trans (by rw [E90]; exact (ge_puj (by decide)).trans ey1.symm))))
          have q118 : (ge T111 40 0 4).toInt = y113.toInt := congrArg Int32.toInt (show ge T111 40 0 4 = y113 from ey113.symm)
          have q119 : (ge T111 40 0 6).toInt = y100.toInt := congrArg Int32.toInt (show ge T111 40 0 6 = y100 from ((fT111.1 40 0 6 rfl).trans ey100.symm))
          have q120 : (ge T111 40 0 5).toInt = y102.toInt := congrArg Int32.toInt (show ge T111 40 0 5 = y102 from ((fT111.1 40 0 5 rfl).trans ey102.symm))
          refine zk_imp (hk x105 _ ⟨RT111, trivial⟩ (by omega)) (fun v121 T122 h121 => ?_)
          obtain ⟨RT122, FT122, h121⟩ := h121
          exact ⟨RT122, FT111.tr FT122, by omega⟩
        ·
          refine zk_iv fun x123 e123 => ?_
          unfold B_X7_sum_81
          have q124 : (ge T96 40 0 2).toInt = y1.toInt := congrArg Int32.toInt (show ge T96 40 0 2 = y1 from ((fT96.1 40 0 2 rfl).trans (by rw [E90]; exact (ge_puj (by decide)).trans ey1.symm)))
          have q125 : (ge T96 40 0 4).toInt = y98.toInt := congrArg Int32.toInt (show ge T96 40 0 4 = y98 from ey98.symm)
          have q126 : (ge T96 40 0 6).toInt = y100.toInt := congrArg Int32.toInt (show ge T96 40 0 6 = y100 from ey100.symm)
          have q127 : (ge T96 40 0 5).toInt = y102.toInt := congrArg Int32.toInt (show ge T96 40 0 5 = y102 from ey102.symm)
          refine zk_bd (s_F_X7_blanks _ RT96) (fun v128 T129 h128 => ?_)
          obtain ⟨RT129, fT129, h128⟩ := h128
          have FT129 := FT96.tr (fT129.sub (m := 13421838336) (by decide))
          have q130 : (ge T129 40 0 2).toInt = y1.toInt := congrArg Int32.toInt (show ge T129 40 0 2 = y1 from ((fT129.1 40 0 2 rfl).trans ((fT96.1 40 0 2 rfl).trans (by rw [E90]; exact (ge_puj (by decide)).trans ey1.symm))))
          obtain ⟨y131, ey131⟩ : ∃ y : Int32, y = ge T129 40 0 4 := ⟨_, rfl⟩
          have gy131 : 0 ≤ y131.toInt ∧ y131.toInt ≤ 300 := by rw [ey131]; exact RT129 40 _ _
          have q132 : (ge T129 40 0 4).toInt = y131.toInt := congrArg Int32.toInt (show ge T129 40 0 4 = y131 from ey131.symm)
          have q133 : (ge T129 40 0 6).toInt = y100.toInt := congrArg Int32.toInt (show ge T129 40 0 6 = y100 from ((fT129.1 40 0 6 rfl).trans ey100.symm))
          have q134 : (ge T129 40 0 5).toInt = y102.toInt := congrArg Int32.toInt (show ge T129 40 0 5 = y102 from ((fT129.1 40 0 5 rfl).trans ey102.symm))
          have q135 : (ge T129 40 0 2).toInt = y1.toInt := congrArg Int32.toInt (show ge T129 40 0 2 = y1 from ((fT129.1 40 0 2 rfl).trans ((fT96.1 40 0 2 rfl).trans (by rw [E90]; exact (ge_puj (by decide)).trans ey1.symm))))
          have q136 : (ge T129 40 0 4).toInt = y131.toInt := congrArg Int32.toInt (show ge T129 40 0 4 = y131 from ey131.symm)
          have q137 : (ge T129 40 0 6).toInt = y100.toInt := congrArg Int32.toInt (show ge T129 40 0 6 = y100 from ((fT129.1 40 0 6 rfl).trans ey100.symm))
          have q138 : (ge T129 40 0 5).toInt = y102.toInt := congrArg Int32.toInt (show ge T129 40 0 5 = y102 from ((fT129.1 40 0 5 rfl).trans ey102.symm))
          refine zk_imp (hk x123 _ ⟨RT129, trivial⟩ (by omega)) (fun v139 T140 h139 => ?_)
          obtain ⟨RT140, FT140, h139⟩ := h139
          exact ⟨RT140, FT129.tr FT140, by omega⟩
      ·
        have q141 : (ge S 40 0 2).toInt = y1.toInt := congrArg Int32.toInt (show ge S 40 0 2 = y1 from ey1.symm)
        have q142 : (ge S 40 0 4).toInt = y3.toInt := congrArg Int32.toInt (show ge S 40 0 4 = y3 from ey3.symm)
        have q143 : (ge S 40 0 6).toInt = y5.toInt := congrArg Int32.toInt (show ge S 40 0 6 = y5 from ey5.symm)
        have q144 : (ge S 40 0 5).toInt = y7.toInt := congrArg Int32.toInt (show ge S 40 0 5 = y7 from ey7.symm)
        exact zk_some ⟨RS, FS, by omega⟩
  ·
    have q145 : (ge S 40 0 2).toInt = y1.toInt := congrArg Int32.toInt (show ge S 40 0 2 = y1 from ey1.symm)
    have q146 : (ge S 40 0 4).toInt = y3.toInt := congrArg Int32.toInt (show ge S 40 0 4 = y3 from ey3.symm)
    have q147 : (ge S 40 0 6).toInt = y5.toInt := congrArg Int32.toInt (show ge S 40 0 6 = y5 from ey5.symm)
    have q148 : (ge S 40 0 5).toInt = y7.toInt := congrArg Int32.toInt (show ge S 40 0 5 = y7 from ey7.symm)
    exact zk_some ⟨RS, FS, by omega⟩
theorem s_N_X7_sum (R : Nat → Int32 → fS → Option (Int32 × fS)) (d : Int) (hR0 : ∀ (q : Int32) (S : fS), RI S → ((¬ (ge S 40 0 6).toInt = 0 ∧ 1 ≤ d) ∨ ((ge S 40 0 5).toInt ≤ 6 ∧ 3 * (7 - (ge S 40 0 5).toInt) + 1 ≤ d)) → zk (R 0 q S) (fun v S9 => RI S9 ∧ Fr 13421838336 S S9 ∧ ((ge S 40 0 4).toInt ≤ (ge S9 40 0 4).toInt ∧ (ge S9 40 0 5).toInt = (ge S 40 0 5).toInt ∧ (¬ (ge S 40 0 6).toInt = 0 → ¬ (ge S9 40 0 6).toInt = 0)))) (hR1 : ∀ (q : Int32) (S : fS), RI S → ((¬ (ge S 40 0 6).toInt = 0 ∧ 2 ≤ d) ∨ ((ge S 40 0 5).toInt ≤ 6 ∧ 3 * (7 - (ge S 40 0 5).toInt) + 2 ≤ d)) → zk (R 1 q S) (fun v S9 => RI S9 ∧ Fr 13421838336 S S9 ∧ ((ge S 40 0 4).toInt ≤ (ge S9 40 0 4).toInt ∧ (ge S9 40 0 5).toInt = (ge S 40 0 5).toInt ∧ (¬ (ge S 40 0 6).toInt = 0 → ¬ (ge S9 40 0 6).toInt = 0)))) (hR2 : ∀ (q : Int32) (S : fS), RI S → ((¬ (ge S 40 0 6).toInt = 0 ∧ 3 ≤ d) ∨ ((ge S 40 0 5).toInt ≤ 6 ∧ 3 * (7 - (ge S 40 0 5).toInt) + 3 ≤ d)) → zk (R 2 q S) (fun v S9 => RI S9 ∧ Fr 13421838336 S S9 ∧ ((ge S 40 0 4).toInt ≤ (ge S9 40 0 4).toInt ∧ (ge S9 40 0 5).toInt = (ge S 40 0 5).toInt ∧ (¬ (ge S 40 0 6).toInt = 0 → ¬ (ge S9 40 0 6).toInt = 0)))) (hR3 : ∀ (q : Int32) (S : fS), RI S → ((¬ (ge S 40 0 6).toInt = 0 ∧ 1 ≤ d) ∨ ((ge S 40 0 5).toInt ≤ 6 ∧ 3 * (7 - (ge S 40 0 5).toInt) + 4 ≤ d)) → zk (R 3 q S) (fun v S9 => RI S9 ∧ Fr 13421838336 S S9 ∧ ((ge S 40 0 4).toInt ≤ (ge S9 40 0 4).toInt ∧ (ge S9 40 0 5).toInt = (ge S 40 0 5).toInt ∧ (¬ (ge S 40 0 6).toInt = 0 → ¬ (ge S9 40 0 6).toInt = 0) ∧ 0 ≤ v.toInt ∧ v.toInt ≤ 1))) (hR4 : ∀ (q : Int32) (S : fS), RI S → ((¬ (ge S 40 0 6).toInt = 0 ∧ 2 ≤ d) ∨ ((ge S 40 0 5).toInt ≤ 6 ∧ 3 * (7 - (ge S 40 0 5).toInt) + 5 ≤ d)) → zk (R 4 q S) (fun v S9 => RI S9 ∧ Fr 13421838336 S S9 ∧ ((ge S 40 0 4).toInt ≤ (ge S9 40 0 4).toInt ∧ (ge S9 40 0 5).toInt = (ge S 40 0 5).toInt ∧ (¬ (ge S 40 0 6).toInt = 0 → ¬ (ge S9 40 0 6).toInt = 0) ∧ 0 ≤ v.toInt ∧ v.toInt ≤ 1))) (hR5 : ∀ (q : Int32) (S : fS), RI S → ((¬ (ge S 40 0 6).toInt = 0 ∧ 3 ≤ d) ∨ ((ge S 40 0 5).toInt ≤ 6 ∧ 3 * (7 - (ge S 40 0 5).toInt) + 6 ≤ d)) → zk (R 5 q S) (fun v S9 => RI S9 ∧ Fr 13421838336 S S9 ∧ ((ge S 40 0 4).toInt ≤ (ge S9 40 0 4).toInt ∧ (ge S9 40 0 5).toInt = (ge S 40 0 5).toInt ∧ (¬ (ge S 40 0 6).toInt = 0 → ¬ (ge S9 40 0 6).toInt = 0) ∧ 0 ≤ v.toInt ∧ v.toInt ≤ 1))) (S0 : fS) (RS0 : RI S0) (hpr : ((¬ (ge S0 40 0 6).toInt = 0 ∧ 3 ≤ d + 1) ∨ ((ge S0 40 0 5).toInt ≤ 6 ∧ 3 * (7 - (ge S0 40 0 5).toInt) + 3 ≤ d + 1))) : zk (N_X7_sum R S0) (fun v S9 => RI S9 ∧ Fr 13421838336 S0 S9 ∧ ((ge S0 40 0 4).toInt ≤ (ge S9 40 0 4).toInt ∧ (ge S9 40 0 5).toInt = (ge S0 40 0 5).toInt ∧ (¬ (ge S0 40 0 6).toInt = 0 → ¬ (ge S9 40 0 6).toInt = 0))) := by
  have l0 : (0 : Int32).toInt = 0 := by decide
  have FS0 : Fr 13421838336 S0 S0 := Fr.rf
  unfold N_X7_sum
  obtain ⟨y1, ey1⟩ : ∃ y : Int32, y = ge S0 40 0 2 := ⟨_, rfl⟩
  have gy1 : 0 ≤ y1.toInt ∧ y1.toInt ≤ 300 := by rw [ey1]; exact RS0 40 _ _
  have q2 : (ge S0 40 0 2).toInt = y1.toInt := congrArg Int32.toInt (show ge S0 40 0 2 = y1 from ey1.symm)
  obtain ⟨y3, ey3⟩ : ∃ y : Int32, y = ge S0 40 0 4 := ⟨_, rfl⟩
  have gy3 : 0 ≤ y3.toInt ∧ y3.toInt ≤ 300 := by rw [ey3]; exact RS0 40 _ _
  have q4 : (ge S0 40 0 4).toInt = y3.toInt := congrArg Int32.toInt (show ge S0 40 0 4 = y3 from ey3.symm)
  have q5 : byv S0 (ge S0 40 0 4) = byv S0 y3 := congrArg (byv S0) (show ge S0 40 0 4 = y3 from ey3.symm)
  obtain ⟨y6, ey6⟩ : ∃ y : Int32, y = ge S0 40 0 6 := ⟨_, rfl⟩
  have q7 : (ge S0 40 0 6).toInt = y6.toInt := congrArg Int32.toInt (show ge S0 40 0 6 = y6 from ey6.symm)
  obtain ⟨y8, ey8⟩ : ∃ y : Int32, y = ge S0 40 0 5 := ⟨_, rfl⟩
  have gy8 : 0 ≤ y8.toInt ∧ y8.toInt ≤ 7 := by rw [ey8]; exact RS0 40 _ _
  have q9 : (ge S0 40 0 5).toInt = y8.toInt := congrArg Int32.toInt (show ge S0 40 0 5 = y8 from ey8.symm)
  have q10 : (ge S0 40 0 2).toInt = y1.toInt := congrArg Int32.toInt (show ge S0 40 0 2 = y1 from ey1.symm)
  have q11 : (ge S0 40 0 4).toInt = y3.toInt := congrArg Int32.toInt (show ge S0 40 0 4 = y3 from ey3.symm)
  have q12 : byv S0 (ge S0 40 0 4) = byv S0 y3 := congrArg (byv S0) (show ge S0 40 0 4 = y3 from ey3.symm)
  have q13 : (ge S0 40 0 6).toInt = y6.toInt := congrArg Int32.toInt (show ge S0 40 0 6 = y6 from ey6.symm)
  have q14 : (ge S0 40 0 5).toInt = y8.toInt := congrArg Int32.toInt (show ge S0 40 0 5 = y8 from ey8.symm)
  refine zk_bd (hR1 _ _ RS0 (by omega)) (fun v15 T16 h15 => ?_)
  obtain ⟨RT16, fT16, h15⟩ := h15
  have FT16 := FS0.tr (fT16.sub (m := 13421838336) (by decide))
  have q17 : (ge T16 40 0 2).toInt = y1.toInt := congrArg Int32.toInt (show ge T16 40 0 2 = y1 from ((fT16.1 40 0 2 rfl).trans ey1.symm))
  obtain ⟨y18, ey18⟩ : ∃ y : Int32, y = ge T16 40 0 4 := ⟨_, rfl⟩
  have gy18 : 0 ≤ y18.toInt ∧ y18.toInt ≤ 300 := by rw [ey18]; exact RT16 40 _ _
  have q19 : (ge T16 40 0 4).toInt = y18.toInt := congrArg Int32.toInt (show ge T16 40 0 4 = y18 from ey18.symm)
  have q20 : byv T16 (ge T16 40 0 4) = byv T16 y18 := congrArg (byv T16) (show ge T16 40 0 4 = y18 from ey18.symm)
  have q21 := byv_fr FT16 rfl y18
  obtain ⟨y22, ey22⟩ : ∃ y : Int32, y = ge T16 40 0 6 := ⟨_, rfl⟩
  have q23 : (ge T16 40 0 6).toInt = y22.toInt := congrArg Int32.toInt (show ge T16 40 0 6 = y22 from ey22.symm)
  obtain ⟨y24, ey24⟩ : ∃ y : Int32, y = ge T16 40 0 5 := ⟨_, rfl⟩
  have gy24 : 0 ≤ y24.toInt ∧ y24.toInt ≤ 7 := by rw [ey24]; exact RT16 40 _ _
  have q25 : (ge T16 40 0 5).toInt = y24.toInt := congrArg Int32.toInt (show ge T16 40 0 5 = y24 from ey24.symm)
  have q26 : (ge T16 40 0 2).toInt = y1.toInt := congrArg Int32.toInt (show ge T16 40 0 2 = y1 from ((fT16.1 40 0 2 rfl).trans ey1.symm))
  have q27 : (ge T16 40 0 4).toInt = y18.toInt := congrArg Int32.toInt (show ge T16 40 0 4 = y18 from ey18.symm)
  have q28 : byv T16 (ge T16 40 0 4) = byv T16 y18 := congrArg (byv T16) (show ge T16 40 0 4 = y18 from ey18.symm)
  have q29 := byv_fr FT16 rfl y18
  have q30 : (ge T16 40 0 6).toInt = y22.toInt := congrArg Int32.toInt (show ge T16 40 0 6 = y22 from ey22.symm)
  have q31 : (ge T16 40 0 5).toInt = y24.toInt := congrArg Int32.toInt (show ge T16 40 0 5 = y24 from ey24.symm)
  refine zk_bd (s_F_X7_blanks _ RT16) (fun v32 T33 h32 => ?_)
  obtain ⟨RT33, fT33, h32⟩ := h32
  have FT33 := FT16.tr (fT33.sub (m := 13421838336) (by decide))
  have q34 : (ge T33 40 0 2).toInt = y1.toInt := congrArg Int32.toInt (show ge T33 40 0 2 = y1 from ((fT33.1 40 0 2 rfl).trans ((fT16.1 40 0 2 rfl).trans ey1.symm)))
  obtain ⟨y35, ey35⟩ : ∃ y : Int32, y = ge T33 40 0 4 := ⟨_, rfl⟩
  have gy35 : 0 ≤ y35.toInt ∧ y35.toInt ≤ 300 := by rw [ey35]; exact RT33 40 _ _
  have q36 : (ge T33 40 0 4).toInt = y35.toInt := congrArg Int32.toInt (show ge T33 40 0 4 = y35 from ey35.symm)
  have q37 : byv T33 (ge T33 40 0 4) = byv T33 y35 := congrArg (byv T33) (show ge T33 40 0 4 = y35 from ey35.symm)
  have q38 := byv_fr FT33 rfl y35
  have q39 : (ge T33 40 0 6).toInt = y22.toInt := congrArg Int32.toInt (show ge T33 40 0 6 = y22 from ((fT33.1 40 0 6 rfl).trans ey22.symm))
  have q40 : (ge T33 40 0 5).toInt = y24.toInt := congrArg Int32.toInt (show ge T33 40 0 5 = y24 from ((fT33.1 40 0 5 rfl).trans ey24.symm))
  have q41 : (ge T33 40 0 2).toInt = y1.toInt := congrArg Int32.toInt (show ge T33 40 0 2 = y1 from ((fT33.1 40 0 2 rfl).trans ((fT16.1 40 0 2 rfl).trans ey1.symm)))
  have q42 : (ge T33 40 0 4).toInt = y35.toInt := congrArg Int32.toInt (show ge T33 40 0 4 = y35 from ey35.symm)
  have q43 : byv T33 (ge T33 40 0 4) = byv T33 y35 := congrArg (byv T33) (show ge T33 40 0 4 = y35 from ey35.symm)
  have q44 := byv_fr FT33 rfl y35
  have q45 : (ge T33 40 0 6).toInt = y22.toInt := congrArg Int32.toInt (show ge T33 40 0 6 = y22 from ((fT33.1 40 0 6 rfl).trans ey22.symm))
  have q46 : (ge T33 40 0 5).toInt = y24.toInt := congrArg Int32.toInt (show ge T33 40 0 5 = y24 from ((fT33.1 40 0 5 rfl).trans ey24.symm))
  refine zk_imp (s_B_X7_sum_9 R d hR0 hR1 hR2 hR3 hR4 hR5 _ _ RT33 trivial (by omega)) (fun v47 T48 h47 => ?_)
  obtain ⟨RT48, fT48, h47⟩ := h47
  have FT48 := FT33.tr (fT48.sub (m := 13421838336) (by decide))
  have q49 : (ge T48 40 0 2).toInt = y1.toInt := congrArg Int32.toInt (show ge T48 40 0 2 = y1 from ((fT48.1 40 0 2 rfl).trans ((fT33.1 40 0 2 rfl).trans ((fT16.1 40 0 2 rfl).trans ey1.symm))))
  obtain ⟨y50, ey50⟩ : ∃ y : Int32, y = ge T48 40 0 4 := ⟨_, rfl⟩
  have gy50 : 0 ≤ y50.toInt ∧ y50.toInt ≤ 300 := by rw [ey50]; exact RT48 40 _ _
  have q51 : (ge T48 40 0 4).toInt = y50.toInt := congrArg Int32.toInt (show ge T48 40 0 4 = y50 from ey50.symm)
  have q52 : byv T48 (ge T48 40 0 4) = byv T48 y50 := congrArg (byv T48) (show ge T48 40 0 4 = y50 from ey50.symm)
  have q53 := byv_fr FT48 rfl y50
  obtain ⟨y54, ey54⟩ : ∃ y : Int32, y = ge T48 40 0 6 := ⟨_, rfl⟩
  have q55 : (ge T48 40 0 6).toInt = y54.toInt := congrArg Int32.toInt (show ge T48 40 0 6 = y54 from ey54.symm)
  obtain ⟨y56, ey56⟩ : ∃ y : Int32, y = ge T48 40 0 5 := ⟨_, rfl⟩
  have gy56 : 0 ≤ y56.toInt ∧ y56.toInt ≤ 7 := by rw [ey56]; exact RT48 40 _ _
  have q57 : (ge T48 40 0 5).toInt = y56.toInt := congrArg Int32.toInt (show ge T48 40 0 5 = y56 from ey56.symm)
  exact ⟨RT48, FT48, by omega⟩
theorem s_N_X7_test (R : Nat → Int32 → fS → Option (Int32 × fS)) (d : Int) (hR0 : ∀ (q : Int32) (S : fS), RI S → ((¬ (ge S 40 0 6).toInt = 0 ∧ 1 ≤ d) ∨ ((ge S 40 0 5).toInt ≤ 6 ∧ 3 * (7 - (ge S 40 0 5).toInt) + 1 ≤ d)) → zk (R 0 q S) (fun v S9 => RI S9 ∧ Fr 13421838336 S S9 ∧ ((ge S 40 0 4).toInt ≤ (ge S9 40 0 4).toInt ∧ (ge S9 40 0 5).toInt = (ge S 40 0 5).toInt ∧ (¬ (ge S 40 0 6).toInt = 0 → ¬ (ge S9 40 0 6).toInt = 0)))) (hR1 : ∀ (q : Int32) (S : fS), RI S → ((¬ (ge S 40 0 6).toInt = 0 ∧ 2 ≤ d) ∨ ((ge S 40 0 5).toInt ≤ 6 ∧ 3 * (7 - (ge S 40 0 5).toInt) + 2 ≤ d)) → zk (R 1 q S) (fun v S9 => RI S9 ∧ Fr 13421838336 S S9 ∧ ((ge S 40 0 4).toInt ≤ (ge S9 40 0 4).toInt ∧ (ge S9 40 0 5).toInt = (ge S 40 0 5).toInt ∧ (¬ (ge S 40 0 6).toInt = 0 → ¬ (ge S9 40 0 6).toInt = 0)))) (hR2 : ∀ (q : Int32) (S : fS), RI S → ((¬ (ge S 40 0 6).toInt = 0 ∧ 3 ≤ d) ∨ ((ge S 40 0 5).toInt ≤ 6 ∧ 3 * (7 - (ge S 40 0 5).toInt) + 3 ≤ d)) → zk (R 2 q S) (fun v S9 => RI S9 ∧ Fr 13421838336 S S9 ∧ ((ge S 40 0 4).toInt ≤ (ge S9 40 0 4).toInt ∧ (ge S9 40 0 5).toInt = (ge S 40 0 5).toInt ∧ (¬ (ge S 40 0 6).toInt = 0 → ¬ (ge S9 40 0 6).toInt = 0)))) (hR3 : ∀ (q : Int32) (S : fS), RI S → ((¬ (ge S 40 0 6).toInt = 0 ∧ 1 ≤ d) ∨ ((ge S 40 0 5).toInt ≤ 6 ∧ 3 * (7 - (ge S 40 0 5).toInt) + 4 ≤ d)) → zk (R 3 q S) (fun v S9 => RI S9 ∧ Fr 13421838336 S S9 ∧ ((ge S 40 0 4).toInt ≤ (ge S9 40 0 4).toInt ∧ (ge S9 40 0 5).toInt = (ge S 40 0 5).toInt ∧ (¬ (ge S 40 0 6).toInt = 0 → ¬ (ge S9 40 0 6).toInt = 0) ∧ 0 ≤ v.toInt ∧ v.toInt ≤ 1))) (hR4 : ∀ (q : Int32) (S : fS), RI S → ((¬ (ge S 40 0 6).toInt = 0 ∧ 2 ≤ d) ∨ ((ge S 40 0 5).toInt ≤ 6 ∧ 3 * (7 - (ge S 40 0 5).toInt) + 5 ≤ d)) → zk (R 4 q S) (fun v S9 => RI S9 ∧ Fr 13421838336 S S9 ∧ ((ge S 40 0 4).toInt ≤ (ge S9 40 0 4).toInt ∧ (ge S9 40 0 5).toInt = (ge S 40 0 5).toInt ∧ (¬ (ge S 40 0 6).toInt = 0 → ¬ (ge S9 40 0 6).toInt = 0) ∧ 0 ≤ v.toInt ∧ v.toInt ≤ 1))) (hR5 : ∀ (q : Int32) (S : fS), RI S → ((¬ (ge S 40 0 6).toInt = 0 ∧ 3 ≤ d) ∨ ((ge S 40 0 5).toInt ≤ 6 ∧ 3 * (7 - (ge S 40 0 5).toInt) + 6 ≤ d)) → zk (R 5 q S) (fun v S9 => RI S9 ∧ Fr 13421838336 S S9 ∧ ((ge S 40 0 4).toInt ≤ (ge S9 40 0 4).toInt ∧ (ge S9 40 0 5).toInt = (ge S 40 0 5).toInt ∧ (¬ (ge S 40 0 6).toInt = 0 → ¬ (ge S9 40 0 6).toInt = 0) ∧ 0 ≤ v.toInt ∧ v.toInt ≤ 1))) (S0 : fS) (RS0 : RI S0) (hpr : ((¬ (ge S0 40 0 6).toInt = 0 ∧ 1 ≤ d + 1) ∨ ((ge S0 40 0 5).toInt ≤ 6 ∧ 3 * (7 - (ge S0 40 0 5).toInt) + 4 ≤ d + 1))) : zk (N_X7_test R S0) (fun v S9 => RI S9 ∧ Fr 13421838336 S0 S9 ∧ ((ge S0 40 0 4).toInt ≤ (ge S9 40 0 4).toInt ∧ (ge S9 40 0 5).toInt = (ge S0 40 0 5).toInt ∧ (¬ (ge S0 40 0 6).toInt = 0 → ¬ (ge S9 40 0 6).toInt = 0) ∧ 0 ≤ v.toInt ∧ v.toInt ≤ 1)) := by
  have l0 : (0 : Int32).toInt = 0 := by decide
  have l1 : (1 : Int32).toInt = 1 := by decide
  have l3 : (3 : Int32).toInt = 3 := by decide
  have l4 : (4 : Int32).toInt = 4 := by decide
  have l5 : (5 : Int32).toInt = 5 := by decide
  have l6 : (6 : Int32).toInt = 6 := by decide
  have l14 : (14 : Int32).toInt = 14 := by decide
  have l15 : (15 : Int32).toInt = 15 := by decide
  have l20 : (20 : Int32).toInt = 20 := by decide
  have l60 : (60 : Int32).toInt = 60 := by decide
  have l61 : (61 : Int32).toInt = 61 := by decide
  have l62 : (62 : Int32).toInt = 62 := by decide
  have l91 : (91 : Int32).toInt = 91 := by decide
  have l93 : (93 : Int32).toInt = 93 := by decide
  have FS0 : Fr 13421838336 S0 S0 := Fr.rf
  unfold N_X7_test
  obtain ⟨y1, ey1⟩ : ∃ y : Int32, y = ge S0 40 0 2 := ⟨_, rfl⟩
  have gy1 : 0 ≤ y1.toInt ∧ y1.toInt ≤ 300 := by rw [ey1]; exact RS0 40 _ _
  have q2 : (ge S0 40 0 2).toInt = y1.toInt := congrArg Int32.toInt (show ge S0 40 0 2 = y1 from ey1.symm)
  obtain ⟨y3, ey3⟩ : ∃ y : Int32, y = ge S0 40 0 4 := ⟨_, rfl⟩
  have gy3 : 0 ≤ y3.toInt ∧ y3.toInt ≤ 300 := by rw [ey3]; exact RS0 40 _ _
  have q4 : (ge S0 40 0 4).toInt = y3.toInt := congrArg Int32.toInt (show ge S0 40 0 4 = y3 from ey3.symm)
  have q5 : byv S0 (ge S0 40 0 4) = byv S0 y3 := congrArg (byv S0) (show ge S0 40 0 4 = y3 from ey3.symm)
  obtain ⟨y6, ey6⟩ : ∃ y : Int32, y = ge S0 40 0 6 := ⟨_, rfl⟩
  have q7 : (ge S0 40 0 6).toInt = y6.toInt := congrArg Int32.toInt (show ge S0 40 0 6 = y6 from ey6.symm)
  obtain ⟨y8, ey8⟩ : ∃ y : Int32, y = ge S0 40 0 5 := ⟨_, rfl⟩
  have gy8 : 0 ≤ y8.toInt ∧ y8.toInt ≤ 7 := by rw [ey8]; exact RS0 40 _ _
  have q9 : (ge S0 40 0 5).toInt = y8.toInt := congrArg Int32.toInt (show ge S0 40 0 5 = y8 from ey8.symm)
  refine zk_ivq (x := y6) ey6.symm ?_
  have b10 := ti_bd y6
  refine zk_eq (fun c11 => ?_) (fun c11 => ?_)
  ·
    have q12 : (ge S0 40 0 2).toInt = y1.toInt := congrArg Int32.toInt (show ge S0 40 0 2 = y1 from ey1.symm)
    have q13 : (ge S0 40 0 4).toInt = y3.toInt := congrArg Int32.toInt (show ge S0 40 0 4 = y3 from ey3.symm)
    have q14 : byv S0 (ge S0 40 0 4) = byv S0 y3 := congrArg (byv S0) (show ge S0 40 0 4 = y3 from ey3.symm)
    have q15 : (ge S0 40 0 6).toInt = y6.toInt := congrArg Int32.toInt (show ge S0 40 0 6 = y6 from ey6.symm)
    have q16 : (ge S0 40 0 5).toInt = y8.toInt := congrArg Int32.toInt (show ge S0 40 0 5 = y8 from ey8.symm)
    refine zk_bd (s_F_X7_isWord _ _ _ _ _ _ RS0) (fun v17 T18 h17 => ?_)
    obtain ⟨RT18, fT18, h17⟩ := h17
    have FT18 := FS0.tr (fT18.sub (m := 13421838336) (by decide))
    have q19 : (ge T18 40 0 2).toInt = y1.toInt := congrArg Int32.toInt (show ge T18 40 0 2 = y1 from ((fT18.1 40 0 2 rfl).trans ey1.symm))
    obtain ⟨y20, ey20⟩ : ∃ y : Int32, y = ge T18 40 0 4 := ⟨_, rfl⟩
    have gy20 : 0 ≤ y20.toInt ∧ y20.toInt ≤ 300 := by rw [ey20]; exact RT18 40 _ _
    have q21 : (ge T18 40 0 4).toInt = y20.toInt := congrArg Int32.toInt (show ge T18 40 0 4 = y20 from ey20.symm)
    have q22 : byv T18 (ge T18 40 0 4) = byv T18 y20 := congrArg (byv T18) (show ge T18 40 0 4 = y20 from ey20.symm)
    have q23 := byv_fr FT18 rfl y20
    have q24 : (ge T18 40 0 6).toInt = y6.toInt := congrArg Int32.toInt (show ge T18 40 0 6 = y6 from ((fT18.1 40 0 6 rfl).trans ey6.symm))
    have q25 : (ge T18 40 0 5).toInt = y8.toInt := congrArg Int32.toInt (show ge T18 40 0 5 = y8 from ((fT18.1 40 0 5 rfl).trans ey8.symm))
    have h17w := isw3 h17.2 (by decide)
    replace h17 := h17.1
    refine zk_eq (fun c26 => ?_) (fun c26 => ?_)
    ·
      refine zk_ivq (x := y20) ey20.symm ?_
      refine zk_bd (s_F_X7_byteAt _ _ RT18 (by omega)) (fun v27 T28 h27 => ?_)
      obtain ⟨rfl, h27⟩ := h27
      have h27b := byv_bd RT18 y20
      rw [← h27] at h27b
      have q29 : (ge T18 40 0 2).toInt = y1.toInt := congrArg Int32.toInt (show ge T18 40 0 2 = y1 from ((fT18.1 40 0 2 rfl).trans ey1.symm))
      have q30 : (ge T18 40 0 4).toInt = y20.toInt := congrArg Int32.toInt (show ge T18 40 0 4 = y20 from ey20.symm)
      have q31 : byv T18 (ge T18 40 0 4) = byv T18 y20 := congrArg (byv T18) (show ge T18 40 0 4 = y20 from ey20.symm)
      have q32 := byv_fr FT18 rfl y20
      have q33 : (ge T18 40 0 6).toInt = y6.toInt := congrArg Int32.toInt (show ge T18 40 0 6 = y6 from ((fT18.1 40 0 6 rfl).trans ey6.symm))
      have q34 : (ge T18 40 0 5).toInt = y8.toInt := congrArg Int32.toInt (show ge T18 40 0 5 = y8 from ((fT18.1 40 0 5 rfl).trans ey8.symm))
      refine zk_eq (fun c35 => ?_) (fun c35 => ?_)
      ·
        have q36 : (ge T18 40 0 2).toInt = y1.toInt := congrArg Int32.toInt (show ge T18 40 0 2 = y1 from ((fT18.1 40 0 2 rfl).trans ey1.symm))
        have q37 : (ge T18 40 0 4).toInt = y20.toInt := congrArg Int32.toInt (show ge T18 40 0 4 = y20 from ey20.symm)
        have q38 : byv T18 (ge T18 40 0 4) = byv T18 y20 := congrArg (byv T18) (show ge T18 40 0 4 = y20 from ey20.symm)
        have q39 := byv_fr FT18 rfl y20
        have q40 : (ge T18 40 0 6).toInt = y6.toInt := congrArg Int32.toInt (show ge T18 40 0 6 = y6 from ((fT18.1 40 0 6 rfl).trans ey6.symm))
        have q41 : (ge T18 40 0 5).toInt = y8.toInt := congrArg Int32.toInt (show ge T18 40 0 5 = y8 from ((fT18.1 40 0 5 rfl).trans ey8.symm))
        refine zk_bd (s_F_X7_opens _ _ RT18 (by omega) (by omega)) (fun v42 T43 h42 => ?_)
        obtain ⟨RT43, fT43, h42⟩ := h42
        have FT43 := FT18.tr (fT43.sub (m := 13421838336) (by decide))
        have q44 : (ge T43 40 0 2).toInt = y1.toInt := congrArg Int32.toInt (show ge T43 40 0 2 = y1 from ((fT43.1 40 0 2 rfl).trans ((fT18.1 40 0 2 rfl).trans ey1.symm)))
        obtain ⟨y45, ey45⟩ : ∃ y : Int32, y = ge T43 40 0 4 := ⟨_, rfl⟩
        have gy45 : 0 ≤ y45.toInt ∧ y45.toInt ≤ 300 := by rw [ey45]; exact RT43 40 _ _
        have q46 : (ge T43 40 0 4).toInt = y45.toInt := congrArg Int32.toInt (show ge T43 40 0 4 = y45 from ey45.symm)
        have q47 : byv T43 (ge T43 40 0 4) = byv T43 y45 := congrArg (byv T43) (show ge T43 40 0 4 = y45 from ey45.symm)
        have q48 := byv_fr FT43 rfl y45
        obtain ⟨y49, ey49⟩ : ∃ y : Int32, y = ge T43 40 0 6 := ⟨_, rfl⟩
        have q50 : (ge T43 40 0 6).toInt = y49.toInt := congrArg Int32.toInt (show ge T43 40 0 6 = y49 from ey49.symm)
        obtain ⟨y51, ey51⟩ : ∃ y : Int32, y = ge T43 40 0 5 := ⟨_, rfl⟩
        have gy51 : 0 ≤ y51.toInt ∧ y51.toInt ≤ 7 := by rw [ey51]; exact RT43 40 _ _
        have q52 : (ge T43 40 0 5).toInt = y51.toInt := congrArg Int32.toInt (show ge T43 40 0 5 = y51 from ey51.symm)
        have q53 : (ge T43 40 0 2).toInt = y1.toInt := congrArg Int32.toInt (show ge T43 40 0 2 = y1 from ((fT43.1 40 0 2 rfl).trans ((fT18.1 40 0 2 rfl).trans ey1.symm)))
        have q54 : (ge T43 40 0 4).toInt = y45.toInt := congrArg Int32.toInt (show ge T43 40 0 4 = y45 from ey45.symm)
        have q55 : byv T43 (ge T43 40 0 4) = byv T43 y45 := congrArg (byv T43) (show ge T43 40 0 4 = y45 from ey45.symm)
        have q56 := byv_fr FT43 rfl y45
        have q57 : (ge T43 40 0 6).toInt = y49.toInt := congrArg Int32.toInt (show ge T43 40 0 6 = y49 from ey49.symm)
        have q58 : (ge T43 40 0 5).toInt = y51.toInt := congrArg Int32.toInt (show ge T43 40 0 5 = y51 from ey51.symm)
        refine zk_bd (hR5 _ _ RT43 (by omega)) (fun v59 T60 h59 => ?_)
        obtain ⟨RT60, fT60, h59⟩ := h59
        have FT60 := FT43.tr (fT60.sub (m := 13421838336) (by decide))
        have q61 : (ge T60 40 0 2).toInt = y1.toInt := congrArg Int32.toInt (show ge T60 40 0 2 = y1 from ((fT60.1 40 0 2 rfl).trans ((fT43.1 40 0 2 rfl).trans ((fT18.1 40 0 2 rfl).trans ey1.symm))))
        obtain ⟨y62, ey62⟩ : ∃ y : Int32, y = ge T60 40 0 4 := ⟨_, rfl⟩
        have gy62 : 0 ≤ y62.toInt ∧ y62.toInt ≤ 300 := by rw [ey62]; exact RT60 40 _ _
        have q63 : (ge T60 40 0 4).toInt = y62.toInt := congrArg Int32.toInt (show ge T60 40 0 4 = y62 from ey62.symm)
        have q64 : byv T60 (ge T60 40 0 4) = byv T60 y62 := congrArg (byv T60) (show ge T60 40 0 4 = y62 from ey62.symm)
        have q65 := byv_fr FT60 rfl y62
        obtain ⟨y66, ey66⟩ : ∃ y : Int32, y = ge T60 40 0 6 := ⟨_, rfl⟩
        have q67 : (ge T60 40 0 6).toInt = y66.toInt := congrArg Int32.toInt (show ge T60 40 0 6 = y66 from ey66.symm)
        obtain ⟨y68, ey68⟩ : ∃ y : Int32, y = ge T60 40 0 5 := ⟨_, rfl⟩
        have gy68 : 0 ≤ y68.toInt ∧ y68.toInt ≤ 7 := by rw [ey68]; exact RT60 40 _ _
        have q69 : (ge T60 40 0 5).toInt = y68.toInt := congrArg Int32.toInt (show ge T60 40 0 5 = y68 from ey68.symm)
        have q70 : (ge T60 40 0 2).toInt = y1.toInt := congrArg Int32.toInt (show ge T60 40 0 2 = y1 from ((fT60.1 40 0 2 rfl).trans ((fT43.1 40 0 2 rfl).trans ((fT18.1 40 0 2 rfl).trans ey1.symm))))
        have q71 : (ge T60 40 0 4).toInt = y62.toInt := congrArg Int32.toInt (show ge T60 40 0 4 = y62 from ey62.symm)
        have q72 : byv T60 (ge T60 40 0 4) = byv T60 y62 := congrArg (byv T60) (show ge T60 40 0 4 = y62 from ey62.symm)
        have q73 := byv_fr FT60 rfl y62
        have q74 : (ge T60 40 0 6).toInt = y66.toInt := congrArg Int32.toInt (show ge T60 40 0 6 = y66 from ey66.symm)
        have q75 : (ge T60 40 0 5).toInt = y68.toInt := congrArg Int32.toInt (show ge T60 40 0 5 = y68 from ey68.symm)
        refine zk_bd (s_F_X7_sign _ _ RT60 (by omega)) (fun v76 T77 h76 => ?_)
        obtain ⟨RT77, fT77, h76⟩ := h76
        have FT77 := FT60.tr (fT77.sub (m := 13421838336) (by decide))
        have q78 : (ge T77 40 0 2).toInt = y1.toInt := congrArg Int32.toInt (show ge T77 40 0 2 = y1 from ((fT77.1 40 0 2 rfl).trans ((fT60.1 40 0 2 rfl).trans ((fT43.1 40 0 2 rfl).trans ((fT18.1 40 0 2 rfl).trans ey1.symm)))))
        obtain ⟨y79, ey79⟩ : ∃ y : Int32, y = ge T77 40 0 4 := ⟨_, rfl⟩
        have gy79 : 0 ≤ y79.toInt ∧ y79.toInt ≤ 300 := by rw [ey79]; exact RT77 40 _ _
        have q80 : (ge T77 40 0 4).toInt = y79.toInt := congrArg Int32.toInt (show ge T77 40 0 4 = y79 from ey79.symm)
        have q81 : byv T77 (ge T77 40 0 4) = byv T77 y79 := congrArg (byv T77) (show ge T77 40 0 4 = y79 from ey79.symm)
        have q82 := byv_fr FT77 rfl y79
        obtain ⟨y83, ey83⟩ : ∃ y : Int32, y = ge T77 40 0 6 := ⟨_, rfl⟩
        have q84 : (ge T77 40 0 6).toInt = y83.toInt := congrArg Int32.toInt (show ge T77 40 0 6 = y83 from ey83.symm)
        have q85 : (ge T77 40 0 5).toInt = y68.toInt := congrArg Int32.toInt (show ge T77 40 0 5 = y68 from ((fT77.1 40 0 5 rfl).trans ey68.symm))
        refine zk_ivq (x := y68) ((fT77.1 40 0 5 rfl).trans ey68.symm) ?_
        refine zk_iv fun x86 e86 => ?_
        have gx86 : x86.toInt = y68.toInt - (1 : Int32).toInt := by rw [e86]; exact ti_sub (by omega) (by omega)
        refine zk_sv fun S87 E87 => ?_
        have RS87 : RI S87 := by rw [E87]; exact RT77.wr (show (0 : Int) ≤ x86.toInt by omega) (show x86.toInt ≤ 7 by omega)
        have FS87 : Fr 13421838336 S0 S87 := by rw [E87]; exact FT77.wr (k := 32) rfl rfl
        refine zk_gd (z01 (by omega)) ?_
        have q88 : (ge S87 40 0 2).toInt = y1.toInt := congrArg Int32.toInt (show ge S87 40 0 2 = y1 from (by rw [E87]; exact (ge_puj (by decide)).trans ((fT77.1 40 0 2 rfl).trans ((fT60.1 40 0 2 rfl).trans ((fT43.1 40 0 2 rfl).trans ((fT18.1 40 0 2 rfl).trans ey1.symm))))))
        have q89 : (ge S87 40 0 4).toInt = y79.toInt := congrArg Int32.toInt (show ge S87 40 0 4 = y79 from (by rw [E87]; exact (ge_puj (by decide)).trans ey79.symm))
        have q90 : byv S87 (ge S87 40 0 4) = byv S87 y79 := congrArg (byv S87) (show ge S87 40 0 4 = y79 from (by rw [E87]; exact (ge_puj (by decide)).trans ey79.symm))
        have q91 := byv_fr FS87 rfl y79
        have q92 : (ge S87 40 0 6).toInt = y83.toInt := congrArg Int32.toInt (show ge S87 40 0 6 = y83 from (by rw [E87]; exact (ge_puj (by decide)).trans ey83.symm))
        have q93 : (ge S87 40 0 5).toInt = x86.toInt := congrArg Int32.toInt (show ge S87 40 0 5 = x86 from (by rw [E87]; exact ge_pus))
        exact zk_some ⟨RS87, FS87, by omega⟩
      ·
        have q94 : (ge T18 40 0 2).toInt = y1.toInt := congrArg Int32.toInt (show ge T18 40 0 2 = y1 from ((fT18.1 40 0 2 rfl).trans ey1.symm))
        have q95 : (ge T18 40 0 4).toInt = y20.toInt := congrArg Int32.toInt (show ge T18 40 0 4 = y20 from ey20.symm)
        have q96 : byv T18 (ge T18 40 0 4) = byv T18 y20 := congrArg (byv T18) (show ge T18 40 0 4 = y20 from ey20.symm)
        have q97 := byv_fr FT18 rfl y20
        have q98 : (ge T18 40 0 6).toInt = y6.toInt := congrArg Int32.toInt (show ge T18 40 0 6 = y6 from ((fT18.1 40 0 6 rfl).trans ey6.symm))
        have q99 : (ge T18 40 0 5).toInt = y8.toInt := congrArg Int32.toInt (show ge T18 40 0 5 = y8 from ((fT18.1 40 0 5 rfl).trans ey8.symm))
        refine zk_bd (hR2 _ _ RT18 (by omega)) (fun v100 T101 h100 => ?_)
        obtain ⟨RT101, fT101, h100⟩ := h100
        have FT101 := FT18.tr (fT101.sub (m := 13421838336) (by decide))
        have q102 : (ge T101 40 0 2).toInt = y1.toInt := congrArg Int32.toInt (show ge T101 40 0 2 = y1 from ((fT101.1 40 0 2 rfl).trans ((fT18.1 40 0 2 rfl).trans ey1.symm)))
        obtain ⟨y103, ey103⟩ : ∃ y : Int32, y = ge T101 40 0 4 := ⟨_, rfl⟩
        have gy103 : 0 ≤ y103.toInt ∧ y103.toInt ≤ 300 := by rw [ey103]; exact RT101 40 _ _
        have q104 : (ge T101 40 0 4).toInt = y103.toInt := congrArg Int32.toInt (show ge T101 40 0 4 = y103 from ey103.symm)
        have q105 : byv T101 (ge T101 40 0 4) = byv T101 y103 := congrArg (byv T101) (show ge T101 40 0 4 = y103 from ey103.symm)
        have q106 := byv_fr FT101 rfl y103
        obtain ⟨y107, ey107⟩ : ∃ y : Int32, y = ge T101 40 0 6 := ⟨_, rfl⟩
        have q108 : (ge T101 40 0 6).toInt = y107.toInt := congrArg Int32.toInt (show ge T101 40 0 6 = y107 from ey107.symm)
        obtain ⟨y109, ey109⟩ : ∃ y : Int32, y = ge T101 40 0 5 := ⟨_, rfl⟩
        have gy109 : 0 ≤ y109.toInt ∧ y109.toInt ≤ 7 := by rw [ey109]; exact RT101 40 _ _
        have q110 : (ge T101 40 0 5).toInt = y109.toInt := congrArg Int32.toInt (show ge T101 40 0 5 = y109 from ey109.symm)
        have q111 : (ge T101 40 0 2).toInt = y1.toInt := congrArg Int32.toInt (show ge T101 40 0 2 = y1 from ((fT101.1 40 0 2 rfl).trans ((fT18.1 40 0 2 rfl).trans ey1.symm)))
        have q112 : (ge T101 40 0 4).toInt = y103.toInt := congrArg Int32.toInt (show ge T101 40 0 4 = y103 from ey103.symm)
        have q113 : byv T101 (ge T101 40 0 4) = byv T101 y103 := congrArg (byv T101) (show ge T101 40 0 4 = y103 from ey103.symm)
        have q114 := byv_fr FT101 rfl y103
        have q115 : (ge T101 40 0 6).toInt = y107.toInt := congrArg Int32.toInt (show ge T101 40 0 6 = y107 from ey107.symm)
        have q116 : (ge T101 40 0 5).toInt = y109.toInt := congrArg Int32.toInt (show ge T101 40 0 5 = y109 from ey109.symm)
        refine zk_bd (s_F_X7_blanks _ RT101) (fun v117 T118 h117 => ?_)
        obtain ⟨RT118, fT118, h117⟩ := h117
        have FT118 := FT101.tr (fT118.sub (m := 13421838336) (by decide))
        have q119 : (ge T118 40 0 2).toInt = y1.toInt := congrArg Int32.toInt (show ge T118 40 0 2 = y1 from ((fT118.1 40 0 2 rfl).trans ((fT101.1 40 0 2 rfl).trans ((fT18.1 40 0 2 rfl).trans ey1.symm))))
        obtain ⟨y120, ey120⟩ : ∃ y : Int32, y = ge T118 40 0 4 := ⟨_, rfl⟩
        have gy120 : 0 ≤ y120.toInt ∧ y120.toInt ≤ 300 := by rw [ey120]; exact RT118 40 _ _
        have q121 : (ge T118 40 0 4).toInt = y120.toInt := congrArg Int32.toInt (show ge T118 40 0 4 = y120 from ey120.symm)
        have q122 : byv T118 (ge T118 40 0 4) = byv T118 y120 := congrArg (byv T118) (show ge T118 40 0 4 = y120 from ey120.symm)
        have q123 := byv_fr FT118 rfl y120
        have q124 : (ge T118 40 0 6).toInt = y107.toInt := congrArg Int32.toInt (show ge T118 40 0 6 = y107 from ((fT118.1 40 0 6 rfl).trans ey107.symm))
        have q125 : (ge T118 40 0 5).toInt = y109.toInt := congrArg Int32.toInt (show ge T118 40 0 5 = y109 from ((fT118.1 40 0 5 rfl).trans ey109.symm))
        refine zk_ivq (x := y120) ey120.symm ?_
        refine zk_bd (s_F_X7_byteAt _ _ RT118 (by omega)) (fun v126 T127 h126 => ?_)
        obtain ⟨rfl, h126⟩ := h126
        have h126b := byv_bd RT118 y120
        rw [← h126] at h126b
        have q128 : (ge T118 40 0 2).toInt = y1.toInt := congrArg Int32.toInt (show ge T118 40 0 2 = y1 from ((fT118.1 40 0 2 rfl).trans ((fT101.1 40 0 2 rfl).trans ((fT18.1 40 0 2 rfl).trans ey1.symm))))
        have q129 : (ge T118 40 0 4).toInt = y120.toInt := congrArg Int32.toInt (show ge T118 40 0 4 = y120 from ey120.symm)
        have q130 : byv T118 (ge T118 40 0 4) = byv T118 y120 := congrArg (byv T118) (show ge T118 40 0 4 = y120 from ey120.symm)
        have q131 := byv_fr FT118 rfl y120
        have q132 : (ge T118 40 0 6).toInt = y107.toInt := congrArg Int32.toInt (show ge T118 40 0 6 = y107 from ((fT118.1 40 0 6 rfl).trans ey107.symm))
        have q133 : (ge T118 40 0 5).toInt = y109.toInt := congrArg Int32.toInt (show ge T118 40 0 5 = y109 from ((fT118.1 40 0 5 rfl).trans ey109.symm))
        refine zk_eq (fun c134 => ?_) (fun c134 => ?_)
        ·
          unfold B_X7_test_140
          refine zk_ivq (x := y120) ey120.symm ?_
          refine zk_iv fun x135 e135 => ?_
          have gx135 : x135.toInt = y120.toInt + (1 : Int32).toInt := by rw [e135]; exact ti_add (by omega) (by omega)
          refine zk_sv fun S136 E136 => ?_
          have RS136 : RI S136 := by rw [E136]; exact RT118.wr (show (0 : Int) ≤ x135.toInt by omega) (show x135.toInt ≤ 300 by omega)
          have FS136 : Fr 13421838336 S0 S136 := by rw [E136]; exact FT118.wr (k := 29) rfl rfl
          have q137 : (ge S136 40 0 2).toInt = y1.toInt := congrArg Int32.toInt (show ge S136 40 0 2 = y1 from (by rw [E136]; exact (ge_puj (by decide)).trans ((fT118.1 40 0 2 rfl).trans ((fT101.1 40 0 2 rfl).trans ((fT18.1 40 0 2 rfl).trans ey1.symm)))))
          have q138 : (ge S136 40 0 4).toInt = x135.toInt := congrArg Int32.toInt (show ge S136 40 0 4 = x135 from (by rw [E136]; exact ge_pus))
          have q139 : byv S136 (ge S136 40 0 4) = byv S136 x135 := congrArg (byv S136) (show ge S136 40 0 4 = x135 from (by rw [E136]; exact ge_pus))
          have q140 := byv_fr FS136 rfl x135
          have q141 : (ge S136 40 0 6).toInt = y107.toInt := congrArg Int32.toInt (show ge S136 40 0 6 = y107 from (by rw [E136]; exact (ge_puj (by decide)).trans ((fT118.1 40 0 6 rfl).trans ey107.symm)))
          have q142 : (ge S136 40 0 5).toInt = y109.toInt := congrArg Int32.toInt (show ge S136 40 0 5 = y109 from (by rw [E136]; exact (ge_puj (by decide)).trans ((fT118.1 40 0 5 rfl).trans ey109.symm)))
          refine zk_bd (hR2 _ _ RS136 (by omega)) (fun v143 T144 h143 => ?_)
          obtain ⟨RT144, fT144, h143⟩ := h143
          have FT144 := FS136.tr (fT144.sub (m := 13421838336) (by decide))
          have q145 : (ge T144 40 0 2).toInt = y1.toInt := congrArg Int32.toInt (show ge T144 40 0 2 = y1 from ((fT144.1 40 0 2 rfl).trans (by rw [E136]; exact (ge_puj (by decide)).trans ((fT118.1 40 0 2 rfl).trans ((fT101.1 40 0 2 rfl).trans ((fT18.1 40 0 2 rfl).trans ey1.symm))))))
          obtain ⟨y146, ey146⟩ : ∃ y : Int32, y = ge T144 40 0 4 := ⟨_, rfl⟩
          have gy146 : 0 ≤ y146.toInt ∧ y146.toInt ≤ 300 := by rw [ey146]; exact RT144 40 _ _
          have q147 : (ge T144 40 0 4).toInt = y146.toInt := congrArg Int32.toInt (show ge T144 40 0 4 = y146 from ey146.symm)
          have q148 : byv T144 (ge T144 40 0 4) = byv T144 y146 := congrArg (byv T144) (show ge T144 40 0 4 = y146 from ey146.symm)
          have q149 := byv_fr FT144 rfl y146
          obtain ⟨y150, ey150⟩ : ∃ y : Int32, y = ge T144 40 0 6 := ⟨_, rfl⟩
          have q151 : (ge T144 40 0 6).toInt = y150.toInt := congrArg Int32.toInt (show ge T144 40 0 6 = y150 from ey150.symm)
          obtain ⟨y152, ey152⟩ : ∃ y : Int32, y = ge T144 40 0 5 := ⟨_, rfl⟩
          have gy152 : 0 ≤ y152.toInt ∧ y152.toInt ≤ 7 := by rw [ey152]; exact RT144 40 _ _
          have q153 : (ge T144 40 0 5).toInt = y152.toInt := congrArg Int32.toInt (show ge T144 40 0 5 = y152 from ey152.symm)
          refine zk_eq (fun c154 => ?_) (fun c154 => ?_)
          ·
            refine zk_le (fun c155 => ?_) (fun c155 => ?_)
            ·
              have q156 : (ge T144 40 0 2).toInt = y1.toInt := congrArg Int32.toInt (show ge T144 40 0 2 = y1 from ((fT144.1 40 0 2 rfl).trans (by rw [E136]; exact (ge_puj (by decide)).trans ((fT118.1 40 0 2 rfl).trans ((fT101.1 40 0 2 rfl).trans ((fT18.1 40 0 2 rfl).trans ey1.symm))))))
              have q157 : (ge T144 40 0 4).toInt = y146.toInt := congrArg Int32.toInt (show ge T144 40 0 4 = y146 from ey146.symm)
              have q158 : byv T144 (ge T144 40 0 4) = byv T144 y146 := congrArg (byv T144) (show ge T144 40 0 4 = y146 from ey146.symm)
              have q159 := byv_fr FT144 rfl y146
              have q160 : (ge T144 40 0 6).toInt = y150.toInt := congrArg Int32.toInt (show ge T144 40 0 6 = y150 from ey150.symm)
              have q161 : (ge T144 40 0 5).toInt = y152.toInt := congrArg Int32.toInt (show ge T144 40 0 5 = y152 from ey152.symm)
              exact zk_some ⟨RT144, FT144, by omega⟩
            ·
              have q162 : (ge T144 40 0 2).toInt = y1.toInt := congrArg Int32.toInt (show ge T144 40 0 2 = y1 from ((fT144.1 40 0 2 rfl).trans (by rw [E136]; exact (ge_puj (by decide)).trans ((fT118.1 40 0 2 rfl).trans ((fT101.1 40 0 2 rfl).trans ((fT18.1 40 0 2 rfl).trans ey1.symm))))))
              have q163 : (ge T144 40 0 4).toInt = y146.toInt := congrArg Int32.toInt (show ge T144 40 0 4 = y146 from ey146.symm)
              have q164 : byv T144 (ge T144 40 0 4) = byv T144 y146 := congrArg (byv T144) (show ge T144 40 0 4 = y146 from ey146.symm)
              have q165 := byv_fr FT144 rfl y146
              have q166 : (ge T144 40 0 6).toInt = y150.toInt := congrArg Int32.toInt (show ge T144 40 0 6 = y150 from ey150.symm)
              have q167 : (ge T144 40 0 5).toInt = y152.toInt := congrArg Int32.toInt (show ge T144 40 0 5 = y152 from ey152.symm)
              exact zk_some ⟨RT144, FT144, by omega⟩
          ·
            exact False.elim (by omega)
        ·
          refine zk_eq (fun c168 => ?_) (fun c168 => ?_)
          ·
            unfold B_X7_test_140
            refine zk_ivq (x := y120) ey120.symm ?_
            refine zk_iv fun x169 e169 => ?_
            have gx169 : x169.toInt = y120.toInt + (1 : Int32).toInt := by rw [e169]; exact ti_add (by omega) (by omega)
            refine zk_sv fun S170 E170 => ?_
            have RS170 : RI S170 := by rw [E170]; exact RT118.wr (show (0 : Int) ≤ x169.toInt by omega) (show x169.toInt ≤ 300 by omega)
            have FS170 : Fr 13421838336 S0 S170 := by rw [E170]; exact FT118.wr (k := 29) rfl rfl
            have q171 : (ge S170 40 0 2).toInt = y1.toInt := congrArg Int32.toInt (show ge S170 40 0 2 = y1 from (by rw [E170]; exact (ge_puj (by decide)).trans ((fT118.1 40 0 2 rfl).trans ((fT101.1 40 0 2 rfl).trans ((fT18.1 40 0 2 rfl).trans ey1.symm)))))
            have q172 : (ge S170 40 0 4).toInt = x169.toInt := congrArg Int32.toInt (show ge S170 40 0 4 = x169 from (by rw [E170]; exact ge_pus))
            have q173 : byv S170 (ge S170 40 0 4) = byv S170 x169 := congrArg (byv S170) (show ge S170 40 0 4 = x169 from (by rw [E170]; exact ge_pus))
            have q174 := byv_fr FS170 rfl x169
            have q175 : (ge S170 40 0 6).toInt = y107.toInt := congrArg Int32.toInt (show ge S170 40 0 6 = y107 from (by rw [E170]; exact (ge_puj (by decide)).trans ((fT118.1 40 0 6 rfl).trans ey107.symm)))
            have q176 : (ge S170 40 0 5).toInt = y109.toInt := congrArg Int32.toInt (show ge S170 40 0 5 = y109 from (by rw [E170]; exact (ge_puj (by decide)).trans ((fT118.1 40 0 5 rfl).trans ey109.symm)))
            refine zk_bd (hR2 _ _ RS170 (by omega)) (fun v177 T178 h177 => ?_)
            obtain ⟨RT178, fT178, h177⟩ := h177
            have FT178 := FS170.tr (fT178.sub (m := 13421838336) (by decide))
            have q179 : (ge T178 40 0 2).toInt = y1.toInt := congrArg Int32.toInt (show ge T178 40 0 2 = y1 from ((fT178.1 40 0 2 rfl).trans (by rw [E170]; exact (ge_puj (by decide)).trans ((fT118.1 40 0 2 rfl).trans ((fT101.1 40 0 2 rfl).trans ((fT18.1 40 0 2 rfl).trans ey1.symm))))))
            obtain ⟨y180, ey180⟩ : ∃ y : Int32, y = ge T178 40 0 4 := ⟨_, rfl⟩
            have gy180 : 0 ≤ y180.toInt ∧ y180.toInt ≤ 300 := by rw [ey180]; exact RT178 40 _ _
            have q181 : (ge T178 40 0 4).toInt = y180.toInt := congrArg Int32.toInt (show ge T178 40 0 4 = y180 from ey180.symm)
            have q182 : byv T178 (ge T178 40 0 4) = byv T178 y180 := congrArg (byv T178) (show ge T178 40 0 4 = y180 from ey180.symm)
            have q183 := byv_fr FT178 rfl y180
            obtain ⟨y184, ey184⟩ : ∃ y : Int32, y = ge T178 40 0 6 := ⟨_, rfl⟩
            have q185 : (ge T178 40 0 6).toInt = y184.toInt := congrArg Int32.toInt (show ge T178 40 0 6 = y184 from ey184.symm)
            obtain ⟨y186, ey186⟩ : ∃ y : Int32, y = ge T178 40 0 5 := ⟨_, rfl⟩
            have gy186 : 0 ≤ y186.toInt ∧ y186.toInt ≤ 7 := by rw [ey186]; exact RT178 40 _ _
            have q187 : (ge T178 40 0 5).toInt = y186.toInt := congrArg Int32.toInt (show ge T178 40 0 5 = y186 from ey186.symm)
            refine zk_eq (fun c188 => ?_) (fun c188 => ?_)
            ·
              exact False.elim (by omega)
            ·
              refine zk_eq (fun c189 => ?_) (fun c189 => ?_)
              ·
                refine zk_le (fun c190 => ?_) (fun c190 => ?_)
                ·
                  have q191 : (ge T178 40 0 2).toInt = y1.toInt := congrArg Int32.toInt (show ge T178 40 0 2 = y1 from ((fT178.1 40 0 2 rfl).trans (by rw [E170]; exact (ge_puj (by decide)).trans ((fT118.1 40 0 2 rfl).trans ((fT101.1 40 0 2 rfl).trans ((fT18.1 40 0 2 rfl).trans ey1.symm))))))
                  have q192 : (ge T178 40 0 4).toInt = y180.toInt := congrArg Int32.toInt (show ge T178 40 0 4 = y180 from ey180.symm)
                  have q193 : byv T178 (ge T178 40 0 4) = byv T178 y180 := congrArg (byv T178) (show ge T178 40 0 4 = y180 from ey180.symm)
                  have q194 := byv_fr FT178 rfl y180
                  have q195 : (ge T178 40 0 6).toInt = y184.toInt := congrArg Int32.toInt (show ge T178 40 0 6 = y184 from ey184.symm)
                  have q196 : (ge T178 40 0 5).toInt = y186.toInt := congrArg Int32.toInt (show ge T178 40 0 5 = y186 from ey186.symm)
                  exact zk_some ⟨RT178, FT178, by omega⟩
                ·
                  have q197 : (ge T178 40 0 2).toInt = y1.toInt := congrArg Int32.toInt (show ge T178 40 0 2 = y1 from ((fT178.1 40 0 2 rfl).trans (by rw [E170]; exact (ge_puj (by decide)).trans ((fT118.1 40 0 2 rfl).trans ((fT101.1 40 0 2 rfl).trans ((fT18.1 40 0 2 rfl).trans ey1.symm))))))
                  have q198 : (ge T178 40 0 4).toInt = y180.toInt := congrArg Int32.toInt (show ge T178 40 0 4 = y180 from ey180.symm)
                  have q199 : byv T178 (ge T178 40 0 4) = byv T178 y180 := congrArg (byv T178) (show ge T178 40 0 4 = y180 from ey180.symm)
                  have q200 := byv_fr FT178 rfl y180
                  have q201 : (ge T178 40 0 6).toInt = y184.toInt := congrArg Int32.toInt (show ge T178 40 0 6 = y184 from ey184.symm)
                  have q202 : (ge T178 40 0 5).toInt = y186.toInt := congrArg Int32.toInt (show ge T178 40 0 5 = y186 from ey186.symm)
                  exact zk_some ⟨RT178, FT178, by omega⟩
              ·
                exact False.elim (by omega)
          ·
            refine zk_eq (fun c203 => ?_) (fun c203 => ?_)
            ·
              unfold B_X7_test_140
              refine zk_ivq (x := y120) ey120.symm ?_
              refine zk_iv fun x204 e204 => ?_
              have gx204 : x204.toInt = y120.toInt + (1 : Int32).toInt := by rw [e204]; exact ti_add (by omega) (by omega)
              refine zk_sv fun S205 E205 => ?_
              have RS205 : RI S205 := by rw [E205]; exact RT118.wr (show (0 : Int) ≤ x204.toInt by omega) (show x204.toInt ≤ 300 by omega)
              have FS205 : Fr 13421838336 S0 S205 := by rw [E205]; exact FT118.wr (k := 29) rfl rfl
              have q206 : (ge S205 40 0 2).toInt = y1.toInt := congrArg Int32.toInt (show ge S205 40 0 2 = y1 from (by rw [E205]; exact (ge_puj (by decide)).trans ((fT118.1 40 0 2 rfl).trans ((fT101.1 40 0 2 rfl).trans ((fT18.1 40 0 2 rfl).trans ey1.symm)))))
              have q207 : (ge S205 40 0 4).toInt = x204.toInt := congrArg Int32.toInt (show ge S205 40 0 4 = x204 from (by rw [E205]; exact ge_pus))
              have q208 : byv S205 (ge S205 40 0 4) = byv S205 x204 := congrArg (byv S205) (show ge S205 40 0 4 = x204 from (by rw [E205]; exact ge_pus))
              have q209 := byv_fr FS205 rfl x204
              have q210 : (ge S205 40 0 6).toInt = y107.toInt := congrArg Int32.toInt (show ge S205 40 0 6 = y107 from (by rw [E205]; exact (ge_puj (by decide)).trans ((fT118.1 40 0 6 rfl).trans ey107.symm)))
              have q211 : (ge S205 40 0 5).toInt = y109.toInt := congrArg Int32.toInt (show ge S205 40 0 5 = y109 from (by rw [E205]; exact (ge_puj (by decide)).trans ((fT118.1 40 0 5 rfl).trans ey109.symm)))
              refine zk_bd (hR2 _ _ RS205 (by omega)) (fun v212 T213 h212 => ?_)
              obtain ⟨RT213, fT213, h212⟩ := h212
              have FT213 := FS205.tr (fT213.sub (m := 13421838336) (by decide))
              have q214 : (ge T213 40 0 2).toInt = y1.toInt := congrArg Int32.toInt (show ge T213 40 0 2 = y1 from ((fT213.1 40 0 2 rfl).trans (by rw [E205]; exact (ge_puj (by decide)).trans ((fT118.1 40 0 2 rfl).trans ((fT101.1 40 0 2 rfl).trans ((fT18.1 40 0 2 rfl).trans ey1.symm))))))
              obtain ⟨y215, ey215⟩ : ∃ y : Int32, y = ge T213 40 0 4 := ⟨_, rfl⟩
              have gy215 : 0 ≤ y215.toInt ∧ y215.toInt ≤ 300 := by rw [ey215]; exact RT213 40 _ _
              have q216 : (ge T213 40 0 4).toInt = y215.toInt := congrArg Int32.toInt (show ge T213 40 0 4 = y215 from ey215.symm)
              have q217 : byv T213 (ge T213 40 0 4) = byv T213 y215 := congrArg (byv T213) (show ge T213 40 0 4 = y215 from ey215.symm)
              have q218 := byv_fr FT213 rfl y215
              obtain ⟨y219, ey219⟩ : ∃ y : Int32, y = ge T213 40 0 6 := ⟨_, rfl⟩
              have q220 : (ge T213 40 0 6).toInt = y219.toInt := congrArg Int32.toInt (show ge T213 40 0 6 = y219 from ey219.symm)
              obtain ⟨y221, ey221⟩ : ∃ y : Int32, y = ge T213 40 0 5 := ⟨_, rfl⟩
              have gy221 : 0 ≤ y221.toInt ∧ y221.toInt ≤ 7 := by rw [ey221]; exact RT213 40 _ _
              have q222 : (ge T213 40 0 5).toInt = y221.toInt := congrArg Int32.toInt (show ge T213 40 0 5 = y221 from ey221.symm)
              refine zk_eq (fun c223 => ?_) (fun c223 => ?_)
              ·
                exact False.elim (by omega)
              ·
                refine zk_eq (fun c224 => ?_) (fun c224 => ?_)
                ·
                  exact False.elim (by omega)
                ·
                  refine zk_eq (fun c225 => ?_) (fun c225 => ?_)
                  ·
                    have q226 : (ge T213 40 0 2).toInt = y1.toInt := congrArg Int32.toInt (show ge T213 40 0 2 = y1 from ((fT213.1 40 0 2 rfl).trans (by rw [E205]; exact (ge_puj (by decide)).trans ((fT118.1 40 0 2 rfl).trans ((fT101.1 40 0 2 rfl).trans ((fT18.1 40 0 2 rfl).trans ey1.symm))))))
                    have q227 : (ge T213 40 0 4).toInt = y215.toInt := congrArg Int32.toInt (show ge T213 40 0 4 = y215 from ey215.symm)
                    have q228 : byv T213 (ge T213 40 0 4) = byv T213 y215 := congrArg (byv T213) (show ge T213 40 0 4 = y215 from ey215.symm)
                    have q229 := byv_fr FT213 rfl y215
                    have q230 : (ge T213 40 0 6).toInt = y219.toInt := congrArg Int32.toInt (show ge T213 40 0 6 = y219 from ey219.symm)
                    have q231 : (ge T213 40 0 5).toInt = y221.toInt := congrArg Int32.toInt (show ge T213 40 0 5 = y221 from ey221.symm)
                    exact zk_some ⟨RT213, FT213, by omega⟩
                  ·
                    have q232 : (ge T213 40 0 2).toInt = y1.toInt := congrArg Int32.toInt (show ge T213 40 0 2 = y1 from ((fT213.1 40 0 2 rfl).trans (by rw [E205]; exact (ge_puj (by decide)).trans ((fT118.1 40 0 2 rfl).trans ((fT101.1 40 0 2 rfl).trans ((fT18.1 40 0 2 rfl).trans ey1.symm))))))
                    have q233 : (ge T213 40 0 4).toInt = y215.toInt := congrArg Int32.toInt (show ge T213 40 0 4 = y215 from ey215.symm)
                    have q234 : byv T213 (ge T213 40 0 4) = byv T213 y215 := congrArg (byv T213) (show ge T213 40 0 4 = y215 from ey215.symm)
                    have q235 := byv_fr FT213 rfl y215
                    have q236 : (ge T213 40 0 6).toInt = y219.toInt := congrArg Int32.toInt (show ge T213 40 0 6 = y219 from ey219.symm)
                    have q237 : (ge T213 40 0 5).toInt = y221.toInt := congrArg Int32.toInt (show ge T213 40 0 5 = y221 from ey221.symm)
                    exact zk_some ⟨RT213, FT213, by omega⟩
            ·
              refine zk_ivq (x := y120) ey120.symm ?_
              have q238 : (ge T118 40 0 2).toInt = y1.toInt := congrArg Int32.toInt (show ge T118 40 0 2 = y1 from ((fT118.1 40 0 2 rfl).trans ((fT101.1 40 0 2 rfl).trans ((fT18.1 40 0 2 rfl).trans ey1.symm))))
              have q239 : (ge T118 40 0 4).toInt = y120.toInt := congrArg Int32.toInt (show ge T118 40 0 4 = y120 from ey120.symm)
              have q240 : byv T118 (ge T118 40 0 4) = byv T118 y120 := congrArg (byv T118) (show ge T118 40 0 4 = y120 from ey120.symm)
              have q241 := byv_fr FT118 rfl y120
              have q242 : (ge T118 40 0 6).toInt = y107.toInt := congrArg Int32.toInt (show ge T118 40 0 6 = y107 from ((fT118.1 40 0 6 rfl).trans ey107.symm))
              have q243 : (ge T118 40 0 5).toInt = y109.toInt := congrArg Int32.toInt (show ge T118 40 0 5 = y109 from ((fT118.1 40 0 5 rfl).trans ey109.symm))
              refine zk_bd (s_F_X7_wrong _ _ _ RT118 (by omega)) (fun v244 T245 h244 => ?_)
              obtain ⟨RT245, fT245, h244⟩ := h244
              have FT245 := FT118.tr (fT245.sub (m := 13421838336) (by decide))
              have q246 : (ge T245 40 0 2).toInt = y1.toInt := congrArg Int32.toInt (show ge T245 40 0 2 = y1 from ((fT245.1 40 0 2 rfl).trans ((fT118.1 40 0 2 rfl).trans ((fT101.1 40 0 2 rfl).trans ((fT18.1 40 0 2 rfl).trans ey1.symm)))))
              have q247 : (ge T245 40 0 4).toInt = y120.toInt := congrArg Int32.toInt (show ge T245 40 0 4 = y120 from ((fT245.1 40 0 4 rfl).trans ey120.symm))
              have q248 : byv T245 (ge T245 40 0 4) = byv T245 y120 := congrArg (byv T245) (show ge T245 40 0 4 = y120 from ((fT245.1 40 0 4 rfl).trans ey120.symm))
              have q249 := byv_fr FT245 rfl y120
              obtain ⟨y250, ey250⟩ : ∃ y : Int32, y = ge T245 40 0 6 := ⟨_, rfl⟩
              have q251 : (ge T245 40 0 6).toInt = y250.toInt := congrArg Int32.toInt (show ge T245 40 0 6 = y250 from ey250.symm)
              have q252 : (ge T245 40 0 5).toInt = y109.toInt := congrArg Int32.toInt (show ge T245 40 0 5 = y109 from ((fT245.1 40 0 5 rfl).trans ((fT118.1 40 0 5 rfl).trans ey109.symm)))
              unfold B_X7_test_140
              refine zk_ivq (x := y120) ((fT245.1 40 0 4 rfl).trans ey120.symm) ?_
              refine zk_iv fun x253 e253 => ?_
              have gx253 : x253.toInt = y120.toInt + (1 : Int32).toInt := by rw [e253]; exact ti_add (by omega) (by omega)
              refine zk_sv fun S254 E254 => ?_
              have RS254 : RI S254 := by rw [E254]; exact RT245.wr (show (0 : Int) ≤ x253.toInt by omega) (show x253.toInt ≤ 300 by omega)
              have FS254 : Fr 13421838336 S0 S254 := by rw [E254]; exact FT245.wr (k := 29) rfl rfl
              have q255 : (ge S254 40 0 2).toInt = y1.toInt := congrArg Int32.toInt (show ge S254 40 0 2 = y1 from (by rw [E254]; exact (ge_puj (by decide)).trans ((fT245.1 40 0 2 rfl).trans ((fT118.1 40 0 2 rfl).trans ((fT101.1 40 0 2 rfl).trans ((fT18.1 40 0 2 rfl).trans ey1.symm))))))
              have q256 : (ge S254 40 0 4).toInt = x253.toInt := congrArg Int32.toInt (show ge S254 40 0 4 = x253 from (by rw [E254]; exact ge_pus))
              have q257 : byv S254 (ge S254 40 0 4) = byv S254 x253 := congrArg (byv S254) (show ge S254 40 0 4 = x253 from (by rw [E254]; exact ge_pus))
              have q258 := byv_fr FS254 rfl x253
              have q259 : (ge S254 40 0 6).toInt = y250.toInt := congrArg Int32.toInt (show ge S254 40 0 6 = y250 from (by rw [E254]; exact (ge_puj (by decide)).trans ey250.symm))
              have q260 : (ge S254 40 0 5).toInt = y109.toInt := congrArg Int32.toInt (show ge S254 40 0 5 = y109 from (by rw [E254]; exact (ge_puj (by decide)).trans ((fT245.1 40 0 5 rfl).trans ((fT118.1 40 0 5 rfl).trans ey109.symm))))
              refine zk_bd (hR2 _ _ RS254 (by omega)) (fun v261 T262 h261 => ?_)
              obtain ⟨RT262, fT262, h261⟩ := h261
              have FT262 := FS254.tr (fT262.sub (m := 13421838336) (by decide))
              have q263 : (ge T262 40 0 2).toInt = y1.toInt := congrArg Int32.toInt (show ge T262 40 0 2 = y1 from ((fT262.1 40 0 2 rfl).trans (by rw [E254]; exact (ge_puj (by decide)).trans ((fT245.1 40 0 2 rfl).trans ((fT118.1 40 0 2 rfl).trans ((fT101.1 40 0 2 rfl).trans ((fT18.1 40 0 2 rfl).trans ey1.symm)))))))
              obtain ⟨y264, ey264⟩ : ∃ y : Int32, y = ge T262 40 0 4 := ⟨_, rfl⟩
              have gy264 : 0 ≤ y264.toInt ∧ y264.toInt ≤ 300 := by rw [ey264]; exact RT262 40 _ _
              have q265 : (ge T262 40 0 4).toInt = y264.toInt := congrArg Int32.toInt (show ge T262 40 0 4 = y264 from ey264.symm)
              have q266 : byv T262 (ge T262 40 0 4) = byv T262 y264 := congrArg (byv T262) (show ge T262 40 0 4 = y264 from ey264.symm)
              have q267 := byv_fr FT262 rfl y264
              obtain ⟨y268, ey268⟩ : ∃ y : Int32, y = ge T262 40 0 6 := ⟨_, rfl⟩
              have q269 : (ge T262 40 0 6).toInt = y268.toInt := congrArg Int32.toInt (show ge T262 40 0 6 = y268 from ey268.symm)
              obtain ⟨y270, ey270⟩ : ∃ y : Int32, y = ge T262 40 0 5 := ⟨_, rfl⟩
              have gy270 : 0 ≤ y270.toInt ∧ y270.toInt ≤ 7 := by rw [ey270]; exact RT262 40 _ _
              have q271 : (ge T262 40 0 5).toInt = y270.toInt := congrArg Int32.toInt (show ge T262 40 0 5 = y270 from ey270.symm)
              refine zk_eq (fun c272 => ?_) (fun c272 => ?_)
              ·
                refine zk_le (fun c273 => ?_) (fun c273 => ?_)
                ·
                  have q274 : (ge T262 40 0 2).toInt = y1.toInt := congrArg Int32.toInt (show ge T262 40 0 2 = y1 from ((fT262.1 40 0 2 rfl).trans (by rw [E254]; exact (ge_puj (by decide)).trans ((fT245.1 40 0 2 rfl).trans ((fT118.1 40 0 2 rfl).trans ((fT101.1 40 0 2 rfl).trans ((fT18.1 40 0 2 rfl).trans ey1.symm)))))))
                  have q275 : (ge T262 40 0 4).toInt = y264.toInt := congrArg Int32.toInt (show ge T262 40 0 4 = y264 from ey264.symm)
                  have q276 : byv T262 (ge T262 40 0 4) = byv T262 y264 := congrArg (byv T262) (show ge T262 40 0 4 = y264 from ey264.symm)
                  have q277 := byv_fr FT262 rfl y264
                  have q278 : (ge T262 40 0 6).toInt = y268.toInt := congrArg Int32.toInt (show ge T262 40 0 6 = y268 from ey268.symm)
                  have q279 : (ge T262 40 0 5).toInt = y270.toInt := congrArg Int32.toInt (show ge T262 40 0 5 = y270 from ey270.symm)
                  exact zk_some ⟨RT262, FT262, by omega⟩
                ·
                  have q280 : (ge T262 40 0 2).toInt = y1.toInt := congrArg Int32.toInt (show ge T262 40 0 2 = y1 from ((fT262.1 40 0 2 rfl).trans (by rw [E254]; exact (ge_puj (by decide)).trans ((fT245.1 40 0 2 rfl).trans ((fT118.1 40 0 2 rfl).trans ((fT101.1 40 0 2 rfl).trans ((fT18.1 40 0 2 rfl).trans ey1.symm)))))))
                  have q281 : (ge T262 40 0 4).toInt = y264.toInt := congrArg Int32.toInt (show ge T262 40 0 4 = y264 from ey264.symm)
                  have q282 : byv T262 (ge T262 40 0 4) = byv T262 y264 := congrArg (byv T262) (show ge T262 40 0 4 = y264 from ey264.symm)
                  have q283 := byv_fr FT262 rfl y264
                  have q284 : (ge T262 40 0 6).toInt = y268.toInt := congrArg Int32.toInt (show ge T262 40 0 6 = y268 from ey268.symm)
                  have q285 : (ge T262 40 0 5).toInt = y270.toInt := congrArg Int32.toInt (show ge T262 40 0 5 = y270 from ey270.symm)
                  exact zk_some ⟨RT262, FT262, by omega⟩
              ·
                refine zk_eq (fun c286 => ?_) (fun c286 => ?_)
                ·
                  refine zk_le (fun c287 => ?_) (fun c287 => ?_)
                  ·
                    have q288 : (ge T262 40 0 2).toInt = y1.toInt := congrArg Int32.toInt (show ge T262 40 0 2 = y1 from ((fT262.1 40 0 2 rfl).trans (by rw [E254]; exact (ge_puj (by decide)).trans ((fT245.1 40 0 2 rfl).trans ((fT118.1 40 0 2 rfl).trans ((fT101.1 40 0 2 rfl).trans ((fT18.1 40 0 2 rfl).trans ey1.symm)))))))
                    have q289 : (ge T262 40 0 4).toInt = y264.toInt := congrArg Int32.toInt (show ge T262 40 0 4 = y264 from ey264.symm)
                    have q290 : byv T262 (ge T262 40 0 4) = byv T262 y264 := congrArg (byv T262) (show ge T262 40 0 4 = y264 from ey264.symm)
                    have q291 := byv_fr FT262 rfl y264
                    have q292 : (ge T262 40 0 6).toInt = y268.toInt := congrArg Int32.toInt (show ge T262 40 0 6 = y268 from ey268.symm)
                    have q293 : (ge T262 40 0 5).toInt = y270.toInt := congrArg Int32.toInt (show ge T262 40 0 5 = y270 from ey270.symm)
                    exact zk_some ⟨RT262, FT262, by omega⟩
                  ·
                    have q294 : (ge T262 40 0 2).toInt = y1.toInt := congrArg Int32.toInt (show ge T262 40 0 2 = y1 from ((fT262.1 40 0 2 rfl).trans (by rw [E254]; exact (ge_puj (by decide)).trans ((fT245.1 40 0 2 rfl).trans ((fT118.1 40 0 2 rfl).trans ((fT101.1 40 0 2 rfl).trans ((fT18.1 40 0 2 rfl).trans ey1.symm)))))))
                    have q295 : (ge T262 40 0 4).toInt = y264.toInt := congrArg Int32.toInt (show ge T262 40 0 4 = y264 from ey264.symm)
                    have q296 : byv T262 (ge T262 40 0 4) = byv T262 y264 := congrArg (byv T262) (show ge T262 40 0 4 = y264 from ey264.symm)
                    have q297 := byv_fr FT262 rfl y264
                    have q298 : (ge T262 40 0 6).toInt = y268.toInt := congrArg Int32.toInt (show ge T262 40 0 6 = y268 from ey268.symm)
                    have q299 : (ge T262 40 0 5).toInt = y270.toInt := congrArg Int32.toInt (show ge T262 40 0 5 = y270 from ey270.symm)
                    exact zk_some ⟨RT262, FT262, by omega⟩
                ·
                  refine zk_eq (fun c300 => ?_) (fun c300 => ?_)
                  ·
                    have q301 : (ge T262 40 0 2).toInt = y1.toInt := congrArg Int32.toInt (show ge T262 40 0 2 = y1 from ((fT262.1 40 0 2 rfl).trans (by rw [E254]; exact (ge_puj (by decide)).trans ((fT245.1 40 0 2 rfl).trans ((fT118.1 40 0 2 rfl).trans ((fT101.1 40 0 2 rfl).trans ((fT18.1 40 0 2 rfl).trans ey1.symm)))))))
                    have q302 : (ge T262 40 0 4).toInt = y264.toInt := congrArg Int32.toInt (show ge T262 40 0 4 = y264 from ey264.symm)
                    have q303 : byv T262 (ge T262 40 0 4) = byv T262 y264 := congrArg (byv T262) (show ge T262 40 0 4 = y264 from ey264.symm)
                    have q304 := byv_fr FT262 rfl y264
                    have q305 : (ge T262 40 0 6).toInt = y268.toInt := congrArg Int32.toInt (show ge T262 40 0 6 = y268 from ey268.symm)
                    have q306 : (ge T262 40 0 5).toInt = y270.toInt := congrArg Int32.toInt (show ge T262 40 0 5 = y270 from ey270.symm)
                    exact zk_some ⟨RT262, FT262, by omega⟩
                  ·
                    have q307 : (ge T262 40 0 2).toInt = y1.toInt := congrArg Int32.toInt (show ge T262 40 0 2 = y1 from ((fT262.1 40 0 2 rfl).trans (by rw [E254]; exact (ge_puj (by decide)).trans ((fT245.1 40 0 2 rfl).trans ((fT118.1 40 0 2 rfl).trans ((fT101.1 40 0 2 rfl).trans ((fT18.1 40 0 2 rfl).trans ey1.symm)))))))
                    have q308 : (ge T262 40 0 4).toInt = y264.toInt := congrArg Int32.toInt (show ge T262 40 0 4 = y264 from ey264.symm)
                    have q309 : byv T262 (ge T262 40 0 4) = byv T262 y264 := congrArg (byv T262) (show ge T262 40 0 4 = y264 from ey264.symm)
                    have q310 := byv_fr FT262 rfl y264
                    have q311 : (ge T262 40 0 6).toInt = y268.toInt := congrArg Int32.toInt (show ge T262 40 0 6 = y268 from ey268.symm)
                    have q312 : (ge T262 40 0 5).toInt = y270.toInt := congrArg Int32.toInt (show ge T262 40 0 5 = y270 from ey270.symm)
                    exact zk_some ⟨RT262, FT262, by omega⟩
    ·
      have q313 : (ge T18 40 0 2).toInt = y1.toInt := congrArg Int32.toInt (show ge T18 40 0 2 = y1 from ((fT18.1 40 0 2 rfl).trans ey1.symm))
      have q314 : (ge T18 40 0 4).toInt = y20.toInt := congrArg Int32.toInt (show ge T18 40 0 4 = y20 from ey20.symm)
      have q315 : byv T18 (ge T18 40 0 4) = byv T18 y20 := congrArg (byv T18) (show ge T18 40 0 4 = y20 from ey20.symm)
      have q316 := byv_fr FT18 rfl y20
      have q317 : (ge T18 40 0 6).toInt = y6.toInt := congrArg Int32.toInt (show ge T18 40 0 6 = y6 from ((fT18.1 40 0 6 rfl).trans ey6.symm))
      have q318 : (ge T18 40 0 5).toInt = y8.toInt := congrArg Int32.toInt (show ge T18 40 0 5 = y8 from ((fT18.1 40 0 5 rfl).trans ey8.symm))
      refine zk_bd (s_F_X7_opens _ _ RT18 (by omega) (by omega)) (fun v319 T320 h319 => ?_)
      obtain ⟨RT320, fT320, h319⟩ := h319
      have FT320 := FT18.tr (fT320.sub (m := 13421838336) (by decide))
      have q321 : (ge T320 40 0 2).toInt = y1.toInt := congrArg Int32.toInt (show ge T320 40 0 2 = y1 from ((fT320.1 40 0 2 rfl).trans ((fT18.1 40 0 2 rfl).trans ey1.symm)))
      obtain ⟨y322, ey322⟩ : ∃ y : Int32, y = ge T320 40 0 4 := ⟨_, rfl⟩
      have gy322 : 0 ≤ y322.toInt ∧ y322.toInt ≤ 300 := by rw [ey322]; exact RT320 40 _ _
      have q323 : (ge T320 40 0 4).toInt = y322.toInt := congrArg Int32.toInt (show ge T320 40 0 4 = y322 from ey322.symm)
      have q324 : byv T320 (ge T320 40 0 4) = byv T320 y322 := congrArg (byv T320) (show ge T320 40 0 4 = y322 from ey322.symm)
      have q325 := byv_fr FT320 rfl y322
      obtain ⟨y326, ey326⟩ : ∃ y : Int32, y = ge T320 40 0 6 := ⟨_, rfl⟩
      have q327 : (ge T320 40 0 6).toInt = y326.toInt := congrArg Int32.toInt (show ge T320 40 0 6 = y326 from ey326.symm)
      obtain ⟨y328, ey328⟩ : ∃ y : Int32, y = ge T320 40 0 5 := ⟨_, rfl⟩
      have gy328 : 0 ≤ y328.toInt ∧ y328.toInt ≤ 7 := by rw [ey328]; exact RT320 40 _ _
      have q329 : (ge T320 40 0 5).toInt = y328.toInt := congrArg Int32.toInt (show ge T320 40 0 5 = y328 from ey328.symm)
      have q330 : (ge T320 40 0 2).toInt = y1.toInt := congrArg Int32.toInt (show ge T320 40 0 2 = y1 from ((fT320.1 40 0 2 rfl).trans ((fT18.1 40 0 2 rfl).trans ey1.symm)))
      have q331 : (ge T320 40 0 4).toInt = y322.toInt := congrArg Int32.toInt (show ge T320 40 0 4 = y322 from ey322.symm)
      have q332 : byv T320 (ge T320 40 0 4) = byv T320 y322 := congrArg (byv T320) (show ge T320 40 0 4 = y322 from ey322.symm)
      have q333 := byv_fr FT320 rfl y322
      have q334 : (ge T320 40 0 6).toInt = y326.toInt := congrArg Int32.toInt (show ge T320 40 0 6 = y326 from ey326.symm)
      have q335 : (ge T320 40 0 5).toInt = y328.toInt := congrArg Int32.toInt (show ge T320 40 0 5 = y328 from ey328.symm)
      refine zk_bd (hR3 _ _ RT320 (by omega)) (fun v336 T337 h336 => ?_)
      obtain ⟨RT337, fT337, h336⟩ := h336
      have FT337 := FT320.tr (fT337.sub (m := 13421838336) (by decide))
      have q338 : (ge T337 40 0 2).toInt = y1.toInt := congrArg Int32.toInt (show ge T337 40 0 2 = y1 from ((fT337.1 40 0 2 rfl).trans ((fT320.1 40 0 2 rfl).trans ((fT18.1 40 0 2 rfl).trans ey1.symm))))
      obtain ⟨y339, ey339⟩ : ∃ y : Int32, y = ge T337 40 0 4 := ⟨_, rfl⟩
      have gy339 : 0 ≤ y339.toInt ∧ y339.toInt ≤ 300 := by rw [ey339]; exact RT337 40 _ _
      have q340 : (ge T337 40 0 4).toInt = y339.toInt := congrArg Int32.toInt (show ge T337 40 0 4 = y339 from ey339.symm)
      have q341 : byv T337 (ge T337 40 0 4) = byv T337 y339 := congrArg (byv T337) (show ge T337 40 0 4 = y339 from ey339.symm)
      have q342 := byv_fr FT337 rfl y339
      obtain ⟨y343, ey343⟩ : ∃ y : Int32, y = ge T337 40 0 6 := ⟨_, rfl⟩
      have q344 : (ge T337 40 0 6).toInt = y343.toInt := congrArg Int32.toInt (show ge T337 40 0 6 = y343 from ey343.symm)
      obtain ⟨y345, ey345⟩ : ∃ y : Int32, y = ge T337 40 0 5 := ⟨_, rfl⟩
      have gy345 : 0 ≤ y345.toInt ∧ y345.toInt ≤ 7 := by rw [ey345]; exact RT337 40 _ _
      have q346 : (ge T337 40 0 5).toInt = y345.toInt := congrArg Int32.toInt (show ge T337 40 0 5 = y345 from ey345.symm)
      refine zk_eq (fun c347 => ?_) (fun c347 => ?_)
      ·
        unfold B_X7_test_41
        refine zk_ivq (x := y345) ey345.symm ?_
        refine zk_iv fun x348 e348 => ?_
        have gx348 : x348.toInt = y345.toInt - (1 : Int32).toInt := by rw [e348]; exact ti_sub (by omega) (by omega)
        refine zk_sv fun S349 E349 => ?_
        have RS349 : RI S349 := by rw [E349]; exact RT337.wr (show (0 : Int) ≤ x348.toInt by omega) (show x348.toInt ≤ 7 by omega)
        have FS349 : Fr 13421838336 S0 S349 := by rw [E349]; exact FT337.wr (k := 32) rfl rfl
        refine zk_gd (z01 (by omega)) ?_
        have q350 : (ge S349 40 0 2).toInt = y1.toInt := congrArg Int32.toInt (show ge S349 40 0 2 = y1 from (by rw [E349]; exact (ge_puj (by decide)).trans ((fT337.1 40 0 2 rfl).trans ((fT320.1 40 0 2 rfl).trans ((fT18.1 40 0 2 rfl).trans ey1.symm)))))
        have q351 : (ge S349 40 0 4).toInt = y339.toInt := congrArg Int32.toInt (show ge S349 40 0 4 = y339 from (by rw [E349]; exact (ge_puj (by decide)).trans ey339.symm))
        have q352 : byv S349 (ge S349 40 0 4) = byv S349 y339 := congrArg (byv S349) (show ge S349 40 0 4 = y339 from (by rw [E349]; exact (ge_puj (by decide)).trans ey339.symm))
        have q353 := byv_fr FS349 rfl y339
        have q354 : (ge S349 40 0 6).toInt = y343.toInt := congrArg Int32.toInt (show ge S349 40 0 6 = y343 from (by rw [E349]; exact (ge_puj (by decide)).trans ey343.symm))
        have q355 : (ge S349 40 0 5).toInt = x348.toInt := congrArg Int32.toInt (show ge S349 40 0 5 = x348 from (by rw [E349]; exact ge_pus))
        exact zk_some ⟨RS349, FS349, by omega⟩
      ·
        unfold B_X7_test_41
        refine zk_ivq (x := y345) ey345.symm ?_
        refine zk_iv fun x356 e356 => ?_
        have gx356 : x356.toInt = y345.toInt - (1 : Int32).toInt := by rw [e356]; exact ti_sub (by omega) (by omega)
        refine zk_sv fun S357 E357 => ?_
        have RS357 : RI S357 := by rw [E357]; exact RT337.wr (show (0 : Int) ≤ x356.toInt by omega) (show x356.toInt ≤ 7 by omega)
        have FS357 : Fr 13421838336 S0 S357 := by rw [E357]; exact FT337.wr (k := 32) rfl rfl
        refine zk_gd (z01 (by omega)) ?_
        have q358 : (ge S357 40 0 2).toInt = y1.toInt := congrArg Int32.toInt (show ge S357 40 0 2 = y1 from (by rw [E357]; exact (ge_puj (by decide)).trans ((fT337.1 40 0 2 rfl).trans ((fT320.1 40 0 2 rfl).trans ((fT18.1 40 0 2 rfl).trans ey1.symm)))))
        have q359 : (ge S357 40 0 4).toInt = y339.toInt := congrArg Int32.toInt (show ge S357 40 0 4 = y339 from (by rw [E357]; exact (ge_puj (by decide)).trans ey339.symm))
        have q360 : byv S357 (ge S357 40 0 4) = byv S357 y339 := congrArg (byv S357) (show ge S357 40 0 4 = y339 from (by rw [E357]; exact (ge_puj (by decide)).trans ey339.symm))
        have q361 := byv_fr FS357 rfl y339
        have q362 : (ge S357 40 0 6).toInt = y343.toInt := congrArg Int32.toInt (show ge S357 40 0 6 = y343 from (by rw [E357]; exact (ge_puj (by decide)).trans ey343.symm))
        have q363 : (ge S357 40 0 5).toInt = x356.toInt := congrArg Int32.toInt (show ge S357 40 0 5 = x356 from (by rw [E357]; exact ge_pus))
        exact zk_some ⟨RS357, FS357, by omega⟩
  ·
    have q364 : (ge S0 40 0 2).toInt = y1.toInt := congrArg Int32.toInt (show ge S0 40 0 2 = y1 from ey1.symm)
    have q365 : (ge S0 40 0 4).toInt = y3.toInt := congrArg Int32.toInt (show ge S0 40 0 4 = y3 from ey3.symm)
    have q366 : byv S0 (ge S0 40 0 4) = byv S0 y3 := congrArg (byv S0) (show ge S0 40 0 4 = y3 from ey3.symm)
    have q367 : (ge S0 40 0 6).toInt = y6.toInt := congrArg Int32.toInt (show ge S0 40 0 6 = y6 from ey6.symm)
    have q368 : (ge S0 40 0 5).toInt = y8.toInt := congrArg Int32.toInt (show ge S0 40 0 5 = y8 from ey8.symm)
    exact zk_some ⟨RS0, FS0, by omega⟩
theorem s_B_X7_ands_5 (R : Nat → Int32 → fS → Option (Int32 × fS)) (d : Int) (hR0 : ∀ (q : Int32) (S : fS), RI S → ((¬ (ge S 40 0 6).toInt = 0 ∧ 1 ≤ d) ∨ ((ge S 40 0 5).toInt ≤ 6 ∧ 3 * (7 - (ge S 40 0 5).toInt) + 1 ≤ d)) → zk (R 0 q S) (fun v S9 => RI S9 ∧ Fr 13421838336 S S9 ∧ ((ge S 40 0 4).toInt ≤ (ge S9 40 0 4).toInt ∧ (ge S9 40 0 5).toInt = (ge S 40 0 5).toInt ∧ (¬ (ge S 40 0 6).toInt = 0 → ¬ (ge S9 40 0 6).toInt = 0)))) (hR1 : ∀ (q : Int32) (S : fS), RI S → ((¬ (ge S 40 0 6).toInt = 0 ∧ 2 ≤ d) ∨ ((ge S 40 0 5).toInt ≤ 6 ∧ 3 * (7 - (ge S 40 0 5).toInt) + 2 ≤ d)) → zk (R 1 q S) (fun v S9 => RI S9 ∧ Fr 13421838336 S S9 ∧ ((ge S 40 0 4).toInt ≤ (ge S9 40 0 4).toInt ∧ (ge S9 40 0 5).toInt = (ge S 40 0 5).toInt ∧ (¬ (ge S 40 0 6).toInt = 0 → ¬ (ge S9 40 0 6).toInt = 0)))) (hR2 : ∀ (q : Int32) (S : fS), RI S → ((¬ (ge S 40 0 6).toInt = 0 ∧ 3 ≤ d) ∨ ((ge S 40 0 5).toInt ≤ 6 ∧ 3 * (7 - (ge S 40 0 5).toInt) + 3 ≤ d)) → zk (R 2 q S) (fun v S9 => RI S9 ∧ Fr 13421838336 S S9 ∧ ((ge S 40 0 4).toInt ≤ (ge S9 40 0 4).toInt ∧ (ge S9 40 0 5).toInt = (ge S 40 0 5).toInt ∧ (¬ (ge S 40 0 6).toInt = 0 → ¬ (ge S9 40 0 6).toInt = 0)))) (hR3 : ∀ (q : Int32) (S : fS), RI S → ((¬ (ge S 40 0 6).toInt = 0 ∧ 1 ≤ d) ∨ ((ge S 40 0 5).toInt ≤ 6 ∧ 3 * (7 - (ge S 40 0 5).toInt) + 4 ≤ d)) → zk (R 3 q S) (fun v S9 => RI S9 ∧ Fr 13421838336 S S9 ∧ ((ge S 40 0 4).toInt ≤ (ge S9 40 0 4).toInt ∧ (ge S9 40 0 5).toInt = (ge S 40 0 5).toInt ∧ (¬ (ge S 40 0 6).toInt = 0 → ¬ (ge S9 40 0 6).toInt = 0) ∧ 0 ≤ v.toInt ∧ v.toInt ≤ 1))) (hR4 : ∀ (q : Int32) (S : fS), RI S → ((¬ (ge S 40 0 6).toInt = 0 ∧ 2 ≤ d) ∨ ((ge S 40 0 5).toInt ≤ 6 ∧ 3 * (7 - (ge S 40 0 5).toInt) + 5 ≤ d)) → zk (R 4 q S) (fun v S9 => RI S9 ∧ Fr 13421838336 S S9 ∧ ((ge S 40 0 4).toInt ≤ (ge S9 40 0 4).toInt ∧ (ge S9 40 0 5).toInt = (ge S 40 0 5).toInt ∧ (¬ (ge S 40 0 6).toInt = 0 → ¬ (ge S9 40 0 6).toInt = 0) ∧ 0 ≤ v.toInt ∧ v.toInt ≤ 1))) (hR5 : ∀ (q : Int32) (S : fS), RI S → ((¬ (ge S 40 0 6).toInt = 0 ∧ 3 ≤ d) ∨ ((ge S 40 0 5).toInt ≤ 6 ∧ 3 * (7 - (ge S 40 0 5).toInt) + 6 ≤ d)) → zk (R 5 q S) (fun v S9 => RI S9 ∧ Fr 13421838336 S S9 ∧ ((ge S 40 0 4).toInt ≤ (ge S9 40 0 4).toInt ∧ (ge S9 40 0 5).toInt = (ge S 40 0 5).toInt ∧ (¬ (ge S 40 0 6).toInt = 0 → ¬ (ge S9 40 0 6).toInt = 0) ∧ 0 ≤ v.toInt ∧ v.toInt ≤ 1))) (z : Int32) (S : fS) (RS : RI S) (hi : 0 ≤ z.toInt ∧ z.toInt ≤ 1 ∧ ((¬ (ge S 40 0 6).toInt = 0 ∧ 1 ≤ d) ∨ ((ge S 40 0 5).toInt ≤ 6 ∧ 3 * (7 - (ge S 40 0 5).toInt) + 4 ≤ d))) (hm : (300 - (ge S 40 0 4).toInt).toNat < 4294967296) : zk (lp (B_X7_ands_5 R) fuel z S) (fun v S9 => RI S9 ∧ Fr 13421838336 S S9 ∧ ((ge S 40 0 4).toInt ≤ (ge S9 40 0 4).toInt ∧ (ge S9 40 0 5).toInt = (ge S 40 0 5).toInt ∧ (¬ (ge S 40 0 6).toInt = 0 → ¬ (ge S9 40 0 6).toInt = 0) ∧ 0 ≤ v.toInt ∧ v.toInt ≤ 1)) := by
  have l0 : (0 : Int32).toInt = 0 := by decide
  have l1 : (1 : Int32).toInt = 1 := by decide
  have l4 : (4 : Int32).toInt = 4 := by decide
  have l6 : (6 : Int32).toInt = 6 := by decide
  have l14 : (14 : Int32).toInt = 14 := by decide
  refine zk_lp (fun z S => RI S ∧ (0 ≤ z.toInt ∧ z.toInt ≤ 1 ∧ ((¬ (ge S 40 0 6).toInt = 0 ∧ 1 ≤ d) ∨ ((ge S 40 0 5).toInt ≤ 6 ∧ 3 * (7 - (ge S 40 0 5).toInt) + 4 ≤ d)))) (fun z S => (300 - (ge S 40 0 4).toInt).toNat) (fun z S (v : Int32) S9 => RI S9 ∧ Fr 13421838336 S S9 ∧ ((ge S 40 0 4).toInt ≤ (ge S9 40 0 4).toInt ∧ (ge S9 40 0 5).toInt = (ge S 40 0 5).toInt ∧ (¬ (ge S 40 0 6).toInt = 0 → ¬ (ge S9 40 0 6).toInt = 0) ∧ 0 ≤ v.toInt ∧ v.toInt ≤ 1)) ?_ z S ⟨RS, hi⟩ hm
  clear RS hi hm
  intro k a1 S hI hk
  obtain ⟨RS, hI⟩ := hI
  have FS : Fr 13421838336 S S := Fr.rf
  unfold B_X7_ands_5
  obtain ⟨y1, ey1⟩ : ∃ y : Int32, y = ge S 40 0 2 := ⟨_, rfl⟩
  have gy1 : 0 ≤ y1.toInt ∧ y1.toInt ≤ 300 := by rw [ey1]; exact RS 40 _ _
  have q2 : (ge S 40 0 2).toInt = y1.toInt := congrArg Int32.toInt (show ge S 40 0 2 = y1 from ey1.symm)
  obtain ⟨y3, ey3⟩ : ∃ y : Int32, y = ge S 40 0 4 := ⟨_, rfl⟩
  have gy3 : 0 ≤ y3.toInt ∧ y3.toInt ≤ 300 := by rw [ey3]; exact RS 40 _ _
  have q4 : (ge S 40 0 4).toInt = y3.toInt := congrArg Int32.toInt (show ge S 40 0 4 = y3 from ey3.symm)
  obtain ⟨y5, ey5⟩ : ∃ y : Int32, y = ge S 40 0 6 := ⟨_, rfl⟩
  have q6 : (ge S 40 0 6).toInt = y5.toInt := congrArg Int32.toInt (show ge S 40 0 6 = y5 from ey5.symm)
  obtain ⟨y7, ey7⟩ : ∃ y : Int32, y = ge S 40 0 5 := ⟨_, rfl⟩
  have gy7 : 0 ≤ y7.toInt ∧ y7.toInt ≤ 7 := by rw [ey7]; exact RS 40 _ _
  have q8 : (ge S 40 0 5).toInt = y7.toInt := congrArg Int32.toInt (show ge S 40 0 5 = y7 from ey7.symm)
  refine zk_ivq (x := y5) ey5.symm ?_
  have b9 := ti_bd y5
  refine zk_eq (fun c10 => ?_) (fun c10 => ?_)
  ·
    have q11 : (ge S 40 0 2).toInt = y1.toInt := congrArg Int32.toInt (show ge S 40 0 2 = y1 from ey1.symm)
    have q12 : (ge S 40 0 4).toInt = y3.toInt := congrArg Int32.toInt (show ge S 40 0 4 = y3 from ey3.symm)
    have q13 : (ge S 40 0 6).toInt = y5.toInt := congrArg Int32.toInt (show ge S 40 0 6 = y5 from ey5.symm)
    have q14 : (ge S 40 0 5).toInt = y7.toInt := congrArg Int32.toInt (show ge S 40 0 5 = y7 from ey7.symm)
    refine zk_bd (s_F_X7_isWord _ _ _ _ _ _ RS) (fun v15 T16 h15 => ?_)
    obtain ⟨RT16, fT16, h15⟩ := h15
    have FT16 := FS.tr (fT16.sub (m := 13421838336) (by decide))
    have q17 : (ge T16 40 0 2).toInt = y1.toInt := congrArg Int32.toInt (show ge T16 40 0 2 = y1 from ((fT16.1 40 0 2 rfl).trans ey1.symm))
    obtain ⟨y18, ey18⟩ : ∃ y : Int32, y = ge T16 40 0 4 := ⟨_, rfl⟩
    have gy18 : 0 ≤ y18.toInt ∧ y18.toInt ≤ 300 := by rw [ey18]; exact RT16 40 _ _
    have q19 : (ge T16 40 0 4).toInt = y18.toInt := congrArg Int32.toInt (show ge T16 40 0 4 = y18 from ey18.symm)
    have q20 : (ge T16 40 0 6).toInt = y5.toInt := congrArg Int32.toInt (show ge T16 40 0 6 = y5 from ((fT16.1 40 0 6 rfl).trans ey5.symm))
    have q21 : (ge T16 40 0 5).toInt = y7.toInt := congrArg Int32.toInt (show ge T16 40 0 5 = y7 from ((fT16.1 40 0 5 rfl).trans ey7.symm))
    have h15w := isw1 h15.2 (by decide)
    replace h15 := h15.1
    refine zk_eq (fun c22 => ?_) (fun c22 => ?_)
    ·
      refine zk_gd (z01 (by omega)) ?_
      have q23 : (ge T16 40 0 2).toInt = y1.toInt := congrArg Int32.toInt (show ge T16 40 0 2 = y1 from ((fT16.1 40 0 2 rfl).trans ey1.symm))
      have q24 : (ge T16 40 0 4).toInt = y18.toInt := congrArg Int32.toInt (show ge T16 40 0 4 = y18 from ey18.symm)
      have q25 : (ge T16 40 0 6).toInt = y5.toInt := congrArg Int32.toInt (show ge T16 40 0 6 = y5 from ((fT16.1 40 0 6 rfl).trans ey5.symm))
      have q26 : (ge T16 40 0 5).toInt = y7.toInt := congrArg Int32.toInt (show ge T16 40 0 5 = y7 from ((fT16.1 40 0 5 rfl).trans ey7.symm))
      exact zk_some ⟨RT16, FT16, by omega⟩
    ·
      have q27 : (ge T16 40 0 2).toInt = y1.toInt := congrArg Int32.toInt (show ge T16 40 0 2 = y1 from ((fT16.1 40 0 2 rfl).trans ey1.symm))
      have q28 : (ge T16 40 0 4).toInt = y18.toInt := congrArg Int32.toInt (show ge T16 40 0 4 = y18 from ey18.symm)
      have q29 : (ge T16 40 0 6).toInt = y5.toInt := congrArg Int32.toInt (show ge T16 40 0 6 = y5 from ((fT16.1 40 0 6 rfl).trans ey5.symm))
      have q30 : (ge T16 40 0 5).toInt = y7.toInt := congrArg Int32.toInt (show ge T16 40 0 5 = y7 from ((fT16.1 40 0 5 rfl).trans ey7.symm))
      refine zk_bd (s_F_X7_skipWord _ RT16) (fun v31 T32 h31 => ?_)
      obtain ⟨RT32, fT32, h31⟩ := h31
      have FT32 := FT16.tr (fT32.sub (m := 13421838336) (by decide))
      have q33 : (ge T32 40 0 2).toInt = y1.toInt := congrArg Int32.toInt (show ge T32 40 0 2 = y1 from ((fT32.1 40 0 2 rfl).trans ((fT16.1 40 0 2 rfl).trans ey1.symm)))
      obtain ⟨y34, ey34⟩ : ∃ y : Int32, y = ge T32 40 0 4 := ⟨_, rfl⟩
      have gy34 : 0 ≤ y34.toInt ∧ y34.toInt ≤ 300 := by rw [ey34]; exact RT32 40 _ _
      have q35 : (ge T32 40 0 4).toInt = y34.toInt := congrArg Int32.toInt (show ge T32 40 0 4 = y34 from ey34.symm)
      have q36 : (ge T32 40 0 6).toInt = y5.toInt := congrArg Int32.toInt (show ge T32 40 0 6 = y5 from ((fT32.1 40 0 6 rfl).trans ((fT16.1 40 0 6 rfl).trans ey5.symm)))
      have q37 : (ge T32 40 0 5).toInt = y7.toInt := congrArg Int32.toInt (show ge T32 40 0 5 = y7 from ((fT32.1 40 0 5 rfl).trans ((fT16.1 40 0 5 rfl).trans ey7.symm)))
      have q38 : (ge T32 40 0 2).toInt = y1.toInt := congrArg Int32.toInt (show ge T32 40 0 2 = y1 from ((fT32.1 40 0 2 rfl).trans ((fT16.1 40 0 2 rfl).trans ey1.symm)))
      have q39 : (ge T32 40 0 4).toInt = y34.toInt := congrArg Int32.toInt (show ge T32 40 0 4 = y34 from ey34.symm)
      have q40 : (ge T32 40 0 6).toInt = y5.toInt := congrArg Int32.toInt (show ge T32 40 0 6 = y5 from ((fT32.1 40 0 6 rfl).trans ((fT16.1 40 0 6 rfl).trans ey5.symm)))
      have q41 : (ge T32 40 0 5).toInt = y7.toInt := congrArg Int32.toInt (show ge T32 40 0 5 = y7 from ((fT32.1 40 0 5 rfl).trans ((fT16.1 40 0 5 rfl).trans ey7.symm)))
      refine zk_bd (hR3 _ _ RT32 (by omega)) (fun v42 T43 h42 => ?_)
      obtain ⟨RT43, fT43, h42⟩ := h42
      have FT43 := FT32.tr (fT43.sub (m := 13421838336) (by decide))
      have q44 : (ge T43 40 0 2).toInt = y1.toInt := congrArg Int32.toInt (show ge T43 40 0 2 = y1 from ((fT43.1 40 0 2 rfl).trans ((fT32.1 40 0 2 rfl).trans ((fT16.1 40 0 2 rfl).trans ey1.symm))))
      obtain ⟨y45, ey45⟩ : ∃ y : Int32, y = ge T43 40 0 4 := ⟨_, rfl⟩
      have gy45 : 0 ≤ y45.toInt ∧ y45.toInt ≤ 300 := by rw [ey45]; exact RT43 40 _ _
      have q46 : (ge T43 40 0 4).toInt = y45.toInt := congrArg Int32.toInt (show ge T43 40 0 4 = y45 from ey45.symm)
      obtain ⟨y47, ey47⟩ : ∃ y : Int32, y = ge T43 40 0 6 := ⟨_, rfl⟩
      have q48 : (ge T43 40 0 6).toInt = y47.toInt := congrArg Int32.toInt (show ge T43 40 0 6 = y47 from ey47.symm)
      obtain ⟨y49, ey49⟩ : ∃ y : Int32, y = ge T43 40 0 5 := ⟨_, rfl⟩
      have gy49 : 0 ≤ y49.toInt ∧ y49.toInt ≤ 7 := by rw [ey49]; exact RT43 40 _ _
      have q50 : (ge T43 40 0 5).toInt = y49.toInt := congrArg Int32.toInt (show ge T43 40 0 5 = y49 from ey49.symm)
      refine zk_eq (fun c51 => ?_) (fun c51 => ?_)
      ·
        unfold B_X7_ands_46
        unfold B_X7_ands_47
        have q52 : (ge T43 40 0 2).toInt = y1.toInt := congrArg Int32.toInt (show ge T43 40 0 2 = y1 from ((fT43.1 40 0 2 rfl).trans ((fT32.1 40 0 2 rfl).trans ((fT16.1 40 0 2 rfl).trans ey1.symm))))
        have q53 : (ge T43 40 0 4).toInt = y45.toInt := congrArg Int32.toInt (show ge T43 40 0 4 = y45 from ey45.symm)
        have q54 : (ge T43 40 0 6).toInt = y47.toInt := congrArg Int32.toInt (show ge T43 40 0 6 = y47 from ey47.symm)
        have q55 : (ge T43 40 0 5).toInt = y49.toInt := congrArg Int32.toInt (show ge T43 40 0 5 = y49 from ey49.symm)
        refine zk_imp (hk (0 : Int32) _ ⟨RT43, (by omega)⟩ (by omega)) (fun v56 T57 h56 => ?_)
        obtain ⟨RT57, FT57, h56⟩ := h56
        exact ⟨RT57, FT43.tr FT57, by omega⟩
      ·
        refine zk_eq (fun c58 => ?_) (fun c58 => ?_)
        ·
          unfold B_X7_ands_46
          unfold B_X7_ands_47
          have q59 : (ge T43 40 0 2).toInt = y1.toInt := congrArg Int32.toInt (show ge T43 40 0 2 = y1 from ((fT43.1 40 0 2 rfl).trans ((fT32.1 40 0 2 rfl).trans ((fT16.1 40 0 2 rfl).trans ey1.symm))))
          have q60 : (ge T43 40 0 4).toInt = y45.toInt := congrArg Int32.toInt (show ge T43 40 0 4 = y45 from ey45.symm)
          have q61 : (ge T43 40 0 6).toInt = y47.toInt := congrArg Int32.toInt (show ge T43 40 0 6 = y47 from ey47.symm)
          have q62 : (ge T43 40 0 5).toInt = y49.toInt := congrArg Int32.toInt (show ge T43 40 0 5 = y49 from ey49.symm)
          refine zk_imp (hk (0 : Int32) _ ⟨RT43, (by omega)⟩ (by omega)) (fun v63 T64 h63 => ?_)
          obtain ⟨RT64, FT64, h63⟩ := h63
          exact ⟨RT64, FT43.tr FT64, by omega⟩
        ·
          unfold B_X7_ands_47
          have q65 : (ge T43 40 0 2).toInt = y1.toInt := congrArg Int32.toInt (show ge T43 40 0 2 = y1 from ((fT43.1 40 0 2 rfl).trans ((fT32.1 40 0 2 rfl).trans ((fT16.1 40 0 2 rfl).trans ey1.symm))))
          have q66 : (ge T43 40 0 4).toInt = y45.toInt := congrArg Int32.toInt (show ge T43 40 0 4 = y45 from ey45.symm)
          have q67 : (ge T43 40 0 6).toInt = y47.toInt := congrArg Int32.toInt (show ge T43 40 0 6 = y47 from ey47.symm)
          have q68 : (ge T43 40 0 5).toInt = y49.toInt := congrArg Int32.toInt (show ge T43 40 0 5 = y49 from ey49.symm)
          refine zk_imp (hk (1 : Int32) _ ⟨RT43, (by omega)⟩ (by omega)) (fun v69 T70 h69 => ?_)
          obtain ⟨RT70, FT70, h69⟩ := h69
          exact ⟨RT70, FT43.tr FT70, by omega⟩
  ·
    refine zk_gd (z01 (by omega)) ?_
    have q71 : (ge S 40 0 2).toInt = y1.toInt := congrArg Int32.toInt (show ge S 40 0 2 = y1 from ey1.symm)
    have q72 : (ge S 40 0 4).toInt = y3.toInt := congrArg Int32.toInt (show ge S 40 0 4 = y3 from ey3.symm)
    have q73 : (ge S 40 0 6).toInt = y5.toInt := congrArg Int32.toInt (show ge S 40 0 6 = y5 from ey5.symm)
    have q74 : (ge S 40 0 5).toInt = y7.toInt := congrArg Int32.toInt (show ge S 40 0 5 = y7 from ey7.symm)
    exact zk_some ⟨RS, FS, by omega⟩
theorem s_N_X7_ands (R : Nat → Int32 → fS → Option (Int32 × fS)) (d : Int) (hR0 : ∀ (q : Int32) (S : fS), RI S → ((¬ (ge S 40 0 6).toInt = 0 ∧ 1 ≤ d) ∨ ((ge S 40 0 5).toInt ≤ 6 ∧ 3 * (7 - (ge S 40 0 5).toInt) + 1 ≤ d)) → zk (R 0 q S) (fun v S9 => RI S9 ∧ Fr 13421838336 S S9 ∧ ((ge S 40 0 4).toInt ≤ (ge S9 40 0 4).toInt ∧ (ge S9 40 0 5).toInt = (ge S 40 0 5).toInt ∧ (¬ (ge S 40 0 6).toInt = 0 → ¬ (ge S9 40 0 6).toInt = 0)))) (hR1 : ∀ (q : Int32) (S : fS), RI S → ((¬ (ge S 40 0 6).toInt = 0 ∧ 2 ≤ d) ∨ ((ge S 40 0 5).toInt ≤ 6 ∧ 3 * (7 - (ge S 40 0 5).toInt) + 2 ≤ d)) → zk (R 1 q S) (fun v S9 => RI S9 ∧ Fr 13421838336 S S9 ∧ ((ge S 40 0 4).toInt ≤ (ge S9 40 0 4).toInt ∧ (ge S9 40 0 5).toInt = (ge S 40 0 5).toInt ∧ (¬ (ge S 40 0 6).toInt = 0 → ¬ (ge S9 40 0 6).toInt = 0)))) (hR2 : ∀ (q : Int32) (S : fS), RI S → ((¬ (ge S 40 0 6).toInt = 0 ∧ 3 ≤ d) ∨ ((ge S 40 0 5).toInt ≤ 6 ∧ 3 * (7 - (ge S 40 0 5).toInt) + 3 ≤ d)) → zk (R 2 q S) (fun v S9 => RI S9 ∧ Fr 13421838336 S S9 ∧ ((ge S 40 0 4).toInt ≤ (ge S9 40 0 4).toInt ∧ (ge S9 40 0 5).toInt = (ge S 40 0 5).toInt ∧ (¬ (ge S 40 0 6).toInt = 0 → ¬ (ge S9 40 0 6).toInt = 0)))) (hR3 : ∀ (q : Int32) (S : fS), RI S → ((¬ (ge S 40 0 6).toInt = 0 ∧ 1 ≤ d) ∨ ((ge S 40 0 5).toInt ≤ 6 ∧ 3 * (7 - (ge S 40 0 5).toInt) + 4 ≤ d)) → zk (R 3 q S) (fun v S9 => RI S9 ∧ Fr 13421838336 S S9 ∧ ((ge S 40 0 4).toInt ≤ (ge S9 40 0 4).toInt ∧ (ge S9 40 0 5).toInt = (ge S 40 0 5).toInt ∧ (¬ (ge S 40 0 6).toInt = 0 → ¬ (ge S9 40 0 6).toInt = 0) ∧ 0 ≤ v.toInt ∧ v.toInt ≤ 1))) (hR4 : ∀ (q : Int32) (S : fS), RI S → ((¬ (ge S 40 0 6).toInt = 0 ∧ 2 ≤ d) ∨ ((ge S 40 0 5).toInt ≤ 6 ∧ 3 * (7 - (ge S 40 0 5).toInt) + 5 ≤ d)) → zk (R 4 q S) (fun v S9 => RI S9 ∧ Fr 13421838336 S S9 ∧ ((ge S 40 0 4).toInt ≤ (ge S9 40 0 4).toInt ∧ (ge S9 40 0 5).toInt = (ge S 40 0 5).toInt ∧ (¬ (ge S 40 0 6).toInt = 0 → ¬ (ge S9 40 0 6).toInt = 0) ∧ 0 ≤ v.toInt ∧ v.toInt ≤ 1))) (hR5 : ∀ (q : Int32) (S : fS), RI S → ((¬ (ge S 40 0 6).toInt = 0 ∧ 3 ≤ d) ∨ ((ge S 40 0 5).toInt ≤ 6 ∧ 3 * (7 - (ge S 40 0 5).toInt) + 6 ≤ d)) → zk (R 5 q S) (fun v S9 => RI S9 ∧ Fr 13421838336 S S9 ∧ ((ge S 40 0 4).toInt ≤ (ge S9 40 0 4).toInt ∧ (ge S9 40 0 5).toInt = (ge S 40 0 5).toInt ∧ (¬ (ge S 40 0 6).toInt = 0 → ¬ (ge S9 40 0 6).toInt = 0) ∧ 0 ≤ v.toInt ∧ v.toInt ≤ 1))) (S0 : fS) (RS0 : RI S0) (hpr : ((¬ (ge S0 40 0 6).toInt = 0 ∧ 2 ≤ d + 1) ∨ ((ge S0 40 0 5).toInt ≤ 6 ∧ 3 * (7 - (ge S0 40 0 5).toInt) + 5 ≤ d + 1))) : zk (N_X7_ands R S0) (fun v S9 => RI S9 ∧ Fr 13421838336 S0 S9 ∧ ((ge S0 40 0 4).toInt ≤ (ge S9 40 0 4).toInt ∧ (ge S9 40 0 5).toInt = (ge S0 40 0 5).toInt ∧ (¬ (ge S0 40 0 6).toInt = 0 → ¬ (ge S9 40 0 6).toInt = 0) ∧ 0 ≤ v.toInt ∧ v.toInt ≤ 1)) := by
  have l0 : (0 : Int32).toInt = 0 := by decide
  have FS0 : Fr 13421838336 S0 S0 := Fr.rf
  unfold N_X7_ands
  obtain ⟨y1, ey1⟩ : ∃ y : Int32, y = ge S0 40 0 2 := ⟨_, rfl⟩
  have gy1 : 0 ≤ y1.toInt ∧ y1.toInt ≤ 300 := by rw [ey1]; exact RS0 40 _ _
  have q2 : (ge S0 40 0 2).toInt = y1.toInt := congrArg Int32.toInt (show ge S0 40 0 2 = y1 from ey1.symm)
  obtain ⟨y3, ey3⟩ : ∃ y : Int32, y = ge S0 40 0 4 := ⟨_, rfl⟩
  have gy3 : 0 ≤ y3.toInt ∧ y3.toInt ≤ 300 := by rw [ey3]; exact RS0 40 _ _
  have q4 : (ge S0 40 0 4).toInt = y3.toInt := congrArg Int32.toInt (show ge S0 40 0 4 = y3 from ey3.symm)
  have q5 : byv S0 (ge S0 40 0 4) = byv S0 y3 := congrArg (byv S0) (show ge S0 40 0 4 = y3 from ey3.symm)
  obtain ⟨y6, ey6⟩ : ∃ y : Int32, y = ge S0 40 0 6 := ⟨_, rfl⟩
  have q7 : (ge S0 40 0 6).toInt = y6.toInt := congrArg Int32.toInt (show ge S0 40 0 6 = y6 from ey6.symm)
  obtain ⟨y8, ey8⟩ : ∃ y : Int32, y = ge S0 40 0 5 := ⟨_, rfl⟩
  have gy8 : 0 ≤ y8.toInt ∧ y8.toInt ≤ 7 := by rw [ey8]; exact RS0 40 _ _
  have q9 : (ge S0 40 0 5).toInt = y8.toInt := congrArg Int32.toInt (show ge S0 40 0 5 = y8 from ey8.symm)
  have q10 : (ge S0 40 0 2).toInt = y1.toInt := congrArg Int32.toInt (show ge S0 40 0 2 = y1 from ey1.symm)
  have q11 : (ge S0 40 0 4).toInt = y3.toInt := congrArg Int32.toInt (show ge S0 40 0 4 = y3 from ey3.symm)
  have q12 : byv S0 (ge S0 40 0 4) = byv S0 y3 := congrArg (byv S0) (show ge S0 40 0 4 = y3 from ey3.symm)
  have q13 : (ge S0 40 0 6).toInt = y6.toInt := congrArg Int32.toInt (show ge S0 40 0 6 = y6 from ey6.symm)
  have q14 : (ge S0 40 0 5).toInt = y8.toInt := congrArg Int32.toInt (show ge S0 40 0 5 = y8 from ey8.symm)
  refine zk_bd (hR3 _ _ RS0 (by omega)) (fun v15 T16 h15 => ?_)
  obtain ⟨RT16, fT16, h15⟩ := h15
  have FT16 := FS0.tr (fT16.sub (m := 13421838336) (by decide))
  have q17 : (ge T16 40 0 2).toInt = y1.toInt := congrArg Int32.toInt (show ge T16 40 0 2 = y1 from ((fT16.1 40 0 2 rfl).trans ey1.symm))
  obtain ⟨y18, ey18⟩ : ∃ y : Int32, y = ge T16 40 0 4 := ⟨_, rfl⟩
  have gy18 : 0 ≤ y18.toInt ∧ y18.toInt ≤ 300 := by rw [ey18]; exact RT16 40 _ _
  have q19 : (ge T16 40 0 4).toInt = y18.toInt := congrArg Int32.toInt (show ge T16 40 0 4 = y18 from ey18.symm)
  have q20 : byv T16 (ge T16 40 0 4) = byv T16 y18 := congrArg (byv T16) (show ge T16 40 0 4 = y18 from ey18.symm)
  have q21 := byv_fr FT16 rfl y18
  obtain ⟨y22, ey22⟩ : ∃ y : Int32, y = ge T16 40 0 6 := ⟨_, rfl⟩
  have q23 : (ge T16 40 0 6).toInt = y22.toInt := congrArg Int32.toInt (show ge T16 40 0 6 = y22 from ey22.symm)
  obtain ⟨y24, ey24⟩ : ∃ y : Int32, y = ge T16 40 0 5 := ⟨_, rfl⟩
  have gy24 : 0 ≤ y24.toInt ∧ y24.toInt ≤ 7 := by rw [ey24]; exact RT16 40 _ _
  have q25 : (ge T16 40 0 5).toInt = y24.toInt := congrArg Int32.toInt (show ge T16 40 0 5 = y24 from ey24.symm)
  have q26 : (ge T16 40 0 2).toInt = y1.toInt := congrArg Int32.toInt (show ge T16 40 0 2 = y1 from ((fT16.1 40 0 2 rfl).trans ey1.symm))
  have q27 : (ge T16 40 0 4).toInt = y18.toInt := congrArg Int32.toInt (show ge T16 40 0 4 = y18 from ey18.symm)
  have q28 : byv T16 (ge T16 40 0 4) = byv T16 y18 := congrArg (byv T16) (show ge T16 40 0 4 = y18 from ey18.symm)
  have q29 := byv_fr FT16 rfl y18
  have q30 : (ge T16 40 0 6).toInt = y22.toInt := congrArg Int32.toInt (show ge T16 40 0 6 = y22 from ey22.symm)
  have q31 : (ge T16 40 0 5).toInt = y24.toInt := congrArg Int32.toInt (show ge T16 40 0 5 = y24 from ey24.symm)
  refine zk_imp (s_B_X7_ands_5 R d hR0 hR1 hR2 hR3 hR4 hR5 _ _ RT16 (by omega) (by omega)) (fun v32 T33 h32 => ?_)
  obtain ⟨RT33, fT33, h32⟩ := h32
  have FT33 := FT16.tr (fT33.sub (m := 13421838336) (by decide))
  have q34 : (ge T33 40 0 2).toInt = y1.toInt := congrArg Int32.toInt (show ge T33 40 0 2 = y1 from ((fT33.1 40 0 2 rfl).trans ((fT16.1 40 0 2 rfl).trans ey1.symm)))
  obtain ⟨y35, ey35⟩ : ∃ y : Int32, y = ge T33 40 0 4 := ⟨_, rfl⟩
  have gy35 : 0 ≤ y35.toInt ∧ y35.toInt ≤ 300 := by rw [ey35]; exact RT33 40 _ _
  have q36 : (ge T33 40 0 4).toInt = y35.toInt := congrArg Int32.toInt (show ge T33 40 0 4 = y35 from ey35.symm)
  have q37 : byv T33 (ge T33 40 0 4) = byv T33 y35 := congrArg (byv T33) (show ge T33 40 0 4 = y35 from ey35.symm)
  have q38 := byv_fr FT33 rfl y35
  obtain ⟨y39, ey39⟩ : ∃ y : Int32, y = ge T33 40 0 6 := ⟨_, rfl⟩
  have q40 : (ge T33 40 0 6).toInt = y39.toInt := congrArg Int32.toInt (show ge T33 40 0 6 = y39 from ey39.symm)
  obtain ⟨y41, ey41⟩ : ∃ y : Int32, y = ge T33 40 0 5 := ⟨_, rfl⟩
  have gy41 : 0 ≤ y41.toInt ∧ y41.toInt ≤ 7 := by rw [ey41]; exact RT33 40 _ _
  have q42 : (ge T33 40 0 5).toInt = y41.toInt := congrArg Int32.toInt (show ge T33 40 0 5 = y41 from ey41.symm)
  exact ⟨RT33, FT33, by omega⟩
theorem s_B_X7_ors_5 (R : Nat → Int32 → fS → Option (Int32 × fS)) (d : Int) (hR0 : ∀ (q : Int32) (S : fS), RI S → ((¬ (ge S 40 0 6).toInt = 0 ∧ 1 ≤ d) ∨ ((ge S 40 0 5).toInt ≤ 6 ∧ 3 * (7 - (ge S 40 0 5).toInt) + 1 ≤ d)) → zk (R 0 q S) (fun v S9 => RI S9 ∧ Fr 13421838336 S S9 ∧ ((ge S 40 0 4).toInt ≤ (ge S9 40 0 4).toInt ∧ (ge S9 40 0 5).toInt = (ge S 40 0 5).toInt ∧ (¬ (ge S 40 0 6).toInt = 0 → ¬ (ge S9 40 0 6).toInt = 0)))) (hR1 : ∀ (q : Int32) (S : fS), RI S → ((¬ (ge S 40 0 6).toInt = 0 ∧ 2 ≤ d) ∨ ((ge S 40 0 5).toInt ≤ 6 ∧ 3 * (7 - (ge S 40 0 5).toInt) + 2 ≤ d)) → zk (R 1 q S) (fun v S9 => RI S9 ∧ Fr 13421838336 S S9 ∧ ((ge S 40 0 4).toInt ≤ (ge S9 40 0 4).toInt ∧ (ge S9 40 0 5).toInt = (ge S 40 0 5).toInt ∧ (¬ (ge S 40 0 6).toInt = 0 → ¬ (ge S9 40 0 6).toInt = 0)))) (hR2 : ∀ (q : Int32) (S : fS), RI S → ((¬ (ge S 40 0 6).toInt = 0 ∧ 3 ≤ d) ∨ ((ge S 40 0 5).toInt ≤ 6 ∧ 3 * (7 - (ge S 40 0 5).toInt) + 3 ≤ d)) → zk (R 2 q S) (fun v S9 => RI S9 ∧ Fr 13421838336 S S9 ∧ ((ge S 40 0 4).toInt ≤ (ge S9 40 0 4).toInt ∧ (ge S9 40 0 5).toInt = (ge S 40 0 5).toInt ∧ (¬ (ge S 40 0 6).toInt = 0 → ¬ (ge S9 40 0 6).toInt = 0)))) (hR3 : ∀ (q : Int32) (S : fS), RI S → ((¬ (ge S 40 0 6).toInt = 0 ∧ 1 ≤ d) ∨ ((ge S 40 0 5).toInt ≤ 6 ∧ 3 * (7 - (ge S 40 0 5).toInt) + 4 ≤ d)) → zk (R 3 q S) (fun v S9 => RI S9 ∧ Fr 13421838336 S S9 ∧ ((ge S 40 0 4).toInt ≤ (ge S9 40 0 4).toInt ∧ (ge S9 40 0 5).toInt = (ge S 40 0 5).toInt ∧ (¬ (ge S 40 0 6).toInt = 0 → ¬ (ge S9 40 0 6).toInt = 0) ∧ 0 ≤ v.toInt ∧ v.toInt ≤ 1))) (hR4 : ∀ (q : Int32) (S : fS), RI S → ((¬ (ge S 40 0 6).toInt = 0 ∧ 2 ≤ d) ∨ ((ge S 40 0 5).toInt ≤ 6 ∧ 3 * (7 - (ge S 40 0 5).toInt) + 5 ≤ d)) → zk (R 4 q S) (fun v S9 => RI S9 ∧ Fr 13421838336 S S9 ∧ ((ge S 40 0 4).toInt ≤ (ge S9 40 0 4).toInt ∧ (ge S9 40 0 5).toInt = (ge S 40 0 5).toInt ∧ (¬ (ge S 40 0 6).toInt = 0 → ¬ (ge S9 40 0 6).toInt = 0) ∧ 0 ≤ v.toInt ∧ v.toInt ≤ 1))) (hR5 : ∀ (q : Int32) (S : fS), RI S → ((¬ (ge S 40 0 6).toInt = 0 ∧ 3 ≤ d) ∨ ((ge S 40 0 5).toInt ≤ 6 ∧ 3 * (7 - (ge S 40 0 5).toInt) + 6 ≤ d)) → zk (R 5 q S) (fun v S9 => RI S9 ∧ Fr 13421838336 S S9 ∧ ((ge S 40 0 4).toInt ≤ (ge S9 40 0 4).toInt ∧ (ge S9 40 0 5).toInt = (ge S 40 0 5).toInt ∧ (¬ (ge S 40 0 6).toInt = 0 → ¬ (ge S9 40 0 6).toInt = 0) ∧ 0 ≤ v.toInt ∧ v.toInt ≤ 1))) (z : Int32) (S : fS) (RS : RI S) (hi : 0 ≤ z.toInt ∧ z.toInt ≤ 1 ∧ ((¬ (ge S 40 0 6).toInt = 0 ∧ 2 ≤ d) ∨ ((ge S 40 0 5).toInt ≤ 6 ∧ 3 * (7 - (ge S 40 0 5).toInt) + 5 ≤ d))) (hm : (300 - (ge S 40 0 4).toInt).toNat < 4294967296) : zk (lp (B_X7_ors_5 R) fuel z S) (fun v S9 => RI S9 ∧ Fr 13421838336 S S9 ∧ ((ge S 40 0 4).toInt ≤ (ge S9 40 0 4).toInt ∧ (ge S9 40 0 5).toInt = (ge S 40 0 5).toInt ∧ (¬ (ge S 40 0 6).toInt = 0 → ¬ (ge S9 40 0 6).toInt = 0) ∧ 0 ≤ v.toInt ∧ v.toInt ≤ 1)) := by
  have l0 : (0 : Int32).toInt = 0 := by decide
  have l1 : (1 : Int32).toInt = 1 := by decide
  have l6 : (6 : Int32).toInt = 6 := by decide
  have l15 : (15 : Int32).toInt = 15 := by decide
  have l18 : (18 : Int32).toInt = 18 := by decide
  refine zk_lp (fun z S => RI S ∧ (0 ≤ z.toInt ∧ z.toInt ≤ 1 ∧ ((¬ (ge S 40 0 6).toInt = 0 ∧ 2 ≤ d) ∨ ((ge S 40 0 5).toInt ≤ 6 ∧ 3 * (7 - (ge S 40 0 5).toInt) + 5 ≤ d)))) (fun z S => (300 - (ge S 40 0 4).toInt).toNat) (fun z S (v : Int32) S9 => RI S9 ∧ Fr 13421838336 S S9 ∧ ((ge S 40 0 4).toInt ≤ (ge S9 40 0 4).toInt ∧ (ge S9 40 0 5).toInt = (ge S 40 0 5).toInt ∧ (¬ (ge S 40 0 6).toInt = 0 → ¬ (ge S9 40 0 6).toInt = 0) ∧ 0 ≤ v.toInt ∧ v.toInt ≤ 1)) ?_ z S ⟨RS, hi⟩ hm
  clear RS hi hm
  intro k a1 S hI hk
  obtain ⟨RS, hI⟩ := hI
  have FS : Fr 13421838336 S S := Fr.rf
  unfold B_X7_ors_5
  obtain ⟨y1, ey1⟩ : ∃ y : Int32, y = ge S 40 0 2 := ⟨_, rfl⟩
  have gy1 : 0 ≤ y1.toInt ∧ y1.toInt ≤ 300 := by rw [ey1]; exact RS 40 _ _
  have q2 : (ge S 40 0 2).toInt = y1.toInt := congrArg Int32.toInt (show ge S 40 0 2 = y1 from ey1.symm)
  obtain ⟨y3, ey3⟩ : ∃ y : Int32, y = ge S 40 0 4 := ⟨_, rfl⟩
  have gy3 : 0 ≤ y3.toInt ∧ y3.toInt ≤ 300 := by rw [ey3]; exact RS 40 _ _
  have q4 : (ge S 40 0 4).toInt = y3.toInt := congrArg Int32.toInt (show ge S 40 0 4 = y3 from ey3.symm)
  obtain ⟨y5, ey5⟩ : ∃ y : Int32, y = ge S 40 0 6 := ⟨_, rfl⟩
  have q6 : (ge S 40 0 6).toInt = y5.toInt := congrArg Int32.toInt (show ge S 40 0 6 = y5 from ey5.symm)
  obtain ⟨y7, ey7⟩ : ∃ y : Int32, y = ge S 40 0 5 := ⟨_, rfl⟩
  have gy7 : 0 ≤ y7.toInt ∧ y7.toInt ≤ 7 := by rw [ey7]; exact RS 40 _ _
  have q8 : (ge S 40 0 5).toInt = y7.toInt := congrArg Int32.toInt (show ge S 40 0 5 = y7 from ey7.symm)
  refine zk_ivq (x := y5) ey5.symm ?_
  have b9 := ti_bd y5
  refine zk_eq (fun c10 => ?_) (fun c10 => ?_)
  ·
    have q11 : (ge S 40 0 2).toInt = y1.toInt := congrArg Int32.toInt (show ge S 40 0 2 = y1 from ey1.symm)
    have q12 : (ge S 40 0 4).toInt = y3.toInt := congrArg Int32.toInt (show ge S 40 0 4 = y3 from ey3.symm)
    have q13 : (ge S 40 0 6).toInt = y5.toInt := congrArg Int32.toInt (show ge S 40 0 6 = y5 from ey5.symm)
    have q14 : (ge S 40 0 5).toInt = y7.toInt := congrArg Int32.toInt (show ge S 40 0 5 = y7 from ey7.symm)
    refine zk_bd (s_F_X7_isWord _ _ _ _ _ _ RS) (fun v15 T16 h15 => ?_)
    obtain ⟨RT16, fT16, h15⟩ := h15
    have FT16 := FS.tr (fT16.sub (m := 13421838336) (by decide))
    have q17 : (ge T16 40 0 2).toInt = y1.toInt := congrArg Int32.toInt (show ge T16 40 0 2 = y1 from ((fT16.1 40 0 2 rfl).trans ey1.symm))
    obtain ⟨y18, ey18⟩ : ∃ y : Int32, y = ge T16 40 0 4 := ⟨_, rfl⟩
    have gy18 : 0 ≤ y18.toInt ∧ y18.toInt ≤ 300 := by rw [ey18]; exact RT16 40 _ _
    have q19 : (ge T16 40 0 4).toInt = y18.toInt := congrArg Int32.toInt (show ge T16 40 0 4 = y18 from ey18.symm)
    have q20 : (ge T16 40 0 6).toInt = y5.toInt := congrArg Int32.toInt (show ge T16 40 0 6 = y5 from ((fT16.1 40 0 6 rfl).trans ey5.symm))
    have q21 : (ge T16 40 0 5).toInt = y7.toInt := congrArg Int32.toInt (show ge T16 40 0 5 = y7 from ((fT16.1 40 0 5 rfl).trans ey7.symm))
    have h15w := isw1 h15.2 (by decide)
    replace h15 := h15.1
    refine zk_eq (fun c22 => ?_) (fun c22 => ?_)
    ·
      refine zk_gd (z01 (by omega)) ?_
      have q23 : (ge T16 40 0 2).toInt = y1.toInt := congrArg Int32.toInt (show ge T16 40 0 2 = y1 from ((fT16.1 40 0 2 rfl).trans ey1.symm))
      have q24 : (ge T16 40 0 4).toInt = y18.toInt := congrArg Int32.toInt (show ge T16 40 0 4 = y18 from ey18.symm)
      have q25 : (ge T16 40 0 6).toInt = y5.toInt := congrArg Int32.toInt (show ge T16 40 0 6 = y5 from ((fT16.1 40 0 6 rfl).trans ey5.symm))
      have q26 : (ge T16 40 0 5).toInt = y7.toInt := congrArg Int32.toInt (show ge T16 40 0 5 = y7 from ((fT16.1 40 0 5 rfl).trans ey7.symm))
      exact zk_some ⟨RT16, FT16, by omega⟩
    ·
      have q27 : (ge T16 40 0 2).toInt = y1.toInt := congrArg Int32.toInt (show ge T16 40 0 2 = y1 from ((fT16.1 40 0 2 rfl).trans ey1.symm))
      have q28 : (ge T16 40 0 4).toInt = y18.toInt := congrArg Int32.toInt (show ge T16 40 0 4 = y18 from ey18.symm)
      have q29 : (ge T16 40 0 6).toInt = y5.toInt := congrArg Int32.toInt (show ge T16 40 0 6 = y5 from ((fT16.1 40 0 6 rfl).trans ey5.symm))
      have q30 : (ge T16 40 0 5).toInt = y7.toInt := congrArg Int32.toInt (show ge T16 40 0 5 = y7 from ((fT16.1 40 0 5 rfl).trans ey7.symm))
      refine zk_bd (s_F_X7_skipWord _ RT16) (fun v31 T32 h31 => ?_)
      obtain ⟨RT32, fT32, h31⟩ := h31
      have FT32 := FT16.tr (fT32.sub (m := 13421838336) (by decide))
      have q33 : (ge T32 40 0 2).toInt = y1.toInt := congrArg Int32.toInt (show ge T32 40 0 2 = y1 from ((fT32.1 40 0 2 rfl).trans ((fT16.1 40 0 2 rfl).trans ey1.symm)))
      obtain ⟨y34, ey34⟩ : ∃ y : Int32, y = ge T32 40 0 4 := ⟨_, rfl⟩
      have gy34 : 0 ≤ y34.toInt ∧ y34.toInt ≤ 300 := by rw [ey34]; exact RT32 40 _ _
      have q35 : (ge T32 40 0 4).toInt = y34.toInt := congrArg Int32.toInt (show ge T32 40 0 4 = y34 from ey34.symm)
      have q36 : (ge T32 40 0 6).toInt = y5.toInt := congrArg Int32.toInt (show ge T32 40 0 6 = y5 from ((fT32.1 40 0 6 rfl).trans ((fT16.1 40 0 6 rfl).trans ey5.symm)))
      have q37 : (ge T32 40 0 5).toInt = y7.toInt := congrArg Int32.toInt (show ge T32 40 0 5 = y7 from ((fT32.1 40 0 5 rfl).trans ((fT16.1 40 0 5 rfl).trans ey7.symm)))
      have q38 : (ge T32 40 0 2).toInt = y1.toInt := congrArg Int32.toInt (show ge T32 40 0 2 = y1 from ((fT32.1 40 0 2 rfl).trans ((fT16.1 40 0 2 rfl).trans ey1.symm)))
      have q39 : (ge T32 40 0 4).toInt = y34.toInt := congrArg Int32.toInt (show ge T32 40 0 4 = y34 from ey34.symm)
      have q40 : (ge T32 40 0 6).toInt = y5.toInt := congrArg Int32.toInt (show ge T32 40 0 6 = y5 from ((fT32.1 40 0 6 rfl).trans ((fT16.1 40 0 6 rfl).trans ey5.symm)))
      have q41 : (ge T32 40 0 5).toInt = y7.toInt := congrArg Int32.toInt (show ge T32 40 0 5 = y7 from ((fT32.1 40 0 5 rfl).trans ((fT16.1 40 0 5 rfl).trans ey7.symm)))
      refine zk_bd (hR4 _ _ RT32 (by omega)) (fun v42 T43 h42 => ?_)
      obtain ⟨RT43, fT43, h42⟩ := h42
      have FT43 := FT32.tr (fT43.sub (m := 13421838336) (by decide))
      have q44 : (ge T43 40 0 2).toInt = y1.toInt := congrArg Int32.toInt (show ge T43 40 0 2 = y1 from ((fT43.1 40 0 2 rfl).trans ((fT32.1 40 0 2 rfl).trans ((fT16.1 40 0 2 rfl).trans ey1.symm))))
      obtain ⟨y45, ey45⟩ : ∃ y : Int32, y = ge T43 40 0 4 := ⟨_, rfl⟩
      have gy45 : 0 ≤ y45.toInt ∧ y45.toInt ≤ 300 := by rw [ey45]; exact RT43 40 _ _
      have q46 : (ge T43 40 0 4).toInt = y45.toInt := congrArg Int32.toInt (show ge T43 40 0 4 = y45 from ey45.symm)
      obtain ⟨y47, ey47⟩ : ∃ y : Int32, y = ge T43 40 0 6 := ⟨_, rfl⟩
      have q48 : (ge T43 40 0 6).toInt = y47.toInt := congrArg Int32.toInt (show ge T43 40 0 6 = y47 from ey47.symm)
      obtain ⟨y49, ey49⟩ : ∃ y : Int32, y = ge T43 40 0 5 := ⟨_, rfl⟩
      have gy49 : 0 ≤ y49.toInt ∧ y49.toInt ≤ 7 := by rw [ey49]; exact RT43 40 _ _
      have q50 : (ge T43 40 0 5).toInt = y49.toInt := congrArg Int32.toInt (show ge T43 40 0 5 = y49 from ey49.symm)
      refine zk_eq (fun c51 => ?_) (fun c51 => ?_)
      ·
        refine zk_eq (fun c52 => ?_) (fun c52 => ?_)
        ·
          unfold B_X7_ors_48
          have q53 : (ge T43 40 0 2).toInt = y1.toInt := congrArg Int32.toInt (show ge T43 40 0 2 = y1 from ((fT43.1 40 0 2 rfl).trans ((fT32.1 40 0 2 rfl).trans ((fT16.1 40 0 2 rfl).trans ey1.symm))))
          have q54 : (ge T43 40 0 4).toInt = y45.toInt := congrArg Int32.toInt (show ge T43 40 0 4 = y45 from ey45.symm)
          have q55 : (ge T43 40 0 6).toInt = y47.toInt := congrArg Int32.toInt (show ge T43 40 0 6 = y47 from ey47.symm)
          have q56 : (ge T43 40 0 5).toInt = y49.toInt := congrArg Int32.toInt (show ge T43 40 0 5 = y49 from ey49.symm)
          refine zk_imp (hk (0 : Int32) _ ⟨RT43, (by omega)⟩ (by omega)) (fun v57 T58 h57 => ?_)
          obtain ⟨RT58, FT58, h57⟩ := h57
          exact ⟨RT58, FT43.tr FT58, by omega⟩
        ·
          unfold B_X7_ors_43
          unfold B_X7_ors_48
          have q59 : (ge T43 40 0 2).toInt = y1.toInt := congrArg Int32.toInt (show ge T43 40 0 2 = y1 from ((fT43.1 40 0 2 rfl).trans ((fT32.1 40 0 2 rfl).trans ((fT16.1 40 0 2 rfl).trans ey1.symm))))
          have q60 : (ge T43 40 0 4).toInt = y45.toInt := congrArg Int32.toInt (show ge T43 40 0 4 = y45 from ey45.symm)
          have q61 : (ge T43 40 0 6).toInt = y47.toInt := congrArg Int32.toInt (show ge T43 40 0 6 = y47 from ey47.symm)
          have q62 : (ge T43 40 0 5).toInt = y49.toInt := congrArg Int32.toInt (show ge T43 40 0 5 = y49 from ey49.symm)
          refine zk_imp (hk (1 : Int32) _ ⟨RT43, (by omega)⟩ (by omega)) (fun v63 T64 h63 => ?_)
          obtain ⟨RT64, FT64, h63⟩ := h63
          exact ⟨RT64, FT43.tr FT64, by omega⟩
      ·
        unfold B_X7_ors_43
        unfold B_X7_ors_48
        have q65 : (ge T43 40 0 2).toInt = y1.toInt := congrArg Int32.toInt (show ge T43 40 0 2 = y1 from ((fT43.1 40 0 2 rfl).trans ((fT32.1 40 0 2 rfl).trans ((fT16.1 40 0 2 rfl).trans ey1.symm))))
        have q66 : (ge T43 40 0 4).toInt = y45.toInt := congrArg Int32.toInt (show ge T43 40 0 4 = y45 from ey45.symm)
        have q67 : (ge T43 40 0 6).toInt = y47.toInt := congrArg Int32.toInt (show ge T43 40 0 6 = y47 from ey47.symm)
        have q68 : (ge T43 40 0 5).toInt = y49.toInt := congrArg Int32.toInt (show ge T43 40 0 5 = y49 from ey49.symm)
        refine zk_imp (hk (1 : Int32) _ ⟨RT43, (by omega)⟩ (by omega)) (fun v69 T70 h69 => ?_)
        obtain ⟨RT70, FT70, h69⟩ := h69
        exact ⟨RT70, FT43.tr FT70, by omega⟩
  ·
    refine zk_gd (z01 (by omega)) ?_
    have q71 : (ge S 40 0 2).toInt = y1.toInt := congrArg Int32.toInt (show ge S 40 0 2 = y1 from ey1.symm)
    have q72 : (ge S 40 0 4).toInt = y3.toInt := congrArg Int32.toInt (show ge S 40 0 4 = y3 from ey3.symm)
    have q73 : (ge S 40 0 6).toInt = y5.toInt := congrArg Int32.toInt (show ge S 40 0 6 = y5 from ey5.symm)
    have q74 : (ge S 40 0 5).toInt = y7.toInt := congrArg Int32.toInt (show ge S 40 0 5 = y7 from ey7.symm)
    exact zk_some ⟨RS, FS, by omega⟩
theorem s_N_X7_ors (R : Nat → Int32 → fS → Option (Int32 × fS)) (d : Int) (hR0 : ∀ (q : Int32) (S : fS), RI S → ((¬ (ge S 40 0 6).toInt = 0 ∧ 1 ≤ d) ∨ ((ge S 40 0 5).toInt ≤ 6 ∧ 3 * (7 - (ge S 40 0 5).toInt) + 1 ≤ d)) → zk (R 0 q S) (fun v S9 => RI S9 ∧ Fr 13421838336 S S9 ∧ ((ge S 40 0 4).toInt ≤ (ge S9 40 0 4).toInt ∧ (ge S9 40 0 5).toInt = (ge S 40 0 5).toInt ∧ (¬ (ge S 40 0 6).toInt = 0 → ¬ (ge S9 40 0 6).toInt = 0)))) (hR1 : ∀ (q : Int32) (S : fS), RI S → ((¬ (ge S 40 0 6).toInt = 0 ∧ 2 ≤ d) ∨ ((ge S 40 0 5).toInt ≤ 6 ∧ 3 * (7 - (ge S 40 0 5).toInt) + 2 ≤ d)) → zk (R 1 q S) (fun v S9 => RI S9 ∧ Fr 13421838336 S S9 ∧ ((ge S 40 0 4).toInt ≤ (ge S9 40 0 4).toInt ∧ (ge S9 40 0 5).toInt = (ge S 40 0 5).toInt ∧ (¬ (ge S 40 0 6).toInt = 0 → ¬ (ge S9 40 0 6).toInt = 0)))) (hR2 : ∀ (q : Int32) (S : fS), RI S → ((¬ (ge S 40 0 6).toInt = 0 ∧ 3 ≤ d) ∨ ((ge S 40 0 5).toInt ≤ 6 ∧ 3 * (7 - (ge S 40 0 5).toInt) + 3 ≤ d)) → zk (R 2 q S) (fun v S9 => RI S9 ∧ Fr 13421838336 S S9 ∧ ((ge S 40 0 4).toInt ≤ (ge S9 40 0 4).toInt ∧ (ge S9 40 0 5).toInt = (ge S 40 0 5).toInt ∧ (¬ (ge S 40 0 6).toInt = 0 → ¬ (ge S9 40 0 6).toInt = 0)))) (hR3 : ∀ (q : Int32) (S : fS), RI S → ((¬ (ge S 40 0 6).toInt = 0 ∧ 1 ≤ d) ∨ ((ge S 40 0 5).toInt ≤ 6 ∧ 3 * (7 - (ge S 40 0 5).toInt) + 4 ≤ d)) → zk (R 3 q S) (fun v S9 => RI S9 ∧ Fr 13421838336 S S9 ∧ ((ge S 40 0 4).toInt ≤ (ge S9 40 0 4).toInt ∧ (ge S9 40 0 5).toInt = (ge S 40 0 5).toInt ∧ (¬ (ge S 40 0 6).toInt = 0 → ¬ (ge S9 40 0 6).toInt = 0) ∧ 0 ≤ v.toInt ∧ v.toInt ≤ 1))) (hR4 : ∀ (q : Int32) (S : fS), RI S → ((¬ (ge S 40 0 6).toInt = 0 ∧ 2 ≤ d) ∨ ((ge S 40 0 5).toInt ≤ 6 ∧ 3 * (7 - (ge S 40 0 5).toInt) + 5 ≤ d)) → zk (R 4 q S) (fun v S9 => RI S9 ∧ Fr 13421838336 S S9 ∧ ((ge S 40 0 4).toInt ≤ (ge S9 40 0 4).toInt ∧ (ge S9 40 0 5).toInt = (ge S 40 0 5).toInt ∧ (¬ (ge S 40 0 6).toInt = 0 → ¬ (ge S9 40 0 6).toInt = 0) ∧ 0 ≤ v.toInt ∧ v.toInt ≤ 1))) (hR5 : ∀ (q : Int32) (S : fS), RI S → ((¬ (ge S 40 0 6).toInt = 0 ∧ 3 ≤ d) ∨ ((ge S 40 0 5).toInt ≤ 6 ∧ 3 * (7 - (ge S 40 0 5).toInt) + 6 ≤ d)) → zk (R 5 q S) (fun v S9 => RI S9 ∧ Fr 13421838336 S S9 ∧ ((ge S 40 0 4).toInt ≤ (ge S9 40 0 4).toInt ∧ (ge S9 40 0 5).toInt = (ge S 40 0 5).toInt ∧ (¬ (ge S 40 0 6).toInt = 0 → ¬ (ge S9 40 0 6).toInt = 0) ∧ 0 ≤ v.toInt ∧ v.toInt ≤ 1))) (S0 : fS) (RS0 : RI S0) (hpr : ((¬ (ge S0 40 0 6).toInt = 0 ∧ 3 ≤ d + 1) ∨ ((ge S0 40 0 5).toInt ≤ 6 ∧ 3 * (7 - (ge S0 40 0 5).toInt) + 6 ≤ d + 1))) : zk (N_X7_ors R S0) (fun v S9 => RI S9 ∧ Fr 13421838336 S0 S9 ∧ ((ge S0 40 0 4).toInt ≤ (ge S9 40 0 4).toInt ∧ (ge S9 40 0 5).toInt = (ge S0 40 0 5).toInt ∧ (¬ (ge S0 40 0 6).toInt = 0 → ¬ (ge S9 40 0 6).toInt = 0) ∧ 0 ≤ v.toInt ∧ v.toInt ≤ 1)) := by
  have l0 : (0 : Int32).toInt = 0 := by decide
  have FS0 : Fr 13421838336 S0 S0 := Fr.rf
  unfold N_X7_ors
  obtain ⟨y1, ey1⟩ : ∃ y : Int32, y = ge S0 40 0 2 := ⟨_, rfl⟩
  have gy1 : 0 ≤ y1.toInt ∧ y1.toInt ≤ 300 := by rw [ey1]; exact RS0 40 _ _
  have q2 : (ge S0 40 0 2).toInt = y1.toInt := congrArg Int32.toInt (show ge S0 40 0 2 = y1 from ey1.symm)
  obtain ⟨y3, ey3⟩ : ∃ y : Int32, y = ge S0 40 0 4 := ⟨_, rfl⟩
  have gy3 : 0 ≤ y3.toInt ∧ y3.toInt ≤ 300 := by rw [ey3]; exact RS0 40 _ _
  have q4 : (ge S0 40 0 4).toInt = y3.toInt := congrArg Int32.toInt (show ge S0 40 0 4 = y3 from ey3.symm)
  have q5 : byv S0 (ge S0 40 0 4) = byv S0 y3 := congrArg (byv S0) (show ge S0 40 0 4 = y3 from ey3.symm)
  obtain ⟨y6, ey6⟩ : ∃ y : Int32, y = ge S0 40 0 6 := ⟨_, rfl⟩
  have q7 : (ge S0 40 0 6).toInt = y6.toInt := congrArg Int32.toInt (show ge S0 40 0 6 = y6 from ey6.symm)
  obtain ⟨y8, ey8⟩ : ∃ y : Int32, y = ge S0 40 0 5 := ⟨_, rfl⟩
  have gy8 : 0 ≤ y8.toInt ∧ y8.toInt ≤ 7 := by rw [ey8]; exact RS0 40 _ _
  have q9 : (ge S0 40 0 5).toInt = y8.toInt := congrArg Int32.toInt (show ge S0 40 0 5 = y8 from ey8.symm)
  have q10 : (ge S0 40 0 2).toInt = y1.toInt := congrArg Int32.toInt (show ge S0 40 0 2 = y1 from ey1.symm)
  have q11 : (ge S0 40 0 4).toInt = y3.toInt := congrArg Int32.toInt (show ge S0 40 0 4 = y3 from ey3.symm)
  have q12 : byv S0 (ge S0 40 0 4) = byv S0 y3 := congrArg (byv S0) (show ge S0 40 0 4 = y3 from ey3.symm)
  have q13 : (ge S0 40 0 6).toInt = y6.toInt := congrArg Int32.toInt (show ge S0 40 0 6 = y6 from ey6.symm)
  have q14 : (ge S0 40 0 5).toInt = y8.toInt := congrArg Int32.toInt (show ge S0 40 0 5 = y8 from ey8.symm)
  refine zk_bd (hR4 _ _ RS0 (by omega)) (fun v15 T16 h15 => ?_)
  obtain ⟨RT16, fT16, h15⟩ := h15
  have FT16 := FS0.tr (fT16.sub (m := 13421838336) (by decide))
  have q17 : (ge T16 40 0 2).toInt = y1.toInt := congrArg Int32.toInt (show ge T16 40 0 2 = y1 from ((fT16.1 40 0 2 rfl).trans ey1.symm))
  obtain ⟨y18, ey18⟩ : ∃ y : Int32, y = ge T16 40 0 4 := ⟨_, rfl⟩
  have gy18 : 0 ≤ y18.toInt ∧ y18.toInt ≤ 300 := by rw [ey18]; exact RT16 40 _ _
  have q19 : (ge T16 40 0 4).toInt = y18.toInt := congrArg Int32.toInt (show ge T16 40 0 4 = y18 from ey18.symm)
  have q20 : byv T16 (ge T16 40 0 4) = byv T16 y18 := congrArg (byv T16) (show ge T16 40 0 4 = y18 from ey18.symm)
  have q21 := byv_fr FT16 rfl y18
  obtain ⟨y22, ey22⟩ : ∃ y : Int32, y = ge T16 40 0 6 := ⟨_, rfl⟩
  have q23 : (ge T16 40 0 6).toInt = y22.toInt := congrArg Int32.toInt (show ge T16 40 0 6 = y22 from ey22.symm)
  obtain ⟨y24, ey24⟩ : ∃ y : Int32, y = ge T16 40 0 5 := ⟨_, rfl⟩
  have gy24 : 0 ≤ y24.toInt ∧ y24.toInt ≤ 7 := by rw [ey24]; exact RT16 40 _ _
  have q25 : (ge T16 40 0 5).toInt = y24.toInt := congrArg Int32.toInt (show ge T16 40 0 5 = y24 from ey24.symm)
  have q26 : (ge T16 40 0 2).toInt = y1.toInt := congrArg Int32.toInt (show ge T16 40 0 2 = y1 from ((fT16.1 40 0 2 rfl).trans ey1.symm))
  have q27 : (ge T16 40 0 4).toInt = y18.toInt := congrArg Int32.toInt (show ge T16 40 0 4 = y18 from ey18.symm)
  have q28 : byv T16 (ge T16 40 0 4) = byv T16 y18 := congrArg (byv T16) (show ge T16 40 0 4 = y18 from ey18.symm)
  have q29 := byv_fr FT16 rfl y18
  have q30 : (ge T16 40 0 6).toInt = y22.toInt := congrArg Int32.toInt (show ge T16 40 0 6 = y22 from ey22.symm)
  have q31 : (ge T16 40 0 5).toInt = y24.toInt := congrArg Int32.toInt (show ge T16 40 0 5 = y24 from ey24.symm)
  refine zk_imp (s_B_X7_ors_5 R d hR0 hR1 hR2 hR3 hR4 hR5 _ _ RT16 (by omega) (by omega)) (fun v32 T33 h32 => ?_)
  obtain ⟨RT33, fT33, h32⟩ := h32
  have FT33 := FT16.tr (fT33.sub (m := 13421838336) (by decide))
  have q34 : (ge T33 40 0 2).toInt = y1.toInt := congrArg Int32.toInt (show ge T33 40 0 2 = y1 from ((fT33.1 40 0 2 rfl).trans ((fT16.1 40 0 2 rfl).trans ey1.symm)))
  obtain ⟨y35, ey35⟩ : ∃ y : Int32, y = ge T33 40 0 4 := ⟨_, rfl⟩
  have gy35 : 0 ≤ y35.toInt ∧ y35.toInt ≤ 300 := by rw [ey35]; exact RT33 40 _ _
  have q36 : (ge T33 40 0 4).toInt = y35.toInt := congrArg Int32.toInt (show ge T33 40 0 4 = y35 from ey35.symm)
  have q37 : byv T33 (ge T33 40 0 4) = byv T33 y35 := congrArg (byv T33) (show ge T33 40 0 4 = y35 from ey35.symm)
  have q38 := byv_fr FT33 rfl y35
  obtain ⟨y39, ey39⟩ : ∃ y : Int32, y = ge T33 40 0 6 := ⟨_, rfl⟩
  have q40 : (ge T33 40 0 6).toInt = y39.toInt := congrArg Int32.toInt (show ge T33 40 0 6 = y39 from ey39.symm)
  obtain ⟨y41, ey41⟩ : ∃ y : Int32, y = ge T33 40 0 5 := ⟨_, rfl⟩
  have gy41 : 0 ≤ y41.toInt ∧ y41.toInt ≤ 7 := by rw [ey41]; exact RT33 40 _ _
  have q42 : (ge T33 40 0 5).toInt = y41.toInt := congrArg Int32.toInt (show ge T33 40 0 5 = y41 from ey41.symm)
  exact ⟨RT33, FT33, by omega⟩
