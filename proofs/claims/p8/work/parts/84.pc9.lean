/-! the pure part: the tape -/
theorem s_B_X6_writeBytes_3  (z : Int32 × Int32) (S : fS) (RS : RI S) (hi : -8 ≤ z.2.toInt ∧ z.2.toInt ≤ 24) (hm : (z.2.toInt + 8).toNat < 4294967296) : zk (lp (B_X6_writeBytes_3) fuel z S) (fun v S9 => RI S9 ∧ Fr 3 S S9 ∧ ((ge S 0 0 11).toInt + (z.2.toInt + 8) / 8 ≤ 300 → (ge S9 0 0 11).toInt = (ge S 0 0 11).toInt + (z.2.toInt + 8) / 8)) := by
  have l0 : (0 : Int32).toInt = 0 := by decide
  have l1 : (1 : Int32).toInt = 1 := by decide
  have l11 : (11 : Int32).toInt = 11 := by decide
  have l300 : (300 : Int32).toInt = 300 := by decide
  have lom8 : (Int32.ofInt (-8)).toInt = -8 := by decide
  refine zk_lp (fun z S => RI S ∧ (-8 ≤ z.2.toInt ∧ z.2.toInt ≤ 24)) (fun z S => (z.2.toInt + 8).toNat) (fun z S (v : Int32) S9 => RI S9 ∧ Fr 3 S S9 ∧ ((ge S 0 0 11).toInt + (z.2.toInt + 8) / 8 ≤ 300 → (ge S9 0 0 11).toInt = (ge S 0 0 11).toInt + (z.2.toInt + 8) / 8)) ?_ z S ⟨RS, hi⟩ hm
  clear RS hi hm
  intro k z S hI hk
  obtain ⟨RS, hI⟩ := hI
  obtain ⟨a1, a2⟩ := z
  (try dsimp only at hI); (try dsimp only at hk); (try dsimp only)
  have FS : Fr 3 S S := Fr.rf
  unfold B_X6_writeBytes_3
  dsimp only
  obtain ⟨y1, ey1⟩ : ∃ y : Int32, y = ge S 0 0 11 := ⟨_, rfl⟩
  have gy1 : 0 ≤ y1.toInt ∧ y1.toInt ≤ 300 := by rw [ey1]; exact RS 0 _ _
  have q2 : (ge S 0 0 11).toInt = y1.toInt := congrArg Int32.toInt (show ge S 0 0 11 = y1 from ey1.symm)
  refine zk_lt (fun c3 => ?_) (fun c3 => ?_)
  ·
    have q4 : (ge S 0 0 11).toInt = y1.toInt := congrArg Int32.toInt (show ge S 0 0 11 = y1 from ey1.symm)
    exact zk_some ⟨RS, FS, by omega⟩
  ·
    refine zk_ivq (x := y1) ey1.symm ?_
    refine zk_le (fun c5 => ?_) (fun c5 => ?_)
    ·
      unfold B_X6_writeBytes_43
      refine zk_iv fun x6 e6 => ?_
      have gx6 : x6.toInt = a2.toInt + (Int32.ofInt (-8)).toInt := by rw [e6]; exact ti_add (by omega) (by omega)
      have q7 : (ge S 0 0 11).toInt = y1.toInt := congrArg Int32.toInt (show ge S 0 0 11 = y1 from ey1.symm)
      refine zk_imp (hk (a1, x6) _ ⟨RS, (by (try dsimp only) <;> omega)⟩ (by (try dsimp only) <;> omega)) (fun v8 T9 h8 => ?_)
      obtain ⟨RT9, FT9, h8⟩ := h8
      try dsimp only at h8
      exact ⟨RT9, FS.tr FT9, by omega⟩
    ·
      refine zk_ivq (x := y1) ey1.symm ?_
      refine zk_iv fun x10 e10 => ?_
      refine zk_iv fun x11 e11 => ?_
      have gx11 : 0 ≤ x11.toInt ∧ x11.toInt ≤ 255 := by rw [e11]; exact ti_and255 _
      refine zk_gd ⟨by omega, by omega⟩ ?_
      refine zk_sv fun S12 E12 => ?_
      have RS12 : RI S12 := by rw [E12]; exact RS.wf rfl
      have FS12 : Fr 3 S S12 := by rw [E12]; exact FS.wr (k := 0) rfl rfl
      refine zk_ivq (x := y1) (by rw [E12]; exact (ge_pua (by decide)).trans ey1.symm) ?_
      refine zk_iv fun x13 e13 => ?_
      have gx13 : x13.toInt = y1.toInt + (1 : Int32).toInt := by rw [e13]; exact ti_add (by omega) (by omega)
      refine zk_sv fun S14 E14 => ?_
      have RS14 : RI S14 := by rw [E14]; exact RS12.wr (show (0 : Int) ≤ x13.toInt by omega) (show x13.toInt ≤ 300 by omega)
      have FS14 : Fr 3 S S14 := by rw [E14]; exact FS12.wr (k := 1) rfl rfl
      unfold B_X6_writeBytes_43
      refine zk_iv fun x15 e15 => ?_
      have gx15 : x15.toInt = a2.toInt + (Int32.ofInt (-8)).toInt := by rw [e15]; exact ti_add (by omega) (by omega)
      have q16 : (ge S14 0 0 11).toInt = x13.toInt := congrArg Int32.toInt (show ge S14 0 0 11 = x13 from (by rw [E14]; exact ge_pus))
      refine zk_imp (hk (a1, x15) _ ⟨RS14, (by (try dsimp only) <;> omega)⟩ (by (try dsimp only) <;> omega)) (fun v17 T18 h17 => ?_)
      obtain ⟨RT18, FT18, h17⟩ := h17
      try dsimp only at h17
      exact ⟨RT18, FS14.tr FT18, by omega⟩
theorem s_F_X6_writeBytes (p1 : Int32) (S0 : fS) (RS0 : RI S0) : zk (F_X6_writeBytes p1 S0) (fun v S9 => RI S9 ∧ Fr 3 S0 S9 ∧ ((ge S0 0 0 11).toInt + 4 ≤ 300 → (ge S9 0 0 11).toInt = (ge S0 0 0 11).toInt + 4)) := by
  have l24 : (24 : Int32).toInt = 24 := by decide
  have FS0 : Fr 3 S0 S0 := Fr.rf
  unfold F_X6_writeBytes
  obtain ⟨y1, ey1⟩ : ∃ y : Int32, y = ge S0 0 0 11 := ⟨_, rfl⟩
  have gy1 : 0 ≤ y1.toInt ∧ y1.toInt ≤ 300 := by rw [ey1]; exact RS0 0 _ _
  have q2 : (ge S0 0 0 11).toInt = y1.toInt := congrArg Int32.toInt (show ge S0 0 0 11 = y1 from ey1.symm)
  have q3 : (ge S0 0 0 11).toInt = y1.toInt := congrArg Int32.toInt (show ge S0 0 0 11 = y1 from ey1.symm)
  refine zk_imp (s_B_X6_writeBytes_3 _ _ RS0 (by (try dsimp only) <;> omega) (by (try dsimp only) <;> omega)) (fun v4 T5 h4 => ?_)
  obtain ⟨RT5, fT5, h4⟩ := h4
  have FT5 := FS0.tr (fT5.sub (m := 3) (by decide))
  obtain ⟨y6, ey6⟩ : ∃ y : Int32, y = ge T5 0 0 11 := ⟨_, rfl⟩
  have gy6 : 0 ≤ y6.toInt ∧ y6.toInt ≤ 300 := by rw [ey6]; exact RT5 0 _ _
  have q7 : (ge T5 0 0 11).toInt = y6.toInt := congrArg Int32.toInt (show ge T5 0 0 11 = y6 from ey6.symm)
  try dsimp only at h4
  exact ⟨RT5, FT5, by omega⟩
theorem s_F_X6_feed (p1 : Int32) (p2 : Int32) (p3 : Int32) (p4 : Int32) (p5 : Int32) (S0 : fS) (RS0 : RI S0) : zk (F_X6_feed p1 p2 p3 p4 p5 S0) (fun v S9 => RI S9 ∧ Fr 3 S0 S9 ∧ (((ge S0 0 0 11).toInt + 20 ≤ 300 ∧ (ge S9 0 0 11).toInt = (ge S0 0 0 11).toInt + 20 ∧ v.toInt = (ge S0 0 0 11).toInt + 20) ∨ (300 < (ge S0 0 0 11).toInt + 20 ∧ (ge S9 0 0 11).toInt = (ge S0 0 0 11).toInt ∧ v.toInt = -1))) := by
  have lm1 : (-1 : Int32).toInt = -1 := by decide
  have l0 : (0 : Int32).toInt = 0 := by decide
  have l11 : (11 : Int32).toInt = 11 := by decide
  have l20 : (20 : Int32).toInt = 20 := by decide
  have l300 : (300 : Int32).toInt = 300 := by decide
  have FS0 : Fr 3 S0 S0 := Fr.rf
  unfold F_X6_feed
  obtain ⟨y1, ey1⟩ : ∃ y : Int32, y = ge S0 0 0 11 := ⟨_, rfl⟩
  have gy1 : 0 ≤ y1.toInt ∧ y1.toInt ≤ 300 := by rw [ey1]; exact RS0 0 _ _
  have q2 : (ge S0 0 0 11).toInt = y1.toInt := congrArg Int32.toInt (show ge S0 0 0 11 = y1 from ey1.symm)
  refine zk_ivq (x := y1) ey1.symm ?_
  refine zk_iv fun x3 e3 => ?_
  have gx3 : x3.toInt = y1.toInt + (20 : Int32).toInt := by rw [e3]; exact ti_add (by omega) (by omega)
  refine zk_le (fun c4 => ?_) (fun c4 => ?_)
  ·
    have q5 : (ge S0 0 0 11).toInt = y1.toInt := congrArg Int32.toInt (show ge S0 0 0 11 = y1 from ey1.symm)
    refine zk_bd (s_F_X6_writeBytes _ _ RS0) (fun v6 T7 h6 => ?_)
    obtain ⟨RT7, fT7, h6⟩ := h6
    have FT7 := FS0.tr (fT7.sub (m := 3) (by decide))
    obtain ⟨y8, ey8⟩ : ∃ y : Int32, y = ge T7 0 0 11 := ⟨_, rfl⟩
    have gy8 : 0 ≤ y8.toInt ∧ y8.toInt ≤ 300 := by rw [ey8]; exact RT7 0 _ _
    have q9 : (ge T7 0 0 11).toInt = y8.toInt := congrArg Int32.toInt (show ge T7 0 0 11 = y8 from ey8.symm)
    have q10 : (ge T7 0 0 11).toInt = y8.toInt := congrArg Int32.toInt (show ge T7 0 0 11 = y8 from ey8.symm)
    refine zk_bd (s_F_X6_writeBytes _ _ RT7) (fun v11 T12 h11 => ?_)
    obtain ⟨RT12, fT12, h11⟩ := h11
    have FT12 := FT7.tr (fT12.sub (m := 3) (by decide))
    obtain ⟨y13, ey13⟩ : ∃ y : Int32, y = ge T12 0 0 11 := ⟨_, rfl⟩
    have gy13 : 0 ≤ y13.toInt ∧ y13.toInt ≤ 300 := by rw [ey13]; exact RT12 0 _ _
    have q14 : (ge T12 0 0 11).toInt = y13.toInt := congrArg Int32.toInt (show ge T12 0 0 11 = y13 from ey13.symm)
    have q15 : (ge T12 0 0 11).toInt = y13.toInt := congrArg Int32.toInt (show ge T12 0 0 11 = y13 from ey13.symm)
    refine zk_bd (s_F_X6_writeBytes _ _ RT12) (fun v16 T17 h16 => ?_)
    obtain ⟨RT17, fT17, h16⟩ := h16
    have FT17 := FT12.tr (fT17.sub (m := 3) (by decide))
    obtain ⟨y18, ey18⟩ : ∃ y : Int32, y = ge T17 0 0 11 := ⟨_, rfl⟩
    have gy18 : 0 ≤ y18.toInt ∧ y18.toInt ≤ 300 := by rw [ey18]; exact RT17 0 _ _
    have q19 : (ge T17 0 0 11).toInt = y18.toInt := congrArg Int32.toInt (show ge T17 0 0 11 = y18 from ey18.symm)
    have q20 : (ge T17 0 0 11).toInt = y18.toInt := congrArg Int32.toInt (show ge T17 0 0 11 = y18 from ey18.symm)
    refine zk_bd (s_F_X6_writeBytes _ _ RT17) (fun v21 T22 h21 => ?_)
    obtain ⟨RT22, fT22, h21⟩ := h21
    have FT22 := FT17.tr (fT22.sub (m := 3) (by decide))
    obtain ⟨y23, ey23⟩ : ∃ y : Int32, y = ge T22 0 0 11 := ⟨_, rfl⟩
    have gy23 : 0 ≤ y23.toInt ∧ y23.toInt ≤ 300 := by rw [ey23]; exact RT22 0 _ _
    have q24 : (ge T22 0 0 11).toInt = y23.toInt := congrArg Int32.toInt (show ge T22 0 0 11 = y23 from ey23.symm)
    have q25 : (ge T22 0 0 11).toInt = y23.toInt := congrArg Int32.toInt (show ge T22 0 0 11 = y23 from ey23.symm)
    refine zk_bd (s_F_X6_writeBytes _ _ RT22) (fun v26 T27 h26 => ?_)
    obtain ⟨RT27, fT27, h26⟩ := h26
    have FT27 := FT22.tr (fT27.sub (m := 3) (by decide))
    obtain ⟨y28, ey28⟩ : ∃ y : Int32, y = ge T27 0 0 11 := ⟨_, rfl⟩
    have gy28 : 0 ≤ y28.toInt ∧ y28.toInt ≤ 300 := by rw [ey28]; exact RT27 0 _ _
    have q29 : (ge T27 0 0 11).toInt = y28.toInt := congrArg Int32.toInt (show ge T27 0 0 11 = y28 from ey28.symm)
    refine zk_ivq (x := y28) ey28.symm ?_
    have q30 : (ge T27 0 0 11).toInt = y28.toInt := congrArg Int32.toInt (show ge T27 0 0 11 = y28 from ey28.symm)
    exact zk_some ⟨RT27, FT27, by omega⟩
  ·
    have q31 : (ge S0 0 0 11).toInt = y1.toInt := congrArg Int32.toInt (show ge S0 0 0 11 = y1 from ey1.symm)
    exact zk_some ⟨RS0, FS0, by omega⟩
