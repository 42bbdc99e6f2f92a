/-! the pure part: the reference, calls that only want ranges -/
theorem s_F_X7_fault (S0 : fS) (RS0 : RI S0) : zk (F_X7_fault S0) (fun v S9 => RI S9 ∧ Fr 65536 S0 S9 ∧ True) := by
  have l0 : (0 : Int32).toInt = 0 := by decide
  have l3 : (3 : Int32).toInt = 3 := by decide
  have FS0 : Fr 65536 S0 S0 := Fr.rf
  unfold F_X7_fault
  refine zk_sv fun S1 E1 => ?_
  have RS1 : RI S1 := by rw [E1]; exact RS0.wf rfl
  have FS1 : Fr 65536 S0 S1 := by rw [E1]; exact FS0.wr (k := 16) rfl rfl
  refine zk_iv fun x2 e2 => ?_
  exact zk_some ⟨RS1, FS1, trivial⟩
theorem s_F_X7_reads (p1 : Int32) (S0 : fS) (RS0 : RI S0) (hp : 0 ≤ p1.toInt ∧ p1.toInt ≤ 8) : zk (F_X7_reads p1 S0) (fun v S9 => RI S9 ∧ Fr 33619968 S0 S9 ∧ True) := by
  have l0 : (0 : Int32).toInt = 0 := by decide
  have l1 : (1 : Int32).toInt = 1 := by decide
  have l2 : (2 : Int32).toInt = 2 := by decide
  have l5 : (5 : Int32).toInt = 5 := by decide
  have l8 : (8 : Int32).toInt = 8 := by decide
  have l16 : (16 : Int32).toInt = 16 := by decide
  have FS0 : Fr 33619968 S0 S0 := Fr.rf
  unfold F_X7_reads
  refine zk_sv fun S1 E1 => ?_
  have RS1 : RI S1 := by rw [E1]; exact RS0.wr (show (-1 : Int) ≤ p1.toInt by omega) (show p1.toInt ≤ 8 by omega)
  have FS1 : Fr 33619968 S0 S1 := by rw [E1]; exact FS0.wr (k := 25) rfl rfl
  refine zk_gd ⟨by omega, by omega⟩ ?_
  refine zk_iv fun x2 e2 => ?_
  have gx2 : 0 ≤ x2.toInt ∧ x2.toInt ≤ 300 := by rw [e2]; exact RS1 44 _ _
  refine zk_sv fun S3 E3 => ?_
  have RS3 : RI S3 := by rw [E3]; exact RS1.wr (show (0 : Int) ≤ x2.toInt by omega) (show x2.toInt ≤ 300 by omega)
  have FS3 : Fr 33619968 S0 S3 := by rw [E3]; exact FS1.wr (k := 25) rfl rfl
  refine zk_le (fun c4 => ?_) (fun c4 => ?_)
  ·
    unfold B_X7_reads_26
    refine zk_gd (z01 (by omega)) ?_
    refine zk_sv fun S5 E5 => ?_
    have RS5 : RI S5 := by rw [E5]; exact RS3.wr (show (0 : Int) ≤ (0 : Int32).toInt by omega) (show (0 : Int32).toInt ≤ 1 by omega)
    have FS5 : Fr 33619968 S0 S5 := by rw [E5]; exact FS3.wr (k := 16) rfl rfl
    exact zk_some ⟨RS5, FS5, trivial⟩
  ·
    unfold B_X7_reads_26
    refine zk_gd (z01 (by omega)) ?_
    refine zk_sv fun S6 E6 => ?_
    have RS6 : RI S6 := by rw [E6]; exact RS3.wr (show (0 : Int) ≤ (1 : Int32).toInt by omega) (show (1 : Int32).toInt ≤ 1 by omega)
    have FS6 : Fr 33619968 S0 S6 := by rw [E6]; exact FS3.wr (k := 16) rfl rfl
    exact zk_some ⟨RS6, FS6, trivial⟩
theorem s_F_X7_namesOf (p1 : Int32) (S0 : fS) (RS0 : RI S0) : zk (F_X7_namesOf p1 S0) (fun v S9 => RI S9 ∧ Fr 65536 S0 S9 ∧ True) := by
  have l0 : (0 : Int32).toInt = 0 := by decide
  have l1 : (1 : Int32).toInt = 1 := by decide
  have l2 : (2 : Int32).toInt = 2 := by decide
  have l3 : (3 : Int32).toInt = 3 := by decide
  have l4 : (4 : Int32).toInt = 4 := by decide
  have l5 : (5 : Int32).toInt = 5 := by decide
  have l6 : (6 : Int32).toInt = 6 := by decide
  have l32 : (32 : Int32).toInt = 32 := by decide
  have l33 : (33 : Int32).toInt = 33 := by decide
  have l35 : (35 : Int32).toInt = 35 := by decide
  have l36 : (36 : Int32).toInt = 36 := by decide
  have l37 : (37 : Int32).toInt = 37 := by decide
  have l38 : (38 : Int32).toInt = 38 := by decide
  have FS0 : Fr 65536 S0 S0 := Fr.rf
  unfold F_X7_namesOf
  refine zk_iv fun x1 e1 => ?_
  refine zk_iv fun x2 e2 => ?_
  refine zk_sv fun S3 E3 => ?_
  have RS3 : RI S3 := by rw [E3]; exact RS0.wf rfl
  have FS3 : Fr 65536 S0 S3 := by rw [E3]; exact FS0.wr (k := 16) rfl rfl
  refine zk_iv fun x4 e4 => ?_
  refine zk_iv fun x5 e5 => ?_
  refine zk_sv fun S6 E6 => ?_
  have RS6 : RI S6 := by rw [E6]; exact RS3.wf rfl
  have FS6 : Fr 65536 S0 S6 := by rw [E6]; exact FS3.wr (k := 16) rfl rfl
  refine zk_iv fun x7 e7 => ?_
  refine zk_iv fun x8 e8 => ?_
  refine zk_iv fun x9 e9 => ?_
  refine zk_iv fun x10 e10 => ?_
  refine zk_sv fun S11 E11 => ?_
  have RS11 : RI S11 := by rw [E11]; exact RS6.wf rfl
  have FS11 : Fr 65536 S0 S11 := by rw [E11]; exact FS6.wr (k := 16) rfl rfl
  refine zk_iv fun x12 e12 => ?_
  refine zk_sv fun S13 E13 => ?_
  have RS13 : RI S13 := by rw [E13]; exact RS11.wf rfl
  have FS13 : Fr 65536 S0 S13 := by rw [E13]; exact FS11.wr (k := 16) rfl rfl
  refine zk_iv fun x14 e14 => ?_
  refine zk_sv fun S15 E15 => ?_
  have RS15 : RI S15 := by rw [E15]; exact RS13.wf rfl
  have FS15 : Fr 65536 S0 S15 := by rw [E15]; exact FS13.wr (k := 16) rfl rfl
  refine zk_sv fun S16 E16 => ?_
  have RS16 : RI S16 := by rw [E16]; exact RS15.wf rfl
  have FS16 : Fr 65536 S0 S16 := by rw [E16]; exact FS15.wr (k := 16) rfl rfl
  refine zk_sv fun S17 E17 => ?_
  have RS17 : RI S17 := by rw [E17]; exact RS16.wf rfl
  have FS17 : Fr 65536 S0 S17 := by rw [E17]; exact FS16.wr (k := 16) rfl rfl
  exact zk_some ⟨RS17, FS17, trivial⟩
theorem s_F_X7_within (p0 : Int32) (p1 : Int32) (p2 : Int32) (S0 : fS) (RS0 : RI S0) (hpr : p1.toInt ≤ p2.toInt) : zk (F_X7_within p0 p1 p2 S0) (fun v S9 => S0 = S9 ∧ (p1.toInt ≤ v.toInt ∧ v.toInt ≤ p2.toInt)) := by
  unfold F_X7_within
  have b1 := ti_bd p1
  have b2 := ti_bd p0
  refine zk_le (fun c3 => ?_) (fun c3 => ?_)
  ·
    have b4 := ti_bd p2
    refine zk_le (fun c5 => ?_) (fun c5 => ?_)
    ·
      exact zk_some ⟨rfl, by omega⟩
    ·
      exact zk_some ⟨rfl, by omega⟩
  ·
    exact zk_some ⟨rfl, by omega⟩
theorem s_F_X7_tellsBy (p1 : Int32) (p2 : Int32) (S0 : fS) (RS0 : RI S0) (hp : -1 ≤ p1.toInt ∧ p1.toInt ≤ 5) : zk (F_X7_tellsBy p1 p2 S0) (fun v S9 => RI S9 ∧ Fr 13455392768 S0 S9 ∧ (1 ≤ (ge S9 40 0 20).toInt ∧ (ge S9 40 0 20).toInt ≤ 36)) := by
  have lm1 : (-1 : Int32).toInt = -1 := by decide
  have l0 : (0 : Int32).toInt = 0 := by decide
  have l1 : (1 : Int32).toInt = 1 := by decide
  have l5 : (5 : Int32).toInt = 5 := by decide
  have l18 : (18 : Int32).toInt = 18 := by decide
  have l19 : (19 : Int32).toInt = 19 := by decide
  have l20 : (20 : Int32).toInt = 20 := by decide
  have l36 : (36 : Int32).toInt = 36 := by decide
  have l999 : (999 : Int32).toInt = 999 := by decide
  have FS0 : Fr 13455392768 S0 S0 := Fr.rf
  unfold F_X7_tellsBy
  obtain ⟨y1, ey1⟩ : ∃ y : Int32, y = ge S0 40 0 20 := ⟨_, rfl⟩
  have q2 : (ge S0 40 0 20).toInt = y1.toInt := congrArg Int32.toInt (show ge S0 40 0 20 = y1 from ey1.symm)
  refine zk_sv fun S3 E3 => ?_
  have RS3 : RI S3 := by rw [E3]; exact RS0.wf rfl
  have FS3 : Fr 13455392768 S0 S3 := by rw [E3]; exact FS0.wr (k := 16) rfl rfl
  refine zk_sv fun S4 E4 => ?_
  have RS4 : RI S4 := by rw [E4]; exact RS3.wf rfl
  have FS4 : Fr 13455392768 S0 S4 := by rw [E4]; exact FS3.wr (k := 16) rfl rfl
  refine zk_sv fun S5 E5 => ?_
  have RS5 : RI S5 := by rw [E5]; exact RS4.wf rfl
  have FS5 : Fr 13455392768 S0 S5 := by rw [E5]; exact FS4.wr (k := 16) rfl rfl
  refine zk_sv fun S6 E6 => ?_
  have RS6 : RI S6 := by rw [E6]; exact RS5.wf rfl
  have FS6 : Fr 13455392768 S0 S6 := by rw [E6]; exact FS5.wr (k := 16) rfl rfl
  refine zk_eq (fun c7 => ?_) (fun c7 => ?_)
  ·
    unfold B_X7_tellsBy_36
    refine zk_ivq (x := 0) (by rw [E6]; exact (ge_puj (by decide)).trans (by rw [E5]; exact (ge_puj (by decide)).trans (by rw [E4]; exact ge_pus))) ?_
    have q8 : (ge S6 40 0 20).toInt = (0 : Int32).toInt := congrArg Int32.toInt (show ge S6 40 0 20 = (0 : Int32) from (by rw [E6]; exact ge_pus))
    refine zk_bd (s_F_X7_within _ _ _ _ RS6 (by omega)) (fun v9 T10 h9 => ?_)
    obtain ⟨rfl, h9⟩ := h9
    refine zk_sv fun S11 E11 => ?_
    have RS11 : RI S11 := by rw [E11]; exact RS6.wf rfl
    have FS11 : Fr 13455392768 S0 S11 := by rw [E11]; exact FS6.wr (k := 16) rfl rfl
    refine zk_ivq (x := 0) (by rw [E11]; exact (ge_puj (by decide)).trans (by rw [E6]; exact (ge_puj (by decide)).trans (by rw [E5]; exact ge_pus))) ?_
    have q12 : (ge S11 40 0 20).toInt = (0 : Int32).toInt := congrArg Int32.toInt (show ge S11 40 0 20 = (0 : Int32) from (by rw [E11]; exact (ge_puj (by decide)).trans (by rw [E6]; exact ge_pus)))
    refine zk_bd (s_F_X7_within _ _ _ _ RS11 (by omega)) (fun v13 T14 h13 => ?_)
    obtain ⟨rfl, h13⟩ := h13
    refine zk_sv fun S15 E15 => ?_
    have RS15 : RI S15 := by rw [E15]; exact RS11.wf rfl
    have FS15 : Fr 13455392768 S0 S15 := by rw [E15]; exact FS11.wr (k := 16) rfl rfl
    refine zk_ivq (x := 0) (by rw [E15]; exact (ge_puj (by decide)).trans (by rw [E11]; exact (ge_puj (by decide)).trans (by rw [E6]; exact ge_pus))) ?_
    have q16 : (ge S15 40 0 20).toInt = (0 : Int32).toInt := congrArg Int32.toInt (show ge S15 40 0 20 = (0 : Int32) from (by rw [E15]; exact (ge_puj (by decide)).trans (by rw [E11]; exact (ge_puj (by decide)).trans (by rw [E6]; exact ge_pus))))
    refine zk_bd (s_F_X7_within _ _ _ _ RS15 (by omega)) (fun v17 T18 h17 => ?_)
    obtain ⟨rfl, h17⟩ := h17
    refine zk_sv fun S19 E19 => ?_
    have RS19 : RI S19 := by rw [E19]; exact RS15.wf rfl
    have FS19 : Fr 13455392768 S0 S19 := by rw [E19]; exact FS15.wr (k := 16) rfl rfl
    have q20 : (ge S19 40 0 20).toInt = v17.toInt := congrArg Int32.toInt (show ge S19 40 0 20 = v17 from (by rw [E19]; exact ge_pus))
    exact zk_some ⟨RS19, FS19, by omega⟩
  ·
    have q21 : (ge S6 40 0 20).toInt = (0 : Int32).toInt := congrArg Int32.toInt (show ge S6 40 0 20 = (0 : Int32) from (by rw [E6]; exact ge_pus))
    refine zk_bd (s_F_X7_reads _ _ RS6 (by omega)) (fun v22 T23 h22 => ?_)
    obtain ⟨RT23, fT23, h22⟩ := h22
    have FT23 := FS6.tr (fT23.sub (m := 13455392768) (by decide))
    obtain ⟨y24, ey24⟩ : ∃ y : Int32, y = ge T23 40 0 20 := ⟨_, rfl⟩
    have q25 : (ge T23 40 0 20).toInt = y24.toInt := congrArg Int32.toInt (show ge T23 40 0 20 = y24 from ey24.symm)
    have q26 : (ge T23 40 0 20).toInt = y24.toInt := congrArg Int32.toInt (show ge T23 40 0 20 = y24 from ey24.symm)
    refine zk_bd (s_F_X7_walks _ RT23) (fun v27 T28 h27 => ?_)
    obtain ⟨RT28, fT28, h27⟩ := h27
    have FT28 := FT23.tr (fT28.sub (m := 13455392768) (by decide))
    obtain ⟨y29, ey29⟩ : ∃ y : Int32, y = ge T28 40 0 20 := ⟨_, rfl⟩
    have q30 : (ge T28 40 0 20).toInt = y29.toInt := congrArg Int32.toInt (show ge T28 40 0 20 = y29 from ey29.symm)
    unfold B_X7_tellsBy_36
    refine zk_iv fun x31 e31 => ?_
    have q32 : (ge T28 40 0 20).toInt = y29.toInt := congrArg Int32.toInt (show ge T28 40 0 20 = y29 from ey29.symm)
    refine zk_bd (s_F_X7_within _ _ _ _ RT28 (by omega)) (fun v33 T34 h33 => ?_)
    obtain ⟨rfl, h33⟩ := h33
    refine zk_sv fun S35 E35 => ?_
    have RS35 : RI S35 := by rw [E35]; exact RT28.wf rfl
    have FS35 : Fr 13455392768 S0 S35 := by rw [E35]; exact FT28.wr (k := 16) rfl rfl
    refine zk_iv fun x36 e36 => ?_
    have q37 : (ge S35 40 0 20).toInt = y29.toInt := congrArg Int32.toInt (show ge S35 40 0 20 = y29 from (by rw [E35]; exact (ge_puj (by decide)).trans ey29.symm))
    refine zk_bd (s_F_X7_within _ _ _ _ RS35 (by omega)) (fun v38 T39 h38 => ?_)
    obtain ⟨rfl, h38⟩ := h38
    refine zk_sv fun S40 E40 => ?_
    have RS40 : RI S40 := by rw [E40]; exact RS35.wf rfl
    have FS40 : Fr 13455392768 S0 S40 := by rw [E40]; exact FS35.wr (k := 16) rfl rfl
    refine zk_ivq (x := y29) (by rw [E40]; exact (ge_puj (by decide)).trans (by rw [E35]; exact (ge_puj (by decide)).trans ey29.symm)) ?_
    have q41 : (ge S40 40 0 20).toInt = y29.toInt := congrArg Int32.toInt (show ge S40 40 0 20 = y29 from (by rw [E40]; exact (ge_puj (by decide)).trans (by rw [E35]; exact (ge_puj (by decide)).trans ey29.symm)))
    refine zk_bd (s_F_X7_within _ _ _ _ RS40 (by omega)) (fun v42 T43 h42 => ?_)
    obtain ⟨rfl, h42⟩ := h42
    refine zk_sv fun S44 E44 => ?_
    have RS44 : RI S44 := by rw [E44]; exact RS40.wf rfl
    have FS44 : Fr 13455392768 S0 S44 := by rw [E44]; exact FS40.wr (k := 16) rfl rfl
    have q45 : (ge S44 40 0 20).toInt = v42.toInt := congrArg Int32.toInt (show ge S44 40 0 20 = v42 from (by rw [E44]; exact ge_pus))
    exact zk_some ⟨RS44, FS44, by omega⟩
theorem s_F_X7_lotsBy (p1 : Int32) (S0 : fS) (RS0 : RI S0) (hp : -1 ≤ p1.toInt ∧ p1.toInt ≤ 5) : zk (F_X7_lotsBy p1 S0) (fun v S9 => RI S9 ∧ Fr 13455392768 S0 S9 ∧ 1 ≤ v.toInt ∧ v.toInt ≤ 36) := by
  have l0 : (0 : Int32).toInt = 0 := by decide
  have l20 : (20 : Int32).toInt = 20 := by decide
  have FS0 : Fr 13455392768 S0 S0 := Fr.rf
  unfold F_X7_lotsBy
  obtain ⟨y1, ey1⟩ : ∃ y : Int32, y = ge S0 40 0 20 := ⟨_, rfl⟩
  have q2 : (ge S0 40 0 20).toInt = y1.toInt := congrArg Int32.toInt (show ge S0 40 0 20 = y1 from ey1.symm)
  have q3 : (ge S0 40 0 20).toInt = y1.toInt := congrArg Int32.toInt (show ge S0 40 0 20 = y1 from ey1.symm)
  refine zk_bd (s_F_X7_tellsBy _ _ _ RS0 (by omega)) (fun v4 T5 h4 => ?_)
  obtain ⟨RT5, fT5, h4⟩ := h4
  have FT5 := FS0.tr (fT5.sub (m := 13455392768) (by decide))
  obtain ⟨y6, ey6⟩ : ∃ y : Int32, y = ge T5 40 0 20 := ⟨_, rfl⟩
  have q7 : (ge T5 40 0 20).toInt = y6.toInt := congrArg Int32.toInt (show ge T5 40 0 20 = y6 from ey6.symm)
  refine zk_ivq (x := y6) ey6.symm ?_
  have q8 : (ge T5 40 0 20).toInt = y6.toInt := congrArg Int32.toInt (show ge T5 40 0 20 = y6 from ey6.symm)
  exact zk_some ⟨RT5, FT5, by omega⟩
theorem s_F_X7_force (p1 : Int32) (S0 : fS) (RS0 : RI S0) : zk (F_X7_force p1 S0) (fun v S9 => RI S9 ∧ Fr 134283264 S0 S9 ∧ True) := by
  have lm1 : (-1 : Int32).toInt = -1 := by decide
  have l0 : (0 : Int32).toInt = 0 := by decide
  have l1 : (1 : Int32).toInt = 1 := by decide
  have l13 : (13 : Int32).toInt = 13 := by decide
  have l15 : (15 : Int32).toInt = 15 := by decide
  have FS0 : Fr 134283264 S0 S0 := Fr.rf
  unfold F_X7_force
  refine zk_sv fun S1 E1 => ?_
  have RS1 : RI S1 := by rw [E1]; exact RS0.wf rfl
  have FS1 : Fr 134283264 S0 S1 := by rw [E1]; exact FS0.wr (k := 16) rfl rfl
  refine zk_iv fun x2 e2 => ?_
  have gx2 : 0 ≤ x2.toInt ∧ x2.toInt ≤ 6 := by rw [e2]; exact RS1 40 _ _
  refine zk_iv fun x3 e3 => ?_
  have gx3 : x3.toInt = x2.toInt - (1 : Int32).toInt := by rw [e3]; exact ti_sub (by omega) (by omega)
  refine zk_bd (s_F_X7_in _ _ _ _ RS1) (fun v4 T5 h4 => ?_)
  obtain ⟨rfl, h4⟩ := h4
  refine zk_eq (fun c6 => ?_) (fun c6 => ?_)
  ·
    unfold B_X7_force_25
    refine zk_bd (s_F_X7_bad _ _ _ RS1 (by omega)) (fun v7 T8 h7 => ?_)
    obtain ⟨RT8, fT8, h7⟩ := h7
    have FT8 := FS1.tr (fT8.sub (m := 134283264) (by decide))
    refine zk_eq (fun c9 => ?_) (fun c9 => ?_)
    ·
      refine zk_iv fun x10 e10 => ?_
      have gx10 : -1 ≤ x10.toInt ∧ x10.toInt ≤ 5 := by rw [e10]; exact RT8 40 _ _
      refine zk_sv fun S11 E11 => ?_
      have RS11 : RI S11 := by rw [E11]; exact RT8.wr (show (-1 : Int) ≤ p1.toInt by omega) (show p1.toInt ≤ 5 by omega)
      have FS11 : Fr 134283264 S0 S11 := by rw [E11]; exact FT8.wr (k := 27) rfl rfl
      exact zk_some ⟨RS11, FS11, trivial⟩
    ·
      exact zk_some ⟨RT8, FT8, trivial⟩
  ·
    unfold B_X7_force_25
    refine zk_bd (s_F_X7_bad _ _ _ RS1 (by omega)) (fun v12 T13 h12 => ?_)
    obtain ⟨RT13, fT13, h12⟩ := h12
    have FT13 := FS1.tr (fT13.sub (m := 134283264) (by decide))
    refine zk_eq (fun c14 => ?_) (fun c14 => ?_)
    ·
      refine zk_iv fun x15 e15 => ?_
      have gx15 : -1 ≤ x15.toInt ∧ x15.toInt ≤ 5 := by rw [e15]; exact RT13 40 _ _
      refine zk_sv fun S16 E16 => ?_
      have RS16 : RI S16 := by rw [E16]; exact RT13.wr (show (-1 : Int) ≤ p1.toInt by omega) (show p1.toInt ≤ 5 by omega)
      have FS16 : Fr 134283264 S0 S16 := by rw [E16]; exact FT13.wr (k := 27) rfl rfl
      exact zk_some ⟨RS16, FS16, trivial⟩
    ·
      exact zk_some ⟨RT13, FT13, trivial⟩
theorem s_F_X7_topOf (p1 : Int32) (S0 : fS) (RS0 : RI S0) (hp : 0 ≤ p1.toInt ∧ p1.toInt ≤ 63) : zk (F_X7_topOf p1 S0) (fun v S9 => S0 = S9 ∧ -1 ≤ v.toInt ∧ v.toInt ≤ 23) := by
  have lm1 : (-1 : Int32).toInt = -1 := by decide
  have l0 : (0 : Int32).toInt = 0 := by decide
  have l1 : (1 : Int32).toInt = 1 := by decide
  unfold F_X7_topOf
  refine zk_gd ⟨by omega, by omega⟩ ?_
  refine zk_iv fun x1 e1 => ?_
  have gx1 : 0 ≤ x1.toInt ∧ x1.toInt ≤ 24 := by rw [e1]; exact RS0 54 _ _
  refine zk_eq (fun c2 => ?_) (fun c2 => ?_)
  ·
    exact zk_some ⟨rfl, by omega⟩
  ·
    refine zk_gd ⟨by omega, by omega⟩ ?_
    refine zk_gd ⟨by omega, by omega⟩ ?_
    refine zk_ivq (x := x1) e1.symm ?_
    refine zk_iv fun x3 e3 => ?_
    have gx3 : x3.toInt = x1.toInt - (1 : Int32).toInt := by rw [e3]; exact ti_sub (by omega) (by omega)
    refine zk_gd ⟨by omega, by omega⟩ ?_
    refine zk_iv fun x4 e4 => ?_
    have gx4 : 0 ≤ x4.toInt ∧ x4.toInt ≤ 23 := by rw [e4]; exact RS0 53 _ _
    exact zk_some ⟨rfl, by omega⟩
theorem s_F_X7_top (p1 : Int32) (p2 : Int32) (S0 : fS) (RS0 : RI S0) : zk (F_X7_top p1 p2 S0) (fun v S9 => RI S9 ∧ Fr 65536 S0 S9 ∧ True) := by
  have l0 : (0 : Int32).toInt = 0 := by decide
  have l1 : (1 : Int32).toInt = 1 := by decide
  have FS0 : Fr 65536 S0 S0 := Fr.rf
  unfold F_X7_top
  refine zk_sv fun S1 E1 => ?_
  have RS1 : RI S1 := by rw [E1]; exact RS0.wf rfl
  have FS1 : Fr 65536 S0 S1 := by rw [E1]; exact FS0.wr (k := 16) rfl rfl
  refine zk_bd (s_F_X7_isCell _ _ RS1) (fun v2 T3 h2 => ?_)
  obtain ⟨rfl, h2⟩ := h2
  refine zk_eq (fun c4 => ?_) (fun c4 => ?_)
  ·
    unfold B_X7_top_18
    refine zk_bd (s_F_X7_bad _ _ _ RS1 (by omega)) (fun v5 T6 h5 => ?_)
    obtain ⟨RT6, fT6, h5⟩ := h5
    have FT6 := FS1.tr (fT6.sub (m := 65536) (by decide))
    refine zk_eq (fun c7 => ?_) (fun c7 => ?_)
    ·
      have b8 := ti_bd p2
      refine zk_eq (fun c9 => ?_) (fun c9 => ?_)
      ·
        refine zk_bd (s_F_X7_topOf _ _ RT6 (by omega)) (fun v10 T11 h10 => ?_)
        obtain ⟨rfl, h10⟩ := h10
        exact zk_some ⟨RT6, FT6, trivial⟩
      ·
        refine zk_gd ⟨by omega, by omega⟩ ?_
        refine zk_iv fun x12 e12 => ?_
        have gx12 : 0 ≤ x12.toInt ∧ x12.toInt ≤ 24 := by rw [e12]; exact RT6 54 _ _
        exact zk_some ⟨RT6, FT6, trivial⟩
    ·
      exact zk_some ⟨RT6, FT6, trivial⟩
  ·
    unfold B_X7_top_18
    refine zk_bd (s_F_X7_bad _ _ _ RS1 (by omega)) (fun v13 T14 h13 => ?_)
    obtain ⟨RT14, fT14, h13⟩ := h13
    have FT14 := FS1.tr (fT14.sub (m := 65536) (by decide))
    refine zk_eq (fun c15 => ?_) (fun c15 => ?_)
    ·
      have b16 := ti_bd p2
      refine zk_eq (fun c17 => ?_) (fun c17 => ?_)
      ·
        refine zk_bd (s_F_X7_topOf _ _ RT14 (by omega)) (fun v18 T19 h18 => ?_)
        obtain ⟨rfl, h18⟩ := h18
        exact zk_some ⟨RT14, FT14, trivial⟩
      ·
        refine zk_gd ⟨by omega, by omega⟩ ?_
        refine zk_iv fun x20 e20 => ?_
        have gx20 : 0 ≤ x20.toInt ∧ x20.toInt ≤ 24 := by rw [e20]; exact RT14 54 _ _
        exact zk_some ⟨RT14, FT14, trivial⟩
    ·
      exact zk_some ⟨RT14, FT14, trivial⟩
theorem s_F_X7_hole (p1 : Int32) (S0 : fS) (RS0 : RI S0) : zk (F_X7_hole p1 S0) (fun v S9 => RI S9 ∧ Fr 268500992 S0 S9 ∧ True) := by
  have l0 : (0 : Int32).toInt = 0 := by decide
  have l1 : (1 : Int32).toInt = 1 := by decide
  have l2 : (2 : Int32).toInt = 2 := by decide
  have l30 : (30 : Int32).toInt = 30 := by decide
  have FS0 : Fr 268500992 S0 S0 := Fr.rf
  unfold F_X7_hole
  refine zk_sv fun S1 E1 => ?_
  have RS1 : RI S1 := by rw [E1]; exact RS0.wf rfl
  have FS1 : Fr 268500992 S0 S1 := by rw [E1]; exact FS0.wr (k := 16) rfl rfl
  refine zk_bd (s_F_X7_isCell _ _ RS1) (fun v2 T3 h2 => ?_)
  obtain ⟨rfl, h2⟩ := h2
  refine zk_eq (fun c4 => ?_) (fun c4 => ?_)
  ·
    unfold B_X7_hole_18
    refine zk_bd (s_F_X7_bad _ _ _ RS1 (by omega)) (fun v5 T6 h5 => ?_)
    obtain ⟨RT6, fT6, h5⟩ := h5
    have FT6 := FS1.tr (fT6.sub (m := 268500992) (by decide))
    refine zk_eq (fun c7 => ?_) (fun c7 => ?_)
    ·
      refine zk_gd ⟨by omega, by omega⟩ ?_
      refine zk_iv fun x8 e8 => ?_
      have gx8 : 0 ≤ x8.toInt ∧ x8.toInt ≤ 24 := by rw [e8]; exact RT6 54 _ _
      refine zk_le (fun c9 => ?_) (fun c9 => ?_)
      ·
        unfold B_X7_hole_40
        refine zk_bd (s_F_X7_bad _ _ _ RT6 (by omega)) (fun v10 T11 h10 => ?_)
        obtain ⟨RT11, fT11, h10⟩ := h10
        have FT11 := FT6.tr (fT11.sub (m := 268500992) (by decide))
        refine zk_eq (fun c12 => ?_) (fun c12 => ?_)
        ·
          refine zk_iv fun x13 e13 => ?_
          have gx13 : 0 ≤ x13.toInt ∧ x13.toInt ≤ 63 := by rw [e13]; exact RT11 40 _ _
          refine zk_sv fun S14 E14 => ?_
          have RS14 : RI S14 := by rw [E14]; exact RT11.wr (show (0 : Int) ≤ p1.toInt by omega) (show p1.toInt ≤ 63 by omega)
          have FS14 : Fr 268500992 S0 S14 := by rw [E14]; exact FT11.wr (k := 28) rfl rfl
          exact zk_some ⟨RS14, FS14, trivial⟩
        ·
          exact zk_some ⟨RT11, FT11, trivial⟩
      ·
        unfold B_X7_hole_40
        refine zk_bd (s_F_X7_bad _ _ _ RT6 (by omega)) (fun v15 T16 h15 => ?_)
        obtain ⟨RT16, fT16, h15⟩ := h15
        have FT16 := FT6.tr (fT16.sub (m := 268500992) (by decide))
        refine zk_eq (fun c17 => ?_) (fun c17 => ?_)
        ·
          refine zk_iv fun x18 e18 => ?_
          have gx18 : 0 ≤ x18.toInt ∧ x18.toInt ≤ 63 := by rw [e18]; exact RT16 40 _ _
          refine zk_sv fun S19 E19 => ?_
          have RS19 : RI S19 := by rw [E19]; exact RT16.wr (show (0 : Int) ≤ p1.toInt by omega) (show p1.toInt ≤ 63 by omega)
          have FS19 : Fr 268500992 S0 S19 := by rw [E19]; exact FT16.wr (k := 28) rfl rfl
          exact zk_some ⟨RS19, FS19, trivial⟩
        ·
          exact zk_some ⟨RT16, FT16, trivial⟩
    ·
      exact zk_some ⟨RT6, FT6, trivial⟩
  ·
    unfold B_X7_hole_18
    refine zk_bd (s_F_X7_bad _ _ _ RS1 (by omega)) (fun v20 T21 h20 => ?_)
    obtain ⟨RT21, fT21, h20⟩ := h20
    have FT21 := FS1.tr (fT21.sub (m := 268500992) (by decide))
    refine zk_eq (fun c22 => ?_) (fun c22 => ?_)
    ·
      refine zk_gd ⟨by omega, by omega⟩ ?_
      refine zk_iv fun x23 e23 => ?_
      have gx23 : 0 ≤ x23.toInt ∧ x23.toInt ≤ 24 := by rw [e23]; exact RT21 54 _ _
      refine zk_le (fun c24 => ?_) (fun c24 => ?_)
      ·
        unfold B_X7_hole_40
        refine zk_bd (s_F_X7_bad _ _ _ RT21 (by omega)) (fun v25 T26 h25 => ?_)
        obtain ⟨RT26, fT26, h25⟩ := h25
        have FT26 := FT21.tr (fT26.sub (m := 268500992) (by decide))
        refine zk_eq (fun c27 => ?_) (fun c27 => ?_)
        ·
          refine zk_iv fun x28 e28 => ?_
          have gx28 : 0 ≤ x28.toInt ∧ x28.toInt ≤ 63 := by rw [e28]; exact RT26 40 _ _
          refine zk_sv fun S29 E29 => ?_
          have RS29 : RI S29 := by rw [E29]; exact RT26.wr (show (0 : Int) ≤ p1.toInt by omega) (show p1.toInt ≤ 63 by omega)
          have FS29 : Fr 268500992 S0 S29 := by rw [E29]; exact FT26.wr (k := 28) rfl rfl
          exact zk_some ⟨RS29, FS29, trivial⟩
        ·
          exact zk_some ⟨RT26, FT26, trivial⟩
      ·
        unfold B_X7_hole_40
        refine zk_bd (s_F_X7_bad _ _ _ RT21 (by omega)) (fun v30 T31 h30 => ?_)
        obtain ⟨RT31, fT31, h30⟩ := h30
        have FT31 := FT21.tr (fT31.sub (m := 268500992) (by decide))
        refine zk_eq (fun c32 => ?_) (fun c32 => ?_)
        ·
          refine zk_iv fun x33 e33 => ?_
          have gx33 : 0 ≤ x33.toInt ∧ x33.toInt ≤ 63 := by rw [e33]; exact RT31 40 _ _
          refine zk_sv fun S34 E34 => ?_
          have RS34 : RI S34 := by rw [E34]; exact RT31.wr (show (0 : Int) ≤ p1.toInt by omega) (show p1.toInt ≤ 63 by omega)
          have FS34 : Fr 268500992 S0 S34 := by rw [E34]; exact FT31.wr (k := 28) rfl rfl
          exact zk_some ⟨RS34, FS34, trivial⟩
        ·
          exact zk_some ⟨RT31, FT31, trivial⟩
    ·
      exact zk_some ⟨RT21, FT21, trivial⟩
theorem s_F_X7_set (p1 : Int32) (p2 : Int32) (S0 : fS) (RS0 : RI S0) : zk (F_X7_set p1 p2 S0) (fun v S9 => RI S9 ∧ Fr 1114112 S0 S9 ∧ True) := by
  have l0 : (0 : Int32).toInt = 0 := by decide
  have l1 : (1 : Int32).toInt = 1 := by decide
  have l2 : (2 : Int32).toInt = 2 := by decide
  have l14 : (14 : Int32).toInt = 14 := by decide
  have l23 : (23 : Int32).toInt = 23 := by decide
  have l31 : (31 : Int32).toInt = 31 := by decide
  have l32 : (32 : Int32).toInt = 32 := by decide
  have l33 : (33 : Int32).toInt = 33 := by decide
  have l99 : (99 : Int32).toInt = 99 := by decide
  have FS0 : Fr 1114112 S0 S0 := Fr.rf
  unfold F_X7_set
  refine zk_sv fun S1 E1 => ?_
  have RS1 : RI S1 := by rw [E1]; exact RS0.wf rfl
  have FS1 : Fr 1114112 S0 S1 := by rw [E1]; exact FS0.wr (k := 16) rfl rfl
  refine zk_bd (s_F_X7_in _ _ _ _ RS1) (fun v2 T3 h2 => ?_)
  obtain ⟨rfl, h2⟩ := h2
  refine zk_eq (fun c4 => ?_) (fun c4 => ?_)
  ·
    unfold B_X7_set_44
    unfold B_X7_set_49
    refine zk_bd (s_F_X7_bad _ _ _ RS1 (by omega)) (fun v5 T6 h5 => ?_)
    obtain ⟨RT6, fT6, h5⟩ := h5
    have FT6 := FS1.tr (fT6.sub (m := 1114112) (by decide))
    refine zk_eq (fun c7 => ?_) (fun c7 => ?_)
    ·
      have b8 := ti_bd p1
      refine zk_eq (fun c9 => ?_) (fun c9 => ?_)
      ·
        refine zk_iv fun x10 e10 => ?_
        unfold B_X7_set_85
        refine zk_eq (fun c11 => ?_) (fun c11 => ?_)
        ·
          refine zk_sv fun S12 E12 => ?_
          have RS12 : RI S12 := by rw [E12]; exact RT6.wf rfl
          have FS12 : Fr 1114112 S0 S12 := by rw [E12]; exact FT6.wr (k := 20) rfl rfl
          exact zk_some ⟨RS12, FS12, trivial⟩
        ·
          exact False.elim (by omega)
      ·
        refine zk_eq (fun c13 => ?_) (fun c13 => ?_)
        ·
          refine zk_iv fun x14 e14 => ?_
          unfold B_X7_set_85
          refine zk_eq (fun c15 => ?_) (fun c15 => ?_)
          ·
            exact False.elim (by omega)
          ·
            refine zk_eq (fun c16 => ?_) (fun c16 => ?_)
            ·
              refine zk_sv fun S17 E17 => ?_
              have RS17 : RI S17 := by rw [E17]; exact RT6.wf rfl
              have FS17 : Fr 1114112 S0 S17 := by rw [E17]; exact FT6.wr (k := 20) rfl rfl
              exact zk_some ⟨RS17, FS17, trivial⟩
            ·
              exact False.elim (by omega)
        ·
          refine zk_iv fun x18 e18 => ?_
          unfold B_X7_set_85
          refine zk_eq (fun c19 => ?_) (fun c19 => ?_)
          ·
            refine zk_sv fun S20 E20 => ?_
            have RS20 : RI S20 := by rw [E20]; exact RT6.wf rfl
            have FS20 : Fr 1114112 S0 S20 := by rw [E20]; exact FT6.wr (k := 20) rfl rfl
            exact zk_some ⟨RS20, FS20, trivial⟩
          ·
            refine zk_eq (fun c21 => ?_) (fun c21 => ?_)
            ·
              refine zk_sv fun S22 E22 => ?_
              have RS22 : RI S22 := by rw [E22]; exact RT6.wf rfl
              have FS22 : Fr 1114112 S0 S22 := by rw [E22]; exact FT6.wr (k := 20) rfl rfl
              exact zk_some ⟨RS22, FS22, trivial⟩
            ·
              refine zk_sv fun S23 E23 => ?_
              have RS23 : RI S23 := by rw [E23]; exact RT6.wf rfl
              have FS23 : Fr 1114112 S0 S23 := by rw [E23]; exact FT6.wr (k := 20) rfl rfl
              exact zk_some ⟨RS23, FS23, trivial⟩
    ·
      exact zk_some ⟨RT6, FT6, trivial⟩
  ·
    refine zk_eq (fun c24 => ?_) (fun c24 => ?_)
    ·
      unfold B_X7_set_38
      refine zk_bd (s_F_X7_in _ _ _ _ RS1) (fun v25 T26 h25 => ?_)
      obtain ⟨rfl, h25⟩ := h25
      refine zk_eq (fun c27 => ?_) (fun c27 => ?_)
      ·
        unfold B_X7_set_44
        unfold B_X7_set_49
        refine zk_bd (s_F_X7_bad _ _ _ RS1 (by omega)) (fun v28 T29 h28 => ?_)
        obtain ⟨RT29, fT29, h28⟩ := h28
        have FT29 := FS1.tr (fT29.sub (m := 1114112) (by decide))
        refine zk_eq (fun c30 => ?_) (fun c30 => ?_)
        ·
          refine zk_eq (fun c31 => ?_) (fun c31 => ?_)
          ·
            refine zk_iv fun x32 e32 => ?_
            unfold B_X7_set_85
            refine zk_eq (fun c33 => ?_) (fun c33 => ?_)
            ·
              refine zk_sv fun S34 E34 => ?_
              have RS34 : RI S34 := by rw [E34]; exact RT29.wf rfl
              have FS34 : Fr 1114112 S0 S34 := by rw [E34]; exact FT29.wr (k := 20) rfl rfl
              exact zk_some ⟨RS34, FS34, trivial⟩
            ·
              exact False.elim (by omega)
          ·
            exact False.elim (by omega)
        ·
          exact zk_some ⟨RT29, FT29, trivial⟩
      ·
        unfold B_X7_set_49
        refine zk_bd (s_F_X7_bad _ _ _ RS1 (by omega)) (fun v35 T36 h35 => ?_)
        obtain ⟨RT36, fT36, h35⟩ := h35
        have FT36 := FS1.tr (fT36.sub (m := 1114112) (by decide))
        refine zk_eq (fun c37 => ?_) (fun c37 => ?_)
        ·
          refine zk_eq (fun c38 => ?_) (fun c38 => ?_)
          ·
            refine zk_iv fun x39 e39 => ?_
            unfold B_X7_set_85
            refine zk_eq (fun c40 => ?_) (fun c40 => ?_)
            ·
              refine zk_sv fun S41 E41 => ?_
              have RS41 : RI S41 := by rw [E41]; exact RT36.wf rfl
              have FS41 : Fr 1114112 S0 S41 := by rw [E41]; exact FT36.wr (k := 20) rfl rfl
              exact zk_some ⟨RS41, FS41, trivial⟩
            ·
              exact False.elim (by omega)
          ·
            exact False.elim (by omega)
        ·
          exact zk_some ⟨RT36, FT36, trivial⟩
    ·
      refine zk_eq (fun c42 => ?_) (fun c42 => ?_)
      ·
        unfold B_X7_set_38
        refine zk_bd (s_F_X7_in _ _ _ _ RS1) (fun v43 T44 h43 => ?_)
        obtain ⟨rfl, h43⟩ := h43
        refine zk_eq (fun c45 => ?_) (fun c45 => ?_)
        ·
          unfold B_X7_set_44
          unfold B_X7_set_49
          refine zk_bd (s_F_X7_bad _ _ _ RS1 (by omega)) (fun v46 T47 h46 => ?_)
          obtain ⟨RT47, fT47, h46⟩ := h46
          have FT47 := FS1.tr (fT47.sub (m := 1114112) (by decide))
          refine zk_eq (fun c48 => ?_) (fun c48 => ?_)
          ·
            refine zk_eq (fun c49 => ?_) (fun c49 => ?_)
            ·
              exact False.elim (by omega)
            ·
              refine zk_eq (fun c50 => ?_) (fun c50 => ?_)
              ·
                refine zk_iv fun x51 e51 => ?_
                unfold B_X7_set_85
                refine zk_eq (fun c52 => ?_) (fun c52 => ?_)
                ·
                  exact False.elim (by omega)
                ·
                  refine zk_eq (fun c53 => ?_) (fun c53 => ?_)
                  ·
                    refine zk_sv fun S54 E54 => ?_
                    have RS54 : RI S54 := by rw [E54]; exact RT47.wf rfl
                    have FS54 : Fr 1114112 S0 S54 := by rw [E54]; exact FT47.wr (k := 20) rfl rfl
                    exact zk_some ⟨RS54, FS54, trivial⟩
                  ·
                    exact False.elim (by omega)
              ·
                exact False.elim (by omega)
          ·
            exact zk_some ⟨RT47, FT47, trivial⟩
        ·
          unfold B_X7_set_49
          refine zk_bd (s_F_X7_bad _ _ _ RS1 (by omega)) (fun v55 T56 h55 => ?_)
          obtain ⟨RT56, fT56, h55⟩ := h55
          have FT56 := FS1.tr (fT56.sub (m := 1114112) (by decide))
          refine zk_eq (fun c57 => ?_) (fun c57 => ?_)
          ·
            refine zk_eq (fun c58 => ?_) (fun c58 => ?_)
            ·
              exact False.elim (by omega)
            ·
              refine zk_eq (fun c59 => ?_) (fun c59 => ?_)
              ·
                refine zk_iv fun x60 e60 => ?_
                unfold B_X7_set_85
                refine zk_eq (fun c61 => ?_) (fun c61 => ?_)
                ·
                  exact False.elim (by omega)
                ·
                  refine zk_eq (fun c62 => ?_) (fun c62 => ?_)
                  ·
                    refine zk_sv fun S63 E63 => ?_
                    have RS63 : RI S63 := by rw [E63]; exact RT56.wf rfl
                    have FS63 : Fr 1114112 S0 S63 := by rw [E63]; exact FT56.wr (k := 20) rfl rfl
                    exact zk_some ⟨RS63, FS63, trivial⟩
                  ·
                    exact False.elim (by omega)
              ·
                exact False.elim (by omega)
          ·
            exact zk_some ⟨RT56, FT56, trivial⟩
      ·
        unfold B_X7_set_38
        refine zk_bd (s_F_X7_in _ _ _ _ RS1) (fun v64 T65 h64 => ?_)
        obtain ⟨rfl, h64⟩ := h64
        refine zk_eq (fun c66 => ?_) (fun c66 => ?_)
        ·
          unfold B_X7_set_44
          unfold B_X7_set_49
          refine zk_bd (s_F_X7_bad _ _ _ RS1 (by omega)) (fun v67 T68 h67 => ?_)
          obtain ⟨RT68, fT68, h67⟩ := h67
          have FT68 := FS1.tr (fT68.sub (m := 1114112) (by decide))
          refine zk_eq (fun c69 => ?_) (fun c69 => ?_)
          ·
            refine zk_eq (fun c70 => ?_) (fun c70 => ?_)
            ·
              exact False.elim (by omega)
            ·
              refine zk_eq (fun c71 => ?_) (fun c71 => ?_)
              ·
                exact False.elim (by omega)
              ·
                refine zk_iv fun x72 e72 => ?_
                unfold B_X7_set_85
                refine zk_eq (fun c73 => ?_) (fun c73 => ?_)
                ·
                  exact False.elim (by omega)
                ·
                  refine zk_eq (fun c74 => ?_) (fun c74 => ?_)
                  ·
                    exact False.elim (by omega)
                  ·
                    refine zk_sv fun S75 E75 => ?_
                    have RS75 : RI S75 := by rw [E75]; exact RT68.wf rfl
                    have FS75 : Fr 1114112 S0 S75 := by rw [E75]; exact FT68.wr (k := 20) rfl rfl
                    exact zk_some ⟨RS75, FS75, trivial⟩
          ·
            exact zk_some ⟨RT68, FT68, trivial⟩
        ·
          unfold B_X7_set_49
          refine zk_bd (s_F_X7_bad _ _ _ RS1 (by omega)) (fun v76 T77 h76 => ?_)
          obtain ⟨RT77, fT77, h76⟩ := h76
          have FT77 := FS1.tr (fT77.sub (m := 1114112) (by decide))
          refine zk_eq (fun c78 => ?_) (fun c78 => ?_)
          ·
            refine zk_eq (fun c79 => ?_) (fun c79 => ?_)
            ·
              exact False.elim (by omega)
            ·
              refine zk_eq (fun c80 => ?_) (fun c80 => ?_)
              ·
                exact False.elim (by omega)
              ·
                refine zk_iv fun x81 e81 => ?_
                unfold B_X7_set_85
                refine zk_eq (fun c82 => ?_) (fun c82 => ?_)
                ·
                  exact False.elim (by omega)
                ·
                  refine zk_eq (fun c83 => ?_) (fun c83 => ?_)
                  ·
                    exact False.elim (by omega)
                  ·
                    refine zk_sv fun S84 E84 => ?_
                    have RS84 : RI S84 := by rw [E84]; exact RT77.wf rfl
                    have FS84 : Fr 1114112 S0 S84 := by rw [E84]; exact FT77.wr (k := 20) rfl rfl
                    exact zk_some ⟨RS84, FS84, trivial⟩
          ·
            exact zk_some ⟨RT77, FT77, trivial⟩
theorem s_F_X7_seed (p1 : Int32) (S0 : fS) (RS0 : RI S0) : zk (F_X7_seed p1 S0) (fun v S9 => RI S9 ∧ Fr 8454144 S0 S9 ∧ True) := by
  have l0 : (0 : Int32).toInt = 0 := by decide
  have l34 : (34 : Int32).toInt = 34 := by decide
  have FS0 : Fr 8454144 S0 S0 := Fr.rf
  unfold F_X7_seed
  refine zk_sv fun S1 E1 => ?_
  have RS1 : RI S1 := by rw [E1]; exact RS0.wf rfl
  have FS1 : Fr 8454144 S0 S1 := by rw [E1]; exact FS0.wr (k := 16) rfl rfl
  refine zk_iv fun x2 e2 => ?_
  refine zk_sv fun S3 E3 => ?_
  have RS3 : RI S3 := by rw [E3]; exact RS1.wf rfl
  have FS3 : Fr 8454144 S0 S3 := by rw [E3]; exact FS1.wr (k := 23) rfl rfl
  exact zk_some ⟨RS3, FS3, trivial⟩
theorem s_F_X7_wire (p1 : Int32) (p2 : Int32) (S0 : fS) (RS0 : RI S0) (hp : 0 ≤ p2.toInt ∧ p2.toInt ≤ 1) : zk (F_X7_wire p1 p2 S0) (fun v S9 => RI S9 ∧ Fr 65536 S0 S9 ∧ True) := by
  have l0 : (0 : Int32).toInt = 0 := by decide
  have l1 : (1 : Int32).toInt = 1 := by decide
  have l21 : (21 : Int32).toInt = 21 := by decide
  have FS0 : Fr 65536 S0 S0 := Fr.rf
  unfold F_X7_wire
  refine zk_sv fun S1 E1 => ?_
  have RS1 : RI S1 := by rw [E1]; exact RS0.wf rfl
  have FS1 : Fr 65536 S0 S1 := by rw [E1]; exact FS0.wr (k := 16) rfl rfl
  refine zk_iv fun x2 e2 => ?_
  have gx2 : 0 ≤ x2.toInt ∧ x2.toInt ≤ 24 := by rw [e2]; exact RS1 40 _ _
  refine zk_iv fun x3 e3 => ?_
  have gx3 : x3.toInt = x2.toInt - (1 : Int32).toInt := by rw [e3]; exact ti_sub (by omega) (by omega)
  refine zk_bd (s_F_X7_in _ _ _ _ RS1) (fun v4 T5 h4 => ?_)
  obtain ⟨rfl, h4⟩ := h4
  refine zk_eq (fun c6 => ?_) (fun c6 => ?_)
  ·
    unfold B_X7_wire_25
    refine zk_bd (s_F_X7_bad _ _ _ RS1 (by omega)) (fun v7 T8 h7 => ?_)
    obtain ⟨RT8, fT8, h7⟩ := h7
    have FT8 := FS1.tr (fT8.sub (m := 65536) (by decide))
    refine zk_eq (fun c9 => ?_) (fun c9 => ?_)
    ·
      refine zk_gd ⟨by omega, by omega⟩ ?_
      refine zk_iv fun x10 e10 => ?_
      have gx10 : 0 ≤ x10.toInt ∧ x10.toInt ≤ 1 := by rw [e10]; exact RT8 51 _ _
      refine zk_gd ⟨by omega, by omega⟩ ?_
      refine zk_sv fun S11 E11 => ?_
      have nb11 : 0 ≤ (vp_nar .boolean p2).toInt ∧ (vp_nar .boolean p2).toInt ≤ 1 := vnb _
      have RS11 : RI S11 := by rw [E11]; exact RT8.wr (show (0 : Int) ≤ (vp_nar .boolean p2).toInt by omega) (show (vp_nar .boolean p2).toInt ≤ 1 by omega)
      have FS11 : Fr 65536 S0 S11 := by rw [E11]; exact FT8.wr (k := 16) rfl rfl
      refine zk_gd (z01 (by omega)) ?_
      exact zk_some ⟨RS11, FS11, trivial⟩
    ·
      exact zk_some ⟨RT8, FT8, trivial⟩
  ·
    unfold B_X7_wire_25
    refine zk_bd (s_F_X7_bad _ _ _ RS1 (by omega)) (fun v12 T13 h12 => ?_)
    obtain ⟨RT13, fT13, h12⟩ := h12
    have FT13 := FS1.tr (fT13.sub (m := 65536) (by decide))
    refine zk_eq (fun c14 => ?_) (fun c14 => ?_)
    ·
      refine zk_gd ⟨by omega, by omega⟩ ?_
      refine zk_iv fun x15 e15 => ?_
      have gx15 : 0 ≤ x15.toInt ∧ x15.toInt ≤ 1 := by rw [e15]; exact RT13 51 _ _
      refine zk_gd ⟨by omega, by omega⟩ ?_
      refine zk_sv fun S16 E16 => ?_
      have nb16 : 0 ≤ (vp_nar .boolean p2).toInt ∧ (vp_nar .boolean p2).toInt ≤ 1 := vnb _
      have RS16 : RI S16 := by rw [E16]; exact RT13.wr (show (0 : Int) ≤ (vp_nar .boolean p2).toInt by omega) (show (vp_nar .boolean p2).toInt ≤ 1 by omega)
      have FS16 : Fr 65536 S0 S16 := by rw [E16]; exact FT13.wr (k := 16) rfl rfl
      refine zk_gd (z01 (by omega)) ?_
      exact zk_some ⟨RS16, FS16, trivial⟩
    ·
      exact zk_some ⟨RT13, FT13, trivial⟩
theorem s_F_X7_draw (p1 : Int32) (S0 : fS) (RS0 : RI S0) (hp : 1 ≤ p1.toInt) : zk (F_X7_draw p1 S0) (fun v S9 => RI S9 ∧ Fr 8388608 S0 S9 ∧ 0 ≤ v.toInt ∧ v.toInt < p1.toInt) := by
  have l0 : (0 : Int32).toInt = 0 := by decide
  have l34 : (34 : Int32).toInt = 34 := by decide
  have l12345 : (12345 : Int32).toInt = 12345 := by decide
  have l1103515245 : (1103515245 : Int32).toInt = 1103515245 := by decide
  have FS0 : Fr 8388608 S0 S0 := Fr.rf
  unfold F_X7_draw
  refine zk_iv fun x1 e1 => ?_
  refine zk_iv fun x2 e2 => ?_
  refine zk_iv fun x3 e3 => ?_
  refine zk_sv fun S4 E4 => ?_
  have RS4 : RI S4 := by rw [E4]; exact RS0.wf rfl
  have FS4 : Fr 8388608 S0 S4 := by rw [E4]; exact FS0.wr (k := 23) rfl rfl
  refine zk_ivq (x := x3) (by rw [E4]; exact ge_pus) ?_
  refine zk_iv fun x5 e5 => ?_
  refine zk_iv fun x6 e6 => ?_
  have gx6 : 0 ≤ x6.toInt ∧ x6.toInt ≤ 32767 := by rw [e6]; exact ti_and32767 _
  refine zk_gd (zn0 (by omega)) ?_
  refine zk_iv fun x7 e7 => ?_
  have gx7 : 0 ≤ x7.toInt ∧ x7.toInt < p1.toInt := by rw [e7]; exact ti_modv (by omega) (by omega)
  exact zk_some ⟨RS4, FS4, by omega⟩
theorem s_F_X7_comesTo (p0 : Int32) (p1 : Int32) (S0 : fS) (RS0 : RI S0) (hp : 0 ≤ p0.toInt ∧ p0.toInt ≤ 63 ∧ 0 ≤ p1.toInt ∧ p1.toInt ≤ 8) : zk (F_X7_comesTo p0 p1 S0) (fun v S9 => S0 = S9 ∧ 0 ≤ v.toInt ∧ v.toInt ≤ 63) := by
  have l0 : (0 : Int32).toInt = 0 := by decide
  have l1 : (1 : Int32).toInt = 1 := by decide
  have l3 : (3 : Int32).toInt = 3 := by decide
  have l7 : (7 : Int32).toInt = 7 := by decide
  have l8 : (8 : Int32).toInt = 8 := by decide
  unfold F_X7_comesTo
  refine zk_iv fun x1 e1 => ?_
  have gx1 : 0 ≤ x1.toInt ∧ x1.toInt ≤ 7 := by rw [e1]; exact ti_div (c := 8) (by decide) (by decide) (by omega) (by omega)
  refine zk_iv fun x2 e2 => ?_
  have gx2 : 0 ≤ x2.toInt ∧ x2.toInt ≤ 2 := by rw [e2]; exact ti_div (c := 3) (by decide) (by decide) (by omega) (by omega)
  refine zk_iv fun x3 e3 => ?_
  have gx3 : x3.toInt = x1.toInt + x2.toInt := by rw [e3]; exact ti_add (by omega) (by omega)
  refine zk_iv fun x4 e4 => ?_
  have gx4 : x4.toInt = x3.toInt - (1 : Int32).toInt := by rw [e4]; exact ti_sub (by omega) (by omega)
  refine zk_bd (s_F_X7_within _ _ _ _ RS0 (by omega)) (fun v5 T6 h5 => ?_)
  obtain ⟨rfl, h5⟩ := h5
  refine zk_iv fun x7 e7 => ?_
  have gx7 : x7.toInt = (8 : Int32).toInt * v5.toInt := by rw [e7]; exact ti_mul (by rw [l8]; omega) (by rw [l8]; omega)
  rw [l8] at gx7
  refine zk_iv fun x8 e8 => ?_
  have gx8 : 0 ≤ x8.toInt ∧ x8.toInt < 8 := by rw [e8]; exact ti_mod (c := 8) (by decide) (by decide) (by omega)
  refine zk_iv fun x9 e9 => ?_
  have gx9 : 0 ≤ x9.toInt ∧ x9.toInt < 3 := by rw [e9]; exact ti_mod (c := 3) (by decide) (by decide) (by omega)
  refine zk_iv fun x10 e10 => ?_
  have gx10 : x10.toInt = x8.toInt + x9.toInt := by rw [e10]; exact ti_add (by omega) (by omega)
  refine zk_iv fun x11 e11 => ?_
  have gx11 : x11.toInt = x10.toInt - (1 : Int32).toInt := by rw [e11]; exact ti_sub (by omega) (by omega)
  refine zk_bd (s_F_X7_within _ _ _ _ RS0 (by omega)) (fun v12 T13 h12 => ?_)
  obtain ⟨rfl, h12⟩ := h12
  refine zk_iv fun x14 e14 => ?_
  have gx14 : x14.toInt = x7.toInt + v12.toInt := by rw [e14]; exact ti_add (by omega) (by omega)
  exact zk_some ⟨rfl, by omega⟩
theorem s_F_X7_isHand (p1 : Int32) (S0 : fS) (RS0 : RI S0) : zk (F_X7_isHand p1 S0) (fun v S9 => S0 = S9 ∧ (v.toInt = 0 ∨ (v.toInt = 1 ∧ 0 ≤ p1.toInt ∧ p1.toInt < (ge S0 40 0 48).toInt ∧ p1.toInt ≤ 5))) := by
  have l0 : (0 : Int32).toInt = 0 := by decide
  have l1 : (1 : Int32).toInt = 1 := by decide
  have l48 : (48 : Int32).toInt = 48 := by decide
  unfold F_X7_isHand
  obtain ⟨y1, ey1⟩ : ∃ y : Int32, y = ge S0 40 0 48 := ⟨_, rfl⟩
  have gy1 : 0 ≤ y1.toInt ∧ y1.toInt ≤ 6 := by rw [ey1]; exact RS0 40 _ _
  have q2 : (ge S0 40 0 48).toInt = y1.toInt := congrArg Int32.toInt (show ge S0 40 0 48 = y1 from ey1.symm)
  refine zk_ivq (x := y1) ey1.symm ?_
  refine zk_iv fun x3 e3 => ?_
  have gx3 : x3.toInt = y1.toInt - (1 : Int32).toInt := by rw [e3]; exact ti_sub (by omega) (by omega)
  refine zk_bd (s_F_X7_in _ _ _ _ RS0) (fun v4 T5 h4 => ?_)
  obtain ⟨rfl, h4⟩ := h4
  refine zk_gd (z01 (by omega)) ?_
  have q6 : (ge S0 40 0 48).toInt = y1.toInt := congrArg Int32.toInt (show ge S0 40 0 48 = y1 from ey1.symm)
  exact zk_some ⟨rfl, by omega⟩
theorem s_B_X7_weightsOf_4  (z : Int32 × Int32 × Int32) (S : fS) (RS : RI S) (hi : 0 ≤ z.1.toInt ∧ z.1.toInt ≤ 5 ∧ 0 ≤ z.2.2.toInt ∧ z.2.2.toInt ≤ 9) (hm : (9 - z.2.2.toInt).toNat < 4294967296) : zk (lp (B_X7_weightsOf_4) fuel z S) (fun v S9 => S = S9 ∧ True) := by
  have l9 : (9 : Int32).toInt = 9 := by decide
  have lo1 : (Int32.ofInt 1).toInt = 1 := by decide
  refine zk_lp (fun z S => RI S ∧ (0 ≤ z.1.toInt ∧ z.1.toInt ≤ 5 ∧ 0 ≤ z.2.2.toInt ∧ z.2.2.toInt ≤ 9)) (fun z S => (9 - z.2.2.toInt).toNat) (fun z S (v : Int32) S9 => S = S9 ∧ True) ?_ z S ⟨RS, hi⟩ hm
  clear RS hi hm
  intro k z S hI hk
  obtain ⟨RS, hI⟩ := hI
  obtain ⟨a1, a2, a3⟩ := z
  (try dsimp only at hI); (try dsimp only at hk); (try dsimp only)
  unfold B_X7_weightsOf_4
  dsimp only
  refine zk_le (fun c1 => ?_) (fun c1 => ?_)
  ·
    exact zk_some ⟨rfl, trivial⟩
  ·
    refine zk_gd ⟨by omega, by omega⟩ ?_
    refine zk_gd ⟨by omega, by omega⟩ ?_
    refine zk_iv fun x2 e2 => ?_
    have gx2 : 0 ≤ x2.toInt ∧ x2.toInt ≤ 7 := by rw [e2]; exact RS 59 _ _
    refine zk_iv fun x3 e3 => ?_
    refine zk_iv fun x4 e4 => ?_
    have gx4 : x4.toInt = a3.toInt + (Int32.ofInt 1).toInt := by rw [e4]; exact ti_add (by omega) (by omega)
    refine zk_imp (hk (a1, x3, x4) _ ⟨RS, (by (try dsimp only) <;> omega)⟩ (by (try dsimp only) <;> omega)) (fun v5 T6 h5 => ?_)
    obtain ⟨rfl, h5⟩ := h5
    exact ⟨rfl, trivial⟩
theorem s_F_X7_weightsOf (p1 : Int32) (S0 : fS) (RS0 : RI S0) (hp : 0 ≤ p1.toInt ∧ p1.toInt ≤ 5) : zk (F_X7_weightsOf p1 S0) (fun v S9 => S0 = S9 ∧ True) := by
  have l0 : (0 : Int32).toInt = 0 := by decide
  unfold F_X7_weightsOf
  refine zk_imp (s_B_X7_weightsOf_4 _ _ RS0 (by (try dsimp only) <;> omega) (by (try dsimp only) <;> omega)) (fun v1 T2 h1 => ?_)
  obtain ⟨rfl, h1⟩ := h1
  exact ⟨rfl, trivial⟩
theorem s_F_X7_weights (p1 : Int32) (S0 : fS) (RS0 : RI S0) : zk (F_X7_weights p1 S0) (fun v S9 => RI S9 ∧ Fr 65536 S0 S9 ∧ True) := by
  have l0 : (0 : Int32).toInt = 0 := by decide
  have l1 : (1 : Int32).toInt = 1 := by decide
  have FS0 : Fr 65536 S0 S0 := Fr.rf
  unfold F_X7_weights
  refine zk_sv fun S1 E1 => ?_
  have RS1 : RI S1 := by rw [E1]; exact RS0.wf rfl
  have FS1 : Fr 65536 S0 S1 := by rw [E1]; exact FS0.wr (k := 16) rfl rfl
  refine zk_bd (s_F_X7_isHand _ _ RS1) (fun v2 T3 h2 => ?_)
  obtain ⟨rfl, h2⟩ := h2
  refine zk_eq (fun c4 => ?_) (fun c4 => ?_)
  ·
    unfold B_X7_weights_19
    refine zk_bd (s_F_X7_bad _ _ _ RS1 (by omega)) (fun v5 T6 h5 => ?_)
    obtain ⟨RT6, fT6, h5⟩ := h5
    have FT6 := FS1.tr (fT6.sub (m := 65536) (by decide))
    refine zk_eq (fun c7 => ?_) (fun c7 => ?_)
    ·
      refine zk_bd (s_F_X7_weightsOf _ _ RT6 (by omega)) (fun v8 T9 h8 => ?_)
      obtain ⟨rfl, h8⟩ := h8
      exact zk_some ⟨RT6, FT6, trivial⟩
    ·
      exact zk_some ⟨RT6, FT6, trivial⟩
  ·
    unfold B_X7_weights_19
    refine zk_bd (s_F_X7_bad _ _ _ RS1 (by omega)) (fun v10 T11 h10 => ?_)
    obtain ⟨RT11, fT11, h10⟩ := h10
    have FT11 := FS1.tr (fT11.sub (m := 65536) (by decide))
    refine zk_eq (fun c12 => ?_) (fun c12 => ?_)
    ·
      refine zk_bd (s_F_X7_weightsOf _ _ RT11 (by omega)) (fun v13 T14 h13 => ?_)
      obtain ⟨rfl, h13⟩ := h13
      exact zk_some ⟨RT11, FT11, trivial⟩
    ·
      exact zk_some ⟨RT11, FT11, trivial⟩
theorem s_F_X7_record (p1 : Int32) (p2 : Int32) (S0 : fS) (RS0 : RI S0) : zk (F_X7_record p1 p2 S0) (fun v S9 => RI S9 ∧ Fr 65536 S0 S9 ∧ True) := by
  have l0 : (0 : Int32).toInt = 0 := by decide
  have l1 : (1 : Int32).toInt = 1 := by decide
  have l2 : (2 : Int32).toInt = 2 := by decide
  have l9 : (9 : Int32).toInt = 9 := by decide
  have l46 : (46 : Int32).toInt = 46 := by decide
  have FS0 : Fr 65536 S0 S0 := Fr.rf
  unfold F_X7_record
  refine zk_sv fun S1 E1 => ?_
  have RS1 : RI S1 := by rw [E1]; exact RS0.wf rfl
  have FS1 : Fr 65536 S0 S1 := by rw [E1]; exact FS0.wr (k := 16) rfl rfl
  refine zk_iv fun x2 e2 => ?_
  have gx2 : 0 ≤ x2.toInt ∧ x2.toInt ≤ 200 := by rw [e2]; exact RS1 40 _ _
  refine zk_iv fun x3 e3 => ?_
  have gx3 : x3.toInt = x2.toInt - (1 : Int32).toInt := by rw [e3]; exact ti_sub (by omega) (by omega)
  refine zk_bd (s_F_X7_in _ _ _ _ RS1) (fun v4 T5 h4 => ?_)
  obtain ⟨rfl, h4⟩ := h4
  refine zk_eq (fun c6 => ?_) (fun c6 => ?_)
  ·
    unfold B_X7_record_25
    refine zk_bd (s_F_X7_bad _ _ _ RS1 (by omega)) (fun v7 T8 h7 => ?_)
    obtain ⟨RT8, fT8, h7⟩ := h7
    have FT8 := FS1.tr (fT8.sub (m := 65536) (by decide))
    refine zk_eq (fun c9 => ?_) (fun c9 => ?_)
    ·
      refine zk_bd (s_F_X7_in _ _ _ _ RT8) (fun v10 T11 h10 => ?_)
      obtain ⟨rfl, h10⟩ := h10
      refine zk_eq (fun c12 => ?_) (fun c12 => ?_)
      ·
        unfold B_X7_record_48
        refine zk_bd (s_F_X7_bad _ _ _ RT8 (by omega)) (fun v13 T14 h13 => ?_)
        obtain ⟨RT14, fT14, h13⟩ := h13
        have FT14 := FT8.tr (fT14.sub (m := 65536) (by decide))
        refine zk_eq (fun c15 => ?_) (fun c15 => ?_)
        ·
          refine zk_gd ⟨by omega, by omega⟩ ?_
          refine zk_gd ⟨by omega, by omega⟩ ?_
          refine zk_iv fun x16 e16 => ?_
          exact zk_some ⟨RT14, FT14, trivial⟩
        ·
          exact zk_some ⟨RT14, FT14, trivial⟩
      ·
        unfold B_X7_record_48
        refine zk_bd (s_F_X7_bad _ _ _ RT8 (by omega)) (fun v17 T18 h17 => ?_)
        obtain ⟨RT18, fT18, h17⟩ := h17
        have FT18 := FT8.tr (fT18.sub (m := 65536) (by decide))
        refine zk_eq (fun c19 => ?_) (fun c19 => ?_)
        ·
          refine zk_gd ⟨by omega, by omega⟩ ?_
          refine zk_gd ⟨by omega, by omega⟩ ?_
          refine zk_iv fun x20 e20 => ?_
          exact zk_some ⟨RT18, FT18, trivial⟩
        ·
          exact zk_some ⟨RT18, FT18, trivial⟩
    ·
      exact zk_some ⟨RT8, FT8, trivial⟩
  ·
    unfold B_X7_record_25
    refine zk_bd (s_F_X7_bad _ _ _ RS1 (by omega)) (fun v21 T22 h21 => ?_)
    obtain ⟨RT22, fT22, h21⟩ := h21
    have FT22 := FS1.tr (fT22.sub (m := 65536) (by decide))
    refine zk_eq (fun c23 => ?_) (fun c23 => ?_)
    ·
      refine zk_bd (s_F_X7_in _ _ _ _ RT22) (fun v24 T25 h24 => ?_)
      obtain ⟨rfl, h24⟩ := h24
      refine zk_eq (fun c26 => ?_) (fun c26 => ?_)
      ·
        unfold B_X7_record_48
        refine zk_bd (s_F_X7_bad _ _ _ RT22 (by omega)) (fun v27 T28 h27 => ?_)
        obtain ⟨RT28, fT28, h27⟩ := h27
        have FT28 := FT22.tr (fT28.sub (m := 65536) (by decide))
        refine zk_eq (fun c29 => ?_) (fun c29 => ?_)
        ·
          refine zk_gd ⟨by omega, by omega⟩ ?_
          refine zk_gd ⟨by omega, by omega⟩ ?_
          refine zk_iv fun x30 e30 => ?_
          exact zk_some ⟨RT28, FT28, trivial⟩
        ·
          exact zk_some ⟨RT28, FT28, trivial⟩
      ·
        unfold B_X7_record_48
        refine zk_bd (s_F_X7_bad _ _ _ RT22 (by omega)) (fun v31 T32 h31 => ?_)
        obtain ⟨RT32, fT32, h31⟩ := h31
        have FT32 := FT22.tr (fT32.sub (m := 65536) (by decide))
        refine zk_eq (fun c33 => ?_) (fun c33 => ?_)
        ·
          refine zk_gd ⟨by omega, by omega⟩ ?_
          refine zk_gd ⟨by omega, by omega⟩ ?_
          refine zk_iv fun x34 e34 => ?_
          exact zk_some ⟨RT32, FT32, trivial⟩
        ·
          exact zk_some ⟨RT32, FT32, trivial⟩
    ·
      exact zk_some ⟨RT22, FT22, trivial⟩
theorem s_B_X7_weightFor_5  (z : Int32 × Int32 × Int32 × Int32) (S : fS) (RS : RI S) (hi : 0 ≤ z.1.toInt ∧ z.1.toInt ≤ 5 ∧ 0 ≤ z.2.1.toInt ∧ z.2.1.toInt ≤ 63 ∧ 0 ≤ z.2.2.2.toInt ∧ z.2.2.2.toInt ≤ 9) (hm : (9 - z.2.2.2.toInt).toNat < 4294967296) : zk (lp (B_X7_weightFor_5) fuel z S) (fun v S9 => S = S9 ∧ True) := by
  have l0 : (0 : Int32).toInt = 0 := by decide
  have l9 : (9 : Int32).toInt = 9 := by decide
  have lo1 : (Int32.ofInt 1).toInt = 1 := by decide
  refine zk_lp (fun z S => RI S ∧ (0 ≤ z.1.toInt ∧ z.1.toInt ≤ 5 ∧ 0 ≤ z.2.1.toInt ∧ z.2.1.toInt ≤ 63 ∧ 0 ≤ z.2.2.2.toInt ∧ z.2.2.2.toInt ≤ 9)) (fun z S => (9 - z.2.2.2.toInt).toNat) (fun z S (v : Int32) S9 => S = S9 ∧ True) ?_ z S ⟨RS, hi⟩ hm
  clear RS hi hm
  intro k z S hI hk
  obtain ⟨RS, hI⟩ := hI
  obtain ⟨a1, a2, a3, a4⟩ := z
  (try dsimp only at hI); (try dsimp only at hk); (try dsimp only)
  unfold B_X7_weightFor_5
  dsimp only
  refine zk_le (fun c1 => ?_) (fun c1 => ?_)
  ·
    exact zk_some ⟨rfl, trivial⟩
  ·
    refine zk_bd (s_F_X7_comesTo _ _ _ RS (by omega)) (fun v2 T3 h2 => ?_)
    obtain ⟨rfl, h2⟩ := h2
    refine zk_eq (fun c4 => ?_) (fun c4 => ?_)
    ·
      refine zk_gd ⟨by omega, by omega⟩ ?_
      refine zk_gd ⟨by omega, by omega⟩ ?_
      refine zk_iv fun x5 e5 => ?_
      have gx5 : 0 ≤ x5.toInt ∧ x5.toInt ≤ 7 := by rw [e5]; exact RS 59 _ _
      unfold B_X7_weightFor_36
      refine zk_iv fun x6 e6 => ?_
      refine zk_iv fun x7 e7 => ?_
      have gx7 : x7.toInt = a4.toInt + (Int32.ofInt 1).toInt := by rw [e7]; exact ti_add (by omega) (by omega)
      refine zk_imp (hk (a1, a2, x6, x7) _ ⟨RS, (by (try dsimp only) <;> omega)⟩ (by (try dsimp only) <;> omega)) (fun v8 T9 h8 => ?_)
      obtain ⟨rfl, h8⟩ := h8
      exact ⟨rfl, trivial⟩
    ·
      unfold B_X7_weightFor_36
      refine zk_iv fun x10 e10 => ?_
      have b11 := ti_bd a3
      have gx10 : x10.toInt = a3.toInt + (0 : Int32).toInt := by rw [e10]; exact ti_add (by omega) (by omega)
      refine zk_iv fun x12 e12 => ?_
      have gx12 : x12.toInt = a4.toInt + (Int32.ofInt 1).toInt := by rw [e12]; exact ti_add (by omega) (by omega)
      refine zk_imp (hk (a1, a2, x10, x12) _ ⟨RS, (by (try dsimp only) <;> omega)⟩ (by (try dsimp only) <;> omega)) (fun v13 T14 h13 => ?_)
      obtain ⟨rfl, h13⟩ := h13
      exact ⟨rfl, trivial⟩
theorem s_F_X7_weightFor (p1 : Int32) (p2 : Int32) (S0 : fS) (RS0 : RI S0) (hp : 0 ≤ p1.toInt ∧ p1.toInt ≤ 5 ∧ 0 ≤ p2.toInt ∧ p2.toInt ≤ 63) : zk (F_X7_weightFor p1 p2 S0) (fun v S9 => S0 = S9 ∧ True) := by
  have l0 : (0 : Int32).toInt = 0 := by decide
  unfold F_X7_weightFor
  refine zk_imp (s_B_X7_weightFor_5 _ _ RS0 (by (try dsimp only) <;> omega) (by (try dsimp only) <;> omega)) (fun v1 T2 h1 => ?_)
  obtain ⟨rfl, h1⟩ := h1
  exact ⟨rfl, trivial⟩
theorem s_B_X7_settle_103  (z : Int32 × Int32 × Int32 × Int32 × Int32) (S : fS) (RS : RI S) (hi : 0 ≤ z.1.toInt ∧ z.1.toInt ≤ 5 ∧ 0 ≤ z.2.2.1.toInt ∧ z.2.2.1.toInt ≤ 23 ∧ 1 ≤ z.2.2.2.2.toInt ∧ z.2.2.2.2.toInt ≤ 201) (hm : (201 - z.2.2.2.2.toInt).toNat < 4294967296) : zk (lp (B_X7_settle_103) fuel z S) (fun v S9 => S = S9 ∧ True) := by
  have lm1 : (-1 : Int32).toInt = -1 := by decide
  have l0 : (0 : Int32).toInt = 0 := by decide
  have l1 : (1 : Int32).toInt = 1 := by decide
  have l32 : (32 : Int32).toInt = 32 := by decide
  have l200 : (200 : Int32).toInt = 200 := by decide
  have lo1 : (Int32.ofInt 1).toInt = 1 := by decide
  refine zk_lp (fun z S => RI S ∧ (0 ≤ z.1.toInt ∧ z.1.toInt ≤ 5 ∧ 0 ≤ z.2.2.1.toInt ∧ z.2.2.1.toInt ≤ 23 ∧ 1 ≤ z.2.2.2.2.toInt ∧ z.2.2.2.2.toInt ≤ 201)) (fun z S => (201 - z.2.2.2.2.toInt).toNat) (fun z S (v : Int32) S9 => S = S9 ∧ True) ?_ z S ⟨RS, hi⟩ hm
  clear RS hi hm
  intro k z S hI hk
  obtain ⟨RS, hI⟩ := hI
  obtain ⟨a1, a3, a4, a5, a6⟩ := z
  (try dsimp only at hI); (try dsimp only at hk); (try dsimp only)
  unfold B_X7_settle_103
  dsimp only
  refine zk_lt (fun c1 => ?_) (fun c1 => ?_)
  ·
    exact zk_some ⟨rfl, trivial⟩
  ·
    refine zk_iv fun x2 e2 => ?_
    refine zk_iv fun x3 e3 => ?_
    have gx3 : x3.toInt = a6.toInt - (1 : Int32).toInt := by rw [e3]; exact ti_sub (by omega) (by omega)
    refine zk_iv fun x4 e4 => ?_
    refine zk_bd (s_F_X7_weightsOf _ _ RS (by omega)) (fun v5 T6 h5 => ?_)
    obtain ⟨rfl, h5⟩ := h5
    refine zk_iv fun x7 e7 => ?_
    refine zk_iv fun x8 e8 => ?_
    refine zk_gd ⟨by omega, by omega⟩ ?_
    refine zk_iv fun x9 e9 => ?_
    refine zk_iv fun x10 e10 => ?_
    refine zk_iv fun x11 e11 => ?_
    have b12 := ti_bd x8
    have b13 := ti_bd x11
    refine zk_lt (fun c14 => ?_) (fun c14 => ?_)
    ·
      refine zk_iv fun x15 e15 => ?_
      have gx15 : x15.toInt = a6.toInt + (Int32.ofInt 1).toInt := by rw [e15]; exact ti_add (by omega) (by omega)
      refine zk_imp (hk (a1, a3, a4, a5, x15) _ ⟨RS, (by (try dsimp only) <;> omega)⟩ (by (try dsimp only) <;> omega)) (fun v16 T17 h16 => ?_)
      obtain ⟨rfl, h16⟩ := h16
      exact ⟨rfl, trivial⟩
    ·
      exact zk_some ⟨rfl, trivial⟩
theorem s_F_X7_settle (p1 : Int32) (p2 : Int32) (p3 : Int32) (S0 : fS) (RS0 : RI S0) : zk (F_X7_settle p1 p2 p3 S0) (fun v S9 => RI S9 ∧ Fr 65536 S0 S9 ∧ True) := by
  have lm1 : (-1 : Int32).toInt = -1 := by decide
  have l0 : (0 : Int32).toInt = 0 := by decide
  have l1 : (1 : Int32).toInt = 1 := by decide
  have l2 : (2 : Int32).toInt = 2 := by decide
  have l3 : (3 : Int32).toInt = 3 := by decide
  have l9999 : (9999 : Int32).toInt = 9999 := by decide
  have FS0 : Fr 65536 S0 S0 := Fr.rf
  unfold F_X7_settle
  refine zk_sv fun S1 E1 => ?_
  have RS1 : RI S1 := by rw [E1]; exact RS0.wf rfl
  have FS1 : Fr 65536 S0 S1 := by rw [E1]; exact FS0.wr (k := 16) rfl rfl
  refine zk_bd (s_F_X7_isHand _ _ RS1) (fun v2 T3 h2 => ?_)
  obtain ⟨rfl, h2⟩ := h2
  refine zk_eq (fun c4 => ?_) (fun c4 => ?_)
  ·
    unfold B_X7_settle_19
    refine zk_bd (s_F_X7_bad _ _ _ RS1 (by omega)) (fun v5 T6 h5 => ?_)
    obtain ⟨RT6, fT6, h5⟩ := h5
    have FT6 := FS1.tr (fT6.sub (m := 65536) (by decide))
    refine zk_eq (fun c7 => ?_) (fun c7 => ?_)
    ·
      refine zk_bd (s_F_X7_isCell _ _ RT6) (fun v8 T9 h8 => ?_)
      obtain ⟨rfl, h8⟩ := h8
      refine zk_eq (fun c10 => ?_) (fun c10 => ?_)
      ·
        unfold B_X7_settle_39
        refine zk_bd (s_F_X7_bad _ _ _ RT6 (by omega)) (fun v11 T12 h11 => ?_)
        obtain ⟨RT12, fT12, h11⟩ := h11
        have FT12 := FT6.tr (fT12.sub (m := 65536) (by decide))
        refine zk_eq (fun c13 => ?_) (fun c13 => ?_)
        ·
          refine zk_bd (s_F_X7_in _ _ _ _ RT12) (fun v14 T15 h14 => ?_)
          obtain ⟨rfl, h14⟩ := h14
          refine zk_eq (fun c16 => ?_) (fun c16 => ?_)
          ·
            unfold B_X7_settle_63
            refine zk_bd (s_F_X7_bad _ _ _ RT12 (by omega)) (fun v17 T18 h17 => ?_)
            obtain ⟨RT18, fT18, h17⟩ := h17
            have FT18 := FT12.tr (fT18.sub (m := 65536) (by decide))
            refine zk_eq (fun c19 => ?_) (fun c19 => ?_)
            ·
              refine zk_bd (s_F_X7_topOf _ _ RT18 (by omega)) (fun v20 T21 h20 => ?_)
              obtain ⟨rfl, h20⟩ := h20
              refine zk_bd (s_F_X7_weightFor _ _ _ RT18 (by omega)) (fun v22 T23 h22 => ?_)
              obtain ⟨rfl, h22⟩ := h22
              refine zk_eq (fun c24 => ?_) (fun c24 => ?_)
              ·
                exact zk_some ⟨RT18, FT18, trivial⟩
              ·
                have b25 := ti_bd v22
                refine zk_eq (fun c26 => ?_) (fun c26 => ?_)
                ·
                  exact zk_some ⟨RT18, FT18, trivial⟩
                ·
                  refine zk_imp (s_B_X7_settle_103 _ _ RT18 (by (try dsimp only) <;> omega) (by (try dsimp only) <;> omega)) (fun v27 T28 h27 => ?_)
                  obtain ⟨rfl, h27⟩ := h27
                  exact ⟨RT18, FT18, trivial⟩
            ·
              exact zk_some ⟨RT18, FT18, trivial⟩
          ·
            unfold B_X7_settle_63
            refine zk_bd (s_F_X7_bad _ _ _ RT12 (by omega)) (fun v29 T30 h29 => ?_)
            obtain ⟨RT30, fT30, h29⟩ := h29
            have FT30 := FT12.tr (fT30.sub (m := 65536) (by decide))
            refine zk_eq (fun c31 => ?_) (fun c31 => ?_)
            ·
              refine zk_bd (s_F_X7_topOf _ _ RT30 (by omega)) (fun v32 T33 h32 => ?_)
              obtain ⟨rfl, h32⟩ := h32
              refine zk_bd (s_F_X7_weightFor _ _ _ RT30 (by omega)) (fun v34 T35 h34 => ?_)
              obtain ⟨rfl, h34⟩ := h34
              refine zk_eq (fun c36 => ?_) (fun c36 => ?_)
              ·
                exact zk_some ⟨RT30, FT30, trivial⟩
              ·
                have b37 := ti_bd v34
                refine zk_eq (fun c38 => ?_) (fun c38 => ?_)
                ·
                  exact zk_some ⟨RT30, FT30, trivial⟩
                ·
                  refine zk_imp (s_B_X7_settle_103 _ _ RT30 (by (try dsimp only) <;> omega) (by (try dsimp only) <;> omega)) (fun v39 T40 h39 => ?_)
                  obtain ⟨rfl, h39⟩ := h39
                  exact ⟨RT30, FT30, trivial⟩
            ·
              exact zk_some ⟨RT30, FT30, trivial⟩
        ·
          exact zk_some ⟨RT12, FT12, trivial⟩
      ·
        unfold B_X7_settle_39
        refine zk_bd (s_F_X7_bad _ _ _ RT6 (by omega)) (fun v41 T42 h41 => ?_)
        obtain ⟨RT42, fT42, h41⟩ := h41
        have FT42 := FT6.tr (fT42.sub (m := 65536) (by decide))
        refine zk_eq (fun c43 => ?_) (fun c43 => ?_)
        ·
          refine zk_bd (s_F_X7_in _ _ _ _ RT42) (fun v44 T45 h44 => ?_)
          obtain ⟨rfl, h44⟩ := h44
          refine zk_eq (fun c46 => ?_) (fun c46 => ?_)
          ·
            unfold B_X7_settle_63
            refine zk_bd (s_F_X7_bad _ _ _ RT42 (by omega)) (fun v47 T48 h47 => ?_)
            obtain ⟨RT48, fT48, h47⟩ := h47
            have FT48 := FT42.tr (fT48.sub (m := 65536) (by decide))
            refine zk_eq (fun c49 => ?_) (fun c49 => ?_)
            ·
              refine zk_bd (s_F_X7_topOf _ _ RT48 (by omega)) (fun v50 T51 h50 => ?_)
              obtain ⟨rfl, h50⟩ := h50
              refine zk_bd (s_F_X7_weightFor _ _ _ RT48 (by omega)) (fun v52 T53 h52 => ?_)
              obtain ⟨rfl, h52⟩ := h52
              refine zk_eq (fun c54 => ?_) (fun c54 => ?_)
              ·
                exact zk_some ⟨RT48, FT48, trivial⟩
              ·
                have b55 := ti_bd v52
                refine zk_eq (fun c56 => ?_) (fun c56 => ?_)
                ·
                  exact zk_some ⟨RT48, FT48, trivial⟩
                ·
                  refine zk_imp (s_B_X7_settle_103 _ _ RT48 (by (try dsimp only) <;> omega) (by (try dsimp only) <;> omega)) (fun v57 T58 h57 => ?_)
                  obtain ⟨rfl, h57⟩ := h57
                  exact ⟨RT48, FT48, trivial⟩
            ·
              exact zk_some ⟨RT48, FT48, trivial⟩
          ·
            unfold B_X7_settle_63
            refine zk_bd (s_F_X7_bad _ _ _ RT42 (by omega)) (fun v59 T60 h59 => ?_)
            obtain ⟨RT60, fT60, h59⟩ := h59
            have FT60 := FT42.tr (fT60.sub (m := 65536) (by decide))
            refine zk_eq (fun c61 => ?_) (fun c61 => ?_)
            ·
              refine zk_bd (s_F_X7_topOf _ _ RT60 (by omega)) (fun v62 T63 h62 => ?_)
              obtain ⟨rfl, h62⟩ := h62
              refine zk_bd (s_F_X7_weightFor _ _ _ RT60 (by omega)) (fun v64 T65 h64 => ?_)
              obtain ⟨rfl, h64⟩ := h64
              refine zk_eq (fun c66 => ?_) (fun c66 => ?_)
              ·
                exact zk_some ⟨RT60, FT60, trivial⟩
              ·
                have b67 := ti_bd v64
                refine zk_eq (fun c68 => ?_) (fun c68 => ?_)
                ·
                  exact zk_some ⟨RT60, FT60, trivial⟩
                ·
                  refine zk_imp (s_B_X7_settle_103 _ _ RT60 (by (try dsimp only) <;> omega) (by (try dsimp only) <;> omega)) (fun v69 T70 h69 => ?_)
                  obtain ⟨rfl, h69⟩ := h69
                  exact ⟨RT60, FT60, trivial⟩
            ·
              exact zk_some ⟨RT60, FT60, trivial⟩
        ·
          exact zk_some ⟨RT42, FT42, trivial⟩
    ·
      exact zk_some ⟨RT6, FT6, trivial⟩
  ·
    unfold B_X7_settle_19
    refine zk_bd (s_F_X7_bad _ _ _ RS1 (by omega)) (fun v71 T72 h71 => ?_)
    obtain ⟨RT72, fT72, h71⟩ := h71
    have FT72 := FS1.tr (fT72.sub (m := 65536) (by decide))
    refine zk_eq (fun c73 => ?_) (fun c73 => ?_)
    ·
      refine zk_bd (s_F_X7_isCell _ _ RT72) (fun v74 T75 h74 => ?_)
      obtain ⟨rfl, h74⟩ := h74
      refine zk_eq (fun c76 => ?_) (fun c76 => ?_)
      ·
        unfold B_X7_settle_39
        refine zk_bd (s_F_X7_bad _ _ _ RT72 (by omega)) (fun v77 T78 h77 => ?_)
        obtain ⟨RT78, fT78, h77⟩ := h77
        have FT78 := FT72.tr (fT78.sub (m := 65536) (by decide))
        refine zk_eq (fun c79 => ?_) (fun c79 => ?_)
        ·
          refine zk_bd (s_F_X7_in _ _ _ _ RT78) (fun v80 T81 h80 => ?_)
          obtain ⟨rfl, h80⟩ := h80
          refine zk_eq (fun c82 => ?_) (fun c82 => ?_)
          ·
            unfold B_X7_settle_63
            refine zk_bd (s_F_X7_bad _ _ _ RT78 (by omega)) (fun v83 T84 h83 => ?_)
            obtain ⟨RT84, fT84, h83⟩ := h83
            have FT84 := FT78.tr (fT84.sub (m := 65536) (by decide))
            refine zk_eq (fun c85 => ?_) (fun c85 => ?_)
            ·
              refine zk_bd (s_F_X7_topOf _ _ RT84 (by omega)) (fun v86 T87 h86 => ?_)
              obtain ⟨rfl, h86⟩ := h86
              refine zk_bd (s_F_X7_weightFor _ _ _ RT84 (by omega)) (fun v88 T89 h88 => ?_)
              obtain ⟨rfl, h88⟩ := h88
              refine zk_eq (fun c90 => ?_) (fun c90 => ?_)
              ·
                exact zk_some ⟨RT84, FT84, trivial⟩
              ·
                have b91 := ti_bd v88
                refine zk_eq (fun c92 => ?_) (fun c92 => ?_)
                ·
                  exact zk_some ⟨RT84, FT84, trivial⟩
                ·
                  refine zk_imp (s_B_X7_settle_103 _ _ RT84 (by (try dsimp only) <;> omega) (by (try dsimp only) <;> omega)) (fun v93 T94 h93 => ?_)
                  obtain ⟨rfl, h93⟩ := h93
                  exact ⟨RT84, FT84, trivial⟩
            ·
              exact zk_some ⟨RT84, FT84, trivial⟩
          ·
            unfold B_X7_settle_63
            refine zk_bd (s_F_X7_bad _ _ _ RT78 (by omega)) (fun v95 T96 h95 => ?_)
            obtain ⟨RT96, fT96, h95⟩ := h95
            have FT96 := FT78.tr (fT96.sub (m := 65536) (by decide))
            refine zk_eq (fun c97 => ?_) (fun c97 => ?_)
            ·
              refine zk_bd (s_F_X7_topOf _ _ RT96 (by omega)) (fun v98 T99 h98 => ?_)
              obtain ⟨rfl, h98⟩ := h98
              refine zk_bd (s_F_X7_weightFor _ _ _ RT96 (by omega)) (fun v100 T101 h100 => ?_)
              obtain ⟨rfl, h100⟩ := h100
              refine zk_eq (fun c102 => ?_) (fun c102 => ?_)
              ·
                exact zk_some ⟨RT96, FT96, trivial⟩
              ·
                have b103 := ti_bd v100
                refine zk_eq (fun c104 => ?_) (fun c104 => ?_)
                ·
                  exact zk_some ⟨RT96, FT96, trivial⟩
                ·
                  refine zk_imp (s_B_X7_settle_103 _ _ RT96 (by (try dsimp only) <;> omega) (by (try dsimp only) <;> omega)) (fun v105 T106 h105 => ?_)
                  obtain ⟨rfl, h105⟩ := h105
                  exact ⟨RT96, FT96, trivial⟩
            ·
              exact zk_some ⟨RT96, FT96, trivial⟩
        ·
          exact zk_some ⟨RT78, FT78, trivial⟩
      ·
        unfold B_X7_settle_39
        refine zk_bd (s_F_X7_bad _ _ _ RT72 (by omega)) (fun v107 T108 h107 => ?_)
        obtain ⟨RT108, fT108, h107⟩ := h107
        have FT108 := FT72.tr (fT108.sub (m := 65536) (by decide))
        refine zk_eq (fun c109 => ?_) (fun c109 => ?_)
        ·
          refine zk_bd (s_F_X7_in _ _ _ _ RT108) (fun v110 T111 h110 => ?_)
          obtain ⟨rfl, h110⟩ := h110
          refine zk_eq (fun c112 => ?_) (fun c112 => ?_)
          ·
            unfold B_X7_settle_63
            refine zk_bd (s_F_X7_bad _ _ _ RT108 (by omega)) (fun v113 T114 h113 => ?_)
            obtain ⟨RT114, fT114, h113⟩ := h113
            have FT114 := FT108.tr (fT114.sub (m := 65536) (by decide))
            refine zk_eq (fun c115 => ?_) (fun c115 => ?_)
            ·
              refine zk_bd (s_F_X7_topOf _ _ RT114 (by omega)) (fun v116 T117 h116 => ?_)
              obtain ⟨rfl, h116⟩ := h116
              refine zk_bd (s_F_X7_weightFor _ _ _ RT114 (by omega)) (fun v118 T119 h118 => ?_)
              obtain ⟨rfl, h118⟩ := h118
              refine zk_eq (fun c120 => ?_) (fun c120 => ?_)
              ·
                exact zk_some ⟨RT114, FT114, trivial⟩
              ·
                have b121 := ti_bd v118
                refine zk_eq (fun c122 => ?_) (fun c122 => ?_)
                ·
                  exact zk_some ⟨RT114, FT114, trivial⟩
                ·
                  refine zk_imp (s_B_X7_settle_103 _ _ RT114 (by (try dsimp only) <;> omega) (by (try dsimp only) <;> omega)) (fun v123 T124 h123 => ?_)
                  obtain ⟨rfl, h123⟩ := h123
                  exact ⟨RT114, FT114, trivial⟩
            ·
              exact zk_some ⟨RT114, FT114, trivial⟩
          ·
            unfold B_X7_settle_63
            refine zk_bd (s_F_X7_bad _ _ _ RT108 (by omega)) (fun v125 T126 h125 => ?_)
            obtain ⟨RT126, fT126, h125⟩ := h125
            have FT126 := FT108.tr (fT126.sub (m := 65536) (by decide))
            refine zk_eq (fun c127 => ?_) (fun c127 => ?_)
            ·
              refine zk_bd (s_F_X7_topOf _ _ RT126 (by omega)) (fun v128 T129 h128 => ?_)
              obtain ⟨rfl, h128⟩ := h128
              refine zk_bd (s_F_X7_weightFor _ _ _ RT126 (by omega)) (fun v130 T131 h130 => ?_)
              obtain ⟨rfl, h130⟩ := h130
              refine zk_eq (fun c132 => ?_) (fun c132 => ?_)
              ·
                exact zk_some ⟨RT126, FT126, trivial⟩
              ·
                have b133 := ti_bd v130
                refine zk_eq (fun c134 => ?_) (fun c134 => ?_)
                ·
                  exact zk_some ⟨RT126, FT126, trivial⟩
                ·
                  refine zk_imp (s_B_X7_settle_103 _ _ RT126 (by (try dsimp only) <;> omega) (by (try dsimp only) <;> omega)) (fun v135 T136 h135 => ?_)
                  obtain ⟨rfl, h135⟩ := h135
                  exact ⟨RT126, FT126, trivial⟩
            ·
              exact zk_some ⟨RT126, FT126, trivial⟩
        ·
          exact zk_some ⟨RT108, FT108, trivial⟩
    ·
      exact zk_some ⟨RT72, FT72, trivial⟩
theorem s_F_X7_back (p1 : Int32) (p2 : Int32) (S0 : fS) (RS0 : RI S0) : zk (F_X7_back p1 p2 S0) (fun v S9 => RI S9 ∧ Fr 65536 S0 S9 ∧ True) := by
  have lm2147483648 : (-2147483648 : Int32).toInt = -2147483648 := by decide
  have lm1 : (-1 : Int32).toInt = -1 := by decide
  have l0 : (0 : Int32).toInt = 0 := by decide
  have l1 : (1 : Int32).toInt = 1 := by decide
  have l2 : (2 : Int32).toInt = 2 := by decide
  have l32 : (32 : Int32).toInt = 32 := by decide
  have FS0 : Fr 65536 S0 S0 := Fr.rf
  unfold F_X7_back
  refine zk_sv fun S1 E1 => ?_
  have RS1 : RI S1 := by rw [E1]; exact RS0.wf rfl
  have FS1 : Fr 65536 S0 S1 := by rw [E1]; exact FS0.wr (k := 16) rfl rfl
  refine zk_bd (s_F_X7_isHand _ _ RS1) (fun v2 T3 h2 => ?_)
  obtain ⟨rfl, h2⟩ := h2
  refine zk_eq (fun c4 => ?_) (fun c4 => ?_)
  ·
    unfold B_X7_back_19
    refine zk_bd (s_F_X7_bad _ _ _ RS1 (by omega)) (fun v5 T6 h5 => ?_)
    obtain ⟨RT6, fT6, h5⟩ := h5
    have FT6 := FS1.tr (fT6.sub (m := 65536) (by decide))
    refine zk_eq (fun c7 => ?_) (fun c7 => ?_)
    ·
      refine zk_bd (s_F_X7_isCell _ _ RT6) (fun v8 T9 h8 => ?_)
      obtain ⟨rfl, h8⟩ := h8
      refine zk_eq (fun c10 => ?_) (fun c10 => ?_)
      ·
        unfold B_X7_back_39
        refine zk_bd (s_F_X7_bad _ _ _ RT6 (by omega)) (fun v11 T12 h11 => ?_)
        obtain ⟨RT12, fT12, h11⟩ := h11
        have FT12 := FT6.tr (fT12.sub (m := 65536) (by decide))
        refine zk_eq (fun c13 => ?_) (fun c13 => ?_)
        ·
          refine zk_bd (s_F_X7_topOf _ _ RT12 (by omega)) (fun v14 T15 h14 => ?_)
          obtain ⟨rfl, h14⟩ := h14
          refine zk_bd (s_F_X7_weightFor _ _ _ RT12 (by omega)) (fun v16 T17 h16 => ?_)
          obtain ⟨rfl, h16⟩ := h16
          refine zk_eq (fun c18 => ?_) (fun c18 => ?_)
          ·
            unfold B_X7_back_72
            exact zk_some ⟨RT12, FT12, trivial⟩
          ·
            have b19 := ti_bd v16
            refine zk_eq (fun c20 => ?_) (fun c20 => ?_)
            ·
              unfold B_X7_back_72
              exact zk_some ⟨RT12, FT12, trivial⟩
            ·
              refine zk_iv fun x21 e21 => ?_
              refine zk_bd (s_F_X7_weightsOf _ _ RT12 (by omega)) (fun v22 T23 h22 => ?_)
              obtain ⟨rfl, h22⟩ := h22
              refine zk_iv fun x24 e24 => ?_
              refine zk_gd ⟨by omega, by omega⟩ ?_
              refine zk_iv fun x25 e25 => ?_
              refine zk_iv fun x26 e26 => ?_
              refine zk_iv fun x27 e27 => ?_
              have b28 := ti_bd x27
              refine zk_lt (fun c29 => ?_) (fun c29 => ?_)
              ·
                refine zk_iv fun x30 e30 => ?_
                refine zk_iv fun x31 e31 => ?_
                refine zk_iv fun x32 e32 => ?_
                refine zk_gd (zn0 (by omega)) ?_
                refine zk_iv fun x33 e33 => ?_
                refine zk_iv fun x34 e34 => ?_
                exact zk_some ⟨RT12, FT12, trivial⟩
              ·
                refine zk_gd (zn0 (by omega)) ?_
                refine zk_iv fun x35 e35 => ?_
                exact zk_some ⟨RT12, FT12, trivial⟩
        ·
          exact zk_some ⟨RT12, FT12, trivial⟩
      ·
        unfold B_X7_back_39
        refine zk_bd (s_F_X7_bad _ _ _ RT6 (by omega)) (fun v36 T37 h36 => ?_)
        obtain ⟨RT37, fT37, h36⟩ := h36
        have FT37 := FT6.tr (fT37.sub (m := 65536) (by decide))
        refine zk_eq (fun c38 => ?_) (fun c38 => ?_)
        ·
          refine zk_bd (s_F_X7_topOf _ _ RT37 (by omega)) (fun v39 T40 h39 => ?_)
          obtain ⟨rfl, h39⟩ := h39
          refine zk_bd (s_F_X7_weightFor _ _ _ RT37 (by omega)) (fun v41 T42 h41 => ?_)
          obtain ⟨rfl, h41⟩ := h41
          refine zk_eq (fun c43 => ?_) (fun c43 => ?_)
          ·
            unfold B_X7_back_72
            exact zk_some ⟨RT37, FT37, trivial⟩
          ·
            have b44 := ti_bd v41
            refine zk_eq (fun c45 => ?_) (fun c45 => ?_)
            ·
              unfold B_X7_back_72
              exact zk_some ⟨RT37, FT37, trivial⟩
            ·
              refine zk_iv fun x46 e46 => ?_
              refine zk_bd (s_F_X7_weightsOf _ _ RT37 (by omega)) (fun v47 T48 h47 => ?_)
              obtain ⟨rfl, h47⟩ := h47
              refine zk_iv fun x49 e49 => ?_
              refine zk_gd ⟨by omega, by omega⟩ ?_
              refine zk_iv fun x50 e50 => ?_
              refine zk_iv fun x51 e51 => ?_
              refine zk_iv fun x52 e52 => ?_
              have b53 := ti_bd x52
              refine zk_lt (fun c54 => ?_) (fun c54 => ?_)
              ·
                refine zk_iv fun x55 e55 => ?_
                refine zk_iv fun x56 e56 => ?_
                refine zk_iv fun x57 e57 => ?_
                refine zk_gd (zn0 (by omega)) ?_
                refine zk_iv fun x58 e58 => ?_
                refine zk_iv fun x59 e59 => ?_
                exact zk_some ⟨RT37, FT37, trivial⟩
              ·
                refine zk_gd (zn0 (by omega)) ?_
                refine zk_iv fun x60 e60 => ?_
                exact zk_some ⟨RT37, FT37, trivial⟩
        ·
          exact zk_some ⟨RT37, FT37, trivial⟩
    ·
      exact zk_some ⟨RT6, FT6, trivial⟩
  ·
    unfold B_X7_back_19
    refine zk_bd (s_F_X7_bad _ _ _ RS1 (by omega)) (fun v61 T62 h61 => ?_)
    obtain ⟨RT62, fT62, h61⟩ := h61
    have FT62 := FS1.tr (fT62.sub (m := 65536) (by decide))
    refine zk_eq (fun c63 => ?_) (fun c63 => ?_)
    ·
      refine zk_bd (s_F_X7_isCell _ _ RT62) (fun v64 T65 h64 => ?_)
      obtain ⟨rfl, h64⟩ := h64
      refine zk_eq (fun c66 => ?_) (fun c66 => ?_)
      ·
        unfold B_X7_back_39
        refine zk_bd (s_F_X7_bad _ _ _ RT62 (by omega)) (fun v67 T68 h67 => ?_)
        obtain ⟨RT68, fT68, h67⟩ := h67
        have FT68 := FT62.tr (fT68.sub (m := 65536) (by decide))
        refine zk_eq (fun c69 => ?_) (fun c69 => ?_)
        ·
          refine zk_bd (s_F_X7_topOf _ _ RT68 (by omega)) (fun v70 T71 h70 => ?_)
          obtain ⟨rfl, h70⟩ := h70
          refine zk_bd (s_F_X7_weightFor _ _ _ RT68 (by omega)) (fun v72 T73 h72 => ?_)
          obtain ⟨rfl, h72⟩ := h72
          refine zk_eq (fun c74 => ?_) (fun c74 => ?_)
          ·
            unfold B_X7_back_72
            exact zk_some ⟨RT68, FT68, trivial⟩
          ·
            have b75 := ti_bd v72
            refine zk_eq (fun c76 => ?_) (fun c76 => ?_)
            ·
              unfold B_X7_back_72
              exact zk_some ⟨RT68, FT68, trivial⟩
            ·
              refine zk_iv fun x77 e77 => ?_
              refine zk_bd (s_F_X7_weightsOf _ _ RT68 (by omega)) (fun v78 T79 h78 => ?_)
              obtain ⟨rfl, h78⟩ := h78
              refine zk_iv fun x80 e80 => ?_
              refine zk_gd ⟨by omega, by omega⟩ ?_
              refine zk_iv fun x81 e81 => ?_
              refine zk_iv fun x82 e82 => ?_
              refine zk_iv fun x83 e83 => ?_
              have b84 := ti_bd x83
              refine zk_lt (fun c85 => ?_) (fun c85 => ?_)
              ·
                refine zk_iv fun x86 e86 => ?_
                refine zk_iv fun x87 e87 => ?_
                refine zk_iv fun x88 e88 => ?_
                refine zk_gd (zn0 (by omega)) ?_
                refine zk_iv fun x89 e89 => ?_
                refine zk_iv fun x90 e90 => ?_
                exact zk_some ⟨RT68, FT68, trivial⟩
              ·
                refine zk_gd (zn0 (by omega)) ?_
                refine zk_iv fun x91 e91 => ?_
                exact zk_some ⟨RT68, FT68, trivial⟩
        ·
          exact zk_some ⟨RT68, FT68, trivial⟩
      ·
        unfold B_X7_back_39
        refine zk_bd (s_F_X7_bad _ _ _ RT62 (by omega)) (fun v92 T93 h92 => ?_)
        obtain ⟨RT93, fT93, h92⟩ := h92
        have FT93 := FT62.tr (fT93.sub (m := 65536) (by decide))
        refine zk_eq (fun c94 => ?_) (fun c94 => ?_)
        ·
          refine zk_bd (s_F_X7_topOf _ _ RT93 (by omega)) (fun v95 T96 h95 => ?_)
          obtain ⟨rfl, h95⟩ := h95
          refine zk_bd (s_F_X7_weightFor _ _ _ RT93 (by omega)) (fun v97 T98 h97 => ?_)
          obtain ⟨rfl, h97⟩ := h97
          refine zk_eq (fun c99 => ?_) (fun c99 => ?_)
          ·
            unfold B_X7_back_72
            exact zk_some ⟨RT93, FT93, trivial⟩
          ·
            have b100 := ti_bd v97
            refine zk_eq (fun c101 => ?_) (fun c101 => ?_)
            ·
              unfold B_X7_back_72
              exact zk_some ⟨RT93, FT93, trivial⟩
            ·
              refine zk_iv fun x102 e102 => ?_
              refine zk_bd (s_F_X7_weightsOf _ _ RT93 (by omega)) (fun v103 T104 h103 => ?_)
              obtain ⟨rfl, h103⟩ := h103
              refine zk_iv fun x105 e105 => ?_
              refine zk_gd ⟨by omega, by omega⟩ ?_
              refine zk_iv fun x106 e106 => ?_
              refine zk_iv fun x107 e107 => ?_
              refine zk_iv fun x108 e108 => ?_
              have b109 := ti_bd x108
              refine zk_lt (fun c110 => ?_) (fun c110 => ?_)
              ·
                refine zk_iv fun x111 e111 => ?_
                refine zk_iv fun x112 e112 => ?_
                refine zk_iv fun x113 e113 => ?_
                refine zk_gd (zn0 (by omega)) ?_
                refine zk_iv fun x114 e114 => ?_
                refine zk_iv fun x115 e115 => ?_
                exact zk_some ⟨RT93, FT93, trivial⟩
              ·
                refine zk_gd (zn0 (by omega)) ?_
                refine zk_iv fun x116 e116 => ?_
                exact zk_some ⟨RT93, FT93, trivial⟩
        ·
          exact zk_some ⟨RT93, FT93, trivial⟩
    ·
      exact zk_some ⟨RT62, FT62, trivial⟩
theorem s_B_X7_cut_109  (z : Int32 × Int32 × Int32 × Int32 × Int32 × Int32) (S : fS) (RS : RI S) (hi : 0 ≤ z.1.toInt ∧ z.1.toInt ≤ 5 ∧ 0 ≤ z.2.2.2.2.2.toInt ∧ z.2.2.2.2.2.toInt ≤ 9) (hm : (9 - z.2.2.2.2.2.toInt).toNat < 4294967296) : zk (lp (B_X7_cut_109) fuel z S) (fun v S9 => S = S9 ∧ True) := by
  have l0 : (0 : Int32).toInt = 0 := by decide
  have l1 : (1 : Int32).toInt = 1 := by decide
  have l3 : (3 : Int32).toInt = 3 := by decide
  have l9 : (9 : Int32).toInt = 9 := by decide
  have l100 : (100 : Int32).toInt = 100 := by decide
  have lo1 : (Int32.ofInt 1).toInt = 1 := by decide
  refine zk_lp (fun z S => RI S ∧ (0 ≤ z.1.toInt ∧ z.1.toInt ≤ 5 ∧ 0 ≤ z.2.2.2.2.2.toInt ∧ z.2.2.2.2.2.toInt ≤ 9)) (fun z S => (9 - z.2.2.2.2.2.toInt).toNat) (fun z S (v : Int32) S9 => S = S9 ∧ True) ?_ z S ⟨RS, hi⟩ hm
  clear RS hi hm
  intro k z S hI hk
  obtain ⟨RS, hI⟩ := hI
  obtain ⟨a1, a2, a3, a6, a7, a8⟩ := z
  (try dsimp only at hI); (try dsimp only at hk); (try dsimp only)
  unfold B_X7_cut_109
  dsimp only
  refine zk_le (fun c1 => ?_) (fun c1 => ?_)
  ·
    exact zk_some ⟨rfl, trivial⟩
  ·
    refine zk_iv fun x2 e2 => ?_
    have gx2 : 0 ≤ x2.toInt ∧ x2.toInt < 3 := by rw [e2]; exact ti_mod (c := 3) (by decide) (by decide) (by omega)
    refine zk_iv fun x3 e3 => ?_
    refine zk_iv fun x4 e4 => ?_
    refine zk_iv fun x5 e5 => ?_
    refine zk_iv fun x6 e6 => ?_
    refine zk_iv fun x7 e7 => ?_
    have b8 := ti_bd x7
    have b9 := ti_bd a3
    refine zk_eq (fun c10 => ?_) (fun c10 => ?_)
    ·
      refine zk_gd ⟨by omega, by omega⟩ ?_
      refine zk_gd ⟨by omega, by omega⟩ ?_
      refine zk_iv fun x11 e11 => ?_
      have gx11 : 0 ≤ x11.toInt ∧ x11.toInt ≤ 7 := by rw [e11]; exact RS 59 _ _
      unfold B_X7_cut_152
      refine zk_iv fun x12 e12 => ?_
      refine zk_iv fun x13 e13 => ?_
      have gx13 : x13.toInt = a8.toInt + (Int32.ofInt 1).toInt := by rw [e13]; exact ti_add (by omega) (by omega)
      refine zk_imp (hk (a1, a2, a3, x12, a7, x13) _ ⟨RS, (by (try dsimp only) <;> omega)⟩ (by (try dsimp only) <;> omega)) (fun v14 T15 h14 => ?_)
      obtain ⟨rfl, h14⟩ := h14
      exact ⟨rfl, trivial⟩
    ·
      unfold B_X7_cut_152
      refine zk_iv fun x16 e16 => ?_
      have b17 := ti_bd a6
      have gx16 : x16.toInt = a6.toInt + (0 : Int32).toInt := by rw [e16]; exact ti_add (by omega) (by omega)
      refine zk_iv fun x18 e18 => ?_
      have gx18 : x18.toInt = a8.toInt + (Int32.ofInt 1).toInt := by rw [e18]; exact ti_add (by omega) (by omega)
      refine zk_imp (hk (a1, a2, a3, x16, a7, x18) _ ⟨RS, (by (try dsimp only) <;> omega)⟩ (by (try dsimp only) <;> omega)) (fun v19 T20 h19 => ?_)
      obtain ⟨rfl, h19⟩ := h19
      exact ⟨rfl, trivial⟩
theorem s_F_X7_cut (p1 : Int32) (p2 : Int32) (p3 : Int32) (p4 : Int32) (p5 : Int32) (S0 : fS) (RS0 : RI S0) : zk (F_X7_cut p1 p2 p3 p4 p5 S0) (fun v S9 => RI S9 ∧ Fr 65536 S0 S9 ∧ True) := by
  have l0 : (0 : Int32).toInt = 0 := by decide
  have l1 : (1 : Int32).toInt = 1 := by decide
  have l2 : (2 : Int32).toInt = 2 := by decide
  have l9 : (9 : Int32).toInt = 9 := by decide
  have l36 : (36 : Int32).toInt = 36 := by decide
  have l99 : (99 : Int32).toInt = 99 := by decide
  have l999 : (999 : Int32).toInt = 999 := by decide
  have FS0 : Fr 65536 S0 S0 := Fr.rf
  unfold F_X7_cut
  refine zk_sv fun S1 E1 => ?_
  have RS1 : RI S1 := by rw [E1]; exact RS0.wf rfl
  have FS1 : Fr 65536 S0 S1 := by rw [E1]; exact FS0.wr (k := 16) rfl rfl
  refine zk_bd (s_F_X7_isHand _ _ RS1) (fun v2 T3 h2 => ?_)
  obtain ⟨rfl, h2⟩ := h2
  refine zk_eq (fun c4 => ?_) (fun c4 => ?_)
  ·
    unfold B_X7_cut_19
    refine zk_bd (s_F_X7_bad _ _ _ RS1 (by omega)) (fun v5 T6 h5 => ?_)
    obtain ⟨RT6, fT6, h5⟩ := h5
    have FT6 := FS1.tr (fT6.sub (m := 65536) (by decide))
    refine zk_eq (fun c7 => ?_) (fun c7 => ?_)
    ·
      refine zk_bd (s_F_X7_in _ _ _ _ RT6) (fun v8 T9 h8 => ?_)
      obtain ⟨rfl, h8⟩ := h8
      refine zk_eq (fun c10 => ?_) (fun c10 => ?_)
      ·
        unfold B_X7_cut_70
        unfold B_X7_cut_75
        refine zk_bd (s_F_X7_bad _ _ _ RT6 (by omega)) (fun v11 T12 h11 => ?_)
        obtain ⟨RT12, fT12, h11⟩ := h11
        have FT12 := FT6.tr (fT12.sub (m := 65536) (by decide))
        refine zk_eq (fun c13 => ?_) (fun c13 => ?_)
        ·
          refine zk_iv fun x14 e14 => ?_
          refine zk_iv fun x15 e15 => ?_
          have b16 := ti_bd x15
          have b17 := ti_bd p5
          refine zk_lt (fun c18 => ?_) (fun c18 => ?_)
          ·
            unfold B_X7_cut_104
            refine zk_imp (s_B_X7_cut_109 _ _ RT12 (by (try dsimp only) <;> omega) (by (try dsimp only) <;> omega)) (fun v19 T20 h19 => ?_)
            obtain ⟨rfl, h19⟩ := h19
            exact ⟨RT12, FT12, trivial⟩
          ·
            unfold B_X7_cut_104
            refine zk_imp (s_B_X7_cut_109 _ _ RT12 (by (try dsimp only) <;> omega) (by (try dsimp only) <;> omega)) (fun v21 T22 h21 => ?_)
            obtain ⟨rfl, h21⟩ := h21
            exact ⟨RT12, FT12, trivial⟩
        ·
          exact zk_some ⟨RT12, FT12, trivial⟩
      ·
        refine zk_bd (s_F_X7_in _ _ _ _ RT6) (fun v23 T24 h23 => ?_)
        obtain ⟨rfl, h23⟩ := h23
        refine zk_eq (fun c25 => ?_) (fun c25 => ?_)
        ·
          unfold B_X7_cut_70
          unfold B_X7_cut_75
          refine zk_bd (s_F_X7_bad _ _ _ RT6 (by omega)) (fun v26 T27 h26 => ?_)
          obtain ⟨RT27, fT27, h26⟩ := h26
          have FT27 := FT6.tr (fT27.sub (m := 65536) (by decide))
          refine zk_eq (fun c28 => ?_) (fun c28 => ?_)
          ·
            refine zk_iv fun x29 e29 => ?_
            refine zk_iv fun x30 e30 => ?_
            have b31 := ti_bd x30
            have b32 := ti_bd p5
            refine zk_lt (fun c33 => ?_) (fun c33 => ?_)
            ·
              unfold B_X7_cut_104
              refine zk_imp (s_B_X7_cut_109 _ _ RT27 (by (try dsimp only) <;> omega) (by (try dsimp only) <;> omega)) (fun v34 T35 h34 => ?_)
              obtain ⟨rfl, h34⟩ := h34
              exact ⟨RT27, FT27, trivial⟩
            ·
              unfold B_X7_cut_104
              refine zk_imp (s_B_X7_cut_109 _ _ RT27 (by (try dsimp only) <;> omega) (by (try dsimp only) <;> omega)) (fun v36 T37 h36 => ?_)
              obtain ⟨rfl, h36⟩ := h36
              exact ⟨RT27, FT27, trivial⟩
          ·
            exact zk_some ⟨RT27, FT27, trivial⟩
        ·
          refine zk_bd (s_F_X7_in _ _ _ _ RT6) (fun v38 T39 h38 => ?_)
          obtain ⟨rfl, h38⟩ := h38
          refine zk_eq (fun c40 => ?_) (fun c40 => ?_)
          ·
            unfold B_X7_cut_70
            unfold B_X7_cut_75
            refine zk_bd (s_F_X7_bad _ _ _ RT6 (by omega)) (fun v41 T42 h41 => ?_)
            obtain ⟨RT42, fT42, h41⟩ := h41
            have FT42 := FT6.tr (fT42.sub (m := 65536) (by decide))
            refine zk_eq (fun c43 => ?_) (fun c43 => ?_)
            ·
              refine zk_iv fun x44 e44 => ?_
              refine zk_iv fun x45 e45 => ?_
              have b46 := ti_bd x45
              have b47 := ti_bd p5
              refine zk_lt (fun c48 => ?_) (fun c48 => ?_)
              ·
                unfold B_X7_cut_104
                refine zk_imp (s_B_X7_cut_109 _ _ RT42 (by (try dsimp only) <;> omega) (by (try dsimp only) <;> omega)) (fun v49 T50 h49 => ?_)
                obtain ⟨rfl, h49⟩ := h49
                exact ⟨RT42, FT42, trivial⟩
              ·
                unfold B_X7_cut_104
                refine zk_imp (s_B_X7_cut_109 _ _ RT42 (by (try dsimp only) <;> omega) (by (try dsimp only) <;> omega)) (fun v51 T52 h51 => ?_)
                obtain ⟨rfl, h51⟩ := h51
                exact ⟨RT42, FT42, trivial⟩
            ·
              exact zk_some ⟨RT42, FT42, trivial⟩
          ·
            refine zk_bd (s_F_X7_in _ _ _ _ RT6) (fun v53 T54 h53 => ?_)
            obtain ⟨rfl, h53⟩ := h53
            refine zk_eq (fun c55 => ?_) (fun c55 => ?_)
            ·
              unfold B_X7_cut_70
              unfold B_X7_cut_75
              refine zk_bd (s_F_X7_bad _ _ _ RT6 (by omega)) (fun v56 T57 h56 => ?_)
              obtain ⟨RT57, fT57, h56⟩ := h56
              have FT57 := FT6.tr (fT57.sub (m := 65536) (by decide))
              refine zk_eq (fun c58 => ?_) (fun c58 => ?_)
              ·
                refine zk_iv fun x59 e59 => ?_
                refine zk_iv fun x60 e60 => ?_
                have b61 := ti_bd x60
                have b62 := ti_bd p5
                refine zk_lt (fun c63 => ?_) (fun c63 => ?_)
                ·
                  unfold B_X7_cut_104
                  refine zk_imp (s_B_X7_cut_109 _ _ RT57 (by (try dsimp only) <;> omega) (by (try dsimp only) <;> omega)) (fun v64 T65 h64 => ?_)
                  obtain ⟨rfl, h64⟩ := h64
                  exact ⟨RT57, FT57, trivial⟩
                ·
                  unfold B_X7_cut_104
                  refine zk_imp (s_B_X7_cut_109 _ _ RT57 (by (try dsimp only) <;> omega) (by (try dsimp only) <;> omega)) (fun v66 T67 h66 => ?_)
                  obtain ⟨rfl, h66⟩ := h66
                  exact ⟨RT57, FT57, trivial⟩
              ·
                exact zk_some ⟨RT57, FT57, trivial⟩
            ·
              unfold B_X7_cut_75
              refine zk_bd (s_F_X7_bad _ _ _ RT6 (by omega)) (fun v68 T69 h68 => ?_)
              obtain ⟨RT69, fT69, h68⟩ := h68
              have FT69 := FT6.tr (fT69.sub (m := 65536) (by decide))
              refine zk_eq (fun c70 => ?_) (fun c70 => ?_)
              ·
                refine zk_iv fun x71 e71 => ?_
                refine zk_iv fun x72 e72 => ?_
                have b73 := ti_bd x72
                refine zk_lt (fun c74 => ?_) (fun c74 => ?_)
                ·
                  unfold B_X7_cut_104
                  refine zk_imp (s_B_X7_cut_109 _ _ RT69 (by (try dsimp only) <;> omega) (by (try dsimp only) <;> omega)) (fun v75 T76 h75 => ?_)
                  obtain ⟨rfl, h75⟩ := h75
                  exact ⟨RT69, FT69, trivial⟩
                ·
                  unfold B_X7_cut_104
                  refine zk_imp (s_B_X7_cut_109 _ _ RT69 (by (try dsimp only) <;> omega) (by (try dsimp only) <;> omega)) (fun v77 T78 h77 => ?_)
                  obtain ⟨rfl, h77⟩ := h77
                  exact ⟨RT69, FT69, trivial⟩
              ·
                exact zk_some ⟨RT69, FT69, trivial⟩
    ·
      exact zk_some ⟨RT6, FT6, trivial⟩
  ·
    unfold B_X7_cut_19
    refine zk_bd (s_F_X7_bad _ _ _ RS1 (by omega)) (fun v79 T80 h79 => ?_)
    obtain ⟨RT80, fT80, h79⟩ := h79
    have FT80 := FS1.tr (fT80.sub (m := 65536) (by decide))
    refine zk_eq (fun c81 => ?_) (fun c81 => ?_)
    ·
      refine zk_bd (s_F_X7_in _ _ _ _ RT80) (fun v82 T83 h82 => ?_)
      obtain ⟨rfl, h82⟩ := h82
      refine zk_eq (fun c84 => ?_) (fun c84 => ?_)
      ·
        unfold B_X7_cut_70
        unfold B_X7_cut_75
        refine zk_bd (s_F_X7_bad _ _ _ RT80 (by omega)) (fun v85 T86 h85 => ?_)
        obtain ⟨RT86, fT86, h85⟩ := h85
        have FT86 := FT80.tr (fT86.sub (m := 65536) (by decide))
        refine zk_eq (fun c87 => ?_) (fun c87 => ?_)
        ·
          refine zk_iv fun x88 e88 => ?_
          refine zk_iv fun x89 e89 => ?_
          have b90 := ti_bd x89
          have b91 := ti_bd p5
          refine zk_lt (fun c92 => ?_) (fun c92 => ?_)
          ·
            unfold B_X7_cut_104
            refine zk_imp (s_B_X7_cut_109 _ _ RT86 (by (try dsimp only) <;> omega) (by (try dsimp only) <;> omega)) (fun v93 T94 h93 => ?_)
            obtain ⟨rfl, h93⟩ := h93
            exact ⟨RT86, FT86, trivial⟩
          ·
            unfold B_X7_cut_104
            refine zk_imp (s_B_X7_cut_109 _ _ RT86 (by (try dsimp only) <;> omega) (by (try dsimp only) <;> omega)) (fun v95 T96 h95 => ?_)
            obtain ⟨rfl, h95⟩ := h95
            exact ⟨RT86, FT86, trivial⟩
        ·
          exact zk_some ⟨RT86, FT86, trivial⟩
      ·
        refine zk_bd (s_F_X7_in _ _ _ _ RT80) (fun v97 T98 h97 => ?_)
        obtain ⟨rfl, h97⟩ := h97
        refine zk_eq (fun c99 => ?_) (fun c99 => ?_)
        ·
          unfold B_X7_cut_70
          unfold B_X7_cut_75
          refine zk_bd (s_F_X7_bad _ _ _ RT80 (by omega)) (fun v100 T101 h100 => ?_)
          obtain ⟨RT101, fT101, h100⟩ := h100
          have FT101 := FT80.tr (fT101.sub (m := 65536) (by decide))
          refine zk_eq (fun c102 => ?_) (fun c102 => ?_)
          ·
            refine zk_iv fun x103 e103 => ?_
            refine zk_iv fun x104 e104 => ?_
            have b105 := ti_bd x104
            have b106 := ti_bd p5
            refine zk_lt (fun c107 => ?_) (fun c107 => ?_)
            ·
              unfold B_X7_cut_104
              refine zk_imp (s_B_X7_cut_109 _ _ RT101 (by (try dsimp only) <;> omega) (by (try dsimp only) <;> omega)) (fun v108 T109 h108 => ?_)
              obtain ⟨rfl, h108⟩ := h108
              exact ⟨RT101, FT101, trivial⟩
            ·
              unfold B_X7_cut_104
              refine zk_imp (s_B_X7_cut_109 _ _ RT101 (by (try dsimp only) <;> omega) (by (try dsimp only) <;> omega)) (fun v110 T111 h110 => ?_)
              obtain ⟨rfl, h110⟩ := h110
              exact ⟨RT101, FT101, trivial⟩
          ·
            exact zk_some ⟨RT101, FT101, trivial⟩
        ·
          refine zk_bd (s_F_X7_in _ _ _ _ RT80) (fun v112 T113 h112 => ?_)
          obtain ⟨rfl, h112⟩ := h112
          refine zk_eq (fun c114 => ?_) (fun c114 => ?_)
          ·
            unfold B_X7_cut_70
            unfold B_X7_cut_75
            refine zk_bd (s_F_X7_bad _ _ _ RT80 (by omega)) (fun v115 T116 h115 => ?_)
            obtain ⟨RT116, fT116, h115⟩ := h115
            have FT116 := FT80.tr (fT116.sub (m := 65536) (by decide))
            refine zk_eq (fun c117 => ?_) (fun c117 => ?_)
            ·
              refine zk_iv fun x118 e118 => ?_
              refine zk_iv fun x119 e119 => ?_
              have b120 := ti_bd x119
              have b121 := ti_bd p5
              refine zk_lt (fun c122 => ?_) (fun c122 => ?_)
              ·
                unfold B_X7_cut_104
                refine zk_imp (s_B_X7_cut_109 _ _ RT116 (by (try dsimp only) <;> omega) (by (try dsimp only) <;> omega)) (fun v123 T124 h123 => ?_)
                obtain ⟨rfl, h123⟩ := h123
                exact ⟨RT116, FT116, trivial⟩
              ·
                unfold B_X7_cut_104
                refine zk_imp (s_B_X7_cut_109 _ _ RT116 (by (try dsimp only) <;> omega) (by (try dsimp only) <;> omega)) (fun v125 T126 h125 => ?_)
                obtain ⟨rfl, h125⟩ := h125
                exact ⟨RT116, FT116, trivial⟩
            ·
              exact zk_some ⟨RT116, FT116, trivial⟩
          ·
            refine zk_bd (s_F_X7_in _ _ _ _ RT80) (fun v127 T128 h127 => ?_)
            obtain ⟨rfl, h127⟩ := h127
            refine zk_eq (fun c129 => ?_) (fun c129 => ?_)
            ·
              unfold B_X7_cut_70
              unfold B_X7_cut_75
              refine zk_bd (s_F_X7_bad _ _ _ RT80 (by omega)) (fun v130 T131 h130 => ?_)
              obtain ⟨RT131, fT131, h130⟩ := h130
              have FT131 := FT80.tr (fT131.sub (m := 65536) (by decide))
              refine zk_eq (fun c132 => ?_) (fun c132 => ?_)
              ·
                refine zk_iv fun x133 e133 => ?_
                refine zk_iv fun x134 e134 => ?_
                have b135 := ti_bd x134
                have b136 := ti_bd p5
                refine zk_lt (fun c137 => ?_) (fun c137 => ?_)
                ·
                  unfold B_X7_cut_104
                  refine zk_imp (s_B_X7_cut_109 _ _ RT131 (by (try dsimp only) <;> omega) (by (try dsimp only) <;> omega)) (fun v138 T139 h138 => ?_)
                  obtain ⟨rfl, h138⟩ := h138
                  exact ⟨RT131, FT131, trivial⟩
                ·
                  unfold B_X7_cut_104
                  refine zk_imp (s_B_X7_cut_109 _ _ RT131 (by (try dsimp only) <;> omega) (by (try dsimp only) <;> omega)) (fun v140 T141 h140 => ?_)
                  obtain ⟨rfl, h140⟩ := h140
                  exact ⟨RT131, FT131, trivial⟩
              ·
                exact zk_some ⟨RT131, FT131, trivial⟩
            ·
              unfold B_X7_cut_75
              refine zk_bd (s_F_X7_bad _ _ _ RT80 (by omega)) (fun v142 T143 h142 => ?_)
              obtain ⟨RT143, fT143, h142⟩ := h142
              have FT143 := FT80.tr (fT143.sub (m := 65536) (by decide))
              refine zk_eq (fun c144 => ?_) (fun c144 => ?_)
              ·
                refine zk_iv fun x145 e145 => ?_
                refine zk_iv fun x146 e146 => ?_
                have b147 := ti_bd x146
                refine zk_lt (fun c148 => ?_) (fun c148 => ?_)
                ·
                  unfold B_X7_cut_104
                  refine zk_imp (s_B_X7_cut_109 _ _ RT143 (by (try dsimp only) <;> omega) (by (try dsimp only) <;> omega)) (fun v149 T150 h149 => ?_)
                  obtain ⟨rfl, h149⟩ := h149
                  exact ⟨RT143, FT143, trivial⟩
                ·
                  unfold B_X7_cut_104
                  refine zk_imp (s_B_X7_cut_109 _ _ RT143 (by (try dsimp only) <;> omega) (by (try dsimp only) <;> omega)) (fun v151 T152 h151 => ?_)
                  obtain ⟨rfl, h151⟩ := h151
                  exact ⟨RT143, FT143, trivial⟩
              ·
                exact zk_some ⟨RT143, FT143, trivial⟩
    ·
      exact zk_some ⟨RT80, FT80, trivial⟩
theorem s_B_X7_lying_4  (z : Int32 × Int32 × Int32) (S : fS) (RS : RI S) (hi : 0 ≤ z.2.2.toInt ∧ z.2.2.toInt ≤ 24) (hm : (24 - z.2.2.toInt).toNat < 4294967296) : zk (lp (B_X7_lying_4) fuel z S) (fun v S9 => S = S9 ∧ True) := by
  have l0 : (0 : Int32).toInt = 0 := by decide
  have l1 : (1 : Int32).toInt = 1 := by decide
  have l21 : (21 : Int32).toInt = 21 := by decide
  have lo1 : (Int32.ofInt 1).toInt = 1 := by decide
  refine zk_lp (fun z S => RI S ∧ (0 ≤ z.2.2.toInt ∧ z.2.2.toInt ≤ 24)) (fun z S => (24 - z.2.2.toInt).toNat) (fun z S (v : Int32) S9 => S = S9 ∧ True) ?_ z S ⟨RS, hi⟩ hm
  clear RS hi hm
  intro k z S hI hk
  obtain ⟨RS, hI⟩ := hI
  obtain ⟨a1, a2, a3⟩ := z
  (try dsimp only at hI); (try dsimp only at hk); (try dsimp only)
  unfold B_X7_lying_4
  dsimp only
  refine zk_iv fun x1 e1 => ?_
  have gx1 : 0 ≤ x1.toInt ∧ x1.toInt ≤ 24 := by rw [e1]; exact RS 40 _ _
  refine zk_le (fun c2 => ?_) (fun c2 => ?_)
  ·
    exact zk_some ⟨rfl, trivial⟩
  ·
    have b3 := ti_bd a1
    refine zk_eq (fun c4 => ?_) (fun c4 => ?_)
    ·
      refine zk_gd ⟨by omega, by omega⟩ ?_
      refine zk_iv fun x5 e5 => ?_
      have gx5 : -2 ≤ x5.toInt ∧ x5.toInt ≤ 63 := by rw [e5]; exact RS 50 _ _
      refine zk_lt (fun c6 => ?_) (fun c6 => ?_)
      ·
        unfold B_X7_lying_50
        refine zk_iv fun x7 e7 => ?_
        have b8 := ti_bd a2
        have gx7 : x7.toInt = a2.toInt + (0 : Int32).toInt := by rw [e7]; exact ti_add (by omega) (by omega)
        refine zk_iv fun x9 e9 => ?_
        have gx9 : x9.toInt = a3.toInt + (Int32.ofInt 1).toInt := by rw [e9]; exact ti_add (by omega) (by omega)
        refine zk_imp (hk (a1, x7, x9) _ ⟨RS, (by (try dsimp only) <;> omega)⟩ (by (try dsimp only) <;> omega)) (fun v10 T11 h10 => ?_)
        obtain ⟨rfl, h10⟩ := h10
        exact ⟨rfl, trivial⟩
      ·
        unfold B_X7_lying_50
        refine zk_iv fun x12 e12 => ?_
        refine zk_iv fun x13 e13 => ?_
        have gx13 : x13.toInt = a3.toInt + (Int32.ofInt 1).toInt := by rw [e13]; exact ti_add (by omega) (by omega)
        refine zk_imp (hk (a1, x12, x13) _ ⟨RS, (by (try dsimp only) <;> omega)⟩ (by (try dsimp only) <;> omega)) (fun v14 T15 h14 => ?_)
        obtain ⟨rfl, h14⟩ := h14
        exact ⟨rfl, trivial⟩
    ·
      refine zk_gd ⟨by omega, by omega⟩ ?_
      refine zk_iv fun x16 e16 => ?_
      have gx16 : -2 ≤ x16.toInt ∧ x16.toInt ≤ 63 := by rw [e16]; exact RS 50 _ _
      refine zk_iv fun x17 e17 => ?_
      have b18 := ti_bd x17
      refine zk_eq (fun c19 => ?_) (fun c19 => ?_)
      ·
        unfold B_X7_lying_50
        refine zk_iv fun x20 e20 => ?_
        refine zk_iv fun x21 e21 => ?_
        have gx21 : x21.toInt = a3.toInt + (Int32.ofInt 1).toInt := by rw [e21]; exact ti_add (by omega) (by omega)
        refine zk_imp (hk (a1, x20, x21) _ ⟨RS, (by (try dsimp only) <;> omega)⟩ (by (try dsimp only) <;> omega)) (fun v22 T23 h22 => ?_)
        obtain ⟨rfl, h22⟩ := h22
        exact ⟨rfl, trivial⟩
      ·
        unfold B_X7_lying_50
        refine zk_iv fun x24 e24 => ?_
        have b25 := ti_bd a2
        have gx24 : x24.toInt = a2.toInt + (0 : Int32).toInt := by rw [e24]; exact ti_add (by omega) (by omega)
        refine zk_iv fun x26 e26 => ?_
        have gx26 : x26.toInt = a3.toInt + (Int32.ofInt 1).toInt := by rw [e26]; exact ti_add (by omega) (by omega)
        refine zk_imp (hk (a1, x24, x26) _ ⟨RS, (by (try dsimp only) <;> omega)⟩ (by (try dsimp only) <;> omega)) (fun v27 T28 h27 => ?_)
        obtain ⟨rfl, h27⟩ := h27
        exact ⟨rfl, trivial⟩
theorem s_F_X7_lying (p1 : Int32) (S0 : fS) (RS0 : RI S0) : zk (F_X7_lying p1 S0) (fun v S9 => S0 = S9 ∧ True) := by
  have l0 : (0 : Int32).toInt = 0 := by decide
  unfold F_X7_lying
  refine zk_imp (s_B_X7_lying_4 _ _ RS0 (by (try dsimp only) <;> omega) (by (try dsimp only) <;> omega)) (fun v1 T2 h1 => ?_)
  obtain ⟨rfl, h1⟩ := h1
  exact ⟨rfl, trivial⟩
theorem s_F_X7_count (p1 : Int32) (S0 : fS) (RS0 : RI S0) : zk (F_X7_count p1 S0) (fun v S9 => RI S9 ∧ Fr 65536 S0 S9 ∧ True) := by
  have lm1 : (-1 : Int32).toInt = -1 := by decide
  have l0 : (0 : Int32).toInt = 0 := by decide
  have l1 : (1 : Int32).toInt = 1 := by decide
  have l2 : (2 : Int32).toInt = 2 := by decide
  have l13 : (13 : Int32).toInt = 13 := by decide
  have l14 : (14 : Int32).toInt = 14 := by decide
  have l21 : (21 : Int32).toInt = 21 := by decide
  have l34 : (34 : Int32).toInt = 34 := by decide
  have l35 : (35 : Int32).toInt = 35 := by decide
  have l36 : (36 : Int32).toInt = 36 := by decide
  have l37 : (37 : Int32).toInt = 37 := by decide
  have l38 : (38 : Int32).toInt = 38 := by decide
  have l48 : (48 : Int32).toInt = 48 := by decide
  have l56 : (56 : Int32).toInt = 56 := by decide
  have FS0 : Fr 65536 S0 S0 := Fr.rf
  unfold F_X7_count
  refine zk_sv fun S1 E1 => ?_
  have RS1 : RI S1 := by rw [E1]; exact RS0.wf rfl
  have FS1 : Fr 65536 S0 S1 := by rw [E1]; exact FS0.wr (k := 16) rfl rfl
  refine zk_bb (fun c2 => ?_) (fun c2 => ?_)
  ·
    refine zk_iv fun x3 e3 => ?_
    have gx3 : 0 ≤ x3.toInt ∧ x3.toInt ≤ 24 := by rw [e3]; exact RS1 40 _ _
    exact zk_some ⟨RS1, FS1, trivial⟩
  ·
    refine zk_bb (fun c4 => ?_) (fun c4 => ?_)
    ·
      refine zk_bd (s_F_X7_lying _ _ RS1) (fun v5 T6 h5 => ?_)
      obtain ⟨rfl, h5⟩ := h5
      exact zk_some ⟨RS1, FS1, trivial⟩
    ·
      refine zk_bb (fun c7 => ?_) (fun c7 => ?_)
      ·
        refine zk_bd (s_F_X7_lying _ _ RS1) (fun v8 T9 h8 => ?_)
        obtain ⟨rfl, h8⟩ := h8
        exact zk_some ⟨RS1, FS1, trivial⟩
      ·
        refine zk_bb (fun c10 => ?_) (fun c10 => ?_)
        ·
          refine zk_bd (s_F_X7_lying _ _ RS1) (fun v11 T12 h11 => ?_)
          obtain ⟨rfl, h11⟩ := h11
          exact zk_some ⟨RS1, FS1, trivial⟩
        ·
          refine zk_bb (fun c13 => ?_) (fun c13 => ?_)
          ·
            refine zk_iv fun x14 e14 => ?_
            exact zk_some ⟨RS1, FS1, trivial⟩
          ·
            refine zk_bb (fun c15 => ?_) (fun c15 => ?_)
            ·
              refine zk_iv fun x16 e16 => ?_
              refine zk_iv fun x17 e17 => ?_
              exact zk_some ⟨RS1, FS1, trivial⟩
            ·
              refine zk_bb (fun c18 => ?_) (fun c18 => ?_)
              ·
                refine zk_iv fun x19 e19 => ?_
                exact zk_some ⟨RS1, FS1, trivial⟩
              ·
                refine zk_bb (fun c20 => ?_) (fun c20 => ?_)
                ·
                  refine zk_iv fun x21 e21 => ?_
                  exact zk_some ⟨RS1, FS1, trivial⟩
                ·
                  refine zk_bb (fun c22 => ?_) (fun c22 => ?_)
                  ·
                    refine zk_iv fun x23 e23 => ?_
                    have gx23 : 0 ≤ x23.toInt ∧ x23.toInt ≤ 6 := by rw [e23]; exact RS1 40 _ _
                    exact zk_some ⟨RS1, FS1, trivial⟩
                  ·
                    refine zk_bb (fun c24 => ?_) (fun c24 => ?_)
                    ·
                      refine zk_iv fun x25 e25 => ?_
                      have gx25 : 0 ≤ x25.toInt ∧ x25.toInt ≤ 3 := by rw [e25]; exact RS1 40 _ _
                      exact zk_some ⟨RS1, FS1, trivial⟩
                    ·
                      refine zk_bb (fun c26 => ?_) (fun c26 => ?_)
                      ·
                        refine zk_iv fun x27 e27 => ?_
                        have gx27 : 0 ≤ x27.toInt ∧ x27.toInt ≤ 6 := by rw [e27]; exact RS1 40 _ _
                        exact zk_some ⟨RS1, FS1, trivial⟩
                      ·
                        refine zk_bb (fun c28 => ?_) (fun c28 => ?_)
                        ·
                          refine zk_iv fun x29 e29 => ?_
                          have gx29 : 0 ≤ x29.toInt ∧ x29.toInt ≤ 3 := by rw [e29]; exact RS1 40 _ _
                          exact zk_some ⟨RS1, FS1, trivial⟩
                        ·
                          refine zk_bb (fun c30 => ?_) (fun c30 => ?_)
                          ·
                            refine zk_iv fun x31 e31 => ?_
                            have gx31 : 0 ≤ x31.toInt ∧ x31.toInt ≤ 300 := by rw [e31]; exact RS1 40 _ _
                            exact zk_some ⟨RS1, FS1, trivial⟩
                          ·
                            refine zk_bb (fun c32 => ?_) (fun c32 => ?_)
                            ·
                              refine zk_iv fun x33 e33 => ?_
                              exact zk_some ⟨RS1, FS1, trivial⟩
                            ·
                              exact zk_some ⟨RS1, FS1, trivial⟩
theorem s_F_X7_tells (p1 : Int32) (p2 : Int32) (S0 : fS) (RS0 : RI S0) : zk (F_X7_tells p1 p2 S0) (fun v S9 => RI S9 ∧ Fr 13455392768 S0 S9 ∧ True) := by
  have l0 : (0 : Int32).toInt = 0 := by decide
  have l1 : (1 : Int32).toInt = 1 := by decide
  have l2 : (2 : Int32).toInt = 2 := by decide
  have l15 : (15 : Int32).toInt = 15 := by decide
  have l18 : (18 : Int32).toInt = 18 := by decide
  have l19 : (19 : Int32).toInt = 19 := by decide
  have l35 : (35 : Int32).toInt = 35 := by decide
  have FS0 : Fr 13455392768 S0 S0 := Fr.rf
  unfold F_X7_tells
  refine zk_sv fun S1 E1 => ?_
  have RS1 : RI S1 := by rw [E1]; exact RS0.wf rfl
  have FS1 : Fr 13455392768 S0 S1 := by rw [E1]; exact FS0.wr (k := 16) rfl rfl
  refine zk_bd (s_F_X7_in _ _ _ _ RS1) (fun v2 T3 h2 => ?_)
  obtain ⟨rfl, h2⟩ := h2
  refine zk_eq (fun c4 => ?_) (fun c4 => ?_)
  ·
    unfold B_X7_tells_25
    unfold B_X7_tells_30
    refine zk_bd (s_F_X7_bad _ _ _ RS1 (by omega)) (fun v5 T6 h5 => ?_)
    obtain ⟨RT6, fT6, h5⟩ := h5
    have FT6 := FS1.tr (fT6.sub (m := 13455392768) (by decide))
    refine zk_eq (fun c7 => ?_) (fun c7 => ?_)
    ·
      refine zk_bd (s_F_X7_namesOf _ _ RT6) (fun v8 T9 h8 => ?_)
      obtain ⟨RT9, fT9, h8⟩ := h8
      have FT9 := FT6.tr (fT9.sub (m := 13455392768) (by decide))
      have b10 := ti_bd p1
      refine zk_eq (fun c11 => ?_) (fun c11 => ?_)
      ·
        refine zk_iv fun x12 e12 => ?_
        have gx12 : -1 ≤ x12.toInt ∧ x12.toInt ≤ 5 := by rw [e12]; exact RT9 40 _ _
        refine zk_bd (s_F_X7_lotsBy _ _ RT9 (by omega)) (fun v13 T14 h13 => ?_)
        obtain ⟨RT14, fT14, h13⟩ := h13
        have FT14 := FT9.tr (fT14.sub (m := 13455392768) (by decide))
        exact zk_some ⟨RT14, FT14, trivial⟩
      ·
        refine zk_iv fun x15 e15 => ?_
        have gx15 : -1 ≤ x15.toInt ∧ x15.toInt ≤ 5 := by rw [e15]; exact RT9 40 _ _
        refine zk_bd (s_F_X7_tellsBy _ _ _ RT9 (by omega)) (fun v16 T17 h16 => ?_)
        obtain ⟨RT17, fT17, h16⟩ := h16
        have FT17 := FT9.tr (fT17.sub (m := 13455392768) (by decide))
        refine zk_eq (fun c18 => ?_) (fun c18 => ?_)
        ·
          refine zk_iv fun x19 e19 => ?_
          exact zk_some ⟨RT17, FT17, trivial⟩
        ·
          refine zk_iv fun x20 e20 => ?_
          exact zk_some ⟨RT17, FT17, trivial⟩
    ·
      exact zk_some ⟨RT6, FT6, trivial⟩
  ·
    refine zk_bd (s_F_X7_in _ _ _ _ RS1) (fun v21 T22 h21 => ?_)
    obtain ⟨rfl, h21⟩ := h21
    refine zk_eq (fun c23 => ?_) (fun c23 => ?_)
    ·
      unfold B_X7_tells_25
      unfold B_X7_tells_30
      refine zk_bd (s_F_X7_bad _ _ _ RS1 (by omega)) (fun v24 T25 h24 => ?_)
      obtain ⟨RT25, fT25, h24⟩ := h24
      have FT25 := FS1.tr (fT25.sub (m := 13455392768) (by decide))
      refine zk_eq (fun c26 => ?_) (fun c26 => ?_)
      ·
        refine zk_bd (s_F_X7_namesOf _ _ RT25) (fun v27 T28 h27 => ?_)
        obtain ⟨RT28, fT28, h27⟩ := h27
        have FT28 := FT25.tr (fT28.sub (m := 13455392768) (by decide))
        refine zk_eq (fun c29 => ?_) (fun c29 => ?_)
        ·
          refine zk_iv fun x30 e30 => ?_
          have gx30 : -1 ≤ x30.toInt ∧ x30.toInt ≤ 5 := by rw [e30]; exact RT28 40 _ _
          refine zk_bd (s_F_X7_lotsBy _ _ RT28 (by omega)) (fun v31 T32 h31 => ?_)
          obtain ⟨RT32, fT32, h31⟩ := h31
          have FT32 := FT28.tr (fT32.sub (m := 13455392768) (by decide))
          exact zk_some ⟨RT32, FT32, trivial⟩
        ·
          refine zk_iv fun x33 e33 => ?_
          have gx33 : -1 ≤ x33.toInt ∧ x33.toInt ≤ 5 := by rw [e33]; exact RT28 40 _ _
          refine zk_bd (s_F_X7_tellsBy _ _ _ RT28 (by omega)) (fun v34 T35 h34 => ?_)
          obtain ⟨RT35, fT35, h34⟩ := h34
          have FT35 := FT28.tr (fT35.sub (m := 13455392768) (by decide))
          refine zk_eq (fun c36 => ?_) (fun c36 => ?_)
          ·
            refine zk_iv fun x37 e37 => ?_
            exact zk_some ⟨RT35, FT35, trivial⟩
          ·
            refine zk_iv fun x38 e38 => ?_
            exact zk_some ⟨RT35, FT35, trivial⟩
      ·
        exact zk_some ⟨RT25, FT25, trivial⟩
    ·
      unfold B_X7_tells_30
      refine zk_bd (s_F_X7_bad _ _ _ RS1 (by omega)) (fun v39 T40 h39 => ?_)
      obtain ⟨RT40, fT40, h39⟩ := h39
      have FT40 := FS1.tr (fT40.sub (m := 13455392768) (by decide))
      refine zk_eq (fun c41 => ?_) (fun c41 => ?_)
      ·
        refine zk_bd (s_F_X7_namesOf _ _ RT40) (fun v42 T43 h42 => ?_)
        obtain ⟨RT43, fT43, h42⟩ := h42
        have FT43 := FT40.tr (fT43.sub (m := 13455392768) (by decide))
        refine zk_eq (fun c44 => ?_) (fun c44 => ?_)
        ·
          refine zk_iv fun x45 e45 => ?_
          have gx45 : -1 ≤ x45.toInt ∧ x45.toInt ≤ 5 := by rw [e45]; exact RT43 40 _ _
          refine zk_bd (s_F_X7_lotsBy _ _ RT43 (by omega)) (fun v46 T47 h46 => ?_)
          obtain ⟨RT47, fT47, h46⟩ := h46
          have FT47 := FT43.tr (fT47.sub (m := 13455392768) (by decide))
          exact zk_some ⟨RT47, FT47, trivial⟩
        ·
          refine zk_iv fun x48 e48 => ?_
          have gx48 : -1 ≤ x48.toInt ∧ x48.toInt ≤ 5 := by rw [e48]; exact RT43 40 _ _
          refine zk_bd (s_F_X7_tellsBy _ _ _ RT43 (by omega)) (fun v49 T50 h49 => ?_)
          obtain ⟨RT50, fT50, h49⟩ := h49
          have FT50 := FT43.tr (fT50.sub (m := 13455392768) (by decide))
          refine zk_eq (fun c51 => ?_) (fun c51 => ?_)
          ·
            refine zk_iv fun x52 e52 => ?_
            exact zk_some ⟨RT50, FT50, trivial⟩
          ·
            refine zk_iv fun x53 e53 => ?_
            exact zk_some ⟨RT50, FT50, trivial⟩
      ·
        exact zk_some ⟨RT40, FT40, trivial⟩
theorem s_B_X7_feed_23  (z : Int32 × Int32 × Int32 × Int32 × Int32 × Int32) (S : fS) (RS : RI S) (hi : 0 ≤ z.2.2.2.2.2.toInt ∧ z.2.2.2.2.2.toInt ≤ 20 ∧ (ge S 40 0 1).toInt ≤ 280 + z.2.2.2.2.2.toInt) (hm : (20 - z.2.2.2.2.2.toInt).toNat < 4294967296) : zk (lp (B_X7_feed_23) fuel z S) (fun v S9 => RI S9 ∧ Fr 33685504 S S9 ∧ ((ge S9 40 0 1).toInt = (ge S 40 0 1).toInt + (20 - z.2.2.2.2.2.toInt) ∧ v.toInt = (ge S9 40 0 1).toInt)) := by
  have l0 : (0 : Int32).toInt = 0 := by decide
  have l1 : (1 : Int32).toInt = 1 := by decide
  have l4 : (4 : Int32).toInt = 4 := by decide
  have l8 : (8 : Int32).toInt = 8 := by decide
  have l12 : (12 : Int32).toInt = 12 := by decide
  have l16 : (16 : Int32).toInt = 16 := by decide
  have l20 : (20 : Int32).toInt = 20 := by decide
  have l24 : (24 : Int32).toInt = 24 := by decide
  have lo1 : (Int32.ofInt 1).toInt = 1 := by decide
  refine zk_lp (fun z S => RI S ∧ (0 ≤ z.2.2.2.2.2.toInt ∧ z.2.2.2.2.2.toInt ≤ 20 ∧ (ge S 40 0 1).toInt ≤ 280 + z.2.2.2.2.2.toInt)) (fun z S => (20 - z.2.2.2.2.2.toInt).toNat) (fun z S (v : Int32) S9 => RI S9 ∧ Fr 33685504 S S9 ∧ ((ge S9 40 0 1).toInt = (ge S 40 0 1).toInt + (20 - z.2.2.2.2.2.toInt) ∧ v.toInt = (ge S9 40 0 1).toInt)) ?_ z S ⟨RS, hi⟩ hm
  clear RS hi hm
  intro k z S hI hk
  obtain ⟨RS, hI⟩ := hI
  obtain ⟨a1, a2, a3, a4, a5, a6⟩ := z
  (try dsimp only at hI); (try dsimp only at hk); (try dsimp only)
  have FS : Fr 33685504 S S := Fr.rf
  unfold B_X7_feed_23
  dsimp only
  obtain ⟨y1, ey1⟩ : ∃ y : Int32, y = ge S 40 0 1 := ⟨_, rfl⟩
  have gy1 : 0 ≤ y1.toInt ∧ y1.toInt ≤ 300 := by rw [ey1]; exact RS 40 _ _
  have q2 : (ge S 40 0 1).toInt = y1.toInt := congrArg Int32.toInt (show ge S 40 0 1 = y1 from ey1.symm)
  refine zk_le (fun c3 => ?_) (fun c3 => ?_)
  ·
    refine zk_ivq (x := y1) ey1.symm ?_
    have q4 : (ge S 40 0 1).toInt = y1.toInt := congrArg Int32.toInt (show ge S 40 0 1 = y1 from ey1.symm)
    exact zk_some ⟨RS, FS, by omega⟩
  ·
    refine zk_le (fun c5 => ?_) (fun c5 => ?_)
    ·
      refine zk_le (fun c6 => ?_) (fun c6 => ?_)
      ·
        refine zk_le (fun c7 => ?_) (fun c7 => ?_)
        ·
          refine zk_le (fun c8 => ?_) (fun c8 => ?_)
          ·
            unfold B_X7_feed_76
            refine zk_ivq (x := y1) ey1.symm ?_
            refine zk_iv fun x9 e9 => ?_
            have gx9 : 0 ≤ x9.toInt ∧ x9.toInt < 4 := by rw [e9]; exact ti_mod (c := 4) (by decide) (by decide) (by omega)
            refine zk_iv fun x10 e10 => ?_
            have gx10 : x10.toInt = (8 : Int32).toInt * x9.toInt := by rw [e10]; exact ti_mul (by rw [l8]; omega) (by rw [l8]; omega)
            rw [l8] at gx10
            refine zk_iv fun x11 e11 => ?_
            have gx11 : x11.toInt = (24 : Int32).toInt - x10.toInt := by rw [e11]; exact ti_sub (by omega) (by omega)
            refine zk_iv fun x12 e12 => ?_
            refine zk_iv fun x13 e13 => ?_
            have gx13 : 0 ≤ x13.toInt ∧ x13.toInt ≤ 255 := by rw [e13]; exact ti_and255 _
            refine zk_gd ⟨by omega, by omega⟩ ?_
            refine zk_sv fun S14 E14 => ?_
            have RS14 : RI S14 := by rw [E14]; exact RS.wr (show (0 : Int) ≤ x13.toInt by omega) (show x13.toInt ≤ 255 by omega)
            have FS14 : Fr 33685504 S S14 := by rw [E14]; exact FS.wr (k := 25) rfl rfl
            refine zk_ivq (x := y1) (by rw [E14]; exact (ge_pua (by decide)).trans ey1.symm) ?_
            refine zk_iv fun x15 e15 => ?_
            have gx15 : x15.toInt = y1.toInt + (1 : Int32).toInt := by rw [e15]; exact ti_add (by omega) (by omega)
            refine zk_sv fun S16 E16 => ?_
            have RS16 : RI S16 := by rw [E16]; exact RS14.wr (show (0 : Int) ≤ x15.toInt by omega) (show x15.toInt ≤ 300 by omega)
            have FS16 : Fr 33685504 S S16 := by rw [E16]; exact FS14.wr (k := 17) rfl rfl
            refine zk_iv fun x17 e17 => ?_
            have gx17 : x17.toInt = a6.toInt + (Int32.ofInt 1).toInt := by rw [e17]; exact ti_add (by omega) (by omega)
            have q18 : (ge S16 40 0 1).toInt = x15.toInt := congrArg Int32.toInt (show ge S16 40 0 1 = x15 from (by rw [E16]; exact ge_pus))
            refine zk_imp (hk (a1, a2, a3, a4, a5, x17) _ ⟨RS16, (by (try dsimp only) <;> omega)⟩ (by (try dsimp only) <;> omega)) (fun v19 T20 h19 => ?_)
            obtain ⟨RT20, FT20, h19⟩ := h19
            try dsimp only at h19
            exact ⟨RT20, FS16.tr FT20, by omega⟩
          ·
            unfold B_X7_feed_76
            refine zk_ivq (x := y1) ey1.symm ?_
            refine zk_iv fun x21 e21 => ?_
            have gx21 : 0 ≤ x21.toInt ∧ x21.toInt < 4 := by rw [e21]; exact ti_mod (c := 4) (by decide) (by decide) (by omega)
            refine zk_iv fun x22 e22 => ?_
            have gx22 : x22.toInt = (8 : Int32).toInt * x21.toInt := by rw [e22]; exact ti_mul (by rw [l8]; omega) (by rw [l8]; omega)
            rw [l8] at gx22
            refine zk_iv fun x23 e23 => ?_
            have gx23 : x23.toInt = (24 : Int32).toInt - x22.toInt := by rw [e23]; exact ti_sub (by omega) (by omega)
            refine zk_iv fun x24 e24 => ?_
            refine zk_iv fun x25 e25 => ?_
            have gx25 : 0 ≤ x25.toInt ∧ x25.toInt ≤ 255 := by rw [e25]; exact ti_and255 _
            refine zk_gd ⟨by omega, by omega⟩ ?_
            refine zk_sv fun S26 E26 => ?_
            have RS26 : RI S26 := by rw [E26]; exact RS.wr (show (0 : Int) ≤ x25.toInt by omega) (show x25.toInt ≤ 255 by omega)
            have FS26 : Fr 33685504 S S26 := by rw [E26]; exact FS.wr (k := 25) rfl rfl
            refine zk_ivq (x := y1) (by rw [E26]; exact (ge_pua (by decide)).trans ey1.symm) ?_
            refine zk_iv fun x27 e27 => ?_
            have gx27 : x27.toInt = y1.toInt + (1 : Int32).toInt := by rw [e27]; exact ti_add (by omega) (by omega)
            refine zk_sv fun S28 E28 => ?_
            have RS28 : RI S28 := by rw [E28]; exact RS26.wr (show (0 : Int) ≤ x27.toInt by omega) (show x27.toInt ≤ 300 by omega)
            have FS28 : Fr 33685504 S S28 := by rw [E28]; exact FS26.wr (k := 17) rfl rfl
            refine zk_iv fun x29 e29 => ?_
            have gx29 : x29.toInt = a6.toInt + (Int32.ofInt 1).toInt := by rw [e29]; exact ti_add (by omega) (by omega)
            have q30 : (ge S28 40 0 1).toInt = x27.toInt := congrArg Int32.toInt (show ge S28 40 0 1 = x27 from (by rw [E28]; exact ge_pus))
            refine zk_imp (hk (a1, a2, a3, a4, a5, x29) _ ⟨RS28, (by (try dsimp only) <;> omega)⟩ (by (try dsimp only) <;> omega)) (fun v31 T32 h31 => ?_)
            obtain ⟨RT32, FT32, h31⟩ := h31
            try dsimp only at h31
            exact ⟨RT32, FS28.tr FT32, by omega⟩
        ·
          unfold B_X7_feed_76
          refine zk_ivq (x := y1) ey1.symm ?_
          refine zk_iv fun x33 e33 => ?_
          have gx33 : 0 ≤ x33.toInt ∧ x33.toInt < 4 := by rw [e33]; exact ti_mod (c := 4) (by decide) (by decide) (by omega)
          refine zk_iv fun x34 e34 => ?_
          have gx34 : x34.toInt = (8 : Int32).toInt * x33.toInt := by rw [e34]; exact ti_mul (by rw [l8]; omega) (by rw [l8]; omega)
          rw [l8] at gx34
          refine zk_iv fun x35 e35 => ?_
          have gx35 : x35.toInt = (24 : Int32).toInt - x34.toInt := by rw [e35]; exact ti_sub (by omega) (by omega)
          refine zk_iv fun x36 e36 => ?_
          refine zk_iv fun x37 e37 => ?_
          have gx37 : 0 ≤ x37.toInt ∧ x37.toInt ≤ 255 := by rw [e37]; exact ti_and255 _
          refine zk_gd ⟨by omega, by omega⟩ ?_
          refine zk_sv fun S38 E38 => ?_
          have RS38 : RI S38 := by rw [E38]; exact RS.wr (show (0 : Int) ≤ x37.toInt by omega) (show x37.toInt ≤ 255 by omega)
          have FS38 : Fr 33685504 S S38 := by rw [E38]; exact FS.wr (k := 25) rfl rfl
          refine zk_ivq (x := y1) (by rw [E38]; exact (ge_pua (by decide)).trans ey1.symm) ?_
          refine zk_iv fun x39 e39 => ?_
          have gx39 : x39.toInt = y1.toInt + (1 : Int32).toInt := by rw [e39]; exact ti_add (by omega) (by omega)
          refine zk_sv fun S40 E40 => ?_
          have RS40 : RI S40 := by rw [E40]; exact RS38.wr (show (0 : Int) ≤ x39.toInt by omega) (show x39.toInt ≤ 300 by omega)
          have FS40 : Fr 33685504 S S40 := by rw [E40]; exact FS38.wr (k := 17) rfl rfl
          refine zk_iv fun x41 e41 => ?_
          have gx41 : x41.toInt = a6.toInt + (Int32.ofInt 1).toInt := by rw [e41]; exact ti_add (by omega) (by omega)
          have q42 : (ge S40 40 0 1).toInt = x39.toInt := congrArg Int32.toInt (show ge S40 40 0 1 = x39 from (by rw [E40]; exact ge_pus))
          refine zk_imp (hk (a1, a2, a3, a4, a5, x41) _ ⟨RS40, (by (try dsimp only) <;> omega)⟩ (by (try dsimp only) <;> omega)) (fun v43 T44 h43 => ?_)
          obtain ⟨RT44, FT44, h43⟩ := h43
          try dsimp only at h43
          exact ⟨RT44, FS40.tr FT44, by omega⟩
      ·
        unfold B_X7_feed_76
        refine zk_ivq (x := y1) ey1.symm ?_
        refine zk_iv fun x45 e45 => ?_
        have gx45 : 0 ≤ x45.toInt ∧ x45.toInt < 4 := by rw [e45]; exact ti_mod (c := 4) (by decide) (by decide) (by omega)
        refine zk_iv fun x46 e46 => ?_
        have gx46 : x46.toInt = (8 : Int32).toInt * x45.toInt := by rw [e46]; exact ti_mul (by rw [l8]; omega) (by rw [l8]; omega)
        rw [l8] at gx46
        refine zk_iv fun x47 e47 => ?_
        have gx47 : x47.toInt = (24 : Int32).toInt - x46.toInt := by rw [e47]; exact ti_sub (by omega) (by omega)
        refine zk_iv fun x48 e48 => ?_
        refine zk_iv fun x49 e49 => ?_
        have gx49 : 0 ≤ x49.toInt ∧ x49.toInt ≤ 255 := by rw [e49]; exact ti_and255 _
        refine zk_gd ⟨by omega, by omega⟩ ?_
        refine zk_sv fun S50 E50 => ?_
        have RS50 : RI S50 := by rw [E50]; exact RS.wr (show (0 : Int) ≤ x49.toInt by omega) (show x49.toInt ≤ 255 by omega)
        have FS50 : Fr 33685504 S S50 := by rw [E50]; exact FS.wr (k := 25) rfl rfl
        refine zk_ivq (x := y1) (by rw [E50]; exact (ge_pua (by decide)).trans ey1.symm) ?_
        refine zk_iv fun x51 e51 => ?_
        have gx51 : x51.toInt = y1.toInt + (1 : Int32).toInt := by rw [e51]; exact ti_add (by omega) (by omega)
        refine zk_sv fun S52 E52 => ?_
        have RS52 : RI S52 := by rw [E52]; exact RS50.wr (show (0 : Int) ≤ x51.toInt by omega) (show x51.toInt ≤ 300 by omega)
        have FS52 : Fr 33685504 S S52 := by rw [E52]; exact FS50.wr (k := 17) rfl rfl
        refine zk_iv fun x53 e53 => ?_
        have gx53 : x53.toInt = a6.toInt + (Int32.ofInt 1).toInt := by rw [e53]; exact ti_add (by omega) (by omega)
        have q54 : (ge S52 40 0 1).toInt = x51.toInt := congrArg Int32.toInt (show ge S52 40 0 1 = x51 from (by rw [E52]; exact ge_pus))
        refine zk_imp (hk (a1, a2, a3, a4, a5, x53) _ ⟨RS52, (by (try dsimp only) <;> omega)⟩ (by (try dsimp only) <;> omega)) (fun v55 T56 h55 => ?_)
        obtain ⟨RT56, FT56, h55⟩ := h55
        try dsimp only at h55
        exact ⟨RT56, FS52.tr FT56, by omega⟩
    ·
      unfold B_X7_feed_76
      refine zk_ivq (x := y1) ey1.symm ?_
      refine zk_iv fun x57 e57 => ?_
      have gx57 : 0 ≤ x57.toInt ∧ x57.toInt < 4 := by rw [e57]; exact ti_mod (c := 4) (by decide) (by decide) (by omega)
      refine zk_iv fun x58 e58 => ?_
      have gx58 : x58.toInt = (8 : Int32).toInt * x57.toInt := by rw [e58]; exact ti_mul (by rw [l8]; omega) (by rw [l8]; omega)
      rw [l8] at gx58
      refine zk_iv fun x59 e59 => ?_
      have gx59 : x59.toInt = (24 : Int32).toInt - x58.toInt := by rw [e59]; exact ti_sub (by omega) (by omega)
      refine zk_iv fun x60 e60 => ?_
      refine zk_iv fun x61 e61 => ?_
      have gx61 : 0 ≤ x61.toInt ∧ x61.toInt ≤ 255 := by rw [e61]; exact ti_and255 _
      refine zk_gd ⟨by omega, by omega⟩ ?_
      refine zk_sv fun S62 E62 => ?_
      have RS62 : RI S62 := by rw [E62]; exact RS.wr (show (0 : Int) ≤ x61.toInt by omega) (show x61.toInt ≤ 255 by omega)
      have FS62 : Fr 33685504 S S62 := by rw [E62]; exact FS.wr (k := 25) rfl rfl
      refine zk_ivq (x := y1) (by rw [E62]; exact (ge_pua (by decide)).trans ey1.symm) ?_
      refine zk_iv fun x63 e63 => ?_
      have gx63 : x63.toInt = y1.toInt + (1 : Int32).toInt := by rw [e63]; exact ti_add (by omega) (by omega)
      refine zk_sv fun S64 E64 => ?_
      have RS64 : RI S64 := by rw [E64]; exact RS62.wr (show (0 : Int) ≤ x63.toInt by omega) (show x63.toInt ≤ 300 by omega)
      have FS64 : Fr 33685504 S S64 := by rw [E64]; exact FS62.wr (k := 17) rfl rfl
      refine zk_iv fun x65 e65 => ?_
      have gx65 : x65.toInt = a6.toInt + (Int32.ofInt 1).toInt := by rw [e65]; exact ti_add (by omega) (by omega)
      have q66 : (ge S64 40 0 1).toInt = x63.toInt := congrArg Int32.toInt (show ge S64 40 0 1 = x63 from (by rw [E64]; exact ge_pus))
      refine zk_imp (hk (a1, a2, a3, a4, a5, x65) _ ⟨RS64, (by (try dsimp only) <;> omega)⟩ (by (try dsimp only) <;> omega)) (fun v67 T68 h67 => ?_)
      obtain ⟨RT68, FT68, h67⟩ := h67
      try dsimp only at h67
      exact ⟨RT68, FS64.tr FT68, by omega⟩
theorem s_F_X7_feed (p1 : Int32) (p2 : Int32) (p3 : Int32) (p4 : Int32) (p5 : Int32) (S0 : fS) (RS0 : RI S0) : zk (F_X7_feed p1 p2 p3 p4 p5 S0) (fun v S9 => RI S9 ∧ Fr 33751040 S0 S9 ∧ (((ge S0 40 0 1).toInt + 20 ≤ 300 ∧ (ge S9 40 0 1).toInt = (ge S0 40 0 1).toInt + 20 ∧ v.toInt = (ge S0 40 0 1).toInt + 20) ∨ (300 < (ge S0 40 0 1).toInt + 20 ∧ (ge S9 40 0 1).toInt = (ge S0 40 0 1).toInt ∧ v.toInt = -1))) := by
  have lm1 : (-1 : Int32).toInt = -1 := by decide
  have l0 : (0 : Int32).toInt = 0 := by decide
  have l1 : (1 : Int32).toInt = 1 := by decide
  have l20 : (20 : Int32).toInt = 20 := by decide
  have l300 : (300 : Int32).toInt = 300 := by decide
  have FS0 : Fr 33751040 S0 S0 := Fr.rf
  unfold F_X7_feed
  obtain ⟨y1, ey1⟩ : ∃ y : Int32, y = ge S0 40 0 1 := ⟨_, rfl⟩
  have gy1 : 0 ≤ y1.toInt ∧ y1.toInt ≤ 300 := by rw [ey1]; exact RS0 40 _ _
  have q2 : (ge S0 40 0 1).toInt = y1.toInt := congrArg Int32.toInt (show ge S0 40 0 1 = y1 from ey1.symm)
  refine zk_sv fun S3 E3 => ?_
  have RS3 : RI S3 := by rw [E3]; exact RS0.wf rfl
  have FS3 : Fr 33751040 S0 S3 := by rw [E3]; exact FS0.wr (k := 16) rfl rfl
  refine zk_ivq (x := y1) (by rw [E3]; exact (ge_puj (by decide)).trans ey1.symm) ?_
  refine zk_iv fun x4 e4 => ?_
  have gx4 : x4.toInt = y1.toInt + (20 : Int32).toInt := by rw [e4]; exact ti_add (by omega) (by omega)
  refine zk_le (fun c5 => ?_) (fun c5 => ?_)
  ·
    have q6 : (ge S3 40 0 1).toInt = y1.toInt := congrArg Int32.toInt (show ge S3 40 0 1 = y1 from (by rw [E3]; exact (ge_puj (by decide)).trans ey1.symm))
    refine zk_imp (s_B_X7_feed_23 _ _ RS3 (by (try dsimp only) <;> omega) (by (try dsimp only) <;> omega)) (fun v7 T8 h7 => ?_)
    obtain ⟨RT8, fT8, h7⟩ := h7
    have FT8 := FS3.tr (fT8.sub (m := 33751040) (by decide))
    obtain ⟨y9, ey9⟩ : ∃ y : Int32, y = ge T8 40 0 1 := ⟨_, rfl⟩
    have gy9 : 0 ≤ y9.toInt ∧ y9.toInt ≤ 300 := by rw [ey9]; exact RT8 40 _ _
    have q10 : (ge T8 40 0 1).toInt = y9.toInt := congrArg Int32.toInt (show ge T8 40 0 1 = y9 from ey9.symm)
    try dsimp only at h7
    exact ⟨RT8, FT8, by omega⟩
  ·
    have q11 : (ge S3 40 0 1).toInt = y1.toInt := congrArg Int32.toInt (show ge S3 40 0 1 = y1 from (by rw [E3]; exact (ge_puj (by decide)).trans ey1.symm))
    exact zk_some ⟨RS3, FS3, by omega⟩
theorem s_B_X7_program_144  (z : Int32 × Int32 × Int32 × Int32) (S : fS) (RS : RI S) (hi : 0 ≤ z.2.2.2.toInt ∧ z.2.2.2.toInt ≤ 300 ∧ 0 ≤ z.1.toInt ∧ z.1.toInt ≤ 300 ∧ 0 ≤ z.2.2.1.toInt ∧ z.2.2.1.toInt ≤ 8 ∧ 0 ≤ z.2.1.toInt ∧ z.2.1.toInt ≤ 1 ∧ (ge S 40 0 13).toInt ≤ 5 + z.2.1.toInt ∧ (ge S 40 0 14).toInt ≤ 3 - z.2.1.toInt) (hm : (300 - z.2.2.2.toInt).toNat < 4294967296) : zk (lp (B_X7_program_144) fuel z S) (fun v S9 => RI S9 ∧ Fr 37748736 S S9 ∧ (ge S9 40 0 1).toInt = (ge S 40 0 1).toInt) := by
  have l0 : (0 : Int32).toInt = 0 := by decide
  have l1 : (1 : Int32).toInt = 1 := by decide
  have l13 : (13 : Int32).toInt = 13 := by decide
  have l14 : (14 : Int32).toInt = 14 := by decide
  have lo1 : (Int32.ofInt 1).toInt = 1 := by decide
  refine zk_lp (fun z S => RI S ∧ (0 ≤ z.2.2.2.toInt ∧ z.2.2.2.toInt ≤ 300 ∧ 0 ≤ z.1.toInt ∧ z.1.toInt ≤ 300 ∧ 0 ≤ z.2.2.1.toInt ∧ z.2.2.1.toInt ≤ 8 ∧ 0 ≤ z.2.1.toInt ∧ z.2.1.toInt ≤ 1 ∧ (ge S 40 0 13).toInt ≤ 5 + z.2.1.toInt ∧ (ge S 40 0 14).toInt ≤ 3 - z.2.1.toInt)) (fun z S => (300 - z.2.2.2.toInt).toNat) (fun z S (v : Int32) S9 => RI S9 ∧ Fr 37748736 S S9 ∧ (ge S9 40 0 1).toInt = (ge S 40 0 1).toInt) ?_ z S ⟨RS, hi⟩ hm
  clear RS hi hm
  intro k z S hI hk
  obtain ⟨RS, hI⟩ := hI
  obtain ⟨a1, a2, a3, a4⟩ := z
  (try dsimp only at hI); (try dsimp only at hk); (try dsimp only)
  have FS : Fr 37748736 S S := Fr.rf
  unfold B_X7_program_144
  dsimp only
  obtain ⟨y1, ey1⟩ : ∃ y : Int32, y = ge S 40 0 1 := ⟨_, rfl⟩
  have gy1 : 0 ≤ y1.toInt ∧ y1.toInt ≤ 300 := by rw [ey1]; exact RS 40 _ _
  have q2 : (ge S 40 0 1).toInt = y1.toInt := congrArg Int32.toInt (show ge S 40 0 1 = y1 from ey1.symm)
  obtain ⟨y3, ey3⟩ : ∃ y : Int32, y = ge S 40 0 13 := ⟨_, rfl⟩
  have gy3 : 0 ≤ y3.toInt ∧ y3.toInt ≤ 6 := by rw [ey3]; exact RS 40 _ _
  have q4 : (ge S 40 0 13).toInt = y3.toInt := congrArg Int32.toInt (show ge S 40 0 13 = y3 from ey3.symm)
  obtain ⟨y5, ey5⟩ : ∃ y : Int32, y = ge S 40 0 14 := ⟨_, rfl⟩
  have gy5 : 0 ≤ y5.toInt ∧ y5.toInt ≤ 3 := by rw [ey5]; exact RS 40 _ _
  have q6 : (ge S 40 0 14).toInt = y5.toInt := congrArg Int32.toInt (show ge S 40 0 14 = y5 from ey5.symm)
  refine zk_le (fun c7 => ?_) (fun c7 => ?_)
  ·
    refine zk_gd ⟨by omega, by omega⟩ ?_
    refine zk_sv fun S8 E8 => ?_
    have RS8 : RI S8 := by rw [E8]; exact RS.wr (show (0 : Int) ≤ a1.toInt by omega) (show a1.toInt ≤ 300 by omega)
    have FS8 : Fr 37748736 S S8 := by rw [E8]; exact FS.wr (k := 25) rfl rfl
    refine zk_eq (fun c9 => ?_) (fun c9 => ?_)
    ·
      refine zk_ivq (x := y3) (by rw [E8]; exact (ge_pua (by decide)).trans ey3.symm) ?_
      refine zk_iv fun x10 e10 => ?_
      have gx10 : x10.toInt = y3.toInt + (1 : Int32).toInt := by rw [e10]; exact ti_add (by omega) (by omega)
      refine zk_sv fun S11 E11 => ?_
      have RS11 : RI S11 := by rw [E11]; exact RS8.wr (show (0 : Int) ≤ x10.toInt by omega) (show x10.toInt ≤ 6 by omega)
      have FS11 : Fr 37748736 S S11 := by rw [E11]; exact FS8.wr (k := 22) rfl rfl
      unfold B_X7_program_206
      refine zk_eq (fun c12 => ?_) (fun c12 => ?_)
      ·
        refine zk_ivq (x := x10) (by rw [E11]; exact ge_pus) ?_
        refine zk_iv fun x13 e13 => ?_
        have gx13 : x13.toInt = x10.toInt - (1 : Int32).toInt := by rw [e13]; exact ti_sub (by omega) (by omega)
        have q14 : (ge S11 40 0 1).toInt = y1.toInt := congrArg Int32.toInt (show ge S11 40 0 1 = y1 from (by rw [E11]; exact (ge_puj (by decide)).trans (by rw [E8]; exact (ge_pua (by decide)).trans ey1.symm)))
        have q15 : (ge S11 40 0 13).toInt = x10.toInt := congrArg Int32.toInt (show ge S11 40 0 13 = x10 from (by rw [E11]; exact ge_pus))
        have q16 : (ge S11 40 0 14).toInt = y5.toInt := congrArg Int32.toInt (show ge S11 40 0 14 = y5 from (by rw [E11]; exact (ge_puj (by decide)).trans (by rw [E8]; exact (ge_pua (by decide)).trans ey5.symm)))
        exact zk_some ⟨RS11, FS11, by omega⟩
      ·
        exact False.elim (by omega)
    ·
      refine zk_ivq (x := y5) (by rw [E8]; exact (ge_pua (by decide)).trans ey5.symm) ?_
      refine zk_iv fun x17 e17 => ?_
      have gx17 : x17.toInt = y5.toInt + (1 : Int32).toInt := by rw [e17]; exact ti_add (by omega) (by omega)
      refine zk_sv fun S18 E18 => ?_
      have RS18 : RI S18 := by rw [E18]; exact RS8.wr (show (0 : Int) ≤ x17.toInt by omega) (show x17.toInt ≤ 3 by omega)
      have FS18 : Fr 37748736 S S18 := by rw [E18]; exact FS8.wr (k := 22) rfl rfl
      unfold B_X7_program_206
      refine zk_eq (fun c19 => ?_) (fun c19 => ?_)
      ·
        exact False.elim (by omega)
      ·
        refine zk_ivq (x := x17) (by rw [E18]; exact ge_pus) ?_
        refine zk_iv fun x20 e20 => ?_
        have gx20 : x20.toInt = x17.toInt - (1 : Int32).toInt := by rw [e20]; exact ti_sub (by omega) (by omega)
        have q21 : (ge S18 40 0 1).toInt = y1.toInt := congrArg Int32.toInt (show ge S18 40 0 1 = y1 from (by rw [E18]; exact (ge_puj (by decide)).trans (by rw [E8]; exact (ge_pua (by decide)).trans ey1.symm)))
        have q22 : (ge S18 40 0 13).toInt = y3.toInt := congrArg Int32.toInt (show ge S18 40 0 13 = y3 from (by rw [E18]; exact (ge_puj (by decide)).trans (by rw [E8]; exact (ge_pua (by decide)).trans ey3.symm)))
        have q23 : (ge S18 40 0 14).toInt = x17.toInt := congrArg Int32.toInt (show ge S18 40 0 14 = x17 from (by rw [E18]; exact ge_pus))
        exact zk_some ⟨RS18, FS18, by omega⟩
  ·
    refine zk_gd ⟨by omega, by omega⟩ ?_
    refine zk_gd ⟨by omega, by omega⟩ ?_
    refine zk_iv fun x24 e24 => ?_
    have gx24 : 0 ≤ x24.toInt ∧ x24.toInt ≤ 255 := by rw [e24]; exact RS 41 _ _
    refine zk_gd ⟨by omega, by omega⟩ ?_
    refine zk_sv fun S25 E25 => ?_
    have RS25 : RI S25 := by rw [E25]; exact RS.wr (show (0 : Int) ≤ x24.toInt by omega) (show x24.toInt ≤ 255 by omega)
    have FS25 : Fr 37748736 S S25 := by rw [E25]; exact FS.wr (k := 25) rfl rfl
    refine zk_iv fun x26 e26 => ?_
    have gx26 : x26.toInt = a4.toInt + (Int32.ofInt 1).toInt := by rw [e26]; exact ti_add (by omega) (by omega)
    have q27 : (ge S25 40 0 1).toInt = y1.toInt := congrArg Int32.toInt (show ge S25 40 0 1 = y1 from (by rw [E25]; exact (ge_pua (by decide)).trans ey1.symm))
    have q28 : (ge S25 40 0 13).toInt = y3.toInt := congrArg Int32.toInt (show ge S25 40 0 13 = y3 from (by rw [E25]; exact (ge_pua (by decide)).trans ey3.symm))
    have q29 : (ge S25 40 0 14).toInt = y5.toInt := congrArg Int32.toInt (show ge S25 40 0 14 = y5 from (by rw [E25]; exact (ge_pua (by decide)).trans ey5.symm))
    refine zk_imp (hk (a1, a2, a3, x26) _ ⟨RS25, (by (try dsimp only) <;> omega)⟩ (by (try dsimp only) <;> omega)) (fun v30 T31 h30 => ?_)
    obtain ⟨RT31, FT31, h30⟩ := h30
    try dsimp only at h30
    exact ⟨RT31, FS25.tr FT31, by omega⟩
theorem s_F_X7_program (p1 : Int32) (p2 : Int32) (S0 : fS) (RS0 : RI S0) (hp : 0 ≤ p2.toInt ∧ p2.toInt ≤ 1) : zk (F_X7_program p1 p2 S0) (fun v S9 => RI S9 ∧ Fr 13459718144 S0 S9 ∧ ((0 ≤ p1.toInt ∧ p1.toInt ≤ (ge S0 40 0 1).toInt ∧ (ge S9 40 0 1).toInt = 0) ∨ ((p1.toInt < 0 ∨ (ge S0 40 0 1).toInt < p1.toInt) ∧ (ge S9 40 0 1).toInt = (ge S0 40 0 1).toInt))) := by
  have lm1 : (-1 : Int32).toInt = -1 := by decide
  have l0 : (0 : Int32).toInt = 0 := by decide
  have l1 : (1 : Int32).toInt = 1 := by decide
  have l2 : (2 : Int32).toInt = 2 := by decide
  have l3 : (3 : Int32).toInt = 3 := by decide
  have l6 : (6 : Int32).toInt = 6 := by decide
  have l7 : (7 : Int32).toInt = 7 := by decide
  have l8 : (8 : Int32).toInt = 8 := by decide
  have l10 : (10 : Int32).toInt = 10 := by decide
  have l13 : (13 : Int32).toInt = 13 := by decide
  have l14 : (14 : Int32).toInt = 14 := by decide
  have l16 : (16 : Int32).toInt = 16 := by decide
  have FS0 : Fr 13459718144 S0 S0 := Fr.rf
  unfold F_X7_program
  obtain ⟨y1, ey1⟩ : ∃ y : Int32, y = ge S0 40 0 0 := ⟨_, rfl⟩
  have q2 : (ge S0 40 0 0).toInt = y1.toInt := congrArg Int32.toInt (show ge S0 40 0 0 = y1 from ey1.symm)
  obtain ⟨y3, ey3⟩ : ∃ y : Int32, y = ge S0 40 0 1 := ⟨_, rfl⟩
  have gy3 : 0 ≤ y3.toInt ∧ y3.toInt ≤ 300 := by rw [ey3]; exact RS0 40 _ _
  have q4 : (ge S0 40 0 1).toInt = y3.toInt := congrArg Int32.toInt (show ge S0 40 0 1 = y3 from ey3.symm)
  obtain ⟨y5, ey5⟩ : ∃ y : Int32, y = ge S0 40 0 13 := ⟨_, rfl⟩
  have gy5 : 0 ≤ y5.toInt ∧ y5.toInt ≤ 6 := by rw [ey5]; exact RS0 40 _ _
  have q6 : (ge S0 40 0 13).toInt = y5.toInt := congrArg Int32.toInt (show ge S0 40 0 13 = y5 from ey5.symm)
  obtain ⟨y7, ey7⟩ : ∃ y : Int32, y = ge S0 40 0 14 := ⟨_, rfl⟩
  have gy7 : 0 ≤ y7.toInt ∧ y7.toInt ≤ 3 := by rw [ey7]; exact RS0 40 _ _
  have q8 : (ge S0 40 0 14).toInt = y7.toInt := congrArg Int32.toInt (show ge S0 40 0 14 = y7 from ey7.symm)
  refine zk_sv fun S9 E9 => ?_
  have RS9 : RI S9 := by rw [E9]; exact RS0.wf rfl
  have FS9 : Fr 13459718144 S0 S9 := by rw [E9]; exact FS0.wr (k := 16) rfl rfl
  refine zk_ivq (x := y3) (by rw [E9]; exact (ge_puj (by decide)).trans ey3.symm) ?_
  refine zk_bd (s_F_X7_in _ _ _ _ RS9) (fun v10 T11 h10 => ?_)
  obtain ⟨rfl, h10⟩ := h10
  refine zk_eq (fun c12 => ?_) (fun c12 => ?_)
  ·
    unfold B_X7_program_23
    have q13 : (ge S9 40 0 0).toInt = (0 : Int32).toInt := congrArg Int32.toInt (show ge S9 40 0 0 = (0 : Int32) from (by rw [E9]; exact ge_pus))
    have q14 : (ge S9 40 0 1).toInt = y3.toInt := congrArg Int32.toInt (show ge S9 40 0 1 = y3 from (by rw [E9]; exact (ge_puj (by decide)).trans ey3.symm))
    have q15 : (ge S9 40 0 13).toInt = y5.toInt := congrArg Int32.toInt (show ge S9 40 0 13 = y5 from (by rw [E9]; exact (ge_puj (by decide)).trans ey5.symm))
    have q16 : (ge S9 40 0 14).toInt = y7.toInt := congrArg Int32.toInt (show ge S9 40 0 14 = y7 from (by rw [E9]; exact (ge_puj (by decide)).trans ey7.symm))
    refine zk_bd (s_F_X7_bad _ _ _ RS9 (by omega)) (fun v17 T18 h17 => ?_)
    obtain ⟨RT18, fT18, h17⟩ := h17
    have FT18 := FS9.tr (fT18.sub (m := 13459718144) (by decide))
    obtain ⟨y19, ey19⟩ : ∃ y : Int32, y = ge T18 40 0 0 := ⟨_, rfl⟩
    have q20 : (ge T18 40 0 0).toInt = y19.toInt := congrArg Int32.toInt (show ge T18 40 0 0 = y19 from ey19.symm)
    have q21 : (ge T18 40 0 1).toInt = y3.toInt := congrArg Int32.toInt (show ge T18 40 0 1 = y3 from ((fT18.1 40 0 1 rfl).trans (by rw [E9]; exact (ge_puj (by decide)).trans ey3.symm)))
    have q22 : (ge T18 40 0 13).toInt = y5.toInt := congrArg Int32.toInt (show ge T18 40 0 13 = y5 from ((fT18.1 40 0 13 rfl).trans (by rw [E9]; exact (ge_puj (by decide)).trans ey5.symm)))
    have q23 : (ge T18 40 0 14).toInt = y7.toInt := congrArg Int32.toInt (show ge T18 40 0 14 = y7 from ((fT18.1 40 0 14 rfl).trans (by rw [E9]; exact (ge_puj (by decide)).trans ey7.symm)))
    refine zk_eq (fun c24 => ?_) (fun c24 => ?_)
    ·
      refine zk_sv fun S25 E25 => ?_
      have RS25 : RI S25 := by rw [E25]; exact RT18.wr (show (0 : Int) ≤ (0 : Int32).toInt by omega) (show (0 : Int32).toInt ≤ 300 by omega)
      have FS25 : Fr 13459718144 S0 S25 := by rw [E25]; exact FT18.wr (k := 17) rfl rfl
      refine zk_sv fun S26 E26 => ?_
      have RS26 : RI S26 := by rw [E26]; exact RS25.wf rfl
      have FS26 : Fr 13459718144 S0 S26 := by rw [E26]; exact FS25.wr (k := 16) rfl rfl
      refine zk_eq (fun c27 => ?_) (fun c27 => ?_)
      ·
        refine zk_ivq (x := y5) (by rw [E26]; exact (ge_puj (by decide)).trans (by rw [E25]; exact (ge_puj (by decide)).trans ((fT18.1 40 0 13 rfl).trans (by rw [E9]; exact (ge_puj (by decide)).trans ey5.symm)))) ?_
        refine zk_eq (fun c28 => ?_) (fun c28 => ?_)
        ·
          have q29 : (ge S26 40 0 0).toInt = y19.toInt := congrArg Int32.toInt (show ge S26 40 0 0 = y19 from (by rw [E26]; exact (ge_puj (by decide)).trans (by rw [E25]; exact (ge_puj (by decide)).trans ey19.symm)))
          have q30 : (ge S26 40 0 1).toInt = (0 : Int32).toInt := congrArg Int32.toInt (show ge S26 40 0 1 = (0 : Int32) from (by rw [E26]; exact (ge_puj (by decide)).trans (by rw [E25]; exact ge_pus)))
          have q31 : (ge S26 40 0 13).toInt = y5.toInt := congrArg Int32.toInt (show ge S26 40 0 13 = y5 from (by rw [E26]; exact (ge_puj (by decide)).trans (by rw [E25]; exact (ge_puj (by decide)).trans ((fT18.1 40 0 13 rfl).trans (by rw [E9]; exact (ge_puj (by decide)).trans ey5.symm)))))
          have q32 : (ge S26 40 0 14).toInt = y7.toInt := congrArg Int32.toInt (show ge S26 40 0 14 = y7 from (by rw [E26]; exact (ge_puj (by decide)).trans (by rw [E25]; exact (ge_puj (by decide)).trans ((fT18.1 40 0 14 rfl).trans (by rw [E9]; exact (ge_puj (by decide)).trans ey7.symm)))))
          exact zk_some ⟨RS26, FS26, by omega⟩
        ·
          unfold B_X7_program_68
          refine zk_sv fun S33 E33 => ?_
          have RS33 : RI S33 := by rw [E33]; exact RS26.wr (show (-1 : Int) ≤ ((-1) : Int32).toInt by omega) (show ((-1) : Int32).toInt ≤ 8 by omega)
          have FS33 : Fr 13459718144 S0 S33 := by rw [E33]; exact FS26.wr (k := 25) rfl rfl
          refine zk_sv fun S34 E34 => ?_
          have RS34 : RI S34 := by rw [E34]; exact RS33.wr (show (0 : Int) ≤ p1.toInt by omega) (show p1.toInt ≤ 300 by omega)
          have FS34 : Fr 13459718144 S0 S34 := by rw [E34]; exact FS33.wr (k := 25) rfl rfl
          refine zk_gd (z01 (by omega)) ?_
          refine zk_sv fun S35 E35 => ?_
          have RS35 : RI S35 := by rw [E35]; exact RS34.wr (show (0 : Int) ≤ p2.toInt by omega) (show p2.toInt ≤ 1 by omega)
          have FS35 : Fr 13459718144 S0 S35 := by rw [E35]; exact FS34.wr (k := 16) rfl rfl
          refine zk_eq (fun c36 => ?_) (fun c36 => ?_)
          ·
            have q37 : (ge S35 40 0 0).toInt = y19.toInt := congrArg Int32.toInt (show ge S35 40 0 0 = y19 from (by rw [E35]; exact (ge_puj (by decide)).trans (by rw [E34]; exact (ge_puj (by decide)).trans (by rw [E33]; exact (ge_puj (by decide)).trans (by rw [E26]; exact (ge_puj (by decide)).trans (by rw [E25]; exact (ge_puj (by decide)).trans ey19.symm))))))
            have q38 : (ge S35 40 0 1).toInt = (0 : Int32).toInt := congrArg Int32.toInt (show ge S35 40 0 1 = (0 : Int32) from (by rw [E35]; exact (ge_puj (by decide)).trans (by rw [E34]; exact (ge_puj (by decide)).trans (by rw [E33]; exact (ge_puj (by decide)).trans (by rw [E26]; exact (ge_puj (by decide)).trans (by rw [E25]; exact ge_pus))))))
            have q39 : (ge S35 40 0 13).toInt = y5.toInt := congrArg Int32.toInt (show ge S35 40 0 13 = y5 from (by rw [E35]; exact (ge_puj (by decide)).trans (by rw [E34]; exact (ge_puj (by decide)).trans (by rw [E33]; exact (ge_puj (by decide)).trans (by rw [E26]; exact (ge_puj (by decide)).trans (by rw [E25]; exact (ge_puj (by decide)).trans ((fT18.1 40 0 13 rfl).trans (by rw [E9]; exact (ge_puj (by decide)).trans ey5.symm))))))))
            have q40 : (ge S35 40 0 14).toInt = y7.toInt := congrArg Int32.toInt (show ge S35 40 0 14 = y7 from (by rw [E35]; exact (ge_puj (by decide)).trans (by rw [E34]; exact (ge_puj (by decide)).trans (by rw [E33]; exact (ge_puj (by decide)).trans (by rw [E26]; exact (ge_puj (by decide)).trans (by rw [E25]; exact (ge_puj (by decide)).trans ((fT18.1 40 0 14 rfl).trans (by rw [E9]; exact (ge_puj (by decide)).trans ey7.symm))))))))
            refine zk_bd (s_F_X7_walks _ RS35) (fun v41 T42 h41 => ?_)
            obtain ⟨RT42, fT42, h41⟩ := h41
            have FT42 := FS35.tr (fT42.sub (m := 13459718144) (by decide))
            obtain ⟨y43, ey43⟩ : ∃ y : Int32, y = ge T42 40 0 0 := ⟨_, rfl⟩
            have q44 : (ge T42 40 0 0).toInt = y43.toInt := congrArg Int32.toInt (show ge T42 40 0 0 = y43 from ey43.symm)
            have q45 : (ge T42 40 0 1).toInt = (0 : Int32).toInt := congrArg Int32.toInt (show ge T42 40 0 1 = (0 : Int32) from ((fT42.1 40 0 1 rfl).trans (by rw [E35]; exact (ge_puj (by decide)).trans (by rw [E34]; exact (ge_puj (by decide)).trans (by rw [E33]; exact (ge_puj (by decide)).trans (by rw [E26]; exact (ge_puj (by decide)).trans (by rw [E25]; exact ge_pus)))))))
            have q46 : (ge T42 40 0 13).toInt = y5.toInt := congrArg Int32.toInt (show ge T42 40 0 13 = y5 from ((fT42.1 40 0 13 rfl).trans (by rw [E35]; exact (ge_puj (by decide)).trans (by rw [E34]; exact (ge_puj (by decide)).trans (by rw [E33]; exact (ge_puj (by decide)).trans (by rw [E26]; exact (ge_puj (by decide)).trans (by rw [E25]; exact (ge_puj (by decide)).trans ((fT18.1 40 0 13 rfl).trans (by rw [E9]; exact (ge_puj (by decide)).trans ey5.symm)))))))))
            have q47 : (ge T42 40 0 14).toInt = y7.toInt := congrArg Int32.toInt (show ge T42 40 0 14 = y7 from ((fT42.1 40 0 14 rfl).trans (by rw [E35]; exact (ge_puj (by decide)).trans (by rw [E34]; exact (ge_puj (by decide)).trans (by rw [E33]; exact (ge_puj (by decide)).trans (by rw [E26]; exact (ge_puj (by decide)).trans (by rw [E25]; exact (ge_puj (by decide)).trans ((fT18.1 40 0 14 rfl).trans (by rw [E9]; exact (ge_puj (by decide)).trans ey7.symm)))))))))
            unfold B_X7_program_99
            refine zk_iv fun x48 e48 => ?_
            refine zk_sv fun S49 E49 => ?_
            have RS49 : RI S49 := by rw [E49]; exact RT42.wf rfl
            have FS49 : Fr 13459718144 S0 S49 := by rw [E49]; exact FT42.wr (k := 16) rfl rfl
            refine zk_iv fun x50 e50 => ?_
            have b51 := ti_bd x50
            refine zk_eq (fun c52 => ?_) (fun c52 => ?_)
            ·
              refine zk_eq (fun c53 => ?_) (fun c53 => ?_)
              ·
                refine zk_ivq (x := y5) (by rw [E49]; exact (ge_puj (by decide)).trans ((fT42.1 40 0 13 rfl).trans (by rw [E35]; exact (ge_puj (by decide)).trans (by rw [E34]; exact (ge_puj (by decide)).trans (by rw [E33]; exact (ge_puj (by decide)).trans (by rw [E26]; exact (ge_puj (by decide)).trans (by rw [E25]; exact (ge_puj (by decide)).trans ((fT18.1 40 0 13 rfl).trans (by rw [E9]; exact (ge_puj (by decide)).trans ey5.symm))))))))) ?_
                unfold B_X7_program_140
                have q54 : (ge S49 40 0 0).toInt = y43.toInt := congrArg Int32.toInt (show ge S49 40 0 0 = y43 from (by rw [E49]; exact (ge_puj (by decide)).trans ey43.symm))
                have q55 : (ge S49 40 0 1).toInt = (0 : Int32).toInt := congrArg Int32.toInt (show ge S49 40 0 1 = (0 : Int32) from (by rw [E49]; exact (ge_puj (by decide)).trans ((fT42.1 40 0 1 rfl).trans (by rw [E35]; exact (ge_puj (by decide)).trans (by rw [E34]; exact (ge_puj (by decide)).trans (by rw [E33]; exact (ge_puj (by decide)).trans (by rw [E26]; exact (ge_puj (by decide)).trans (by rw [E25]; exact ge_pus))))))))
                have q56 : (ge S49 40 0 13).toInt = y5.toInt := congrArg Int32.toInt (show ge S49 40 0 13 = y5 from (by rw [E49]; exact (ge_puj (by decide)).trans ((fT42.1 40 0 13 rfl).trans (by rw [E35]; exact (ge_puj (by decide)).trans (by rw [E34]; exact (ge_puj (by decide)).trans (by rw [E33]; exact (ge_puj (by decide)).trans (by rw [E26]; exact (ge_puj (by decide)).trans (by rw [E25]; exact (ge_puj (by decide)).trans ((fT18.1 40 0 13 rfl).trans (by rw [E9]; exact (ge_puj (by decide)).trans ey5.symm))))))))))
                have q57 : (ge S49 40 0 14).toInt = y7.toInt := congrArg Int32.toInt (show ge S49 40 0 14 = y7 from (by rw [E49]; exact (ge_puj (by decide)).trans ((fT42.1 40 0 14 rfl).trans (by rw [E35]; exact (ge_puj (by decide)).trans (by rw [E34]; exact (ge_puj (by decide)).trans (by rw [E33]; exact (ge_puj (by decide)).trans (by rw [E26]; exact (ge_puj (by decide)).trans (by rw [E25]; exact (ge_puj (by decide)).trans ((fT18.1 40 0 14 rfl).trans (by rw [E9]; exact (ge_puj (by decide)).trans ey7.symm))))))))))
                refine zk_imp (s_B_X7_program_144 _ _ RS49 (by (try dsimp only) <;> omega) (by (try dsimp only) <;> omega)) (fun v58 T59 h58 => ?_)
                obtain ⟨RT59, fT59, h58⟩ := h58
                have FT59 := FS49.tr (fT59.sub (m := 13459718144) (by decide))
                have q60 : (ge T59 40 0 0).toInt = y43.toInt := congrArg Int32.toInt (show ge T59 40 0 0 = y43 from ((fT59.1 40 0 0 rfl).trans (by rw [E49]; exact (ge_puj (by decide)).trans ey43.symm)))
                have q61 : (ge T59 40 0 1).toInt = (0 : Int32).toInt := congrArg Int32.toInt (show ge T59 40 0 1 = (0 : Int32) from ((fT59.1 40 0 1 rfl).trans (by rw [E49]; exact (ge_puj (by decide)).trans ((fT42.1 40 0 1 rfl).trans (by rw [E35]; exact (ge_puj (by decide)).trans (by rw [E34]; exact (ge_puj (by decide)).trans (by rw [E33]; exact (ge_puj (by decide)).trans (by rw [E26]; exact (ge_puj (by decide)).trans (by rw [E25]; exact ge_pus)))))))))
                obtain ⟨y62, ey62⟩ : ∃ y : Int32, y = ge T59 40 0 13 := ⟨_, rfl⟩
                have gy62 : 0 ≤ y62.toInt ∧ y62.toInt ≤ 6 := by rw [ey62]; exact RT59 40 _ _
                have q63 : (ge T59 40 0 13).toInt = y62.toInt := congrArg Int32.toInt (show ge T59 40 0 13 = y62 from ey62.symm)
                obtain ⟨y64, ey64⟩ : ∃ y : Int32, y = ge T59 40 0 14 := ⟨_, rfl⟩
                have gy64 : 0 ≤ y64.toInt ∧ y64.toInt ≤ 3 := by rw [ey64]; exact RT59 40 _ _
                have q65 : (ge T59 40 0 14).toInt = y64.toInt := congrArg Int32.toInt (show ge T59 40 0 14 = y64 from ey64.symm)
                try dsimp only at h58
                exact ⟨RT59, FT59, by omega⟩
              ·
                exact False.elim (by omega)
            ·
              refine zk_ivq (x := x50) e50.symm ?_
              refine zk_iv fun x66 e66 => ?_
              have q67 : (ge S49 40 0 0).toInt = y43.toInt := congrArg Int32.toInt (show ge S49 40 0 0 = y43 from (by rw [E49]; exact (ge_puj (by decide)).trans ey43.symm))
              have q68 : (ge S49 40 0 1).toInt = (0 : Int32).toInt := congrArg Int32.toInt (show ge S49 40 0 1 = (0 : Int32) from (by rw [E49]; exact (ge_puj (by decide)).trans ((fT42.1 40 0 1 rfl).trans (by rw [E35]; exact (ge_puj (by decide)).trans (by rw [E34]; exact (ge_puj (by decide)).trans (by rw [E33]; exact (ge_puj (by decide)).trans (by rw [E26]; exact (ge_puj (by decide)).trans (by rw [E25]; exact ge_pus))))))))
              have q69 : (ge S49 40 0 13).toInt = y5.toInt := congrArg Int32.toInt (show ge S49 40 0 13 = y5 from (by rw [E49]; exact (ge_puj (by decide)).trans ((fT42.1 40 0 13 rfl).trans (by rw [E35]; exact (ge_puj (by decide)).trans (by rw [E34]; exact (ge_puj (by decide)).trans (by rw [E33]; exact (ge_puj (by decide)).trans (by rw [E26]; exact (ge_puj (by decide)).trans (by rw [E25]; exact (ge_puj (by decide)).trans ((fT18.1 40 0 13 rfl).trans (by rw [E9]; exact (ge_puj (by decide)).trans ey5.symm))))))))))
              have q70 : (ge S49 40 0 14).toInt = y7.toInt := congrArg Int32.toInt (show ge S49 40 0 14 = y7 from (by rw [E49]; exact (ge_puj (by decide)).trans ((fT42.1 40 0 14 rfl).trans (by rw [E35]; exact (ge_puj (by decide)).trans (by rw [E34]; exact (ge_puj (by decide)).trans (by rw [E33]; exact (ge_puj (by decide)).trans (by rw [E26]; exact (ge_puj (by decide)).trans (by rw [E25]; exact (ge_puj (by decide)).trans ((fT18.1 40 0 14 rfl).trans (by rw [E9]; exact (ge_puj (by decide)).trans ey7.symm))))))))))
              exact zk_some ⟨RS49, FS49, by omega⟩
          ·
            exact False.elim (by omega)
      ·
        refine zk_ivq (x := y7) (by rw [E26]; exact (ge_puj (by decide)).trans (by rw [E25]; exact (ge_puj (by decide)).trans ((fT18.1 40 0 14 rfl).trans (by rw [E9]; exact (ge_puj (by decide)).trans ey7.symm)))) ?_
        refine zk_eq (fun c71 => ?_) (fun c71 => ?_)
        ·
          have q72 : (ge S26 40 0 0).toInt = y19.toInt := congrArg Int32.toInt (show ge S26 40 0 0 = y19 from (by rw [E26]; exact (ge_puj (by decide)).trans (by rw [E25]; exact (ge_puj (by decide)).trans ey19.symm)))
          have q73 : (ge S26 40 0 1).toInt = (0 : Int32).toInt := congrArg Int32.toInt (show ge S26 40 0 1 = (0 : Int32) from (by rw [E26]; exact (ge_puj (by decide)).trans (by rw [E25]; exact ge_pus)))
          have q74 : (ge S26 40 0 13).toInt = y5.toInt := congrArg Int32.toInt (show ge S26 40 0 13 = y5 from (by rw [E26]; exact (ge_puj (by decide)).trans (by rw [E25]; exact (ge_puj (by decide)).trans ((fT18.1 40 0 13 rfl).trans (by rw [E9]; exact (ge_puj (by decide)).trans ey5.symm)))))
          have q75 : (ge S26 40 0 14).toInt = y7.toInt := congrArg Int32.toInt (show ge S26 40 0 14 = y7 from (by rw [E26]; exact (ge_puj (by decide)).trans (by rw [E25]; exact (ge_puj (by decide)).trans ((fT18.1 40 0 14 rfl).trans (by rw [E9]; exact (ge_puj (by decide)).trans ey7.symm)))))
          exact zk_some ⟨RS26, FS26, by omega⟩
        ·
          unfold B_X7_program_68
          refine zk_sv fun S76 E76 => ?_
          have RS76 : RI S76 := by rw [E76]; exact RS26.wr (show (-1 : Int) ≤ ((-1) : Int32).toInt by omega) (show ((-1) : Int32).toInt ≤ 8 by omega)
          have FS76 : Fr 13459718144 S0 S76 := by rw [E76]; exact FS26.wr (k := 25) rfl rfl
          refine zk_sv fun S77 E77 => ?_
          have RS77 : RI S77 := by rw [E77]; exact RS76.wr (show (0 : Int) ≤ p1.toInt by omega) (show p1.toInt ≤ 300 by omega)
          have FS77 : Fr 13459718144 S0 S77 := by rw [E77]; exact FS76.wr (k := 25) rfl rfl
          refine zk_gd (z01 (by omega)) ?_
          refine zk_sv fun S78 E78 => ?_
          have RS78 : RI S78 := by rw [E78]; exact RS77.wr (show (0 : Int) ≤ p2.toInt by omega) (show p2.toInt ≤ 1 by omega)
          have FS78 : Fr 13459718144 S0 S78 := by rw [E78]; exact FS77.wr (k := 16) rfl rfl
          refine zk_eq (fun c79 => ?_) (fun c79 => ?_)
          ·
            exact False.elim (by omega)
          ·
            have q80 : (ge S78 40 0 0).toInt = y19.toInt := congrArg Int32.toInt (show ge S78 40 0 0 = y19 from (by rw [E78]; exact (ge_puj (by decide)).trans (by rw [E77]; exact (ge_puj (by decide)).trans (by rw [E76]; exact (ge_puj (by decide)).trans (by rw [E26]; exact (ge_puj (by decide)).trans (by rw [E25]; exact (ge_puj (by decide)).trans ey19.symm))))))
            have q81 : (ge S78 40 0 1).toInt = (0 : Int32).toInt := congrArg Int32.toInt (show ge S78 40 0 1 = (0 : Int32) from (by rw [E78]; exact (ge_puj (by decide)).trans (by rw [E77]; exact (ge_puj (by decide)).trans (by rw [E76]; exact (ge_puj (by decide)).trans (by rw [E26]; exact (ge_puj (by decide)).trans (by rw [E25]; exact ge_pus))))))
            have q82 : (ge S78 40 0 13).toInt = y5.toInt := congrArg Int32.toInt (show ge S78 40 0 13 = y5 from (by rw [E78]; exact (ge_puj (by decide)).trans (by rw [E77]; exact (ge_puj (by decide)).trans (by rw [E76]; exact (ge_puj (by decide)).trans (by rw [E26]; exact (ge_puj (by decide)).trans (by rw [E25]; exact (ge_puj (by decide)).trans ((fT18.1 40 0 13 rfl).trans (by rw [E9]; exact (ge_puj (by decide)).trans ey5.symm))))))))
            have q83 : (ge S78 40 0 14).toInt = y7.toInt := congrArg Int32.toInt (show ge S78 40 0 14 = y7 from (by rw [E78]; exact (ge_puj (by decide)).trans (by rw [E77]; exact (ge_puj (by decide)).trans (by rw [E76]; exact (ge_puj (by decide)).trans (by rw [E26]; exact (ge_puj (by decide)).trans (by rw [E25]; exact (ge_puj (by decide)).trans ((fT18.1 40 0 14 rfl).trans (by rw [E9]; exact (ge_puj (by decide)).trans ey7.symm))))))))
            refine zk_bd (s_F_X7_walksLaw _ RS78) (fun v84 T85 h84 => ?_)
            obtain ⟨RT85, fT85, h84⟩ := h84
            have FT85 := FS78.tr (fT85.sub (m := 13459718144) (by decide))
            obtain ⟨y86, ey86⟩ : ∃ y : Int32, y = ge T85 40 0 0 := ⟨_, rfl⟩
            have q87 : (ge T85 40 0 0).toInt = y86.toInt := congrArg Int32.toInt (show ge T85 40 0 0 = y86 from ey86.symm)
            have q88 : (ge T85 40 0 1).toInt = (0 : Int32).toInt := congrArg Int32.toInt (show ge T85 40 0 1 = (0 : Int32) from ((fT85.1 40 0 1 rfl).trans (by rw [E78]; exact (ge_puj (by decide)).trans (by rw [E77]; exact (ge_puj (by decide)).trans (by rw [E76]; exact (ge_puj (by decide)).trans (by rw [E26]; exact (ge_puj (by decide)).trans (by rw [E25]; exact ge_pus)))))))
            have q89 : (ge T85 40 0 13).toInt = y5.toInt := congrArg Int32.toInt (show ge T85 40 0 13 = y5 from ((fT85.1 40 0 13 rfl).trans (by rw [E78]; exact (ge_puj (by decide)).trans (by rw [E77]; exact (ge_puj (by decide)).trans (by rw [E76]; exact (ge_puj (by decide)).trans (by rw [E26]; exact (ge_puj (by decide)).trans (by rw [E25]; exact (ge_puj (by decide)).trans ((fT18.1 40 0 13 rfl).trans (by rw [E9]; exact (ge_puj (by decide)).trans ey5.symm)))))))))
            have q90 : (ge T85 40 0 14).toInt = y7.toInt := congrArg Int32.toInt (show ge T85 40 0 14 = y7 from ((fT85.1 40 0 14 rfl).trans (by rw [E78]; exact (ge_puj (by decide)).trans (by rw [E77]; exact (ge_puj (by decide)).trans (by rw [E76]; exact (ge_puj (by decide)).trans (by rw [E26]; exact (ge_puj (by decide)).trans (by rw [E25]; exact (ge_puj (by decide)).trans ((fT18.1 40 0 14 rfl).trans (by rw [E9]; exact (ge_puj (by decide)).trans ey7.symm)))))))))
            unfold B_X7_program_99
            refine zk_iv fun x91 e91 => ?_
            refine zk_sv fun S92 E92 => ?_
            have RS92 : RI S92 := by rw [E92]; exact RT85.wf rfl
            have FS92 : Fr 13459718144 S0 S92 := by rw [E92]; exact FT85.wr (k := 16) rfl rfl
            refine zk_iv fun x93 e93 => ?_
            have b94 := ti_bd x93
            refine zk_eq (fun c95 => ?_) (fun c95 => ?_)
            ·
              refine zk_eq (fun c96 => ?_) (fun c96 => ?_)
              ·
                exact False.elim (by omega)
              ·
                refine zk_ivq (x := y7) (by rw [E92]; exact (ge_puj (by decide)).trans ((fT85.1 40 0 14 rfl).trans (by rw [E78]; exact (ge_puj (by decide)).trans (by rw [E77]; exact (ge_puj (by decide)).trans (by rw [E76]; exact (ge_puj (by decide)).trans (by rw [E26]; exact (ge_puj (by decide)).trans (by rw [E25]; exact (ge_puj (by decide)).trans ((fT18.1 40 0 14 rfl).trans (by rw [E9]; exact (ge_puj (by decide)).trans ey7.symm))))))))) ?_
                refine zk_iv fun x97 e97 => ?_
                have gx97 : x97.toInt = (6 : Int32).toInt + y7.toInt := by rw [e97]; exact ti_add (by omega) (by omega)
                unfold B_X7_program_140
                have q98 : (ge S92 40 0 0).toInt = y86.toInt := congrArg Int32.toInt (show ge S92 40 0 0 = y86 from (by rw [E92]; exact (ge_puj (by decide)).trans ey86.symm))
                have q99 : (ge S92 40 0 1).toInt = (0 : Int32).toInt := congrArg Int32.toInt (show ge S92 40 0 1 = (0 : Int32) from (by rw [E92]; exact (ge_puj (by decide)).trans ((fT85.1 40 0 1 rfl).trans (by rw [E78]; exact (ge_puj (by decide)).trans (by rw [E77]; exact (ge_puj (by decide)).trans (by rw [E76]; exact (ge_puj (by decide)).trans (by rw [E26]; exact (ge_puj (by decide)).trans (by rw [E25]; exact ge_pus))))))))
                have q100 : (ge S92 40 0 13).toInt = y5.toInt := congrArg Int32.toInt (show ge S92 40 0 13 = y5 from (by rw [E92]; exact (ge_puj (by decide)).trans ((fT85.1 40 0 13 rfl).trans (by rw [E78]; exact (ge_puj (by decide)).trans (by rw [E77]; exact (ge_puj (by decide)).trans (by rw [E76]; exact (ge_puj (by decide)).trans (by rw [E26]; exact (ge_puj (by decide)).trans (by rw [E25]; exact (ge_puj (by decide)).trans ((fT18.1 40 0 13 rfl).trans (by rw [E9]; exact (ge_puj (by decide)).trans ey5.symm))))))))))
                have q101 : (ge S92 40 0 14).toInt = y7.toInt := congrArg Int32.toInt (show ge S92 40 0 14 = y7 from (by rw [E92]; exact (ge_puj (by decide)).trans ((fT85.1 40 0 14 rfl).trans (by rw [E78]; exact (ge_puj (by decide)).trans (by rw [E77]; exact (ge_puj (by decide)).trans (by rw [E76]; exact (ge_puj (by decide)).trans (by rw [E26]; exact (ge_puj (by decide)).trans (by rw [E25]; exact (ge_puj (by decide)).trans ((fT18.1 40 0 14 rfl).trans (by rw [E9]; exact (ge_puj (by decide)).trans ey7.symm))))))))))
                refine zk_imp (s_B_X7_program_144 _ _ RS92 (by (try dsimp only) <;> omega) (by (try dsimp only) <;> omega)) (fun v102 T103 h102 => ?_)
                obtain ⟨RT103, fT103, h102⟩ := h102
                have FT103 := FS92.tr (fT103.sub (m := 13459718144) (by decide))
                have q104 : (ge T103 40 0 0).toInt = y86.toInt := congrArg Int32.toInt (show ge T103 40 0 0 = y86 from ((fT103.1 40 0 0 rfl).trans (by rw [E92]; exact (ge_puj (by decide)).trans ey86.symm)))
                have q105 : (ge T103 40 0 1).toInt = (0 : Int32).toInt := congrArg Int32.toInt (show ge T103 40 0 1 = (0 : Int32) from ((fT103.1 40 0 1 rfl).trans (by rw [E92]; exact (ge_puj (by decide)).trans ((fT85.1 40 0 1 rfl).trans (by rw [E78]; exact (ge_puj (by decide)).trans (by rw [E77]; exact (ge_puj (by decide)).trans (by rw [E76]; exact (ge_puj (by decide)).trans (by rw [E26]; exact (ge_puj (by decide)).trans (by rw [E25]; exact ge_pus)))))))))
                obtain ⟨y106, ey106⟩ : ∃ y : Int32, y = ge T103 40 0 13 := ⟨_, rfl⟩
                have gy106 : 0 ≤ y106.toInt ∧ y106.toInt ≤ 6 := by rw [ey106]; exact RT103 40 _ _
                have q107 : (ge T103 40 0 13).toInt = y106.toInt := congrArg Int32.toInt (show ge T103 40 0 13 = y106 from ey106.symm)
                obtain ⟨y108, ey108⟩ : ∃ y : Int32, y = ge T103 40 0 14 := ⟨_, rfl⟩
                have gy108 : 0 ≤ y108.toInt ∧ y108.toInt ≤ 3 := by rw [ey108]; exact RT103 40 _ _
                have q109 : (ge T103 40 0 14).toInt = y108.toInt := congrArg Int32.toInt (show ge T103 40 0 14 = y108 from ey108.symm)
                try dsimp only at h102
                exact ⟨RT103, FT103, by omega⟩
            ·
              refine zk_ivq (x := x93) e93.symm ?_
              refine zk_iv fun x110 e110 => ?_
              have q111 : (ge S92 40 0 0).toInt = y86.toInt := congrArg Int32.toInt (show ge S92 40 0 0 = y86 from (by rw [E92]; exact (ge_puj (by decide)).trans ey86.symm))
              have q112 : (ge S92 40 0 1).toInt = (0 : Int32).toInt := congrArg Int32.toInt (show ge S92 40 0 1 = (0 : Int32) from (by rw [E92]; exact (ge_puj (by decide)).trans ((fT85.1 40 0 1 rfl).trans (by rw [E78]; exact (ge_puj (by decide)).trans (by rw [E77]; exact (ge_puj (by decide)).trans (by rw [E76]; exact (ge_puj (by decide)).trans (by rw [E26]; exact (ge_puj (by decide)).trans (by rw [E25]; exact ge_pus))))))))
              have q113 : (ge S92 40 0 13).toInt = y5.toInt := congrArg Int32.toInt (show ge S92 40 0 13 = y5 from (by rw [E92]; exact (ge_puj (by decide)).trans ((fT85.1 40 0 13 rfl).trans (by rw [E78]; exact (ge_puj (by decide)).trans (by rw [E77]; exact (ge_puj (by decide)).trans (by rw [E76]; exact (ge_puj (by decide)).trans (by rw [E26]; exact (ge_puj (by decide)).trans (by rw [E25]; exact (ge_puj (by decide)).trans ((fT18.1 40 0 13 rfl).trans (by rw [E9]; exact (ge_puj (by decide)).trans ey5.symm))))))))))
              have q114 : (ge S92 40 0 14).toInt = y7.toInt := congrArg Int32.toInt (show ge S92 40 0 14 = y7 from (by rw [E92]; exact (ge_puj (by decide)).trans ((fT85.1 40 0 14 rfl).trans (by rw [E78]; exact (ge_puj (by decide)).trans (by rw [E77]; exact (ge_puj (by decide)).trans (by rw [E76]; exact (ge_puj (by decide)).trans (by rw [E26]; exact (ge_puj (by decide)).trans (by rw [E25]; exact (ge_puj (by decide)).trans ((fT18.1 40 0 14 rfl).trans (by rw [E9]; exact (ge_puj (by decide)).trans ey7.symm))))))))))
              exact zk_some ⟨RS92, FS92, by omega⟩
    ·
      have q115 : (ge T18 40 0 0).toInt = y19.toInt := congrArg Int32.toInt (show ge T18 40 0 0 = y19 from ey19.symm)
      have q116 : (ge T18 40 0 1).toInt = y3.toInt := congrArg Int32.toInt (show ge T18 40 0 1 = y3 from ((fT18.1 40 0 1 rfl).trans (by rw [E9]; exact (ge_puj (by decide)).trans ey3.symm)))
      have q117 : (ge T18 40 0 13).toInt = y5.toInt := congrArg Int32.toInt (show ge T18 40 0 13 = y5 from ((fT18.1 40 0 13 rfl).trans (by rw [E9]; exact (ge_puj (by decide)).trans ey5.symm)))
      have q118 : (ge T18 40 0 14).toInt = y7.toInt := congrArg Int32.toInt (show ge T18 40 0 14 = y7 from ((fT18.1 40 0 14 rfl).trans (by rw [E9]; exact (ge_puj (by decide)).trans ey7.symm)))
      exact zk_some ⟨RT18, FT18, by omega⟩
  ·
    unfold B_X7_program_23
    have q119 : (ge S9 40 0 0).toInt = (0 : Int32).toInt := congrArg Int32.toInt (show ge S9 40 0 0 = (0 : Int32) from (by rw [E9]; exact ge_pus))
    have q120 : (ge S9 40 0 1).toInt = y3.toInt := congrArg Int32.toInt (show ge S9 40 0 1 = y3 from (by rw [E9]; exact (ge_puj (by decide)).trans ey3.symm))
    have q121 : (ge S9 40 0 13).toInt = y5.toInt := congrArg Int32.toInt (show ge S9 40 0 13 = y5 from (by rw [E9]; exact (ge_puj (by decide)).trans ey5.symm))
    have q122 : (ge S9 40 0 14).toInt = y7.toInt := congrArg Int32.toInt (show ge S9 40 0 14 = y7 from (by rw [E9]; exact (ge_puj (by decide)).trans ey7.symm))
    refine zk_bd (s_F_X7_bad _ _ _ RS9 (by omega)) (fun v123 T124 h123 => ?_)
    obtain ⟨RT124, fT124, h123⟩ := h123
    have FT124 := FS9.tr (fT124.sub (m := 13459718144) (by decide))
    obtain ⟨y125, ey125⟩ : ∃ y : Int32, y = ge T124 40 0 0 := ⟨_, rfl⟩
    have q126 : (ge T124 40 0 0).toInt = y125.toInt := congrArg Int32.toInt (show ge T124 40 0 0 = y125 from ey125.symm)
    have q127 : (ge T124 40 0 1).toInt = y3.toInt := congrArg Int32.toInt (show ge T124 40 0 1 = y3 from ((fT124.1 40 0 1 rfl).trans (by rw [E9]; exact (ge_puj (by decide)).trans ey3.symm)))
    have q128 : (ge T124 40 0 13).toInt = y5.toInt := congrArg Int32.toInt (show ge T124 40 0 13 = y5 from ((fT124.1 40 0 13 rfl).trans (by rw [E9]; exact (ge_puj (by decide)).trans ey5.symm)))
    have q129 : (ge T124 40 0 14).toInt = y7.toInt := congrArg Int32.toInt (show ge T124 40 0 14 = y7 from ((fT124.1 40 0 14 rfl).trans (by rw [E9]; exact (ge_puj (by decide)).trans ey7.symm)))
    refine zk_eq (fun c130 => ?_) (fun c130 => ?_)
    ·
      refine zk_sv fun S131 E131 => ?_
      have RS131 : RI S131 := by rw [E131]; exact RT124.wr (show (0 : Int) ≤ (0 : Int32).toInt by omega) (show (0 : Int32).toInt ≤ 300 by omega)
      have FS131 : Fr 13459718144 S0 S131 := by rw [E131]; exact FT124.wr (k := 17) rfl rfl
      refine zk_sv fun S132 E132 => ?_
      have RS132 : RI S132 := by rw [E132]; exact RS131.wf rfl
      have FS132 : Fr 13459718144 S0 S132 := by rw [E132]; exact FS131.wr (k := 16) rfl rfl
      refine zk_eq (fun c133 => ?_) (fun c133 => ?_)
      ·
        refine zk_ivq (x := y5) (by rw [E132]; exact (ge_puj (by decide)).trans (by rw [E131]; exact (ge_puj (by decide)).trans ((fT124.1 40 0 13 rfl).trans (by rw [E9]; exact (ge_puj (by decide)).trans ey5.symm)))) ?_
        refine zk_eq (fun c134 => ?_) (fun c134 => ?_)
        ·
          have q135 : (ge S132 40 0 0).toInt = y125.toInt := congrArg Int32.toInt (show ge S132 40 0 0 = y125 from (by rw [E132]; exact (ge_puj (by decide)).trans (by rw [E131]; exact (ge_puj (by decide)).trans ey125.symm)))
          have q136 : (ge S132 40 0 1).toInt = (0 : Int32).toInt := congrArg Int32.toInt (show ge S132 40 0 1 = (0 : Int32) from (by rw [E132]; exact (ge_puj (by decide)).trans (by rw [E131]; exact ge_pus)))
          have q137 : (ge S132 40 0 13).toInt = y5.toInt := congrArg Int32.toInt (show ge S132 40 0 13 = y5 from (by rw [E132]; exact (ge_puj (by decide)).trans (by rw [E131]; exact (ge_puj (by decide)).trans ((fT124.1 40 0 13 rfl).trans (by rw [E9]; exact (ge_puj (by decide)).trans ey5.symm)))))
          have q138 : (ge S132 40 0 14).toInt = y7.toInt := congrArg Int32.toInt (show ge S132 40 0 14 = y7 from (by rw [E132]; exact (ge_puj (by decide)).trans (by rw [E131]; exact (ge_puj (by decide)).trans ((fT124.1 40 0 14 rfl).trans (by rw [E9]; exact (ge_puj (by decide)).trans ey7.symm)))))
          exact zk_some ⟨RS132, FS132, by omega⟩
        ·
          unfold B_X7_program_68
          refine zk_sv fun S139 E139 => ?_
          have RS139 : RI S139 := by rw [E139]; exact RS132.wr (show (-1 : Int) ≤ ((-1) : Int32).toInt by omega) (show ((-1) : Int32).toInt ≤ 8 by omega)
          have FS139 : Fr 13459718144 S0 S139 := by rw [E139]; exact FS132.wr (k := 25) rfl rfl
          refine zk_sv fun S140 E140 => ?_
          have RS140 : RI S140 := by rw [E140]; exact RS139.wr (show (0 : Int) ≤ p1.toInt by omega) (show p1.toInt ≤ 300 by omega)
          have FS140 : Fr 13459718144 S0 S140 := by rw [E140]; exact FS139.wr (k := 25) rfl rfl
          refine zk_gd (z01 (by omega)) ?_
          refine zk_sv fun S141 E141 => ?_
          have RS141 : RI S141 := by rw [E141]; exact RS140.wr (show (0 : Int) ≤ p2.toInt by omega) (show p2.toInt ≤ 1 by omega)
          have FS141 : Fr 13459718144 S0 S141 := by rw [E141]; exact FS140.wr (k := 16) rfl rfl
          refine zk_eq (fun c142 => ?_) (fun c142 => ?_)
          ·
            have q143 : (ge S141 40 0 0).toInt = y125.toInt := congrArg Int32.toInt (show ge S141 40 0 0 = y125 from (by rw [E141]; exact (ge_puj (by decide)).trans (by rw [E140]; exact (ge_puj (by decide)).trans (by rw [E139]; exact (ge_puj (by decide)).trans (by rw [E132]; exact (ge_puj (by decide)).trans (by rw [E131]; exact (ge_puj (by decide)).trans ey125.symm))))))
            have q144 : (ge S141 40 0 1).toInt = (0 : Int32).toInt := congrArg Int32.toInt (show ge S141 40 0 1 = (0 : Int32) from (by rw [E141]; exact (ge_puj (by decide)).trans (by rw [E140]; exact (ge_puj (by decide)).trans (by rw [E139]; exact (ge_puj (by decide)).trans (by rw [E132]; exact (ge_puj (by decide)).trans (by rw [E131]; exact ge_pus))))))
            have q145 : (ge S141 40 0 13).toInt = y5.toInt := congrArg Int32.toInt (show ge S141 40 0 13 = y5 from (by rw [E141]; exact (ge_puj (by decide)).trans (by rw [E140]; exact (ge_puj (by decide)).trans (by rw [E139]; exact (ge_puj (by decide)).trans (by rw [E132]; exact (ge_puj (by decide)).trans (by rw [E131]; exact (ge_puj (by decide)).trans ((fT124.1 40 0 13 rfl).trans (by rw [E9]; exact (ge_puj (by decide)).trans ey5.symm))))))))
            have q146 : (ge S141 40 0 14).toInt = y7.toInt := congrArg Int32.toInt (show ge S141 40 0 14 = y7 from (by rw [E141]; exact (ge_puj (by decide)).trans (by rw [E140]; exact (ge_puj (by decide)).trans (by rw [E139]; exact (ge_puj (by decide)).trans (by rw [E132]; exact (ge_puj (by decide)).trans (by rw [E131]; exact (ge_puj (by decide)).trans ((fT124.1 40 0 14 rfl).trans (by rw [E9]; exact (ge_puj (by decide)).trans ey7.symm))))))))
            refine zk_bd (s_F_X7_walks _ RS141) (fun v147 T148 h147 => ?_)
            obtain ⟨RT148, fT148, h147⟩ := h147
            have FT148 := FS141.tr (fT148.sub (m := 13459718144) (by decide))
            obtain ⟨y149, ey149⟩ : ∃ y : Int32, y = ge T148 40 0 0 := ⟨_, rfl⟩
            have q150 : (ge T148 40 0 0).toInt = y149.toInt := congrArg Int32.toInt (show ge T148 40 0 0 = y149 from ey149.symm)
            have q151 : (ge T148 40 0 1).toInt = (0 : Int32).toInt := congrArg Int32.toInt (show ge T148 40 0 1 = (0 : Int32) from ((fT148.1 40 0 1 rfl).trans (by rw [E141]; exact (ge_puj (by decide)).trans (by rw [E140]; exact (ge_puj (by decide)).trans (by rw [E139]; exact (ge_puj (by decide)).trans (by rw [E132]; exact (ge_puj (by decide)).trans (by rw [E131]; exact ge_pus)))))))
            have q152 : (ge T148 40 0 13).toInt = y5.toInt := congrArg Int32.toInt (show ge T148 40 0 13 = y5 from ((fT148.1 40 0 13 rfl).trans (by rw [E141]; exact (ge_puj (by decide)).trans (by rw [E140]; exact (ge_puj (by decide)).trans (by rw [E139]; exact (ge_puj (by decide)).trans (by rw [E132]; exact (ge_puj (by decide)).trans (by rw [E131]; exact (ge_puj (by decide)).trans ((fT124.1 40 0 13 rfl).trans (by rw [E9]; exact (ge_puj (by decide)).trans ey5.symm)))))))))
            have q153 : (ge T148 40 0 14).toInt = y7.toInt := congrArg Int32.toInt (show ge T148 40 0 14 = y7 from ((fT148.1 40 0 14 rfl).trans (by rw [E141]; exact (ge_puj (by decide)).trans (by rw [E140]; exact (ge_puj (by decide)).trans (by rw [E139]; exact (ge_puj (by decide)).trans (by rw [E132]; exact (ge_puj (by decide)).trans (by rw [E131]; exact (ge_puj (by decide)).trans ((fT124.1 40 0 14 rfl).trans (by rw [E9]; exact (ge_puj (by decide)).trans ey7.symm)))))))))
            unfold B_X7_program_99
            refine zk_iv fun x154 e154 => ?_
            refine zk_sv fun S155 E155 => ?_
            have RS155 : RI S155 := by rw [E155]; exact RT148.wf rfl
            have FS155 : Fr 13459718144 S0 S155 := by rw [E155]; exact FT148.wr (k := 16) rfl rfl
            refine zk_iv fun x156 e156 => ?_
            have b157 := ti_bd x156
            refine zk_eq (fun c158 => ?_) (fun c158 => ?_)
            ·
              refine zk_eq (fun c159 => ?_) (fun c159 => ?_)
              ·
                refine zk_ivq (x := y5) (by rw [E155]; exact (ge_puj (by decide)).trans ((fT148.1 40 0 13 rfl).trans (by rw [E141]; exact (ge_puj (by decide)).trans (by rw [E140]; exact (ge_puj (by decide)).trans (by rw [E139]; exact (ge_puj (by decide)).trans (by rw [E132]; exact (ge_puj (by decide)).trans (by rw [E131]; exact (ge_puj (by decide)).trans ((fT124.1 40 0 13 rfl).trans (by rw [E9]; exact (ge_puj (by decide)).trans ey5.symm))))))))) ?_
                unfold B_X7_program_140
                have q160 : (ge S155 40 0 0).toInt = y149.toInt := congrArg Int32.toInt (show ge S155 40 0 0 = y149 from (by rw [E155]; exact (ge_puj (by decide)).trans ey149.symm))
                have q161 : (ge S155 40 0 1).toInt = (0 : Int32).toInt := congrArg Int32.toInt (show ge S155 40 0 1 = (0 : Int32) from (by rw [E155]; exact (ge_puj (by decide)).trans ((fT148.1 40 0 1 rfl).trans (by rw [E141]; exact (ge_puj (by decide)).trans (by rw [E140]; exact (ge_puj (by decide)).trans (by rw [E139]; exact (ge_puj (by decide)).trans (by rw [E132]; exact (ge_puj (by decide)).trans (by rw [E131]; exact ge_pus))))))))
                have q162 : (ge S155 40 0 13).toInt = y5.toInt := congrArg Int32.toInt (show ge S155 40 0 13 = y5 from (by rw [E155]; exact (ge_puj (by decide)).trans ((fT148.1 40 0 13 rfl).trans (by rw [E141]; exact (ge_puj (by decide)).trans (by rw [E140]; exact (ge_puj (by decide)).trans (by rw [E139]; exact (ge_puj (by decide)).trans (by rw [E132]; exact (ge_puj (by decide)).trans (by rw [E131]; exact (ge_puj (by decide)).trans ((fT124.1 40 0 13 rfl).trans (by rw [E9]; exact (ge_puj (by decide)).trans ey5.symm))))))))))
                have q163 : (ge S155 40 0 14).toInt = y7.toInt := congrArg Int32.toInt (show ge S155 40 0 14 = y7 from (by rw [E155]; exact (ge_puj (by decide)).trans ((fT148.1 40 0 14 rfl).trans (by rw [E141]; exact (ge_puj (by decide)).trans (by rw [E140]; exact (ge_puj (by decide)).trans (by rw [E139]; exact (ge_puj (by decide)).trans (by rw [E132]; exact (ge_puj (by decide)).trans (by rw [E131]; exact (ge_puj (by decide)).trans ((fT124.1 40 0 14 rfl).trans (by rw [E9]; exact (ge_puj (by decide)).trans ey7.symm))))))))))
                refine zk_imp (s_B_X7_program_144 _ _ RS155 (by (try dsimp only) <;> omega) (by (try dsimp only) <;> omega)) (fun v164 T165 h164 => ?_)
                obtain ⟨RT165, fT165, h164⟩ := h164
                have FT165 := FS155.tr (fT165.sub (m := 13459718144) (by decide))
                have q166 : (ge T165 40 0 0).toInt = y149.toInt := congrArg Int32.toInt (show ge T165 40 0 0 = y149 from ((fT165.1 40 0 0 rfl).trans (by rw [E155]; exact (ge_puj (by decide)).trans ey149.symm)))
                have q167 : (ge T165 40 0 1).toInt = (0 : Int32).toInt := congrArg Int32.toInt (show ge T165 40 0 1 = (0 : Int32) from ((fT165.1 40 0 1 rfl).trans (by rw [E155]; exact (ge_puj (by decide)).trans ((fT148.1 40 0 1 rfl).trans (by rw [E141]; exact (ge_puj (by decide)).trans (by rw [E140]; exact (ge_puj (by decide)).trans (by rw [E139]; exact (ge_puj (by decide)).trans (by rw [E132]; exact (ge_puj (by decide)).trans (by rw [E131]; exact ge_pus)))))))))
                obtain ⟨y168, ey168⟩ : ∃ y : Int32, y = ge T165 40 0 13 := ⟨_, rfl⟩
                have gy168 : 0 ≤ y168.toInt ∧ y168.toInt ≤ 6 := by rw [ey168]; exact RT165 40 _ _
                have q169 : (ge T165 40 0 13).toInt = y168.toInt := congrArg Int32.toInt (show ge T165 40 0 13 = y168 from ey168.symm)
                obtain ⟨y170, ey170⟩ : ∃ y : Int32, y = ge T165 40 0 14 := ⟨_, rfl⟩
                have gy170 : 0 ≤ y170.toInt ∧ y170.toInt ≤ 3 := by rw [ey170]; exact RT165 40 _ _
                have q171 : (ge T165 40 0 14).toInt = y170.toInt := congrArg Int32.toInt (show ge T165 40 0 14 = y170 from ey170.symm)
                try dsimp only at h164
                exact ⟨RT165, FT165, by omega⟩
              ·
                exact False.elim (by omega)
            ·
              refine zk_ivq (x := x156) e156.symm ?_
              refine zk_iv fun x172 e172 => ?_
              have q173 : (ge S155 40 0 0).toInt = y149.toInt := congrArg Int32.toInt (show ge S155 40 0 0 = y149 from (by rw [E155]; exact (ge_puj (by decide)).trans ey149.symm))
              have q174 : (ge S155 40 0 1).toInt = (0 : Int32).toInt := congrArg Int32.toInt (show ge S155 40 0 1 = (0 : Int32) from (by rw [E155]; exact (ge_puj (by decide)).trans ((fT148.1 40 0 1 rfl).trans (by rw [E141]; exact (ge_puj (by decide)).trans (by rw [E140]; exact (ge_puj (by decide)).trans (by rw [E139]; exact (ge_puj (by decide)).trans (by rw [E132]; exact (ge_puj (by decide)).trans (by rw [E131]; exact ge_pus))))))))
              have q175 : (ge S155 40 0 13).toInt = y5.toInt := congrArg Int32.toInt (show ge S155 40 0 13 = y5 from (by rw [E155]; exact (ge_puj (by decide)).trans ((fT148.1 40 0 13 rfl).trans (by rw [E141]; exact (ge_puj (by decide)).trans (by rw [E140]; exact (ge_puj (by decide)).trans (by rw [E139]; exact (ge_puj (by decide)).trans (by rw [E132]; exact (ge_puj (by decide)).trans (by rw [E131]; exact (ge_puj (by decide)).trans ((fT124.1 40 0 13 rfl).trans (by rw [E9]; exact (ge_puj (by decide)).trans ey5.symm))))))))))
              have q176 : (ge S155 40 0 14).toInt = y7.toInt := congrArg Int32.toInt (show ge S155 40 0 14 = y7 from (by rw [E155]; exact (ge_puj (by decide)).trans ((fT148.1 40 0 14 rfl).trans (by rw [E141]; exact (ge_puj (by decide)).trans (by rw [E140]; exact (ge_puj (by decide)).trans (by rw [E139]; exact (ge_puj (by decide)).trans (by rw [E132]; exact (ge_puj (by decide)).trans (by rw [E131]; exact (ge_puj (by decide)).trans ((fT124.1 40 0 14 rfl).trans (by rw [E9]; exact (ge_puj (by decide)).trans ey7.symm))))))))))
              exact zk_some ⟨RS155, FS155, by omega⟩
          ·
            exact False.elim (by omega)
      ·
        refine zk_ivq (x := y7) (by rw [E132]; exact (ge_puj (by decide)).trans (by rw [E131]; exact (ge_puj (by decide)).trans ((fT124.1 40 0 14 rfl).trans (by rw [E9]; exact (ge_puj (by decide)).trans ey7.symm)))) ?_
        refine zk_eq (fun c177 => ?_) (fun c177 => ?_)
        ·
          have q178 : (ge S132 40 0 0).toInt = y125.toInt := congrArg Int32.toInt (show ge S132 40 0 0 = y125 from (by rw [E132]; exact (ge_puj (by decide)).trans (by rw [E131]; exact (ge_puj (by decide)).trans ey125.symm)))
          have q179 : (ge S132 40 0 1).toInt = (0 : Int32).toInt := congrArg Int32.toInt (show ge S132 40 0 1 = (0 : Int32) from (by rw [E132]; exact (ge_puj (by decide)).trans (by rw [E131]; exact ge_pus)))
          have q180 : (ge S132 40 0 13).toInt = y5.toInt := congrArg Int32.toInt (show ge S132 40 0 13 = y5 from (by rw [E132]; exact (ge_puj (by decide)).trans (by rw [E131]; exact (ge_puj (by decide)).trans ((fT124.1 40 0 13 rfl).trans (by rw [E9]; exact (ge_puj (by decide)).trans ey5.symm)))))
          have q181 : (ge S132 40 0 14).toInt = y7.toInt := congrArg Int32.toInt (show ge S132 40 0 14 = y7 from (by rw [E132]; exact (ge_puj (by decide)).trans (by rw [E131]; exact (ge_puj (by decide)).trans ((fT124.1 40 0 14 rfl).trans (by rw [E9]; exact (ge_puj (by decide)).trans ey7.symm)))))
          exact zk_some ⟨RS132, FS132, by omega⟩
        ·
          unfold B_X7_program_68
          refine zk_sv fun S182 E182 => ?_
          have RS182 : RI S182 := by rw [E182]; exact RS132.wr (show (-1 : Int) ≤ ((-1) : Int32).toInt by omega) (show ((-1) : Int32).toInt ≤ 8 by omega)
          have FS182 : Fr 13459718144 S0 S182 := by rw [E182]; exact FS132.wr (k := 25) rfl rfl
          refine zk_sv fun S183 E183 => ?_
          have RS183 : RI S183 := by rw [E183]; exact RS182.wr (show (0 : Int) ≤ p1.toInt by omega) (show p1.toInt ≤ 300 by omega)
          have FS183 : Fr 13459718144 S0 S183 := by rw [E183]; exact FS182.wr (k := 25) rfl rfl
          refine zk_gd (z01 (by omega)) ?_
          refine zk_sv fun S184 E184 => ?_
          have RS184 : RI S184 := by rw [E184]; exact RS183.wr (show (0 : Int) ≤ p2.toInt by omega) (show p2.toInt ≤ 1 by omega)
          have FS184 : Fr 13459718144 S0 S184 := by rw [E184]; exact FS183.wr (k := 16) rfl rfl
          refine zk_eq (fun c185 => ?_) (fun c185 => ?_)
          ·
            exact False.elim (by omega)
          ·
            have q186 : (ge S184 40 0 0).toInt = y125.toInt := congrArg Int32.toInt (show ge S184 40 0 0 = y125 from (by rw [E184]; exact (ge_puj (by decide)).trans (by rw [E183]; exact (ge_puj (by decide)).trans (by rw [E182]; exact (ge_puj (by decide)).trans (by rw [E132]; exact (ge_puj (by decide)).trans (by rw [E131]; exact (ge_puj (by decide)).trans ey125.symm))))))
            have q187 : (ge S184 40 0 1).toInt = (0 : Int32).toInt := congrArg Int32.toInt (show ge S184 40 0 1 = (0 : Int32) from (by rw [E184]; exact (ge_puj (by decide)).trans (by rw [E183]; exact (ge_puj (by decide)).trans (by rw [E182]; exact (ge_puj (by decide)).trans (by rw [E132]; exact (ge_puj (by decide)).trans (by rw [E131]; exact ge_pus))))))
            have q188 : (ge S184 40 0 13).toInt = y5.toInt := congrArg Int32.toInt (show ge S184 40 0 13 = y5 from (by rw [E184]; exact (ge_puj (by decide)).trans (by rw [E183]; exact (ge_puj (by decide)).trans (by rw [E182]; exact (ge_puj (by decide)).trans (by rw [E132]; exact (ge_puj (by decide)).trans (by rw [E131]; exact (ge_puj (by decide)).trans ((fT124.1 40 0 13 rfl).trans (by rw [E9]; exact (ge_puj (by decide)).trans ey5.symm))))))))
            have q189 : (ge S184 40 0 14).toInt = y7.toInt := congrArg Int32.toInt (show ge S184 40 0 14 = y7 from (by rw [E184]; exact (ge_puj (by decide)).trans (by rw [E183]; exact (ge_puj (by decide)).trans (by rw [E182]; exact (ge_puj (by decide)).trans (by rw [E132]; exact (ge_puj (by decide)).trans (by rw [E131]; exact (ge_puj (by decide)).trans ((fT124.1 40 0 14 rfl).trans (by rw [E9]; exact (ge_puj (by decide)).trans ey7.symm))))))))
            refine zk_bd (s_F_X7_walksLaw _ RS184) (fun v190 T191 h190 => ?_)
            obtain ⟨RT191, fT191, h190⟩ := h190
            have FT191 := FS184.tr (fT191.sub (m := 13459718144) (by decide))
            obtain ⟨y192, ey192⟩ : ∃ y : Int32, y = ge T191 40 0 0 := ⟨_, rfl⟩
            have q193 : (ge T191 40 0 0).toInt = y192.toInt := congrArg Int32.toInt (show ge T191 40 0 0 = y192 from ey192.symm)
            have q194 : (ge T191 40 0 1).toInt = (0 : Int32).toInt := congrArg Int32.toInt (show ge T191 40 0 1 = (0 : Int32) from ((fT191.1 40 0 1 rfl).trans (by rw [E184]; exact (ge_puj (by decide)).trans (by rw [E183]; exact (ge_puj (by decide)).trans (by rw [E182]; exact (ge_puj (by decide)).trans (by rw [E132]; exact (ge_puj (by decide)).trans (by rw [E131]; exact ge_pus)))))))
            have q195 : (ge T191 40 0 13).toInt = y5.toInt := congrArg Int32.toInt (show ge T191 40 0 13 = y5 from ((fT191.1 40 0 13 rfl).trans (by rw [E184]; exact (ge_puj (by decide)).trans (by rw [E183]; exact (ge_puj (by decide)).trans (by rw [E182]; exact (ge_puj (by decide)).trans (by rw [E132]; exact (ge_puj (by decide)).trans (by rw [E131]; exact (ge_puj (by decide)).trans ((fT124.1 40 0 13 rfl).trans (by rw [E9]; exact (ge_puj (by decide)).trans ey5.symm)))))))))
            have q196 : (ge T191 40 0 14).toInt = y7.toInt := congrArg Int32.toInt (show ge T191 40 0 14 = y7 from ((fT191.1 40 0 14 rfl).trans (by rw [E184]; exact (ge_puj (by decide)).trans (by rw [E183]; exact (ge_puj (by decide)).trans (by rw [E182]; exact (ge_puj (by decide)).trans (by rw [E132]; exact (ge_puj (by decide)).trans (by rw [E131]; exact (ge_puj (by decide)).trans ((fT124.1 40 0 14 rfl).trans (by rw [E9]; exact (ge_puj (by decide)).trans ey7.symm)))))))))
            unfold B_X7_program_99
            refine zk_iv fun x197 e197 => ?_
            refine zk_sv fun S198 E198 => ?_
            have RS198 : RI S198 := by rw [E198]; exact RT191.wf rfl
            have FS198 : Fr 13459718144 S0 S198 := by rw [E198]; exact FT191.wr (k := 16) rfl rfl
            refine zk_iv fun x199 e199 => ?_
            have b200 := ti_bd x199
            refine zk_eq (fun c201 => ?_) (fun c201 => ?_)
            ·
              refine zk_eq (fun c202 => ?_) (fun c202 => ?_)
              ·
                exact False.elim (by omega)
              ·
                refine zk_ivq (x := y7) (by rw [E198]; exact (ge_puj (by decide)).trans ((fT191.1 40 0 14 rfl).trans (by rw [E184]; exact (ge_puj (by decide)).trans (by rw [E183]; exact (ge_puj (by decide)).trans (by rw [E182]; exact (ge_puj (by decide)).trans (by rw [E132]; exact (ge_puj (by decide)).trans (by rw [E131]; exact (ge_puj (by decide)).trans ((fT124.1 40 0 14 rfl).trans (by rw [E9]; exact (ge_puj (by decide)).trans ey7.symm))))))))) ?_
                refine zk_iv fun x203 e203 => ?_
                have gx203 : x203.toInt = (6 : Int32).toInt + y7.toInt := by rw [e203]; exact ti_add (by omega) (by omega)
                unfold B_X7_program_140
                have q204 : (ge S198 40 0 0).toInt = y192.toInt := congrArg Int32.toInt (show ge S198 40 0 0 = y192 from (by rw [E198]; exact (ge_puj (by decide)).trans ey192.symm))
                have q205 : (ge S198 40 0 1).toInt = (0 : Int32).toInt := congrArg Int32.toInt (show ge S198 40 0 1 = (0 : Int32) from (by rw [E198]; exact (ge_puj (by decide)).trans ((fT191.1 40 0 1 rfl).trans (by rw [E184]; exact (ge_puj (by decide)).trans (by rw [E183]; exact (ge_puj (by decide)).trans (by rw [E182]; exact (ge_puj (by decide)).trans (by rw [E132]; exact (ge_puj (by decide)).trans (by rw [E131]; exact ge_pus))))))))
                have q206 : (ge S198 40 0 13).toInt = y5.toInt := congrArg Int32.toInt (show ge S198 40 0 13 = y5 from (by rw [E198]; exact (ge_puj (by decide)).trans ((fT191.1 40 0 13 rfl).trans (by rw [E184]; exact (ge_puj (by decide)).trans (by rw [E183]; exact (ge_puj (by decide)).trans (by rw [E182]; exact (ge_puj (by decide)).trans (by rw [E132]; exact (ge_puj (by decide)).trans (by rw [E131]; exact (ge_puj (by decide)).trans ((fT124.1 40 0 13 rfl).trans (by rw [E9]; exact (ge_puj (by decide)).trans ey5.symm))))))))))
                have q207 : (ge S198 40 0 14).toInt = y7.toInt := congrArg Int32.toInt (show ge S198 40 0 14 = y7 from (by rw [E198]; exact (ge_puj (by decide)).trans ((fT191.1 40 0 14 rfl).trans (by rw [E184]; exact (ge_puj (by decide)).trans (by rw [E183]; exact (ge_puj (by decide)).trans (by rw [E182]; exact (ge_puj (by decide)).trans (by rw [E132]; exact (ge_puj (by decide)).trans (by rw [E131]; exact (ge_puj (by decide)).trans ((fT124.1 40 0 14 rfl).trans (by rw [E9]; exact (ge_puj (by decide)).trans ey7.symm))))))))))
                refine zk_imp (s_B_X7_program_144 _ _ RS198 (by (try dsimp only) <;> omega) (by (try dsimp only) <;> omega)) (fun v208 T209 h208 => ?_)
                obtain ⟨RT209, fT209, h208⟩ := h208
                have FT209 := FS198.tr (fT209.sub (m := 13459718144) (by decide))
                have q210 : (ge T209 40 0 0).toInt = y192.toInt := congrArg Int32.toInt (show ge T209 40 0 0 = y192 from ((fT209.1 40 0 0 rfl).trans (by rw [E198]; exact (ge_puj (by decide)).trans ey192.symm)))
                have q211 : (ge T209 40 0 1).toInt = (0 : Int32).toInt := congrArg Int32.toInt (show ge T209 40 0 1 = (0 : Int32) from ((fT209.1 40 0 1 rfl).trans (by rw [E198]; exact (ge_puj (by decide)).trans ((fT191.1 40 0 1 rfl).trans (by rw [E184]; exact (ge_puj (by decide)).trans (by rw [E183]; exact (ge_puj (by decide)).trans (by rw [E182]; exact (ge_puj (by decide)).trans (by rw [E132]; exact (ge_puj (by decide)).trans (by rw [E131]; exact ge_pus)))))))))
                obtain ⟨y212, ey212⟩ : ∃ y : Int32, y = ge T209 40 0 13 := ⟨_, rfl⟩
                have gy212 : 0 ≤ y212.toInt ∧ y212.toInt ≤ 6 := by rw [ey212]; exact RT209 40 _ _
                have q213 : (ge T209 40 0 13).toInt = y212.toInt := congrArg Int32.toInt (show ge T209 40 0 13 = y212 from ey212.symm)
                obtain ⟨y214, ey214⟩ : ∃ y : Int32, y = ge T209 40 0 14 := ⟨_, rfl⟩
                have gy214 : 0 ≤ y214.toInt ∧ y214.toInt ≤ 3 := by rw [ey214]; exact RT209 40 _ _
                have q215 : (ge T209 40 0 14).toInt = y214.toInt := congrArg Int32.toInt (show ge T209 40 0 14 = y214 from ey214.symm)
                try dsimp only at h208
                exact ⟨RT209, FT209, by omega⟩
            ·
              refine zk_ivq (x := x199) e199.symm ?_
              refine zk_iv fun x216 e216 => ?_
              have q217 : (ge S198 40 0 0).toInt = y192.toInt := congrArg Int32.toInt (show ge S198 40 0 0 = y192 from (by rw [E198]; exact (ge_puj (by decide)).trans ey192.symm))
              have q218 : (ge S198 40 0 1).toInt = (0 : Int32).toInt := congrArg Int32.toInt (show ge S198 40 0 1 = (0 : Int32) from (by rw [E198]; exact (ge_puj (by decide)).trans ((fT191.1 40 0 1 rfl).trans (by rw [E184]; exact (ge_puj (by decide)).trans (by rw [E183]; exact (ge_puj (by decide)).trans (by rw [E182]; exact (ge_puj (by decide)).trans (by rw [E132]; exact (ge_puj (by decide)).trans (by rw [E131]; exact ge_pus))))))))
              have q219 : (ge S198 40 0 13).toInt = y5.toInt := congrArg Int32.toInt (show ge S198 40 0 13 = y5 from (by rw [E198]; exact (ge_puj (by decide)).trans ((fT191.1 40 0 13 rfl).trans (by rw [E184]; exact (ge_puj (by decide)).trans (by rw [E183]; exact (ge_puj (by decide)).trans (by rw [E182]; exact (ge_puj (by decide)).trans (by rw [E132]; exact (ge_puj (by decide)).trans (by rw [E131]; exact (ge_puj (by decide)).trans ((fT124.1 40 0 13 rfl).trans (by rw [E9]; exact (ge_puj (by decide)).trans ey5.symm))))))))))
              have q220 : (ge S198 40 0 14).toInt = y7.toInt := congrArg Int32.toInt (show ge S198 40 0 14 = y7 from (by rw [E198]; exact (ge_puj (by decide)).trans ((fT191.1 40 0 14 rfl).trans (by rw [E184]; exact (ge_puj (by decide)).trans (by rw [E183]; exact (ge_puj (by decide)).trans (by rw [E182]; exact (ge_puj (by decide)).trans (by rw [E132]; exact (ge_puj (by decide)).trans (by rw [E131]; exact (ge_puj (by decide)).trans ((fT124.1 40 0 14 rfl).trans (by rw [E9]; exact (ge_puj (by decide)).trans ey7.symm))))))))))
              exact zk_some ⟨RS198, FS198, by omega⟩
    ·
      have q221 : (ge T124 40 0 0).toInt = y125.toInt := congrArg Int32.toInt (show ge T124 40 0 0 = y125 from ey125.symm)
      have q222 : (ge T124 40 0 1).toInt = y3.toInt := congrArg Int32.toInt (show ge T124 40 0 1 = y3 from ((fT124.1 40 0 1 rfl).trans (by rw [E9]; exact (ge_puj (by decide)).trans ey3.symm)))
      have q223 : (ge T124 40 0 13).toInt = y5.toInt := congrArg Int32.toInt (show ge T124 40 0 13 = y5 from ((fT124.1 40 0 13 rfl).trans (by rw [E9]; exact (ge_puj (by decide)).trans ey5.symm)))
      have q224 : (ge T124 40 0 14).toInt = y7.toInt := congrArg Int32.toInt (show ge T124 40 0 14 = y7 from ((fT124.1 40 0 14 rfl).trans (by rw [E9]; exact (ge_puj (by decide)).trans ey7.symm)))
      exact zk_some ⟨RT124, FT124, by omega⟩
