/-! the pure part: the class, tries and counts -/
theorem s_F_X5_nameNext (r0 : Nat) (r1 : Nat) (S0 : fS) (RS0 : RI S0) : zk (F_X5_nameNext r0 r1 S0) (fun v S9 => RI S9 ∧ Fr 2048 S0 S9 ∧ True) := by
  have l0 : (0 : Int32).toInt = 0 := by decide
  have l1 : (1 : Int32).toInt = 1 := by decide
  have l3 : (3 : Int32).toInt = 3 := by decide
  have l4 : (4 : Int32).toInt = 4 := by decide
  have l5 : (5 : Int32).toInt = 5 := by decide
  have l6 : (6 : Int32).toInt = 6 := by decide
  have l7 : (7 : Int32).toInt = 7 := by decide
  have l8 : (8 : Int32).toInt = 8 := by decide
  have l9 : (9 : Int32).toInt = 9 := by decide
  have l10 : (10 : Int32).toInt = 10 := by decide
  have FS0 : Fr 2048 S0 S0 := Fr.rf
  unfold F_X5_nameNext
  refine zk_iv fun x1 e1 => ?_
  refine zk_iv fun x2 e2 => ?_
  refine zk_sv fun S3 E3 => ?_
  have RS3 : RI S3 := by rw [E3]; exact RS0.wf rfl
  have FS3 : Fr 2048 S0 S3 := by rw [E3]; exact FS0.wr (k := 11) rfl rfl
  refine zk_iv fun x4 e4 => ?_
  refine zk_iv fun x5 e5 => ?_
  refine zk_sv fun S6 E6 => ?_
  have RS6 : RI S6 := by rw [E6]; exact RS3.wf rfl
  have FS6 : Fr 2048 S0 S6 := by rw [E6]; exact FS3.wr (k := 11) rfl rfl
  refine zk_iv fun x7 e7 => ?_
  refine zk_iv fun x8 e8 => ?_
  refine zk_iv fun x9 e9 => ?_
  refine zk_sv fun S10 E10 => ?_
  have RS10 : RI S10 := by rw [E10]; exact RS6.wf rfl
  have FS10 : Fr 2048 S0 S10 := by rw [E10]; exact FS6.wr (k := 11) rfl rfl
  refine zk_iv fun x11 e11 => ?_
  refine zk_sv fun S12 E12 => ?_
  have RS12 : RI S12 := by rw [E12]; exact RS10.wf rfl
  have FS12 : Fr 2048 S0 S12 := by rw [E12]; exact FS10.wr (k := 11) rfl rfl
  refine zk_iv fun x13 e13 => ?_
  refine zk_sv fun S14 E14 => ?_
  have RS14 : RI S14 := by rw [E14]; exact RS12.wf rfl
  have FS14 : Fr 2048 S0 S14 := by rw [E14]; exact FS12.wr (k := 11) rfl rfl
  exact zk_some ⟨RS14, FS14, trivial⟩
theorem s_F_X5_measure (r0 : Nat) (p1 : Int32) (S0 : fS) (RS0 : RI S0) : zk (F_X5_measure r0 p1 S0) (fun v S9 => RI S9 ∧ Fr 2048 S0 S9 ∧ True) := by
  have l0 : (0 : Int32).toInt = 0 := by decide
  have l8 : (8 : Int32).toInt = 8 := by decide
  have l9 : (9 : Int32).toInt = 9 := by decide
  have l10 : (10 : Int32).toInt = 10 := by decide
  have l11 : (11 : Int32).toInt = 11 := by decide
  have l12 : (12 : Int32).toInt = 12 := by decide
  have l13 : (13 : Int32).toInt = 13 := by decide
  have FS0 : Fr 2048 S0 S0 := Fr.rf
  unfold F_X5_measure
  refine zk_iv fun x1 e1 => ?_
  refine zk_iv fun x2 e2 => ?_
  have gx2 := zi_max e2
  refine zk_sv fun S3 E3 => ?_
  have RS3 : RI S3 := by rw [E3]; exact RS0.wf rfl
  have FS3 : Fr 2048 S0 S3 := by rw [E3]; exact FS0.wr (k := 11) rfl rfl
  refine zk_iv fun x4 e4 => ?_
  refine zk_iv fun x5 e5 => ?_
  refine zk_iv fun x6 e6 => ?_
  refine zk_iv fun x7 e7 => ?_
  refine zk_iv fun x8 e8 => ?_
  refine zk_iv fun x9 e9 => ?_
  refine zk_sv fun S10 E10 => ?_
  have RS10 : RI S10 := by rw [E10]; exact RS3.wf rfl
  have FS10 : Fr 2048 S0 S10 := by rw [E10]; exact FS3.wr (k := 11) rfl rfl
  refine zk_ivq (x := x2) (by rw [E10]; exact (ge_puj (by decide)).trans (by rw [E3]; exact ge_pus)) ?_
  refine zk_ivq (x := x9) (by rw [E10]; exact ge_pus) ?_
  refine zk_iv fun x11 e11 => ?_
  refine zk_ivq (x := x4) (by rw [E10]; exact (ge_puj (by decide)).trans e4.symm) ?_
  refine zk_iv fun x12 e12 => ?_
  refine zk_ivq (x := x6) (by rw [E10]; exact (ge_puj (by decide)).trans e6.symm) ?_
  refine zk_iv fun x13 e13 => ?_
  refine zk_iv fun x14 e14 => ?_
  refine zk_iv fun x15 e15 => ?_
  refine zk_iv fun x16 e16 => ?_
  refine zk_sv fun S17 E17 => ?_
  have RS17 : RI S17 := by rw [E17]; exact RS10.wf rfl
  have FS17 : Fr 2048 S0 S17 := by rw [E17]; exact FS10.wr (k := 11) rfl rfl
  exact zk_some ⟨RS17, FS17, trivial⟩
theorem s_F_X5_take (r0 : Nat) (r1 : Nat) (p2 : Int32) (S0 : fS) (RS0 : RI S0) : zk (F_X5_take r0 r1 p2 S0) (fun v S9 => RI S9 ∧ Fr 2048 S0 S9 ∧ True) := by
  have l0 : (0 : Int32).toInt = 0 := by decide
  have l1 : (1 : Int32).toInt = 1 := by decide
  have l4 : (4 : Int32).toInt = 4 := by decide
  have l5 : (5 : Int32).toInt = 5 := by decide
  have l14 : (14 : Int32).toInt = 14 := by decide
  have l16 : (16 : Int32).toInt = 16 := by decide
  have FS0 : Fr 2048 S0 S0 := Fr.rf
  unfold F_X5_take
  refine zk_iv fun x1 e1 => ?_
  have gx1 : 0 ≤ x1.toInt ∧ x1.toInt ≤ 5 := by rw [e1]; exact RS0 25 _ _
  refine zk_le (fun c2 => ?_) (fun c2 => ?_)
  ·
    exact zk_some ⟨RS0, FS0, trivial⟩
  ·
    refine zk_bd (s_F_X2_known _ _ _ RS0) (fun v3 T4 h3 => ?_)
    obtain ⟨rfl, h3⟩ := h3
    refine zk_eq (fun c5 => ?_) (fun c5 => ?_)
    ·
      exact zk_some ⟨RS0, FS0, trivial⟩
    ·
      refine zk_ivq (x := x1) e1.symm ?_
      refine zk_gd ⟨by omega, by omega⟩ ?_
      refine zk_sv fun S6 E6 => ?_
      have RS6 : RI S6 := by rw [E6]; exact RS0.wf rfl
      have FS6 : Fr 2048 S0 S6 := by rw [E6]; exact FS0.wr (k := 11) rfl rfl
      refine zk_ivq (x := x1) (by rw [E6]; exact (ge_pua (by decide)).trans e1.symm) ?_
      refine zk_iv fun x7 e7 => ?_
      have gx7 : x7.toInt = x1.toInt + (1 : Int32).toInt := by rw [e7]; exact ti_add (by omega) (by omega)
      refine zk_sv fun S8 E8 => ?_
      have RS8 : RI S8 := by rw [E8]; exact RS6.wr (show (0 : Int) ≤ x7.toInt by omega) (show x7.toInt ≤ 5 by omega)
      have FS8 : Fr 2048 S0 S8 := by rw [E8]; exact FS6.wr (k := 11) rfl rfl
      refine zk_iv fun x9 e9 => ?_
      refine zk_gd ⟨by omega, by omega⟩ ?_
      refine zk_iv fun x10 e10 => ?_
      refine zk_iv fun x11 e11 => ?_
      refine zk_sv fun S12 E12 => ?_
      have RS12 : RI S12 := by rw [E12]; exact RS8.wf rfl
      have FS12 : Fr 2048 S0 S12 := by rw [E12]; exact FS8.wr (k := 11) rfl rfl
      refine zk_gd ⟨by omega, by omega⟩ ?_
      refine zk_iv fun x13 e13 => ?_
      have b14 := ti_bd x13
      refine zk_eq (fun c15 => ?_) (fun c15 => ?_)
      ·
        unfold B_X5_take_74
        refine zk_sv fun S16 E16 => ?_
        have RS16 : RI S16 := by rw [E16]; exact RS12.wf rfl
        have FS16 : Fr 2048 S0 S16 := by rw [E16]; exact FS12.wr (k := 11) rfl rfl
        exact zk_some ⟨RS16, FS16, trivial⟩
      ·
        refine zk_iv fun x17 e17 => ?_
        unfold B_X5_take_74
        refine zk_sv fun S18 E18 => ?_
        have RS18 : RI S18 := by rw [E18]; exact RS12.wf rfl
        have FS18 : Fr 2048 S0 S18 := by rw [E18]; exact FS12.wr (k := 11) rfl rfl
        exact zk_some ⟨RS18, FS18, trivial⟩
theorem s_B_X5_failingStep_2 (r0 : Nat) (z : Int32 × Int32 × Int32) (S : fS) (RS : RI S) (hi : 0 ≤ z.2.2.toInt) (hm : (2147483647 - z.2.2.toInt).toNat < 4294967296) : zk (lp (B_X5_failingStep_2 r0) fuel z S) (fun v S9 => S = S9 ∧ True) := by
  have l10 : (10 : Int32).toInt = 10 := by decide
  have l13 : (13 : Int32).toInt = 13 := by decide
  have l14 : (14 : Int32).toInt = 14 := by decide
  have lo1 : (Int32.ofInt 1).toInt = 1 := by decide
  refine zk_lp (fun z S => RI S ∧ (0 ≤ z.2.2.toInt)) (fun z S => (2147483647 - z.2.2.toInt).toNat) (fun z S (v : Int32) S9 => S = S9 ∧ True) ?_ z S ⟨RS, hi⟩ hm
  clear RS hi hm
  intro k z S hI hk
  obtain ⟨RS, hI⟩ := hI
  obtain ⟨a1, a2, a3⟩ := z
  (try dsimp only at hI); (try dsimp only at hk); (try dsimp only)
  unfold B_X5_failingStep_2
  dsimp only
  refine zk_iv fun x1 e1 => ?_
  have b2 := ti_bd x1
  have b3 := ti_bd a3
  refine zk_le (fun c4 => ?_) (fun c4 => ?_)
  ·
    refine zk_ivq (x := x1) e1.symm ?_
    exact zk_some ⟨rfl, trivial⟩
  ·
    refine zk_iv fun x5 e5 => ?_
    refine zk_iv fun x6 e6 => ?_
    refine zk_iv fun x7 e7 => ?_
    refine zk_iv fun x8 e8 => ?_
    have b9 := ti_bd x8
    have b10 := ti_bd x7
    refine zk_le (fun c11 => ?_) (fun c11 => ?_)
    ·
      refine zk_iv fun x12 e12 => ?_
      have gx12 : x12.toInt = a3.toInt + (Int32.ofInt 1).toInt := by rw [e12]; exact ti_add (by omega) (by omega)
      refine zk_imp (hk (a1, a2, x12) _ ⟨RS, (by (try dsimp only) <;> omega)⟩ (by (try dsimp only) <;> omega)) (fun v13 T14 h13 => ?_)
      obtain ⟨rfl, h13⟩ := h13
      exact ⟨rfl, trivial⟩
    ·
      exact zk_some ⟨rfl, trivial⟩
theorem s_F_X5_failingStep (r0 : Nat) (p1 : Int32) (p2 : Int32) (S0 : fS) (RS0 : RI S0) : zk (F_X5_failingStep r0 p1 p2 S0) (fun v S9 => S0 = S9 ∧ True) := by
  have l0 : (0 : Int32).toInt = 0 := by decide
  unfold F_X5_failingStep
  refine zk_imp (s_B_X5_failingStep_2 r0 _ _ RS0 (by (try dsimp only) <;> omega) (by (try dsimp only) <;> omega)) (fun v1 T2 h1 => ?_)
  obtain ⟨rfl, h1⟩ := h1
  exact ⟨rfl, trivial⟩
theorem s_F_X5_outcomeAt (r0 : Nat) (p1 : Int32) (S0 : fS) (RS0 : RI S0) : zk (F_X5_outcomeAt r0 p1 S0) (fun v S9 => S0 = S9 ∧ True) := by
  have l0 : (0 : Int32).toInt = 0 := by decide
  have l1 : (1 : Int32).toInt = 1 := by decide
  have l2 : (2 : Int32).toInt = 2 := by decide
  have l3 : (3 : Int32).toInt = 3 := by decide
  have l4 : (4 : Int32).toInt = 4 := by decide
  have l5 : (5 : Int32).toInt = 5 := by decide
  have l11 : (11 : Int32).toInt = 11 := by decide
  have l13 : (13 : Int32).toInt = 13 := by decide
  unfold F_X5_outcomeAt
  refine zk_iv fun x1 e1 => ?_
  have b2 := ti_bd x1
  refine zk_eq (fun c3 => ?_) (fun c3 => ?_)
  ·
    unfold B_X5_outcomeAt_15
    refine zk_ivq (x := x1) e1.symm ?_
    exact zk_some ⟨rfl, trivial⟩
  ·
    refine zk_ivq (x := x1) e1.symm ?_
    refine zk_eq (fun c4 => ?_) (fun c4 => ?_)
    ·
      unfold B_X5_outcomeAt_15
      refine zk_ivq (x := x1) e1.symm ?_
      exact zk_some ⟨rfl, trivial⟩
    ·
      refine zk_iv fun x5 e5 => ?_
      have b6 := ti_bd p1
      have b7 := ti_bd x5
      refine zk_lt (fun c8 => ?_) (fun c8 => ?_)
      ·
        refine zk_eq (fun c9 => ?_) (fun c9 => ?_)
        ·
          exact zk_some ⟨rfl, trivial⟩
        ·
          refine zk_iv fun x10 e10 => ?_
          have b11 := ti_bd x10
          refine zk_lt (fun c12 => ?_) (fun c12 => ?_)
          ·
            exact zk_some ⟨rfl, trivial⟩
          ·
            exact zk_some ⟨rfl, trivial⟩
      ·
        exact zk_some ⟨rfl, trivial⟩
theorem s_F_X5_letGoAt (r0 : Nat) (p1 : Int32) (S0 : fS) (RS0 : RI S0) : zk (F_X5_letGoAt r0 p1 S0) (fun v S9 => S0 = S9 ∧ True) := by
  have lm1 : (-1 : Int32).toInt = -1 := by decide
  have l0 : (0 : Int32).toInt = 0 := by decide
  have l3 : (3 : Int32).toInt = 3 := by decide
  have l8 : (8 : Int32).toInt = 8 := by decide
  have l10 : (10 : Int32).toInt = 10 := by decide
  have l11 : (11 : Int32).toInt = 11 := by decide
  have l12 : (12 : Int32).toInt = 12 := by decide
  unfold F_X5_letGoAt
  refine zk_bd (s_F_X5_outcomeAt _ _ _ RS0) (fun v1 T2 h1 => ?_)
  obtain ⟨rfl, h1⟩ := h1
  have b3 := ti_bd v1
  refine zk_eq (fun c4 => ?_) (fun c4 => ?_)
  ·
    refine zk_iv fun x5 e5 => ?_
    refine zk_iv fun x6 e6 => ?_
    refine zk_iv fun x7 e7 => ?_
    refine zk_iv fun x8 e8 => ?_
    have gx8 := zi_min e8
    refine zk_iv fun x9 e9 => ?_
    refine zk_iv fun x10 e10 => ?_
    refine zk_iv fun x11 e11 => ?_
    refine zk_iv fun x12 e12 => ?_
    refine zk_ivq (x := x9) e9.symm ?_
    refine zk_iv fun x13 e13 => ?_
    refine zk_iv fun x14 e14 => ?_
    refine zk_bd (s_F_J6_signum_0f7a4 _ _ RS0) (fun v15 T16 h15 => ?_)
    obtain ⟨rfl, h15⟩ := h15
    refine zk_iv fun x17 e17 => ?_
    refine zk_iv fun x18 e18 => ?_
    refine zk_ivq (x := x9) e9.symm ?_
    refine zk_iv fun x19 e19 => ?_
    refine zk_ivq (x := x11) e11.symm ?_
    refine zk_iv fun x20 e20 => ?_
    refine zk_ivq (x := x9) e9.symm ?_
    refine zk_iv fun x21 e21 => ?_
    refine zk_iv fun x22 e22 => ?_
    refine zk_bd (s_F_J6_signum_0f7a4 _ _ RS0) (fun v23 T24 h23 => ?_)
    obtain ⟨rfl, h23⟩ := h23
    refine zk_iv fun x25 e25 => ?_
    refine zk_iv fun x26 e26 => ?_
    refine zk_iv fun x27 e27 => ?_
    refine zk_iv fun x28 e28 => ?_
    refine zk_iv fun x29 e29 => ?_
    exact zk_some ⟨rfl, trivial⟩
  ·
    exact zk_some ⟨rfl, trivial⟩
theorem s_F_X5_carry (r0 : Nat) (p1 : Int32) (p2 : Int32) (S0 : fS) (RS0 : RI S0) : zk (F_X5_carry r0 p1 p2 S0) (fun v S9 => RI S9 ∧ Fr 2048 S0 S9 ∧ True) := by
  have l0 : (0 : Int32).toInt = 0 := by decide
  have l1 : (1 : Int32).toInt = 1 := by decide
  have l2 : (2 : Int32).toInt = 2 := by decide
  have FS0 : Fr 2048 S0 S0 := Fr.rf
  unfold F_X5_carry
  refine zk_bd (s_F_X5_failingStep _ _ _ _ RS0) (fun v1 T2 h1 => ?_)
  obtain ⟨rfl, h1⟩ := h1
  refine zk_bd (s_F_X5_letGoAt _ _ _ RS0) (fun v3 T4 h3 => ?_)
  obtain ⟨rfl, h3⟩ := h3
  refine zk_sv fun S5 E5 => ?_
  have RS5 : RI S5 := by rw [E5]; exact RS0.wf rfl
  have FS5 : Fr 2048 S0 S5 := by rw [E5]; exact FS0.wr (k := 11) rfl rfl
  refine zk_bd (s_F_X5_outcomeAt _ _ _ RS5) (fun v6 T7 h6 => ?_)
  obtain ⟨rfl, h6⟩ := h6
  refine zk_sv fun S8 E8 => ?_
  have RS8 : RI S8 := by rw [E8]; exact RS5.wf rfl
  have FS8 : Fr 2048 S0 S8 := by rw [E8]; exact FS5.wr (k := 11) rfl rfl
  exact zk_some ⟨RS8, FS8, trivial⟩
theorem s_F_X5_cameBy (r0 : Nat) (p1 : Int32) (p2 : Int32) (S0 : fS) (RS0 : RI S0) : zk (F_X5_cameBy r0 p1 p2 S0) (fun v S9 => S0 = S9 ∧ True) := by
  have l0 : (0 : Int32).toInt = 0 := by decide
  have l1 : (1 : Int32).toInt = 1 := by decide
  have l2 : (2 : Int32).toInt = 2 := by decide
  unfold F_X5_cameBy
  refine zk_bd (s_F_X5_failingStep _ _ _ _ RS0) (fun v1 T2 h1 => ?_)
  obtain ⟨rfl, h1⟩ := h1
  refine zk_bd (s_F_X5_outcomeAt _ _ _ RS0) (fun v3 T4 h3 => ?_)
  obtain ⟨rfl, h3⟩ := h3
  refine zk_iv fun x5 e5 => ?_
  have b6 := ti_bd v3
  have b7 := ti_bd x5
  refine zk_eq (fun c8 => ?_) (fun c8 => ?_)
  ·
    refine zk_bd (s_F_X5_letGoAt _ _ _ RS0) (fun v9 T10 h9 => ?_)
    obtain ⟨rfl, h9⟩ := h9
    refine zk_iv fun x11 e11 => ?_
    have b12 := ti_bd v9
    have b13 := ti_bd x11
    refine zk_eq (fun c14 => ?_) (fun c14 => ?_)
    ·
      exact zk_some ⟨rfl, trivial⟩
    ·
      exact zk_some ⟨rfl, trivial⟩
  ·
    exact zk_some ⟨rfl, trivial⟩
theorem s_F_X5_told (r0 : Nat) (p1 : Int32) (S0 : fS) (RS0 : RI S0) : zk (F_X5_told r0 p1 S0) (fun v S9 => S0 = S9 ∧ True) := by
  have l0 : (0 : Int32).toInt = 0 := by decide
  have l1 : (1 : Int32).toInt = 1 := by decide
  have l2 : (2 : Int32).toInt = 2 := by decide
  have l3 : (3 : Int32).toInt = 3 := by decide
  have l4 : (4 : Int32).toInt = 4 := by decide
  have l5 : (5 : Int32).toInt = 5 := by decide
  have l6 : (6 : Int32).toInt = 6 := by decide
  have l7 : (7 : Int32).toInt = 7 := by decide
  have l8 : (8 : Int32).toInt = 8 := by decide
  have l9 : (9 : Int32).toInt = 9 := by decide
  unfold F_X5_told
  refine zk_bb (fun c1 => ?_) (fun c1 => ?_)
  ·
    refine zk_iv fun x2 e2 => ?_
    exact zk_some ⟨rfl, trivial⟩
  ·
    refine zk_bb (fun c3 => ?_) (fun c3 => ?_)
    ·
      refine zk_iv fun x4 e4 => ?_
      exact zk_some ⟨rfl, trivial⟩
    ·
      refine zk_bb (fun c5 => ?_) (fun c5 => ?_)
      ·
        refine zk_iv fun x6 e6 => ?_
        exact zk_some ⟨rfl, trivial⟩
      ·
        refine zk_bb (fun c7 => ?_) (fun c7 => ?_)
        ·
          refine zk_iv fun x8 e8 => ?_
          exact zk_some ⟨rfl, trivial⟩
        ·
          refine zk_bb (fun c9 => ?_) (fun c9 => ?_)
          ·
            refine zk_iv fun x10 e10 => ?_
            exact zk_some ⟨rfl, trivial⟩
          ·
            refine zk_bb (fun c11 => ?_) (fun c11 => ?_)
            ·
              refine zk_iv fun x12 e12 => ?_
              exact zk_some ⟨rfl, trivial⟩
            ·
              refine zk_bb (fun c13 => ?_) (fun c13 => ?_)
              ·
                refine zk_iv fun x14 e14 => ?_
                exact zk_some ⟨rfl, trivial⟩
              ·
                refine zk_bb (fun c15 => ?_) (fun c15 => ?_)
                ·
                  refine zk_iv fun x16 e16 => ?_
                  exact zk_some ⟨rfl, trivial⟩
                ·
                  refine zk_bb (fun c17 => ?_) (fun c17 => ?_)
                  ·
                    refine zk_iv fun x18 e18 => ?_
                    exact zk_some ⟨rfl, trivial⟩
                  ·
                    refine zk_iv fun x19 e19 => ?_
                    exact zk_some ⟨rfl, trivial⟩
theorem s_F_X6_seed (p1 : Int32) (S0 : fS) (RS0 : RI S0) : zk (F_X6_seed p1 S0) (fun v S9 => RI S9 ∧ Fr 128 S0 S9 ∧ True) := by
  have l0 : (0 : Int32).toInt = 0 := by decide
  have l5 : (5 : Int32).toInt = 5 := by decide
  have FS0 : Fr 128 S0 S0 := Fr.rf
  unfold F_X6_seed
  refine zk_iv fun x1 e1 => ?_
  refine zk_sv fun S2 E2 => ?_
  have RS2 : RI S2 := by rw [E2]; exact RS0.wf rfl
  have FS2 : Fr 128 S0 S2 := by rw [E2]; exact FS0.wr (k := 7) rfl rfl
  exact zk_some ⟨RS2, FS2, trivial⟩
theorem s_F_X6_fault (S0 : fS) (RS0 : RI S0) : zk (F_X6_fault S0) (fun v S9 => S0 = S9 ∧ True) := by
  have l0 : (0 : Int32).toInt = 0 := by decide
  have l12 : (12 : Int32).toInt = 12 := by decide
  unfold F_X6_fault
  refine zk_iv fun x1 e1 => ?_
  exact zk_some ⟨rfl, trivial⟩
theorem s_B_X6_paysByLots_2  (z : Int32 × Int32 × Int32) (S : fS) (RS : RI S) (hi : 0 ≤ z.2.2.toInt ∧ z.2.2.toInt ≤ 36 ∧ 0 ≤ z.2.1.toInt ∧ z.2.1.toInt ≤ 1) (hm : (36 - z.2.2.toInt).toNat < 4294967296) : zk (lp (B_X6_paysByLots_2) fuel z S) (fun v S9 => S = S9 ∧ 0 ≤ v.toInt ∧ v.toInt ≤ 1) := by
  have l0 : (0 : Int32).toInt = 0 := by decide
  have l1 : (1 : Int32).toInt = 1 := by decide
  have l5 : (5 : Int32).toInt = 5 := by decide
  have l36 : (36 : Int32).toInt = 36 := by decide
  have lo1 : (Int32.ofInt 1).toInt = 1 := by decide
  refine zk_lp (fun z S => RI S ∧ (0 ≤ z.2.2.toInt ∧ z.2.2.toInt ≤ 36 ∧ 0 ≤ z.2.1.toInt ∧ z.2.1.toInt ≤ 1)) (fun z S => (36 - z.2.2.toInt).toNat) (fun z S (v : Int32) S9 => S = S9 ∧ 0 ≤ v.toInt ∧ v.toInt ≤ 1) ?_ z S ⟨RS, hi⟩ hm
  clear RS hi hm
  intro k z S hI hk
  obtain ⟨RS, hI⟩ := hI
  obtain ⟨a1, a2, a3⟩ := z
  (try dsimp only at hI); (try dsimp only at hk); (try dsimp only)
  unfold B_X6_paysByLots_2
  dsimp only
  have b1 := ti_bd a1
  refine zk_le (fun c2 => ?_) (fun c2 => ?_)
  ·
    refine zk_gd (z01 (by omega)) ?_
    exact zk_some ⟨rfl, by omega⟩
  ·
    refine zk_le (fun c3 => ?_) (fun c3 => ?_)
    ·
      refine zk_gd (z01 (by omega)) ?_
      exact zk_some ⟨rfl, by omega⟩
    ·
      refine zk_gd ⟨by omega, by omega⟩ ?_
      refine zk_iv fun x4 e4 => ?_
      refine zk_gd ⟨by omega, by omega⟩ ?_
      refine zk_iv fun x5 e5 => ?_
      refine zk_bd (s_F_X5_failingStep _ _ _ _ RS) (fun v6 T7 h6 => ?_)
      obtain ⟨rfl, h6⟩ := h6
      refine zk_bd (s_F_X5_outcomeAt _ _ _ RS) (fun v8 T9 h8 => ?_)
      obtain ⟨rfl, h8⟩ := h8
      have b10 := ti_bd v8
      refine zk_eq (fun c11 => ?_) (fun c11 => ?_)
      ·
        unfold B_X6_paysByLots_52
        refine zk_eq (fun c12 => ?_) (fun c12 => ?_)
        ·
          refine zk_iv fun x13 e13 => ?_
          have gx13 : x13.toInt = a3.toInt + (Int32.ofInt 1).toInt := by rw [e13]; exact ti_add (by omega) (by omega)
          refine zk_imp (hk (a1, a2, x13) _ ⟨RS, (by (try dsimp only) <;> omega)⟩ (by (try dsimp only) <;> omega)) (fun v14 T15 h14 => ?_)
          obtain ⟨rfl, h14⟩ := h14
          try dsimp only at h14
          exact ⟨rfl, by omega⟩
        ·
          refine zk_eq (fun c16 => ?_) (fun c16 => ?_)
          ·
            exact zk_some ⟨rfl, by omega⟩
          ·
            exact False.elim (by omega)
      ·
        unfold B_X6_paysByLots_52
        refine zk_eq (fun c17 => ?_) (fun c17 => ?_)
        ·
          refine zk_iv fun x18 e18 => ?_
          have gx18 : x18.toInt = a3.toInt + (Int32.ofInt 1).toInt := by rw [e18]; exact ti_add (by omega) (by omega)
          refine zk_imp (hk (a1, a2, x18) _ ⟨RS, (by (try dsimp only) <;> omega)⟩ (by (try dsimp only) <;> omega)) (fun v19 T20 h19 => ?_)
          obtain ⟨rfl, h19⟩ := h19
          try dsimp only at h19
          exact ⟨rfl, by omega⟩
        ·
          refine zk_eq (fun c21 => ?_) (fun c21 => ?_)
          ·
            exact False.elim (by omega)
          ·
            exact zk_some ⟨rfl, by omega⟩
theorem s_F_X6_paysByLots (p1 : Int32) (p2 : Int32) (S0 : fS) (RS0 : RI S0) (hp : 0 ≤ p2.toInt ∧ p2.toInt ≤ 1) : zk (F_X6_paysByLots p1 p2 S0) (fun v S9 => S0 = S9 ∧ 0 ≤ v.toInt ∧ v.toInt ≤ 1) := by
  have l0 : (0 : Int32).toInt = 0 := by decide
  unfold F_X6_paysByLots
  refine zk_imp (s_B_X6_paysByLots_2 _ _ RS0 (by (try dsimp only) <;> omega) (by (try dsimp only) <;> omega)) (fun v1 T2 h1 => ?_)
  obtain ⟨rfl, h1⟩ := h1
  try dsimp only at h1
  exact ⟨rfl, by omega⟩
theorem s_F_X6_weightAt (p0 : Int32) (p1 : Int32) (S0 : fS) (RS0 : RI S0) : zk (F_X6_weightAt p0 p1 S0) (fun v S9 => S0 = S9 ∧ True) := by
  have l3 : (3 : Int32).toInt = 3 := by decide
  have l8 : (8 : Int32).toInt = 8 := by decide
  unfold F_X6_weightAt
  refine zk_iv fun x1 e1 => ?_
  refine zk_iv fun x2 e2 => ?_
  refine zk_iv fun x3 e3 => ?_
  refine zk_iv fun x4 e4 => ?_
  have gx4 : 0 ≤ x4.toInt ∧ x4.toInt ≤ 7 := by rw [e4]; exact ti_and7 _
  exact zk_some ⟨rfl, trivial⟩
theorem s_B_X6_allWeights_4  (z : Int32 × Int32 × Int32) (S : fS) (RS : RI S) (hi : 0 ≤ z.2.2.toInt ∧ z.2.2.toInt ≤ 9) (hm : (9 - z.2.2.toInt).toNat < 4294967296) : zk (lp (B_X6_allWeights_4) fuel z S) (fun v S9 => S = S9 ∧ True) := by
  have l9 : (9 : Int32).toInt = 9 := by decide
  have lo1 : (Int32.ofInt 1).toInt = 1 := by decide
  refine zk_lp (fun z S => RI S ∧ (0 ≤ z.2.2.toInt ∧ z.2.2.toInt ≤ 9)) (fun z S => (9 - z.2.2.toInt).toNat) (fun z S (v : Int32) S9 => S = S9 ∧ True) ?_ z S ⟨RS, hi⟩ hm
  clear RS hi hm
  intro k z S hI hk
  obtain ⟨RS, hI⟩ := hI
  obtain ⟨a0, a1, a2⟩ := z
  (try dsimp only at hI); (try dsimp only at hk); (try dsimp only)
  unfold B_X6_allWeights_4
  dsimp only
  refine zk_le (fun c1 => ?_) (fun c1 => ?_)
  ·
    exact zk_some ⟨rfl, trivial⟩
  ·
    refine zk_bd (s_F_X6_weightAt _ _ _ RS) (fun v2 T3 h2 => ?_)
    obtain ⟨rfl, h2⟩ := h2
    refine zk_iv fun x4 e4 => ?_
    refine zk_iv fun x5 e5 => ?_
    have gx5 : x5.toInt = a2.toInt + (Int32.ofInt 1).toInt := by rw [e5]; exact ti_add (by omega) (by omega)
    refine zk_imp (hk (a0, x4, x5) _ ⟨RS, (by (try dsimp only) <;> omega)⟩ (by (try dsimp only) <;> omega)) (fun v6 T7 h6 => ?_)
    obtain ⟨rfl, h6⟩ := h6
    exact ⟨rfl, trivial⟩
theorem s_F_X6_allWeights (p0 : Int32) (S0 : fS) (RS0 : RI S0) : zk (F_X6_allWeights p0 S0) (fun v S9 => S0 = S9 ∧ True) := by
  have l0 : (0 : Int32).toInt = 0 := by decide
  unfold F_X6_allWeights
  refine zk_imp (s_B_X6_allWeights_4 _ _ RS0 (by (try dsimp only) <;> omega) (by (try dsimp only) <;> omega)) (fun v1 T2 h1 => ?_)
  obtain ⟨rfl, h1⟩ := h1
  exact ⟨rfl, trivial⟩
theorem s_F_X6_cellReached (p0 : Int32) (p1 : Int32) (S0 : fS) (RS0 : RI S0) : zk (F_X6_cellReached p0 p1 S0) (fun v S9 => S0 = S9 ∧ True) := by
  have l0 : (0 : Int32).toInt = 0 := by decide
  have l1 : (1 : Int32).toInt = 1 := by decide
  have l3 : (3 : Int32).toInt = 3 := by decide
  have l7 : (7 : Int32).toInt = 7 := by decide
  have l8 : (8 : Int32).toInt = 8 := by decide
  unfold F_X6_cellReached
  refine zk_iv fun x1 e1 => ?_
  refine zk_iv fun x2 e2 => ?_
  refine zk_iv fun x3 e3 => ?_
  refine zk_iv fun x4 e4 => ?_
  refine zk_iv fun x5 e5 => ?_
  refine zk_iv fun x6 e6 => ?_
  refine zk_iv fun x7 e7 => ?_
  refine zk_iv fun x8 e8 => ?_
  refine zk_iv fun x9 e9 => ?_
  have gx9 := zi_min e9
  refine zk_iv fun x10 e10 => ?_
  have gx10 := zi_max e10
  refine zk_iv fun x11 e11 => ?_
  have gx11 : x11.toInt = (8 : Int32).toInt * x10.toInt := by rw [e11]; exact ti_mul (by rw [l8]; omega) (by rw [l8]; omega)
  rw [l8] at gx11
  refine zk_iv fun x12 e12 => ?_
  have gx12 := zi_min e12
  refine zk_iv fun x13 e13 => ?_
  have gx13 := zi_max e13
  refine zk_iv fun x14 e14 => ?_
  have gx14 : x14.toInt = x11.toInt + x13.toInt := by rw [e14]; exact ti_add (by omega) (by omega)
  exact zk_some ⟨rfl, trivial⟩
theorem s_B_X6_weightsReaching_4  (z : Int32 × Int32 × Int32 × Int32) (S : fS) (RS : RI S) (hi : 0 ≤ z.2.2.2.toInt ∧ z.2.2.2.toInt ≤ 9) (hm : (9 - z.2.2.2.toInt).toNat < 4294967296) : zk (lp (B_X6_weightsReaching_4) fuel z S) (fun v S9 => S = S9 ∧ True) := by
  have l0 : (0 : Int32).toInt = 0 := by decide
  have l9 : (9 : Int32).toInt = 9 := by decide
  have lo1 : (Int32.ofInt 1).toInt = 1 := by decide
  refine zk_lp (fun z S => RI S ∧ (0 ≤ z.2.2.2.toInt ∧ z.2.2.2.toInt ≤ 9)) (fun z S => (9 - z.2.2.2.toInt).toNat) (fun z S (v : Int32) S9 => S = S9 ∧ True) ?_ z S ⟨RS, hi⟩ hm
  clear RS hi hm
  intro k z S hI hk
  obtain ⟨RS, hI⟩ := hI
  obtain ⟨a0, a1, a2, a3⟩ := z
  (try dsimp only at hI); (try dsimp only at hk); (try dsimp only)
  unfold B_X6_weightsReaching_4
  dsimp only
  refine zk_le (fun c1 => ?_) (fun c1 => ?_)
  ·
    exact zk_some ⟨rfl, trivial⟩
  ·
    refine zk_bd (s_F_X6_cellReached _ _ _ RS) (fun v2 T3 h2 => ?_)
    obtain ⟨rfl, h2⟩ := h2
    have b4 := ti_bd v2
    have b5 := ti_bd a1
    refine zk_eq (fun c6 => ?_) (fun c6 => ?_)
    ·
      refine zk_bd (s_F_X6_weightAt _ _ _ RS) (fun v7 T8 h7 => ?_)
      obtain ⟨rfl, h7⟩ := h7
      unfold B_X6_weightsReaching_29
      refine zk_iv fun x9 e9 => ?_
      refine zk_iv fun x10 e10 => ?_
      have gx10 : x10.toInt = a3.toInt + (Int32.ofInt 1).toInt := by rw [e10]; exact ti_add (by omega) (by omega)
      refine zk_imp (hk (a0, a1, x9, x10) _ ⟨RS, (by (try dsimp only) <;> omega)⟩ (by (try dsimp only) <;> omega)) (fun v11 T12 h11 => ?_)
      obtain ⟨rfl, h11⟩ := h11
      exact ⟨rfl, trivial⟩
    ·
      unfold B_X6_weightsReaching_29
      refine zk_iv fun x13 e13 => ?_
      have b14 := ti_bd a2
      have gx13 : x13.toInt = a2.toInt + (0 : Int32).toInt := by rw [e13]; exact ti_add (by omega) (by omega)
      refine zk_iv fun x15 e15 => ?_
      have gx15 : x15.toInt = a3.toInt + (Int32.ofInt 1).toInt := by rw [e15]; exact ti_add (by omega) (by omega)
      refine zk_imp (hk (a0, a1, x13, x15) _ ⟨RS, (by (try dsimp only) <;> omega)⟩ (by (try dsimp only) <;> omega)) (fun v16 T17 h16 => ?_)
      obtain ⟨rfl, h16⟩ := h16
      exact ⟨rfl, trivial⟩
theorem s_F_X6_weightsReaching (p0 : Int32) (p1 : Int32) (S0 : fS) (RS0 : RI S0) : zk (F_X6_weightsReaching p0 p1 S0) (fun v S9 => S0 = S9 ∧ True) := by
  have l0 : (0 : Int32).toInt = 0 := by decide
  unfold F_X6_weightsReaching
  refine zk_imp (s_B_X6_weightsReaching_4 _ _ RS0 (by (try dsimp only) <;> omega) (by (try dsimp only) <;> omega)) (fun v1 T2 h1 => ?_)
  obtain ⟨rfl, h1⟩ := h1
  exact ⟨rfl, trivial⟩
theorem s_F_X6_faithGiven (p0 : Int32) (S0 : fS) (RS0 : RI S0) : zk (F_X6_faithGiven p0 S0) (fun v S9 => S0 = S9 ∧ True) := by
  have lm2 : (-2 : Int32).toInt = -2 := by decide
  have l1 : (1 : Int32).toInt = 1 := by decide
  have l2 : (2 : Int32).toInt = 2 := by decide
  have l3 : (3 : Int32).toInt = 3 := by decide
  have l5 : (5 : Int32).toInt = 5 := by decide
  unfold F_X6_faithGiven
  have b1 := ti_bd p0
  refine zk_eq (fun c2 => ?_) (fun c2 => ?_)
  ·
    exact zk_some ⟨rfl, trivial⟩
  ·
    refine zk_eq (fun c3 => ?_) (fun c3 => ?_)
    ·
      unfold B_X6_faithGiven_17
      exact zk_some ⟨rfl, trivial⟩
    ·
      refine zk_eq (fun c4 => ?_) (fun c4 => ?_)
      ·
        unfold B_X6_faithGiven_17
        exact zk_some ⟨rfl, trivial⟩
      ·
        exact zk_some ⟨rfl, trivial⟩
theorem s_F_X6_count (p1 : Int32) (S0 : fS) (RS0 : RI S0) : zk (F_X6_count p1 S0) (fun v S9 => S0 = S9 ∧ True) := by
  have lm2 : (-2 : Int32).toInt = -2 := by decide
  have lm1 : (-1 : Int32).toInt = -1 := by decide
  have l0 : (0 : Int32).toInt = 0 := by decide
  have l1 : (1 : Int32).toInt = 1 := by decide
  have l3 : (3 : Int32).toInt = 3 := by decide
  have l5 : (5 : Int32).toInt = 5 := by decide
  have l7 : (7 : Int32).toInt = 7 := by decide
  have l8 : (8 : Int32).toInt = 8 := by decide
  have l9 : (9 : Int32).toInt = 9 := by decide
  have l10 : (10 : Int32).toInt = 10 := by decide
  have l11 : (11 : Int32).toInt = 11 := by decide
  unfold F_X6_count
  refine zk_bb (fun c1 => ?_) (fun c1 => ?_)
  ·
    refine zk_iv fun x2 e2 => ?_
    have gx2 : 0 ≤ x2.toInt ∧ x2.toInt ≤ 24 := by rw [e2]; exact RS0 2 _ _
    exact zk_some ⟨rfl, trivial⟩
  ·
    refine zk_bb (fun c3 => ?_) (fun c3 => ?_)
    ·
      refine zk_iv fun x4 e4 => ?_
      have gx4 : 0 ≤ x4.toInt ∧ x4.toInt ≤ 24 := by rw [e4]; exact RS0 2 _ _
      refine zk_bd (s_F_X2_countAt _ _ _ RS0) (fun v5 T6 h5 => ?_)
      obtain ⟨rfl, h5⟩ := h5
      refine zk_iv fun x7 e7 => ?_
      refine zk_bd (s_F_X2_countAt _ _ _ RS0) (fun v8 T9 h8 => ?_)
      obtain ⟨rfl, h8⟩ := h8
      refine zk_iv fun x10 e10 => ?_
      exact zk_some ⟨rfl, trivial⟩
    ·
      refine zk_bb (fun c11 => ?_) (fun c11 => ?_)
      ·
        refine zk_bd (s_F_X2_countAt _ _ _ RS0) (fun v12 T13 h12 => ?_)
        obtain ⟨rfl, h12⟩ := h12
        exact zk_some ⟨rfl, trivial⟩
      ·
        refine zk_bb (fun c14 => ?_) (fun c14 => ?_)
        ·
          refine zk_bd (s_F_X2_countAt _ _ _ RS0) (fun v15 T16 h15 => ?_)
          obtain ⟨rfl, h15⟩ := h15
          exact zk_some ⟨rfl, trivial⟩
        ·
          refine zk_bb (fun c17 => ?_) (fun c17 => ?_)
          ·
            refine zk_iv fun x18 e18 => ?_
            exact zk_some ⟨rfl, trivial⟩
          ·
            refine zk_bb (fun c19 => ?_) (fun c19 => ?_)
            ·
              refine zk_iv fun x20 e20 => ?_
              refine zk_iv fun x21 e21 => ?_
              exact zk_some ⟨rfl, trivial⟩
            ·
              refine zk_bb (fun c22 => ?_) (fun c22 => ?_)
              ·
                refine zk_iv fun x23 e23 => ?_
                exact zk_some ⟨rfl, trivial⟩
              ·
                refine zk_bb (fun c24 => ?_) (fun c24 => ?_)
                ·
                  refine zk_iv fun x25 e25 => ?_
                  exact zk_some ⟨rfl, trivial⟩
                ·
                  refine zk_bb (fun c26 => ?_) (fun c26 => ?_)
                  ·
                    refine zk_iv fun x27 e27 => ?_
                    have gx27 : 0 ≤ x27.toInt ∧ x27.toInt ≤ 6 := by rw [e27]; exact RS0 0 _ _
                    exact zk_some ⟨rfl, trivial⟩
                  ·
                    refine zk_bb (fun c28 => ?_) (fun c28 => ?_)
                    ·
                      refine zk_iv fun x29 e29 => ?_
                      have gx29 : 0 ≤ x29.toInt ∧ x29.toInt ≤ 3 := by rw [e29]; exact RS0 0 _ _
                      exact zk_some ⟨rfl, trivial⟩
                    ·
                      refine zk_bb (fun c30 => ?_) (fun c30 => ?_)
                      ·
                        refine zk_iv fun x31 e31 => ?_
                        have gx31 : 0 ≤ x31.toInt ∧ x31.toInt ≤ 6 := by rw [e31]; exact RS0 0 _ _
                        exact zk_some ⟨rfl, trivial⟩
                      ·
                        refine zk_bb (fun c32 => ?_) (fun c32 => ?_)
                        ·
                          refine zk_iv fun x33 e33 => ?_
                          have gx33 : 0 ≤ x33.toInt ∧ x33.toInt ≤ 3 := by rw [e33]; exact RS0 0 _ _
                          exact zk_some ⟨rfl, trivial⟩
                        ·
                          refine zk_bb (fun c34 => ?_) (fun c34 => ?_)
                          ·
                            refine zk_iv fun x35 e35 => ?_
                            have gx35 : 0 ≤ x35.toInt ∧ x35.toInt ≤ 300 := by rw [e35]; exact RS0 0 _ _
                            exact zk_some ⟨rfl, trivial⟩
                          ·
                            refine zk_bb (fun c36 => ?_) (fun c36 => ?_)
                            ·
                              refine zk_iv fun x37 e37 => ?_
                              exact zk_some ⟨rfl, trivial⟩
                            ·
                              exact zk_some ⟨rfl, trivial⟩
