/-! the pure part: the class, first pieces -/
theorem s_F_J6_signum_0f7a4 (p0 : Int32) (S0 : fS) (RS0 : RI S0) : zk (F_J6_signum_0f7a4 p0 S0) (fun v S9 => S0 = S9 ∧ True) := by
  unfold F_J6_signum_0f7a4
  refine zk_iv fun x1 e1 => ?_
  refine zk_iv fun x2 e2 => ?_
  refine zk_iv fun x3 e3 => ?_
  refine zk_iv fun x4 e4 => ?_
  exact zk_some ⟨rfl, trivial⟩
theorem s_F_X6_within (p0 : Int32) (p1 : Int32) (p2 : Int32) (S0 : fS) (RS0 : RI S0) : zk (F_X6_within p0 p1 p2 S0) (fun v S9 => S0 = S9 ∧ (v.toInt = 0 ∨ (v.toInt = 1 ∧ p1.toInt ≤ p0.toInt ∧ p0.toInt ≤ p2.toInt))) := by
  have l0 : (0 : Int32).toInt = 0 := by decide
  have l1 : (1 : Int32).toInt = 1 := by decide
  unfold F_X6_within
  have b1 := ti_bd p0
  have b2 := ti_bd p1
  refine zk_lt (fun c3 => ?_) (fun c3 => ?_)
  ·
    exact zk_some ⟨rfl, by omega⟩
  ·
    have b4 := ti_bd p2
    refine zk_lt (fun c5 => ?_) (fun c5 => ?_)
    ·
      exact zk_some ⟨rfl, by omega⟩
    ·
      exact zk_some ⟨rfl, by omega⟩
theorem s_F_X0_draw (r0 : Nat) (p1 : Int32) (S0 : fS) (RS0 : RI S0) : zk (F_X0_draw r0 p1 S0) (fun v S9 => RI S9 ∧ Fr 128 S0 S9 ∧ True) := by
  have l0 : (0 : Int32).toInt = 0 := by decide
  have l5 : (5 : Int32).toInt = 5 := by decide
  have l12345 : (12345 : Int32).toInt = 12345 := by decide
  have l1103515245 : (1103515245 : Int32).toInt = 1103515245 := by decide
  have FS0 : Fr 128 S0 S0 := Fr.rf
  unfold F_X0_draw
  refine zk_iv fun x1 e1 => ?_
  refine zk_iv fun x2 e2 => ?_
  refine zk_iv fun x3 e3 => ?_
  refine zk_sv fun S4 E4 => ?_
  have RS4 : RI S4 := by rw [E4]; exact RS0.wf rfl
  have FS4 : Fr 128 S0 S4 := by rw [E4]; exact FS0.wr (k := 7) rfl rfl
  have b5 := ti_bd p1
  refine zk_le (fun c6 => ?_) (fun c6 => ?_)
  ·
    exact zk_some ⟨RS4, FS4, trivial⟩
  ·
    refine zk_ivq (x := x3) (by rw [E4]; exact ge_pus) ?_
    refine zk_iv fun x7 e7 => ?_
    refine zk_iv fun x8 e8 => ?_
    have gx8 : 0 ≤ x8.toInt ∧ x8.toInt ≤ 32767 := by rw [e8]; exact ti_and32767 _
    refine zk_gd (zn0 (by omega)) ?_
    refine zk_iv fun x9 e9 => ?_
    have gx9 : 0 ≤ x9.toInt ∧ x9.toInt < p1.toInt := by rw [e9]; exact ti_modv (by omega) (by omega)
    exact zk_some ⟨RS4, FS4, trivial⟩
theorem s_F_X5_grippedAt (r0 : Nat) (p1 : Int32) (S0 : fS) (RS0 : RI S0) : zk (F_X5_grippedAt r0 p1 S0) (fun v S9 => S0 = S9 ∧ True) := by
  have lm1 : (-1 : Int32).toInt = -1 := by decide
  have l0 : (0 : Int32).toInt = 0 := by decide
  have l5 : (5 : Int32).toInt = 5 := by decide
  unfold F_X5_grippedAt
  have b1 := ti_bd p1
  refine zk_lt (fun c2 => ?_) (fun c2 => ?_)
  ·
    exact zk_some ⟨rfl, trivial⟩
  ·
    refine zk_le (fun c3 => ?_) (fun c3 => ?_)
    ·
      exact zk_some ⟨rfl, trivial⟩
    ·
      refine zk_gd ⟨by omega, by omega⟩ ?_
      refine zk_iv fun x4 e4 => ?_
      exact zk_some ⟨rfl, trivial⟩
theorem s_F_X2_known (r0 : Nat) (p1 : Int32) (S0 : fS) (RS0 : RI S0) : zk (F_X2_known r0 p1 S0) (fun v S9 => S0 = S9 ∧ (v.toInt = 0 ∨ (v.toInt = 1 ∧ 0 ≤ p1.toInt ∧ p1.toInt < 24))) := by
  have l0 : (0 : Int32).toInt = 0 := by decide
  have l1 : (1 : Int32).toInt = 1 := by decide
  have l24 : (24 : Int32).toInt = 24 := by decide
  unfold F_X2_known
  have b1 := ti_bd p1
  refine zk_lt (fun c2 => ?_) (fun c2 => ?_)
  ·
    exact zk_some ⟨rfl, by omega⟩
  ·
    refine zk_iv fun x3 e3 => ?_
    have gx3 : 0 ≤ x3.toInt ∧ x3.toInt ≤ 24 := by rw [e3]; exact RS0 2 _ _
    refine zk_le (fun c4 => ?_) (fun c4 => ?_)
    ·
      exact zk_some ⟨rfl, by omega⟩
    ·
      refine zk_le (fun c5 => ?_) (fun c5 => ?_)
      ·
        exact False.elim (by omega)
      ·
        exact zk_some ⟨rfl, by omega⟩
theorem s_B_X2_unhook_5 (r0 : Nat) (z : Int32 × Int32 × Int32) (S : fS) (RS : RI S) (hi : 0 ≤ z.2.2.toInt ∧ z.2.2.toInt ≤ 24 ∧ 0 ≤ z.1.toInt ∧ z.1.toInt < 24) (hm : (24 - z.2.2.toInt).toNat < 4294967296) : zk (lp (B_X2_unhook_5 r0) fuel z S) (fun v S9 => RI S9 ∧ Fr 1 S S9 ∧ True) := by
  have l0 : (0 : Int32).toInt = 0 := by decide
  have l24 : (24 : Int32).toInt = 24 := by decide
  have lo1 : (Int32.ofInt 1).toInt = 1 := by decide
  refine zk_lp (fun z S => RI S ∧ (0 ≤ z.2.2.toInt ∧ z.2.2.toInt ≤ 24 ∧ 0 ≤ z.1.toInt ∧ z.1.toInt < 24)) (fun z S => (24 - z.2.2.toInt).toNat) (fun z S (v : Int32) S9 => RI S9 ∧ Fr 1 S S9 ∧ True) ?_ z S ⟨RS, hi⟩ hm
  clear RS hi hm
  intro k z S hI hk
  obtain ⟨RS, hI⟩ := hI
  obtain ⟨a1, a3, a4⟩ := z
  (try dsimp only at hI); (try dsimp only at hk); (try dsimp only)
  have FS : Fr 1 S S := Fr.rf
  unfold B_X2_unhook_5
  dsimp only
  refine zk_le (fun c1 => ?_) (fun c1 => ?_)
  ·
    exact zk_some ⟨RS, FS, trivial⟩
  ·
    refine zk_bd (s_F_X2_known _ _ _ RS) (fun v2 T3 h2 => ?_)
    obtain ⟨rfl, h2⟩ := h2
    refine zk_eq (fun c4 => ?_) (fun c4 => ?_)
    ·
      exact zk_some ⟨RS, FS, trivial⟩
    ·
      refine zk_gd ⟨by omega, by omega⟩ ?_
      refine zk_iv fun x5 e5 => ?_
      have b6 := ti_bd x5
      refine zk_eq (fun c7 => ?_) (fun c7 => ?_)
      ·
        refine zk_gd ⟨by omega, by omega⟩ ?_
        refine zk_iv fun x8 e8 => ?_
        refine zk_gd ⟨by omega, by omega⟩ ?_
        refine zk_sv fun S9 E9 => ?_
        have RS9 : RI S9 := by rw [E9]; exact RS.wf rfl
        have FS9 : Fr 1 S S9 := by rw [E9]; exact FS.wr (k := 0) rfl rfl
        exact zk_some ⟨RS9, FS9, trivial⟩
      ·
        refine zk_gd ⟨by omega, by omega⟩ ?_
        refine zk_ivq (x := x5) e5.symm ?_
        refine zk_iv fun x10 e10 => ?_
        have gx10 : x10.toInt = a4.toInt + (Int32.ofInt 1).toInt := by rw [e10]; exact ti_add (by omega) (by omega)
        refine zk_imp (hk (a1, x5, x10) _ ⟨RS, (by (try dsimp only) <;> omega)⟩ (by (try dsimp only) <;> omega)) (fun v11 T12 h11 => ?_)
        obtain ⟨RT12, FT12, h11⟩ := h11
        exact ⟨RT12, FS.tr FT12, trivial⟩
theorem s_F_X2_unhook (r0 : Nat) (p1 : Int32) (p2 : Int32) (S0 : fS) (RS0 : RI S0) (hp : 0 ≤ p1.toInt ∧ p1.toInt < 24) : zk (F_X2_unhook r0 p1 p2 S0) (fun v S9 => RI S9 ∧ Fr 1 S0 S9 ∧ True) := by
  have l0 : (0 : Int32).toInt = 0 := by decide
  have FS0 : Fr 1 S0 S0 := Fr.rf
  unfold F_X2_unhook
  refine zk_imp (s_B_X2_unhook_5 r0 _ _ RS0 (by (try dsimp only) <;> omega) (by (try dsimp only) <;> omega)) (fun v1 T2 h1 => ?_)
  obtain ⟨RT2, fT2, h1⟩ := h1
  have FT2 := FS0.tr (fT2.sub (m := 1) (by decide))
  exact ⟨RT2, FT2, trivial⟩
theorem s_F_X2_takeOut (r0 : Nat) (p1 : Int32) (p2 : Int32) (S0 : fS) (RS0 : RI S0) : zk (F_X2_takeOut r0 p1 p2 S0) (fun v S9 => RI S9 ∧ Fr 1 S0 S9 ∧ True) := by
  have lm1 : (-1 : Int32).toInt = -1 := by decide
  have l0 : (0 : Int32).toInt = 0 := by decide
  have l63 : (63 : Int32).toInt = 63 := by decide
  have FS0 : Fr 1 S0 S0 := Fr.rf
  unfold F_X2_takeOut
  refine zk_bd (s_F_X2_known _ _ _ RS0) (fun v1 T2 h1 => ?_)
  obtain ⟨rfl, h1⟩ := h1
  refine zk_eq (fun c3 => ?_) (fun c3 => ?_)
  ·
    exact zk_some ⟨RS0, FS0, trivial⟩
  ·
    refine zk_gd ⟨by omega, by omega⟩ ?_
    refine zk_iv fun x4 e4 => ?_
    refine zk_bd (s_F_X6_within _ _ _ _ RS0) (fun v5 T6 h5 => ?_)
    obtain ⟨rfl, h5⟩ := h5
    refine zk_eq (fun c7 => ?_) (fun c7 => ?_)
    ·
      exact zk_some ⟨RS0, FS0, trivial⟩
    ·
      refine zk_gd ⟨by omega, by omega⟩ ?_
      refine zk_ivq (x := x4) e4.symm ?_
      refine zk_gd ⟨by omega, by omega⟩ ?_
      refine zk_iv fun x8 e8 => ?_
      have b9 := ti_bd x8
      refine zk_eq (fun c10 => ?_) (fun c10 => ?_)
      ·
        refine zk_gd ⟨by omega, by omega⟩ ?_
        refine zk_iv fun x11 e11 => ?_
        refine zk_gd ⟨by omega, by omega⟩ ?_
        refine zk_sv fun S12 E12 => ?_
        have RS12 : RI S12 := by rw [E12]; exact RS0.wf rfl
        have FS12 : Fr 1 S0 S12 := by rw [E12]; exact FS0.wr (k := 0) rfl rfl
        unfold B_X2_takeOut_67
        refine zk_gd ⟨by omega, by omega⟩ ?_
        refine zk_sv fun S13 E13 => ?_
        have RS13 : RI S13 := by rw [E13]; exact RS12.wf rfl
        have FS13 : Fr 1 S0 S13 := by rw [E13]; exact FS12.wr (k := 0) rfl rfl
        refine zk_gd ⟨by omega, by omega⟩ ?_
        refine zk_sv fun S14 E14 => ?_
        have RS14 : RI S14 := by rw [E14]; exact RS13.wf rfl
        have FS14 : Fr 1 S0 S14 := by rw [E14]; exact FS13.wr (k := 0) rfl rfl
        exact zk_some ⟨RS14, FS14, trivial⟩
      ·
        refine zk_gd ⟨by omega, by omega⟩ ?_
        refine zk_ivq (x := x8) e8.symm ?_
        refine zk_bd (s_F_X2_unhook _ _ _ _ RS0 (by omega)) (fun v15 T16 h15 => ?_)
        obtain ⟨RT16, fT16, h15⟩ := h15
        have FT16 := FS0.tr (fT16.sub (m := 1) (by decide))
        unfold B_X2_takeOut_67
        refine zk_gd ⟨by omega, by omega⟩ ?_
        refine zk_sv fun S17 E17 => ?_
        have RS17 : RI S17 := by rw [E17]; exact RT16.wf rfl
        have FS17 : Fr 1 S0 S17 := by rw [E17]; exact FT16.wr (k := 0) rfl rfl
        refine zk_gd ⟨by omega, by omega⟩ ?_
        refine zk_sv fun S18 E18 => ?_
        have RS18 : RI S18 := by rw [E18]; exact RS17.wf rfl
        have FS18 : Fr 1 S0 S18 := by rw [E18]; exact FS17.wr (k := 0) rfl rfl
        exact zk_some ⟨RS18, FS18, trivial⟩
theorem s_F_X2_valueOf (r0 : Nat) (p1 : Int32) (S0 : fS) (RS0 : RI S0) : zk (F_X2_valueOf r0 p1 S0) (fun v S9 => S0 = S9 ∧ True) := by
  have l0 : (0 : Int32).toInt = 0 := by decide
  unfold F_X2_valueOf
  refine zk_bd (s_F_X2_known _ _ _ RS0) (fun v1 T2 h1 => ?_)
  obtain ⟨rfl, h1⟩ := h1
  refine zk_eq (fun c3 => ?_) (fun c3 => ?_)
  ·
    exact zk_some ⟨rfl, trivial⟩
  ·
    refine zk_gd ⟨by omega, by omega⟩ ?_
    refine zk_iv fun x4 e4 => ?_
    exact zk_some ⟨rfl, trivial⟩
theorem s_B_X2_valueOfAll_4 (r0 : Nat) (r1 : Nat) (z : Int32 × Int32) (S : fS) (RS : RI S) (hi : 0 ≤ z.2.toInt ∧ z.2.toInt ≤ 5) (hm : (5 - z.2.toInt).toNat < 4294967296) : zk (lp (B_X2_valueOfAll_4 r0 r1) fuel z S) (fun v S9 => S = S9 ∧ True) := by
  have l16 : (16 : Int32).toInt = 16 := by decide
  have lo1 : (Int32.ofInt 1).toInt = 1 := by decide
  refine zk_lp (fun z S => RI S ∧ (0 ≤ z.2.toInt ∧ z.2.toInt ≤ 5)) (fun z S => (5 - z.2.toInt).toNat) (fun z S (v : Int32) S9 => S = S9 ∧ True) ?_ z S ⟨RS, hi⟩ hm
  clear RS hi hm
  intro k z S hI hk
  obtain ⟨RS, hI⟩ := hI
  obtain ⟨a2, a3⟩ := z
  (try dsimp only at hI); (try dsimp only at hk); (try dsimp only)
  unfold B_X2_valueOfAll_4
  dsimp only
  refine zk_iv fun x1 e1 => ?_
  have gx1 : 0 ≤ x1.toInt ∧ x1.toInt ≤ 5 := by rw [e1]; exact RS 25 _ _
  refine zk_le (fun c2 => ?_) (fun c2 => ?_)
  ·
    exact zk_some ⟨rfl, trivial⟩
  ·
    refine zk_bd (s_F_X5_grippedAt _ _ _ RS) (fun v3 T4 h3 => ?_)
    obtain ⟨rfl, h3⟩ := h3
    refine zk_bd (s_F_X2_valueOf _ _ _ RS) (fun v5 T6 h5 => ?_)
    obtain ⟨rfl, h5⟩ := h5
    refine zk_iv fun x7 e7 => ?_
    refine zk_iv fun x8 e8 => ?_
    have gx8 : x8.toInt = a3.toInt + (Int32.ofInt 1).toInt := by rw [e8]; exact ti_add (by omega) (by omega)
    refine zk_imp (hk (x7, x8) _ ⟨RS, (by (try dsimp only) <;> omega)⟩ (by (try dsimp only) <;> omega)) (fun v9 T10 h9 => ?_)
    obtain ⟨rfl, h9⟩ := h9
    exact ⟨rfl, trivial⟩
theorem s_F_X2_valueOfAll (r0 : Nat) (r1 : Nat) (S0 : fS) (RS0 : RI S0) : zk (F_X2_valueOfAll r0 r1 S0) (fun v S9 => S0 = S9 ∧ True) := by
  have l0 : (0 : Int32).toInt = 0 := by decide
  unfold F_X2_valueOfAll
  refine zk_imp (s_B_X2_valueOfAll_4 r0 r1 _ _ RS0 (by (try dsimp only) <;> omega) (by (try dsimp only) <;> omega)) (fun v1 T2 h1 => ?_)
  obtain ⟨rfl, h1⟩ := h1
  exact ⟨rfl, trivial⟩
theorem s_F_X2_put (r0 : Nat) (p1 : Int32) (p2 : Int32) (S0 : fS) (RS0 : RI S0) : zk (F_X2_put r0 p1 p2 S0) (fun v S9 => RI S9 ∧ Fr 1 S0 S9 ∧ True) := by
  have l0 : (0 : Int32).toInt = 0 := by decide
  have l63 : (63 : Int32).toInt = 63 := by decide
  have FS0 : Fr 1 S0 S0 := Fr.rf
  unfold F_X2_put
  refine zk_bd (s_F_X2_known _ _ _ RS0) (fun v1 T2 h1 => ?_)
  obtain ⟨rfl, h1⟩ := h1
  refine zk_eq (fun c3 => ?_) (fun c3 => ?_)
  ·
    exact zk_some ⟨RS0, FS0, trivial⟩
  ·
    refine zk_bd (s_F_X6_within _ _ _ _ RS0) (fun v4 T5 h4 => ?_)
    obtain ⟨rfl, h4⟩ := h4
    refine zk_eq (fun c6 => ?_) (fun c6 => ?_)
    ·
      exact zk_some ⟨RS0, FS0, trivial⟩
    ·
      refine zk_gd ⟨by omega, by omega⟩ ?_
      refine zk_sv fun S7 E7 => ?_
      have RS7 : RI S7 := by rw [E7]; exact RS0.wf rfl
      have FS7 : Fr 1 S0 S7 := by rw [E7]; exact FS0.wr (k := 0) rfl rfl
      refine zk_gd ⟨by omega, by omega⟩ ?_
      refine zk_iv fun x8 e8 => ?_
      refine zk_gd ⟨by omega, by omega⟩ ?_
      refine zk_sv fun S9 E9 => ?_
      have RS9 : RI S9 := by rw [E9]; exact RS7.wf rfl
      have FS9 : Fr 1 S0 S9 := by rw [E9]; exact FS7.wr (k := 0) rfl rfl
      refine zk_gd ⟨by omega, by omega⟩ ?_
      refine zk_sv fun S10 E10 => ?_
      have RS10 : RI S10 := by rw [E10]; exact RS9.wf rfl
      have FS10 : Fr 1 S0 S10 := by rw [E10]; exact FS9.wr (k := 0) rfl rfl
      exact zk_some ⟨RS10, FS10, trivial⟩
theorem s_B_X0_move_119 (r0 : Nat) (r1 : Nat) (z : Int32) (S : fS) (RS : RI S) (hi : 0 ≤ z.toInt ∧ z.toInt ≤ 5) (hm : (5 - z.toInt).toNat < 4294967296) : zk (lp (B_X0_move_119 r0 r1) fuel z S) (fun v S9 => RI S9 ∧ Fr 1 S S9 ∧ True) := by
  have l0 : (0 : Int32).toInt = 0 := by decide
  have l2 : (2 : Int32).toInt = 2 := by decide
  have l16 : (16 : Int32).toInt = 16 := by decide
  have lo1 : (Int32.ofInt 1).toInt = 1 := by decide
  refine zk_lp (fun z S => RI S ∧ (0 ≤ z.toInt ∧ z.toInt ≤ 5)) (fun z S => (5 - z.toInt).toNat) (fun z S (v : Int32) S9 => RI S9 ∧ Fr 1 S S9 ∧ True) ?_ z S ⟨RS, hi⟩ hm
  clear RS hi hm
  intro k a2 S hI hk
  obtain ⟨RS, hI⟩ := hI
  have FS : Fr 1 S S := Fr.rf
  unfold B_X0_move_119
  refine zk_iv fun x1 e1 => ?_
  have gx1 : 0 ≤ x1.toInt ∧ x1.toInt ≤ 5 := by rw [e1]; exact RS 25 _ _
  refine zk_le (fun c2 => ?_) (fun c2 => ?_)
  ·
    exact zk_some ⟨RS, FS, trivial⟩
  ·
    refine zk_bd (s_F_X5_grippedAt _ _ _ RS) (fun v3 T4 h3 => ?_)
    obtain ⟨rfl, h3⟩ := h3
    refine zk_iv fun x5 e5 => ?_
    refine zk_bd (s_F_X2_put _ _ _ _ RS) (fun v6 T7 h6 => ?_)
    obtain ⟨RT7, fT7, h6⟩ := h6
    have FT7 := FS.tr (fT7.sub (m := 1) (by decide))
    refine zk_iv fun x8 e8 => ?_
    have gx8 : x8.toInt = a2.toInt + (Int32.ofInt 1).toInt := by rw [e8]; exact ti_add (by omega) (by omega)
    refine zk_imp (hk x8 _ ⟨RT7, (by omega)⟩ (by omega)) (fun v9 T10 h9 => ?_)
    obtain ⟨RT10, FT10, h9⟩ := h9
    exact ⟨RT10, FT7.tr FT10, trivial⟩
theorem s_B_X0_move_64 (r0 : Nat) (r1 : Nat) (z : Int32) (S : fS) (RS : RI S) (hi : 0 ≤ z.toInt ∧ z.toInt ≤ 5) (hm : (5 - z.toInt).toNat < 4294967296) : zk (lp (B_X0_move_64 r0 r1) fuel z S) (fun v S9 => RI S9 ∧ Fr 1025 S S9 ∧ True) := by
  have lm1 : (-1 : Int32).toInt = -1 := by decide
  have l0 : (0 : Int32).toInt = 0 := by decide
  have l1 : (1 : Int32).toInt = 1 := by decide
  have l5 : (5 : Int32).toInt = 5 := by decide
  have l10 : (10 : Int32).toInt = 10 := by decide
  have l16 : (16 : Int32).toInt = 16 := by decide
  have lo1 : (Int32.ofInt 1).toInt = 1 := by decide
  refine zk_lp (fun z S => RI S ∧ (0 ≤ z.toInt ∧ z.toInt ≤ 5)) (fun z S => (5 - z.toInt).toNat) (fun z S (v : Int32) S9 => RI S9 ∧ Fr 1025 S S9 ∧ True) ?_ z S ⟨RS, hi⟩ hm
  clear RS hi hm
  intro k a2 S hI hk
  obtain ⟨RS, hI⟩ := hI
  have FS : Fr 1025 S S := Fr.rf
  unfold B_X0_move_64
  refine zk_iv fun x1 e1 => ?_
  have gx1 : 0 ≤ x1.toInt ∧ x1.toInt ≤ 5 := by rw [e1]; exact RS 25 _ _
  refine zk_le (fun c2 => ?_) (fun c2 => ?_)
  ·
    refine zk_iv fun x3 e3 => ?_
    have b4 := ti_bd x3
    refine zk_eq (fun c5 => ?_) (fun c5 => ?_)
    ·
      refine zk_iv fun x6 e6 => ?_
      refine zk_bd (s_F_X2_valueOfAll _ _ _ RS) (fun v7 T8 h7 => ?_)
      obtain ⟨rfl, h7⟩ := h7
      refine zk_iv fun x9 e9 => ?_
      refine zk_sv fun S10 E10 => ?_
      have RS10 : RI S10 := by rw [E10]; exact RS.wf rfl
      have FS10 : Fr 1025 S S10 := by rw [E10]; exact FS.wr (k := 10) rfl rfl
      exact zk_some ⟨RS10, FS10, trivial⟩
    ·
      refine zk_imp (s_B_X0_move_119 r0 r1 _ _ RS (by omega) (by omega)) (fun v11 T12 h11 => ?_)
      obtain ⟨RT12, fT12, h11⟩ := h11
      have FT12 := FS.tr (fT12.sub (m := 1025) (by decide))
      exact ⟨RT12, FT12, trivial⟩
  ·
    refine zk_bd (s_F_X5_grippedAt _ _ _ RS) (fun v13 T14 h13 => ?_)
    obtain ⟨rfl, h13⟩ := h13
    refine zk_bd (s_F_X2_takeOut _ _ _ _ RS) (fun v15 T16 h15 => ?_)
    obtain ⟨RT16, fT16, h15⟩ := h15
    have FT16 := FS.tr (fT16.sub (m := 1025) (by decide))
    refine zk_iv fun x17 e17 => ?_
    have gx17 : x17.toInt = a2.toInt + (Int32.ofInt 1).toInt := by rw [e17]; exact ti_add (by omega) (by omega)
    refine zk_imp (hk x17 _ ⟨RT16, (by omega)⟩ (by omega)) (fun v18 T19 h18 => ?_)
    obtain ⟨RT19, FT19, h18⟩ := h18
    exact ⟨RT19, FT16.tr FT19, trivial⟩
theorem s_F_X0_move (r0 : Nat) (r1 : Nat) (S0 : fS) (RS0 : RI S0) : zk (F_X0_move r0 r1 S0) (fun v S9 => RI S9 ∧ Fr 1025 S0 S9 ∧ True) := by
  have l0 : (0 : Int32).toInt = 0 := by decide
  have l1 : (1 : Int32).toInt = 1 := by decide
  have l3 : (3 : Int32).toInt = 3 := by decide
  have l5 : (5 : Int32).toInt = 5 := by decide
  have l7 : (7 : Int32).toInt = 7 := by decide
  have l8 : (8 : Int32).toInt = 8 := by decide
  have l9 : (9 : Int32).toInt = 9 := by decide
  have FS0 : Fr 1025 S0 S0 := Fr.rf
  unfold F_X0_move
  refine zk_iv fun x1 e1 => ?_
  refine zk_iv fun x2 e2 => ?_
  refine zk_sv fun S3 E3 => ?_
  have RS3 : RI S3 := by rw [E3]; exact RS0.wf rfl
  have FS3 : Fr 1025 S0 S3 := by rw [E3]; exact FS0.wr (k := 10) rfl rfl
  refine zk_iv fun x4 e4 => ?_
  have b5 := ti_bd x4
  refine zk_eq (fun c6 => ?_) (fun c6 => ?_)
  ·
    unfold B_X0_move_29
    refine zk_sv fun S7 E7 => ?_
    have RS7 : RI S7 := by rw [E7]; exact RS3.wf rfl
    have FS7 : Fr 1025 S0 S7 := by rw [E7]; exact FS3.wr (k := 10) rfl rfl
    refine zk_iv fun x8 e8 => ?_
    refine zk_iv fun x9 e9 => ?_
    refine zk_iv fun x10 e10 => ?_
    refine zk_sv fun S11 E11 => ?_
    have RS11 : RI S11 := by rw [E11]; exact RS7.wf rfl
    have FS11 : Fr 1025 S0 S11 := by rw [E11]; exact FS7.wr (k := 10) rfl rfl
    refine zk_ivq (x := x4) (by rw [E11]; exact (ge_pua (by decide)).trans (by rw [E7]; exact (ge_pua (by decide)).trans e4.symm)) ?_
    refine zk_eq (fun c12 => ?_) (fun c12 => ?_)
    ·
      unfold B_X0_move_62
      refine zk_imp (s_B_X0_move_64 r0 r1 _ _ RS11 (by omega) (by omega)) (fun v13 T14 h13 => ?_)
      obtain ⟨RT14, fT14, h13⟩ := h13
      have FT14 := FS11.tr (fT14.sub (m := 1025) (by decide))
      exact ⟨RT14, FT14, trivial⟩
    ·
      exact False.elim (by omega)
  ·
    refine zk_iv fun x15 e15 => ?_
    refine zk_iv fun x16 e16 => ?_
    unfold B_X0_move_29
    refine zk_sv fun S17 E17 => ?_
    have RS17 : RI S17 := by rw [E17]; exact RS3.wf rfl
    have FS17 : Fr 1025 S0 S17 := by rw [E17]; exact FS3.wr (k := 10) rfl rfl
    refine zk_iv fun x18 e18 => ?_
    refine zk_iv fun x19 e19 => ?_
    refine zk_iv fun x20 e20 => ?_
    refine zk_sv fun S21 E21 => ?_
    have RS21 : RI S21 := by rw [E21]; exact RS17.wf rfl
    have FS21 : Fr 1025 S0 S21 := by rw [E21]; exact FS17.wr (k := 10) rfl rfl
    refine zk_ivq (x := x4) (by rw [E21]; exact (ge_pua (by decide)).trans (by rw [E17]; exact (ge_pua (by decide)).trans e4.symm)) ?_
    refine zk_eq (fun c22 => ?_) (fun c22 => ?_)
    ·
      unfold B_X0_move_62
      refine zk_imp (s_B_X0_move_64 r0 r1 _ _ RS21 (by omega) (by omega)) (fun v23 T24 h23 => ?_)
      obtain ⟨RT24, fT24, h23⟩ := h23
      have FT24 := FS21.tr (fT24.sub (m := 1025) (by decide))
      exact ⟨RT24, FT24, trivial⟩
    ·
      refine zk_ivq (x := x4) (by rw [E21]; exact (ge_pua (by decide)).trans (by rw [E17]; exact (ge_pua (by decide)).trans e4.symm)) ?_
      refine zk_eq (fun c25 => ?_) (fun c25 => ?_)
      ·
        unfold B_X0_move_62
        refine zk_imp (s_B_X0_move_64 r0 r1 _ _ RS21 (by omega) (by omega)) (fun v26 T27 h26 => ?_)
        obtain ⟨RT27, fT27, h26⟩ := h26
        have FT27 := FS21.tr (fT27.sub (m := 1025) (by decide))
        exact ⟨RT27, FT27, trivial⟩
      ·
        exact zk_some ⟨RS21, FS21, trivial⟩
theorem s_F_X2_add (r0 : Nat) (p1 : Int32) (p2 : Int32) (p3 : Int32) (p4 : Int32) (S0 : fS) (RS0 : RI S0) : zk (F_X2_add r0 p1 p2 p3 p4 S0) (fun v S9 => RI S9 ∧ Fr 1 S0 S9 ∧ True) := by
  have lm1 : (-1 : Int32).toInt = -1 := by decide
  have l0 : (0 : Int32).toInt = 0 := by decide
  have l1 : (1 : Int32).toInt = 1 := by decide
  have l24 : (24 : Int32).toInt = 24 := by decide
  have FS0 : Fr 1 S0 S0 := Fr.rf
  unfold F_X2_add
  refine zk_iv fun x1 e1 => ?_
  have gx1 : 0 ≤ x1.toInt ∧ x1.toInt ≤ 24 := by rw [e1]; exact RS0 2 _ _
  refine zk_lt (fun c2 => ?_) (fun c2 => ?_)
  ·
    refine zk_ivq (x := x1) e1.symm ?_
    refine zk_ivq (x := x1) e1.symm ?_
    refine zk_iv fun x3 e3 => ?_
    have gx3 : x3.toInt = x1.toInt + (1 : Int32).toInt := by rw [e3]; exact ti_add (by omega) (by omega)
    refine zk_sv fun S4 E4 => ?_
    have RS4 : RI S4 := by rw [E4]; exact RS0.wr (show (0 : Int) ≤ x3.toInt by omega) (show x3.toInt ≤ 24 by omega)
    have FS4 : Fr 1 S0 S4 := by rw [E4]; exact FS0.wr (k := 0) rfl rfl
    refine zk_gd ⟨by omega, by omega⟩ ?_
    refine zk_sv fun S5 E5 => ?_
    have RS5 : RI S5 := by rw [E5]; exact RS4.wf rfl
    have FS5 : Fr 1 S0 S5 := by rw [E5]; exact FS4.wr (k := 0) rfl rfl
    refine zk_gd ⟨by omega, by omega⟩ ?_
    refine zk_sv fun S6 E6 => ?_
    have RS6 : RI S6 := by rw [E6]; exact RS5.wf rfl
    have FS6 : Fr 1 S0 S6 := by rw [E6]; exact FS5.wr (k := 0) rfl rfl
    refine zk_gd ⟨by omega, by omega⟩ ?_
    refine zk_sv fun S7 E7 => ?_
    have RS7 : RI S7 := by rw [E7]; exact RS6.wf rfl
    have FS7 : Fr 1 S0 S7 := by rw [E7]; exact FS6.wr (k := 0) rfl rfl
    refine zk_gd ⟨by omega, by omega⟩ ?_
    refine zk_sv fun S8 E8 => ?_
    have RS8 : RI S8 := by rw [E8]; exact RS7.wf rfl
    have FS8 : Fr 1 S0 S8 := by rw [E8]; exact FS7.wr (k := 0) rfl rfl
    refine zk_gd ⟨by omega, by omega⟩ ?_
    refine zk_sv fun S9 E9 => ?_
    have RS9 : RI S9 := by rw [E9]; exact RS8.wf rfl
    have FS9 : Fr 1 S0 S9 := by rw [E9]; exact FS8.wr (k := 0) rfl rfl
    refine zk_bd (s_F_X2_put _ _ _ _ RS9) (fun v10 T11 h10 => ?_)
    obtain ⟨RT11, fT11, h10⟩ := h10
    have FT11 := FS9.tr (fT11.sub (m := 1) (by decide))
    exact zk_some ⟨RT11, FT11, trivial⟩
  ·
    exact zk_some ⟨RS0, FS0, trivial⟩
theorem s_B_X2_levelOf_31 (r0 : Nat) (z : Int32 × Int32 × Int32) (S : fS) (RS : RI S) (hi : 0 ≤ z.2.2.toInt ∧ z.2.2.toInt ≤ 24) (hm : (24 - z.2.2.toInt).toNat < 4294967296) : zk (lp (B_X2_levelOf_31 r0) fuel z S) (fun v S9 => S = S9 ∧ True) := by
  have l0 : (0 : Int32).toInt = 0 := by decide
  have l24 : (24 : Int32).toInt = 24 := by decide
  have lo1 : (Int32.ofInt 1).toInt = 1 := by decide
  refine zk_lp (fun z S => RI S ∧ (0 ≤ z.2.2.toInt ∧ z.2.2.toInt ≤ 24)) (fun z S => (24 - z.2.2.toInt).toNat) (fun z S (v : Int32) S9 => S = S9 ∧ True) ?_ z S ⟨RS, hi⟩ hm
  clear RS hi hm
  intro k z S hI hk
  obtain ⟨RS, hI⟩ := hI
  obtain ⟨a2, a3, a4⟩ := z
  (try dsimp only at hI); (try dsimp only at hk); (try dsimp only)
  unfold B_X2_levelOf_31
  dsimp only
  refine zk_le (fun c1 => ?_) (fun c1 => ?_)
  ·
    exact zk_some ⟨rfl, trivial⟩
  ·
    refine zk_bd (s_F_X2_known _ _ _ RS) (fun v2 T3 h2 => ?_)
    obtain ⟨rfl, h2⟩ := h2
    refine zk_eq (fun c4 => ?_) (fun c4 => ?_)
    ·
      exact zk_some ⟨rfl, trivial⟩
    ·
      refine zk_iv fun x5 e5 => ?_
      refine zk_gd ⟨by omega, by omega⟩ ?_
      refine zk_iv fun x6 e6 => ?_
      refine zk_iv fun x7 e7 => ?_
      have gx7 : x7.toInt = a4.toInt + (Int32.ofInt 1).toInt := by rw [e7]; exact ti_add (by omega) (by omega)
      refine zk_imp (hk (x5, x6, x7) _ ⟨RS, (by (try dsimp only) <;> omega)⟩ (by (try dsimp only) <;> omega)) (fun v8 T9 h8 => ?_)
      obtain ⟨rfl, h8⟩ := h8
      exact ⟨rfl, trivial⟩
theorem s_F_X2_levelOf (r0 : Nat) (p1 : Int32) (S0 : fS) (RS0 : RI S0) : zk (F_X2_levelOf r0 p1 S0) (fun v S9 => S0 = S9 ∧ True) := by
  have lm1 : (-1 : Int32).toInt = -1 := by decide
  have l0 : (0 : Int32).toInt = 0 := by decide
  unfold F_X2_levelOf
  refine zk_bd (s_F_X2_known _ _ _ RS0) (fun v1 T2 h1 => ?_)
  obtain ⟨rfl, h1⟩ := h1
  refine zk_eq (fun c3 => ?_) (fun c3 => ?_)
  ·
    exact zk_some ⟨rfl, trivial⟩
  ·
    refine zk_gd ⟨by omega, by omega⟩ ?_
    refine zk_iv fun x4 e4 => ?_
    have b5 := ti_bd x4
    refine zk_le (fun c6 => ?_) (fun c6 => ?_)
    ·
      refine zk_gd ⟨by omega, by omega⟩ ?_
      refine zk_iv fun x7 e7 => ?_
      refine zk_imp (s_B_X2_levelOf_31 r0 _ _ RS0 (by (try dsimp only) <;> omega) (by (try dsimp only) <;> omega)) (fun v8 T9 h8 => ?_)
      obtain ⟨rfl, h8⟩ := h8
      exact ⟨rfl, trivial⟩
    ·
      exact zk_some ⟨rfl, trivial⟩
theorem s_B_X2_countAt_4 (r0 : Nat) (z : Int32 × Int32 × Int32) (S : fS) (RS : RI S) (hi : 0 ≤ z.2.2.toInt ∧ z.2.2.toInt ≤ 24) (hm : (24 - z.2.2.toInt).toNat < 4294967296) : zk (lp (B_X2_countAt_4 r0) fuel z S) (fun v S9 => S = S9 ∧ True) := by
  have l0 : (0 : Int32).toInt = 0 := by decide
  have l1 : (1 : Int32).toInt = 1 := by decide
  have lo1 : (Int32.ofInt 1).toInt = 1 := by decide
  refine zk_lp (fun z S => RI S ∧ (0 ≤ z.2.2.toInt ∧ z.2.2.toInt ≤ 24)) (fun z S => (24 - z.2.2.toInt).toNat) (fun z S (v : Int32) S9 => S = S9 ∧ True) ?_ z S ⟨RS, hi⟩ hm
  clear RS hi hm
  intro k z S hI hk
  obtain ⟨RS, hI⟩ := hI
  obtain ⟨a1, a2, a3⟩ := z
  (try dsimp only at hI); (try dsimp only at hk); (try dsimp only)
  unfold B_X2_countAt_4
  dsimp only
  refine zk_iv fun x1 e1 => ?_
  have gx1 : 0 ≤ x1.toInt ∧ x1.toInt ≤ 24 := by rw [e1]; exact RS 2 _ _
  refine zk_le (fun c2 => ?_) (fun c2 => ?_)
  ·
    exact zk_some ⟨rfl, trivial⟩
  ·
    refine zk_gd ⟨by omega, by omega⟩ ?_
    refine zk_iv fun x3 e3 => ?_
    have b4 := ti_bd x3
    have b5 := ti_bd a1
    refine zk_eq (fun c6 => ?_) (fun c6 => ?_)
    ·
      unfold B_X2_countAt_28
      refine zk_iv fun x7 e7 => ?_
      refine zk_iv fun x8 e8 => ?_
      have gx8 : x8.toInt = a3.toInt + (Int32.ofInt 1).toInt := by rw [e8]; exact ti_add (by omega) (by omega)
      refine zk_imp (hk (a1, x7, x8) _ ⟨RS, (by (try dsimp only) <;> omega)⟩ (by (try dsimp only) <;> omega)) (fun v9 T10 h9 => ?_)
      obtain ⟨rfl, h9⟩ := h9
      exact ⟨rfl, trivial⟩
    ·
      unfold B_X2_countAt_28
      refine zk_iv fun x11 e11 => ?_
      have b12 := ti_bd a2
      have gx11 : x11.toInt = a2.toInt + (0 : Int32).toInt := by rw [e11]; exact ti_add (by omega) (by omega)
      refine zk_iv fun x13 e13 => ?_
      have gx13 : x13.toInt = a3.toInt + (Int32.ofInt 1).toInt := by rw [e13]; exact ti_add (by omega) (by omega)
      refine zk_imp (hk (a1, x11, x13) _ ⟨RS, (by (try dsimp only) <;> omega)⟩ (by (try dsimp only) <;> omega)) (fun v14 T15 h14 => ?_)
      obtain ⟨rfl, h14⟩ := h14
      exact ⟨rfl, trivial⟩
theorem s_F_X2_countAt (r0 : Nat) (p1 : Int32) (S0 : fS) (RS0 : RI S0) : zk (F_X2_countAt r0 p1 S0) (fun v S9 => S0 = S9 ∧ True) := by
  have l0 : (0 : Int32).toInt = 0 := by decide
  unfold F_X2_countAt
  refine zk_imp (s_B_X2_countAt_4 r0 _ _ RS0 (by (try dsimp only) <;> omega) (by (try dsimp only) <;> omega)) (fun v1 T2 h1 => ?_)
  obtain ⟨rfl, h1⟩ := h1
  exact ⟨rfl, trivial⟩
theorem s_F_X3_grip (S0 : fS) (RS0 : RI S0) : zk (F_X3_grip S0) (fun v S9 => S0 = S9 ∧ True) := by
  have l0 : (0 : Int32).toInt = 0 := by decide
  have l999 : (999 : Int32).toInt = 999 := by decide
  unfold F_X3_grip
  refine zk_iv fun x1 e1 => ?_
  refine zk_iv fun x2 e2 => ?_
  have gx2 := zi_min e2
  refine zk_iv fun x3 e3 => ?_
  have gx3 := zi_max e3
  exact zk_some ⟨rfl, trivial⟩
theorem s_F_X3_slip (S0 : fS) (RS0 : RI S0) : zk (F_X3_slip S0) (fun v S9 => S0 = S9 ∧ True) := by
  have l0 : (0 : Int32).toInt = 0 := by decide
  have l1 : (1 : Int32).toInt = 1 := by decide
  have l999 : (999 : Int32).toInt = 999 := by decide
  unfold F_X3_slip
  refine zk_iv fun x1 e1 => ?_
  refine zk_iv fun x2 e2 => ?_
  have gx2 := zi_min e2
  refine zk_iv fun x3 e3 => ?_
  have gx3 := zi_max e3
  exact zk_some ⟨rfl, trivial⟩
theorem s_F_X3_lots (S0 : fS) (RS0 : RI S0) : zk (F_X3_lots S0) (fun v S9 => S0 = S9 ∧ True) := by
  have l0 : (0 : Int32).toInt = 0 := by decide
  have l1 : (1 : Int32).toInt = 1 := by decide
  have l2 : (2 : Int32).toInt = 2 := by decide
  have l36 : (36 : Int32).toInt = 36 := by decide
  unfold F_X3_lots
  refine zk_iv fun x1 e1 => ?_
  refine zk_iv fun x2 e2 => ?_
  have gx2 := zi_min e2
  refine zk_iv fun x3 e3 => ?_
  have gx3 := zi_max e3
  exact zk_some ⟨rfl, trivial⟩
theorem s_F_X3_push (p1 : Int32) (S0 : fS) (RS0 : RI S0) : zk (F_X3_push p1 S0) (fun v S9 => RI S9 ∧ Fr 1 S0 S9 ∧ True) := by
  have l0 : (0 : Int32).toInt = 0 := by decide
  have l1 : (1 : Int32).toInt = 1 := by decide
  have l300 : (300 : Int32).toInt = 300 := by decide
  have FS0 : Fr 1 S0 S0 := Fr.rf
  unfold F_X3_push
  refine zk_iv fun x1 e1 => ?_
  have gx1 : 0 ≤ x1.toInt ∧ x1.toInt ≤ 300 := by rw [e1]; exact RS0 22 _ _
  refine zk_le (fun c2 => ?_) (fun c2 => ?_)
  ·
    exact zk_some ⟨RS0, FS0, trivial⟩
  ·
    refine zk_ivq (x := x1) e1.symm ?_
    refine zk_gd ⟨by omega, by omega⟩ ?_
    refine zk_sv fun S3 E3 => ?_
    have RS3 : RI S3 := by rw [E3]; exact RS0.wf rfl
    have FS3 : Fr 1 S0 S3 := by rw [E3]; exact FS0.wr (k := 0) rfl rfl
    refine zk_ivq (x := x1) (by rw [E3]; exact (ge_pua (by decide)).trans e1.symm) ?_
    refine zk_iv fun x4 e4 => ?_
    have gx4 : x4.toInt = x1.toInt + (1 : Int32).toInt := by rw [e4]; exact ti_add (by omega) (by omega)
    refine zk_sv fun S5 E5 => ?_
    have RS5 : RI S5 := by rw [E5]; exact RS3.wr (show (0 : Int) ≤ x4.toInt by omega) (show x4.toInt ≤ 300 by omega)
    have FS5 : Fr 1 S0 S5 := by rw [E5]; exact FS3.wr (k := 0) rfl rfl
    exact zk_some ⟨RS5, FS5, trivial⟩
theorem s_F_X3_named (p0 : Int32) (r1 : Nat) (p2 : Int32) (S0 : fS) (RS0 : RI S0) : zk (F_X3_named p0 r1 p2 S0) (fun v S9 => S0 = S9 ∧ True) := by
  have l4 : (4 : Int32).toInt = 4 := by decide
  have l5 : (5 : Int32).toInt = 5 := by decide
  have l6 : (6 : Int32).toInt = 6 := by decide
  have l7 : (7 : Int32).toInt = 7 := by decide
  have l8 : (8 : Int32).toInt = 8 := by decide
  have l9 : (9 : Int32).toInt = 9 := by decide
  unfold F_X3_named
  refine zk_bb (fun c1 => ?_) (fun c1 => ?_)
  ·
    refine zk_iv fun x2 e2 => ?_
    exact zk_some ⟨rfl, trivial⟩
  ·
    refine zk_bb (fun c3 => ?_) (fun c3 => ?_)
    ·
      refine zk_iv fun x4 e4 => ?_
      exact zk_some ⟨rfl, trivial⟩
    ·
      refine zk_bb (fun c5 => ?_) (fun c5 => ?_)
      ·
        refine zk_iv fun x6 e6 => ?_
        exact zk_some ⟨rfl, trivial⟩
      ·
        refine zk_bb (fun c7 => ?_) (fun c7 => ?_)
        ·
          refine zk_iv fun x8 e8 => ?_
          exact zk_some ⟨rfl, trivial⟩
        ·
          refine zk_bb (fun c9 => ?_) (fun c9 => ?_)
          ·
            refine zk_iv fun x10 e10 => ?_
            exact zk_some ⟨rfl, trivial⟩
          ·
            refine zk_bb (fun c11 => ?_) (fun c11 => ?_)
            ·
              exact zk_some ⟨rfl, trivial⟩
            ·
              refine zk_iv fun x12 e12 => ?_
              exact zk_some ⟨rfl, trivial⟩
theorem s_F_X3_pop (S0 : fS) (RS0 : RI S0) : zk (F_X3_pop S0) (fun v S9 => RI S9 ∧ Fr 1 S0 S9 ∧ True) := by
  have l0 : (0 : Int32).toInt = 0 := by decide
  have l1 : (1 : Int32).toInt = 1 := by decide
  have FS0 : Fr 1 S0 S0 := Fr.rf
  unfold F_X3_pop
  refine zk_iv fun x1 e1 => ?_
  have gx1 : 0 ≤ x1.toInt ∧ x1.toInt ≤ 300 := by rw [e1]; exact RS0 22 _ _
  refine zk_lt (fun c2 => ?_) (fun c2 => ?_)
  ·
    refine zk_ivq (x := x1) e1.symm ?_
    refine zk_iv fun x3 e3 => ?_
    have gx3 : x3.toInt = x1.toInt - (1 : Int32).toInt := by rw [e3]; exact ti_sub (by omega) (by omega)
    refine zk_sv fun S4 E4 => ?_
    have RS4 : RI S4 := by rw [E4]; exact RS0.wr (show (0 : Int) ≤ x3.toInt by omega) (show x3.toInt ≤ 300 by omega)
    have FS4 : Fr 1 S0 S4 := by rw [E4]; exact FS0.wr (k := 0) rfl rfl
    refine zk_ivq (x := x3) (by rw [E4]; exact ge_pus) ?_
    refine zk_gd ⟨by omega, by omega⟩ ?_
    refine zk_iv fun x5 e5 => ?_
    exact zk_some ⟨RS4, FS4, trivial⟩
  ·
    exact zk_some ⟨RS0, FS0, trivial⟩
theorem s_F_X3_tell (p1 : Int32) (p2 : Int32) (p3 : Int32) (S0 : fS) (RS0 : RI S0) : zk (F_X3_tell p1 p2 p3 S0) (fun v S9 => RI S9 ∧ Fr 1 S0 S9 ∧ True) := by
  have l0 : (0 : Int32).toInt = 0 := by decide
  have l3 : (3 : Int32).toInt = 3 := by decide
  have FS0 : Fr 1 S0 S0 := Fr.rf
  unfold F_X3_tell
  have b1 := ti_bd p3
  refine zk_eq (fun c2 => ?_) (fun c2 => ?_)
  ·
    exact zk_some ⟨RS0, FS0, trivial⟩
  ·
    have b3 := ti_bd p1
    refine zk_lt (fun c4 => ?_) (fun c4 => ?_)
    ·
      exact zk_some ⟨RS0, FS0, trivial⟩
    ·
      refine zk_le (fun c5 => ?_) (fun c5 => ?_)
      ·
        exact zk_some ⟨RS0, FS0, trivial⟩
      ·
        refine zk_gd ⟨by omega, by omega⟩ ?_
        refine zk_sv fun S6 E6 => ?_
        have RS6 : RI S6 := by rw [E6]; exact RS0.wf rfl
        have FS6 : Fr 1 S0 S6 := by rw [E6]; exact FS0.wr (k := 0) rfl rfl
        exact zk_some ⟨RS6, FS6, trivial⟩
theorem s_F_X3_joined (p0 : Int32) (p1 : Int32) (p2 : Int32) (S0 : fS) (RS0 : RI S0) : zk (F_X3_joined p0 p1 p2 S0) (fun v S9 => S0 = S9 ∧ True) := by
  have l0 : (0 : Int32).toInt = 0 := by decide
  have l1 : (1 : Int32).toInt = 1 := by decide
  unfold F_X3_joined
  refine zk_bb (fun c1 => ?_) (fun c1 => ?_)
  ·
    refine zk_iv fun x2 e2 => ?_
    exact zk_some ⟨rfl, trivial⟩
  ·
    refine zk_bb (fun c3 => ?_) (fun c3 => ?_)
    ·
      refine zk_iv fun x4 e4 => ?_
      exact zk_some ⟨rfl, trivial⟩
    ·
      refine zk_bb (fun c5 => ?_) (fun c5 => ?_)
      ·
        refine zk_iv fun x6 e6 => ?_
        exact zk_some ⟨rfl, trivial⟩
      ·
        refine zk_bb (fun c7 => ?_) (fun c7 => ?_)
        ·
          have b8 := ti_bd p2
          refine zk_eq (fun c9 => ?_) (fun c9 => ?_)
          ·
            exact zk_some ⟨rfl, trivial⟩
          ·
            refine zk_gd (zn0 (by omega)) ?_
            refine zk_iv fun x10 e10 => ?_
            exact zk_some ⟨rfl, trivial⟩
        ·
          refine zk_bb (fun c11 => ?_) (fun c11 => ?_)
          ·
            refine zk_iv fun x12 e12 => ?_
            have gx12 := zi_min e12
            exact zk_some ⟨rfl, trivial⟩
          ·
            refine zk_bb (fun c13 => ?_) (fun c13 => ?_)
            ·
              refine zk_iv fun x14 e14 => ?_
              have gx14 := zi_max e14
              exact zk_some ⟨rfl, trivial⟩
            ·
              refine zk_bb (fun c15 => ?_) (fun c15 => ?_)
              ·
                have b16 := ti_bd p2
                have b17 := ti_bd p1
                refine zk_le (fun c18 => ?_) (fun c18 => ?_)
                ·
                  exact zk_some ⟨rfl, trivial⟩
                ·
                  exact zk_some ⟨rfl, trivial⟩
              ·
                refine zk_bb (fun c19 => ?_) (fun c19 => ?_)
                ·
                  have b20 := ti_bd p1
                  have b21 := ti_bd p2
                  refine zk_le (fun c22 => ?_) (fun c22 => ?_)
                  ·
                    exact zk_some ⟨rfl, trivial⟩
                  ·
                    exact zk_some ⟨rfl, trivial⟩
                ·
                  refine zk_bb (fun c23 => ?_) (fun c23 => ?_)
                  ·
                    have b24 := ti_bd p1
                    have b25 := ti_bd p2
                    refine zk_eq (fun c26 => ?_) (fun c26 => ?_)
                    ·
                      exact zk_some ⟨rfl, trivial⟩
                    ·
                      exact zk_some ⟨rfl, trivial⟩
                  ·
                    refine zk_bb (fun c27 => ?_) (fun c27 => ?_)
                    ·
                      refine zk_iv fun x28 e28 => ?_
                      exact zk_some ⟨rfl, trivial⟩
                    ·
                      refine zk_iv fun x29 e29 => ?_
                      exact zk_some ⟨rfl, trivial⟩
theorem s_F_X3_work (p1 : Int32) (S0 : fS) (RS0 : RI S0) : zk (F_X3_work p1 S0) (fun v S9 => RI S9 ∧ Fr 1 S0 S9 ∧ True) := by
  have l0 : (0 : Int32).toInt = 0 := by decide
  have l1 : (1 : Int32).toInt = 1 := by decide
  have l2011 : (2011 : Int32).toInt = 2011 := by decide
  have l2020 : (2020 : Int32).toInt = 2020 := by decide
  have l2030 : (2030 : Int32).toInt = 2030 := by decide
  have FS0 : Fr 1 S0 S0 := Fr.rf
  unfold F_X3_work
  have b1 := ti_bd p1
  refine zk_eq (fun c2 => ?_) (fun c2 => ?_)
  ·
    refine zk_bd (s_F_X3_pop _ RS0) (fun v3 T4 h3 => ?_)
    obtain ⟨RT4, fT4, h3⟩ := h3
    have FT4 := FS0.tr (fT4.sub (m := 1) (by decide))
    have b5 := ti_bd v3
    refine zk_eq (fun c6 => ?_) (fun c6 => ?_)
    ·
      unfold B_X3_work_20
      refine zk_bd (s_F_X3_push _ _ RT4) (fun v7 T8 h7 => ?_)
      obtain ⟨RT8, fT8, h7⟩ := h7
      have FT8 := FT4.tr (fT8.sub (m := 1) (by decide))
      exact zk_some ⟨RT8, FT8, trivial⟩
    ·
      unfold B_X3_work_20
      refine zk_bd (s_F_X3_push _ _ RT4) (fun v9 T10 h9 => ?_)
      obtain ⟨RT10, fT10, h9⟩ := h9
      have FT10 := FT4.tr (fT10.sub (m := 1) (by decide))
      exact zk_some ⟨RT10, FT10, trivial⟩
  ·
    refine zk_lt (fun c11 => ?_) (fun c11 => ?_)
    ·
      refine zk_lt (fun c12 => ?_) (fun c12 => ?_)
      ·
        refine zk_bd (s_F_X3_pop _ RS0) (fun v13 T14 h13 => ?_)
        obtain ⟨RT14, fT14, h13⟩ := h13
        have FT14 := FS0.tr (fT14.sub (m := 1) (by decide))
        refine zk_bd (s_F_X3_pop _ RT14) (fun v15 T16 h15 => ?_)
        obtain ⟨RT16, fT16, h15⟩ := h15
        have FT16 := FT14.tr (fT16.sub (m := 1) (by decide))
        refine zk_bd (s_F_X3_joined _ _ _ _ RT16) (fun v17 T18 h17 => ?_)
        obtain ⟨rfl, h17⟩ := h17
        refine zk_bd (s_F_X3_push _ _ RT16) (fun v19 T20 h19 => ?_)
        obtain ⟨RT20, fT20, h19⟩ := h19
        have FT20 := FT16.tr (fT20.sub (m := 1) (by decide))
        exact zk_some ⟨RT20, FT20, trivial⟩
      ·
        refine zk_iv fun x21 e21 => ?_
        have gx21 : x21.toInt = p1.toInt - (2020 : Int32).toInt := by rw [e21]; exact ti_sub (by omega) (by omega)
        refine zk_bd (s_F_X3_pop _ RS0) (fun v22 T23 h22 => ?_)
        obtain ⟨RT23, fT23, h22⟩ := h22
        have FT23 := FS0.tr (fT23.sub (m := 1) (by decide))
        refine zk_bd (s_F_X3_tell _ _ _ _ RT23) (fun v24 T25 h24 => ?_)
        obtain ⟨RT25, fT25, h24⟩ := h24
        have FT25 := FT23.tr (fT25.sub (m := 1) (by decide))
        exact zk_some ⟨RT25, FT25, trivial⟩
    ·
      refine zk_bd (s_F_X3_pop _ RS0) (fun v26 T27 h26 => ?_)
      obtain ⟨RT27, fT27, h26⟩ := h26
      have FT27 := FS0.tr (fT27.sub (m := 1) (by decide))
      have b28 := ti_bd v26
      refine zk_eq (fun c29 => ?_) (fun c29 => ?_)
      ·
        unfold B_X3_work_45
        refine zk_iv fun x30 e30 => ?_
        have b31 := ti_bd p1
        have gx30 : x30.toInt = p1.toInt - (2030 : Int32).toInt := by rw [e30]; exact ti_sub (by omega) (by omega)
        refine zk_bd (s_F_X3_pop _ RT27) (fun v32 T33 h32 => ?_)
        obtain ⟨RT33, fT33, h32⟩ := h32
        have FT33 := FT27.tr (fT33.sub (m := 1) (by decide))
        refine zk_bd (s_F_X3_tell _ _ _ _ RT33) (fun v34 T35 h34 => ?_)
        obtain ⟨RT35, fT35, h34⟩ := h34
        have FT35 := FT33.tr (fT35.sub (m := 1) (by decide))
        exact zk_some ⟨RT35, FT35, trivial⟩
      ·
        unfold B_X3_work_45
        refine zk_iv fun x36 e36 => ?_
        have b37 := ti_bd p1
        have gx36 : x36.toInt = p1.toInt - (2030 : Int32).toInt := by rw [e36]; exact ti_sub (by omega) (by omega)
        refine zk_bd (s_F_X3_pop _ RT27) (fun v38 T39 h38 => ?_)
        obtain ⟨RT39, fT39, h38⟩ := h38
        have FT39 := FT27.tr (fT39.sub (m := 1) (by decide))
        refine zk_bd (s_F_X3_tell _ _ _ _ RT39) (fun v40 T41 h40 => ?_)
        obtain ⟨RT41, fT41, h40⟩ := h40
        have FT41 := FT39.tr (fT41.sub (m := 1) (by decide))
        exact zk_some ⟨RT41, FT41, trivial⟩
theorem s_B_X4_runEnd_3  (z : Int32 × Int32 × Int32) (S : fS) (RS : RI S) (hi : 0 ≤ z.2.2.toInt ∧ z.2.2.toInt ≤ 300) (hm : (300 - z.2.2.toInt).toNat < 4294967296) : zk (lp (B_X4_runEnd_3) fuel z S) (fun v S9 => S = S9 ∧ z.2.2.toInt ≤ v.toInt ∧ v.toInt ≤ 300) := by
  have l0 : (0 : Int32).toInt = 0 := by decide
  have l5 : (5 : Int32).toInt = 5 := by decide
  have lo1 : (Int32.ofInt 1).toInt = 1 := by decide
  refine zk_lp (fun z S => RI S ∧ (0 ≤ z.2.2.toInt ∧ z.2.2.toInt ≤ 300)) (fun z S => (300 - z.2.2.toInt).toNat) (fun z S (v : Int32) S9 => S = S9 ∧ z.2.2.toInt ≤ v.toInt ∧ v.toInt ≤ 300) ?_ z S ⟨RS, hi⟩ hm
  clear RS hi hm
  intro k z S hI hk
  obtain ⟨RS, hI⟩ := hI
  obtain ⟨a3, a4, a5⟩ := z
  (try dsimp only at hI); (try dsimp only at hk); (try dsimp only)
  unfold B_X4_runEnd_3
  dsimp only
  refine zk_iv fun x1 e1 => ?_
  have gx1 : 0 ≤ x1.toInt ∧ x1.toInt ≤ 300 := by rw [e1]; exact RS 17 _ _
  refine zk_le (fun c2 => ?_) (fun c2 => ?_)
  ·
    exact zk_some ⟨rfl, by omega⟩
  ·
    refine zk_gd ⟨by omega, by omega⟩ ?_
    refine zk_iv fun x3 e3 => ?_
    refine zk_bd (s_F_X6_within _ _ _ _ RS) (fun v4 T5 h4 => ?_)
    obtain ⟨rfl, h4⟩ := h4
    refine zk_eq (fun c6 => ?_) (fun c6 => ?_)
    ·
      exact zk_some ⟨rfl, by omega⟩
    ·
      refine zk_iv fun x7 e7 => ?_
      have gx7 : x7.toInt = a5.toInt + (Int32.ofInt 1).toInt := by rw [e7]; exact ti_add (by omega) (by omega)
      refine zk_imp (hk (a3, a4, x7) _ ⟨RS, (by (try dsimp only) <;> omega)⟩ (by (try dsimp only) <;> omega)) (fun v8 T9 h8 => ?_)
      obtain ⟨rfl, h8⟩ := h8
      try dsimp only at h8
      exact ⟨rfl, by omega⟩
theorem s_F_X4_runEnd (p2 : Int32) (p3 : Int32) (p4 : Int32) (S0 : fS) (RS0 : RI S0) (hp : 0 ≤ p2.toInt ∧ p2.toInt ≤ 300) : zk (F_X4_runEnd p2 p3 p4 S0) (fun v S9 => S0 = S9 ∧ p2.toInt ≤ v.toInt ∧ v.toInt ≤ 300) := by
  unfold F_X4_runEnd
  refine zk_imp (s_B_X4_runEnd_3 _ _ RS0 (by (try dsimp only) <;> omega) (by (try dsimp only) <;> omega)) (fun v1 T2 h1 => ?_)
  obtain ⟨rfl, h1⟩ := h1
  try dsimp only at h1
  exact ⟨rfl, by omega⟩
theorem s_B_X4_numberIn_5  (z : Int32 × Int32 × Int32) (S : fS) (RS : RI S) (hi : 0 ≤ z.2.2.toInt ∧ z.2.2.toInt ≤ 300 ∧ z.1.toInt ≤ 300) (hm : (300 - z.2.2.toInt).toNat < 4294967296) : zk (lp (B_X4_numberIn_5) fuel z S) (fun v S9 => S = S9 ∧ True) := by
  have l0 : (0 : Int32).toInt = 0 := by decide
  have l10 : (10 : Int32).toInt = 10 := by decide
  have l48 : (48 : Int32).toInt = 48 := by decide
  have l1000 : (1000 : Int32).toInt = 1000 := by decide
  have lo1 : (Int32.ofInt 1).toInt = 1 := by decide
  refine zk_lp (fun z S => RI S ∧ (0 ≤ z.2.2.toInt ∧ z.2.2.toInt ≤ 300 ∧ z.1.toInt ≤ 300)) (fun z S => (300 - z.2.2.toInt).toNat) (fun z S (v : Int32) S9 => S = S9 ∧ True) ?_ z S ⟨RS, hi⟩ hm
  clear RS hi hm
  intro k z S hI hk
  obtain ⟨RS, hI⟩ := hI
  obtain ⟨a2, a3, a4⟩ := z
  (try dsimp only at hI); (try dsimp only at hk); (try dsimp only)
  unfold B_X4_numberIn_5
  dsimp only
  have b1 := ti_bd a2
  refine zk_le (fun c2 => ?_) (fun c2 => ?_)
  ·
    exact zk_some ⟨rfl, trivial⟩
  ·
    refine zk_iv fun x3 e3 => ?_
    refine zk_gd ⟨by omega, by omega⟩ ?_
    refine zk_iv fun x4 e4 => ?_
    refine zk_iv fun x5 e5 => ?_
    refine zk_iv fun x6 e6 => ?_
    refine zk_iv fun x7 e7 => ?_
    have gx7 := zi_min e7
    refine zk_iv fun x8 e8 => ?_
    have gx8 : x8.toInt = a4.toInt + (Int32.ofInt 1).toInt := by rw [e8]; exact ti_add (by omega) (by omega)
    refine zk_imp (hk (a2, x7, x8) _ ⟨RS, (by (try dsimp only) <;> omega)⟩ (by (try dsimp only) <;> omega)) (fun v9 T10 h9 => ?_)
    obtain ⟨rfl, h9⟩ := h9
    exact ⟨rfl, trivial⟩
theorem s_F_X4_numberIn (p1 : Int32) (p2 : Int32) (S0 : fS) (RS0 : RI S0) (hp : 0 ≤ p1.toInt ∧ p1.toInt ≤ 300 ∧ p2.toInt ≤ 300) : zk (F_X4_numberIn p1 p2 S0) (fun v S9 => S0 = S9 ∧ True) := by
  have l0 : (0 : Int32).toInt = 0 := by decide
  unfold F_X4_numberIn
  refine zk_imp (s_B_X4_numberIn_5 _ _ RS0 (by (try dsimp only) <;> omega) (by (try dsimp only) <;> omega)) (fun v1 T2 h1 => ?_)
  obtain ⟨rfl, h1⟩ := h1
  exact ⟨rfl, trivial⟩
theorem s_F_X4_keepToken (p1 : Int32) (p2 : Int32) (p3 : Int32) (S0 : fS) (RS0 : RI S0) : zk (F_X4_keepToken p1 p2 p3 S0) (fun v S9 => RI S9 ∧ Fr 1 S0 S9 ∧ True) := by
  have l0 : (0 : Int32).toInt = 0 := by decide
  have l1 : (1 : Int32).toInt = 1 := by decide
  have l3 : (3 : Int32).toInt = 3 := by decide
  have l300 : (300 : Int32).toInt = 300 := by decide
  have FS0 : Fr 1 S0 S0 := Fr.rf
  unfold F_X4_keepToken
  refine zk_iv fun x1 e1 => ?_
  have gx1 : 0 ≤ x1.toInt ∧ x1.toInt ≤ 300 := by rw [e1]; exact RS0 17 _ _
  refine zk_le (fun c2 => ?_) (fun c2 => ?_)
  ·
    exact zk_some ⟨RS0, FS0, trivial⟩
  ·
    refine zk_ivq (x := x1) e1.symm ?_
    refine zk_gd ⟨by omega, by omega⟩ ?_
    refine zk_sv fun S3 E3 => ?_
    have RS3 : RI S3 := by rw [E3]; exact RS0.wf rfl
    have FS3 : Fr 1 S0 S3 := by rw [E3]; exact FS0.wr (k := 0) rfl rfl
    refine zk_ivq (x := x1) (by rw [E3]; exact (ge_pua (by decide)).trans e1.symm) ?_
    refine zk_gd ⟨by omega, by omega⟩ ?_
    refine zk_sv fun S4 E4 => ?_
    have RS4 : RI S4 := by rw [E4]; exact RS3.wf rfl
    have FS4 : Fr 1 S0 S4 := by rw [E4]; exact FS3.wr (k := 0) rfl rfl
    refine zk_ivq (x := x1) (by rw [E4]; exact (ge_pua (by decide)).trans (by rw [E3]; exact (ge_pua (by decide)).trans e1.symm)) ?_
    refine zk_gd ⟨by omega, by omega⟩ ?_
    refine zk_sv fun S5 E5 => ?_
    have RS5 : RI S5 := by rw [E5]; exact RS4.wf rfl
    have FS5 : Fr 1 S0 S5 := by rw [E5]; exact FS4.wr (k := 0) rfl rfl
    refine zk_ivq (x := x1) (by rw [E5]; exact (ge_pua (by decide)).trans (by rw [E4]; exact (ge_pua (by decide)).trans (by rw [E3]; exact (ge_pua (by decide)).trans e1.symm))) ?_
    refine zk_iv fun x6 e6 => ?_
    have gx6 : x6.toInt = x1.toInt + (1 : Int32).toInt := by rw [e6]; exact ti_add (by omega) (by omega)
    refine zk_sv fun S7 E7 => ?_
    have RS7 : RI S7 := by rw [E7]; exact RS5.wr (show (0 : Int) ≤ x6.toInt by omega) (show x6.toInt ≤ 300 by omega)
    have FS7 : Fr 1 S0 S7 := by rw [E7]; exact FS5.wr (k := 0) rfl rfl
    exact zk_some ⟨RS7, FS7, trivial⟩
theorem s_F_X4_here (S0 : fS) (RS0 : RI S0) : zk (F_X4_here S0) (fun v S9 => S0 = S9 ∧ True) := by
  have l0 : (0 : Int32).toInt = 0 := by decide
  have l3 : (3 : Int32).toInt = 3 := by decide
  have l4 : (4 : Int32).toInt = 4 := by decide
  have l256 : (256 : Int32).toInt = 256 := by decide
  unfold F_X4_here
  refine zk_iv fun x1 e1 => ?_
  have b2 := ti_bd x1
  refine zk_lt (fun c3 => ?_) (fun c3 => ?_)
  ·
    exact zk_some ⟨rfl, trivial⟩
  ·
    refine zk_ivq (x := x1) e1.symm ?_
    refine zk_iv fun x4 e4 => ?_
    have gx4 : 0 ≤ x4.toInt ∧ x4.toInt ≤ 300 := by rw [e4]; exact RS0 17 _ _
    refine zk_le (fun c5 => ?_) (fun c5 => ?_)
    ·
      exact zk_some ⟨rfl, trivial⟩
    ·
      refine zk_ivq (x := x1) e1.symm ?_
      refine zk_gd ⟨by omega, by omega⟩ ?_
      refine zk_iv fun x6 e6 => ?_
      exact zk_some ⟨rfl, trivial⟩
theorem s_F_X4_fail (p1 : Int32) (S0 : fS) (RS0 : RI S0) : zk (F_X4_fail p1 S0) (fun v S9 => RI S9 ∧ Fr 1 S0 S9 ∧ v.toInt = 0) := by
  have l0 : (0 : Int32).toInt = 0 := by decide
  have l3 : (3 : Int32).toInt = 3 := by decide
  have l4 : (4 : Int32).toInt = 4 := by decide
  have l5 : (5 : Int32).toInt = 5 := by decide
  have l10 : (10 : Int32).toInt = 10 := by decide
  have l11 : (11 : Int32).toInt = 11 := by decide
  have FS0 : Fr 1 S0 S0 := Fr.rf
  unfold F_X4_fail
  refine zk_sv fun S1 E1 => ?_
  have RS1 : RI S1 := by rw [E1]; exact RS0.wf rfl
  have FS1 : Fr 1 S0 S1 := by rw [E1]; exact FS0.wr (k := 0) rfl rfl
  refine zk_iv fun x2 e2 => ?_
  have b3 := ti_bd x2
  refine zk_lt (fun c4 => ?_) (fun c4 => ?_)
  ·
    unfold B_X4_fail_36
    refine zk_iv fun x5 e5 => ?_
    have gx5 : 0 ≤ x5.toInt ∧ x5.toInt ≤ 300 := by rw [e5]; exact RS1 17 _ _
    unfold B_X4_fail_40
    refine zk_sv fun S6 E6 => ?_
    have RS6 : RI S6 := by rw [E6]; exact RS1.wf rfl
    have FS6 : Fr 1 S0 S6 := by rw [E6]; exact FS1.wr (k := 0) rfl rfl
    exact zk_some ⟨RS6, FS6, by omega⟩
  ·
    refine zk_ivq (x := x2) e2.symm ?_
    refine zk_iv fun x7 e7 => ?_
    have gx7 : 0 ≤ x7.toInt ∧ x7.toInt ≤ 300 := by rw [e7]; exact RS1 17 _ _
    refine zk_le (fun c8 => ?_) (fun c8 => ?_)
    ·
      unfold B_X4_fail_36
      refine zk_iv fun x9 e9 => ?_
      have gx9 : 0 ≤ x9.toInt ∧ x9.toInt ≤ 300 := by rw [e9]; exact RS1 17 _ _
      unfold B_X4_fail_40
      refine zk_sv fun S10 E10 => ?_
      have RS10 : RI S10 := by rw [E10]; exact RS1.wf rfl
      have FS10 : Fr 1 S0 S10 := by rw [E10]; exact FS1.wr (k := 0) rfl rfl
      exact zk_some ⟨RS10, FS10, by omega⟩
    ·
      refine zk_ivq (x := x2) e2.symm ?_
      refine zk_gd ⟨by omega, by omega⟩ ?_
      refine zk_iv fun x11 e11 => ?_
      unfold B_X4_fail_40
      refine zk_sv fun S12 E12 => ?_
      have RS12 : RI S12 := by rw [E12]; exact RS1.wf rfl
      have FS12 : Fr 1 S0 S12 := by rw [E12]; exact FS1.wr (k := 0) rfl rfl
      exact zk_some ⟨RS12, FS12, by omega⟩
theorem s_F_X4_emit (p1 : Int32) (S0 : fS) (RS0 : RI S0) : zk (F_X4_emit p1 S0) (fun v S9 => RI S9 ∧ Fr 1 S0 S9 ∧ True) := by
  have l0 : (0 : Int32).toInt = 0 := by decide
  have l1 : (1 : Int32).toInt = 1 := by decide
  have l7 : (7 : Int32).toInt = 7 := by decide
  have l300 : (300 : Int32).toInt = 300 := by decide
  have FS0 : Fr 1 S0 S0 := Fr.rf
  unfold F_X4_emit
  refine zk_iv fun x1 e1 => ?_
  have gx1 : 0 ≤ x1.toInt ∧ x1.toInt ≤ 300 := by rw [e1]; exact RS0 17 _ _
  refine zk_le (fun c2 => ?_) (fun c2 => ?_)
  ·
    exact zk_some ⟨RS0, FS0, trivial⟩
  ·
    refine zk_ivq (x := x1) e1.symm ?_
    refine zk_gd ⟨by omega, by omega⟩ ?_
    refine zk_sv fun S3 E3 => ?_
    have RS3 : RI S3 := by rw [E3]; exact RS0.wf rfl
    have FS3 : Fr 1 S0 S3 := by rw [E3]; exact FS0.wr (k := 0) rfl rfl
    refine zk_ivq (x := x1) (by rw [E3]; exact (ge_pua (by decide)).trans e1.symm) ?_
    refine zk_iv fun x4 e4 => ?_
    have gx4 : x4.toInt = x1.toInt + (1 : Int32).toInt := by rw [e4]; exact ti_add (by omega) (by omega)
    refine zk_sv fun S5 E5 => ?_
    have RS5 : RI S5 := by rw [E5]; exact RS3.wr (show (0 : Int) ≤ x4.toInt by omega) (show x4.toInt ≤ 300 by omega)
    have FS5 : Fr 1 S0 S5 := by rw [E5]; exact FS3.wr (k := 0) rfl rfl
    exact zk_some ⟨RS5, FS5, trivial⟩
theorem s_F_X4_number (S0 : fS) (RS0 : RI S0) : zk (F_X4_number S0) (fun v S9 => RI S9 ∧ Fr 1 S0 S9 ∧ 0 ≤ v.toInt ∧ v.toInt ≤ 1) := by
  have l0 : (0 : Int32).toInt = 0 := by decide
  have l1 : (1 : Int32).toInt = 1 := by decide
  have l2 : (2 : Int32).toInt = 2 := by decide
  have l3 : (3 : Int32).toInt = 3 := by decide
  have l4 : (4 : Int32).toInt = 4 := by decide
  have l999 : (999 : Int32).toInt = 999 := by decide
  have FS0 : Fr 1 S0 S0 := Fr.rf
  unfold F_X4_number
  refine zk_iv fun x1 e1 => ?_
  have b2 := ti_bd x1
  refine zk_lt (fun c3 => ?_) (fun c3 => ?_)
  ·
    unfold B_X4_number_30
    unfold B_X4_number_31
    refine zk_bbt (by decide) ?_
    refine zk_bd (s_F_X4_emit _ _ RS0) (fun v4 T5 h4 => ?_)
    obtain ⟨RT5, fT5, h4⟩ := h4
    have FT5 := FS0.tr (fT5.sub (m := 1) (by decide))
    refine zk_iv fun x6 e6 => ?_
    refine zk_iv fun x7 e7 => ?_
    refine zk_sv fun S8 E8 => ?_
    have RS8 : RI S8 := by rw [E8]; exact RT5.wf rfl
    have FS8 : Fr 1 S0 S8 := by rw [E8]; exact FT5.wr (k := 0) rfl rfl
    exact zk_some ⟨RS8, FS8, by omega⟩
  ·
    refine zk_ivq (x := x1) e1.symm ?_
    refine zk_iv fun x9 e9 => ?_
    have gx9 : 0 ≤ x9.toInt ∧ x9.toInt ≤ 300 := by rw [e9]; exact RS0 17 _ _
    refine zk_le (fun c10 => ?_) (fun c10 => ?_)
    ·
      unfold B_X4_number_30
      unfold B_X4_number_31
      refine zk_bbt (by decide) ?_
      refine zk_bd (s_F_X4_emit _ _ RS0) (fun v11 T12 h11 => ?_)
      obtain ⟨RT12, fT12, h11⟩ := h11
      have FT12 := FS0.tr (fT12.sub (m := 1) (by decide))
      refine zk_iv fun x13 e13 => ?_
      refine zk_iv fun x14 e14 => ?_
      refine zk_sv fun S15 E15 => ?_
      have RS15 : RI S15 := by rw [E15]; exact RT12.wf rfl
      have FS15 : Fr 1 S0 S15 := by rw [E15]; exact FT12.wr (k := 0) rfl rfl
      exact zk_some ⟨RS15, FS15, by omega⟩
    ·
      refine zk_ivq (x := x1) e1.symm ?_
      refine zk_gd ⟨by omega, by omega⟩ ?_
      refine zk_iv fun x16 e16 => ?_
      unfold B_X4_number_31
      have b17 := ti_bd x16
      refine zk_le (fun c18 => ?_) (fun c18 => ?_)
      ·
        refine zk_bd (s_F_X4_emit _ _ RS0) (fun v19 T20 h19 => ?_)
        obtain ⟨RT20, fT20, h19⟩ := h19
        have FT20 := FS0.tr (fT20.sub (m := 1) (by decide))
        refine zk_iv fun x21 e21 => ?_
        refine zk_iv fun x22 e22 => ?_
        refine zk_sv fun S23 E23 => ?_
        have RS23 : RI S23 := by rw [E23]; exact RT20.wf rfl
        have FS23 : Fr 1 S0 S23 := by rw [E23]; exact FT20.wr (k := 0) rfl rfl
        exact zk_some ⟨RS23, FS23, by omega⟩
      ·
        refine zk_bd (s_F_X4_fail _ _ RS0) (fun v24 T25 h24 => ?_)
        obtain ⟨RT25, fT25, h24⟩ := h24
        have FT25 := FS0.tr (fT25.sub (m := 1) (by decide))
        refine zk_gd (z01 (by omega)) ?_
        exact zk_some ⟨RT25, FT25, by omega⟩
theorem s_F_X4_opened (p1 : Int32) (S0 : fS) (RS0 : RI S0) : zk (F_X4_opened p1 S0) (fun v S9 => RI S9 ∧ Fr 4097 S0 S9 ∧ (v.toInt = 0 ∨ (v.toInt = 1 ∧ (ge S9 17 0 8).toInt = (ge S0 17 0 8).toInt + 1 ∧ (ge S0 17 0 8).toInt < 6))) := by
  have l0 : (0 : Int32).toInt = 0 := by decide
  have l1 : (1 : Int32).toInt = 1 := by decide
  have l3 : (3 : Int32).toInt = 3 := by decide
  have l4 : (4 : Int32).toInt = 4 := by decide
  have l6 : (6 : Int32).toInt = 6 := by decide
  have l8 : (8 : Int32).toInt = 8 := by decide
  have FS0 : Fr 4097 S0 S0 := Fr.rf
  unfold F_X4_opened
  obtain ⟨y1, ey1⟩ : ∃ y : Int32, y = ge S0 17 0 8 := ⟨_, rfl⟩
  have gy1 : 0 ≤ y1.toInt ∧ y1.toInt ≤ 6 := by rw [ey1]; exact RS0 17 _ _
  have q2 : (ge S0 17 0 8).toInt = y1.toInt := congrArg Int32.toInt (show ge S0 17 0 8 = y1 from ey1.symm)
  refine zk_bd (s_F_X4_here _ RS0) (fun v3 T4 h3 => ?_)
  obtain ⟨rfl, h3⟩ := h3
  have b5 := ti_bd v3
  have b6 := ti_bd p1
  refine zk_eq (fun c7 => ?_) (fun c7 => ?_)
  ·
    refine zk_ivq (x := y1) ey1.symm ?_
    refine zk_lt (fun c8 => ?_) (fun c8 => ?_)
    ·
      refine zk_ivq (x := y1) ey1.symm ?_
      refine zk_iv fun x9 e9 => ?_
      have gx9 : x9.toInt = y1.toInt + (1 : Int32).toInt := by rw [e9]; exact ti_add (by omega) (by omega)
      refine zk_sv fun S10 E10 => ?_
      have RS10 : RI S10 := by rw [E10]; exact RS0.wr (show (0 : Int) ≤ x9.toInt by omega) (show x9.toInt ≤ 6 by omega)
      have FS10 : Fr 4097 S0 S10 := by rw [E10]; exact FS0.wr (k := 12) rfl rfl
      refine zk_iv fun x11 e11 => ?_
      refine zk_iv fun x12 e12 => ?_
      refine zk_sv fun S13 E13 => ?_
      have RS13 : RI S13 := by rw [E13]; exact RS10.wf rfl
      have FS13 : Fr 4097 S0 S13 := by rw [E13]; exact FS10.wr (k := 0) rfl rfl
      have q14 : (ge S13 17 0 8).toInt = x9.toInt := congrArg Int32.toInt (show ge S13 17 0 8 = x9 from (by rw [E13]; exact (ge_puj (by decide)).trans (by rw [E10]; exact ge_pus)))
      exact zk_some ⟨RS13, FS13, by omega⟩
    ·
      have q15 : (ge S0 17 0 8).toInt = y1.toInt := congrArg Int32.toInt (show ge S0 17 0 8 = y1 from ey1.symm)
      refine zk_bd (s_F_X4_fail _ _ RS0) (fun v16 T17 h16 => ?_)
      obtain ⟨RT17, fT17, h16⟩ := h16
      have FT17 := FS0.tr (fT17.sub (m := 4097) (by decide))
      have q18 : (ge T17 17 0 8).toInt = y1.toInt := congrArg Int32.toInt (show ge T17 17 0 8 = y1 from ((fT17.1 17 0 8 rfl).trans ey1.symm))
      refine zk_gd (z01 (by omega)) ?_
      have q19 : (ge T17 17 0 8).toInt = y1.toInt := congrArg Int32.toInt (show ge T17 17 0 8 = y1 from ((fT17.1 17 0 8 rfl).trans ey1.symm))
      exact zk_some ⟨RT17, FT17, by omega⟩
  ·
    have q20 : (ge S0 17 0 8).toInt = y1.toInt := congrArg Int32.toInt (show ge S0 17 0 8 = y1 from ey1.symm)
    refine zk_bd (s_F_X4_fail _ _ RS0) (fun v21 T22 h21 => ?_)
    obtain ⟨RT22, fT22, h21⟩ := h21
    have FT22 := FS0.tr (fT22.sub (m := 4097) (by decide))
    have q23 : (ge T22 17 0 8).toInt = y1.toInt := congrArg Int32.toInt (show ge T22 17 0 8 = y1 from ((fT22.1 17 0 8 rfl).trans ey1.symm))
    refine zk_gd (z01 (by omega)) ?_
    have q24 : (ge T22 17 0 8).toInt = y1.toInt := congrArg Int32.toInt (show ge T22 17 0 8 = y1 from ((fT22.1 17 0 8 rfl).trans ey1.symm))
    exact zk_some ⟨RT22, FT22, by omega⟩
theorem s_F_X4_passed (p1 : Int32) (S0 : fS) (RS0 : RI S0) : zk (F_X4_passed p1 S0) (fun v S9 => RI S9 ∧ Fr 1 S0 S9 ∧ 0 ≤ v.toInt ∧ v.toInt ≤ 1) := by
  have l0 : (0 : Int32).toInt = 0 := by decide
  have l1 : (1 : Int32).toInt = 1 := by decide
  have l4 : (4 : Int32).toInt = 4 := by decide
  have FS0 : Fr 1 S0 S0 := Fr.rf
  unfold F_X4_passed
  refine zk_bd (s_F_X4_here _ RS0) (fun v1 T2 h1 => ?_)
  obtain ⟨rfl, h1⟩ := h1
  have b3 := ti_bd v1
  have b4 := ti_bd p1
  refine zk_eq (fun c5 => ?_) (fun c5 => ?_)
  ·
    refine zk_iv fun x6 e6 => ?_
    refine zk_iv fun x7 e7 => ?_
    refine zk_sv fun S8 E8 => ?_
    have RS8 : RI S8 := by rw [E8]; exact RS0.wf rfl
    have FS8 : Fr 1 S0 S8 := by rw [E8]; exact FS0.wr (k := 0) rfl rfl
    exact zk_some ⟨RS8, FS8, by omega⟩
  ·
    exact zk_some ⟨RS0, FS0, by omega⟩
theorem s_F_X4_closed (p1 : Int32) (S0 : fS) (RS0 : RI S0) (hpr : 1 ≤ (ge S0 17 0 8).toInt) : zk (F_X4_closed p1 S0) (fun v S9 => RI S9 ∧ Fr 4097 S0 S9 ∧ (v.toInt = 0 ∨ (v.toInt = 1 ∧ (ge S9 17 0 8).toInt = (ge S0 17 0 8).toInt - 1))) := by
  have l0 : (0 : Int32).toInt = 0 := by decide
  have l1 : (1 : Int32).toInt = 1 := by decide
  have l8 : (8 : Int32).toInt = 8 := by decide
  have FS0 : Fr 4097 S0 S0 := Fr.rf
  unfold F_X4_closed
  obtain ⟨y1, ey1⟩ : ∃ y : Int32, y = ge S0 17 0 8 := ⟨_, rfl⟩
  have gy1 : 0 ≤ y1.toInt ∧ y1.toInt ≤ 6 := by rw [ey1]; exact RS0 17 _ _
  have q2 : (ge S0 17 0 8).toInt = y1.toInt := congrArg Int32.toInt (show ge S0 17 0 8 = y1 from ey1.symm)
  have q3 : (ge S0 17 0 8).toInt = y1.toInt := congrArg Int32.toInt (show ge S0 17 0 8 = y1 from ey1.symm)
  refine zk_bd (s_F_X4_passed _ _ RS0) (fun v4 T5 h4 => ?_)
  obtain ⟨RT5, fT5, h4⟩ := h4
  have FT5 := FS0.tr (fT5.sub (m := 4097) (by decide))
  have q6 : (ge T5 17 0 8).toInt = y1.toInt := congrArg Int32.toInt (show ge T5 17 0 8 = y1 from ((fT5.1 17 0 8 rfl).trans ey1.symm))
  refine zk_eq (fun c7 => ?_) (fun c7 => ?_)
  ·
    have q8 : (ge T5 17 0 8).toInt = y1.toInt := congrArg Int32.toInt (show ge T5 17 0 8 = y1 from ((fT5.1 17 0 8 rfl).trans ey1.symm))
    refine zk_bd (s_F_X4_fail _ _ RT5) (fun v9 T10 h9 => ?_)
    obtain ⟨RT10, fT10, h9⟩ := h9
    have FT10 := FT5.tr (fT10.sub (m := 4097) (by decide))
    have q11 : (ge T10 17 0 8).toInt = y1.toInt := congrArg Int32.toInt (show ge T10 17 0 8 = y1 from ((fT10.1 17 0 8 rfl).trans ((fT5.1 17 0 8 rfl).trans ey1.symm)))
    refine zk_gd (z01 (by omega)) ?_
    have q12 : (ge T10 17 0 8).toInt = y1.toInt := congrArg Int32.toInt (show ge T10 17 0 8 = y1 from ((fT10.1 17 0 8 rfl).trans ((fT5.1 17 0 8 rfl).trans ey1.symm)))
    exact zk_some ⟨RT10, FT10, by omega⟩
  ·
    refine zk_ivq (x := y1) ((fT5.1 17 0 8 rfl).trans ey1.symm) ?_
    refine zk_iv fun x13 e13 => ?_
    have gx13 : x13.toInt = y1.toInt - (1 : Int32).toInt := by rw [e13]; exact ti_sub (by omega) (by omega)
    refine zk_sv fun S14 E14 => ?_
    have RS14 : RI S14 := by rw [E14]; exact RT5.wr (show (0 : Int) ≤ x13.toInt by omega) (show x13.toInt ≤ 6 by omega)
    have FS14 : Fr 4097 S0 S14 := by rw [E14]; exact FT5.wr (k := 12) rfl rfl
    have q15 : (ge S14 17 0 8).toInt = x13.toInt := congrArg Int32.toInt (show ge S14 17 0 8 = x13 from (by rw [E14]; exact ge_pus))
    exact zk_some ⟨RS14, FS14, by omega⟩
theorem s_F_X4_comparison (S0 : fS) (RS0 : RI S0) : zk (F_X4_comparison S0) (fun v S9 => S0 = S9 ∧ True) := by
  have lm1 : (-1 : Int32).toInt = -1 := by decide
  have l2006 : (2006 : Int32).toInt = 2006 := by decide
  have l2007 : (2007 : Int32).toInt = 2007 := by decide
  have l2008 : (2008 : Int32).toInt = 2008 := by decide
  unfold F_X4_comparison
  refine zk_bd (s_F_X4_here _ RS0) (fun v1 T2 h1 => ?_)
  obtain ⟨rfl, h1⟩ := h1
  refine zk_bb (fun c3 => ?_) (fun c3 => ?_)
  ·
    exact zk_some ⟨rfl, trivial⟩
  ·
    refine zk_bb (fun c4 => ?_) (fun c4 => ?_)
    ·
      exact zk_some ⟨rfl, trivial⟩
    ·
      refine zk_bb (fun c5 => ?_) (fun c5 => ?_)
      ·
        exact zk_some ⟨rfl, trivial⟩
      ·
        exact zk_some ⟨rfl, trivial⟩
