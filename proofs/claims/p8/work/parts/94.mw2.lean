/-! the pure part: the reference, programs looked at, cells looked at -/
theorem s_F_X7_isPaidBy (p1 : Int32) (p2 : Int32) (p3 : Int32) (S0 : fS) (RS0 : RI S0) (hp : 0 ≤ p1.toInt ∧ p1.toInt ≤ 63 ∧ -1 ≤ p2.toInt ∧ p2.toInt ≤ 5) : zk (F_X7_isPaidBy p1 p2 p3 S0) (fun v S9 => RI S9 ∧ Fr 30635261952 S0 S9 ∧ 0 ≤ v.toInt ∧ v.toInt ≤ 1) := by
  have l0 : (0 : Int32).toInt = 0 := by decide
  have l1 : (1 : Int32).toInt = 1 := by decide
  have l5 : (5 : Int32).toInt = 5 := by decide
  have l18 : (18 : Int32).toInt = 18 := by decide
  have l19 : (19 : Int32).toInt = 19 := by decide
  have FS0 : Fr 30635261952 S0 S0 := Fr.rf
  unfold F_X7_isPaidBy
  refine zk_bd (s_F_X7_tellsBy _ _ _ RS0 (by omega)) (fun v1 T2 h1 => ?_)
  obtain ⟨RT2, fT2, h1⟩ := h1
  have FT2 := FS0.tr (fT2.sub (m := 30635261952) (by decide))
  refine zk_iv fun x3 e3 => ?_
  refine zk_iv fun x4 e4 => ?_
  refine zk_bd (s_F_X7_wouldBe _ _ _ _ RT2 (by omega)) (fun v5 T6 h5 => ?_)
  obtain ⟨RT6, fT6, h5⟩ := h5
  have FT6 := FT2.tr (fT6.sub (m := 30635261952) (by decide))
  refine zk_eq (fun c7 => ?_) (fun c7 => ?_)
  ·
    exact zk_some ⟨RT6, FT6, by omega⟩
  ·
    exact zk_some ⟨RT6, FT6, by omega⟩
theorem s_B_X7_couldBe_48 (r2 : Nat) (z : Int32 × Int32 × Int32) (S : fS) (RS : RI S) (hi : -1 ≤ z.1.toInt ∧ z.1.toInt ≤ 5 ∧ 1 ≤ z.2.1.toInt ∧ z.2.1.toInt ≤ 36 ∧ 0 ≤ z.2.2.toInt ∧ z.2.2.toInt ≤ 36) (hm : (36 - z.2.2.toInt).toNat < 4294967296) : zk (lp (B_X7_couldBe_48 r2) fuel z S) (fun v S9 => RI S9 ∧ Fr 13455392768 S S9 ∧ 0 ≤ v.toInt ∧ v.toInt ≤ 1) := by
  have l0 : (0 : Int32).toInt = 0 := by decide
  have l1 : (1 : Int32).toInt = 1 := by decide
  have l2 : (2 : Int32).toInt = 2 := by decide
  have l10 : (10 : Int32).toInt = 10 := by decide
  have l11 : (11 : Int32).toInt = 11 := by decide
  have l12 : (12 : Int32).toInt = 12 := by decide
  have l18 : (18 : Int32).toInt = 18 := by decide
  have l19 : (19 : Int32).toInt = 19 := by decide
  have l42 : (42 : Int32).toInt = 42 := by decide
  have lo1 : (Int32.ofInt 1).toInt = 1 := by decide
  refine zk_lp (fun z S => RI S ∧ (-1 ≤ z.1.toInt ∧ z.1.toInt ≤ 5 ∧ 1 ≤ z.2.1.toInt ∧ z.2.1.toInt ≤ 36 ∧ 0 ≤ z.2.2.toInt ∧ z.2.2.toInt ≤ 36)) (fun z S => (36 - z.2.2.toInt).toNat) (fun z S (v : Int32) S9 => RI S9 ∧ Fr 13455392768 S S9 ∧ 0 ≤ v.toInt ∧ v.toInt ≤ 1) ?_ z S ⟨RS, hi⟩ hm
  clear RS hi hm
  intro k z S hI hk
  obtain ⟨RS, hI⟩ := hI
  obtain ⟨a1, a3, a4⟩ := z
  (try dsimp only at hI); (try dsimp only at hk); (try dsimp only)
  have FS : Fr 13455392768 S S := Fr.rf
  unfold B_X7_couldBe_48
  dsimp only
  refine zk_le (fun c1 => ?_) (fun c1 => ?_)
  ·
    exact zk_some ⟨RS, FS, by omega⟩
  ·
    refine zk_bd (s_F_X7_tellsBy _ _ _ RS (by omega)) (fun v2 T3 h2 => ?_)
    obtain ⟨RT3, fT3, h2⟩ := h2
    have FT3 := FS.tr (fT3.sub (m := 13455392768) (by decide))
    refine zk_iv fun x4 e4 => ?_
    refine zk_iv fun x5 e5 => ?_
    refine zk_iv fun x6 e6 => ?_
    refine zk_iv fun x7 e7 => ?_
    refine zk_iv fun x8 e8 => ?_
    refine zk_iv fun x9 e9 => ?_
    refine zk_bd (s_F_X7_judged _ _ _ _ _ _ _ RT3) (fun v10 T11 h10 => ?_)
    obtain ⟨RT11, fT11, h10⟩ := h10
    have FT11 := FT3.tr (fT11.sub (m := 13455392768) (by decide))
    refine zk_iv fun x12 e12 => ?_
    have b13 := ti_bd v10
    have b14 := ti_bd x12
    refine zk_eq (fun c15 => ?_) (fun c15 => ?_)
    ·
      refine zk_iv fun x16 e16 => ?_
      refine zk_iv fun x17 e17 => ?_
      have b18 := ti_bd x16
      have b19 := ti_bd x17
      refine zk_eq (fun c20 => ?_) (fun c20 => ?_)
      ·
        exact zk_some ⟨RT11, FT11, by omega⟩
      ·
        unfold B_X7_couldBe_106
        refine zk_iv fun x21 e21 => ?_
        have gx21 : x21.toInt = a4.toInt + (Int32.ofInt 1).toInt := by rw [e21]; exact ti_add (by omega) (by omega)
        refine zk_imp (hk (a1, a3, x21) _ ⟨RT11, (by (try dsimp only) <;> omega)⟩ (by (try dsimp only) <;> omega)) (fun v22 T23 h22 => ?_)
        obtain ⟨RT23, FT23, h22⟩ := h22
        try dsimp only at h22
        exact ⟨RT23, FT11.tr FT23, by omega⟩
    ·
      unfold B_X7_couldBe_106
      refine zk_iv fun x24 e24 => ?_
      have gx24 : x24.toInt = a4.toInt + (Int32.ofInt 1).toInt := by rw [e24]; exact ti_add (by omega) (by omega)
      refine zk_imp (hk (a1, a3, x24) _ ⟨RT11, (by (try dsimp only) <;> omega)⟩ (by (try dsimp only) <;> omega)) (fun v25 T26 h25 => ?_)
      obtain ⟨RT26, FT26, h25⟩ := h25
      try dsimp only at h25
      exact ⟨RT26, FT11.tr FT26, by omega⟩
theorem s_B_X7_couldBe_17 (r2 : Nat) (z : Int32 × Int32) (S : fS) (RS : RI S) (hi : -1 ≤ z.1.toInt ∧ z.1.toInt ≤ 5 ∧ 0 ≤ z.2.toInt ∧ z.2.toInt ≤ 5) (hm : (5 - z.2.toInt).toNat < 4294967296) : zk (lp (B_X7_couldBe_17 r2) fuel z S) (fun v S9 => RI S9 ∧ Fr 13455392768 S S9 ∧ 0 ≤ v.toInt ∧ v.toInt ≤ 1) := by
  have l0 : (0 : Int32).toInt = 0 := by decide
  have l4 : (4 : Int32).toInt = 4 := by decide
  have l5 : (5 : Int32).toInt = 5 := by decide
  have lo1 : (Int32.ofInt 1).toInt = 1 := by decide
  refine zk_lp (fun z S => RI S ∧ (-1 ≤ z.1.toInt ∧ z.1.toInt ≤ 5 ∧ 0 ≤ z.2.toInt ∧ z.2.toInt ≤ 5)) (fun z S => (5 - z.2.toInt).toNat) (fun z S (v : Int32) S9 => RI S9 ∧ Fr 13455392768 S S9 ∧ 0 ≤ v.toInt ∧ v.toInt ≤ 1) ?_ z S ⟨RS, hi⟩ hm
  clear RS hi hm
  intro k z S hI hk
  obtain ⟨RS, hI⟩ := hI
  obtain ⟨a1, a3⟩ := z
  (try dsimp only at hI); (try dsimp only at hk); (try dsimp only)
  have FS : Fr 13455392768 S S := Fr.rf
  unfold B_X7_couldBe_17
  dsimp only
  refine zk_le (fun c1 => ?_) (fun c1 => ?_)
  ·
    refine zk_bd (s_F_X7_lotsBy _ _ RS (by omega)) (fun v2 T3 h2 => ?_)
    obtain ⟨RT3, fT3, h2⟩ := h2
    have FT3 := FS.tr (fT3.sub (m := 13455392768) (by decide))
    refine zk_imp (s_B_X7_couldBe_48 r2 _ _ RT3 (by (try dsimp only) <;> omega) (by (try dsimp only) <;> omega)) (fun v4 T5 h4 => ?_)
    obtain ⟨RT5, fT5, h4⟩ := h4
    have FT5 := FT3.tr (fT5.sub (m := 13455392768) (by decide))
    try dsimp only at h4
    exact ⟨RT5, FT5, by omega⟩
  ·
    refine zk_iv fun x6 e6 => ?_
    have gx6 : x6.toInt = (4 : Int32).toInt + a3.toInt := by rw [e6]; exact ti_add (by omega) (by omega)
    refine zk_gd ⟨by omega, by omega⟩ ?_
    refine zk_iv fun x7 e7 => ?_
    refine zk_gd ⟨by omega, by omega⟩ ?_
    refine zk_sv fun S8 E8 => ?_
    have RS8 : RI S8 := by rw [E8]; exact RS.wf rfl
    have FS8 : Fr 13455392768 S S8 := by rw [E8]; exact FS.wr (k := 16) rfl rfl
    refine zk_iv fun x9 e9 => ?_
    have gx9 : x9.toInt = a3.toInt + (Int32.ofInt 1).toInt := by rw [e9]; exact ti_add (by omega) (by omega)
    refine zk_imp (hk (a1, x9) _ ⟨RS8, (by (try dsimp only) <;> omega)⟩ (by (try dsimp only) <;> omega)) (fun v10 T11 h10 => ?_)
    obtain ⟨RT11, FT11, h10⟩ := h10
    try dsimp only at h10
    exact ⟨RT11, FS8.tr FT11, by omega⟩
theorem s_F_X7_couldBe (p1 : Int32) (r2 : Nat) (S0 : fS) (RS0 : RI S0) (hp : -1 ≤ p1.toInt ∧ p1.toInt ≤ 5) : zk (F_X7_couldBe p1 r2 S0) (fun v S9 => RI S9 ∧ Fr 13455392768 S0 S9 ∧ 0 ≤ v.toInt ∧ v.toInt ≤ 1) := by
  have l0 : (0 : Int32).toInt = 0 := by decide
  have l1 : (1 : Int32).toInt = 1 := by decide
  have l4 : (4 : Int32).toInt = 4 := by decide
  have FS0 : Fr 13455392768 S0 S0 := Fr.rf
  unfold F_X7_couldBe
  refine zk_iv fun x1 e1 => ?_
  have b2 := ti_bd x1
  refine zk_eq (fun c3 => ?_) (fun c3 => ?_)
  ·
    exact zk_some ⟨RS0, FS0, by omega⟩
  ·
    refine zk_ivq (x := x1) e1.symm ?_
    refine zk_eq (fun c4 => ?_) (fun c4 => ?_)
    ·
      exact zk_some ⟨RS0, FS0, by omega⟩
    ·
      refine zk_imp (s_B_X7_couldBe_17 r2 _ _ RS0 (by (try dsimp only) <;> omega) (by (try dsimp only) <;> omega)) (fun v5 T6 h5 => ?_)
      obtain ⟨RT6, fT6, h5⟩ := h5
      have FT6 := FS0.tr (fT6.sub (m := 13455392768) (by decide))
      try dsimp only at h5
      exact ⟨RT6, FT6, by omega⟩
theorem s_B_X7_strangeBy_2  (z : Int32 × Int32) (S : fS) (RS : RI S) (hi : -1 ≤ z.1.toInt ∧ z.1.toInt ≤ 5 ∧ 0 ≤ z.2.toInt ∧ z.2.toInt ≤ 200) (hm : (200 - z.2.toInt).toNat < 4294967296) : zk (lp (B_X7_strangeBy_2) fuel z S) (fun v S9 => RI S9 ∧ Fr 13455392768 S S9 ∧ True) := by
  have lm1 : (-1 : Int32).toInt = -1 := by decide
  have l0 : (0 : Int32).toInt = 0 := by decide
  have l46 : (46 : Int32).toInt = 46 := by decide
  have lo1 : (Int32.ofInt 1).toInt = 1 := by decide
  refine zk_lp (fun z S => RI S ∧ (-1 ≤ z.1.toInt ∧ z.1.toInt ≤ 5 ∧ 0 ≤ z.2.toInt ∧ z.2.toInt ≤ 200)) (fun z S => (200 - z.2.toInt).toNat) (fun z S (v : Int32) S9 => RI S9 ∧ Fr 13455392768 S S9 ∧ True) ?_ z S ⟨RS, hi⟩ hm
  clear RS hi hm
  intro k z S hI hk
  obtain ⟨RS, hI⟩ := hI
  obtain ⟨a1, a2⟩ := z
  (try dsimp only at hI); (try dsimp only at hk); (try dsimp only)
  have FS : Fr 13455392768 S S := Fr.rf
  unfold B_X7_strangeBy_2
  dsimp only
  refine zk_iv fun x1 e1 => ?_
  have gx1 : 0 ≤ x1.toInt ∧ x1.toInt ≤ 200 := by rw [e1]; exact RS 40 _ _
  refine zk_le (fun c2 => ?_) (fun c2 => ?_)
  ·
    exact zk_some ⟨RS, FS, trivial⟩
  ·
    refine zk_gd ⟨by omega, by omega⟩ ?_
    refine zk_bd (s_F_X7_couldBe _ _ _ RS (by omega)) (fun v3 T4 h3 => ?_)
    obtain ⟨RT4, fT4, h3⟩ := h3
    have FT4 := FS.tr (fT4.sub (m := 13455392768) (by decide))
    refine zk_eq (fun c5 => ?_) (fun c5 => ?_)
    ·
      exact zk_some ⟨RT4, FT4, trivial⟩
    ·
      refine zk_iv fun x6 e6 => ?_
      have gx6 : x6.toInt = a2.toInt + (Int32.ofInt 1).toInt := by rw [e6]; exact ti_add (by omega) (by omega)
      refine zk_imp (hk (a1, x6) _ ⟨RT4, (by (try dsimp only) <;> omega)⟩ (by (try dsimp only) <;> omega)) (fun v7 T8 h7 => ?_)
      obtain ⟨RT8, FT8, h7⟩ := h7
      exact ⟨RT8, FT4.tr FT8, trivial⟩
theorem s_F_X7_strangeBy (p1 : Int32) (S0 : fS) (RS0 : RI S0) (hp : -1 ≤ p1.toInt ∧ p1.toInt ≤ 5) : zk (F_X7_strangeBy p1 S0) (fun v S9 => RI S9 ∧ Fr 13455392768 S0 S9 ∧ True) := by
  have l0 : (0 : Int32).toInt = 0 := by decide
  have FS0 : Fr 13455392768 S0 S0 := Fr.rf
  unfold F_X7_strangeBy
  refine zk_imp (s_B_X7_strangeBy_2 _ _ RS0 (by (try dsimp only) <;> omega) (by (try dsimp only) <;> omega)) (fun v1 T2 h1 => ?_)
  obtain ⟨RT2, fT2, h1⟩ := h1
  have FT2 := FS0.tr (fT2.sub (m := 13455392768) (by decide))
  exact ⟨RT2, FT2, trivial⟩
theorem s_B_X7_fitting_9  (z : Int32 × Int32) (S : fS) (RS : RI S) (hi : 0 ≤ z.2.toInt ∧ z.2.toInt ≤ 6) (hm : (6 - z.2.toInt).toNat < 4294967296) : zk (lp (B_X7_fitting_9) fuel z S) (fun v S9 => RI S9 ∧ Fr 13455392768 S S9 ∧ True) := by
  have lm1 : (-1 : Int32).toInt = -1 := by decide
  have l0 : (0 : Int32).toInt = 0 := by decide
  have l13 : (13 : Int32).toInt = 13 := by decide
  have lo1 : (Int32.ofInt 1).toInt = 1 := by decide
  refine zk_lp (fun z S => RI S ∧ (0 ≤ z.2.toInt ∧ z.2.toInt ≤ 6)) (fun z S => (6 - z.2.toInt).toNat) (fun z S (v : Int32) S9 => RI S9 ∧ Fr 13455392768 S S9 ∧ True) ?_ z S ⟨RS, hi⟩ hm
  clear RS hi hm
  intro k z S hI hk
  obtain ⟨RS, hI⟩ := hI
  obtain ⟨a1, a2⟩ := z
  (try dsimp only at hI); (try dsimp only at hk); (try dsimp only)
  have FS : Fr 13455392768 S S := Fr.rf
  unfold B_X7_fitting_9
  dsimp only
  refine zk_iv fun x1 e1 => ?_
  have gx1 : 0 ≤ x1.toInt ∧ x1.toInt ≤ 6 := by rw [e1]; exact RS 40 _ _
  refine zk_le (fun c2 => ?_) (fun c2 => ?_)
  ·
    exact zk_some ⟨RS, FS, trivial⟩
  ·
    refine zk_bd (s_F_X7_strangeBy _ _ RS (by omega)) (fun v3 T4 h3 => ?_)
    obtain ⟨RT4, fT4, h3⟩ := h3
    have FT4 := FS.tr (fT4.sub (m := 13455392768) (by decide))
    have b5 := ti_bd v3
    refine zk_eq (fun c6 => ?_) (fun c6 => ?_)
    ·
      refine zk_iv fun x7 e7 => ?_
      unfold B_X7_fitting_34
      refine zk_iv fun x8 e8 => ?_
      refine zk_iv fun x9 e9 => ?_
      have gx9 : x9.toInt = a2.toInt + (Int32.ofInt 1).toInt := by rw [e9]; exact ti_add (by omega) (by omega)
      refine zk_imp (hk (x8, x9) _ ⟨RT4, (by (try dsimp only) <;> omega)⟩ (by (try dsimp only) <;> omega)) (fun v10 T11 h10 => ?_)
      obtain ⟨RT11, FT11, h10⟩ := h10
      exact ⟨RT11, FT4.tr FT11, trivial⟩
    ·
      unfold B_X7_fitting_34
      refine zk_iv fun x12 e12 => ?_
      refine zk_iv fun x13 e13 => ?_
      have gx13 : x13.toInt = a2.toInt + (Int32.ofInt 1).toInt := by rw [e13]; exact ti_add (by omega) (by omega)
      refine zk_imp (hk (x12, x13) _ ⟨RT4, (by (try dsimp only) <;> omega)⟩ (by (try dsimp only) <;> omega)) (fun v14 T15 h14 => ?_)
      obtain ⟨RT15, FT15, h14⟩ := h14
      exact ⟨RT15, FT4.tr FT15, trivial⟩
theorem s_F_X7_fitting (S0 : fS) (RS0 : RI S0) : zk (F_X7_fitting S0) (fun v S9 => RI S9 ∧ Fr 13455392768 S0 S9 ∧ True) := by
  have l0 : (0 : Int32).toInt = 0 := by decide
  have FS0 : Fr 13455392768 S0 S0 := Fr.rf
  unfold F_X7_fitting
  refine zk_sv fun S1 E1 => ?_
  have RS1 : RI S1 := by rw [E1]; exact RS0.wf rfl
  have FS1 : Fr 13455392768 S0 S1 := by rw [E1]; exact FS0.wr (k := 16) rfl rfl
  refine zk_imp (s_B_X7_fitting_9 _ _ RS1 (by (try dsimp only) <;> omega) (by (try dsimp only) <;> omega)) (fun v2 T3 h2 => ?_)
  obtain ⟨RT3, fT3, h2⟩ := h2
  have FT3 := FS1.tr (fT3.sub (m := 13455392768) (by decide))
  exact ⟨RT3, FT3, trivial⟩
theorem s_F_X7_strange (p1 : Int32) (S0 : fS) (RS0 : RI S0) : zk (F_X7_strange p1 S0) (fun v S9 => RI S9 ∧ Fr 13455392768 S0 S9 ∧ True) := by
  have l0 : (0 : Int32).toInt = 0 := by decide
  have l1 : (1 : Int32).toInt = 1 := by decide
  have l13 : (13 : Int32).toInt = 13 := by decide
  have FS0 : Fr 13455392768 S0 S0 := Fr.rf
  unfold F_X7_strange
  refine zk_sv fun S1 E1 => ?_
  have RS1 : RI S1 := by rw [E1]; exact RS0.wf rfl
  have FS1 : Fr 13455392768 S0 S1 := by rw [E1]; exact FS0.wr (k := 16) rfl rfl
  refine zk_iv fun x2 e2 => ?_
  have gx2 : 0 ≤ x2.toInt ∧ x2.toInt ≤ 6 := by rw [e2]; exact RS1 40 _ _
  refine zk_iv fun x3 e3 => ?_
  have gx3 : x3.toInt = x2.toInt - (1 : Int32).toInt := by rw [e3]; exact ti_sub (by omega) (by omega)
  refine zk_bd (s_F_X7_in _ _ _ _ RS1) (fun v4 T5 h4 => ?_)
  obtain ⟨rfl, h4⟩ := h4
  refine zk_eq (fun c6 => ?_) (fun c6 => ?_)
  ·
    unfold B_X7_strange_25
    refine zk_bd (s_F_X7_bad _ _ _ RS1 (by omega)) (fun v7 T8 h7 => ?_)
    obtain ⟨RT8, fT8, h7⟩ := h7
    have FT8 := FS1.tr (fT8.sub (m := 13455392768) (by decide))
    refine zk_eq (fun c9 => ?_) (fun c9 => ?_)
    ·
      refine zk_bd (s_F_X7_strangeBy _ _ RT8 (by omega)) (fun v10 T11 h10 => ?_)
      obtain ⟨RT11, fT11, h10⟩ := h10
      have FT11 := FT8.tr (fT11.sub (m := 13455392768) (by decide))
      exact zk_some ⟨RT11, FT11, trivial⟩
    ·
      exact zk_some ⟨RT8, FT8, trivial⟩
  ·
    unfold B_X7_strange_25
    refine zk_bd (s_F_X7_bad _ _ _ RS1 (by omega)) (fun v12 T13 h12 => ?_)
    obtain ⟨RT13, fT13, h12⟩ := h12
    have FT13 := FS1.tr (fT13.sub (m := 13455392768) (by decide))
    refine zk_eq (fun c14 => ?_) (fun c14 => ?_)
    ·
      refine zk_bd (s_F_X7_strangeBy _ _ RT13 (by omega)) (fun v15 T16 h15 => ?_)
      obtain ⟨RT16, fT16, h15⟩ := h15
      have FT16 := FT13.tr (fT16.sub (m := 13455392768) (by decide))
      exact zk_some ⟨RT16, FT16, trivial⟩
    ·
      exact zk_some ⟨RT13, FT13, trivial⟩
theorem s_B_X7_guess_31  (z : Int32 × Int32 × Int32) (S : fS) (RS : RI S) (hi : 0 ≤ z.1.toInt ∧ z.1.toInt ≤ 63 ∧ 0 ≤ z.2.2.toInt ∧ z.2.2.toInt ≤ 6) (hm : (6 - z.2.2.toInt).toNat < 4294967296) : zk (lp (B_X7_guess_31) fuel z S) (fun v S9 => RI S9 ∧ Fr 30635261952 S S9 ∧ True) := by
  have lm1 : (-1 : Int32).toInt = -1 := by decide
  have l0 : (0 : Int32).toInt = 0 := by decide
  have l1 : (1 : Int32).toInt = 1 := by decide
  have l13 : (13 : Int32).toInt = 13 := by decide
  have lo1 : (Int32.ofInt 1).toInt = 1 := by decide
  refine zk_lp (fun z S => RI S ∧ (0 ≤ z.1.toInt ∧ z.1.toInt ≤ 63 ∧ 0 ≤ z.2.2.toInt ∧ z.2.2.toInt ≤ 6)) (fun z S => (6 - z.2.2.toInt).toNat) (fun z S (v : Int32) S9 => RI S9 ∧ Fr 30635261952 S S9 ∧ True) ?_ z S ⟨RS, hi⟩ hm
  clear RS hi hm
  intro k z S hI hk
  obtain ⟨RS, hI⟩ := hI
  obtain ⟨a1, a2, a3⟩ := z
  (try dsimp only at hI); (try dsimp only at hk); (try dsimp only)
  have FS : Fr 30635261952 S S := Fr.rf
  unfold B_X7_guess_31
  dsimp only
  refine zk_iv fun x1 e1 => ?_
  have gx1 : 0 ≤ x1.toInt ∧ x1.toInt ≤ 6 := by rw [e1]; exact RS 40 _ _
  refine zk_le (fun c2 => ?_) (fun c2 => ?_)
  ·
    exact zk_some ⟨RS, FS, trivial⟩
  ·
    refine zk_bd (s_F_X7_strangeBy _ _ RS (by omega)) (fun v3 T4 h3 => ?_)
    obtain ⟨RT4, fT4, h3⟩ := h3
    have FT4 := FS.tr (fT4.sub (m := 30635261952) (by decide))
    have b5 := ti_bd v3
    refine zk_eq (fun c6 => ?_) (fun c6 => ?_)
    ·
      refine zk_bd (s_F_X7_namesOf _ _ RT4) (fun v7 T8 h7 => ?_)
      obtain ⟨RT8, fT8, h7⟩ := h7
      have FT8 := FT4.tr (fT8.sub (m := 30635261952) (by decide))
      refine zk_bd (s_F_X7_isPaidBy _ _ _ _ RT8 (by omega)) (fun v9 T10 h9 => ?_)
      obtain ⟨RT10, fT10, h9⟩ := h9
      have FT10 := FT8.tr (fT10.sub (m := 30635261952) (by decide))
      refine zk_eq (fun c11 => ?_) (fun c11 => ?_)
      ·
        unfold B_X7_guess_72
        refine zk_iv fun x12 e12 => ?_
        have b13 := ti_bd a2
        have gx12 : x12.toInt = a2.toInt + (0 : Int32).toInt := by rw [e12]; exact ti_add (by omega) (by omega)
        unfold B_X7_guess_74
        refine zk_iv fun x14 e14 => ?_
        have gx14 : x14.toInt = a3.toInt + (Int32.ofInt 1).toInt := by rw [e14]; exact ti_add (by omega) (by omega)
        refine zk_imp (hk (a1, x12, x14) _ ⟨RT10, (by (try dsimp only) <;> omega)⟩ (by (try dsimp only) <;> omega)) (fun v15 T16 h15 => ?_)
        obtain ⟨RT16, FT16, h15⟩ := h15
        exact ⟨RT16, FT10.tr FT16, trivial⟩
      ·
        unfold B_X7_guess_72
        refine zk_iv fun x17 e17 => ?_
        unfold B_X7_guess_74
        refine zk_iv fun x18 e18 => ?_
        have gx18 : x18.toInt = a3.toInt + (Int32.ofInt 1).toInt := by rw [e18]; exact ti_add (by omega) (by omega)
        refine zk_imp (hk (a1, x17, x18) _ ⟨RT10, (by (try dsimp only) <;> omega)⟩ (by (try dsimp only) <;> omega)) (fun v19 T20 h19 => ?_)
        obtain ⟨RT20, FT20, h19⟩ := h19
        exact ⟨RT20, FT10.tr FT20, trivial⟩
    ·
      unfold B_X7_guess_74
      refine zk_iv fun x21 e21 => ?_
      have gx21 : x21.toInt = a3.toInt + (Int32.ofInt 1).toInt := by rw [e21]; exact ti_add (by omega) (by omega)
      refine zk_imp (hk (a1, a2, x21) _ ⟨RT4, (by (try dsimp only) <;> omega)⟩ (by (try dsimp only) <;> omega)) (fun v22 T23 h22 => ?_)
      obtain ⟨RT23, FT23, h22⟩ := h22
      exact ⟨RT23, FT4.tr FT23, trivial⟩
theorem s_F_X7_guess (p1 : Int32) (S0 : fS) (RS0 : RI S0) : zk (F_X7_guess p1 S0) (fun v S9 => RI S9 ∧ Fr 30635261952 S0 S9 ∧ True) := by
  have l0 : (0 : Int32).toInt = 0 := by decide
  have l1 : (1 : Int32).toInt = 1 := by decide
  have FS0 : Fr 30635261952 S0 S0 := Fr.rf
  unfold F_X7_guess
  refine zk_sv fun S1 E1 => ?_
  have RS1 : RI S1 := by rw [E1]; exact RS0.wf rfl
  have FS1 : Fr 30635261952 S0 S1 := by rw [E1]; exact FS0.wr (k := 16) rfl rfl
  refine zk_bd (s_F_X7_isCell _ _ RS1) (fun v2 T3 h2 => ?_)
  obtain ⟨rfl, h2⟩ := h2
  refine zk_eq (fun c4 => ?_) (fun c4 => ?_)
  ·
    unfold B_X7_guess_18
    refine zk_bd (s_F_X7_bad _ _ _ RS1 (by omega)) (fun v5 T6 h5 => ?_)
    obtain ⟨RT6, fT6, h5⟩ := h5
    have FT6 := FS1.tr (fT6.sub (m := 30635261952) (by decide))
    refine zk_eq (fun c7 => ?_) (fun c7 => ?_)
    ·
      refine zk_imp (s_B_X7_guess_31 _ _ RT6 (by (try dsimp only) <;> omega) (by (try dsimp only) <;> omega)) (fun v8 T9 h8 => ?_)
      obtain ⟨RT9, fT9, h8⟩ := h8
      have FT9 := FT6.tr (fT9.sub (m := 30635261952) (by decide))
      exact ⟨RT9, FT9, trivial⟩
    ·
      exact zk_some ⟨RT6, FT6, trivial⟩
  ·
    unfold B_X7_guess_18
    refine zk_bd (s_F_X7_bad _ _ _ RS1 (by omega)) (fun v10 T11 h10 => ?_)
    obtain ⟨RT11, fT11, h10⟩ := h10
    have FT11 := FS1.tr (fT11.sub (m := 30635261952) (by decide))
    refine zk_eq (fun c12 => ?_) (fun c12 => ?_)
    ·
      refine zk_imp (s_B_X7_guess_31 _ _ RT11 (by (try dsimp only) <;> omega) (by (try dsimp only) <;> omega)) (fun v13 T14 h13 => ?_)
      obtain ⟨RT14, fT14, h13⟩ := h13
      have FT14 := FT11.tr (fT14.sub (m := 30635261952) (by decide))
      exact ⟨RT14, FT14, trivial⟩
    ·
      exact zk_some ⟨RT11, FT11, trivial⟩
theorem s_B_X7_odds_82  (z : Int32 × Int32 × Int32 × Int32 × Int32) (S : fS) (RS : RI S) (hi : 0 ≤ z.1.toInt ∧ z.1.toInt ≤ 5 ∧ 0 ≤ z.2.1.toInt ∧ z.2.1.toInt ≤ 63 ∧ 0 ≤ z.2.2.2.2.toInt ∧ z.2.2.2.2.toInt ≤ 9) (hm : (9 - z.2.2.2.2.toInt).toNat < 4294967296) : zk (lp (B_X7_odds_82) fuel z S) (fun v S9 => RI S9 ∧ Fr 30635261952 S S9 ∧ True) := by
  have l0 : (0 : Int32).toInt = 0 := by decide
  have l9 : (9 : Int32).toInt = 9 := by decide
  have l15 : (15 : Int32).toInt = 15 := by decide
  have lo1 : (Int32.ofInt 1).toInt = 1 := by decide
  refine zk_lp (fun z S => RI S ∧ (0 ≤ z.1.toInt ∧ z.1.toInt ≤ 5 ∧ 0 ≤ z.2.1.toInt ∧ z.2.1.toInt ≤ 63 ∧ 0 ≤ z.2.2.2.2.toInt ∧ z.2.2.2.2.toInt ≤ 9)) (fun z S => (9 - z.2.2.2.2.toInt).toNat) (fun z S (v : Int32) S9 => RI S9 ∧ Fr 30635261952 S S9 ∧ True) ?_ z S ⟨RS, hi⟩ hm
  clear RS hi hm
  intro k z S hI hk
  obtain ⟨RS, hI⟩ := hI
  obtain ⟨a1, a2, a3, a4, a5⟩ := z
  (try dsimp only at hI); (try dsimp only at hk); (try dsimp only)
  have FS : Fr 30635261952 S S := Fr.rf
  unfold B_X7_odds_82
  dsimp only
  refine zk_le (fun c1 => ?_) (fun c1 => ?_)
  ·
    exact zk_some ⟨RS, FS, trivial⟩
  ·
    refine zk_bd (s_F_X7_comesTo _ _ _ RS (by omega)) (fun v2 T3 h2 => ?_)
    obtain ⟨rfl, h2⟩ := h2
    refine zk_iv fun x4 e4 => ?_
    have gx4 : -1 ≤ x4.toInt ∧ x4.toInt ≤ 5 := by rw [e4]; exact RS 40 _ _
    refine zk_bd (s_F_X7_isPaidBy _ _ _ _ RS (by omega)) (fun v5 T6 h5 => ?_)
    obtain ⟨RT6, fT6, h5⟩ := h5
    have FT6 := FS.tr (fT6.sub (m := 30635261952) (by decide))
    refine zk_eq (fun c7 => ?_) (fun c7 => ?_)
    ·
      unfold B_X7_odds_122
      refine zk_iv fun x8 e8 => ?_
      have b9 := ti_bd a4
      have gx8 : x8.toInt = a4.toInt + (0 : Int32).toInt := by rw [e8]; exact ti_add (by omega) (by omega)
      refine zk_iv fun x10 e10 => ?_
      have gx10 : x10.toInt = a5.toInt + (Int32.ofInt 1).toInt := by rw [e10]; exact ti_add (by omega) (by omega)
      refine zk_imp (hk (a1, a2, a3, x8, x10) _ ⟨RT6, (by (try dsimp only) <;> omega)⟩ (by (try dsimp only) <;> omega)) (fun v11 T12 h11 => ?_)
      obtain ⟨RT12, FT12, h11⟩ := h11
      exact ⟨RT12, FT6.tr FT12, trivial⟩
    ·
      refine zk_gd ⟨by omega, by omega⟩ ?_
      refine zk_gd ⟨by omega, by omega⟩ ?_
      refine zk_iv fun x13 e13 => ?_
      have gx13 : 0 ≤ x13.toInt ∧ x13.toInt ≤ 7 := by rw [e13]; exact RT6 59 _ _
      unfold B_X7_odds_122
      refine zk_iv fun x14 e14 => ?_
      refine zk_iv fun x15 e15 => ?_
      have gx15 : x15.toInt = a5.toInt + (Int32.ofInt 1).toInt := by rw [e15]; exact ti_add (by omega) (by omega)
      refine zk_imp (hk (a1, a2, a3, x14, x15) _ ⟨RT6, (by (try dsimp only) <;> omega)⟩ (by (try dsimp only) <;> omega)) (fun v16 T17 h16 => ?_)
      obtain ⟨RT17, FT17, h16⟩ := h16
      exact ⟨RT17, FT6.tr FT17, trivial⟩
theorem s_F_X7_odds (p1 : Int32) (p2 : Int32) (p3 : Int32) (S0 : fS) (RS0 : RI S0) : zk (F_X7_odds p1 p2 p3 S0) (fun v S9 => RI S9 ∧ Fr 30635261952 S0 S9 ∧ True) := by
  have l0 : (0 : Int32).toInt = 0 := by decide
  have l1 : (1 : Int32).toInt = 1 := by decide
  have l2 : (2 : Int32).toInt = 2 := by decide
  have l3 : (3 : Int32).toInt = 3 := by decide
  have l35 : (35 : Int32).toInt = 35 := by decide
  have FS0 : Fr 30635261952 S0 S0 := Fr.rf
  unfold F_X7_odds
  refine zk_sv fun S1 E1 => ?_
  have RS1 : RI S1 := by rw [E1]; exact RS0.wf rfl
  have FS1 : Fr 30635261952 S0 S1 := by rw [E1]; exact FS0.wr (k := 16) rfl rfl
  refine zk_bd (s_F_X7_isHand _ _ RS1) (fun v2 T3 h2 => ?_)
  obtain ⟨rfl, h2⟩ := h2
  refine zk_eq (fun c4 => ?_) (fun c4 => ?_)
  ·
    unfold B_X7_odds_19
    refine zk_bd (s_F_X7_bad _ _ _ RS1 (by omega)) (fun v5 T6 h5 => ?_)
    obtain ⟨RT6, fT6, h5⟩ := h5
    have FT6 := FS1.tr (fT6.sub (m := 30635261952) (by decide))
    refine zk_eq (fun c7 => ?_) (fun c7 => ?_)
    ·
      refine zk_bd (s_F_X7_isCell _ _ RT6) (fun v8 T9 h8 => ?_)
      obtain ⟨rfl, h8⟩ := h8
      refine zk_eq (fun c10 => ?_) (fun c10 => ?_)
      ·
        unfold B_X7_odds_39
        refine zk_bd (s_F_X7_bad _ _ _ RT6 (by omega)) (fun v11 T12 h11 => ?_)
        obtain ⟨RT12, fT12, h11⟩ := h11
        have FT12 := FT6.tr (fT12.sub (m := 30635261952) (by decide))
        refine zk_eq (fun c13 => ?_) (fun c13 => ?_)
        ·
          refine zk_bd (s_F_X7_in _ _ _ _ RT12) (fun v14 T15 h14 => ?_)
          obtain ⟨rfl, h14⟩ := h14
          refine zk_eq (fun c16 => ?_) (fun c16 => ?_)
          ·
            unfold B_X7_odds_62
            refine zk_bd (s_F_X7_bad _ _ _ RT12 (by omega)) (fun v17 T18 h17 => ?_)
            obtain ⟨RT18, fT18, h17⟩ := h17
            have FT18 := FT12.tr (fT18.sub (m := 30635261952) (by decide))
            refine zk_eq (fun c19 => ?_) (fun c19 => ?_)
            ·
              refine zk_bd (s_F_X7_namesOf _ _ RT18) (fun v20 T21 h20 => ?_)
              obtain ⟨RT21, fT21, h20⟩ := h20
              have FT21 := FT18.tr (fT21.sub (m := 30635261952) (by decide))
              refine zk_imp (s_B_X7_odds_82 _ _ RT21 (by (try dsimp only) <;> omega) (by (try dsimp only) <;> omega)) (fun v22 T23 h22 => ?_)
              obtain ⟨RT23, fT23, h22⟩ := h22
              have FT23 := FT21.tr (fT23.sub (m := 30635261952) (by decide))
              exact ⟨RT23, FT23, trivial⟩
            ·
              exact zk_some ⟨RT18, FT18, trivial⟩
          ·
            unfold B_X7_odds_62
            refine zk_bd (s_F_X7_bad _ _ _ RT12 (by omega)) (fun v24 T25 h24 => ?_)
            obtain ⟨RT25, fT25, h24⟩ := h24
            have FT25 := FT12.tr (fT25.sub (m := 30635261952) (by decide))
            refine zk_eq (fun c26 => ?_) (fun c26 => ?_)
            ·
              refine zk_bd (s_F_X7_namesOf _ _ RT25) (fun v27 T28 h27 => ?_)
              obtain ⟨RT28, fT28, h27⟩ := h27
              have FT28 := FT25.tr (fT28.sub (m := 30635261952) (by decide))
              refine zk_imp (s_B_X7_odds_82 _ _ RT28 (by (try dsimp only) <;> omega) (by (try dsimp only) <;> omega)) (fun v29 T30 h29 => ?_)
              obtain ⟨RT30, fT30, h29⟩ := h29
              have FT30 := FT28.tr (fT30.sub (m := 30635261952) (by decide))
              exact ⟨RT30, FT30, trivial⟩
            ·
              exact zk_some ⟨RT25, FT25, trivial⟩
        ·
          exact zk_some ⟨RT12, FT12, trivial⟩
      ·
        unfold B_X7_odds_39
        refine zk_bd (s_F_X7_bad _ _ _ RT6 (by omega)) (fun v31 T32 h31 => ?_)
        obtain ⟨RT32, fT32, h31⟩ := h31
        have FT32 := FT6.tr (fT32.sub (m := 30635261952) (by decide))
        refine zk_eq (fun c33 => ?_) (fun c33 => ?_)
        ·
          refine zk_bd (s_F_X7_in _ _ _ _ RT32) (fun v34 T35 h34 => ?_)
          obtain ⟨rfl, h34⟩ := h34
          refine zk_eq (fun c36 => ?_) (fun c36 => ?_)
          ·
            unfold B_X7_odds_62
            refine zk_bd (s_F_X7_bad _ _ _ RT32 (by omega)) (fun v37 T38 h37 => ?_)
            obtain ⟨RT38, fT38, h37⟩ := h37
            have FT38 := FT32.tr (fT38.sub (m := 30635261952) (by decide))
            refine zk_eq (fun c39 => ?_) (fun c39 => ?_)
            ·
              refine zk_bd (s_F_X7_namesOf _ _ RT38) (fun v40 T41 h40 => ?_)
              obtain ⟨RT41, fT41, h40⟩ := h40
              have FT41 := FT38.tr (fT41.sub (m := 30635261952) (by decide))
              refine zk_imp (s_B_X7_odds_82 _ _ RT41 (by (try dsimp only) <;> omega) (by (try dsimp only) <;> omega)) (fun v42 T43 h42 => ?_)
              obtain ⟨RT43, fT43, h42⟩ := h42
              have FT43 := FT41.tr (fT43.sub (m := 30635261952) (by decide))
              exact ⟨RT43, FT43, trivial⟩
            ·
              exact zk_some ⟨RT38, FT38, trivial⟩
          ·
            unfold B_X7_odds_62
            refine zk_bd (s_F_X7_bad _ _ _ RT32 (by omega)) (fun v44 T45 h44 => ?_)
            obtain ⟨RT45, fT45, h44⟩ := h44
            have FT45 := FT32.tr (fT45.sub (m := 30635261952) (by decide))
            refine zk_eq (fun c46 => ?_) (fun c46 => ?_)
            ·
              refine zk_bd (s_F_X7_namesOf _ _ RT45) (fun v47 T48 h47 => ?_)
              obtain ⟨RT48, fT48, h47⟩ := h47
              have FT48 := FT45.tr (fT48.sub (m := 30635261952) (by decide))
              refine zk_imp (s_B_X7_odds_82 _ _ RT48 (by (try dsimp only) <;> omega) (by (try dsimp only) <;> omega)) (fun v49 T50 h49 => ?_)
              obtain ⟨RT50, fT50, h49⟩ := h49
              have FT50 := FT48.tr (fT50.sub (m := 30635261952) (by decide))
              exact ⟨RT50, FT50, trivial⟩
            ·
              exact zk_some ⟨RT45, FT45, trivial⟩
        ·
          exact zk_some ⟨RT32, FT32, trivial⟩
    ·
      exact zk_some ⟨RT6, FT6, trivial⟩
  ·
    unfold B_X7_odds_19
    refine zk_bd (s_F_X7_bad _ _ _ RS1 (by omega)) (fun v51 T52 h51 => ?_)
    obtain ⟨RT52, fT52, h51⟩ := h51
    have FT52 := FS1.tr (fT52.sub (m := 30635261952) (by decide))
    refine zk_eq (fun c53 => ?_) (fun c53 => ?_)
    ·
      refine zk_bd (s_F_X7_isCell _ _ RT52) (fun v54 T55 h54 => ?_)
      obtain ⟨rfl, h54⟩ := h54
      refine zk_eq (fun c56 => ?_) (fun c56 => ?_)
      ·
        unfold B_X7_odds_39
        refine zk_bd (s_F_X7_bad _ _ _ RT52 (by omega)) (fun v57 T58 h57 => ?_)
        obtain ⟨RT58, fT58, h57⟩ := h57
        have FT58 := FT52.tr (fT58.sub (m := 30635261952) (by decide))
        refine zk_eq (fun c59 => ?_) (fun c59 => ?_)
        ·
          refine zk_bd (s_F_X7_in _ _ _ _ RT58) (fun v60 T61 h60 => ?_)
          obtain ⟨rfl, h60⟩ := h60
          refine zk_eq (fun c62 => ?_) (fun c62 => ?_)
          ·
            unfold B_X7_odds_62
            refine zk_bd (s_F_X7_bad _ _ _ RT58 (by omega)) (fun v63 T64 h63 => ?_)
            obtain ⟨RT64, fT64, h63⟩ := h63
            have FT64 := FT58.tr (fT64.sub (m := 30635261952) (by decide))
            refine zk_eq (fun c65 => ?_) (fun c65 => ?_)
            ·
              refine zk_bd (s_F_X7_namesOf _ _ RT64) (fun v66 T67 h66 => ?_)
              obtain ⟨RT67, fT67, h66⟩ := h66
              have FT67 := FT64.tr (fT67.sub (m := 30635261952) (by decide))
              refine zk_imp (s_B_X7_odds_82 _ _ RT67 (by (try dsimp only) <;> omega) (by (try dsimp only) <;> omega)) (fun v68 T69 h68 => ?_)
              obtain ⟨RT69, fT69, h68⟩ := h68
              have FT69 := FT67.tr (fT69.sub (m := 30635261952) (by decide))
              exact ⟨RT69, FT69, trivial⟩
            ·
              exact zk_some ⟨RT64, FT64, trivial⟩
          ·
            unfold B_X7_odds_62
            refine zk_bd (s_F_X7_bad _ _ _ RT58 (by omega)) (fun v70 T71 h70 => ?_)
            obtain ⟨RT71, fT71, h70⟩ := h70
            have FT71 := FT58.tr (fT71.sub (m := 30635261952) (by decide))
            refine zk_eq (fun c72 => ?_) (fun c72 => ?_)
            ·
              refine zk_bd (s_F_X7_namesOf _ _ RT71) (fun v73 T74 h73 => ?_)
              obtain ⟨RT74, fT74, h73⟩ := h73
              have FT74 := FT71.tr (fT74.sub (m := 30635261952) (by decide))
              refine zk_imp (s_B_X7_odds_82 _ _ RT74 (by (try dsimp only) <;> omega) (by (try dsimp only) <;> omega)) (fun v75 T76 h75 => ?_)
              obtain ⟨RT76, fT76, h75⟩ := h75
              have FT76 := FT74.tr (fT76.sub (m := 30635261952) (by decide))
              exact ⟨RT76, FT76, trivial⟩
            ·
              exact zk_some ⟨RT71, FT71, trivial⟩
        ·
          exact zk_some ⟨RT58, FT58, trivial⟩
      ·
        unfold B_X7_odds_39
        refine zk_bd (s_F_X7_bad _ _ _ RT52 (by omega)) (fun v77 T78 h77 => ?_)
        obtain ⟨RT78, fT78, h77⟩ := h77
        have FT78 := FT52.tr (fT78.sub (m := 30635261952) (by decide))
        refine zk_eq (fun c79 => ?_) (fun c79 => ?_)
        ·
          refine zk_bd (s_F_X7_in _ _ _ _ RT78) (fun v80 T81 h80 => ?_)
          obtain ⟨rfl, h80⟩ := h80
          refine zk_eq (fun c82 => ?_) (fun c82 => ?_)
          ·
            unfold B_X7_odds_62
            refine zk_bd (s_F_X7_bad _ _ _ RT78 (by omega)) (fun v83 T84 h83 => ?_)
            obtain ⟨RT84, fT84, h83⟩ := h83
            have FT84 := FT78.tr (fT84.sub (m := 30635261952) (by decide))
            refine zk_eq (fun c85 => ?_) (fun c85 => ?_)
            ·
              refine zk_bd (s_F_X7_namesOf _ _ RT84) (fun v86 T87 h86 => ?_)
              obtain ⟨RT87, fT87, h86⟩ := h86
              have FT87 := FT84.tr (fT87.sub (m := 30635261952) (by decide))
              refine zk_imp (s_B_X7_odds_82 _ _ RT87 (by (try dsimp only) <;> omega) (by (try dsimp only) <;> omega)) (fun v88 T89 h88 => ?_)
              obtain ⟨RT89, fT89, h88⟩ := h88
              have FT89 := FT87.tr (fT89.sub (m := 30635261952) (by decide))
              exact ⟨RT89, FT89, trivial⟩
            ·
              exact zk_some ⟨RT84, FT84, trivial⟩
          ·
            unfold B_X7_odds_62
            refine zk_bd (s_F_X7_bad _ _ _ RT78 (by omega)) (fun v90 T91 h90 => ?_)
            obtain ⟨RT91, fT91, h90⟩ := h90
            have FT91 := FT78.tr (fT91.sub (m := 30635261952) (by decide))
            refine zk_eq (fun c92 => ?_) (fun c92 => ?_)
            ·
              refine zk_bd (s_F_X7_namesOf _ _ RT91) (fun v93 T94 h93 => ?_)
              obtain ⟨RT94, fT94, h93⟩ := h93
              have FT94 := FT91.tr (fT94.sub (m := 30635261952) (by decide))
              refine zk_imp (s_B_X7_odds_82 _ _ RT94 (by (try dsimp only) <;> omega) (by (try dsimp only) <;> omega)) (fun v95 T96 h95 => ?_)
              obtain ⟨RT96, fT96, h95⟩ := h95
              have FT96 := FT94.tr (fT96.sub (m := 30635261952) (by decide))
              exact ⟨RT96, FT96, trivial⟩
            ·
              exact zk_some ⟨RT91, FT91, trivial⟩
        ·
          exact zk_some ⟨RT78, FT78, trivial⟩
    ·
      exact zk_some ⟨RT52, FT52, trivial⟩
theorem s_B_X7_when_56  (z : Int32 × Int32 × Int32) (S : fS) (RS : RI S) (hi : 0 ≤ z.1.toInt ∧ z.1.toInt ≤ 63 ∧ 0 ≤ z.2.1.toInt ∧ z.2.1.toInt ≤ 5 ∧ 1 ≤ z.2.2.toInt ∧ z.2.2.toInt ≤ 61) (hm : (61 - z.2.2.toInt).toNat < 4294967296) : zk (lp (B_X7_when_56) fuel z S) (fun v S9 => RI S9 ∧ Fr 30635261952 S S9 ∧ True) := by
  have lm1 : (-1 : Int32).toInt = -1 := by decide
  have l0 : (0 : Int32).toInt = 0 := by decide
  have l60 : (60 : Int32).toInt = 60 := by decide
  have lo1 : (Int32.ofInt 1).toInt = 1 := by decide
  refine zk_lp (fun z S => RI S ∧ (0 ≤ z.1.toInt ∧ z.1.toInt ≤ 63 ∧ 0 ≤ z.2.1.toInt ∧ z.2.1.toInt ≤ 5 ∧ 1 ≤ z.2.2.toInt ∧ z.2.2.toInt ≤ 61)) (fun z S => (61 - z.2.2.toInt).toNat) (fun z S (v : Int32) S9 => RI S9 ∧ Fr 30635261952 S S9 ∧ True) ?_ z S ⟨RS, hi⟩ hm
  clear RS hi hm
  intro k z S hI hk
  obtain ⟨RS, hI⟩ := hI
  obtain ⟨a1, a2, a3⟩ := z
  (try dsimp only at hI); (try dsimp only at hk); (try dsimp only)
  have FS : Fr 30635261952 S S := Fr.rf
  unfold B_X7_when_56
  dsimp only
  refine zk_lt (fun c1 => ?_) (fun c1 => ?_)
  ·
    exact zk_some ⟨RS, FS, trivial⟩
  ·
    refine zk_bd (s_F_X7_namesOf _ _ RS) (fun v2 T3 h2 => ?_)
    obtain ⟨RT3, fT3, h2⟩ := h2
    have FT3 := FS.tr (fT3.sub (m := 30635261952) (by decide))
    refine zk_bd (s_F_X7_isPaidBy _ _ _ _ RT3 (by omega)) (fun v4 T5 h4 => ?_)
    obtain ⟨RT5, fT5, h4⟩ := h4
    have FT5 := FT3.tr (fT5.sub (m := 30635261952) (by decide))
    refine zk_eq (fun c6 => ?_) (fun c6 => ?_)
    ·
      refine zk_iv fun x7 e7 => ?_
      have gx7 : x7.toInt = a3.toInt + (Int32.ofInt 1).toInt := by rw [e7]; exact ti_add (by omega) (by omega)
      refine zk_imp (hk (a1, a2, x7) _ ⟨RT5, (by (try dsimp only) <;> omega)⟩ (by (try dsimp only) <;> omega)) (fun v8 T9 h8 => ?_)
      obtain ⟨RT9, FT9, h8⟩ := h8
      exact ⟨RT9, FT5.tr FT9, trivial⟩
    ·
      exact zk_some ⟨RT5, FT5, trivial⟩
theorem s_F_X7_when (p1 : Int32) (p2 : Int32) (S0 : fS) (RS0 : RI S0) : zk (F_X7_when p1 p2 S0) (fun v S9 => RI S9 ∧ Fr 30635261952 S0 S9 ∧ True) := by
  have l0 : (0 : Int32).toInt = 0 := by decide
  have l1 : (1 : Int32).toInt = 1 := by decide
  have l2 : (2 : Int32).toInt = 2 := by decide
  have l13 : (13 : Int32).toInt = 13 := by decide
  have FS0 : Fr 30635261952 S0 S0 := Fr.rf
  unfold F_X7_when
  refine zk_sv fun S1 E1 => ?_
  have RS1 : RI S1 := by rw [E1]; exact RS0.wf rfl
  have FS1 : Fr 30635261952 S0 S1 := by rw [E1]; exact FS0.wr (k := 16) rfl rfl
  refine zk_bd (s_F_X7_isCell _ _ RS1) (fun v2 T3 h2 => ?_)
  obtain ⟨rfl, h2⟩ := h2
  refine zk_eq (fun c4 => ?_) (fun c4 => ?_)
  ·
    unfold B_X7_when_18
    refine zk_bd (s_F_X7_bad _ _ _ RS1 (by omega)) (fun v5 T6 h5 => ?_)
    obtain ⟨RT6, fT6, h5⟩ := h5
    have FT6 := FS1.tr (fT6.sub (m := 30635261952) (by decide))
    refine zk_eq (fun c7 => ?_) (fun c7 => ?_)
    ·
      refine zk_iv fun x8 e8 => ?_
      have gx8 : 0 ≤ x8.toInt ∧ x8.toInt ≤ 6 := by rw [e8]; exact RT6 40 _ _
      refine zk_iv fun x9 e9 => ?_
      have gx9 : x9.toInt = x8.toInt - (1 : Int32).toInt := by rw [e9]; exact ti_sub (by omega) (by omega)
      refine zk_bd (s_F_X7_in _ _ _ _ RT6) (fun v10 T11 h10 => ?_)
      obtain ⟨rfl, h10⟩ := h10
      refine zk_eq (fun c12 => ?_) (fun c12 => ?_)
      ·
        unfold B_X7_when_45
        refine zk_bd (s_F_X7_bad _ _ _ RT6 (by omega)) (fun v13 T14 h13 => ?_)
        obtain ⟨RT14, fT14, h13⟩ := h13
        have FT14 := FT6.tr (fT14.sub (m := 30635261952) (by decide))
        refine zk_eq (fun c15 => ?_) (fun c15 => ?_)
        ·
          refine zk_imp (s_B_X7_when_56 _ _ RT14 (by (try dsimp only) <;> omega) (by (try dsimp only) <;> omega)) (fun v16 T17 h16 => ?_)
          obtain ⟨RT17, fT17, h16⟩ := h16
          have FT17 := FT14.tr (fT17.sub (m := 30635261952) (by decide))
          exact ⟨RT17, FT17, trivial⟩
        ·
          exact zk_some ⟨RT14, FT14, trivial⟩
      ·
        unfold B_X7_when_45
        refine zk_bd (s_F_X7_bad _ _ _ RT6 (by omega)) (fun v18 T19 h18 => ?_)
        obtain ⟨RT19, fT19, h18⟩ := h18
        have FT19 := FT6.tr (fT19.sub (m := 30635261952) (by decide))
        refine zk_eq (fun c20 => ?_) (fun c20 => ?_)
        ·
          refine zk_imp (s_B_X7_when_56 _ _ RT19 (by (try dsimp only) <;> omega) (by (try dsimp only) <;> omega)) (fun v21 T22 h21 => ?_)
          obtain ⟨RT22, fT22, h21⟩ := h21
          have FT22 := FT19.tr (fT22.sub (m := 30635261952) (by decide))
          exact ⟨RT22, FT22, trivial⟩
        ·
          exact zk_some ⟨RT19, FT19, trivial⟩
    ·
      exact zk_some ⟨RT6, FT6, trivial⟩
  ·
    unfold B_X7_when_18
    refine zk_bd (s_F_X7_bad _ _ _ RS1 (by omega)) (fun v23 T24 h23 => ?_)
    obtain ⟨RT24, fT24, h23⟩ := h23
    have FT24 := FS1.tr (fT24.sub (m := 30635261952) (by decide))
    refine zk_eq (fun c25 => ?_) (fun c25 => ?_)
    ·
      refine zk_iv fun x26 e26 => ?_
      have gx26 : 0 ≤ x26.toInt ∧ x26.toInt ≤ 6 := by rw [e26]; exact RT24 40 _ _
      refine zk_iv fun x27 e27 => ?_
      have gx27 : x27.toInt = x26.toInt - (1 : Int32).toInt := by rw [e27]; exact ti_sub (by omega) (by omega)
      refine zk_bd (s_F_X7_in _ _ _ _ RT24) (fun v28 T29 h28 => ?_)
      obtain ⟨rfl, h28⟩ := h28
      refine zk_eq (fun c30 => ?_) (fun c30 => ?_)
      ·
        unfold B_X7_when_45
        refine zk_bd (s_F_X7_bad _ _ _ RT24 (by omega)) (fun v31 T32 h31 => ?_)
        obtain ⟨RT32, fT32, h31⟩ := h31
        have FT32 := FT24.tr (fT32.sub (m := 30635261952) (by decide))
        refine zk_eq (fun c33 => ?_) (fun c33 => ?_)
        ·
          refine zk_imp (s_B_X7_when_56 _ _ RT32 (by (try dsimp only) <;> omega) (by (try dsimp only) <;> omega)) (fun v34 T35 h34 => ?_)
          obtain ⟨RT35, fT35, h34⟩ := h34
          have FT35 := FT32.tr (fT35.sub (m := 30635261952) (by decide))
          exact ⟨RT35, FT35, trivial⟩
        ·
          exact zk_some ⟨RT32, FT32, trivial⟩
      ·
        unfold B_X7_when_45
        refine zk_bd (s_F_X7_bad _ _ _ RT24 (by omega)) (fun v36 T37 h36 => ?_)
        obtain ⟨RT37, fT37, h36⟩ := h36
        have FT37 := FT24.tr (fT37.sub (m := 30635261952) (by decide))
        refine zk_eq (fun c38 => ?_) (fun c38 => ?_)
        ·
          refine zk_imp (s_B_X7_when_56 _ _ RT37 (by (try dsimp only) <;> omega) (by (try dsimp only) <;> omega)) (fun v39 T40 h39 => ?_)
          obtain ⟨RT40, fT40, h39⟩ := h39
          have FT40 := FT37.tr (fT40.sub (m := 30635261952) (by decide))
          exact ⟨RT40, FT40, trivial⟩
        ·
          exact zk_some ⟨RT37, FT37, trivial⟩
    ·
      exact zk_some ⟨RT24, FT24, trivial⟩
theorem s_B_X7_canNow_83 (k70 : (Int32 × Int32 × Int32) → fS → Option (Int32 × fS)) (Mk70 : Int) (hk70 : ∀ (z' : Int32 × Int32 × Int32) (S' : fS), RI S' ∧ (0 ≤ z'.1.toInt ∧ z'.1.toInt ≤ 1 ∧ 1 ≤ z'.2.1.toInt ∧ z'.2.1.toInt ≤ 36 ∧ 0 ≤ z'.2.2.toInt ∧ z'.2.2.toInt ≤ 64) → (64 - z'.2.2.toInt).toNat < Mk70.toNat → zk (k70 z' S') (fun v S9 => RI S9 ∧ Fr 17179934720 S' S9 ∧ -1 ≤ v.toInt ∧ v.toInt ≤ 63)) (z : Int32 × Int32 × Int32 × Int32 × Int32) (S : fS) (RS : RI S) (hi : 0 ≤ z.1.toInt ∧ z.1.toInt ≤ 1 ∧ 1 ≤ z.2.1.toInt ∧ z.2.1.toInt ≤ 36 ∧ 0 ≤ z.2.2.1.toInt ∧ z.2.2.1.toInt ≤ 63 ∧ 0 ≤ z.2.2.2.2.toInt ∧ z.2.2.2.2.toInt ≤ 36 ∧ 64 - z.2.2.1.toInt ≤ @Mk70) (hm : (36 - z.2.2.2.2.toInt).toNat < 4294967296) : zk (lp (B_X7_canNow_83 k70) fuel z S) (fun v S9 => RI S9 ∧ Fr 17179934720 S S9 ∧ -1 ≤ v.toInt ∧ v.toInt ≤ 63) := by
  have l0 : (0 : Int32).toInt = 0 := by decide
  have l1 : (1 : Int32).toInt = 1 := by decide
  have l5 : (5 : Int32).toInt = 5 := by decide
  have lo1 : (Int32.ofInt 1).toInt = 1 := by decide
  refine zk_lp (fun z S => RI S ∧ (0 ≤ z.1.toInt ∧ z.1.toInt ≤ 1 ∧ 1 ≤ z.2.1.toInt ∧ z.2.1.toInt ≤ 36 ∧ 0 ≤ z.2.2.1.toInt ∧ z.2.2.1.toInt ≤ 63 ∧ 0 ≤ z.2.2.2.2.toInt ∧ z.2.2.2.2.toInt ≤ 36 ∧ 64 - z.2.2.1.toInt ≤ @Mk70)) (fun z S => (36 - z.2.2.2.2.toInt).toNat) (fun z S (v : Int32) S9 => RI S9 ∧ Fr 17179934720 S S9 ∧ -1 ≤ v.toInt ∧ v.toInt ≤ 63) ?_ z S ⟨RS, hi⟩ hm
  clear RS hi hm
  intro k z S hI hk
  obtain ⟨RS, hI⟩ := hI
  obtain ⟨a1, a2, a5, a6, a7⟩ := z
  (try dsimp only at hI); (try dsimp only at hk); (try dsimp only)
  have FS : Fr 17179934720 S S := Fr.rf
  unfold B_X7_canNow_83
  dsimp only
  refine zk_le (fun c1 => ?_) (fun c1 => ?_)
  ·
    refine zk_eq (fun c2 => ?_) (fun c2 => ?_)
    ·
      have b3 := ti_bd a6
      refine zk_le (fun c4 => ?_) (fun c4 => ?_)
      ·
        unfold B_X7_canNow_145
        refine zk_iv fun x5 e5 => ?_
        have gx5 : x5.toInt = a5.toInt + (Int32.ofInt 1).toInt := by rw [e5]; exact ti_add (by omega) (by omega)
        refine zk_imp (hk70 (a1, a2, x5) _ ⟨RS, (by (try dsimp only) <;> omega)⟩ (by (try dsimp only) <;> omega)) (fun v6 T7 h6 => ?_)
        obtain ⟨RT7, FT7, h6⟩ := h6
        try dsimp only at h6
        exact ⟨RT7, FS.tr FT7, by omega⟩
      ·
        exact zk_some ⟨RS, FS, by omega⟩
    ·
      have b8 := ti_bd a6
      refine zk_eq (fun c9 => ?_) (fun c9 => ?_)
      ·
        exact zk_some ⟨RS, FS, by omega⟩
      ·
        unfold B_X7_canNow_145
        refine zk_iv fun x10 e10 => ?_
        have gx10 : x10.toInt = a5.toInt + (Int32.ofInt 1).toInt := by rw [e10]; exact ti_add (by omega) (by omega)
        refine zk_imp (hk70 (a1, a2, x10) _ ⟨RS, (by (try dsimp only) <;> omega)⟩ (by (try dsimp only) <;> omega)) (fun v11 T12 h11 => ?_)
        obtain ⟨RT12, FT12, h11⟩ := h11
        try dsimp only at h11
        exact ⟨RT12, FS.tr FT12, by omega⟩
  ·
    refine zk_gd ⟨by omega, by omega⟩ ?_
    refine zk_iv fun x13 e13 => ?_
    refine zk_gd ⟨by omega, by omega⟩ ?_
    refine zk_iv fun x14 e14 => ?_
    refine zk_bd (s_F_X7_wouldBe _ _ _ _ RS (by omega)) (fun v15 T16 h15 => ?_)
    obtain ⟨RT16, fT16, h15⟩ := h15
    have FT16 := FS.tr (fT16.sub (m := 17179934720) (by decide))
    refine zk_eq (fun c17 => ?_) (fun c17 => ?_)
    ·
      unfold B_X7_canNow_115
      refine zk_iv fun x18 e18 => ?_
      refine zk_iv fun x19 e19 => ?_
      have gx19 : x19.toInt = a7.toInt + (Int32.ofInt 1).toInt := by rw [e19]; exact ti_add (by omega) (by omega)
      refine zk_imp (hk (a1, a2, a5, x18, x19) _ ⟨RT16, (by (try dsimp only) <;> omega)⟩ (by (try dsimp only) <;> omega)) (fun v20 T21 h20 => ?_)
      obtain ⟨RT21, FT21, h20⟩ := h20
      try dsimp only at h20
      exact ⟨RT21, FT16.tr FT21, by omega⟩
    ·
      unfold B_X7_canNow_115
      refine zk_iv fun x22 e22 => ?_
      have b23 := ti_bd a6
      have gx22 : x22.toInt = a6.toInt + (0 : Int32).toInt := by rw [e22]; exact ti_add (by omega) (by omega)
      refine zk_iv fun x24 e24 => ?_
      have gx24 : x24.toInt = a7.toInt + (Int32.ofInt 1).toInt := by rw [e24]; exact ti_add (by omega) (by omega)
      refine zk_imp (hk (a1, a2, a5, x22, x24) _ ⟨RT16, (by (try dsimp only) <;> omega)⟩ (by (try dsimp only) <;> omega)) (fun v25 T26 h25 => ?_)
      obtain ⟨RT26, FT26, h25⟩ := h25
      try dsimp only at h25
      exact ⟨RT26, FT16.tr FT26, by omega⟩
theorem s_B_X7_canNow_70  (z : Int32 × Int32 × Int32) (S : fS) (RS : RI S) (hi : 0 ≤ z.1.toInt ∧ z.1.toInt ≤ 1 ∧ 1 ≤ z.2.1.toInt ∧ z.2.1.toInt ≤ 36 ∧ 0 ≤ z.2.2.toInt ∧ z.2.2.toInt ≤ 64) (hm : (64 - z.2.2.toInt).toNat < 4294967296) : zk (lp (B_X7_canNow_70) fuel z S) (fun v S9 => RI S9 ∧ Fr 17179934720 S S9 ∧ -1 ≤ v.toInt ∧ v.toInt ≤ 63) := by
  have lm1 : (-1 : Int32).toInt = -1 := by decide
  have l0 : (0 : Int32).toInt = 0 := by decide
  have l64 : (64 : Int32).toInt = 64 := by decide
  refine zk_lp (fun z S => RI S ∧ (0 ≤ z.1.toInt ∧ z.1.toInt ≤ 1 ∧ 1 ≤ z.2.1.toInt ∧ z.2.1.toInt ≤ 36 ∧ 0 ≤ z.2.2.toInt ∧ z.2.2.toInt ≤ 64)) (fun z S => (64 - z.2.2.toInt).toNat) (fun z S (v : Int32) S9 => RI S9 ∧ Fr 17179934720 S S9 ∧ -1 ≤ v.toInt ∧ v.toInt ≤ 63) ?_ z S ⟨RS, hi⟩ hm
  clear RS hi hm
  intro k z S hI hk
  obtain ⟨RS, hI⟩ := hI
  obtain ⟨a1, a2, a5⟩ := z
  (try dsimp only at hI); (try dsimp only at hk); (try dsimp only)
  have FS : Fr 17179934720 S S := Fr.rf
  unfold B_X7_canNow_70
  dsimp only
  refine zk_le (fun c1 => ?_) (fun c1 => ?_)
  ·
    exact zk_some ⟨RS, FS, by omega⟩
  ·
    refine zk_imp (s_B_X7_canNow_83 k (64 - a5.toInt) hk _ _ RS (by (try dsimp only) <;> omega) (by (try dsimp only) <;> omega)) (fun v2 T3 h2 => ?_)
    obtain ⟨RT3, fT3, h2⟩ := h2
    have FT3 := FS.tr (fT3.sub (m := 17179934720) (by decide))
    try dsimp only at h2
    exact ⟨RT3, FT3, by omega⟩
theorem s_B_X7_canNow_28  (z : Int32 × Int32 × Int32) (S : fS) (RS : RI S) (hi : 0 ≤ z.1.toInt ∧ z.1.toInt ≤ 1 ∧ 1 ≤ z.2.1.toInt ∧ z.2.1.toInt ≤ 36 ∧ 0 ≤ z.2.2.toInt ∧ z.2.2.toInt ≤ 36) (hm : (36 - z.2.2.toInt).toNat < 4294967296) : zk (lp (B_X7_canNow_28) fuel z S) (fun v S9 => RI S9 ∧ Fr 30635261952 S S9 ∧ -1 ≤ v.toInt ∧ v.toInt ≤ 63) := by
  have l0 : (0 : Int32).toInt = 0 := by decide
  have l15 : (15 : Int32).toInt = 15 := by decide
  have l18 : (18 : Int32).toInt = 18 := by decide
  have l19 : (19 : Int32).toInt = 19 := by decide
  have lo1 : (Int32.ofInt 1).toInt = 1 := by decide
  refine zk_lp (fun z S => RI S ∧ (0 ≤ z.1.toInt ∧ z.1.toInt ≤ 1 ∧ 1 ≤ z.2.1.toInt ∧ z.2.1.toInt ≤ 36 ∧ 0 ≤ z.2.2.toInt ∧ z.2.2.toInt ≤ 36)) (fun z S => (36 - z.2.2.toInt).toNat) (fun z S (v : Int32) S9 => RI S9 ∧ Fr 30635261952 S S9 ∧ -1 ≤ v.toInt ∧ v.toInt ≤ 63) ?_ z S ⟨RS, hi⟩ hm
  clear RS hi hm
  intro k z S hI hk
  obtain ⟨RS, hI⟩ := hI
  obtain ⟨a1, a2, a5⟩ := z
  (try dsimp only at hI); (try dsimp only at hk); (try dsimp only)
  have FS : Fr 30635261952 S S := Fr.rf
  unfold B_X7_canNow_28
  dsimp only
  refine zk_le (fun c1 => ?_) (fun c1 => ?_)
  ·
    refine zk_imp (s_B_X7_canNow_70 _ _ RS (by (try dsimp only) <;> omega) (by (try dsimp only) <;> omega)) (fun v2 T3 h2 => ?_)
    obtain ⟨RT3, fT3, h2⟩ := h2
    have FT3 := FS.tr (fT3.sub (m := 30635261952) (by decide))
    try dsimp only at h2
    exact ⟨RT3, FT3, by omega⟩
  ·
    refine zk_iv fun x4 e4 => ?_
    have gx4 : -1 ≤ x4.toInt ∧ x4.toInt ≤ 5 := by rw [e4]; exact RS 40 _ _
    refine zk_bd (s_F_X7_tellsBy _ _ _ RS (by omega)) (fun v5 T6 h5 => ?_)
    obtain ⟨RT6, fT6, h5⟩ := h5
    have FT6 := FS.tr (fT6.sub (m := 30635261952) (by decide))
    refine zk_iv fun x7 e7 => ?_
    refine zk_gd ⟨by omega, by omega⟩ ?_
    refine zk_sv fun S8 E8 => ?_
    have RS8 : RI S8 := by rw [E8]; exact RT6.wf rfl
    have FS8 : Fr 30635261952 S S8 := by rw [E8]; exact FT6.wr (k := 16) rfl rfl
    refine zk_iv fun x9 e9 => ?_
    refine zk_gd ⟨by omega, by omega⟩ ?_
    refine zk_sv fun S10 E10 => ?_
    have RS10 : RI S10 := by rw [E10]; exact RS8.wf rfl
    have FS10 : Fr 30635261952 S S10 := by rw [E10]; exact FS8.wr (k := 16) rfl rfl
    refine zk_iv fun x11 e11 => ?_
    have gx11 : x11.toInt = a5.toInt + (Int32.ofInt 1).toInt := by rw [e11]; exact ti_add (by omega) (by omega)
    refine zk_imp (hk (a1, a2, x11) _ ⟨RS10, (by (try dsimp only) <;> omega)⟩ (by (try dsimp only) <;> omega)) (fun v12 T13 h12 => ?_)
    obtain ⟨RT13, FT13, h12⟩ := h12
    try dsimp only at h12
    exact ⟨RT13, FS10.tr FT13, by omega⟩
theorem s_F_X7_canNow (p1 : Int32) (S0 : fS) (RS0 : RI S0) (hp : 0 ≤ p1.toInt ∧ p1.toInt ≤ 1) : zk (F_X7_canNow p1 S0) (fun v S9 => RI S9 ∧ Fr 30635261952 S0 S9 ∧ -1 ≤ v.toInt ∧ v.toInt ≤ 63) := by
  have l0 : (0 : Int32).toInt = 0 := by decide
  have l1 : (1 : Int32).toInt = 1 := by decide
  have l15 : (15 : Int32).toInt = 15 := by decide
  have FS0 : Fr 30635261952 S0 S0 := Fr.rf
  unfold F_X7_canNow
  refine zk_bd (s_F_X7_namesOf _ _ RS0) (fun v1 T2 h1 => ?_)
  obtain ⟨RT2, fT2, h1⟩ := h1
  have FT2 := FS0.tr (fT2.sub (m := 30635261952) (by decide))
  refine zk_iv fun x3 e3 => ?_
  have gx3 : -1 ≤ x3.toInt ∧ x3.toInt ≤ 5 := by rw [e3]; exact RT2 40 _ _
  refine zk_bd (s_F_X7_lotsBy _ _ RT2 (by omega)) (fun v4 T5 h4 => ?_)
  obtain ⟨RT5, fT5, h4⟩ := h4
  have FT5 := FT2.tr (fT5.sub (m := 30635261952) (by decide))
  refine zk_sv fun S6 E6 => ?_
  have RS6 : RI S6 := by rw [E6]; exact RT5.wbf (fun _ => rfl)
  have FS6 : Fr 30635261952 S0 S6 := by rw [E6]; exact FT5.wb (k := 16) (fun _ => rfl) rfl
  refine zk_sv fun S7 E7 => ?_
  have RS7 : RI S7 := by rw [E7]; exact RS6.wbf (fun _ => rfl)
  have FS7 : Fr 30635261952 S0 S7 := by rw [E7]; exact FS6.wb (k := 16) (fun _ => rfl) rfl
  refine zk_imp (s_B_X7_canNow_28 _ _ RS7 (by (try dsimp only) <;> omega) (by (try dsimp only) <;> omega)) (fun v8 T9 h8 => ?_)
  obtain ⟨RT9, fT9, h8⟩ := h8
  have FT9 := FS7.tr (fT9.sub (m := 30635261952) (by decide))
  try dsimp only at h8
  exact ⟨RT9, FT9, by omega⟩
theorem s_F_X7_can (p1 : Int32) (S0 : fS) (RS0 : RI S0) (hp : 0 ≤ p1.toInt ∧ p1.toInt ≤ 1) : zk (F_X7_can p1 S0) (fun v S9 => RI S9 ∧ Fr 30635261952 S0 S9 ∧ True) := by
  have l0 : (0 : Int32).toInt = 0 := by decide
  have FS0 : Fr 30635261952 S0 S0 := Fr.rf
  unfold F_X7_can
  refine zk_sv fun S1 E1 => ?_
  have RS1 : RI S1 := by rw [E1]; exact RS0.wf rfl
  have FS1 : Fr 30635261952 S0 S1 := by rw [E1]; exact FS0.wr (k := 16) rfl rfl
  refine zk_bd (s_F_X7_canNow _ _ RS1 (by omega)) (fun v2 T3 h2 => ?_)
  obtain ⟨RT3, fT3, h2⟩ := h2
  have FT3 := FS1.tr (fT3.sub (m := 30635261952) (by decide))
  exact zk_some ⟨RT3, FT3, trivial⟩
theorem s_B_X7_fair_52 (k33 : (Int32 × Int32) → fS → Option (Int32 × fS)) (Mk33 : Int) (hk33 : ∀ (z' : Int32 × Int32) (S' : fS), RI S' ∧ (-2 ≤ z'.2.toInt ∧ z'.2.toInt ≤ 8) → (z'.2.toInt + 2).toNat < Mk33.toNat → zk (k33 z' S') (fun v S9 => RI S9 ∧ Fr 17179934720 S' S9 ∧ True)) (k40 : (Int32 × Int32 × Int32) → fS → Option (Int32 × fS)) (Mk40 : Int) (hk40 : ∀ (z' : Int32 × Int32 × Int32) (S' : fS), RI S' ∧ (0 ≤ z'.2.1.toInt ∧ z'.2.1.toInt ≤ 8 ∧ 0 ≤ z'.2.2.toInt ∧ z'.2.2.toInt ≤ 100 ∧ z'.2.1.toInt + 2 ≤ @Mk33) → (100 - z'.2.2.toInt).toNat < Mk40.toNat → zk (k40 z' S') (fun v S9 => RI S9 ∧ Fr 17179934720 S' S9 ∧ True)) (z : Int32 × Int32 × Int32 × Int32 × Int32) (S : fS) (RS : RI S) (hi : 0 ≤ z.2.1.toInt ∧ z.2.1.toInt ≤ 8 ∧ 0 ≤ z.2.2.1.toInt ∧ z.2.2.1.toInt ≤ 90 ∧ 0 ≤ z.2.2.2.2.toInt ∧ z.2.2.2.2.toInt ≤ 64 ∧ z.2.1.toInt + 2 ≤ @Mk33 ∧ 100 - z.2.2.1.toInt ≤ @Mk40) (hm : (64 - z.2.2.2.2.toInt).toNat < 4294967296) : zk (lp (B_X7_fair_52 k33 k40) fuel z S) (fun v S9 => RI S9 ∧ Fr 17179934720 S S9 ∧ True) := by
  have l0 : (0 : Int32).toInt = 0 := by decide
  have l1 : (1 : Int32).toInt = 1 := by decide
  have l5 : (5 : Int32).toInt = 5 := by decide
  have l64 : (64 : Int32).toInt = 64 := by decide
  have l100 : (100 : Int32).toInt = 100 := by decide
  have lo1 : (Int32.ofInt 1).toInt = 1 := by decide
  have lo10 : (Int32.ofInt 10).toInt = 10 := by decide
  refine zk_lp (fun z S => RI S ∧ (0 ≤ z.2.1.toInt ∧ z.2.1.toInt ≤ 8 ∧ 0 ≤ z.2.2.1.toInt ∧ z.2.2.1.toInt ≤ 90 ∧ 0 ≤ z.2.2.2.2.toInt ∧ z.2.2.2.2.toInt ≤ 64 ∧ z.2.1.toInt + 2 ≤ @Mk33 ∧ 100 - z.2.2.1.toInt ≤ @Mk40)) (fun z S => (64 - z.2.2.2.2.toInt).toNat) (fun z S (v : Int32) S9 => RI S9 ∧ Fr 17179934720 S S9 ∧ True) ?_ z S ⟨RS, hi⟩ hm
  clear RS hi hm
  intro k z S hI hk
  obtain ⟨RS, hI⟩ := hI
  obtain ⟨a1, a2, a3, a4, a5⟩ := z
  (try dsimp only at hI); (try dsimp only at hk); (try dsimp only)
  have FS : Fr 17179934720 S S := Fr.rf
  unfold B_X7_fair_52
  dsimp only
  refine zk_le (fun c1 => ?_) (fun c1 => ?_)
  ·
    have b2 := ti_bd a4
    have b3 := ti_bd a1
    refine zk_lt (fun c4 => ?_) (fun c4 => ?_)
    ·
      refine zk_iv fun x5 e5 => ?_
      have gx5 : x5.toInt = a3.toInt + (Int32.ofInt 10).toInt := by rw [e5]; exact ti_add (by omega) (by omega)
      refine zk_imp (hk40 (a1, a2, x5) _ ⟨RS, (by (try dsimp only) <;> omega)⟩ (by (try dsimp only) <;> omega)) (fun v6 T7 h6 => ?_)
      obtain ⟨RT7, FT7, h6⟩ := h6
      exact ⟨RT7, FS.tr FT7, trivial⟩
    ·
      refine zk_iv fun x8 e8 => ?_
      have gx8 : x8.toInt = (100 : Int32).toInt * a3.toInt := by rw [e8]; exact ti_mul (by rw [l100]; omega) (by rw [l100]; omega)
      rw [l100] at gx8
      refine zk_iv fun x9 e9 => ?_
      have gx9 : x9.toInt = x8.toInt + a2.toInt := by rw [e9]; exact ti_add (by omega) (by omega)
      exact zk_some ⟨RS, FS, trivial⟩
  ·
    refine zk_bd (s_F_X7_wouldBe _ _ _ _ RS (by omega)) (fun v10 T11 h10 => ?_)
    obtain ⟨RT11, fT11, h10⟩ := h10
    have FT11 := FS.tr (fT11.sub (m := 17179934720) (by decide))
    refine zk_eq (fun c12 => ?_) (fun c12 => ?_)
    ·
      unfold B_X7_fair_78
      refine zk_iv fun x13 e13 => ?_
      refine zk_iv fun x14 e14 => ?_
      have gx14 : x14.toInt = a5.toInt + (Int32.ofInt 1).toInt := by rw [e14]; exact ti_add (by omega) (by omega)
      refine zk_imp (hk (a1, a2, a3, x13, x14) _ ⟨RT11, (by (try dsimp only) <;> omega)⟩ (by (try dsimp only) <;> omega)) (fun v15 T16 h15 => ?_)
      obtain ⟨RT16, FT16, h15⟩ := h15
      exact ⟨RT16, FT11.tr FT16, trivial⟩
    ·
      unfold B_X7_fair_78
      refine zk_iv fun x17 e17 => ?_
      have b18 := ti_bd a4
      have gx17 : x17.toInt = a4.toInt + (0 : Int32).toInt := by rw [e17]; exact ti_add (by omega) (by omega)
      refine zk_iv fun x19 e19 => ?_
      have gx19 : x19.toInt = a5.toInt + (Int32.ofInt 1).toInt := by rw [e19]; exact ti_add (by omega) (by omega)
      refine zk_imp (hk (a1, a2, a3, x17, x19) _ ⟨RT11, (by (try dsimp only) <;> omega)⟩ (by (try dsimp only) <;> omega)) (fun v20 T21 h20 => ?_)
      obtain ⟨RT21, FT21, h20⟩ := h20
      exact ⟨RT21, FT11.tr FT21, trivial⟩
theorem s_B_X7_fair_40 (k33 : (Int32 × Int32) → fS → Option (Int32 × fS)) (Mk33 : Int) (hk33 : ∀ (z' : Int32 × Int32) (S' : fS), RI S' ∧ (-2 ≤ z'.2.toInt ∧ z'.2.toInt ≤ 8) → (z'.2.toInt + 2).toNat < Mk33.toNat → zk (k33 z' S') (fun v S9 => RI S9 ∧ Fr 17179934720 S' S9 ∧ True)) (z : Int32 × Int32 × Int32) (S : fS) (RS : RI S) (hi : 0 ≤ z.2.1.toInt ∧ z.2.1.toInt ≤ 8 ∧ 0 ≤ z.2.2.toInt ∧ z.2.2.toInt ≤ 100 ∧ z.2.1.toInt + 2 ≤ @Mk33) (hm : (100 - z.2.2.toInt).toNat < 4294967296) : zk (lp (B_X7_fair_40 k33) fuel z S) (fun v S9 => RI S9 ∧ Fr 17179934720 S S9 ∧ True) := by
  have l0 : (0 : Int32).toInt = 0 := by decide
  have l90 : (90 : Int32).toInt = 90 := by decide
  have lom2 : (Int32.ofInt (-2)).toInt = -2 := by decide
  refine zk_lp (fun z S => RI S ∧ (0 ≤ z.2.1.toInt ∧ z.2.1.toInt ≤ 8 ∧ 0 ≤ z.2.2.toInt ∧ z.2.2.toInt ≤ 100 ∧ z.2.1.toInt + 2 ≤ @Mk33)) (fun z S => (100 - z.2.2.toInt).toNat) (fun z S (v : Int32) S9 => RI S9 ∧ Fr 17179934720 S S9 ∧ True) ?_ z S ⟨RS, hi⟩ hm
  clear RS hi hm
  intro k z S hI hk
  obtain ⟨RS, hI⟩ := hI
  obtain ⟨a1, a2, a3⟩ := z
  (try dsimp only at hI); (try dsimp only at hk); (try dsimp only)
  have FS : Fr 17179934720 S S := Fr.rf
  unfold B_X7_fair_40
  dsimp only
  refine zk_lt (fun c1 => ?_) (fun c1 => ?_)
  ·
    refine zk_iv fun x2 e2 => ?_
    have gx2 : x2.toInt = a2.toInt + (Int32.ofInt (-2)).toInt := by rw [e2]; exact ti_add (by omega) (by omega)
    refine zk_imp (hk33 (a1, x2) _ ⟨RS, (by (try dsimp only) <;> omega)⟩ (by (try dsimp only) <;> omega)) (fun v3 T4 h3 => ?_)
    obtain ⟨RT4, FT4, h3⟩ := h3
    exact ⟨RT4, FS.tr FT4, trivial⟩
  ·
    refine zk_imp (s_B_X7_fair_52 k33 Mk33 hk33 k (100 - a3.toInt) hk _ _ RS (by (try dsimp only) <;> omega) (by (try dsimp only) <;> omega)) (fun v5 T6 h5 => ?_)
    obtain ⟨RT6, fT6, h5⟩ := h5
    have FT6 := FS.tr (fT6.sub (m := 17179934720) (by decide))
    exact ⟨RT6, FT6, trivial⟩
theorem s_B_X7_fair_33  (z : Int32 × Int32) (S : fS) (RS : RI S) (hi : -2 ≤ z.2.toInt ∧ z.2.toInt ≤ 8) (hm : (z.2.toInt + 2).toNat < 4294967296) : zk (lp (B_X7_fair_33) fuel z S) (fun v S9 => RI S9 ∧ Fr 17179934720 S S9 ∧ True) := by
  have lm1 : (-1 : Int32).toInt = -1 := by decide
  have l0 : (0 : Int32).toInt = 0 := by decide
  have l10 : (10 : Int32).toInt = 10 := by decide
  refine zk_lp (fun z S => RI S ∧ (-2 ≤ z.2.toInt ∧ z.2.toInt ≤ 8)) (fun z S => (z.2.toInt + 2).toNat) (fun z S (v : Int32) S9 => RI S9 ∧ Fr 17179934720 S S9 ∧ True) ?_ z S ⟨RS, hi⟩ hm
  clear RS hi hm
  intro k z S hI hk
  obtain ⟨RS, hI⟩ := hI
  obtain ⟨a1, a2⟩ := z
  (try dsimp only at hI); (try dsimp only at hk); (try dsimp only)
  have FS : Fr 17179934720 S S := Fr.rf
  unfold B_X7_fair_33
  dsimp only
  refine zk_lt (fun c1 => ?_) (fun c1 => ?_)
  ·
    exact zk_some ⟨RS, FS, trivial⟩
  ·
    refine zk_imp (s_B_X7_fair_40 k (a2.toInt + 2) hk _ _ RS (by (try dsimp only) <;> omega) (by (try dsimp only) <;> omega)) (fun v2 T3 h2 => ?_)
    obtain ⟨RT3, fT3, h2⟩ := h2
    have FT3 := FS.tr (fT3.sub (m := 17179934720) (by decide))
    exact ⟨RT3, FT3, trivial⟩
theorem s_F_X7_fair (p1 : Int32) (S0 : fS) (RS0 : RI S0) : zk (F_X7_fair p1 S0) (fun v S9 => RI S9 ∧ Fr 17179934720 S0 S9 ∧ True) := by
  have l0 : (0 : Int32).toInt = 0 := by decide
  have l1 : (1 : Int32).toInt = 1 := by decide
  have l8 : (8 : Int32).toInt = 8 := by decide
  have l64 : (64 : Int32).toInt = 64 := by decide
  have FS0 : Fr 17179934720 S0 S0 := Fr.rf
  unfold F_X7_fair
  refine zk_sv fun S1 E1 => ?_
  have RS1 : RI S1 := by rw [E1]; exact RS0.wf rfl
  have FS1 : Fr 17179934720 S0 S1 := by rw [E1]; exact FS0.wr (k := 16) rfl rfl
  refine zk_bd (s_F_X7_in _ _ _ _ RS1) (fun v2 T3 h2 => ?_)
  obtain ⟨rfl, h2⟩ := h2
  refine zk_eq (fun c4 => ?_) (fun c4 => ?_)
  ·
    unfold B_X7_fair_21
    refine zk_bd (s_F_X7_bad _ _ _ RS1 (by omega)) (fun v5 T6 h5 => ?_)
    obtain ⟨RT6, fT6, h5⟩ := h5
    have FT6 := FS1.tr (fT6.sub (m := 17179934720) (by decide))
    refine zk_eq (fun c7 => ?_) (fun c7 => ?_)
    ·
      refine zk_imp (s_B_X7_fair_33 _ _ RT6 (by (try dsimp only) <;> omega) (by (try dsimp only) <;> omega)) (fun v8 T9 h8 => ?_)
      obtain ⟨RT9, fT9, h8⟩ := h8
      have FT9 := FT6.tr (fT9.sub (m := 17179934720) (by decide))
      exact ⟨RT9, FT9, trivial⟩
    ·
      exact zk_some ⟨RT6, FT6, trivial⟩
  ·
    unfold B_X7_fair_21
    refine zk_bd (s_F_X7_bad _ _ _ RS1 (by omega)) (fun v10 T11 h10 => ?_)
    obtain ⟨RT11, fT11, h10⟩ := h10
    have FT11 := FS1.tr (fT11.sub (m := 17179934720) (by decide))
    refine zk_eq (fun c12 => ?_) (fun c12 => ?_)
    ·
      refine zk_imp (s_B_X7_fair_33 _ _ RT11 (by (try dsimp only) <;> omega) (by (try dsimp only) <;> omega)) (fun v13 T14 h13 => ?_)
      obtain ⟨RT14, fT14, h13⟩ := h13
      have FT14 := FT11.tr (fT14.sub (m := 17179934720) (by decide))
      exact ⟨RT14, FT14, trivial⟩
    ·
      exact zk_some ⟨RT11, FT11, trivial⟩
