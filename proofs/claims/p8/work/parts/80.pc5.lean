/-! the pure part: the reader to its end -/
theorem s_R4 : ∀ d : Nat, (∀ (q : Int32) (S : fS), RI S → 3 * (6 - (ge S 17 0 8).toInt) + 5 ≤ (d : Int) → zk (R_X4r d 0 q S) (fun v S9 => RI S9 ∧ Fr 4097 S S9 ∧ (v.toInt = 0 ∨ (v.toInt = 1 ∧ (ge S9 17 0 8).toInt = (ge S 17 0 8).toInt)))) ∧ (∀ (q : Int32) (S : fS), RI S → 3 * (6 - (ge S 17 0 8).toInt) + 4 ≤ (d : Int) → zk (R_X4r d 1 q S) (fun v S9 => RI S9 ∧ Fr 4097 S S9 ∧ (v.toInt = 0 ∨ (v.toInt = 1 ∧ (ge S9 17 0 8).toInt = (ge S 17 0 8).toInt)))) ∧ (∀ (q : Int32) (S : fS), RI S → 3 * (6 - (ge S 17 0 8).toInt) + 2 ≤ (d : Int) → zk (R_X4r d 2 q S) (fun v S9 => RI S9 ∧ Fr 4097 S S9 ∧ (v.toInt = 0 ∨ (v.toInt = 1 ∧ (ge S9 17 0 8).toInt = (ge S 17 0 8).toInt)))) ∧ (∀ (q : Int32) (S : fS), RI S → 3 * (6 - (ge S 17 0 8).toInt) + 3 ≤ (d : Int) → zk (R_X4r d 3 q S) (fun v S9 => RI S9 ∧ Fr 4097 S S9 ∧ (v.toInt = 0 ∨ (v.toInt = 1 ∧ (ge S9 17 0 8).toInt = (ge S 17 0 8).toInt)))) ∧ (∀ (q : Int32) (S : fS), RI S → 3 * (6 - (ge S 17 0 8).toInt) + 2 ≤ (d : Int) → zk (R_X4r d 4 q S) (fun v S9 => RI S9 ∧ Fr 4097 S S9 ∧ (v.toInt = 0 ∨ (v.toInt = 1 ∧ (ge S9 17 0 8).toInt = (ge S 17 0 8).toInt)))) ∧ (∀ (q : Int32) (S : fS), RI S → 3 * (6 - (ge S 17 0 8).toInt) + 1 ≤ (d : Int) → zk (R_X4r d 5 q S) (fun v S9 => RI S9 ∧ Fr 4097 S S9 ∧ (v.toInt = 0 ∨ (v.toInt = 1 ∧ (ge S9 17 0 8).toInt = (ge S 17 0 8).toInt))))
  | 0 => by
    refine ⟨?_, ?_, ?_, ?_, ?_, ?_⟩
    all_goals
      intro q S hR hb
      have h1 : 0 ≤ (ge S 17 0 8).toInt ∧ (ge S 17 0 8).toInt ≤ 6 := hR 17 0 8
      exact False.elim (by omega)
  | d + 1 => by
    obtain ⟨h0, h1, h2, h3, h4, h5⟩ := s_R4 d
    refine ⟨?_, ?_, ?_, ?_, ?_, ?_⟩
    · intro q S hR hb
      exact s_N_X4_condition (R_X4r d) d h0 h1 h2 h3 h4 h5 S hR (by omega)
    · intro q S hR hb
      exact s_N_X4_claim (R_X4r d) d h0 h1 h2 h3 h4 h5 S hR (by omega)
    · intro q S hR hb
      exact s_N_X4_denial (R_X4r d) d h0 h1 h2 h3 h4 h5 S hR (by omega)
    · intro q S hR hb
      exact s_N_X4_sum (R_X4r d) d h0 h1 h2 h3 h4 h5 S hR (by omega)
    · intro q S hR hb
      exact s_N_X4_unit (R_X4r d) d h0 h1 h2 h3 h4 h5 S hR (by omega)
    · intro q S hR hb
      exact s_N_X4_choice (R_X4r d) d h0 h1 h2 h3 h4 h5 q S hR (by omega)
theorem s_F_X4_condition (S0 : fS) (RS0 : RI S0) : zk (F_X4_condition S0) (fun v S9 => RI S9 ∧ Fr 4097 S0 S9 ∧ 0 ≤ v.toInt ∧ v.toInt ≤ 1) := by
  have h1 : 0 ≤ (ge S0 17 0 8).toInt ∧ (ge S0 17 0 8).toInt ≤ 6 := RS0 17 0 8
  unfold F_X4_condition
  refine zk_imp ((s_R4 64).1 0 S0 RS0 (by omega)) (fun v S9 h => ?_)
  obtain ⟨hR, hF, h⟩ := h
  exact ⟨hR, hF, by omega⟩
theorem s_F_X4_sum (S0 : fS) (RS0 : RI S0) : zk (F_X4_sum S0) (fun v S9 => RI S9 ∧ Fr 4097 S0 S9 ∧ 0 ≤ v.toInt ∧ v.toInt ≤ 1) := by
  have h1 : 0 ≤ (ge S0 17 0 8).toInt ∧ (ge S0 17 0 8).toInt ≤ 6 := RS0 17 0 8
  unfold F_X4_sum
  refine zk_imp ((s_R4 64).2.2.2.1 0 S0 RS0 (by omega)) (fun v S9 h => ?_)
  obtain ⟨hR, hF, h⟩ := h
  exact ⟨hR, hF, by omega⟩
theorem s_F_X4_clause (p1 : Int32) (S0 : fS) (RS0 : RI S0) : zk (F_X4_clause p1 S0) (fun v S9 => RI S9 ∧ Fr 4097 S0 S9 ∧ True) := by
  have l0 : (0 : Int32).toInt = 0 := by decide
  have l1 : (1 : Int32).toInt = 1 := by decide
  have l3 : (3 : Int32).toInt = 3 := by decide
  have l4 : (4 : Int32).toInt = 4 := by decide
  have l12 : (12 : Int32).toInt = 12 := by decide
  have l59 : (59 : Int32).toInt = 59 := by decide
  have l260 : (260 : Int32).toInt = 260 := by decide
  have l262 : (262 : Int32).toInt = 262 := by decide
  have l263 : (263 : Int32).toInt = 263 := by decide
  have l2020 : (2020 : Int32).toInt = 2020 := by decide
  have l2030 : (2030 : Int32).toInt = 2030 := by decide
  have FS0 : Fr 4097 S0 S0 := Fr.rf
  unfold F_X4_clause
  refine zk_bd (s_F_X4_here _ RS0) (fun v1 T2 h1 => ?_)
  obtain ⟨rfl, h1⟩ := h1
  refine zk_bd (s_F_X6_within _ _ _ _ RS0) (fun v3 T4 h3 => ?_)
  obtain ⟨rfl, h3⟩ := h3
  refine zk_eq (fun c5 => ?_) (fun c5 => ?_)
  ·
    refine zk_bd (s_F_X4_fail _ _ RS0) (fun v6 T7 h6 => ?_)
    obtain ⟨RT7, fT7, h6⟩ := h6
    have FT7 := FS0.tr (fT7.sub (m := 4097) (by decide))
    refine zk_gd (z01 (by omega)) ?_
    exact zk_some ⟨RT7, FT7, trivial⟩
  ·
    have b8 := ti_bd p1
    refine zk_lt (fun c9 => ?_) (fun c9 => ?_)
    ·
      refine zk_iv fun x10 e10 => ?_
      refine zk_iv fun x11 e11 => ?_
      refine zk_sv fun S12 E12 => ?_
      have RS12 : RI S12 := by rw [E12]; exact RS0.wf rfl
      have FS12 : Fr 4097 S0 S12 := by rw [E12]; exact FS0.wr (k := 0) rfl rfl
      refine zk_bd (s_F_X4_sum _ RS12) (fun v13 T14 h13 => ?_)
      obtain ⟨RT14, fT14, h13⟩ := h13
      have FT14 := FS12.tr (fT14.sub (m := 4097) (by decide))
      refine zk_eq (fun c15 => ?_) (fun c15 => ?_)
      ·
        exact zk_some ⟨RT14, FT14, trivial⟩
      ·
        refine zk_bd (s_F_X4_passed _ _ RT14) (fun v16 T17 h16 => ?_)
        obtain ⟨RT17, fT17, h16⟩ := h16
        have FT17 := FT14.tr (fT17.sub (m := 4097) (by decide))
        refine zk_eq (fun c18 => ?_) (fun c18 => ?_)
        ·
          unfold B_X4_clause_76
          refine zk_eq (fun c19 => ?_) (fun c19 => ?_)
          ·
            unfold B_X4_clause_90
            refine zk_iv fun x20 e20 => ?_
            have gx20 : x20.toInt = (2020 : Int32).toInt + v1.toInt := by rw [e20]; exact ti_add (by omega) (by omega)
            refine zk_iv fun x21 e21 => ?_
            have gx21 : x21.toInt = x20.toInt - (260 : Int32).toInt := by rw [e21]; exact ti_sub (by omega) (by omega)
            refine zk_bd (s_F_X4_emit _ _ RT17) (fun v22 T23 h22 => ?_)
            obtain ⟨RT23, fT23, h22⟩ := h22
            have FT23 := FT17.tr (fT23.sub (m := 4097) (by decide))
            refine zk_bd (s_F_X4_passed _ _ RT23) (fun v24 T25 h24 => ?_)
            obtain ⟨RT25, fT25, h24⟩ := h24
            have FT25 := FT23.tr (fT25.sub (m := 4097) (by decide))
            refine zk_eq (fun c26 => ?_) (fun c26 => ?_)
            ·
              refine zk_bd (s_F_X4_fail _ _ RT25) (fun v27 T28 h27 => ?_)
              obtain ⟨RT28, fT28, h27⟩ := h27
              have FT28 := FT25.tr (fT28.sub (m := 4097) (by decide))
              refine zk_eq (fun c29 => ?_) (fun c29 => ?_)
              ·
                exact zk_some ⟨RT28, FT28, trivial⟩
              ·
                exact False.elim (by omega)
            ·
              unfold B_X4_clause_116
              exact zk_some ⟨RT25, FT25, trivial⟩
          ·
            exact False.elim (by omega)
        ·
          refine zk_bd (s_F_X4_condition _ RT17) (fun v30 T31 h30 => ?_)
          obtain ⟨RT31, fT31, h30⟩ := h30
          have FT31 := FT17.tr (fT31.sub (m := 4097) (by decide))
          refine zk_eq (fun c32 => ?_) (fun c32 => ?_)
          ·
            exact zk_some ⟨RT31, FT31, trivial⟩
          ·
            unfold B_X4_clause_76
            refine zk_eq (fun c33 => ?_) (fun c33 => ?_)
            ·
              exact False.elim (by omega)
            ·
              unfold B_X4_clause_90
              refine zk_iv fun x34 e34 => ?_
              have gx34 : x34.toInt = (2030 : Int32).toInt + v1.toInt := by rw [e34]; exact ti_add (by omega) (by omega)
              refine zk_iv fun x35 e35 => ?_
              have gx35 : x35.toInt = x34.toInt - (260 : Int32).toInt := by rw [e35]; exact ti_sub (by omega) (by omega)
              refine zk_bd (s_F_X4_emit _ _ RT31) (fun v36 T37 h36 => ?_)
              obtain ⟨RT37, fT37, h36⟩ := h36
              have FT37 := FT31.tr (fT37.sub (m := 4097) (by decide))
              refine zk_bd (s_F_X4_passed _ _ RT37) (fun v38 T39 h38 => ?_)
              obtain ⟨RT39, fT39, h38⟩ := h38
              have FT39 := FT37.tr (fT39.sub (m := 4097) (by decide))
              refine zk_eq (fun c40 => ?_) (fun c40 => ?_)
              ·
                refine zk_bd (s_F_X4_fail _ _ RT39) (fun v41 T42 h41 => ?_)
                obtain ⟨RT42, fT42, h41⟩ := h41
                have FT42 := FT39.tr (fT42.sub (m := 4097) (by decide))
                refine zk_eq (fun c43 => ?_) (fun c43 => ?_)
                ·
                  exact zk_some ⟨RT42, FT42, trivial⟩
                ·
                  exact False.elim (by omega)
              ·
                unfold B_X4_clause_116
                exact zk_some ⟨RT39, FT39, trivial⟩
    ·
      refine zk_bd (s_F_X4_fail _ _ RS0) (fun v44 T45 h44 => ?_)
      obtain ⟨RT45, fT45, h44⟩ := h44
      have FT45 := FS0.tr (fT45.sub (m := 4097) (by decide))
      refine zk_gd (z01 (by omega)) ?_
      exact zk_some ⟨RT45, FT45, trivial⟩
theorem s_B_X4_spells_15 (r3 : Nat) (z : Int32 × Int32 × Int32) (S : fS) (RS : RI S) (hi : 0 ≤ z.1.toInt ∧ z.1.toInt ≤ z.2.2.toInt ∧ z.2.2.toInt ≤ z.2.1.toInt ∧ z.2.1.toInt ≤ 300 ∧ z.2.1.toInt - z.1.toInt = ((rsN.getD r3 0 : Nat) : Int)) (hm : (300 - z.2.2.toInt).toNat < 4294967296) : zk (lp (B_X4_spells_15 r3) fuel z S) (fun v S9 => S = S9 ∧ True) := by
  have l0 : (0 : Int32).toInt = 0 := by decide
  have l1 : (1 : Int32).toInt = 1 := by decide
  have lo1 : (Int32.ofInt 1).toInt = 1 := by decide
  refine zk_lp (fun z S => RI S ∧ (0 ≤ z.1.toInt ∧ z.1.toInt ≤ z.2.2.toInt ∧ z.2.2.toInt ≤ z.2.1.toInt ∧ z.2.1.toInt ≤ 300 ∧ z.2.1.toInt - z.1.toInt = ((rsN.getD r3 0 : Nat) : Int))) (fun z S => (300 - z.2.2.toInt).toNat) (fun z S (v : Int32) S9 => S = S9 ∧ True) ?_ z S ⟨RS, hi⟩ hm
  clear RS hi hm
  intro k z S hI hk
  obtain ⟨RS, hI⟩ := hI
  obtain ⟨a1, a2, a4⟩ := z
  (try dsimp only at hI); (try dsimp only at hk); (try dsimp only)
  unfold B_X4_spells_15
  dsimp only
  have b1 := ti_bd a4
  refine zk_le (fun c2 => ?_) (fun c2 => ?_)
  ·
    exact zk_some ⟨rfl, trivial⟩
  ·
    refine zk_gd ⟨by omega, by omega⟩ ?_
    refine zk_iv fun x3 e3 => ?_
    refine zk_iv fun x4 e4 => ?_
    have b5 := ti_bd a1
    have gx4 : x4.toInt = a4.toInt - a1.toInt := by rw [e4]; exact ti_sub (by omega) (by omega)
    refine zk_gd ⟨by omega, by omega⟩ ?_
    refine zk_iv fun x6 e6 => ?_
    have b7 := ti_bd x3
    have b8 := ti_bd x6
    refine zk_eq (fun c9 => ?_) (fun c9 => ?_)
    ·
      refine zk_iv fun x10 e10 => ?_
      have gx10 : x10.toInt = a4.toInt + (Int32.ofInt 1).toInt := by rw [e10]; exact ti_add (by omega) (by omega)
      refine zk_imp (hk (a1, a2, x10) _ ⟨RS, (by (try dsimp only) <;> omega)⟩ (by (try dsimp only) <;> omega)) (fun v11 T12 h11 => ?_)
      obtain ⟨rfl, h11⟩ := h11
      exact ⟨rfl, trivial⟩
    ·
      exact zk_some ⟨rfl, trivial⟩
theorem s_F_X4_spells (p1 p2 : Int32) (r3 : Nat) (S0 : fS) (RS0 : RI S0) (hp : 0 ≤ p1.toInt ∧ p1.toInt ≤ 300 ∧ 0 ≤ p2.toInt ∧ p2.toInt ≤ 300) (hpr : r3 < 16) : zk (F_X4_spells p1 p2 r3 S0) (fun v S9 => S0 = S9 ∧ True) := by
  have hN : (Int32.ofNat (rsN.getD r3 0)).toInt = ((rsN.getD r3 0 : Nat) : Int) := sb_l r3 hpr
  unfold F_X4_spells
  refine zk_iv fun x1 e1 => ?_
  have g1 : x1.toInt = p2.toInt - p1.toInt := by rw [e1]; exact ti_sub (by omega) (by omega)
  refine zk_iv fun x2 e2 => ?_
  have g2 : x2.toInt = ((rsN.getD r3 0 : Nat) : Int) := by rw [e2]; exact hN
  refine zk_eq (fun c => ?_) (fun c => ?_)
  · exact s_B_X4_spells_15 r3 _ _ RS0 (by dsimp only; omega) (by dsimp only; omega)
  · exact zk_some ⟨rfl, trivial⟩
theorem s_F_X4_nameIn (p1 : Int32) (p2 : Int32) (S0 : fS) (RS0 : RI S0) (hp : 0 ≤ p1.toInt ∧ p1.toInt ≤ 300 ∧ 0 ≤ p2.toInt ∧ p2.toInt ≤ 300) : zk (F_X4_nameIn p1 p2 S0) (fun v S9 => S0 = S9 ∧ True) := by
  have l0 : (0 : Int32).toInt = 0 := by decide
  have l9 : (9 : Int32).toInt = 9 := by decide
  have l10 : (10 : Int32).toInt = 10 := by decide
  have l11 : (11 : Int32).toInt = 11 := by decide
  have l12 : (12 : Int32).toInt = 12 := by decide
  have l13 : (13 : Int32).toInt = 13 := by decide
  have l14 : (14 : Int32).toInt = 14 := by decide
  have l15 : (15 : Int32).toInt = 15 := by decide
  have l258 : (258 : Int32).toInt = 258 := by decide
  have l270 : (270 : Int32).toInt = 270 := by decide
  have l271 : (271 : Int32).toInt = 271 := by decide
  have l272 : (272 : Int32).toInt = 272 := by decide
  have l273 : (273 : Int32).toInt = 273 := by decide
  have l274 : (274 : Int32).toInt = 274 := by decide
  have l275 : (275 : Int32).toInt = 275 := by decide
  have l276 : (276 : Int32).toInt = 276 := by decide
  unfold F_X4_nameIn
  refine zk_bd (s_F_X4_spells _ _ _ _ RS0 (by omega) (by omega)) (fun v1 T2 h1 => ?_)
  obtain ⟨rfl, h1⟩ := h1
  have b3 := ti_bd v1
  refine zk_eq (fun c4 => ?_) (fun c4 => ?_)
  ·
    refine zk_bd (s_F_X4_spells _ _ _ _ RS0 (by omega) (by omega)) (fun v5 T6 h5 => ?_)
    obtain ⟨rfl, h5⟩ := h5
    have b7 := ti_bd v5
    refine zk_eq (fun c8 => ?_) (fun c8 => ?_)
    ·
      refine zk_bd (s_F_X4_spells _ _ _ _ RS0 (by omega) (by omega)) (fun v9 T10 h9 => ?_)
      obtain ⟨rfl, h9⟩ := h9
      have b11 := ti_bd v9
      refine zk_eq (fun c12 => ?_) (fun c12 => ?_)
      ·
        refine zk_bd (s_F_X4_spells _ _ _ _ RS0 (by omega) (by omega)) (fun v13 T14 h13 => ?_)
        obtain ⟨rfl, h13⟩ := h13
        have b15 := ti_bd v13
        refine zk_eq (fun c16 => ?_) (fun c16 => ?_)
        ·
          refine zk_bd (s_F_X4_spells _ _ _ _ RS0 (by omega) (by omega)) (fun v17 T18 h17 => ?_)
          obtain ⟨rfl, h17⟩ := h17
          have b19 := ti_bd v17
          refine zk_eq (fun c20 => ?_) (fun c20 => ?_)
          ·
            refine zk_bd (s_F_X4_spells _ _ _ _ RS0 (by omega) (by omega)) (fun v21 T22 h21 => ?_)
            obtain ⟨rfl, h21⟩ := h21
            have b23 := ti_bd v21
            refine zk_eq (fun c24 => ?_) (fun c24 => ?_)
            ·
              refine zk_bd (s_F_X4_spells _ _ _ _ RS0 (by omega) (by omega)) (fun v25 T26 h25 => ?_)
              obtain ⟨rfl, h25⟩ := h25
              have b27 := ti_bd v25
              refine zk_eq (fun c28 => ?_) (fun c28 => ?_)
              ·
                exact zk_some ⟨rfl, trivial⟩
              ·
                exact zk_some ⟨rfl, trivial⟩
            ·
              exact zk_some ⟨rfl, trivial⟩
          ·
            exact zk_some ⟨rfl, trivial⟩
        ·
          exact zk_some ⟨rfl, trivial⟩
      ·
        exact zk_some ⟨rfl, trivial⟩
    ·
      exact zk_some ⟨rfl, trivial⟩
  ·
    exact zk_some ⟨rfl, trivial⟩
theorem s_F_X4_wordIn (p1 : Int32) (p2 : Int32) (S0 : fS) (RS0 : RI S0) (hp : 0 ≤ p1.toInt ∧ p1.toInt ≤ 300 ∧ 0 ≤ p2.toInt ∧ p2.toInt ≤ 300) : zk (F_X4_wordIn p1 p2 S0) (fun v S9 => S0 = S9 ∧ True) := by
  have l0 : (0 : Int32).toInt = 0 := by decide
  have l1 : (1 : Int32).toInt = 1 := by decide
  have l2 : (2 : Int32).toInt = 2 := by decide
  have l3 : (3 : Int32).toInt = 3 := by decide
  have l4 : (4 : Int32).toInt = 4 := by decide
  have l5 : (5 : Int32).toInt = 5 := by decide
  have l6 : (6 : Int32).toInt = 6 := by decide
  have l7 : (7 : Int32).toInt = 7 := by decide
  have l8 : (8 : Int32).toInt = 8 := by decide
  have l260 : (260 : Int32).toInt = 260 := by decide
  have l261 : (261 : Int32).toInt = 261 := by decide
  have l262 : (262 : Int32).toInt = 262 := by decide
  have l263 : (263 : Int32).toInt = 263 := by decide
  have l264 : (264 : Int32).toInt = 264 := by decide
  have l265 : (265 : Int32).toInt = 265 := by decide
  have l266 : (266 : Int32).toInt = 266 := by decide
  have l267 : (267 : Int32).toInt = 267 := by decide
  have l268 : (268 : Int32).toInt = 268 := by decide
  unfold F_X4_wordIn
  refine zk_bd (s_F_X4_spells _ _ _ _ RS0 (by omega) (by omega)) (fun v1 T2 h1 => ?_)
  obtain ⟨rfl, h1⟩ := h1
  have b3 := ti_bd v1
  refine zk_eq (fun c4 => ?_) (fun c4 => ?_)
  ·
    refine zk_bd (s_F_X4_spells _ _ _ _ RS0 (by omega) (by omega)) (fun v5 T6 h5 => ?_)
    obtain ⟨rfl, h5⟩ := h5
    have b7 := ti_bd v5
    refine zk_eq (fun c8 => ?_) (fun c8 => ?_)
    ·
      refine zk_bd (s_F_X4_spells _ _ _ _ RS0 (by omega) (by omega)) (fun v9 T10 h9 => ?_)
      obtain ⟨rfl, h9⟩ := h9
      have b11 := ti_bd v9
      refine zk_eq (fun c12 => ?_) (fun c12 => ?_)
      ·
        refine zk_bd (s_F_X4_spells _ _ _ _ RS0 (by omega) (by omega)) (fun v13 T14 h13 => ?_)
        obtain ⟨rfl, h13⟩ := h13
        have b15 := ti_bd v13
        refine zk_eq (fun c16 => ?_) (fun c16 => ?_)
        ·
          refine zk_bd (s_F_X4_spells _ _ _ _ RS0 (by omega) (by omega)) (fun v17 T18 h17 => ?_)
          obtain ⟨rfl, h17⟩ := h17
          have b19 := ti_bd v17
          refine zk_eq (fun c20 => ?_) (fun c20 => ?_)
          ·
            refine zk_bd (s_F_X4_spells _ _ _ _ RS0 (by omega) (by omega)) (fun v21 T22 h21 => ?_)
            obtain ⟨rfl, h21⟩ := h21
            have b23 := ti_bd v21
            refine zk_eq (fun c24 => ?_) (fun c24 => ?_)
            ·
              refine zk_bd (s_F_X4_spells _ _ _ _ RS0 (by omega) (by omega)) (fun v25 T26 h25 => ?_)
              obtain ⟨rfl, h25⟩ := h25
              have b27 := ti_bd v25
              refine zk_eq (fun c28 => ?_) (fun c28 => ?_)
              ·
                refine zk_bd (s_F_X4_spells _ _ _ _ RS0 (by omega) (by omega)) (fun v29 T30 h29 => ?_)
                obtain ⟨rfl, h29⟩ := h29
                have b31 := ti_bd v29
                refine zk_eq (fun c32 => ?_) (fun c32 => ?_)
                ·
                  refine zk_bd (s_F_X4_spells _ _ _ _ RS0 (by omega) (by omega)) (fun v33 T34 h33 => ?_)
                  obtain ⟨rfl, h33⟩ := h33
                  have b35 := ti_bd v33
                  refine zk_eq (fun c36 => ?_) (fun c36 => ?_)
                  ·
                    refine zk_bd (s_F_X4_nameIn _ _ _ RS0 (by omega)) (fun v37 T38 h37 => ?_)
                    obtain ⟨rfl, h37⟩ := h37
                    exact zk_some ⟨rfl, trivial⟩
                  ·
                    exact zk_some ⟨rfl, trivial⟩
                ·
                  exact zk_some ⟨rfl, trivial⟩
              ·
                exact zk_some ⟨rfl, trivial⟩
            ·
              exact zk_some ⟨rfl, trivial⟩
          ·
            exact zk_some ⟨rfl, trivial⟩
        ·
          exact zk_some ⟨rfl, trivial⟩
      ·
        exact zk_some ⟨rfl, trivial⟩
    ·
      exact zk_some ⟨rfl, trivial⟩
  ·
    exact zk_some ⟨rfl, trivial⟩
theorem s_F_X4_addToken (p2 : Int32) (S0 : fS) (RS0 : RI S0) (hp : 0 ≤ p2.toInt ∧ p2.toInt < 300) : zk (F_X4_addToken p2 S0) (fun v S9 => RI S9 ∧ Fr 1 S0 S9 ∧ 0 ≤ v.toInt ∧ v.toInt ≤ 300) := by
  have l0 : (0 : Int32).toInt = 0 := by decide
  have l1 : (1 : Int32).toInt = 1 := by decide
  have l32 : (32 : Int32).toInt = 32 := by decide
  have l48 : (48 : Int32).toInt = 48 := by decide
  have l57 : (57 : Int32).toInt = 57 := by decide
  have l97 : (97 : Int32).toInt = 97 := by decide
  have l122 : (122 : Int32).toInt = 122 := by decide
  have l257 : (257 : Int32).toInt = 257 := by decide
  have FS0 : Fr 1 S0 S0 := Fr.rf
  unfold F_X4_addToken
  refine zk_gd ⟨by omega, by omega⟩ ?_
  refine zk_iv fun x1 e1 => ?_
  have b2 := ti_bd x1
  refine zk_eq (fun c3 => ?_) (fun c3 => ?_)
  ·
    refine zk_iv fun x4 e4 => ?_
    have gx4 : x4.toInt = p2.toInt + (1 : Int32).toInt := by rw [e4]; exact ti_add (by omega) (by omega)
    exact zk_some ⟨RS0, FS0, by omega⟩
  ·
    refine zk_bd (s_F_X6_within _ _ _ _ RS0) (fun v5 T6 h5 => ?_)
    obtain ⟨rfl, h5⟩ := h5
    refine zk_eq (fun c7 => ?_) (fun c7 => ?_)
    ·
      refine zk_bd (s_F_X6_within _ _ _ _ RS0) (fun v8 T9 h8 => ?_)
      obtain ⟨rfl, h8⟩ := h8
      refine zk_eq (fun c10 => ?_) (fun c10 => ?_)
      ·
        refine zk_bd (s_F_X4_keepToken _ _ _ _ RS0) (fun v11 T12 h11 => ?_)
        obtain ⟨RT12, fT12, h11⟩ := h11
        have FT12 := FS0.tr (fT12.sub (m := 1) (by decide))
        refine zk_iv fun x13 e13 => ?_
        have gx13 : x13.toInt = p2.toInt + (1 : Int32).toInt := by rw [e13]; exact ti_add (by omega) (by omega)
        exact zk_some ⟨RT12, FT12, by omega⟩
      ·
        refine zk_bd (s_F_X4_runEnd _ _ _ _ RS0 (by omega)) (fun v14 T15 h14 => ?_)
        obtain ⟨rfl, h14⟩ := h14
        refine zk_bd (s_F_X4_wordIn _ _ _ RS0 (by omega)) (fun v16 T17 h16 => ?_)
        obtain ⟨rfl, h16⟩ := h16
        refine zk_bd (s_F_X4_keepToken _ _ _ _ RS0) (fun v18 T19 h18 => ?_)
        obtain ⟨RT19, fT19, h18⟩ := h18
        have FT19 := FS0.tr (fT19.sub (m := 1) (by decide))
        exact zk_some ⟨RT19, FT19, by omega⟩
    ·
      refine zk_bd (s_F_X4_runEnd _ _ _ _ RS0 (by omega)) (fun v20 T21 h20 => ?_)
      obtain ⟨rfl, h20⟩ := h20
      refine zk_bd (s_F_X4_numberIn _ _ _ RS0 (by omega)) (fun v22 T23 h22 => ?_)
      obtain ⟨rfl, h22⟩ := h22
      refine zk_bd (s_F_X4_keepToken _ _ _ _ RS0) (fun v24 T25 h24 => ?_)
      obtain ⟨RT25, fT25, h24⟩ := h24
      have FT25 := FS0.tr (fT25.sub (m := 1) (by decide))
      exact zk_some ⟨RT25, FT25, by omega⟩
theorem s_B_X4_begin_55  (z : Int32 × Int32) (S : fS) (RS : RI S) (hi : 0 ≤ z.1.toInt ∧ z.1.toInt ≤ 300 ∧ 0 ≤ z.2.toInt ∧ z.2.toInt ≤ 300) (hm : (300 - z.2.toInt).toNat < 4294967296) : zk (lp (B_X4_begin_55) fuel z S) (fun v S9 => RI S9 ∧ Fr 1 S S9 ∧ True) := by
  have l0 : (0 : Int32).toInt = 0 := by decide
  have l5 : (5 : Int32).toInt = 5 := by decide
  have lo1 : (Int32.ofInt 1).toInt = 1 := by decide
  refine zk_lp (fun z S => RI S ∧ (0 ≤ z.1.toInt ∧ z.1.toInt ≤ 300 ∧ 0 ≤ z.2.toInt ∧ z.2.toInt ≤ 300)) (fun z S => (300 - z.2.toInt).toNat) (fun z S (v : Int32) S9 => RI S9 ∧ Fr 1 S S9 ∧ True) ?_ z S ⟨RS, hi⟩ hm
  clear RS hi hm
  intro k z S hI hk
  obtain ⟨RS, hI⟩ := hI
  obtain ⟨a4, a5⟩ := z
  (try dsimp only at hI); (try dsimp only at hk); (try dsimp only)
  have FS : Fr 1 S S := Fr.rf
  unfold B_X4_begin_55
  dsimp only
  refine zk_iv fun x1 e1 => ?_
  have gx1 : 0 ≤ x1.toInt ∧ x1.toInt ≤ 300 := by rw [e1]; exact RS 17 _ _
  refine zk_le (fun c2 => ?_) (fun c2 => ?_)
  ·
    exact zk_some ⟨RS, FS, trivial⟩
  ·
    refine zk_ivq (x := x1) e1.symm ?_
    refine zk_le (fun c3 => ?_) (fun c3 => ?_)
    ·
      exact zk_some ⟨RS, FS, trivial⟩
    ·
      refine zk_bd (s_F_X4_addToken _ _ RS (by omega)) (fun v4 T5 h4 => ?_)
      obtain ⟨RT5, fT5, h4⟩ := h4
      have FT5 := FS.tr (fT5.sub (m := 1) (by decide))
      refine zk_iv fun x6 e6 => ?_
      have gx6 : x6.toInt = a5.toInt + (Int32.ofInt 1).toInt := by rw [e6]; exact ti_add (by omega) (by omega)
      refine zk_imp (hk (v4, x6) _ ⟨RT5, (by (try dsimp only) <;> omega)⟩ (by (try dsimp only) <;> omega)) (fun v7 T8 h7 => ?_)
      obtain ⟨RT8, FT8, h7⟩ := h7
      exact ⟨RT8, FT5.tr FT8, trivial⟩
theorem s_F_X4_begin (p2 : Int32) (p3 : Int32) (S0 : fS) (RS0 : RI S0) (hp : 0 ≤ p3.toInt ∧ p3.toInt ≤ 1) : zk (F_X4_begin p2 p3 S0) (fun v S9 => RI S9 ∧ Fr 4097 S0 S9 ∧ True) := by
  have lm1 : (-1 : Int32).toInt = -1 := by decide
  have l0 : (0 : Int32).toInt = 0 := by decide
  have l1 : (1 : Int32).toInt = 1 := by decide
  have l3 : (3 : Int32).toInt = 3 := by decide
  have l4 : (4 : Int32).toInt = 4 := by decide
  have l5 : (5 : Int32).toInt = 5 := by decide
  have l7 : (7 : Int32).toInt = 7 := by decide
  have l8 : (8 : Int32).toInt = 8 := by decide
  have l9 : (9 : Int32).toInt = 9 := by decide
  have l10 : (10 : Int32).toInt = 10 := by decide
  have l11 : (11 : Int32).toInt = 11 := by decide
  have l300 : (300 : Int32).toInt = 300 := by decide
  have FS0 : Fr 4097 S0 S0 := Fr.rf
  unfold F_X4_begin
  refine zk_iv fun x1 e1 => ?_
  have gx1 := zi_min e1
  refine zk_iv fun x2 e2 => ?_
  have gx2 := zi_max e2
  refine zk_sv fun S3 E3 => ?_
  have RS3 : RI S3 := by rw [E3]; exact RS0.wr (show (0 : Int) ≤ x2.toInt by omega) (show x2.toInt ≤ 300 by omega)
  have FS3 : Fr 4097 S0 S3 := by rw [E3]; exact FS0.wr (k := 0) rfl rfl
  refine zk_gd (z01 (by omega)) ?_
  refine zk_sv fun S4 E4 => ?_
  have RS4 : RI S4 := by rw [E4]; exact RS3.wf rfl
  have FS4 : Fr 4097 S0 S4 := by rw [E4]; exact FS3.wr (k := 0) rfl rfl
  refine zk_sv fun S5 E5 => ?_
  have RS5 : RI S5 := by rw [E5]; exact RS4.wr (show (0 : Int) ≤ (0 : Int32).toInt by omega) (show (0 : Int32).toInt ≤ 300 by omega)
  have FS5 : Fr 4097 S0 S5 := by rw [E5]; exact FS4.wr (k := 0) rfl rfl
  refine zk_sv fun S6 E6 => ?_
  have RS6 : RI S6 := by rw [E6]; exact RS5.wf rfl
  have FS6 : Fr 4097 S0 S6 := by rw [E6]; exact FS5.wr (k := 0) rfl rfl
  refine zk_sv fun S7 E7 => ?_
  have RS7 : RI S7 := by rw [E7]; exact RS6.wr (show (0 : Int) ≤ (0 : Int32).toInt by omega) (show (0 : Int32).toInt ≤ 300 by omega)
  have FS7 : Fr 4097 S0 S7 := by rw [E7]; exact FS6.wr (k := 0) rfl rfl
  refine zk_sv fun S8 E8 => ?_
  have RS8 : RI S8 := by rw [E8]; exact RS7.wr (show (0 : Int) ≤ (0 : Int32).toInt by omega) (show (0 : Int32).toInt ≤ 6 by omega)
  have FS8 : Fr 4097 S0 S8 := by rw [E8]; exact FS7.wr (k := 12) rfl rfl
  refine zk_sv fun S9 E9 => ?_
  have RS9 : RI S9 := by rw [E9]; exact RS8.wf rfl
  have FS9 : Fr 4097 S0 S9 := by rw [E9]; exact FS8.wr (k := 0) rfl rfl
  refine zk_sv fun S10 E10 => ?_
  have RS10 : RI S10 := by rw [E10]; exact RS9.wf rfl
  have FS10 : Fr 4097 S0 S10 := by rw [E10]; exact FS9.wr (k := 0) rfl rfl
  refine zk_imp (s_B_X4_begin_55 _ _ RS10 (by (try dsimp only) <;> omega) (by (try dsimp only) <;> omega)) (fun v11 T12 h11 => ?_)
  obtain ⟨RT12, fT12, h11⟩ := h11
  have FT12 := FS10.tr (fT12.sub (m := 4097) (by decide))
  exact ⟨RT12, FT12, trivial⟩
theorem s_B_X4_readProgram_9  (z : Int32) (S : fS) (RS : RI S) (hi : 0 ≤ z.toInt ∧ z.toInt ≤ 301) (hm : (301 - z.toInt).toNat < 4294967296) : zk (lp (B_X4_readProgram_9) fuel z S) (fun v S9 => RI S9 ∧ Fr 4097 S S9 ∧ True) := by
  have l0 : (0 : Int32).toInt = 0 := by decide
  have l1 : (1 : Int32).toInt = 1 := by decide
  have l256 : (256 : Int32).toInt = 256 := by decide
  have l300 : (300 : Int32).toInt = 300 := by decide
  have lo1 : (Int32.ofInt 1).toInt = 1 := by decide
  refine zk_lp (fun z S => RI S ∧ (0 ≤ z.toInt ∧ z.toInt ≤ 301)) (fun z S => (301 - z.toInt).toNat) (fun z S (v : Int32) S9 => RI S9 ∧ Fr 4097 S S9 ∧ True) ?_ z S ⟨RS, hi⟩ hm
  clear RS hi hm
  intro k a3 S hI hk
  obtain ⟨RS, hI⟩ := hI
  have FS : Fr 4097 S S := Fr.rf
  unfold B_X4_readProgram_9
  refine zk_lt (fun c1 => ?_) (fun c1 => ?_)
  ·
    exact zk_some ⟨RS, FS, trivial⟩
  ·
    refine zk_bd (s_F_X4_here _ RS) (fun v2 T3 h2 => ?_)
    obtain ⟨rfl, h2⟩ := h2
    have b4 := ti_bd v2
    refine zk_eq (fun c5 => ?_) (fun c5 => ?_)
    ·
      exact zk_some ⟨RS, FS, trivial⟩
    ·
      refine zk_bd (s_F_X4_clause _ _ RS) (fun v6 T7 h6 => ?_)
      obtain ⟨RT7, fT7, h6⟩ := h6
      have FT7 := FS.tr (fT7.sub (m := 4097) (by decide))
      have b8 := ti_bd v6
      refine zk_eq (fun c9 => ?_) (fun c9 => ?_)
      ·
        exact zk_some ⟨RT7, FT7, trivial⟩
      ·
        refine zk_iv fun x10 e10 => ?_
        have gx10 : x10.toInt = a3.toInt + (Int32.ofInt 1).toInt := by rw [e10]; exact ti_add (by omega) (by omega)
        refine zk_imp (hk x10 _ ⟨RT7, (by omega)⟩ (by omega)) (fun v11 T12 h11 => ?_)
        obtain ⟨RT12, FT12, h11⟩ := h11
        exact ⟨RT12, FT7.tr FT12, trivial⟩
theorem s_F_X4_readProgram (p2 : Int32) (S0 : fS) (RS0 : RI S0) : zk (F_X4_readProgram p2 S0) (fun v S9 => RI S9 ∧ Fr 4097 S0 S9 ∧ True) := by
  have l0 : (0 : Int32).toInt = 0 := by decide
  have FS0 : Fr 4097 S0 S0 := Fr.rf
  unfold F_X4_readProgram
  refine zk_bd (s_F_X4_begin _ _ _ RS0 (by omega)) (fun v1 T2 h1 => ?_)
  obtain ⟨RT2, fT2, h1⟩ := h1
  have FT2 := FS0.tr (fT2.sub (m := 4097) (by decide))
  refine zk_imp (s_B_X4_readProgram_9 _ _ RT2 (by omega) (by omega)) (fun v3 T4 h3 => ?_)
  obtain ⟨RT4, fT4, h3⟩ := h3
  have FT4 := FT2.tr (fT4.sub (m := 4097) (by decide))
  exact ⟨RT4, FT4, trivial⟩
theorem s_F_X4_readLaw (p2 : Int32) (S0 : fS) (RS0 : RI S0) : zk (F_X4_readLaw p2 S0) (fun v S9 => RI S9 ∧ Fr 4097 S0 S9 ∧ True) := by
  have l0 : (0 : Int32).toInt = 0 := by decide
  have l1 : (1 : Int32).toInt = 1 := by decide
  have l59 : (59 : Int32).toInt = 59 := by decide
  have l256 : (256 : Int32).toInt = 256 := by decide
  have FS0 : Fr 4097 S0 S0 := Fr.rf
  unfold F_X4_readLaw
  refine zk_bd (s_F_X4_begin _ _ _ RS0 (by omega)) (fun v1 T2 h1 => ?_)
  obtain ⟨RT2, fT2, h1⟩ := h1
  have FT2 := FS0.tr (fT2.sub (m := 4097) (by decide))
  refine zk_bd (s_F_X4_condition _ RT2) (fun v3 T4 h3 => ?_)
  obtain ⟨RT4, fT4, h3⟩ := h3
  have FT4 := FT2.tr (fT4.sub (m := 4097) (by decide))
  refine zk_eq (fun c5 => ?_) (fun c5 => ?_)
  ·
    exact zk_some ⟨RT4, FT4, trivial⟩
  ·
    refine zk_bd (s_F_X4_passed _ _ RT4) (fun v6 T7 h6 => ?_)
    obtain ⟨RT7, fT7, h6⟩ := h6
    have FT7 := FT4.tr (fT7.sub (m := 4097) (by decide))
    refine zk_eq (fun c8 => ?_) (fun c8 => ?_)
    ·
      refine zk_bd (s_F_X4_fail _ _ RT7) (fun v9 T10 h9 => ?_)
      obtain ⟨RT10, fT10, h9⟩ := h9
      have FT10 := FT7.tr (fT10.sub (m := 4097) (by decide))
      refine zk_gd (z01 (by omega)) ?_
      exact zk_some ⟨RT10, FT10, trivial⟩
    ·
      refine zk_bd (s_F_X4_here _ RT7) (fun v11 T12 h11 => ?_)
      obtain ⟨rfl, h11⟩ := h11
      have b13 := ti_bd v11
      refine zk_eq (fun c14 => ?_) (fun c14 => ?_)
      ·
        unfold B_X4_readLaw_49
        exact zk_some ⟨RT7, FT7, trivial⟩
      ·
        refine zk_bd (s_F_X4_fail _ _ RT7) (fun v15 T16 h15 => ?_)
        obtain ⟨RT16, fT16, h15⟩ := h15
        have FT16 := FT7.tr (fT16.sub (m := 4097) (by decide))
        refine zk_eq (fun c17 => ?_) (fun c17 => ?_)
        ·
          exact zk_some ⟨RT16, FT16, trivial⟩
        ·
          exact False.elim (by omega)
theorem s_B_fill10_5 (r0 : Nat) (z : Int32 × Int32 × Int32) (S : fS) (RS : RI S) (hi : 0 ≤ z.2.1.toInt ∧ z.2.1.toInt ≤ 64 ∧ z.2.2.toInt = 64) (hm : (64 - z.2.1.toInt).toNat < 4294967296) : zk (lp (B_fill10_5 r0) fuel z S) (fun v S9 => RI S9 ∧ Fr 1 S S9 ∧ True) := by
  have l0 : (0 : Int32).toInt = 0 := by decide
  have lo1 : (Int32.ofInt 1).toInt = 1 := by decide
  refine zk_lp (fun z S => RI S ∧ (0 ≤ z.2.1.toInt ∧ z.2.1.toInt ≤ 64 ∧ z.2.2.toInt = 64)) (fun z S => (64 - z.2.1.toInt).toNat) (fun z S (v : Int32) S9 => RI S9 ∧ Fr 1 S S9 ∧ True) ?_ z S ⟨RS, hi⟩ hm
  clear RS hi hm
  intro k z S hI hk
  obtain ⟨RS, hI⟩ := hI
  obtain ⟨a1, a2, a3⟩ := z
  (try dsimp only at hI); (try dsimp only at hk); (try dsimp only)
  have FS : Fr 1 S S := Fr.rf
  unfold B_fill10_5
  dsimp only
  refine zk_le (fun c1 => ?_) (fun c1 => ?_)
  ·
    exact zk_some ⟨RS, FS, trivial⟩
  ·
    refine zk_gd ⟨by omega, by omega⟩ ?_
    refine zk_sv fun S2 E2 => ?_
    have RS2 : RI S2 := by rw [E2]; exact RS.wf rfl
    have FS2 : Fr 1 S S2 := by rw [E2]; exact FS.wr (k := 0) rfl rfl
    refine zk_iv fun x3 e3 => ?_
    have gx3 : x3.toInt = a2.toInt + (Int32.ofInt 1).toInt := by rw [e3]; exact ti_add (by omega) (by omega)
    refine zk_imp (hk (a1, x3, a3) _ ⟨RS2, (by (try dsimp only) <;> omega)⟩ (by (try dsimp only) <;> omega)) (fun v4 T5 h4 => ?_)
    obtain ⟨RT5, FT5, h4⟩ := h4
    exact ⟨RT5, FS2.tr FT5, trivial⟩
theorem s_F_fill10 (r0 : Nat) (p1 : Int32) (S0 : fS) (RS0 : RI S0) : zk (F_fill10 r0 p1 S0) (fun v S9 => RI S9 ∧ Fr 1 S0 S9 ∧ True) := by
  have l0 : (0 : Int32).toInt = 0 := by decide
  have l64 : (64 : Int32).toInt = 64 := by decide
  have FS0 : Fr 1 S0 S0 := Fr.rf
  unfold F_fill10
  refine zk_imp (s_B_fill10_5 r0 _ _ RS0 (by (try dsimp only) <;> omega) (by (try dsimp only) <;> omega)) (fun v1 T2 h1 => ?_)
  obtain ⟨RT2, fT2, h1⟩ := h1
  have FT2 := FS0.tr (fT2.sub (m := 1) (by decide))
  exact ⟨RT2, FT2, trivial⟩
theorem s_B_fill24_5  (z : Int32 × Int32 × Int32) (S : fS) (RS : RI S) (hi : 0 ≤ z.2.1.toInt ∧ z.2.1.toInt ≤ 3 ∧ z.2.2.toInt = 3) (hm : (3 - z.2.1.toInt).toNat < 4294967296) : zk (lp (B_fill24_5) fuel z S) (fun v S9 => RI S9 ∧ Fr 1 S S9 ∧ True) := by
  have l0 : (0 : Int32).toInt = 0 := by decide
  have lo1 : (Int32.ofInt 1).toInt = 1 := by decide
  refine zk_lp (fun z S => RI S ∧ (0 ≤ z.2.1.toInt ∧ z.2.1.toInt ≤ 3 ∧ z.2.2.toInt = 3)) (fun z S => (3 - z.2.1.toInt).toNat) (fun z S (v : Int32) S9 => RI S9 ∧ Fr 1 S S9 ∧ True) ?_ z S ⟨RS, hi⟩ hm
  clear RS hi hm
  intro k z S hI hk
  obtain ⟨RS, hI⟩ := hI
  obtain ⟨a1, a2, a3⟩ := z
  (try dsimp only at hI); (try dsimp only at hk); (try dsimp only)
  have FS : Fr 1 S S := Fr.rf
  unfold B_fill24_5
  dsimp only
  refine zk_le (fun c1 => ?_) (fun c1 => ?_)
  ·
    exact zk_some ⟨RS, FS, trivial⟩
  ·
    refine zk_gd ⟨by omega, by omega⟩ ?_
    refine zk_sv fun S2 E2 => ?_
    have RS2 : RI S2 := by rw [E2]; exact RS.wf rfl
    have FS2 : Fr 1 S S2 := by rw [E2]; exact FS.wr (k := 0) rfl rfl
    refine zk_iv fun x3 e3 => ?_
    have gx3 : x3.toInt = a2.toInt + (Int32.ofInt 1).toInt := by rw [e3]; exact ti_add (by omega) (by omega)
    refine zk_imp (hk (a1, x3, a3) _ ⟨RS2, (by (try dsimp only) <;> omega)⟩ (by (try dsimp only) <;> omega)) (fun v4 T5 h4 => ?_)
    obtain ⟨RT5, FT5, h4⟩ := h4
    exact ⟨RT5, FS2.tr FT5, trivial⟩
theorem s_F_fill24 (p1 : Int32) (S0 : fS) (RS0 : RI S0) : zk (F_fill24 p1 S0) (fun v S9 => RI S9 ∧ Fr 1 S0 S9 ∧ True) := by
  have l0 : (0 : Int32).toInt = 0 := by decide
  have l3 : (3 : Int32).toInt = 3 := by decide
  have FS0 : Fr 1 S0 S0 := Fr.rf
  unfold F_fill24
  refine zk_imp (s_B_fill24_5 _ _ RS0 (by (try dsimp only) <;> omega) (by (try dsimp only) <;> omega)) (fun v1 T2 h1 => ?_)
  obtain ⟨RT2, fT2, h1⟩ := h1
  have FT2 := FS0.tr (fT2.sub (m := 1) (by decide))
  exact ⟨RT2, FT2, trivial⟩
theorem s_B_X2_layAgain_12 (r0 : Nat) (z : Int32 × Int32 × Int32) (S : fS) (RS : RI S) (hi : 0 ≤ z.2.2.toInt ∧ z.2.2.toInt ≤ 24) (hm : (24 - z.2.2.toInt).toNat < 4294967296) : zk (lp (B_X2_layAgain_12 r0) fuel z S) (fun v S9 => RI S9 ∧ Fr 1 S S9 ∧ True) := by
  have lm1 : (-1 : Int32).toInt = -1 := by decide
  have l0 : (0 : Int32).toInt = 0 := by decide
  have l1 : (1 : Int32).toInt = 1 := by decide
  have lo1 : (Int32.ofInt 1).toInt = 1 := by decide
  refine zk_lp (fun z S => RI S ∧ (0 ≤ z.2.2.toInt ∧ z.2.2.toInt ≤ 24)) (fun z S => (24 - z.2.2.toInt).toNat) (fun z S (v : Int32) S9 => RI S9 ∧ Fr 1 S S9 ∧ True) ?_ z S ⟨RS, hi⟩ hm
  clear RS hi hm
  intro k z S hI hk
  obtain ⟨RS, hI⟩ := hI
  obtain ⟨a1, a2, a3⟩ := z
  (try dsimp only at hI); (try dsimp only at hk); (try dsimp only)
  have FS : Fr 1 S S := Fr.rf
  unfold B_X2_layAgain_12
  dsimp only
  refine zk_iv fun x1 e1 => ?_
  have gx1 : 0 ≤ x1.toInt ∧ x1.toInt ≤ 24 := by rw [e1]; exact RS 2 _ _
  refine zk_le (fun c2 => ?_) (fun c2 => ?_)
  ·
    exact zk_some ⟨RS, FS, trivial⟩
  ·
    refine zk_gd ⟨by omega, by omega⟩ ?_
    refine zk_iv fun x3 e3 => ?_
    refine zk_gd ⟨by omega, by omega⟩ ?_
    refine zk_iv fun x4 e4 => ?_
    have b5 := ti_bd x4
    have b6 := ti_bd a1
    refine zk_eq (fun c7 => ?_) (fun c7 => ?_)
    ·
      refine zk_gd ⟨by omega, by omega⟩ ?_
      refine zk_sv fun S8 E8 => ?_
      have RS8 : RI S8 := by rw [E8]; exact RS.wf rfl
      have FS8 : Fr 1 S S8 := by rw [E8]; exact FS.wr (k := 0) rfl rfl
      refine zk_gd ⟨by omega, by omega⟩ ?_
      refine zk_sv fun S9 E9 => ?_
      have RS9 : RI S9 := by rw [E9]; exact RS8.wf rfl
      have FS9 : Fr 1 S S9 := by rw [E9]; exact FS8.wr (k := 0) rfl rfl
      unfold B_X2_layAgain_66
      refine zk_gd ⟨by omega, by omega⟩ ?_
      refine zk_ivq (x := (-1)) (by rw [E9]; exact (ge_pua (by decide)).trans (by rw [E8]; exact ge_pus)) ?_
      have b10 := ti_bd x3
      refine zk_eq (fun c11 => ?_) (fun c11 => ?_)
      ·
        unfold B_X2_layAgain_83
        refine zk_iv fun x12 e12 => ?_
        have b13 := ti_bd a2
        have gx12 : x12.toInt = a2.toInt + (0 : Int32).toInt := by rw [e12]; exact ti_add (by omega) (by omega)
        refine zk_iv fun x14 e14 => ?_
        have gx14 : x14.toInt = a3.toInt + (Int32.ofInt 1).toInt := by rw [e14]; exact ti_add (by omega) (by omega)
        refine zk_imp (hk (a1, x12, x14) _ ⟨RS9, (by (try dsimp only) <;> omega)⟩ (by (try dsimp only) <;> omega)) (fun v15 T16 h15 => ?_)
        obtain ⟨RT16, FT16, h15⟩ := h15
        exact ⟨RT16, FS9.tr FT16, trivial⟩
      ·
        unfold B_X2_layAgain_83
        refine zk_iv fun x17 e17 => ?_
        refine zk_iv fun x18 e18 => ?_
        have gx18 : x18.toInt = a3.toInt + (Int32.ofInt 1).toInt := by rw [e18]; exact ti_add (by omega) (by omega)
        refine zk_imp (hk (a1, x17, x18) _ ⟨RS9, (by (try dsimp only) <;> omega)⟩ (by (try dsimp only) <;> omega)) (fun v19 T20 h19 => ?_)
        obtain ⟨RT20, FT20, h19⟩ := h19
        exact ⟨RT20, FS9.tr FT20, trivial⟩
    ·
      refine zk_gd ⟨by omega, by omega⟩ ?_
      refine zk_ivq (x := x4) e4.symm ?_
      refine zk_bd (s_F_X2_put _ _ _ _ RS) (fun v21 T22 h21 => ?_)
      obtain ⟨RT22, fT22, h21⟩ := h21
      have FT22 := FS.tr (fT22.sub (m := 1) (by decide))
      unfold B_X2_layAgain_66
      refine zk_gd ⟨by omega, by omega⟩ ?_
      refine zk_iv fun x23 e23 => ?_
      have b24 := ti_bd x23
      have b25 := ti_bd x3
      refine zk_eq (fun c26 => ?_) (fun c26 => ?_)
      ·
        unfold B_X2_layAgain_83
        refine zk_iv fun x27 e27 => ?_
        have b28 := ti_bd a2
        have gx27 : x27.toInt = a2.toInt + (0 : Int32).toInt := by rw [e27]; exact ti_add (by omega) (by omega)
        refine zk_iv fun x29 e29 => ?_
        have gx29 : x29.toInt = a3.toInt + (Int32.ofInt 1).toInt := by rw [e29]; exact ti_add (by omega) (by omega)
        refine zk_imp (hk (a1, x27, x29) _ ⟨RT22, (by (try dsimp only) <;> omega)⟩ (by (try dsimp only) <;> omega)) (fun v30 T31 h30 => ?_)
        obtain ⟨RT31, FT31, h30⟩ := h30
        exact ⟨RT31, FT22.tr FT31, trivial⟩
      ·
        unfold B_X2_layAgain_83
        refine zk_iv fun x32 e32 => ?_
        refine zk_iv fun x33 e33 => ?_
        have gx33 : x33.toInt = a3.toInt + (Int32.ofInt 1).toInt := by rw [e33]; exact ti_add (by omega) (by omega)
        refine zk_imp (hk (a1, x32, x33) _ ⟨RT22, (by (try dsimp only) <;> omega)⟩ (by (try dsimp only) <;> omega)) (fun v34 T35 h34 => ?_)
        obtain ⟨RT35, FT35, h34⟩ := h34
        exact ⟨RT35, FT22.tr FT35, trivial⟩
theorem s_F_X2_layAgain (r0 : Nat) (p1 : Int32) (S0 : fS) (RS0 : RI S0) : zk (F_X2_layAgain r0 p1 S0) (fun v S9 => RI S9 ∧ Fr 1 S0 S9 ∧ True) := by
  have lm1 : (-1 : Int32).toInt = -1 := by decide
  have l0 : (0 : Int32).toInt = 0 := by decide
  have FS0 : Fr 1 S0 S0 := Fr.rf
  unfold F_X2_layAgain
  refine zk_bd (s_F_fill10 _ _ _ RS0) (fun v1 T2 h1 => ?_)
  obtain ⟨RT2, fT2, h1⟩ := h1
  have FT2 := FS0.tr (fT2.sub (m := 1) (by decide))
  refine zk_imp (s_B_X2_layAgain_12 r0 _ _ RT2 (by (try dsimp only) <;> omega) (by (try dsimp only) <;> omega)) (fun v3 T4 h3 => ?_)
  obtain ⟨RT4, fT4, h3⟩ := h3
  have FT4 := FT2.tr (fT4.sub (m := 1) (by decide))
  exact ⟨RT4, FT4, trivial⟩
theorem s_F_X2_copyFrom (r0 : Nat) (r1 : Nat) (S0 : fS) (RS0 : RI S0) : zk (F_X2_copyFrom r0 r1 S0) (fun v S9 => RI S9 ∧ Fr 1 S0 S9 ∧ True) := by
  have l0 : (0 : Int32).toInt = 0 := by decide
  have FS0 : Fr 1 S0 S0 := Fr.rf
  unfold F_X2_copyFrom
  refine zk_iv fun x1 e1 => ?_
  have gx1 : 0 ≤ x1.toInt ∧ x1.toInt ≤ 24 := by rw [e1]; exact RS0 2 _ _
  refine zk_sv fun S2 E2 => ?_
  have RS2 : RI S2 := by rw [E2]; exact RS0.wr (show (0 : Int) ≤ x1.toInt by omega) (show x1.toInt ≤ 24 by omega)
  have FS2 : Fr 1 S0 S2 := by rw [E2]; exact FS0.wr (k := 0) rfl rfl
  refine zk_sv fun S3 E3 => ?_
  have RS3 : RI S3 := by rw [E3]; exact RS2.wb
  have FS3 : Fr 1 S0 S3 := by rw [E3]; exact FS2.wb (k := 0) (fun _ => rfl) rfl
  refine zk_sv fun S4 E4 => ?_
  have RS4 : RI S4 := by rw [E4]; exact RS3.wb
  have FS4 : Fr 1 S0 S4 := by rw [E4]; exact FS3.wb (k := 0) (fun _ => rfl) rfl
  refine zk_sv fun S5 E5 => ?_
  have RS5 : RI S5 := by rw [E5]; exact RS4.wb
  have FS5 : Fr 1 S0 S5 := by rw [E5]; exact FS4.wb (k := 0) (fun _ => rfl) rfl
  refine zk_sv fun S6 E6 => ?_
  have RS6 : RI S6 := by rw [E6]; exact RS5.wb
  have FS6 : Fr 1 S0 S6 := by rw [E6]; exact FS5.wb (k := 0) (fun _ => rfl) rfl
  refine zk_sv fun S7 E7 => ?_
  have RS7 : RI S7 := by rw [E7]; exact RS6.wb
  have FS7 : Fr 1 S0 S7 := by rw [E7]; exact FS6.wb (k := 0) (fun _ => rfl) rfl
  refine zk_sv fun S8 E8 => ?_
  have RS8 : RI S8 := by rw [E8]; exact RS7.wb
  have FS8 : Fr 1 S0 S8 := by rw [E8]; exact FS7.wb (k := 0) (fun _ => rfl) rfl
  refine zk_sv fun S9 E9 => ?_
  have RS9 : RI S9 := by rw [E9]; exact RS8.wb
  have FS9 : Fr 1 S0 S9 := by rw [E9]; exact FS8.wb (k := 0) (fun _ => rfl) rfl
  refine zk_sv fun S10 E10 => ?_
  have RS10 : RI S10 := by rw [E10]; exact RS9.wb
  have FS10 : Fr 1 S0 S10 := by rw [E10]; exact FS9.wb (k := 0) (fun _ => rfl) rfl
  exact zk_some ⟨RS10, FS10, trivial⟩
