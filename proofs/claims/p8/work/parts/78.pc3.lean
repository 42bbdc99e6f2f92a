/-! the pure part: the class, calls that refuse -/
theorem s_F_X6_need (p0 : Int32) (S0 : fS) (RS0 : RI S0) : zk (F_X6_need p0 S0) (fun v S9 => S0 = S9 ∧ ((v.1 = 0 ∧ ¬ p0.toInt = 0) ∨ v.1 = 1)) := by
  have l0 : (0 : Int32).toInt = 0 := by decide
  have l1 : (1 : Int32).toInt = 1 := by decide
  unfold F_X6_need
  have b1 := ti_bd p0
  refine zk_eq (fun c2 => ?_) (fun c2 => ?_)
  ·
    exact zk_some ⟨rfl, by (try dsimp only) <;> omega⟩
  ·
    exact zk_some ⟨rfl, by (try dsimp only) <;> omega⟩
theorem s_F_X6_needCell (p0 : Int32) (S0 : fS) (RS0 : RI S0) : zk (F_X6_needCell p0 S0) (fun v S9 => S0 = S9 ∧ ((v.1 = 0 ∧ 0 ≤ p0.toInt ∧ p0.toInt ≤ 63) ∨ v.1 = 2)) := by
  have l0 : (0 : Int32).toInt = 0 := by decide
  have l2 : (2 : Int32).toInt = 2 := by decide
  have l63 : (63 : Int32).toInt = 63 := by decide
  unfold F_X6_needCell
  refine zk_bd (s_F_X6_within _ _ _ _ RS0) (fun v1 T2 h1 => ?_)
  obtain ⟨rfl, h1⟩ := h1
  refine zk_eq (fun c3 => ?_) (fun c3 => ?_)
  ·
    exact zk_some ⟨rfl, by (try dsimp only) <;> omega⟩
  ·
    exact zk_some ⟨rfl, by (try dsimp only) <;> omega⟩
theorem s_F_X6_needElement (p0 : Int32) (p1 : Int32) (S0 : fS) (RS0 : RI S0) (hp : 0 ≤ p1.toInt) : zk (F_X6_needElement p0 p1 S0) (fun v S9 => S0 = S9 ∧ ((v.1 = 0 ∧ 0 ≤ p0.toInt ∧ p0.toInt < p1.toInt) ∨ v.1 = 3)) := by
  have l0 : (0 : Int32).toInt = 0 := by decide
  have l1 : (1 : Int32).toInt = 1 := by decide
  have l3 : (3 : Int32).toInt = 3 := by decide
  unfold F_X6_needElement
  refine zk_iv fun x1 e1 => ?_
  have b2 := ti_bd p1
  have gx1 : x1.toInt = p1.toInt - (1 : Int32).toInt := by rw [e1]; exact ti_sub (by omega) (by omega)
  refine zk_bd (s_F_X6_within _ _ _ _ RS0) (fun v3 T4 h3 => ?_)
  obtain ⟨rfl, h3⟩ := h3
  refine zk_eq (fun c5 => ?_) (fun c5 => ?_)
  ·
    exact zk_some ⟨rfl, by (try dsimp only) <;> omega⟩
  ·
    exact zk_some ⟨rfl, by (try dsimp only) <;> omega⟩
theorem s_F_X6_lay (p1 : Int32) (p2 : Int32) (p3 : Int32) (p4 : Int32) (S0 : fS) (RS0 : RI S0) : zk (F_X6_lay p1 p2 p3 p4 S0) (fun v S9 => RI S9 ∧ Fr 1 S0 S9 ∧ (v.1 = 0 ∨ v.1 = 1 ∨ v.1 = 2)) := by
  have l0 : (0 : Int32).toInt = 0 := by decide
  have l1 : (1 : Int32).toInt = 1 := by decide
  have l5 : (5 : Int32).toInt = 5 := by decide
  have l7 : (7 : Int32).toInt = 7 := by decide
  have l99 : (99 : Int32).toInt = 99 := by decide
  have l999 : (999 : Int32).toInt = 999 := by decide
  have FS0 : Fr 1 S0 S0 := Fr.rf
  unfold F_X6_lay
  refine zk_bx (s_F_X6_needCell _ _ RS0) (fun v1 T2 h1 => ?_) (fun z3 v1 T2 h1 => ?_)
  ·
    obtain ⟨rfl, h1⟩ := h1
    try dsimp only at h1
    refine zk_iv fun x4 e4 => ?_
    have b5 := ti_bd x4
    refine zk_eq (fun c6 => ?_) (fun c6 => ?_)
    ·
      unfold B_X6_lay_51
      unfold B_X6_lay_52
      refine zk_bx (s_F_X6_need _ _ RS0) (fun v7 T8 h7 => ?_) (fun z9 v7 T8 h7 => ?_)
      ·
        obtain ⟨rfl, h7⟩ := h7
        try dsimp only at h7
        refine zk_bd (s_F_X2_add _ _ _ _ _ _ RS0) (fun v10 T11 h10 => ?_)
        obtain ⟨RT11, fT11, h10⟩ := h10
        have FT11 := FS0.tr (fT11.sub (m := 1) (by decide))
        exact zk_some ⟨RT11, FT11, by (try dsimp only) <;> omega⟩
      ·
        obtain ⟨rfl, h7⟩ := h7
        try dsimp only at h7
        exact ⟨RS0, FS0, by (try dsimp only) <;> omega⟩
    ·
      refine zk_bd (s_F_X6_within _ _ _ _ RS0) (fun v12 T13 h12 => ?_)
      obtain ⟨rfl, h12⟩ := h12
      refine zk_eq (fun c14 => ?_) (fun c14 => ?_)
      ·
        unfold B_X6_lay_51
        unfold B_X6_lay_52
        refine zk_bx (s_F_X6_need _ _ RS0) (fun v15 T16 h15 => ?_) (fun z17 v15 T16 h15 => ?_)
        ·
          obtain ⟨rfl, h15⟩ := h15
          try dsimp only at h15
          refine zk_bd (s_F_X2_add _ _ _ _ _ _ RS0) (fun v18 T19 h18 => ?_)
          obtain ⟨RT19, fT19, h18⟩ := h18
          have FT19 := FS0.tr (fT19.sub (m := 1) (by decide))
          exact zk_some ⟨RT19, FT19, by (try dsimp only) <;> omega⟩
        ·
          obtain ⟨rfl, h15⟩ := h15
          try dsimp only at h15
          exact ⟨RS0, FS0, by (try dsimp only) <;> omega⟩
      ·
        refine zk_bd (s_F_X6_within _ _ _ _ RS0) (fun v20 T21 h20 => ?_)
        obtain ⟨rfl, h20⟩ := h20
        refine zk_eq (fun c22 => ?_) (fun c22 => ?_)
        ·
          unfold B_X6_lay_51
          unfold B_X6_lay_52
          refine zk_bx (s_F_X6_need _ _ RS0) (fun v23 T24 h23 => ?_) (fun z25 v23 T24 h23 => ?_)
          ·
            obtain ⟨rfl, h23⟩ := h23
            try dsimp only at h23
            refine zk_bd (s_F_X2_add _ _ _ _ _ _ RS0) (fun v26 T27 h26 => ?_)
            obtain ⟨RT27, fT27, h26⟩ := h26
            have FT27 := FS0.tr (fT27.sub (m := 1) (by decide))
            exact zk_some ⟨RT27, FT27, by (try dsimp only) <;> omega⟩
          ·
            obtain ⟨rfl, h23⟩ := h23
            try dsimp only at h23
            exact ⟨RS0, FS0, by (try dsimp only) <;> omega⟩
        ·
          refine zk_bd (s_F_X6_within _ _ _ _ RS0) (fun v28 T29 h28 => ?_)
          obtain ⟨rfl, h28⟩ := h28
          refine zk_eq (fun c30 => ?_) (fun c30 => ?_)
          ·
            unfold B_X6_lay_51
            unfold B_X6_lay_52
            refine zk_bx (s_F_X6_need _ _ RS0) (fun v31 T32 h31 => ?_) (fun z33 v31 T32 h31 => ?_)
            ·
              obtain ⟨rfl, h31⟩ := h31
              try dsimp only at h31
              refine zk_bd (s_F_X2_add _ _ _ _ _ _ RS0) (fun v34 T35 h34 => ?_)
              obtain ⟨RT35, fT35, h34⟩ := h34
              have FT35 := FS0.tr (fT35.sub (m := 1) (by decide))
              exact zk_some ⟨RT35, FT35, by (try dsimp only) <;> omega⟩
            ·
              obtain ⟨rfl, h31⟩ := h31
              try dsimp only at h31
              exact ⟨RS0, FS0, by (try dsimp only) <;> omega⟩
          ·
            unfold B_X6_lay_52
            refine zk_bx (s_F_X6_need _ _ RS0) (fun v36 T37 h36 => ?_) (fun z38 v36 T37 h36 => ?_)
            ·
              obtain ⟨rfl, h36⟩ := h36
              try dsimp only at h36
              refine zk_bd (s_F_X2_add _ _ _ _ _ _ RS0) (fun v39 T40 h39 => ?_)
              obtain ⟨RT40, fT40, h39⟩ := h39
              have FT40 := FS0.tr (fT40.sub (m := 1) (by decide))
              exact zk_some ⟨RT40, FT40, by (try dsimp only) <;> omega⟩
            ·
              obtain ⟨rfl, h36⟩ := h36
              try dsimp only at h36
              exact ⟨RS0, FS0, by (try dsimp only) <;> omega⟩
  ·
    obtain ⟨rfl, h1⟩ := h1
    try dsimp only at h1
    exact ⟨RS0, FS0, by (try dsimp only) <;> omega⟩
theorem s_F_X6_wire (p1 : Int32) (p2 : Int32) (S0 : fS) (RS0 : RI S0) : zk (F_X6_wire p1 p2 S0) (fun v S9 => RI S9 ∧ Fr 1 S0 S9 ∧ (v.1 = 0 ∨ v.1 = 3)) := by
  have l0 : (0 : Int32).toInt = 0 := by decide
  have l1 : (1 : Int32).toInt = 1 := by decide
  have l3 : (3 : Int32).toInt = 3 := by decide
  have FS0 : Fr 1 S0 S0 := Fr.rf
  unfold F_X6_wire
  refine zk_iv fun x1 e1 => ?_
  have gx1 : 0 ≤ x1.toInt ∧ x1.toInt ≤ 24 := by rw [e1]; exact RS0 2 _ _
  refine zk_bx (s_F_X6_needElement _ _ _ RS0 (by omega)) (fun v2 T3 h2 => ?_) (fun z4 v2 T3 h2 => ?_)
  ·
    obtain ⟨rfl, h2⟩ := h2
    try dsimp only at h2
    refine zk_gd ⟨by omega, by omega⟩ ?_
    refine zk_iv fun x5 e5 => ?_
    have b6 := ti_bd x5
    refine zk_eq (fun c7 => ?_) (fun c7 => ?_)
    ·
      unfold B_X6_wire_35
      have b8 := ti_bd p2
      refine zk_eq (fun c9 => ?_) (fun c9 => ?_)
      ·
        unfold B_X6_wire_56
        refine zk_gd ⟨by omega, by omega⟩ ?_
        refine zk_sv fun S10 E10 => ?_
        have RS10 : RI S10 := by rw [E10]; exact RS0.wf rfl
        have FS10 : Fr 1 S0 S10 := by rw [E10]; exact FS0.wr (k := 0) rfl rfl
        refine zk_gd (z01 (by omega)) ?_
        exact zk_some ⟨RS10, FS10, by (try dsimp only) <;> omega⟩
      ·
        unfold B_X6_wire_56
        refine zk_gd ⟨by omega, by omega⟩ ?_
        refine zk_sv fun S11 E11 => ?_
        have RS11 : RI S11 := by rw [E11]; exact RS0.wf rfl
        have FS11 : Fr 1 S0 S11 := by rw [E11]; exact FS0.wr (k := 0) rfl rfl
        refine zk_gd (z01 (by omega)) ?_
        exact zk_some ⟨RS11, FS11, by (try dsimp only) <;> omega⟩
    ·
      unfold B_X6_wire_35
      have b12 := ti_bd p2
      refine zk_eq (fun c13 => ?_) (fun c13 => ?_)
      ·
        unfold B_X6_wire_56
        refine zk_gd ⟨by omega, by omega⟩ ?_
        refine zk_sv fun S14 E14 => ?_
        have RS14 : RI S14 := by rw [E14]; exact RS0.wf rfl
        have FS14 : Fr 1 S0 S14 := by rw [E14]; exact FS0.wr (k := 0) rfl rfl
        refine zk_gd (z01 (by omega)) ?_
        exact zk_some ⟨RS14, FS14, by (try dsimp only) <;> omega⟩
      ·
        unfold B_X6_wire_56
        refine zk_gd ⟨by omega, by omega⟩ ?_
        refine zk_sv fun S15 E15 => ?_
        have RS15 : RI S15 := by rw [E15]; exact RS0.wf rfl
        have FS15 : Fr 1 S0 S15 := by rw [E15]; exact FS0.wr (k := 0) rfl rfl
        refine zk_gd (z01 (by omega)) ?_
        exact zk_some ⟨RS15, FS15, by (try dsimp only) <;> omega⟩
  ·
    obtain ⟨rfl, h2⟩ := h2
    try dsimp only at h2
    exact ⟨RS0, FS0, by (try dsimp only) <;> omega⟩
theorem s_F_X6_key (p1 : Int32) (S0 : fS) (RS0 : RI S0) : zk (F_X6_key p1 S0) (fun v S9 => RI S9 ∧ Fr 1 S0 S9 ∧ (v.1 = 0 ∨ v.1 = 3)) := by
  have lm2 : (-2 : Int32).toInt = -2 := by decide
  have l0 : (0 : Int32).toInt = 0 := by decide
  have l1 : (1 : Int32).toInt = 1 := by decide
  have FS0 : Fr 1 S0 S0 := Fr.rf
  unfold F_X6_key
  refine zk_iv fun x1 e1 => ?_
  have gx1 : 0 ≤ x1.toInt ∧ x1.toInt ≤ 24 := by rw [e1]; exact RS0 2 _ _
  refine zk_bx (s_F_X6_needElement _ _ _ RS0 (by omega)) (fun v2 T3 h2 => ?_) (fun z4 v2 T3 h2 => ?_)
  ·
    obtain ⟨rfl, h2⟩ := h2
    try dsimp only at h2
    refine zk_gd ⟨by omega, by omega⟩ ?_
    refine zk_iv fun x5 e5 => ?_
    have b6 := ti_bd x5
    refine zk_le (fun c7 => ?_) (fun c7 => ?_)
    ·
      refine zk_bd (s_F_X2_takeOut _ _ _ _ RS0) (fun v8 T9 h8 => ?_)
      obtain ⟨RT9, fT9, h8⟩ := h8
      have FT9 := FS0.tr (fT9.sub (m := 1) (by decide))
      exact zk_some ⟨RT9, FT9, by (try dsimp only) <;> omega⟩
    ·
      exact zk_some ⟨RS0, FS0, by (try dsimp only) <;> omega⟩
  ·
    obtain ⟨rfl, h2⟩ := h2
    try dsimp only at h2
    exact ⟨RS0, FS0, by (try dsimp only) <;> omega⟩
theorem s_F_X6_thing (p1 : Int32) (p2 : Int32) (S0 : fS) (RS0 : RI S0) : zk (F_X6_thing p1 p2 S0) (fun v S9 => S0 = S9 ∧ (v.1 = 0 ∨ v.1 = 1 ∨ v.1 = 3)) := by
  have l0 : (0 : Int32).toInt = 0 := by decide
  have l5 : (5 : Int32).toInt = 5 := by decide
  have l15 : (15 : Int32).toInt = 15 := by decide
  have l17 : (17 : Int32).toInt = 17 := by decide
  have l22 : (22 : Int32).toInt = 22 := by decide
  have l25 : (25 : Int32).toInt = 25 := by decide
  have l28 : (28 : Int32).toInt = 28 := by decide
  have l30 : (30 : Int32).toInt = 30 := by decide
  unfold F_X6_thing
  refine zk_iv fun x1 e1 => ?_
  have gx1 : 0 ≤ x1.toInt ∧ x1.toInt ≤ 24 := by rw [e1]; exact RS0 2 _ _
  refine zk_bx (s_F_X6_needElement _ _ _ RS0 (by omega)) (fun v2 T3 h2 => ?_) (fun z4 v2 T3 h2 => ?_)
  ·
    obtain ⟨rfl, h2⟩ := h2
    try dsimp only at h2
    refine zk_bd (s_F_X6_within _ _ _ _ RS0) (fun v5 T6 h5 => ?_)
    obtain ⟨rfl, h5⟩ := h5
    refine zk_bx (s_F_X6_need _ _ RS0) (fun v7 T8 h7 => ?_) (fun z9 v7 T8 h7 => ?_)
    ·
      obtain ⟨rfl, h7⟩ := h7
      try dsimp only at h7
      refine zk_bb (fun c10 => ?_) (fun c10 => ?_)
      ·
        refine zk_gd ⟨by omega, by omega⟩ ?_
        refine zk_iv fun x11 e11 => ?_
        exact zk_some ⟨rfl, by (try dsimp only) <;> omega⟩
      ·
        refine zk_bb (fun c12 => ?_) (fun c12 => ?_)
        ·
          refine zk_bd (s_F_X2_levelOf _ _ _ RS0) (fun v13 T14 h13 => ?_)
          obtain ⟨rfl, h13⟩ := h13
          exact zk_some ⟨rfl, by (try dsimp only) <;> omega⟩
        ·
          refine zk_bb (fun c15 => ?_) (fun c15 => ?_)
          ·
            refine zk_gd ⟨by omega, by omega⟩ ?_
            refine zk_iv fun x16 e16 => ?_
            exact zk_some ⟨rfl, by (try dsimp only) <;> omega⟩
          ·
            refine zk_bb (fun c17 => ?_) (fun c17 => ?_)
            ·
              refine zk_gd ⟨by omega, by omega⟩ ?_
              refine zk_iv fun x18 e18 => ?_
              exact zk_some ⟨rfl, by (try dsimp only) <;> omega⟩
            ·
              refine zk_bb (fun c19 => ?_) (fun c19 => ?_)
              ·
                refine zk_gd ⟨by omega, by omega⟩ ?_
                refine zk_iv fun x20 e20 => ?_
                exact zk_some ⟨rfl, by (try dsimp only) <;> omega⟩
              ·
                refine zk_gd ⟨by omega, by omega⟩ ?_
                refine zk_iv fun x21 e21 => ?_
                exact zk_some ⟨rfl, by (try dsimp only) <;> omega⟩
    ·
      obtain ⟨rfl, h7⟩ := h7
      try dsimp only at h7
      exact ⟨rfl, by (try dsimp only) <;> omega⟩
  ·
    obtain ⟨rfl, h2⟩ := h2
    try dsimp only at h2
    exact ⟨rfl, by (try dsimp only) <;> omega⟩
theorem s_F_X6_top (p1 : Int32) (p2 : Int32) (S0 : fS) (RS0 : RI S0) : zk (F_X6_top p1 p2 S0) (fun v S9 => S0 = S9 ∧ (v.1 = 0 ∨ v.1 = 2)) := by
  have l0 : (0 : Int32).toInt = 0 := by decide
  have l1 : (1 : Int32).toInt = 1 := by decide
  have l6 : (6 : Int32).toInt = 6 := by decide
  have l11 : (11 : Int32).toInt = 11 := by decide
  unfold F_X6_top
  refine zk_bx (s_F_X6_needCell _ _ RS0) (fun v1 T2 h1 => ?_) (fun z3 v1 T2 h1 => ?_)
  ·
    obtain ⟨rfl, h1⟩ := h1
    try dsimp only at h1
    refine zk_gd ⟨by omega, by omega⟩ ?_
    refine zk_iv fun x4 e4 => ?_
    have b5 := ti_bd p2
    refine zk_eq (fun c6 => ?_) (fun c6 => ?_)
    ·
      exact zk_some ⟨rfl, by (try dsimp only) <;> omega⟩
    ·
      refine zk_bd (s_F_X2_levelOf _ _ _ RS0) (fun v7 T8 h7 => ?_)
      obtain ⟨rfl, h7⟩ := h7
      refine zk_iv fun x9 e9 => ?_
      exact zk_some ⟨rfl, by (try dsimp only) <;> omega⟩
  ·
    obtain ⟨rfl, h1⟩ := h1
    try dsimp only at h1
    exact ⟨rfl, by (try dsimp only) <;> omega⟩
theorem s_F_X6_hole (p1 : Int32) (S0 : fS) (RS0 : RI S0) : zk (F_X6_hole p1 S0) (fun v S9 => RI S9 ∧ Fr 512 S0 S9 ∧ (v.1 = 0 ∨ v.1 = 1 ∨ v.1 = 2)) := by
  have lm1 : (-1 : Int32).toInt = -1 := by decide
  have l0 : (0 : Int32).toInt = 0 := by decide
  have l1 : (1 : Int32).toInt = 1 := by decide
  have l5 : (5 : Int32).toInt = 5 := by decide
  have FS0 : Fr 512 S0 S0 := Fr.rf
  unfold F_X6_hole
  refine zk_bx (s_F_X6_needCell _ _ RS0) (fun v1 T2 h1 => ?_) (fun z3 v1 T2 h1 => ?_)
  ·
    obtain ⟨rfl, h1⟩ := h1
    try dsimp only at h1
    refine zk_gd ⟨by omega, by omega⟩ ?_
    refine zk_iv fun x4 e4 => ?_
    have b5 := ti_bd x4
    refine zk_eq (fun c6 => ?_) (fun c6 => ?_)
    ·
      unfold B_X6_hole_25
      refine zk_bx (s_F_X6_need _ _ RS0) (fun v7 T8 h7 => ?_) (fun z9 v7 T8 h7 => ?_)
      ·
        obtain ⟨rfl, h7⟩ := h7
        try dsimp only at h7
        refine zk_iv fun x10 e10 => ?_
        refine zk_sv fun S11 E11 => ?_
        have RS11 : RI S11 := by rw [E11]; exact RS0.wf rfl
        have FS11 : Fr 512 S0 S11 := by rw [E11]; exact FS0.wr (k := 9) rfl rfl
        exact zk_some ⟨RS11, FS11, by (try dsimp only) <;> omega⟩
      ·
        obtain ⟨rfl, h7⟩ := h7
        try dsimp only at h7
        exact ⟨RS0, FS0, by (try dsimp only) <;> omega⟩
    ·
      unfold B_X6_hole_25
      refine zk_bx (s_F_X6_need _ _ RS0) (fun v12 T13 h12 => ?_) (fun z14 v12 T13 h12 => ?_)
      ·
        obtain ⟨rfl, h12⟩ := h12
        try dsimp only at h12
        refine zk_iv fun x15 e15 => ?_
        refine zk_sv fun S16 E16 => ?_
        have RS16 : RI S16 := by rw [E16]; exact RS0.wf rfl
        have FS16 : Fr 512 S0 S16 := by rw [E16]; exact FS0.wr (k := 9) rfl rfl
        exact zk_some ⟨RS16, FS16, by (try dsimp only) <;> omega⟩
      ·
        obtain ⟨rfl, h12⟩ := h12
        try dsimp only at h12
        exact ⟨RS0, FS0, by (try dsimp only) <;> omega⟩
  ·
    obtain ⟨rfl, h1⟩ := h1
    try dsimp only at h1
    exact ⟨RS0, FS0, by (try dsimp only) <;> omega⟩
theorem s_F_X6_set (p1 : Int32) (p2 : Int32) (S0 : fS) (RS0 : RI S0) : zk (F_X6_set p1 p2 S0) (fun v S9 => RI S9 ∧ Fr 16 S0 S9 ∧ (v.1 = 0 ∨ v.1 = 1)) := by
  have l0 : (0 : Int32).toInt = 0 := by decide
  have l1 : (1 : Int32).toInt = 1 := by decide
  have l2 : (2 : Int32).toInt = 2 := by decide
  have l3 : (3 : Int32).toInt = 3 := by decide
  have l4 : (4 : Int32).toInt = 4 := by decide
  have l10 : (10 : Int32).toInt = 10 := by decide
  have l12 : (12 : Int32).toInt = 12 := by decide
  have l14 : (14 : Int32).toInt = 14 := by decide
  have l23 : (23 : Int32).toInt = 23 := by decide
  have l99 : (99 : Int32).toInt = 99 := by decide
  have FS0 : Fr 16 S0 S0 := Fr.rf
  unfold F_X6_set
  refine zk_bd (s_F_X6_within _ _ _ _ RS0) (fun v1 T2 h1 => ?_)
  obtain ⟨rfl, h1⟩ := h1
  refine zk_bx (s_F_X6_need _ _ RS0) (fun v3 T4 h3 => ?_) (fun z5 v3 T4 h3 => ?_)
  ·
    obtain ⟨rfl, h3⟩ := h3
    try dsimp only at h3
    refine zk_eq (fun c6 => ?_) (fun c6 => ?_)
    ·
      unfold B_X6_set_32
      refine zk_bd (s_F_X6_within _ _ _ _ RS0) (fun v7 T8 h7 => ?_)
      obtain ⟨rfl, h7⟩ := h7
      refine zk_bx (s_F_X6_need _ _ RS0) (fun v9 T10 h9 => ?_) (fun z11 v9 T10 h9 => ?_)
      ·
        obtain ⟨rfl, h9⟩ := h9
        try dsimp only at h9
        refine zk_eq (fun c12 => ?_) (fun c12 => ?_)
        ·
          refine zk_iv fun x13 e13 => ?_
          refine zk_sv fun S14 E14 => ?_
          have RS14 : RI S14 := by rw [E14]; exact RS0.wf rfl
          have FS14 : Fr 16 S0 S14 := by rw [E14]; exact FS0.wr (k := 4) rfl rfl
          exact zk_some ⟨RS14, FS14, by (try dsimp only) <;> omega⟩
        ·
          exact False.elim (by omega)
      ·
        obtain ⟨rfl, h9⟩ := h9
        try dsimp only at h9
        exact ⟨RS0, FS0, by (try dsimp only) <;> omega⟩
    ·
      refine zk_eq (fun c15 => ?_) (fun c15 => ?_)
      ·
        unfold B_X6_set_32
        refine zk_bd (s_F_X6_within _ _ _ _ RS0) (fun v16 T17 h16 => ?_)
        obtain ⟨rfl, h16⟩ := h16
        refine zk_bx (s_F_X6_need _ _ RS0) (fun v18 T19 h18 => ?_) (fun z20 v18 T19 h18 => ?_)
        ·
          obtain ⟨rfl, h18⟩ := h18
          try dsimp only at h18
          refine zk_eq (fun c21 => ?_) (fun c21 => ?_)
          ·
            exact False.elim (by omega)
          ·
            refine zk_eq (fun c22 => ?_) (fun c22 => ?_)
            ·
              refine zk_iv fun x23 e23 => ?_
              refine zk_sv fun S24 E24 => ?_
              have RS24 : RI S24 := by rw [E24]; exact RS0.wf rfl
              have FS24 : Fr 16 S0 S24 := by rw [E24]; exact FS0.wr (k := 4) rfl rfl
              exact zk_some ⟨RS24, FS24, by (try dsimp only) <;> omega⟩
            ·
              exact False.elim (by omega)
        ·
          obtain ⟨rfl, h18⟩ := h18
          try dsimp only at h18
          exact ⟨RS0, FS0, by (try dsimp only) <;> omega⟩
      ·
        unfold B_X6_set_32
        refine zk_bd (s_F_X6_within _ _ _ _ RS0) (fun v25 T26 h25 => ?_)
        obtain ⟨rfl, h25⟩ := h25
        refine zk_bx (s_F_X6_need _ _ RS0) (fun v27 T28 h27 => ?_) (fun z29 v27 T28 h27 => ?_)
        ·
          obtain ⟨rfl, h27⟩ := h27
          try dsimp only at h27
          refine zk_eq (fun c30 => ?_) (fun c30 => ?_)
          ·
            exact False.elim (by omega)
          ·
            refine zk_eq (fun c31 => ?_) (fun c31 => ?_)
            ·
              exact False.elim (by omega)
            ·
              refine zk_iv fun x32 e32 => ?_
              refine zk_sv fun S33 E33 => ?_
              have RS33 : RI S33 := by rw [E33]; exact RS0.wf rfl
              have FS33 : Fr 16 S0 S33 := by rw [E33]; exact FS0.wr (k := 4) rfl rfl
              exact zk_some ⟨RS33, FS33, by (try dsimp only) <;> omega⟩
        ·
          obtain ⟨rfl, h27⟩ := h27
          try dsimp only at h27
          exact ⟨RS0, FS0, by (try dsimp only) <;> omega⟩
  ·
    obtain ⟨rfl, h3⟩ := h3
    try dsimp only at h3
    exact ⟨RS0, FS0, by (try dsimp only) <;> omega⟩
theorem s_F_X6_force (p1 : Int32) (S0 : fS) (RS0 : RI S0) : zk (F_X6_force p1 S0) (fun v S9 => RI S9 ∧ Fr 256 S0 S9 ∧ (v.1 = 0 ∨ v.1 = 1)) := by
  have lm1 : (-1 : Int32).toInt = -1 := by decide
  have l0 : (0 : Int32).toInt = 0 := by decide
  have l1 : (1 : Int32).toInt = 1 := by decide
  have l5 : (5 : Int32).toInt = 5 := by decide
  have l6 : (6 : Int32).toInt = 6 := by decide
  have l10 : (10 : Int32).toInt = 10 := by decide
  have FS0 : Fr 256 S0 S0 := Fr.rf
  unfold F_X6_force
  refine zk_iv fun x1 e1 => ?_
  have gx1 : 0 ≤ x1.toInt ∧ x1.toInt ≤ 6 := by rw [e1]; exact RS0 0 _ _
  refine zk_iv fun x2 e2 => ?_
  have gx2 : x2.toInt = x1.toInt - (1 : Int32).toInt := by rw [e2]; exact ti_sub (by omega) (by omega)
  refine zk_bd (s_F_X6_within _ _ _ _ RS0) (fun v3 T4 h3 => ?_)
  obtain ⟨rfl, h3⟩ := h3
  refine zk_bx (s_F_X6_need _ _ RS0) (fun v5 T6 h5 => ?_) (fun z7 v5 T6 h5 => ?_)
  ·
    obtain ⟨rfl, h5⟩ := h5
    try dsimp only at h5
    refine zk_iv fun x8 e8 => ?_
    refine zk_sv fun S9 E9 => ?_
    have RS9 : RI S9 := by rw [E9]; exact RS0.wf rfl
    have FS9 : Fr 256 S0 S9 := by rw [E9]; exact FS0.wr (k := 8) rfl rfl
    exact zk_some ⟨RS9, FS9, by (try dsimp only) <;> omega⟩
  ·
    obtain ⟨rfl, h5⟩ := h5
    try dsimp only at h5
    exact ⟨RS0, FS0, by (try dsimp only) <;> omega⟩
theorem s_F_X6_hand (p1 : Int32) (S0 : fS) (RS0 : RI S0) : zk (F_X6_hand p1 S0) (fun v S9 => RI S9 ∧ Fr 4 S0 S9 ∧ (v.1 = 0 ∨ v.1 = 1)) := by
  have lm1 : (-1 : Int32).toInt = -1 := by decide
  have l0 : (0 : Int32).toInt = 0 := by decide
  have l1 : (1 : Int32).toInt = 1 := by decide
  have l6 : (6 : Int32).toInt = 6 := by decide
  have l9 : (9 : Int32).toInt = 9 := by decide
  have l17 : (17 : Int32).toInt = 17 := by decide
  have l134217727 : (134217727 : Int32).toInt = 134217727 := by decide
  have FS0 : Fr 4 S0 S0 := Fr.rf
  unfold F_X6_hand
  refine zk_bd (s_F_X6_within _ _ _ _ RS0) (fun v1 T2 h1 => ?_)
  obtain ⟨rfl, h1⟩ := h1
  refine zk_bx (s_F_X6_need _ _ RS0) (fun v3 T4 h3 => ?_) (fun z5 v3 T4 h3 => ?_)
  ·
    obtain ⟨rfl, h3⟩ := h3
    try dsimp only at h3
    refine zk_iv fun x6 e6 => ?_
    have gx6 : 0 ≤ x6.toInt ∧ x6.toInt ≤ 6 := by rw [e6]; exact RS0 0 _ _
    refine zk_lt (fun c7 => ?_) (fun c7 => ?_)
    ·
      refine zk_ivq (x := x6) e6.symm ?_
      refine zk_gd ⟨by omega, by omega⟩ ?_
      refine zk_sv fun S8 E8 => ?_
      have RS8 : RI S8 := by rw [E8]; exact RS0.wf rfl
      have FS8 : Fr 4 S0 S8 := by rw [E8]; exact FS0.wr (k := 2) rfl rfl
      refine zk_ivq (x := x6) (by rw [E8]; exact (ge_pua (by decide)).trans e6.symm) ?_
      refine zk_iv fun x9 e9 => ?_
      have gx9 : x9.toInt = x6.toInt + (1 : Int32).toInt := by rw [e9]; exact ti_add (by omega) (by omega)
      refine zk_sv fun S10 E10 => ?_
      have RS10 : RI S10 := by rw [E10]; exact RS8.wr (show (0 : Int) ≤ x9.toInt by omega) (show x9.toInt ≤ 6 by omega)
      have FS10 : Fr 4 S0 S10 := by rw [E10]; exact FS8.wr (k := 2) rfl rfl
      refine zk_ivq (x := x9) (by rw [E10]; exact ge_pus) ?_
      refine zk_iv fun x11 e11 => ?_
      have gx11 : x11.toInt = x9.toInt - (1 : Int32).toInt := by rw [e11]; exact ti_sub (by omega) (by omega)
      exact zk_some ⟨RS10, FS10, by (try dsimp only) <;> omega⟩
    ·
      exact zk_some ⟨RS0, FS0, by (try dsimp only) <;> omega⟩
  ·
    obtain ⟨rfl, h3⟩ := h3
    try dsimp only at h3
    exact ⟨RS0, FS0, by (try dsimp only) <;> omega⟩
theorem s_F_X6_weights (p1 : Int32) (S0 : fS) (RS0 : RI S0) : zk (F_X6_weights p1 S0) (fun v S9 => S0 = S9 ∧ (v.1 = 0 ∨ v.1 = 3)) := by
  have l0 : (0 : Int32).toInt = 0 := by decide
  have l8 : (8 : Int32).toInt = 8 := by decide
  have l9 : (9 : Int32).toInt = 9 := by decide
  unfold F_X6_weights
  refine zk_iv fun x1 e1 => ?_
  have gx1 : 0 ≤ x1.toInt ∧ x1.toInt ≤ 6 := by rw [e1]; exact RS0 0 _ _
  refine zk_bx (s_F_X6_needElement _ _ _ RS0 (by omega)) (fun v2 T3 h2 => ?_) (fun z4 v2 T3 h2 => ?_)
  ·
    obtain ⟨rfl, h2⟩ := h2
    try dsimp only at h2
    refine zk_gd ⟨by omega, by omega⟩ ?_
    refine zk_iv fun x5 e5 => ?_
    refine zk_bd (s_F_X6_allWeights _ _ RS0) (fun v6 T7 h6 => ?_)
    obtain ⟨rfl, h6⟩ := h6
    exact zk_some ⟨rfl, by (try dsimp only) <;> omega⟩
  ·
    obtain ⟨rfl, h2⟩ := h2
    try dsimp only at h2
    exact ⟨rfl, by (try dsimp only) <;> omega⟩
theorem s_B_X6_settle_84  (z : Int32 × Int32 × Int32 × Int32) (S : fS) (RS : RI S) (hi : 0 ≤ z.1.toInt ∧ z.1.toInt ≤ 5 ∧ 0 ≤ z.2.2.2.toInt ∧ z.2.2.2.toInt ≤ 201) (hm : (201 - z.2.2.2.toInt).toNat < 4294967296) : zk (lp (B_X6_settle_84) fuel z S) (fun v S9 => S = S9 ∧ v.1 = 0) := by
  have lm1 : (-1 : Int32).toInt = -1 := by decide
  have l0 : (0 : Int32).toInt = 0 := by decide
  have l1 : (1 : Int32).toInt = 1 := by decide
  have l3 : (3 : Int32).toInt = 3 := by decide
  have l7 : (7 : Int32).toInt = 7 := by decide
  have l200 : (200 : Int32).toInt = 200 := by decide
  have lo1 : (Int32.ofInt 1).toInt = 1 := by decide
  refine zk_lp (fun z S => RI S ∧ (0 ≤ z.1.toInt ∧ z.1.toInt ≤ 5 ∧ 0 ≤ z.2.2.2.toInt ∧ z.2.2.2.toInt ≤ 201)) (fun z S => (201 - z.2.2.2.toInt).toNat) (fun z S (v : Nat × Int32) S9 => S = S9 ∧ v.1 = 0) ?_ z S ⟨RS, hi⟩ hm
  clear RS hi hm
  intro k z S hI hk
  obtain ⟨RS, hI⟩ := hI
  obtain ⟨a1, a4, a6, a7⟩ := z
  (try dsimp only at hI); (try dsimp only at hk); (try dsimp only)
  unfold B_X6_settle_84
  dsimp only
  refine zk_lt (fun c1 => ?_) (fun c1 => ?_)
  ·
    exact zk_some ⟨rfl, by (try dsimp only) <;> omega⟩
  ·
    refine zk_iv fun x2 e2 => ?_
    refine zk_iv fun x3 e3 => ?_
    have gx3 : x3.toInt = a7.toInt - (1 : Int32).toInt := by rw [e3]; exact ti_sub (by omega) (by omega)
    refine zk_iv fun x4 e4 => ?_
    refine zk_gd ⟨by omega, by omega⟩ ?_
    refine zk_iv fun x5 e5 => ?_
    refine zk_bd (s_F_X6_allWeights _ _ RS) (fun v6 T7 h6 => ?_)
    obtain ⟨rfl, h6⟩ := h6
    refine zk_iv fun x8 e8 => ?_
    refine zk_iv fun x9 e9 => ?_
    have b10 := ti_bd x9
    have b11 := ti_bd a6
    refine zk_lt (fun c12 => ?_) (fun c12 => ?_)
    ·
      refine zk_iv fun x13 e13 => ?_
      have gx13 : x13.toInt = a7.toInt + (Int32.ofInt 1).toInt := by rw [e13]; exact ti_add (by omega) (by omega)
      refine zk_imp (hk (a1, a4, a6, x13) _ ⟨RS, (by (try dsimp only) <;> omega)⟩ (by (try dsimp only) <;> omega)) (fun v14 T15 h14 => ?_)
      obtain ⟨rfl, h14⟩ := h14
      try dsimp only at h14
      exact ⟨rfl, by omega⟩
    ·
      exact zk_some ⟨rfl, by (try dsimp only) <;> omega⟩
theorem s_F_X6_settle (p1 : Int32) (p2 : Int32) (p3 : Int32) (S0 : fS) (RS0 : RI S0) : zk (F_X6_settle p1 p2 p3 S0) (fun v S9 => S0 = S9 ∧ (v.1 = 0 ∨ v.1 = 1 ∨ v.1 = 2 ∨ v.1 = 3)) := by
  have lm1 : (-1 : Int32).toInt = -1 := by decide
  have l0 : (0 : Int32).toInt = 0 := by decide
  have l1 : (1 : Int32).toInt = 1 := by decide
  have l9 : (9 : Int32).toInt = 9 := by decide
  have l9999 : (9999 : Int32).toInt = 9999 := by decide
  unfold F_X6_settle
  refine zk_iv fun x1 e1 => ?_
  have gx1 : 0 ≤ x1.toInt ∧ x1.toInt ≤ 6 := by rw [e1]; exact RS0 0 _ _
  refine zk_bx (s_F_X6_needElement _ _ _ RS0 (by omega)) (fun v2 T3 h2 => ?_) (fun z4 v2 T3 h2 => ?_)
  ·
    obtain ⟨rfl, h2⟩ := h2
    try dsimp only at h2
    refine zk_bx (s_F_X6_needCell _ _ RS0) (fun v5 T6 h5 => ?_) (fun z7 v5 T6 h5 => ?_)
    ·
      obtain ⟨rfl, h5⟩ := h5
      try dsimp only at h5
      refine zk_bd (s_F_X6_within _ _ _ _ RS0) (fun v8 T9 h8 => ?_)
      obtain ⟨rfl, h8⟩ := h8
      refine zk_bx (s_F_X6_need _ _ RS0) (fun v10 T11 h10 => ?_) (fun z12 v10 T11 h10 => ?_)
      ·
        obtain ⟨rfl, h10⟩ := h10
        try dsimp only at h10
        refine zk_gd ⟨by omega, by omega⟩ ?_
        refine zk_iv fun x13 e13 => ?_
        refine zk_bd (s_F_X6_weightsReaching _ _ _ RS0) (fun v14 T15 h14 => ?_)
        obtain ⟨rfl, h14⟩ := h14
        refine zk_gd ⟨by omega, by omega⟩ ?_
        refine zk_iv fun x16 e16 => ?_
        have b17 := ti_bd v14
        refine zk_eq (fun c18 => ?_) (fun c18 => ?_)
        ·
          exact zk_some ⟨rfl, by (try dsimp only) <;> omega⟩
        ·
          have b19 := ti_bd x16
          refine zk_eq (fun c20 => ?_) (fun c20 => ?_)
          ·
            exact zk_some ⟨rfl, by (try dsimp only) <;> omega⟩
          ·
            refine zk_bd (s_F_X2_valueOf _ _ _ RS0) (fun v21 T22 h21 => ?_)
            obtain ⟨rfl, h21⟩ := h21
            refine zk_iv fun x23 e23 => ?_
            refine zk_iv fun x24 e24 => ?_
            refine zk_imp (s_B_X6_settle_84 _ _ RS0 (by (try dsimp only) <;> omega) (by (try dsimp only) <;> omega)) (fun v25 T26 h25 => ?_)
            obtain ⟨rfl, h25⟩ := h25
            try dsimp only at h25
            exact ⟨rfl, by omega⟩
      ·
        obtain ⟨rfl, h10⟩ := h10
        try dsimp only at h10
        exact ⟨rfl, by (try dsimp only) <;> omega⟩
    ·
      obtain ⟨rfl, h5⟩ := h5
      try dsimp only at h5
      exact ⟨rfl, by (try dsimp only) <;> omega⟩
  ·
    obtain ⟨rfl, h2⟩ := h2
    try dsimp only at h2
    exact ⟨rfl, by (try dsimp only) <;> omega⟩
theorem s_F_X5_lookBeside (r0 : Nat) (r1 : Nat) (p2 : Int32) (p3 : Int32) (p4 : Int32) (S0 : fS) (RS0 : RI S0) (hp : 0 ≤ p3.toInt ∧ p3.toInt < 4) : zk (F_X5_lookBeside r0 r1 p2 p3 p4 S0) (fun v S9 => RI S9 ∧ Fr 2048 S0 S9 ∧ True) := by
  have l0 : (0 : Int32).toInt = 0 := by decide
  have l7 : (7 : Int32).toInt = 7 := by decide
  have l8 : (8 : Int32).toInt = 8 := by decide
  have FS0 : Fr 2048 S0 S0 := Fr.rf
  unfold F_X5_lookBeside
  refine zk_iv fun x1 e1 => ?_
  refine zk_gd ⟨by omega, by omega⟩ ?_
  refine zk_iv fun x2 e2 => ?_
  refine zk_iv fun x3 e3 => ?_
  refine zk_iv fun x4 e4 => ?_
  refine zk_gd ⟨by omega, by omega⟩ ?_
  refine zk_iv fun x5 e5 => ?_
  refine zk_iv fun x6 e6 => ?_
  refine zk_bd (s_F_X6_within _ _ _ _ RS0) (fun v7 T8 h7 => ?_)
  obtain ⟨rfl, h7⟩ := h7
  refine zk_eq (fun c9 => ?_) (fun c9 => ?_)
  ·
    exact zk_some ⟨RS0, FS0, trivial⟩
  ·
    refine zk_bd (s_F_X6_within _ _ _ _ RS0) (fun v10 T11 h10 => ?_)
    obtain ⟨rfl, h10⟩ := h10
    refine zk_eq (fun c12 => ?_) (fun c12 => ?_)
    ·
      exact zk_some ⟨RS0, FS0, trivial⟩
    ·
      refine zk_iv fun x13 e13 => ?_
      have gx13 : x13.toInt = (8 : Int32).toInt * x6.toInt := by rw [e13]; exact ti_mul (by rw [l8]; omega) (by rw [l8]; omega)
      rw [l8] at gx13
      refine zk_iv fun x14 e14 => ?_
      have gx14 : x14.toInt = x13.toInt + x3.toInt := by rw [e14]; exact ti_add (by omega) (by omega)
      refine zk_gd ⟨by omega, by omega⟩ ?_
      refine zk_iv fun x15 e15 => ?_
      refine zk_bd (s_F_X2_known _ _ _ RS0) (fun v16 T17 h16 => ?_)
      obtain ⟨rfl, h16⟩ := h16
      refine zk_eq (fun c18 => ?_) (fun c18 => ?_)
      ·
        exact zk_some ⟨RS0, FS0, trivial⟩
      ·
        refine zk_gd ⟨by omega, by omega⟩ ?_
        refine zk_iv fun x19 e19 => ?_
        have b20 := ti_bd x19
        have b21 := ti_bd p4
        refine zk_eq (fun c22 => ?_) (fun c22 => ?_)
        ·
          refine zk_bd (s_F_X5_take _ _ _ _ RS0) (fun v23 T24 h23 => ?_)
          obtain ⟨RT24, fT24, h23⟩ := h23
          have FT24 := FS0.tr (fT24.sub (m := 2048) (by decide))
          exact zk_some ⟨RT24, FT24, trivial⟩
        ·
          exact zk_some ⟨RS0, FS0, trivial⟩
theorem s_B_X5_look_149 (r0 : Nat) (r1 : Nat) (z : Int32 × Int32 × Int32) (S : fS) (RS : RI S) (hi : 0 ≤ z.2.2.toInt ∧ z.2.2.toInt ≤ 4) (hm : (4 - z.2.2.toInt).toNat < 4294967296) : zk (lp (B_X5_look_149 r0 r1) fuel z S) (fun v S9 => RI S9 ∧ Fr 2048 S S9 ∧ True) := by
  have l0 : (0 : Int32).toInt = 0 := by decide
  have l4 : (4 : Int32).toInt = 4 := by decide
  have lo1 : (Int32.ofInt 1).toInt = 1 := by decide
  refine zk_lp (fun z S => RI S ∧ (0 ≤ z.2.2.toInt ∧ z.2.2.toInt ≤ 4)) (fun z S => (4 - z.2.2.toInt).toNat) (fun z S (v : Int32) S9 => RI S9 ∧ Fr 2048 S S9 ∧ True) ?_ z S ⟨RS, hi⟩ hm
  clear RS hi hm
  intro k z S hI hk
  obtain ⟨RS, hI⟩ := hI
  obtain ⟨a2, a5, a6⟩ := z
  (try dsimp only at hI); (try dsimp only at hk); (try dsimp only)
  have FS : Fr 2048 S S := Fr.rf
  unfold B_X5_look_149
  dsimp only
  have b1 := ti_bd a5
  refine zk_eq (fun c2 => ?_) (fun c2 => ?_)
  ·
    exact zk_some ⟨RS, FS, trivial⟩
  ·
    refine zk_le (fun c3 => ?_) (fun c3 => ?_)
    ·
      exact zk_some ⟨RS, FS, trivial⟩
    ·
      refine zk_bd (s_F_X5_lookBeside _ _ _ _ _ _ RS (by omega)) (fun v4 T5 h4 => ?_)
      obtain ⟨RT5, fT5, h4⟩ := h4
      have FT5 := FS.tr (fT5.sub (m := 2048) (by decide))
      refine zk_iv fun x6 e6 => ?_
      have gx6 : x6.toInt = a6.toInt + (Int32.ofInt 1).toInt := by rw [e6]; exact ti_add (by omega) (by omega)
      refine zk_imp (hk (a2, a5, x6) _ ⟨RT5, (by (try dsimp only) <;> omega)⟩ (by (try dsimp only) <;> omega)) (fun v7 T8 h7 => ?_)
      obtain ⟨RT8, FT8, h7⟩ := h7
      exact ⟨RT8, FT5.tr FT8, trivial⟩
theorem s_F_X5_look (r0 : Nat) (r1 : Nat) (p2 : Int32) (S0 : fS) (RS0 : RI S0) : zk (F_X5_look r0 r1 p2 S0) (fun v S9 => RI S9 ∧ Fr 2048 S0 S9 ∧ True) := by
  have lm1 : (-1 : Int32).toInt = -1 := by decide
  have l0 : (0 : Int32).toInt = 0 := by decide
  have l1 : (1 : Int32).toInt = 1 := by decide
  have l2 : (2 : Int32).toInt = 2 := by decide
  have l6 : (6 : Int32).toInt = 6 := by decide
  have l8 : (8 : Int32).toInt = 8 := by decide
  have l10 : (10 : Int32).toInt = 10 := by decide
  have l14 : (14 : Int32).toInt = 14 := by decide
  have l16 : (16 : Int32).toInt = 16 := by decide
  have l63 : (63 : Int32).toInt = 63 := by decide
  have FS0 : Fr 2048 S0 S0 := Fr.rf
  unfold F_X5_look
  refine zk_sv fun S1 E1 => ?_
  have RS1 : RI S1 := by rw [E1]; exact RS0.wf rfl
  have FS1 : Fr 2048 S0 S1 := by rw [E1]; exact FS0.wr (k := 11) rfl rfl
  refine zk_iv fun x2 e2 => ?_
  refine zk_sv fun S3 E3 => ?_
  have RS3 : RI S3 := by rw [E3]; exact RS1.wf rfl
  have FS3 : Fr 2048 S0 S3 := by rw [E3]; exact FS1.wr (k := 11) rfl rfl
  refine zk_sv fun S4 E4 => ?_
  have RS4 : RI S4 := by rw [E4]; exact RS3.wf rfl
  have FS4 : Fr 2048 S0 S4 := by rw [E4]; exact FS3.wr (k := 11) rfl rfl
  refine zk_sv fun S5 E5 => ?_
  have RS5 : RI S5 := by rw [E5]; exact RS4.wf rfl
  have FS5 : Fr 2048 S0 S5 := by rw [E5]; exact FS4.wr (k := 11) rfl rfl
  refine zk_sv fun S6 E6 => ?_
  have RS6 : RI S6 := by rw [E6]; exact RS5.wr (show (0 : Int) ≤ (0 : Int32).toInt by omega) (show (0 : Int32).toInt ≤ 5 by omega)
  have FS6 : Fr 2048 S0 S6 := by rw [E6]; exact FS5.wr (k := 11) rfl rfl
  refine zk_sv fun S7 E7 => ?_
  have RS7 : RI S7 := by rw [E7]; exact RS6.wf rfl
  have FS7 : Fr 2048 S0 S7 := by rw [E7]; exact FS6.wr (k := 11) rfl rfl
  refine zk_ivq (x := x2) (by rw [E7]; exact (ge_pua (by decide)).trans (by rw [E6]; exact (ge_pua (by decide)).trans (by rw [E5]; exact (ge_pua (by decide)).trans (by rw [E4]; exact (ge_pua (by decide)).trans (by rw [E3]; exact (ge_pua (by decide)).trans e2.symm))))) ?_
  have b8 := ti_bd p2
  have b9 := ti_bd x2
  refine zk_eq (fun c10 => ?_) (fun c10 => ?_)
  ·
    unfold B_X5_look_61
    unfold B_X5_look_62
    refine zk_bbt (by decide) ?_
    unfold B_X5_look_89
    unfold B_X5_look_90
    refine zk_bd (s_F_X2_known _ _ _ RS7) (fun v11 T12 h11 => ?_)
    obtain ⟨rfl, h11⟩ := h11
    refine zk_eq (fun c13 => ?_) (fun c13 => ?_)
    ·
      exact zk_some ⟨RS7, FS7, trivial⟩
    ·
      refine zk_sv fun S14 E14 => ?_
      have RS14 : RI S14 := by rw [E14]; exact RS7.wf rfl
      have FS14 : Fr 2048 S0 S14 := by rw [E14]; exact FS7.wr (k := 11) rfl rfl
      refine zk_bd (s_F_X2_levelOf _ _ _ RS14) (fun v15 T16 h15 => ?_)
      obtain ⟨rfl, h15⟩ := h15
      refine zk_bd (s_F_X5_measure _ _ _ RS14) (fun v17 T18 h17 => ?_)
      obtain ⟨RT18, fT18, h17⟩ := h17
      have FT18 := FS14.tr (fT18.sub (m := 2048) (by decide))
      refine zk_bd (s_F_X5_take _ _ _ _ RT18) (fun v19 T20 h19 => ?_)
      obtain ⟨RT20, fT20, h19⟩ := h19
      have FT20 := FT18.tr (fT20.sub (m := 2048) (by decide))
      refine zk_gd ⟨by omega, by omega⟩ ?_
      refine zk_iv fun x21 e21 => ?_
      refine zk_imp (s_B_X5_look_149 r0 r1 _ _ RT20 (by (try dsimp only) <;> omega) (by (try dsimp only) <;> omega)) (fun v22 T23 h22 => ?_)
      obtain ⟨RT23, fT23, h22⟩ := h22
      have FT23 := FT20.tr (fT23.sub (m := 2048) (by decide))
      exact ⟨RT23, FT23, trivial⟩
  ·
    refine zk_iv fun x24 e24 => ?_
    refine zk_iv fun x25 e25 => ?_
    refine zk_iv fun x26 e26 => ?_
    refine zk_iv fun x27 e27 => ?_
    have b28 := ti_bd x27
    have b29 := ti_bd x26
    refine zk_lt (fun c30 => ?_) (fun c30 => ?_)
    ·
      unfold B_X5_look_61
      unfold B_X5_look_62
      refine zk_bbt (by decide) ?_
      unfold B_X5_look_89
      unfold B_X5_look_90
      refine zk_bd (s_F_X2_known _ _ _ RS7) (fun v31 T32 h31 => ?_)
      obtain ⟨rfl, h31⟩ := h31
      refine zk_eq (fun c33 => ?_) (fun c33 => ?_)
      ·
        exact zk_some ⟨RS7, FS7, trivial⟩
      ·
        refine zk_sv fun S34 E34 => ?_
        have RS34 : RI S34 := by rw [E34]; exact RS7.wf rfl
        have FS34 : Fr 2048 S0 S34 := by rw [E34]; exact FS7.wr (k := 11) rfl rfl
        refine zk_bd (s_F_X2_levelOf _ _ _ RS34) (fun v35 T36 h35 => ?_)
        obtain ⟨rfl, h35⟩ := h35
        refine zk_bd (s_F_X5_measure _ _ _ RS34) (fun v37 T38 h37 => ?_)
        obtain ⟨RT38, fT38, h37⟩ := h37
        have FT38 := FS34.tr (fT38.sub (m := 2048) (by decide))
        refine zk_bd (s_F_X5_take _ _ _ _ RT38) (fun v39 T40 h39 => ?_)
        obtain ⟨RT40, fT40, h39⟩ := h39
        have FT40 := FT38.tr (fT40.sub (m := 2048) (by decide))
        refine zk_gd ⟨by omega, by omega⟩ ?_
        refine zk_iv fun x41 e41 => ?_
        refine zk_imp (s_B_X5_look_149 r0 r1 _ _ RT40 (by (try dsimp only) <;> omega) (by (try dsimp only) <;> omega)) (fun v42 T43 h42 => ?_)
        obtain ⟨RT43, fT43, h42⟩ := h42
        have FT43 := FT40.tr (fT43.sub (m := 2048) (by decide))
        exact ⟨RT43, FT43, trivial⟩
    ·
      unfold B_X5_look_62
      refine zk_bbf (by decide) ?_
      refine zk_bd (s_F_X6_within _ _ _ _ RS7) (fun v44 T45 h44 => ?_)
      obtain ⟨rfl, h44⟩ := h44
      refine zk_eq (fun c46 => ?_) (fun c46 => ?_)
      ·
        unfold B_X5_look_89
        unfold B_X5_look_90
        refine zk_bd (s_F_X2_known _ _ _ RS7) (fun v47 T48 h47 => ?_)
        obtain ⟨rfl, h47⟩ := h47
        refine zk_eq (fun c49 => ?_) (fun c49 => ?_)
        ·
          exact zk_some ⟨RS7, FS7, trivial⟩
        ·
          refine zk_sv fun S50 E50 => ?_
          have RS50 : RI S50 := by rw [E50]; exact RS7.wf rfl
          have FS50 : Fr 2048 S0 S50 := by rw [E50]; exact FS7.wr (k := 11) rfl rfl
          refine zk_bd (s_F_X2_levelOf _ _ _ RS50) (fun v51 T52 h51 => ?_)
          obtain ⟨rfl, h51⟩ := h51
          refine zk_bd (s_F_X5_measure _ _ _ RS50) (fun v53 T54 h53 => ?_)
          obtain ⟨RT54, fT54, h53⟩ := h53
          have FT54 := FS50.tr (fT54.sub (m := 2048) (by decide))
          refine zk_bd (s_F_X5_take _ _ _ _ RT54) (fun v55 T56 h55 => ?_)
          obtain ⟨RT56, fT56, h55⟩ := h55
          have FT56 := FT54.tr (fT56.sub (m := 2048) (by decide))
          refine zk_gd ⟨by omega, by omega⟩ ?_
          refine zk_iv fun x57 e57 => ?_
          refine zk_imp (s_B_X5_look_149 r0 r1 _ _ RT56 (by (try dsimp only) <;> omega) (by (try dsimp only) <;> omega)) (fun v58 T59 h58 => ?_)
          obtain ⟨RT59, fT59, h58⟩ := h58
          have FT59 := FT56.tr (fT59.sub (m := 2048) (by decide))
          exact ⟨RT59, FT59, trivial⟩
      ·
        refine zk_gd ⟨by omega, by omega⟩ ?_
        refine zk_iv fun x60 e60 => ?_
        unfold B_X5_look_90
        refine zk_bd (s_F_X2_known _ _ _ RS7) (fun v61 T62 h61 => ?_)
        obtain ⟨rfl, h61⟩ := h61
        refine zk_eq (fun c63 => ?_) (fun c63 => ?_)
        ·
          exact zk_some ⟨RS7, FS7, trivial⟩
        ·
          refine zk_sv fun S64 E64 => ?_
          have RS64 : RI S64 := by rw [E64]; exact RS7.wf rfl
          have FS64 : Fr 2048 S0 S64 := by rw [E64]; exact FS7.wr (k := 11) rfl rfl
          refine zk_bd (s_F_X2_levelOf _ _ _ RS64) (fun v65 T66 h65 => ?_)
          obtain ⟨rfl, h65⟩ := h65
          refine zk_bd (s_F_X5_measure _ _ _ RS64) (fun v67 T68 h67 => ?_)
          obtain ⟨RT68, fT68, h67⟩ := h67
          have FT68 := FS64.tr (fT68.sub (m := 2048) (by decide))
          refine zk_bd (s_F_X5_take _ _ _ _ RT68) (fun v69 T70 h69 => ?_)
          obtain ⟨RT70, fT70, h69⟩ := h69
          have FT70 := FT68.tr (fT70.sub (m := 2048) (by decide))
          refine zk_gd ⟨by omega, by omega⟩ ?_
          refine zk_iv fun x71 e71 => ?_
          refine zk_imp (s_B_X5_look_149 r0 r1 _ _ RT70 (by (try dsimp only) <;> omega) (by (try dsimp only) <;> omega)) (fun v72 T73 h72 => ?_)
          obtain ⟨RT73, fT73, h72⟩ := h72
          have FT73 := FT70.tr (fT73.sub (m := 2048) (by decide))
          exact ⟨RT73, FT73, trivial⟩
theorem s_F_X6_pays (r1 : Nat) (p2 : Int32) (p3 : Int32) (p4 : Int32) (S0 : fS) (RS0 : RI S0) : zk (F_X6_pays r1 p2 p3 p4 S0) (fun v S9 => RI S9 ∧ Fr 2048 S0 S9 ∧ True) := by
  have l0 : (0 : Int32).toInt = 0 := by decide
  have l1 : (1 : Int32).toInt = 1 := by decide
  have l5 : (5 : Int32).toInt = 5 := by decide
  have FS0 : Fr 2048 S0 S0 := Fr.rf
  unfold F_X6_pays
  refine zk_bd (s_F_X5_look _ _ _ _ RS0) (fun v1 T2 h1 => ?_)
  obtain ⟨RT2, fT2, h1⟩ := h1
  have FT2 := FS0.tr (fT2.sub (m := 2048) (by decide))
  refine zk_bd (s_F_X5_failingStep _ _ _ _ RT2) (fun v3 T4 h3 => ?_)
  obtain ⟨rfl, h3⟩ := h3
  refine zk_bd (s_F_X5_outcomeAt _ _ _ RT2) (fun v5 T6 h5 => ?_)
  obtain ⟨rfl, h5⟩ := h5
  have b7 := ti_bd v5
  refine zk_eq (fun c8 => ?_) (fun c8 => ?_)
  ·
    exact zk_some ⟨RT2, FT2, trivial⟩
  ·
    exact zk_some ⟨RT2, FT2, trivial⟩
theorem s_B_X6_cellsPaying_5  (z : Int32 × Int32 × Int32 × Int32) (S : fS) (RS : RI S) (hi : 0 ≤ z.2.2.2.toInt ∧ z.2.2.2.toInt ≤ 64) (hm : (64 - z.2.2.2.toInt).toNat < 4294967296) : zk (lp (B_X6_cellsPaying_5) fuel z S) (fun v S9 => RI S9 ∧ Fr 2048 S S9 ∧ True) := by
  have l0 : (0 : Int32).toInt = 0 := by decide
  have l1 : (1 : Int32).toInt = 1 := by decide
  have l64 : (64 : Int32).toInt = 64 := by decide
  have lo1 : (Int32.ofInt 1).toInt = 1 := by decide
  refine zk_lp (fun z S => RI S ∧ (0 ≤ z.2.2.2.toInt ∧ z.2.2.2.toInt ≤ 64)) (fun z S => (64 - z.2.2.2.toInt).toNat) (fun z S (v : Int32) S9 => RI S9 ∧ Fr 2048 S S9 ∧ True) ?_ z S ⟨RS, hi⟩ hm
  clear RS hi hm
  intro k z S hI hk
  obtain ⟨RS, hI⟩ := hI
  obtain ⟨a1, a2, a3, a4⟩ := z
  (try dsimp only at hI); (try dsimp only at hk); (try dsimp only)
  have FS : Fr 2048 S S := Fr.rf
  unfold B_X6_cellsPaying_5
  dsimp only
  refine zk_le (fun c1 => ?_) (fun c1 => ?_)
  ·
    exact zk_some ⟨RS, FS, trivial⟩
  ·
    refine zk_bd (s_F_X6_pays _ _ _ _ _ RS) (fun v2 T3 h2 => ?_)
    obtain ⟨RT3, fT3, h2⟩ := h2
    have FT3 := FS.tr (fT3.sub (m := 2048) (by decide))
    have b4 := ti_bd v2
    refine zk_eq (fun c5 => ?_) (fun c5 => ?_)
    ·
      unfold B_X6_cellsPaying_33
      refine zk_iv fun x6 e6 => ?_
      have b7 := ti_bd a3
      have gx6 : x6.toInt = a3.toInt + (0 : Int32).toInt := by rw [e6]; exact ti_add (by omega) (by omega)
      refine zk_iv fun x8 e8 => ?_
      have gx8 : x8.toInt = a4.toInt + (Int32.ofInt 1).toInt := by rw [e8]; exact ti_add (by omega) (by omega)
      refine zk_imp (hk (a1, a2, x6, x8) _ ⟨RT3, (by (try dsimp only) <;> omega)⟩ (by (try dsimp only) <;> omega)) (fun v9 T10 h9 => ?_)
      obtain ⟨RT10, FT10, h9⟩ := h9
      exact ⟨RT10, FT3.tr FT10, trivial⟩
    ·
      unfold B_X6_cellsPaying_33
      refine zk_iv fun x11 e11 => ?_
      refine zk_iv fun x12 e12 => ?_
      have gx12 : x12.toInt = a4.toInt + (Int32.ofInt 1).toInt := by rw [e12]; exact ti_add (by omega) (by omega)
      refine zk_imp (hk (a1, a2, x11, x12) _ ⟨RT3, (by (try dsimp only) <;> omega)⟩ (by (try dsimp only) <;> omega)) (fun v13 T14 h13 => ?_)
      obtain ⟨RT14, FT14, h13⟩ := h13
      exact ⟨RT14, FT3.tr FT14, trivial⟩
theorem s_F_X6_cellsPaying (p1 : Int32) (p2 : Int32) (S0 : fS) (RS0 : RI S0) : zk (F_X6_cellsPaying p1 p2 S0) (fun v S9 => RI S9 ∧ Fr 2048 S0 S9 ∧ True) := by
  have l0 : (0 : Int32).toInt = 0 := by decide
  have FS0 : Fr 2048 S0 S0 := Fr.rf
  unfold F_X6_cellsPaying
  refine zk_imp (s_B_X6_cellsPaying_5 _ _ RS0 (by (try dsimp only) <;> omega) (by (try dsimp only) <;> omega)) (fun v1 T2 h1 => ?_)
  obtain ⟨RT2, fT2, h1⟩ := h1
  have FT2 := FS0.tr (fT2.sub (m := 2048) (by decide))
  exact ⟨RT2, FT2, trivial⟩
theorem s_B_X6_fair_20 (k13 : (Int32 × Int32) → fS → Option ((Nat × Int32) × fS)) (Mk13 : Int) (hk13 : ∀ (z' : Int32 × Int32) (S' : fS), RI S' ∧ (-2 ≤ z'.2.toInt ∧ z'.2.toInt ≤ 8) → (z'.2.toInt + 2).toNat < Mk13.toNat → zk (k13 z' S') (fun v S9 => RI S9 ∧ Fr 2048 S' S9 ∧ v.1 = 0)) (z : Int32 × Int32 × Int32) (S : fS) (RS : RI S) (hi : 0 ≤ z.2.1.toInt ∧ z.2.1.toInt ≤ 8 ∧ 0 ≤ z.2.2.toInt ∧ z.2.2.toInt ≤ 100 ∧ z.2.1.toInt + 2 ≤ @Mk13) (hm : (100 - z.2.2.toInt).toNat < 4294967296) : zk (lp (B_X6_fair_20 k13) fuel z S) (fun v S9 => RI S9 ∧ Fr 2048 S S9 ∧ v.1 = 0) := by
  have l0 : (0 : Int32).toInt = 0 := by decide
  have l9 : (9 : Int32).toInt = 9 := by decide
  have l90 : (90 : Int32).toInt = 90 := by decide
  have l100 : (100 : Int32).toInt = 100 := by decide
  have lom2 : (Int32.ofInt (-2)).toInt = -2 := by decide
  have lo10 : (Int32.ofInt 10).toInt = 10 := by decide
  refine zk_lp (fun z S => RI S ∧ (0 ≤ z.2.1.toInt ∧ z.2.1.toInt ≤ 8 ∧ 0 ≤ z.2.2.toInt ∧ z.2.2.toInt ≤ 100 ∧ z.2.1.toInt + 2 ≤ @Mk13)) (fun z S => (100 - z.2.2.toInt).toNat) (fun z S (v : Nat × Int32) S9 => RI S9 ∧ Fr 2048 S S9 ∧ v.1 = 0) ?_ z S ⟨RS, hi⟩ hm
  clear RS hi hm
  intro k z S hI hk
  obtain ⟨RS, hI⟩ := hI
  obtain ⟨a1, a2, a3⟩ := z
  (try dsimp only at hI); (try dsimp only at hk); (try dsimp only)
  have FS : Fr 2048 S S := Fr.rf
  unfold B_X6_fair_20
  dsimp only
  refine zk_lt (fun c1 => ?_) (fun c1 => ?_)
  ·
    refine zk_iv fun x2 e2 => ?_
    have gx2 : x2.toInt = a2.toInt + (Int32.ofInt (-2)).toInt := by rw [e2]; exact ti_add (by omega) (by omega)
    refine zk_imp (hk13 (a1, x2) _ ⟨RS, (by (try dsimp only) <;> omega)⟩ (by (try dsimp only) <;> omega)) (fun v3 T4 h3 => ?_)
    obtain ⟨RT4, FT4, h3⟩ := h3
    try dsimp only at h3
    exact ⟨RT4, FS.tr FT4, by omega⟩
  ·
    refine zk_bd (s_F_X6_cellsPaying _ _ _ RS) (fun v5 T6 h5 => ?_)
    obtain ⟨RT6, fT6, h5⟩ := h5
    have FT6 := FS.tr (fT6.sub (m := 2048) (by decide))
    have b7 := ti_bd v5
    have b8 := ti_bd a1
    refine zk_lt (fun c9 => ?_) (fun c9 => ?_)
    ·
      refine zk_iv fun x10 e10 => ?_
      have gx10 : x10.toInt = a3.toInt + (Int32.ofInt 10).toInt := by rw [e10]; exact ti_add (by omega) (by omega)
      refine zk_imp (hk (a1, a2, x10) _ ⟨RT6, (by (try dsimp only) <;> omega)⟩ (by (try dsimp only) <;> omega)) (fun v11 T12 h11 => ?_)
      obtain ⟨RT12, FT12, h11⟩ := h11
      try dsimp only at h11
      exact ⟨RT12, FT6.tr FT12, by omega⟩
    ·
      refine zk_iv fun x13 e13 => ?_
      have gx13 : x13.toInt = (100 : Int32).toInt * a3.toInt := by rw [e13]; exact ti_mul (by rw [l100]; omega) (by rw [l100]; omega)
      rw [l100] at gx13
      refine zk_iv fun x14 e14 => ?_
      have gx14 : x14.toInt = x13.toInt + a2.toInt := by rw [e14]; exact ti_add (by omega) (by omega)
      exact zk_some ⟨RT6, FT6, by (try dsimp only) <;> omega⟩
theorem s_B_X6_fair_13  (z : Int32 × Int32) (S : fS) (RS : RI S) (hi : -2 ≤ z.2.toInt ∧ z.2.toInt ≤ 8) (hm : (z.2.toInt + 2).toNat < 4294967296) : zk (lp (B_X6_fair_13) fuel z S) (fun v S9 => RI S9 ∧ Fr 2048 S S9 ∧ v.1 = 0) := by
  have lm1 : (-1 : Int32).toInt = -1 := by decide
  have l0 : (0 : Int32).toInt = 0 := by decide
  have l10 : (10 : Int32).toInt = 10 := by decide
  refine zk_lp (fun z S => RI S ∧ (-2 ≤ z.2.toInt ∧ z.2.toInt ≤ 8)) (fun z S => (z.2.toInt + 2).toNat) (fun z S (v : Nat × Int32) S9 => RI S9 ∧ Fr 2048 S S9 ∧ v.1 = 0) ?_ z S ⟨RS, hi⟩ hm
  clear RS hi hm
  intro k z S hI hk
  obtain ⟨RS, hI⟩ := hI
  obtain ⟨a1, a2⟩ := z
  (try dsimp only at hI); (try dsimp only at hk); (try dsimp only)
  have FS : Fr 2048 S S := Fr.rf
  unfold B_X6_fair_13
  dsimp only
  refine zk_lt (fun c1 => ?_) (fun c1 => ?_)
  ·
    exact zk_some ⟨RS, FS, by (try dsimp only) <;> omega⟩
  ·
    refine zk_imp (s_B_X6_fair_20 k (a2.toInt + 2) hk _ _ RS (by (try dsimp only) <;> omega) (by (try dsimp only) <;> omega)) (fun v2 T3 h2 => ?_)
    obtain ⟨RT3, fT3, h2⟩ := h2
    have FT3 := FS.tr (fT3.sub (m := 2048) (by decide))
    try dsimp only at h2
    exact ⟨RT3, FT3, by omega⟩
theorem s_F_X6_fair (p1 : Int32) (S0 : fS) (RS0 : RI S0) : zk (F_X6_fair p1 S0) (fun v S9 => RI S9 ∧ Fr 2048 S0 S9 ∧ (v.1 = 0 ∨ v.1 = 1)) := by
  have l0 : (0 : Int32).toInt = 0 := by decide
  have l8 : (8 : Int32).toInt = 8 := by decide
  have l64 : (64 : Int32).toInt = 64 := by decide
  have FS0 : Fr 2048 S0 S0 := Fr.rf
  unfold F_X6_fair
  refine zk_bd (s_F_X6_within _ _ _ _ RS0) (fun v1 T2 h1 => ?_)
  obtain ⟨rfl, h1⟩ := h1
  refine zk_bx (s_F_X6_need _ _ RS0) (fun v3 T4 h3 => ?_) (fun z5 v3 T4 h3 => ?_)
  ·
    obtain ⟨rfl, h3⟩ := h3
    try dsimp only at h3
    refine zk_imp (s_B_X6_fair_13 _ _ RS0 (by (try dsimp only) <;> omega) (by (try dsimp only) <;> omega)) (fun v6 T7 h6 => ?_)
    obtain ⟨RT7, fT7, h6⟩ := h6
    have FT7 := FS0.tr (fT7.sub (m := 2048) (by decide))
    try dsimp only at h6
    exact ⟨RT7, FT7, by omega⟩
  ·
    obtain ⟨rfl, h3⟩ := h3
    try dsimp only at h3
    exact ⟨RS0, FS0, by (try dsimp only) <;> omega⟩
theorem s_F_J9_floorDiv_7cf53 (p0 : Int32) (p1 : Int32) (S0 : fS) (RS0 : RI S0) (hp : ¬ p1.toInt = 0) : zk (F_J9_floorDiv_7cf53 p0 p1 S0) (fun v S9 => S0 = S9 ∧ True) := by
  have l0 : (0 : Int32).toInt = 0 := by decide
  have l1 : (1 : Int32).toInt = 1 := by decide
  unfold F_J9_floorDiv_7cf53
  refine zk_gd (zn0 (by omega)) ?_
  refine zk_iv fun x1 e1 => ?_
  refine zk_iv fun x2 e2 => ?_
  have b3 := ti_bd x2
  refine zk_le (fun c4 => ?_) (fun c4 => ?_)
  ·
    exact zk_some ⟨rfl, trivial⟩
  ·
    refine zk_iv fun x5 e5 => ?_
    have b6 := ti_bd x5
    have b7 := ti_bd p0
    refine zk_eq (fun c8 => ?_) (fun c8 => ?_)
    ·
      exact zk_some ⟨rfl, trivial⟩
    ·
      refine zk_iv fun x9 e9 => ?_
      exact zk_some ⟨rfl, trivial⟩
theorem s_F_J9_floorMod_7cf53 (p0 : Int32) (p1 : Int32) (S0 : fS) (RS0 : RI S0) (hp : ¬ p1.toInt = 0) : zk (F_J9_floorMod_7cf53 p0 p1 S0) (fun v S9 => S0 = S9 ∧ True) := by
  have l0 : (0 : Int32).toInt = 0 := by decide
  unfold F_J9_floorMod_7cf53
  refine zk_gd (zn0 (by omega)) ?_
  refine zk_iv fun x1 e1 => ?_
  refine zk_iv fun x2 e2 => ?_
  have b3 := ti_bd x2
  refine zk_le (fun c4 => ?_) (fun c4 => ?_)
  ·
    exact zk_some ⟨rfl, trivial⟩
  ·
    have b5 := ti_bd x1
    refine zk_eq (fun c6 => ?_) (fun c6 => ?_)
    ·
      exact zk_some ⟨rfl, trivial⟩
    ·
      refine zk_iv fun x7 e7 => ?_
      exact zk_some ⟨rfl, trivial⟩
theorem s_F_X6_back (p1 : Int32) (p2 : Int32) (S0 : fS) (RS0 : RI S0) : zk (F_X6_back p1 p2 S0) (fun v S9 => S0 = S9 ∧ (v.1 = 0 ∨ v.1 = 2 ∨ v.1 = 3)) := by
  have lm2147483648 : (-2147483648 : Int32).toInt = -2147483648 := by decide
  have lm1 : (-1 : Int32).toInt = -1 := by decide
  have l0 : (0 : Int32).toInt = 0 := by decide
  have l3 : (3 : Int32).toInt = 3 := by decide
  have l9 : (9 : Int32).toInt = 9 := by decide
  have l32 : (32 : Int32).toInt = 32 := by decide
  unfold F_X6_back
  refine zk_iv fun x1 e1 => ?_
  have gx1 : 0 ≤ x1.toInt ∧ x1.toInt ≤ 6 := by rw [e1]; exact RS0 0 _ _
  refine zk_bx (s_F_X6_needElement _ _ _ RS0 (by omega)) (fun v2 T3 h2 => ?_) (fun z4 v2 T3 h2 => ?_)
  ·
    obtain ⟨rfl, h2⟩ := h2
    try dsimp only at h2
    refine zk_bx (s_F_X6_needCell _ _ RS0) (fun v5 T6 h5 => ?_) (fun z7 v5 T6 h5 => ?_)
    ·
      obtain ⟨rfl, h5⟩ := h5
      try dsimp only at h5
      refine zk_gd ⟨by omega, by omega⟩ ?_
      refine zk_iv fun x8 e8 => ?_
      refine zk_bd (s_F_X6_weightsReaching _ _ _ RS0) (fun v9 T10 h9 => ?_)
      obtain ⟨rfl, h9⟩ := h9
      refine zk_gd ⟨by omega, by omega⟩ ?_
      refine zk_iv fun x11 e11 => ?_
      have b12 := ti_bd v9
      refine zk_eq (fun c13 => ?_) (fun c13 => ?_)
      ·
        unfold B_X6_back_47
        exact zk_some ⟨rfl, by (try dsimp only) <;> omega⟩
      ·
        have b14 := ti_bd x11
        refine zk_eq (fun c15 => ?_) (fun c15 => ?_)
        ·
          unfold B_X6_back_47
          exact zk_some ⟨rfl, by (try dsimp only) <;> omega⟩
        ·
          refine zk_iv fun x16 e16 => ?_
          refine zk_gd ⟨by omega, by omega⟩ ?_
          refine zk_ivq (x := x8) e8.symm ?_
          refine zk_bd (s_F_X6_allWeights _ _ RS0) (fun v17 T18 h17 => ?_)
          obtain ⟨rfl, h17⟩ := h17
          refine zk_iv fun x19 e19 => ?_
          refine zk_bd (s_F_J9_floorDiv_7cf53 _ _ _ RS0 (by omega)) (fun v20 T21 h20 => ?_)
          obtain ⟨rfl, h20⟩ := h20
          refine zk_bd (s_F_X2_valueOf _ _ _ RS0) (fun v22 T23 h22 => ?_)
          obtain ⟨rfl, h22⟩ := h22
          refine zk_iv fun x24 e24 => ?_
          exact zk_some ⟨rfl, by (try dsimp only) <;> omega⟩
    ·
      obtain ⟨rfl, h5⟩ := h5
      try dsimp only at h5
      exact ⟨rfl, by (try dsimp only) <;> omega⟩
  ·
    obtain ⟨rfl, h2⟩ := h2
    try dsimp only at h2
    exact ⟨rfl, by (try dsimp only) <;> omega⟩
theorem s_B_X6_cut_95  (z : Int32 × Int32 × Int32 × Int32 × Int32 × Int32) (S : fS) (RS : RI S) (hi : 0 ≤ z.1.toInt ∧ z.1.toInt ≤ 5 ∧ 0 ≤ z.2.2.2.2.2.toInt ∧ z.2.2.2.2.2.toInt ≤ 9) (hm : (9 - z.2.2.2.2.2.toInt).toNat < 4294967296) : zk (lp (B_X6_cut_95) fuel z S) (fun v S9 => S = S9 ∧ v.1 = 0) := by
  have l0 : (0 : Int32).toInt = 0 := by decide
  have l1 : (1 : Int32).toInt = 1 := by decide
  have l3 : (3 : Int32).toInt = 3 := by decide
  have l7 : (7 : Int32).toInt = 7 := by decide
  have l9 : (9 : Int32).toInt = 9 := by decide
  have l100 : (100 : Int32).toInt = 100 := by decide
  have lo1 : (Int32.ofInt 1).toInt = 1 := by decide
  refine zk_lp (fun z S => RI S ∧ (0 ≤ z.1.toInt ∧ z.1.toInt ≤ 5 ∧ 0 ≤ z.2.2.2.2.2.toInt ∧ z.2.2.2.2.2.toInt ≤ 9)) (fun z S => (9 - z.2.2.2.2.2.toInt).toNat) (fun z S (v : Nat × Int32) S9 => S = S9 ∧ v.1 = 0) ?_ z S ⟨RS, hi⟩ hm
  clear RS hi hm
  intro k z S hI hk
  obtain ⟨RS, hI⟩ := hI
  obtain ⟨a1, a2, a3, a6, a7, a8⟩ := z
  (try dsimp only at hI); (try dsimp only at hk); (try dsimp only)
  unfold B_X6_cut_95
  dsimp only
  refine zk_le (fun c1 => ?_) (fun c1 => ?_)
  ·
    exact zk_some ⟨rfl, by (try dsimp only) <;> omega⟩
  ·
    refine zk_iv fun x2 e2 => ?_
    have gx2 : 0 ≤ x2.toInt ∧ x2.toInt < 3 := by rw [e2]; exact ti_mod (c := 3) (by decide) (by decide) (by omega)
    refine zk_iv fun x3 e3 => ?_
    refine zk_iv fun x4 e4 => ?_
    refine zk_iv fun x5 e5 => ?_
    refine zk_bd (s_F_J9_floorMod_7cf53 _ _ _ RS (by omega)) (fun v6 T7 h6 => ?_)
    obtain ⟨rfl, h6⟩ := h6
    have b8 := ti_bd v6
    have b9 := ti_bd a3
    refine zk_eq (fun c10 => ?_) (fun c10 => ?_)
    ·
      refine zk_gd ⟨by omega, by omega⟩ ?_
      refine zk_iv fun x11 e11 => ?_
      refine zk_bd (s_F_X6_weightAt _ _ _ RS) (fun v12 T13 h12 => ?_)
      obtain ⟨rfl, h12⟩ := h12
      unfold B_X6_cut_143
      refine zk_iv fun x14 e14 => ?_
      refine zk_iv fun x15 e15 => ?_
      have gx15 : x15.toInt = a8.toInt + (Int32.ofInt 1).toInt := by rw [e15]; exact ti_add (by omega) (by omega)
      refine zk_imp (hk (a1, a2, a3, a6, x14, x15) _ ⟨RS, (by (try dsimp only) <;> omega)⟩ (by (try dsimp only) <;> omega)) (fun v16 T17 h16 => ?_)
      obtain ⟨rfl, h16⟩ := h16
      try dsimp only at h16
      exact ⟨rfl, by omega⟩
    ·
      unfold B_X6_cut_143
      refine zk_iv fun x18 e18 => ?_
      have b19 := ti_bd a7
      have gx18 : x18.toInt = a7.toInt + (0 : Int32).toInt := by rw [e18]; exact ti_add (by omega) (by omega)
      refine zk_iv fun x20 e20 => ?_
      have gx20 : x20.toInt = a8.toInt + (Int32.ofInt 1).toInt := by rw [e20]; exact ti_add (by omega) (by omega)
      refine zk_imp (hk (a1, a2, a3, a6, x18, x20) _ ⟨RS, (by (try dsimp only) <;> omega)⟩ (by (try dsimp only) <;> omega)) (fun v21 T22 h21 => ?_)
      obtain ⟨rfl, h21⟩ := h21
      try dsimp only at h21
      exact ⟨rfl, by omega⟩
theorem s_F_X6_cut (p1 : Int32) (p2 : Int32) (p3 : Int32) (p4 : Int32) (p5 : Int32) (S0 : fS) (RS0 : RI S0) : zk (F_X6_cut p1 p2 p3 p4 p5 S0) (fun v S9 => S0 = S9 ∧ (v.1 = 0 ∨ v.1 = 1 ∨ v.1 = 3)) := by
  have l0 : (0 : Int32).toInt = 0 := by decide
  have l1 : (1 : Int32).toInt = 1 := by decide
  have l8 : (8 : Int32).toInt = 8 := by decide
  have l9 : (9 : Int32).toInt = 9 := by decide
  have l99 : (99 : Int32).toInt = 99 := by decide
  have l999 : (999 : Int32).toInt = 999 := by decide
  unfold F_X6_cut
  refine zk_iv fun x1 e1 => ?_
  have gx1 : 0 ≤ x1.toInt ∧ x1.toInt ≤ 6 := by rw [e1]; exact RS0 0 _ _
  refine zk_bx (s_F_X6_needElement _ _ _ RS0 (by omega)) (fun v2 T3 h2 => ?_) (fun z4 v2 T3 h2 => ?_)
  ·
    obtain ⟨rfl, h2⟩ := h2
    try dsimp only at h2
    refine zk_bd (s_F_X6_within _ _ _ _ RS0) (fun v5 T6 h5 => ?_)
    obtain ⟨rfl, h5⟩ := h5
    refine zk_eq (fun c7 => ?_) (fun c7 => ?_)
    ·
      unfold B_X6_cut_32
      unfold B_X6_cut_33
      refine zk_bx (s_F_X6_need _ _ RS0) (fun v8 T9 h8 => ?_) (fun z10 v8 T9 h8 => ?_)
      ·
        obtain ⟨rfl, h8⟩ := h8
        try dsimp only at h8
        refine zk_bd (s_F_X6_within _ _ _ _ RS0) (fun v11 T12 h11 => ?_)
        obtain ⟨rfl, h11⟩ := h11
        refine zk_eq (fun c13 => ?_) (fun c13 => ?_)
        ·
          unfold B_X6_cut_63
          unfold B_X6_cut_64
          refine zk_bx (s_F_X6_need _ _ RS0) (fun v14 T15 h14 => ?_) (fun z16 v14 T15 h14 => ?_)
          ·
            obtain ⟨rfl, h14⟩ := h14
            try dsimp only at h14
            refine zk_iv fun x17 e17 => ?_
            refine zk_iv fun x18 e18 => ?_
            have b19 := ti_bd x18
            have b20 := ti_bd p5
            refine zk_lt (fun c21 => ?_) (fun c21 => ?_)
            ·
              unfold B_X6_cut_87
              refine zk_imp (s_B_X6_cut_95 _ _ RS0 (by (try dsimp only) <;> omega) (by (try dsimp only) <;> omega)) (fun v22 T23 h22 => ?_)
              obtain ⟨rfl, h22⟩ := h22
              try dsimp only at h22
              exact ⟨rfl, by omega⟩
            ·
              unfold B_X6_cut_87
              refine zk_imp (s_B_X6_cut_95 _ _ RS0 (by (try dsimp only) <;> omega) (by (try dsimp only) <;> omega)) (fun v24 T25 h24 => ?_)
              obtain ⟨rfl, h24⟩ := h24
              try dsimp only at h24
              exact ⟨rfl, by omega⟩
          ·
            obtain ⟨rfl, h14⟩ := h14
            try dsimp only at h14
            exact ⟨rfl, by (try dsimp only) <;> omega⟩
        ·
          refine zk_bd (s_F_X6_within _ _ _ _ RS0) (fun v26 T27 h26 => ?_)
          obtain ⟨rfl, h26⟩ := h26
          refine zk_eq (fun c28 => ?_) (fun c28 => ?_)
          ·
            unfold B_X6_cut_63
            unfold B_X6_cut_64
            refine zk_bx (s_F_X6_need _ _ RS0) (fun v29 T30 h29 => ?_) (fun z31 v29 T30 h29 => ?_)
            ·
              obtain ⟨rfl, h29⟩ := h29
              try dsimp only at h29
              refine zk_iv fun x32 e32 => ?_
              refine zk_iv fun x33 e33 => ?_
              have b34 := ti_bd x33
              have b35 := ti_bd p5
              refine zk_lt (fun c36 => ?_) (fun c36 => ?_)
              ·
                unfold B_X6_cut_87
                refine zk_imp (s_B_X6_cut_95 _ _ RS0 (by (try dsimp only) <;> omega) (by (try dsimp only) <;> omega)) (fun v37 T38 h37 => ?_)
                obtain ⟨rfl, h37⟩ := h37
                try dsimp only at h37
                exact ⟨rfl, by omega⟩
              ·
                unfold B_X6_cut_87
                refine zk_imp (s_B_X6_cut_95 _ _ RS0 (by (try dsimp only) <;> omega) (by (try dsimp only) <;> omega)) (fun v39 T40 h39 => ?_)
                obtain ⟨rfl, h39⟩ := h39
                try dsimp only at h39
                exact ⟨rfl, by omega⟩
            ·
              obtain ⟨rfl, h29⟩ := h29
              try dsimp only at h29
              exact ⟨rfl, by (try dsimp only) <;> omega⟩
          ·
            unfold B_X6_cut_64
            refine zk_bx (s_F_X6_need _ _ RS0) (fun v41 T42 h41 => ?_) (fun z43 v41 T42 h41 => ?_)
            ·
              obtain ⟨rfl, h41⟩ := h41
              try dsimp only at h41
              refine zk_iv fun x44 e44 => ?_
              refine zk_iv fun x45 e45 => ?_
              have b46 := ti_bd x45
              refine zk_lt (fun c47 => ?_) (fun c47 => ?_)
              ·
                unfold B_X6_cut_87
                refine zk_imp (s_B_X6_cut_95 _ _ RS0 (by (try dsimp only) <;> omega) (by (try dsimp only) <;> omega)) (fun v48 T49 h48 => ?_)
                obtain ⟨rfl, h48⟩ := h48
                try dsimp only at h48
                exact ⟨rfl, by omega⟩
              ·
                unfold B_X6_cut_87
                refine zk_imp (s_B_X6_cut_95 _ _ RS0 (by (try dsimp only) <;> omega) (by (try dsimp only) <;> omega)) (fun v50 T51 h50 => ?_)
                obtain ⟨rfl, h50⟩ := h50
                try dsimp only at h50
                exact ⟨rfl, by omega⟩
            ·
              obtain ⟨rfl, h41⟩ := h41
              try dsimp only at h41
              exact ⟨rfl, by (try dsimp only) <;> omega⟩
      ·
        obtain ⟨rfl, h8⟩ := h8
        try dsimp only at h8
        exact ⟨rfl, by (try dsimp only) <;> omega⟩
    ·
      refine zk_bd (s_F_X6_within _ _ _ _ RS0) (fun v52 T53 h52 => ?_)
      obtain ⟨rfl, h52⟩ := h52
      refine zk_eq (fun c54 => ?_) (fun c54 => ?_)
      ·
        unfold B_X6_cut_32
        unfold B_X6_cut_33
        refine zk_bx (s_F_X6_need _ _ RS0) (fun v55 T56 h55 => ?_) (fun z57 v55 T56 h55 => ?_)
        ·
          obtain ⟨rfl, h55⟩ := h55
          try dsimp only at h55
          refine zk_bd (s_F_X6_within _ _ _ _ RS0) (fun v58 T59 h58 => ?_)
          obtain ⟨rfl, h58⟩ := h58
          refine zk_eq (fun c60 => ?_) (fun c60 => ?_)
          ·
            unfold B_X6_cut_63
            unfold B_X6_cut_64
            refine zk_bx (s_F_X6_need _ _ RS0) (fun v61 T62 h61 => ?_) (fun z63 v61 T62 h61 => ?_)
            ·
              obtain ⟨rfl, h61⟩ := h61
              try dsimp only at h61
              refine zk_iv fun x64 e64 => ?_
              refine zk_iv fun x65 e65 => ?_
              have b66 := ti_bd x65
              have b67 := ti_bd p5
              refine zk_lt (fun c68 => ?_) (fun c68 => ?_)
              ·
                unfold B_X6_cut_87
                refine zk_imp (s_B_X6_cut_95 _ _ RS0 (by (try dsimp only) <;> omega) (by (try dsimp only) <;> omega)) (fun v69 T70 h69 => ?_)
                obtain ⟨rfl, h69⟩ := h69
                try dsimp only at h69
                exact ⟨rfl, by omega⟩
              ·
                unfold B_X6_cut_87
                refine zk_imp (s_B_X6_cut_95 _ _ RS0 (by (try dsimp only) <;> omega) (by (try dsimp only) <;> omega)) (fun v71 T72 h71 => ?_)
                obtain ⟨rfl, h71⟩ := h71
                try dsimp only at h71
                exact ⟨rfl, by omega⟩
            ·
              obtain ⟨rfl, h61⟩ := h61
              try dsimp only at h61
              exact ⟨rfl, by (try dsimp only) <;> omega⟩
          ·
            refine zk_bd (s_F_X6_within _ _ _ _ RS0) (fun v73 T74 h73 => ?_)
            obtain ⟨rfl, h73⟩ := h73
            refine zk_eq (fun c75 => ?_) (fun c75 => ?_)
            ·
              unfold B_X6_cut_63
              unfold B_X6_cut_64
              refine zk_bx (s_F_X6_need _ _ RS0) (fun v76 T77 h76 => ?_) (fun z78 v76 T77 h76 => ?_)
              ·
                obtain ⟨rfl, h76⟩ := h76
                try dsimp only at h76
                refine zk_iv fun x79 e79 => ?_
                refine zk_iv fun x80 e80 => ?_
                have b81 := ti_bd x80
                have b82 := ti_bd p5
                refine zk_lt (fun c83 => ?_) (fun c83 => ?_)
                ·
                  unfold B_X6_cut_87
                  refine zk_imp (s_B_X6_cut_95 _ _ RS0 (by (try dsimp only) <;> omega) (by (try dsimp only) <;> omega)) (fun v84 T85 h84 => ?_)
                  obtain ⟨rfl, h84⟩ := h84
                  try dsimp only at h84
                  exact ⟨rfl, by omega⟩
                ·
                  unfold B_X6_cut_87
                  refine zk_imp (s_B_X6_cut_95 _ _ RS0 (by (try dsimp only) <;> omega) (by (try dsimp only) <;> omega)) (fun v86 T87 h86 => ?_)
                  obtain ⟨rfl, h86⟩ := h86
                  try dsimp only at h86
                  exact ⟨rfl, by omega⟩
              ·
                obtain ⟨rfl, h76⟩ := h76
                try dsimp only at h76
                exact ⟨rfl, by (try dsimp only) <;> omega⟩
            ·
              unfold B_X6_cut_64
              refine zk_bx (s_F_X6_need _ _ RS0) (fun v88 T89 h88 => ?_) (fun z90 v88 T89 h88 => ?_)
              ·
                obtain ⟨rfl, h88⟩ := h88
                try dsimp only at h88
                refine zk_iv fun x91 e91 => ?_
                refine zk_iv fun x92 e92 => ?_
                have b93 := ti_bd x92
                refine zk_lt (fun c94 => ?_) (fun c94 => ?_)
                ·
                  unfold B_X6_cut_87
                  refine zk_imp (s_B_X6_cut_95 _ _ RS0 (by (try dsimp only) <;> omega) (by (try dsimp only) <;> omega)) (fun v95 T96 h95 => ?_)
                  obtain ⟨rfl, h95⟩ := h95
                  try dsimp only at h95
                  exact ⟨rfl, by omega⟩
                ·
                  unfold B_X6_cut_87
                  refine zk_imp (s_B_X6_cut_95 _ _ RS0 (by (try dsimp only) <;> omega) (by (try dsimp only) <;> omega)) (fun v97 T98 h97 => ?_)
                  obtain ⟨rfl, h97⟩ := h97
                  try dsimp only at h97
                  exact ⟨rfl, by omega⟩
              ·
                obtain ⟨rfl, h88⟩ := h88
                try dsimp only at h88
                exact ⟨rfl, by (try dsimp only) <;> omega⟩
        ·
          obtain ⟨rfl, h55⟩ := h55
          try dsimp only at h55
          exact ⟨rfl, by (try dsimp only) <;> omega⟩
      ·
        unfold B_X6_cut_33
        refine zk_bx (s_F_X6_need _ _ RS0) (fun v99 T100 h99 => ?_) (fun z101 v99 T100 h99 => ?_)
        ·
          obtain ⟨rfl, h99⟩ := h99
          try dsimp only at h99
          refine zk_bd (s_F_X6_within _ _ _ _ RS0) (fun v102 T103 h102 => ?_)
          obtain ⟨rfl, h102⟩ := h102
          refine zk_eq (fun c104 => ?_) (fun c104 => ?_)
          ·
            unfold B_X6_cut_63
            unfold B_X6_cut_64
            refine zk_bx (s_F_X6_need _ _ RS0) (fun v105 T106 h105 => ?_) (fun z107 v105 T106 h105 => ?_)
            ·
              obtain ⟨rfl, h105⟩ := h105
              try dsimp only at h105
              refine zk_iv fun x108 e108 => ?_
              refine zk_iv fun x109 e109 => ?_
              have b110 := ti_bd x109
              have b111 := ti_bd p5
              refine zk_lt (fun c112 => ?_) (fun c112 => ?_)
              ·
                unfold B_X6_cut_87
                refine zk_imp (s_B_X6_cut_95 _ _ RS0 (by (try dsimp only) <;> omega) (by (try dsimp only) <;> omega)) (fun v113 T114 h113 => ?_)
                obtain ⟨rfl, h113⟩ := h113
                try dsimp only at h113
                exact ⟨rfl, by omega⟩
              ·
                unfold B_X6_cut_87
                refine zk_imp (s_B_X6_cut_95 _ _ RS0 (by (try dsimp only) <;> omega) (by (try dsimp only) <;> omega)) (fun v115 T116 h115 => ?_)
                obtain ⟨rfl, h115⟩ := h115
                try dsimp only at h115
                exact ⟨rfl, by omega⟩
            ·
              obtain ⟨rfl, h105⟩ := h105
              try dsimp only at h105
              exact ⟨rfl, by (try dsimp only) <;> omega⟩
          ·
            refine zk_bd (s_F_X6_within _ _ _ _ RS0) (fun v117 T118 h117 => ?_)
            obtain ⟨rfl, h117⟩ := h117
            refine zk_eq (fun c119 => ?_) (fun c119 => ?_)
            ·
              unfold B_X6_cut_63
              unfold B_X6_cut_64
              refine zk_bx (s_F_X6_need _ _ RS0) (fun v120 T121 h120 => ?_) (fun z122 v120 T121 h120 => ?_)
              ·
                obtain ⟨rfl, h120⟩ := h120
                try dsimp only at h120
                refine zk_iv fun x123 e123 => ?_
                refine zk_iv fun x124 e124 => ?_
                have b125 := ti_bd x124
                have b126 := ti_bd p5
                refine zk_lt (fun c127 => ?_) (fun c127 => ?_)
                ·
                  unfold B_X6_cut_87
                  refine zk_imp (s_B_X6_cut_95 _ _ RS0 (by (try dsimp only) <;> omega) (by (try dsimp only) <;> omega)) (fun v128 T129 h128 => ?_)
                  obtain ⟨rfl, h128⟩ := h128
                  try dsimp only at h128
                  exact ⟨rfl, by omega⟩
                ·
                  unfold B_X6_cut_87
                  refine zk_imp (s_B_X6_cut_95 _ _ RS0 (by (try dsimp only) <;> omega) (by (try dsimp only) <;> omega)) (fun v130 T131 h130 => ?_)
                  obtain ⟨rfl, h130⟩ := h130
                  try dsimp only at h130
                  exact ⟨rfl, by omega⟩
              ·
                obtain ⟨rfl, h120⟩ := h120
                try dsimp only at h120
                exact ⟨rfl, by (try dsimp only) <;> omega⟩
            ·
              unfold B_X6_cut_64
              refine zk_bx (s_F_X6_need _ _ RS0) (fun v132 T133 h132 => ?_) (fun z134 v132 T133 h132 => ?_)
              ·
                obtain ⟨rfl, h132⟩ := h132
                try dsimp only at h132
                refine zk_iv fun x135 e135 => ?_
                refine zk_iv fun x136 e136 => ?_
                have b137 := ti_bd x136
                refine zk_lt (fun c138 => ?_) (fun c138 => ?_)
                ·
                  unfold B_X6_cut_87
                  refine zk_imp (s_B_X6_cut_95 _ _ RS0 (by (try dsimp only) <;> omega) (by (try dsimp only) <;> omega)) (fun v139 T140 h139 => ?_)
                  obtain ⟨rfl, h139⟩ := h139
                  try dsimp only at h139
                  exact ⟨rfl, by omega⟩
                ·
                  unfold B_X6_cut_87
                  refine zk_imp (s_B_X6_cut_95 _ _ RS0 (by (try dsimp only) <;> omega) (by (try dsimp only) <;> omega)) (fun v141 T142 h141 => ?_)
                  obtain ⟨rfl, h141⟩ := h141
                  try dsimp only at h141
                  exact ⟨rfl, by omega⟩
              ·
                obtain ⟨rfl, h132⟩ := h132
                try dsimp only at h132
                exact ⟨rfl, by (try dsimp only) <;> omega⟩
        ·
          obtain ⟨rfl, h99⟩ := h99
          try dsimp only at h99
          exact ⟨rfl, by (try dsimp only) <;> omega⟩
  ·
    obtain ⟨rfl, h2⟩ := h2
    try dsimp only at h2
    exact ⟨rfl, by (try dsimp only) <;> omega⟩
