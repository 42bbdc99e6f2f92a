/-! the pure part: programs run, tries known -/
def GI (S : fS) : Prop := Cl S ∧ (∀ i k : Nat, (k : Int) < (ge S 1 i 12).toInt → ∃ t : Nat, gr S 11 i k = some t) ∧ ∀ i : Nat, ln S i ≤ 300
def OKo (o : Option Nat) (S : fS) : Prop := ∀ t : Nat, o = some t → t < nC S
theorem GI.wr {S : fS} {a i j k : Nat} {v : Int32} (h : GI S) (hk : rgn a j = k) (h5 : k ≠ 5) : GI (pu S a i j v) := by
  refine ⟨h.1, fun i' k' q => h.2.1 i' k' ?_, h.2.2⟩
  rw [ge_pu, if_neg (fun e => h5 (by rw [← hk, ← e.1, ← e.2.2]; rfl))] at q
  exact q
theorem GI.fr {S S' : fS} {m : Nat} (h : GI S) (hF : Fr m S S') (h5 : m.testBit 5 = false) (h31 : m.testBit 31 = false) : GI S' := by
  have e := hF.2 h31
  have e1 : ∀ a i j : Nat, gr S' a i j = gr S a i j := fun a i j => by unfold gr; rw [e]
  have e2 : nT S' = nT S := by unfold nT; rw [e]
  have e3 : nC S' = nC S := by unfold nC; rw [e]
  refine ⟨⟨fun i j t q => ?_, fun a i j t ha q => ?_⟩, fun i k q => ?_, fun i => ?_⟩
  · rw [e2]; exact h.1.1 i j t (by rw [← e1]; exact q)
  · rw [e3]; exact h.1.2 a i j t ha (by rw [← e1]; exact q)
  · rw [e1]; exact h.2.1 i k (by rw [← hF.1 1 i 12 h5]; exact q)
  · have e4 : ln S' i = ln S i := by unfold ln; rw [e]
    rw [e4]; exact h.2.2 i
theorem GI.code {S : fS} {a i j : Nat} (h : GI S) (ha : a = 13 ∨ a = 14) : OKo (gr S a i j) S := fun t q => h.1.2 a i j t ha q
theorem OKo.mv {o : Option Nat} {S0 S1 S2 : fS} {m : Nat} (h : OKo o S1) (f1 : Fr m S0 S1) (f2 : Fr m S0 S2) (hm : m.testBit 31 = false) : OKo o S2 := by
  have e1 : nC S1 = nC S0 := by unfold nC; rw [f1.2 hm]
  have e2 : nC S2 = nC S0 := by unfold nC; rw [f2.2 hm]
  intro t q
  rw [e2, ← e1]
  exact h t q
theorem s_F_X0_recordAt (r0 : Nat) (p1 : Int32) (S0 : fS) (RS0 : RI S0) (GS0 : GI S0) (hpr : 0 ≤ p1.toInt ∧ p1.toInt < (ge S0 1 r0 12).toInt) : zk (F_X0_recordAt r0 p1 S0) (fun v S9 => S0 = S9 ∧ v < nT S0) := by
  have l0 : (0 : Int32).toInt = 0 := by decide
  have l200 : (200 : Int32).toInt = 200 := by decide
  have g : 0 ≤ (ge S0 1 r0 12).toInt ∧ (ge S0 1 r0 12).toInt ≤ 200 := RS0 1 _ _
  have hk := cn_eq hpr.1
  unfold F_X0_recordAt
  refine zk_lt (fun c => False.elim (by omega)) (fun c => ?_)
  refine zk_le (fun c => False.elim (by omega)) (fun c => ?_)
  refine zk_gd ⟨by omega, by omega⟩ ?_
  refine zk_qv fun o e => ?_
  unfold B_X0_recordAt_21
  obtain ⟨t, ht⟩ := GS0.2.1 r0 p1.toNatClampNeg (by omega)
  refine zk_oc (fun q => ?_) (fun t' q => ?_)
  · rw [e, ht] at q
    cases q
  · have h9 := GS0.1.1 r0 p1.toNatClampNeg t' (by rw [← e]; exact q)
    exact zk_gd h9 (zk_some ⟨rfl, h9⟩)
theorem s_B_X3_run_21 (o1 : Option Nat) (r2 : Nat) (z : Nat × Int32 × Int32) (S : fS) (RS : RI S) (hl : ln S z.1 ≤ 300) (hi : 0 ≤ z.2.2.toInt ∧ z.2.2.toInt ≤ 300) : zk (lp (B_X3_run_21 o1 r2) fuel z S) (fun v S9 => RI S9 ∧ Fr 1 S S9 ∧ True) := by
  have l1000 : (1000 : Int32).toInt = 1000 := by decide
  have l2000 : (2000 : Int32).toInt = 2000 := by decide
  refine zk_lp (fun z S => RI S ∧ ln S z.1 ≤ 300 ∧ 0 ≤ z.2.2.toInt ∧ z.2.2.toInt ≤ 300) (fun z S => (300 - z.2.2.toInt).toNat) (fun z S (v : Int32) S9 => RI S9 ∧ Fr 1 S S9 ∧ True) ?_ z S ⟨RS, hl, hi⟩ (by omega)
  clear RS hl hi
  intro k z S hI hk
  obtain ⟨RS, hl, hI⟩ := hI
  obtain ⟨a1, a3, a4⟩ := z
  dsimp only at hl hI hk ⊢
  have FS : Fr 1 S S := Fr.rf
  have hN : (Int32.ofNat (ln S a1)).toInt = ((ln S a1 : Nat) : Int) := nI_toInt (by omega)
  have J : ∀ S2 : fS, RI S2 → Fr 1 S S2 → a4.toInt < 300 → zk (B_X3_run_89 o1 r2 k a1 a3 a4 S2) (fun v S9 => RI S9 ∧ Fr 1 S S9 ∧ True) := by
    intro S2 R2 F2 h
    unfold B_X3_run_89
    refine zk_iv fun x e => ?_
    have g : x.toInt = a4.toInt + 1 := by rw [e]; exact ti_inc (by omega)
    have e2 : ln S2 a1 = ln S a1 := by unfold ln; rw [F2.2 rfl]
    refine zk_imp (hk (a1, a3, x) S2 ⟨R2, by dsimp only; omega, by dsimp only; omega⟩ (by dsimp only; omega)) (fun v S9 h => ⟨h.1, F2.tr h.2.1, trivial⟩)
  unfold B_X3_run_21
  dsimp only
  refine zk_iv fun x e => ?_
  have g : x.toInt = ((ln S a1 : Nat) : Int) := by rw [e]; exact hN
  refine zk_le (fun c => zk_some ⟨RS, FS, trivial⟩) (fun c => ?_)
  refine zk_gd ⟨by omega, by omega⟩ ?_
  refine zk_iv fun x5 e5 => ?_
  refine zk_le (fun c => ?_) (fun c => ?_)
  · refine zk_le (fun c => ?_) (fun c => ?_)
    · refine zk_bd (s_F_X3_work _ _ RS) (fun v T h => ?_)
      exact J T h.1 h.2.1 (by omega)
    · refine zk_iv fun y ey => ?_
      refine zk_bd (s_F_X3_named _ _ _ _ RS) (fun v T h => ?_)
      obtain ⟨rfl, _⟩ := h
      refine zk_bd (s_F_X3_push _ _ RS) (fun v T h => ?_)
      exact J T h.1 h.2.1 (by omega)
  · refine zk_bd (s_F_X3_push _ _ RS) (fun v T h => ?_)
    exact J T h.1 h.2.1 (by omega)
theorem s_F_X3_run (o1 : Option Nat) (r2 : Nat) (p3 : Int32) (S0 : fS) (RS0 : RI S0) (GS0 : GI S0) (Oo1 : OKo o1 S0) : zk (F_X3_run o1 r2 p3 S0) (fun v S9 => RI S9 ∧ Fr 1 S0 S9 ∧ True) := by
  have l0 : (0 : Int32).toInt = 0 := by decide
  unfold F_X3_run
  refine zk_sv fun S1 E1 => ?_
  have R1 : RI S1 := by rw [E1]; exact RS0.wr (show (0 : Int) ≤ (0 : Int32).toInt by omega) (show (0 : Int32).toInt ≤ 300 by omega)
  have F1 : Fr 1 S0 S1 := by rw [E1]; exact Fr.rf.wr (k := 0) rfl rfl
  refine zk_bd (s_F_fill24 _ _ R1) (fun v T h => ?_)
  have F2 : Fr 1 S0 T := F1.tr h.2.1
  have hC : nC T = nC S0 := by unfold nC; rw [F2.2 rfl]
  refine zk_oc (fun q => zk_some ⟨h.1, F2, trivial⟩) (fun t q => ?_)
  refine zk_gd (by rw [hC]; exact Oo1 t q) ?_
  have hL : ln T t ≤ 300 := by have e2 : ln T t = ln S0 t := by unfold ln; rw [F2.2 rfl]
                               rw [e2]; exact GS0.2.2 t
  refine zk_imp (s_B_X3_run_21 o1 r2 _ _ h.1 hL (by dsimp only; omega)) (fun v S9 h2 => ⟨h2.1, F2.tr h2.2.1, trivial⟩)
theorem s_F_X6_record (p1 : Int32) (p2 : Int32) (S0 : fS) (RS0 : RI S0) (GS0 : GI S0) : zk (F_X6_record p1 p2 S0) (fun v S9 => S0 = S9 ∧ (v.1 = 0 ∨ v.1 = 1 ∨ v.1 = 3)) := by
  have l0 : (0 : Int32).toInt = 0 := by decide
  have l9 : (9 : Int32).toInt = 9 := by decide
  have l12 : (12 : Int32).toInt = 12 := by decide
  have l17 : (17 : Int32).toInt = 17 := by decide
  unfold F_X6_record
  obtain ⟨y1, ey1⟩ : ∃ y : Int32, y = ge S0 1 0 12 := ⟨_, rfl⟩
  have gy1 : 0 ≤ y1.toInt ∧ y1.toInt ≤ 200 := by rw [ey1]; exact RS0 1 _ _
  have q2 : (ge S0 1 0 12).toInt = y1.toInt := congrArg Int32.toInt (show ge S0 1 0 12 = y1 from ey1.symm)
  refine zk_ivq (x := y1) ey1.symm ?_
  refine zk_bx (s_F_X6_needElement _ _ _ RS0 (by omega)) (fun v3 T4 h3 => ?_) (fun z5 v3 T4 h3 => ?_)
  ·
    obtain ⟨rfl, h3⟩ := h3
    try dsimp only at h3
    refine zk_bd (s_F_X6_within _ _ _ _ RS0) (fun v6 T7 h6 => ?_)
    obtain ⟨rfl, h6⟩ := h6
    refine zk_bx (s_F_X6_need _ _ RS0) (fun v8 T9 h8 => ?_) (fun z10 v8 T9 h8 => ?_)
    ·
      obtain ⟨rfl, h8⟩ := h8
      try dsimp only at h8
      have q11 : (ge S0 1 0 12).toInt = y1.toInt := congrArg Int32.toInt (show ge S0 1 0 12 = y1 from ey1.symm)
      refine zk_bd (s_F_X0_recordAt _ _ _ RS0 GS0 (by omega)) (fun v12 T13 h12 => ?_)
      obtain ⟨rfl, h12⟩ := h12
      refine zk_gd (by assumption) ?_
      refine zk_bd (s_F_X5_told _ _ _ RS0) (fun v14 T15 h14 => ?_)
      obtain ⟨rfl, h14⟩ := h14
      have q16 : (ge S0 1 0 12).toInt = y1.toInt := congrArg Int32.toInt (show ge S0 1 0 12 = y1 from ey1.symm)
      exact zk_some ⟨rfl, by (try dsimp only) <;> omega⟩
    ·
      obtain ⟨rfl, h8⟩ := h8
      try dsimp only at h8
      exact ⟨rfl, by (try dsimp only) <;> omega⟩
  ·
    obtain ⟨rfl, h3⟩ := h3
    try dsimp only at h3
    exact ⟨rfl, by (try dsimp only) <;> omega⟩
theorem s_F_X6_codeInForce (S0 : fS) (RS0 : RI S0) (GS0 : GI S0) : zk (F_X6_codeInForce S0) (fun v S9 => S0 = S9 ∧ OKo v S0) := by
  have l0 : (0 : Int32).toInt = 0 := by decide
  have l1 : (1 : Int32).toInt = 1 := by decide
  have l5 : (5 : Int32).toInt = 5 := by decide
  have l6 : (6 : Int32).toInt = 6 := by decide
  unfold F_X6_codeInForce
  refine zk_iv fun x1 e1 => ?_
  refine zk_iv fun x2 e2 => ?_
  have gx2 : 0 ≤ x2.toInt ∧ x2.toInt ≤ 6 := by rw [e2]; exact RS0 0 _ _
  refine zk_iv fun x3 e3 => ?_
  have gx3 : x3.toInt = x2.toInt - (1 : Int32).toInt := by rw [e3]; exact ti_sub (by omega) (by omega)
  refine zk_bd (s_F_X6_within _ _ _ _ RS0) (fun v4 T5 h4 => ?_)
  obtain ⟨rfl, h4⟩ := h4
  refine zk_eq (fun c6 => ?_) (fun c6 => ?_)
  ·
    exact zk_some ⟨rfl, fun _ q => by cases q⟩
  ·
    refine zk_ivq (x := x1) e1.symm ?_
    refine zk_gd ⟨by omega, by omega⟩ ?_
    refine zk_qv fun o7 eo7 => ?_
    have Oo7 : OKo o7 S0 := by rw [eo7]; exact GS0.code (by decide)
    exact zk_some ⟨rfl, Oo7⟩
theorem s_F_X3_holds (o1 : Option Nat) (r2 : Nat) (S0 : fS) (RS0 : RI S0) (GS0 : GI S0) (Oo1 : OKo o1 S0) : zk (F_X3_holds o1 r2 S0) (fun v S9 => RI S9 ∧ Fr 1 S0 S9 ∧ True) := by
  have l0 : (0 : Int32).toInt = 0 := by decide
  have l1 : (1 : Int32).toInt = 1 := by decide
  have FS0 : Fr 1 S0 S0 := Fr.rf
  unfold F_X3_holds
  refine zk_bd (s_F_X3_run _ _ _ _ RS0 GS0 Oo1) (fun v1 T2 h1 => ?_)
  obtain ⟨RT2, fT2, h1⟩ := h1
  have FT2 := FS0.tr (fT2.sub (m := 1) (by decide))
  have GT2 := GS0.fr fT2 rfl rfl
  refine zk_bd (s_F_X3_pop _ RT2) (fun v3 T4 h3 => ?_)
  obtain ⟨RT4, fT4, h3⟩ := h3
  have FT4 := FT2.tr (fT4.sub (m := 1) (by decide))
  have GT4 := GT2.fr fT4 rfl rfl
  have b5 := ti_bd v3
  refine zk_eq (fun c6 => ?_) (fun c6 => ?_)
  ·
    exact zk_some ⟨RT4, FT4, trivial⟩
  ·
    exact zk_some ⟨RT4, FT4, trivial⟩
theorem s_F_X6_tells (p1 : Int32) (p2 : Int32) (S0 : fS) (RS0 : RI S0) (GS0 : GI S0) : zk (F_X6_tells p1 p2 S0) (fun v S9 => RI S9 ∧ Fr 2049 S0 S9 ∧ (v.1 = 0 ∨ v.1 = 1)) := by
  have l0 : (0 : Int32).toInt = 0 := by decide
  have l1 : (1 : Int32).toInt = 1 := by decide
  have l2 : (2 : Int32).toInt = 2 := by decide
  have l6 : (6 : Int32).toInt = 6 := by decide
  have l9 : (9 : Int32).toInt = 9 := by decide
  have l12 : (12 : Int32).toInt = 12 := by decide
  have l35 : (35 : Int32).toInt = 35 := by decide
  have FS0 : Fr 2049 S0 S0 := Fr.rf
  unfold F_X6_tells
  refine zk_bd (s_F_X6_within _ _ _ _ RS0) (fun v1 T2 h1 => ?_)
  obtain ⟨rfl, h1⟩ := h1
  refine zk_eq (fun c3 => ?_) (fun c3 => ?_)
  ·
    unfold B_X6_tells_23
    unfold B_X6_tells_24
    refine zk_bx (s_F_X6_need _ _ RS0) (fun v4 T5 h4 => ?_) (fun z6 v4 T5 h4 => ?_)
    ·
      obtain ⟨rfl, h4⟩ := h4
      try dsimp only at h4
      refine zk_bd (s_F_X5_nameNext _ _ _ RS0) (fun v7 T8 h7 => ?_)
      obtain ⟨RT8, fT8, h7⟩ := h7
      have FT8 := FS0.tr (fT8.sub (m := 2049) (by decide))
      have GT8 := GS0.fr fT8 rfl rfl
      refine zk_bd (s_F_X6_codeInForce _ RT8 GT8) (fun v9 T10 h9 => ?_)
      obtain ⟨rfl, h9⟩ := h9
      have b11 := ti_bd p1
      refine zk_eq (fun c12 => ?_) (fun c12 => ?_)
      ·
        unfold B_X6_tells_60
        refine zk_bd (s_F_X3_run _ _ _ _ RT8 GT8 h9) (fun v13 T14 h13 => ?_)
        obtain ⟨RT14, fT14, h13⟩ := h13
        have FT14 := FT8.tr (fT14.sub (m := 2049) (by decide))
        have GT14 := GT8.fr fT14 rfl rfl
        refine zk_eq (fun c15 => ?_) (fun c15 => ?_)
        ·
          exact False.elim (by omega)
        ·
          refine zk_eq (fun c16 => ?_) (fun c16 => ?_)
          ·
            exact False.elim (by omega)
          ·
            refine zk_bd (s_F_X3_lots _ RT14) (fun v17 T18 h17 => ?_)
            obtain ⟨rfl, h17⟩ := h17
            exact zk_some ⟨RT14, FT14, by (try dsimp only) <;> omega⟩
      ·
        unfold B_X6_tells_60
        refine zk_bd (s_F_X3_run _ _ _ _ RT8 GT8 h9) (fun v19 T20 h19 => ?_)
        obtain ⟨RT20, fT20, h19⟩ := h19
        have FT20 := FT8.tr (fT20.sub (m := 2049) (by decide))
        have GT20 := GT8.fr fT20 rfl rfl
        refine zk_eq (fun c21 => ?_) (fun c21 => ?_)
        ·
          refine zk_bd (s_F_X3_grip _ RT20) (fun v22 T23 h22 => ?_)
          obtain ⟨rfl, h22⟩ := h22
          exact zk_some ⟨RT20, FT20, by (try dsimp only) <;> omega⟩
        ·
          refine zk_eq (fun c24 => ?_) (fun c24 => ?_)
          ·
            refine zk_bd (s_F_X3_slip _ RT20) (fun v25 T26 h25 => ?_)
            obtain ⟨rfl, h25⟩ := h25
            exact zk_some ⟨RT20, FT20, by (try dsimp only) <;> omega⟩
          ·
            refine zk_bd (s_F_X3_lots _ RT20) (fun v27 T28 h27 => ?_)
            obtain ⟨rfl, h27⟩ := h27
            exact zk_some ⟨RT20, FT20, by (try dsimp only) <;> omega⟩
    ·
      obtain ⟨rfl, h4⟩ := h4
      try dsimp only at h4
      exact ⟨RS0, FS0, by (try dsimp only) <;> omega⟩
  ·
    refine zk_bd (s_F_X6_within _ _ _ _ RS0) (fun v29 T30 h29 => ?_)
    obtain ⟨rfl, h29⟩ := h29
    refine zk_eq (fun c31 => ?_) (fun c31 => ?_)
    ·
      unfold B_X6_tells_23
      unfold B_X6_tells_24
      refine zk_bx (s_F_X6_need _ _ RS0) (fun v32 T33 h32 => ?_) (fun z34 v32 T33 h32 => ?_)
      ·
        obtain ⟨rfl, h32⟩ := h32
        try dsimp only at h32
        refine zk_bd (s_F_X5_nameNext _ _ _ RS0) (fun v35 T36 h35 => ?_)
        obtain ⟨RT36, fT36, h35⟩ := h35
        have FT36 := FS0.tr (fT36.sub (m := 2049) (by decide))
        have GT36 := GS0.fr fT36 rfl rfl
        refine zk_bd (s_F_X6_codeInForce _ RT36 GT36) (fun v37 T38 h37 => ?_)
        obtain ⟨rfl, h37⟩ := h37
        refine zk_eq (fun c39 => ?_) (fun c39 => ?_)
        ·
          unfold B_X6_tells_60
          refine zk_bd (s_F_X3_run _ _ _ _ RT36 GT36 h37) (fun v40 T41 h40 => ?_)
          obtain ⟨RT41, fT41, h40⟩ := h40
          have FT41 := FT36.tr (fT41.sub (m := 2049) (by decide))
          have GT41 := GT36.fr fT41 rfl rfl
          refine zk_eq (fun c42 => ?_) (fun c42 => ?_)
          ·
            exact False.elim (by omega)
          ·
            refine zk_eq (fun c43 => ?_) (fun c43 => ?_)
            ·
              exact False.elim (by omega)
            ·
              refine zk_bd (s_F_X3_lots _ RT41) (fun v44 T45 h44 => ?_)
              obtain ⟨rfl, h44⟩ := h44
              exact zk_some ⟨RT41, FT41, by (try dsimp only) <;> omega⟩
        ·
          unfold B_X6_tells_60
          refine zk_bd (s_F_X3_run _ _ _ _ RT36 GT36 h37) (fun v46 T47 h46 => ?_)
          obtain ⟨RT47, fT47, h46⟩ := h46
          have FT47 := FT36.tr (fT47.sub (m := 2049) (by decide))
          have GT47 := GT36.fr fT47 rfl rfl
          refine zk_eq (fun c48 => ?_) (fun c48 => ?_)
          ·
            refine zk_bd (s_F_X3_grip _ RT47) (fun v49 T50 h49 => ?_)
            obtain ⟨rfl, h49⟩ := h49
            exact zk_some ⟨RT47, FT47, by (try dsimp only) <;> omega⟩
          ·
            refine zk_eq (fun c51 => ?_) (fun c51 => ?_)
            ·
              refine zk_bd (s_F_X3_slip _ RT47) (fun v52 T53 h52 => ?_)
              obtain ⟨rfl, h52⟩ := h52
              exact zk_some ⟨RT47, FT47, by (try dsimp only) <;> omega⟩
            ·
              exact False.elim (by omega)
      ·
        obtain ⟨rfl, h32⟩ := h32
        try dsimp only at h32
        exact ⟨RS0, FS0, by (try dsimp only) <;> omega⟩
    ·
      unfold B_X6_tells_24
      refine zk_bx (s_F_X6_need _ _ RS0) (fun v54 T55 h54 => ?_) (fun z56 v54 T55 h54 => ?_)
      ·
        obtain ⟨rfl, h54⟩ := h54
        try dsimp only at h54
        refine zk_bd (s_F_X5_nameNext _ _ _ RS0) (fun v57 T58 h57 => ?_)
        obtain ⟨RT58, fT58, h57⟩ := h57
        have FT58 := FS0.tr (fT58.sub (m := 2049) (by decide))
        have GT58 := GS0.fr fT58 rfl rfl
        refine zk_bd (s_F_X6_codeInForce _ RT58 GT58) (fun v59 T60 h59 => ?_)
        obtain ⟨rfl, h59⟩ := h59
        refine zk_eq (fun c61 => ?_) (fun c61 => ?_)
        ·
          unfold B_X6_tells_60
          refine zk_bd (s_F_X3_run _ _ _ _ RT58 GT58 h59) (fun v62 T63 h62 => ?_)
          obtain ⟨RT63, fT63, h62⟩ := h62
          have FT63 := FT58.tr (fT63.sub (m := 2049) (by decide))
          have GT63 := GT58.fr fT63 rfl rfl
          refine zk_eq (fun c64 => ?_) (fun c64 => ?_)
          ·
            exact False.elim (by omega)
          ·
            refine zk_eq (fun c65 => ?_) (fun c65 => ?_)
            ·
              exact False.elim (by omega)
            ·
              refine zk_bd (s_F_X3_lots _ RT63) (fun v66 T67 h66 => ?_)
              obtain ⟨rfl, h66⟩ := h66
              exact zk_some ⟨RT63, FT63, by (try dsimp only) <;> omega⟩
        ·
          unfold B_X6_tells_60
          refine zk_bd (s_F_X3_run _ _ _ _ RT58 GT58 h59) (fun v68 T69 h68 => ?_)
          obtain ⟨RT69, fT69, h68⟩ := h68
          have FT69 := FT58.tr (fT69.sub (m := 2049) (by decide))
          have GT69 := GT58.fr fT69 rfl rfl
          refine zk_eq (fun c70 => ?_) (fun c70 => ?_)
          ·
            refine zk_bd (s_F_X3_grip _ RT69) (fun v71 T72 h71 => ?_)
            obtain ⟨rfl, h71⟩ := h71
            exact zk_some ⟨RT69, FT69, by (try dsimp only) <;> omega⟩
          ·
            refine zk_eq (fun c73 => ?_) (fun c73 => ?_)
            ·
              refine zk_bd (s_F_X3_slip _ RT69) (fun v74 T75 h74 => ?_)
              obtain ⟨rfl, h74⟩ := h74
              exact zk_some ⟨RT69, FT69, by (try dsimp only) <;> omega⟩
            ·
              exact False.elim (by omega)
      ·
        obtain ⟨rfl, h54⟩ := h54
        try dsimp only at h54
        exact ⟨RS0, FS0, by (try dsimp only) <;> omega⟩
theorem s_B_X6_odds_55  (z : Int32 × Int32 × Int32 × Int32) (S : fS) (RS : RI S) (GS : GI S) (hi : 0 ≤ z.1.toInt ∧ z.1.toInt ≤ 5 ∧ 0 ≤ z.2.2.2.toInt ∧ z.2.2.2.toInt ≤ 9) (hm : (9 - z.2.2.2.toInt).toNat < 4294967296) : zk (lp (B_X6_odds_55) fuel z S) (fun v S9 => RI S9 ∧ Fr 2048 S S9 ∧ v.1 = 0) := by
  have l0 : (0 : Int32).toInt = 0 := by decide
  have l4 : (4 : Int32).toInt = 4 := by decide
  have l9 : (9 : Int32).toInt = 9 := by decide
  have lo1 : (Int32.ofInt 1).toInt = 1 := by decide
  refine zk_lp (fun z S => RI S ∧ GI S ∧ (0 ≤ z.1.toInt ∧ z.1.toInt ≤ 5 ∧ 0 ≤ z.2.2.2.toInt ∧ z.2.2.2.toInt ≤ 9)) (fun z S => (9 - z.2.2.2.toInt).toNat) (fun z S (v : Nat × Int32) S9 => RI S9 ∧ Fr 2048 S S9 ∧ v.1 = 0) ?_ z S ⟨RS, GS, hi⟩ hm
  clear RS hi hm GS
  intro k z S hI hk
  obtain ⟨RS, GS, hI⟩ := hI
  obtain ⟨a1, a2, a4, a5⟩ := z
  (try dsimp only at hI); (try dsimp only at hk); (try dsimp only)
  have FS : Fr 2048 S S := Fr.rf
  unfold B_X6_odds_55
  dsimp only
  refine zk_le (fun c1 => ?_) (fun c1 => ?_)
  ·
    exact zk_some ⟨RS, FS, by (try dsimp only) <;> omega⟩
  ·
    refine zk_gd ⟨by omega, by omega⟩ ?_
    refine zk_iv fun x2 e2 => ?_
    refine zk_bd (s_F_X6_weightAt _ _ _ RS) (fun v3 T4 h3 => ?_)
    obtain ⟨rfl, h3⟩ := h3
    have b5 := ti_bd v3
    refine zk_le (fun c6 => ?_) (fun c6 => ?_)
    ·
      unfold B_X6_odds_118
      refine zk_iv fun x7 e7 => ?_
      have gx7 : x7.toInt = a5.toInt + (Int32.ofInt 1).toInt := by rw [e7]; exact ti_add (by omega) (by omega)
      refine zk_imp (hk (a1, a2, a4, x7) _ ⟨RS, GS, (by (try dsimp only) <;> omega)⟩ (by (try dsimp only) <;> omega)) (fun v8 T9 h8 => ?_)
      obtain ⟨RT9, FT9, h8⟩ := h8
      try dsimp only at h8
      exact ⟨RT9, FS.tr FT9, by omega⟩
    ·
      refine zk_bd (s_F_X6_cellReached _ _ _ RS) (fun v10 T11 h10 => ?_)
      obtain ⟨rfl, h10⟩ := h10
      refine zk_bd (s_F_X3_grip _ RS) (fun v12 T13 h12 => ?_)
      obtain ⟨rfl, h12⟩ := h12
      refine zk_bd (s_F_X3_slip _ RS) (fun v14 T15 h14 => ?_)
      obtain ⟨rfl, h14⟩ := h14
      refine zk_bd (s_F_X6_pays _ _ _ _ _ RS) (fun v16 T17 h16 => ?_)
      obtain ⟨RT17, fT17, h16⟩ := h16
      have FT17 := FS.tr (fT17.sub (m := 2048) (by decide))
      have GT17 := GS.fr fT17 rfl rfl
      have b18 := ti_bd v16
      refine zk_eq (fun c19 => ?_) (fun c19 => ?_)
      ·
        unfold B_X6_odds_118
        refine zk_iv fun x20 e20 => ?_
        have gx20 : x20.toInt = a5.toInt + (Int32.ofInt 1).toInt := by rw [e20]; exact ti_add (by omega) (by omega)
        refine zk_imp (hk (a1, a2, a4, x20) _ ⟨RT17, GT17, (by (try dsimp only) <;> omega)⟩ (by (try dsimp only) <;> omega)) (fun v21 T22 h21 => ?_)
        obtain ⟨RT22, FT22, h21⟩ := h21
        try dsimp only at h21
        exact ⟨RT22, FT17.tr FT22, by omega⟩
      ·
        refine zk_iv fun x23 e23 => ?_
        unfold B_X6_odds_118
        refine zk_iv fun x24 e24 => ?_
        have gx24 : x24.toInt = a5.toInt + (Int32.ofInt 1).toInt := by rw [e24]; exact ti_add (by omega) (by omega)
        refine zk_imp (hk (a1, a2, x23, x24) _ ⟨RT17, GT17, (by (try dsimp only) <;> omega)⟩ (by (try dsimp only) <;> omega)) (fun v25 T26 h25 => ?_)
        obtain ⟨RT26, FT26, h25⟩ := h25
        try dsimp only at h25
        exact ⟨RT26, FT17.tr FT26, by omega⟩
theorem s_F_X6_odds (p1 : Int32) (p2 : Int32) (p3 : Int32) (S0 : fS) (RS0 : RI S0) (GS0 : GI S0) : zk (F_X6_odds p1 p2 p3 S0) (fun v S9 => RI S9 ∧ Fr 2049 S0 S9 ∧ (v.1 = 0 ∨ v.1 = 1 ∨ v.1 = 2 ∨ v.1 = 3)) := by
  have l0 : (0 : Int32).toInt = 0 := by decide
  have l9 : (9 : Int32).toInt = 9 := by decide
  have l35 : (35 : Int32).toInt = 35 := by decide
  have FS0 : Fr 2049 S0 S0 := Fr.rf
  unfold F_X6_odds
  refine zk_iv fun x1 e1 => ?_
  have gx1 : 0 ≤ x1.toInt ∧ x1.toInt ≤ 6 := by rw [e1]; exact RS0 0 _ _
  refine zk_bx (s_F_X6_needElement _ _ _ RS0 (by omega)) (fun v2 T3 h2 => ?_) (fun z4 v2 T3 h2 => ?_)
  ·
    obtain ⟨rfl, h2⟩ := h2
    try dsimp only at h2
    refine zk_bx (s_F_X6_needCell _ _ RS0) (fun v5 T6 h5 => ?_) (fun z7 v5 T6 h5 => ?_)
    ·
      obtain ⟨rfl, h5⟩ := h5
      try dsimp only at h5
      refine zk_bd (s_F_X6_within _ _ _ _ RS0) (fun v8 T9 h8 => ?_)
      obtain ⟨rfl, h8⟩ := h8
      refine zk_bx (s_F_X6_need _ _ RS0) (fun v10 T11 h10 => ?_) (fun z12 v10 T11 h10 => ?_)
      ·
        obtain ⟨rfl, h10⟩ := h10
        try dsimp only at h10
        refine zk_bd (s_F_X5_nameNext _ _ _ RS0) (fun v13 T14 h13 => ?_)
        obtain ⟨RT14, fT14, h13⟩ := h13
        have FT14 := FS0.tr (fT14.sub (m := 2049) (by decide))
        have GT14 := GS0.fr fT14 rfl rfl
        refine zk_bd (s_F_X6_codeInForce _ RT14 GT14) (fun v15 T16 h15 => ?_)
        obtain ⟨rfl, h15⟩ := h15
        refine zk_bd (s_F_X3_run _ _ _ _ RT14 GT14 h15) (fun v17 T18 h17 => ?_)
        obtain ⟨RT18, fT18, h17⟩ := h17
        have FT18 := FT14.tr (fT18.sub (m := 2049) (by decide))
        have GT18 := GT14.fr fT18 rfl rfl
        refine zk_imp (s_B_X6_odds_55 _ _ RT18 GT18 (by (try dsimp only) <;> omega) (by (try dsimp only) <;> omega)) (fun v19 T20 h19 => ?_)
        obtain ⟨RT20, fT20, h19⟩ := h19
        have FT20 := FT18.tr (fT20.sub (m := 2049) (by decide))
        have GT20 := GT18.fr fT20 rfl rfl
        try dsimp only at h19
        exact ⟨RT20, FT20, by omega⟩
      ·
        obtain ⟨rfl, h10⟩ := h10
        try dsimp only at h10
        exact ⟨RS0, FS0, by (try dsimp only) <;> omega⟩
    ·
      obtain ⟨rfl, h5⟩ := h5
      try dsimp only at h5
      exact ⟨RS0, FS0, by (try dsimp only) <;> omega⟩
  ·
    obtain ⟨rfl, h2⟩ := h2
    try dsimp only at h2
    exact ⟨RS0, FS0, by (try dsimp only) <;> omega⟩
theorem s_B_X6_when_43  (z : Int32 × Int32) (S : fS) (RS : RI S) (GS : GI S) (hi : 0 ≤ z.1.toInt ∧ z.1.toInt ≤ 5 ∧ 0 ≤ z.2.toInt ∧ z.2.toInt ≤ 61) (hm : (61 - z.2.toInt).toNat < 4294967296) : zk (lp (B_X6_when_43) fuel z S) (fun v S9 => RI S9 ∧ Fr 2049 S S9 ∧ v.1 = 0) := by
  have lm1 : (-1 : Int32).toInt = -1 := by decide
  have l0 : (0 : Int32).toInt = 0 := by decide
  have l1 : (1 : Int32).toInt = 1 := by decide
  have l3 : (3 : Int32).toInt = 3 := by decide
  have l4 : (4 : Int32).toInt = 4 := by decide
  have l5 : (5 : Int32).toInt = 5 := by decide
  have l6 : (6 : Int32).toInt = 6 := by decide
  have l60 : (60 : Int32).toInt = 60 := by decide
  have lo1 : (Int32.ofInt 1).toInt = 1 := by decide
  refine zk_lp (fun z S => RI S ∧ GI S ∧ (0 ≤ z.1.toInt ∧ z.1.toInt ≤ 5 ∧ 0 ≤ z.2.toInt ∧ z.2.toInt ≤ 61)) (fun z S => (61 - z.2.toInt).toNat) (fun z S (v : Nat × Int32) S9 => RI S9 ∧ Fr 2049 S S9 ∧ v.1 = 0) ?_ z S ⟨RS, GS, hi⟩ hm
  clear RS hi hm GS
  intro k z S hI hk
  obtain ⟨RS, GS, hI⟩ := hI
  obtain ⟨a2, a3⟩ := z
  (try dsimp only at hI); (try dsimp only at hk); (try dsimp only)
  have FS : Fr 2049 S S := Fr.rf
  unfold B_X6_when_43
  dsimp only
  refine zk_lt (fun c1 => ?_) (fun c1 => ?_)
  ·
    exact zk_some ⟨RS, FS, by (try dsimp only) <;> omega⟩
  ·
    refine zk_gd ⟨by omega, by omega⟩ ?_
    refine zk_qv fun o2 eo2 => ?_
    have Oo2 : OKo o2 S := by rw [eo2]; exact GS.code (by decide)
    refine zk_bd (s_F_X3_run _ _ _ _ RS GS Oo2) (fun v3 T4 h3 => ?_)
    obtain ⟨RT4, fT4, h3⟩ := h3
    have FT4 := FS.tr (fT4.sub (m := 2049) (by decide))
    have GT4 := GS.fr fT4 rfl rfl
    refine zk_bd (s_F_X3_grip _ RT4) (fun v5 T6 h5 => ?_)
    obtain ⟨rfl, h5⟩ := h5
    refine zk_bd (s_F_X3_slip _ RT4) (fun v7 T8 h7 => ?_)
    obtain ⟨rfl, h7⟩ := h7
    refine zk_bd (s_F_X5_failingStep _ _ _ _ RT4) (fun v9 T10 h9 => ?_)
    obtain ⟨rfl, h9⟩ := h9
    refine zk_bd (s_F_X5_outcomeAt _ _ _ RT4) (fun v11 T12 h11 => ?_)
    obtain ⟨rfl, h11⟩ := h11
    have b13 := ti_bd v11
    refine zk_eq (fun c14 => ?_) (fun c14 => ?_)
    ·
      exact zk_some ⟨RT4, FT4, by (try dsimp only) <;> omega⟩
    ·
      refine zk_iv fun x15 e15 => ?_
      refine zk_iv fun x16 e16 => ?_
      refine zk_sv fun S17 E17 => ?_
      have RS17 : RI S17 := by rw [E17]; exact RT4.wf rfl
      have FS17 : Fr 2049 S S17 := by rw [E17]; exact FT4.wr (k := 11) rfl rfl
      have GS17 : GI S17 := by rw [E17]; exact GT4.wr (k := 11) rfl (by decide)
      refine zk_iv fun x18 e18 => ?_
      refine zk_iv fun x19 e19 => ?_
      refine zk_sv fun S20 E20 => ?_
      have RS20 : RI S20 := by rw [E20]; exact RS17.wf rfl
      have FS20 : Fr 2049 S S20 := by rw [E20]; exact FS17.wr (k := 11) rfl rfl
      have GS20 : GI S20 := by rw [E20]; exact GS17.wr (k := 11) rfl (by decide)
      refine zk_iv fun x21 e21 => ?_
      refine zk_iv fun x22 e22 => ?_
      refine zk_iv fun x23 e23 => ?_
      refine zk_sv fun S24 E24 => ?_
      have RS24 : RI S24 := by rw [E24]; exact RS20.wf rfl
      have FS24 : Fr 2049 S S24 := by rw [E24]; exact FS20.wr (k := 11) rfl rfl
      have GS24 : GI S24 := by rw [E24]; exact GS20.wr (k := 11) rfl (by decide)
      refine zk_iv fun x25 e25 => ?_
      have gx25 : x25.toInt = a3.toInt + (Int32.ofInt 1).toInt := by rw [e25]; exact ti_add (by omega) (by omega)
      refine zk_imp (hk (a2, x25) _ ⟨RS24, GS24, (by (try dsimp only) <;> omega)⟩ (by (try dsimp only) <;> omega)) (fun v26 T27 h26 => ?_)
      obtain ⟨RT27, FT27, h26⟩ := h26
      try dsimp only at h26
      exact ⟨RT27, FS24.tr FT27, by omega⟩
theorem s_F_X6_when (p1 : Int32) (p2 : Int32) (S0 : fS) (RS0 : RI S0) (GS0 : GI S0) : zk (F_X6_when p1 p2 S0) (fun v S9 => RI S9 ∧ Fr 2049 S0 S9 ∧ (v.1 = 0 ∨ v.1 = 1 ∨ v.1 = 2)) := by
  have l0 : (0 : Int32).toInt = 0 := by decide
  have l1 : (1 : Int32).toInt = 1 := by decide
  have l5 : (5 : Int32).toInt = 5 := by decide
  have FS0 : Fr 2049 S0 S0 := Fr.rf
  unfold F_X6_when
  refine zk_bx (s_F_X6_needCell _ _ RS0) (fun v1 T2 h1 => ?_) (fun z3 v1 T2 h1 => ?_)
  ·
    obtain ⟨rfl, h1⟩ := h1
    try dsimp only at h1
    refine zk_iv fun x4 e4 => ?_
    have gx4 : 0 ≤ x4.toInt ∧ x4.toInt ≤ 6 := by rw [e4]; exact RS0 0 _ _
    refine zk_iv fun x5 e5 => ?_
    have gx5 : x5.toInt = x4.toInt - (1 : Int32).toInt := by rw [e5]; exact ti_sub (by omega) (by omega)
    refine zk_bd (s_F_X6_within _ _ _ _ RS0) (fun v6 T7 h6 => ?_)
    obtain ⟨rfl, h6⟩ := h6
    refine zk_bx (s_F_X6_need _ _ RS0) (fun v8 T9 h8 => ?_) (fun z10 v8 T9 h8 => ?_)
    ·
      obtain ⟨rfl, h8⟩ := h8
      try dsimp only at h8
      refine zk_bd (s_F_X5_nameNext _ _ _ RS0) (fun v11 T12 h11 => ?_)
      obtain ⟨RT12, fT12, h11⟩ := h11
      have FT12 := FS0.tr (fT12.sub (m := 2049) (by decide))
      have GT12 := GS0.fr fT12 rfl rfl
      refine zk_bd (s_F_X5_look _ _ _ _ RT12) (fun v13 T14 h13 => ?_)
      obtain ⟨RT14, fT14, h13⟩ := h13
      have FT14 := FT12.tr (fT14.sub (m := 2049) (by decide))
      have GT14 := GT12.fr fT14 rfl rfl
      refine zk_imp (s_B_X6_when_43 _ _ RT14 GT14 (by (try dsimp only) <;> omega) (by (try dsimp only) <;> omega)) (fun v15 T16 h15 => ?_)
      obtain ⟨RT16, fT16, h15⟩ := h15
      have FT16 := FT14.tr (fT16.sub (m := 2049) (by decide))
      have GT16 := GT14.fr fT16 rfl rfl
      try dsimp only at h15
      exact ⟨RT16, FT16, by omega⟩
    ·
      obtain ⟨rfl, h8⟩ := h8
      try dsimp only at h8
      exact ⟨RS0, FS0, by (try dsimp only) <;> omega⟩
  ·
    obtain ⟨rfl, h1⟩ := h1
    try dsimp only at h1
    exact ⟨RS0, FS0, by (try dsimp only) <;> omega⟩
theorem s_B_X6_couldCome_21 (o1 : Option Nat) (r2 : Nat) (z : Int32 × Int32) (S : fS) (RS : RI S) (GS : GI S) (Oo1 : OKo o1 S) (hi : 0 ≤ z.2.toInt) (hm : (2147483647 - z.2.toInt).toNat < 4294967296) : zk (lp (B_X6_couldCome_21 o1 r2) fuel z S) (fun v S9 => RI S9 ∧ Fr 1 S S9 ∧ True) := by
  have l0 : (0 : Int32).toInt = 0 := by decide
  have l1 : (1 : Int32).toInt = 1 := by decide
  have lo1 : (Int32.ofInt 1).toInt = 1 := by decide
  refine zk_lp (fun z S => RI S ∧ GI S ∧ OKo o1 S ∧ (0 ≤ z.2.toInt)) (fun z S => (2147483647 - z.2.toInt).toNat) (fun z S (v : Int32) S9 => RI S9 ∧ Fr 1 S S9 ∧ True) ?_ z S ⟨RS, GS, Oo1, hi⟩ hm
  clear RS hi hm GS Oo1
  intro k z S hI hk
  obtain ⟨RS, GS, Oo1, hI⟩ := hI
  obtain ⟨a3, a4⟩ := z
  (try dsimp only at hI); (try dsimp only at hk); (try dsimp only)
  have FS : Fr 1 S S := Fr.rf
  unfold B_X6_couldCome_21
  dsimp only
  have b1 := ti_bd a3
  have b2 := ti_bd a4
  refine zk_le (fun c3 => ?_) (fun c3 => ?_)
  ·
    exact zk_some ⟨RS, FS, trivial⟩
  ·
    refine zk_bd (s_F_X3_run _ _ _ _ RS GS Oo1) (fun v4 T5 h4 => ?_)
    obtain ⟨RT5, fT5, h4⟩ := h4
    have FT5 := FS.tr (fT5.sub (m := 1) (by decide))
    have GT5 := GS.fr fT5 rfl rfl
    refine zk_bd (s_F_X3_grip _ RT5) (fun v6 T7 h6 => ?_)
    obtain ⟨rfl, h6⟩ := h6
    refine zk_bd (s_F_X3_slip _ RT5) (fun v8 T9 h8 => ?_)
    obtain ⟨rfl, h8⟩ := h8
    refine zk_bd (s_F_X5_cameBy _ _ _ _ RT5) (fun v10 T11 h10 => ?_)
    obtain ⟨rfl, h10⟩ := h10
    have b12 := ti_bd v10
    refine zk_eq (fun c13 => ?_) (fun c13 => ?_)
    ·
      refine zk_iv fun x14 e14 => ?_
      have gx14 : x14.toInt = a4.toInt + (Int32.ofInt 1).toInt := by rw [e14]; exact ti_add (by omega) (by omega)
      refine zk_imp (hk (a3, x14) _ ⟨RT5, GT5, Oo1.mv FS FT5 rfl, (by (try dsimp only) <;> omega)⟩ (by (try dsimp only) <;> omega)) (fun v15 T16 h15 => ?_)
      obtain ⟨RT16, FT16, h15⟩ := h15
      exact ⟨RT16, FT5.tr FT16, trivial⟩
    ·
      exact zk_some ⟨RT5, FT5, trivial⟩
theorem s_F_X6_couldCome (o1 : Option Nat) (r2 : Nat) (S0 : fS) (RS0 : RI S0) (GS0 : GI S0) (Oo1 : OKo o1 S0) : zk (F_X6_couldCome o1 r2 S0) (fun v S9 => RI S9 ∧ Fr 1 S0 S9 ∧ True) := by
  have l0 : (0 : Int32).toInt = 0 := by decide
  have FS0 : Fr 1 S0 S0 := Fr.rf
  unfold F_X6_couldCome
  refine zk_bd (s_F_X3_run _ _ _ _ RS0 GS0 Oo1) (fun v1 T2 h1 => ?_)
  obtain ⟨RT2, fT2, h1⟩ := h1
  have FT2 := FS0.tr (fT2.sub (m := 1) (by decide))
  have GT2 := GS0.fr fT2 rfl rfl
  refine zk_bd (s_F_X3_lots _ RT2) (fun v3 T4 h3 => ?_)
  obtain ⟨rfl, h3⟩ := h3
  refine zk_imp (s_B_X6_couldCome_21 o1 r2 _ _ RT2 GT2 (Oo1.mv FS0 FT2 rfl) (by (try dsimp only) <;> omega) (by (try dsimp only) <;> omega)) (fun v5 T6 h5 => ?_)
  obtain ⟨RT6, fT6, h5⟩ := h5
  have FT6 := FT2.tr (fT6.sub (m := 1) (by decide))
  have GT6 := GT2.fr fT6 rfl rfl
  exact ⟨RT6, FT6, trivial⟩
theorem s_B_X6_firstStrange_2 (o1 : Option Nat) (z : Int32) (S : fS) (RS : RI S) (GS : GI S) (Oo1 : OKo o1 S) (hi : 0 ≤ z.toInt ∧ z.toInt ≤ 200) (hm : (200 - z.toInt).toNat < 4294967296) : zk (lp (B_X6_firstStrange_2 o1) fuel z S) (fun v S9 => RI S9 ∧ Fr 1 S S9 ∧ True) := by
  have lm1 : (-1 : Int32).toInt = -1 := by decide
  have l0 : (0 : Int32).toInt = 0 := by decide
  have l12 : (12 : Int32).toInt = 12 := by decide
  have lo1 : (Int32.ofInt 1).toInt = 1 := by decide
  refine zk_lp (fun z S => RI S ∧ GI S ∧ OKo o1 S ∧ (0 ≤ z.toInt ∧ z.toInt ≤ 200)) (fun z S => (200 - z.toInt).toNat) (fun z S (v : Int32) S9 => RI S9 ∧ Fr 1 S S9 ∧ True) ?_ z S ⟨RS, GS, Oo1, hi⟩ hm
  clear RS hi hm GS Oo1
  intro k a2 S hI hk
  obtain ⟨RS, GS, Oo1, hI⟩ := hI
  have FS : Fr 1 S S := Fr.rf
  unfold B_X6_firstStrange_2
  obtain ⟨y1, ey1⟩ : ∃ y : Int32, y = ge S 1 0 12 := ⟨_, rfl⟩
  have gy1 : 0 ≤ y1.toInt ∧ y1.toInt ≤ 200 := by rw [ey1]; exact RS 1 _ _
  have q2 : (ge S 1 0 12).toInt = y1.toInt := congrArg Int32.toInt (show ge S 1 0 12 = y1 from ey1.symm)
  refine zk_ivq (x := y1) ey1.symm ?_
  refine zk_le (fun c3 => ?_) (fun c3 => ?_)
  ·
    have q4 : (ge S 1 0 12).toInt = y1.toInt := congrArg Int32.toInt (show ge S 1 0 12 = y1 from ey1.symm)
    exact zk_some ⟨RS, FS, trivial⟩
  ·
    have q5 : (ge S 1 0 12).toInt = y1.toInt := congrArg Int32.toInt (show ge S 1 0 12 = y1 from ey1.symm)
    refine zk_bd (s_F_X0_recordAt _ _ _ RS GS (by omega)) (fun v6 T7 h6 => ?_)
    obtain ⟨rfl, h6⟩ := h6
    refine zk_gd (by assumption) ?_
    have q8 : (ge S 1 0 12).toInt = y1.toInt := congrArg Int32.toInt (show ge S 1 0 12 = y1 from ey1.symm)
    refine zk_bd (s_F_X6_couldCome _ _ _ RS GS Oo1) (fun v9 T10 h9 => ?_)
    obtain ⟨RT10, fT10, h9⟩ := h9
    have FT10 := FS.tr (fT10.sub (m := 1) (by decide))
    have GT10 := GS.fr fT10 rfl rfl
    have q11 : (ge T10 1 0 12).toInt = y1.toInt := congrArg Int32.toInt (show ge T10 1 0 12 = y1 from ((fT10.1 1 0 12 rfl).trans ey1.symm))
    have b12 := ti_bd v9
    refine zk_eq (fun c13 => ?_) (fun c13 => ?_)
    ·
      have q14 : (ge T10 1 0 12).toInt = y1.toInt := congrArg Int32.toInt (show ge T10 1 0 12 = y1 from ((fT10.1 1 0 12 rfl).trans ey1.symm))
      exact zk_some ⟨RT10, FT10, trivial⟩
    ·
      refine zk_iv fun x15 e15 => ?_
      have gx15 : x15.toInt = a2.toInt + (Int32.ofInt 1).toInt := by rw [e15]; exact ti_add (by omega) (by omega)
      have q16 : (ge T10 1 0 12).toInt = y1.toInt := congrArg Int32.toInt (show ge T10 1 0 12 = y1 from ((fT10.1 1 0 12 rfl).trans ey1.symm))
      refine zk_imp (hk x15 _ ⟨RT10, GT10, Oo1.mv FS FT10 rfl, (by omega)⟩ (by omega)) (fun v17 T18 h17 => ?_)
      obtain ⟨RT18, FT18, h17⟩ := h17
      exact ⟨RT18, FT10.tr FT18, trivial⟩
theorem s_F_X6_firstStrange (o1 : Option Nat) (S0 : fS) (RS0 : RI S0) (GS0 : GI S0) (Oo1 : OKo o1 S0) : zk (F_X6_firstStrange o1 S0) (fun v S9 => RI S9 ∧ Fr 1 S0 S9 ∧ True) := by
  have l0 : (0 : Int32).toInt = 0 := by decide
  have FS0 : Fr 1 S0 S0 := Fr.rf
  unfold F_X6_firstStrange
  refine zk_imp (s_B_X6_firstStrange_2 o1 _ _ RS0 GS0 Oo1 (by omega) (by omega)) (fun v1 T2 h1 => ?_)
  obtain ⟨RT2, fT2, h1⟩ := h1
  have FT2 := FS0.tr (fT2.sub (m := 1) (by decide))
  have GT2 := GS0.fr fT2 rfl rfl
  exact ⟨RT2, FT2, trivial⟩
theorem s_B_X6_fitting_4  (z : Int32 × Int32) (S : fS) (RS : RI S) (GS : GI S) (hi : 0 ≤ z.2.toInt ∧ z.2.toInt ≤ 6) (hm : (6 - z.2.toInt).toNat < 4294967296) : zk (lp (B_X6_fitting_4) fuel z S) (fun v S9 => RI S9 ∧ Fr 1 S S9 ∧ True) := by
  have lm1 : (-1 : Int32).toInt = -1 := by decide
  have l0 : (0 : Int32).toInt = 0 := by decide
  have l5 : (5 : Int32).toInt = 5 := by decide
  have lo1 : (Int32.ofInt 1).toInt = 1 := by decide
  refine zk_lp (fun z S => RI S ∧ GI S ∧ (0 ≤ z.2.toInt ∧ z.2.toInt ≤ 6)) (fun z S => (6 - z.2.toInt).toNat) (fun z S (v : Int32) S9 => RI S9 ∧ Fr 1 S S9 ∧ True) ?_ z S ⟨RS, GS, hi⟩ hm
  clear RS hi hm GS
  intro k z S hI hk
  obtain ⟨RS, GS, hI⟩ := hI
  obtain ⟨a1, a2⟩ := z
  (try dsimp only at hI); (try dsimp only at hk); (try dsimp only)
  have FS : Fr 1 S S := Fr.rf
  unfold B_X6_fitting_4
  dsimp only
  refine zk_iv fun x1 e1 => ?_
  have gx1 : 0 ≤ x1.toInt ∧ x1.toInt ≤ 6 := by rw [e1]; exact RS 0 _ _
  refine zk_le (fun c2 => ?_) (fun c2 => ?_)
  ·
    exact zk_some ⟨RS, FS, trivial⟩
  ·
    refine zk_gd ⟨by omega, by omega⟩ ?_
    refine zk_qv fun o3 eo3 => ?_
    have Oo3 : OKo o3 S := by rw [eo3]; exact GS.code (by decide)
    refine zk_bd (s_F_X6_firstStrange _ _ RS GS Oo3) (fun v4 T5 h4 => ?_)
    obtain ⟨RT5, fT5, h4⟩ := h4
    have FT5 := FS.tr (fT5.sub (m := 1) (by decide))
    have GT5 := GS.fr fT5 rfl rfl
    have b6 := ti_bd v4
    refine zk_eq (fun c7 => ?_) (fun c7 => ?_)
    ·
      refine zk_iv fun x8 e8 => ?_
      refine zk_iv fun x9 e9 => ?_
      unfold B_X6_fitting_32
      refine zk_iv fun x10 e10 => ?_
      have gx10 : x10.toInt = a2.toInt + (Int32.ofInt 1).toInt := by rw [e10]; exact ti_add (by omega) (by omega)
      refine zk_imp (hk (x9, x10) _ ⟨RT5, GT5, (by (try dsimp only) <;> omega)⟩ (by (try dsimp only) <;> omega)) (fun v11 T12 h11 => ?_)
      obtain ⟨RT12, FT12, h11⟩ := h11
      exact ⟨RT12, FT5.tr FT12, trivial⟩
    ·
      unfold B_X6_fitting_32
      refine zk_iv fun x13 e13 => ?_
      have gx13 : x13.toInt = a2.toInt + (Int32.ofInt 1).toInt := by rw [e13]; exact ti_add (by omega) (by omega)
      refine zk_imp (hk (a1, x13) _ ⟨RT5, GT5, (by (try dsimp only) <;> omega)⟩ (by (try dsimp only) <;> omega)) (fun v14 T15 h14 => ?_)
      obtain ⟨RT15, FT15, h14⟩ := h14
      exact ⟨RT15, FT5.tr FT15, trivial⟩
theorem s_F_X6_fitting (S0 : fS) (RS0 : RI S0) (GS0 : GI S0) : zk (F_X6_fitting S0) (fun v S9 => RI S9 ∧ Fr 1 S0 S9 ∧ True) := by
  have l0 : (0 : Int32).toInt = 0 := by decide
  have FS0 : Fr 1 S0 S0 := Fr.rf
  unfold F_X6_fitting
  refine zk_imp (s_B_X6_fitting_4 _ _ RS0 GS0 (by (try dsimp only) <;> omega) (by (try dsimp only) <;> omega)) (fun v1 T2 h1 => ?_)
  obtain ⟨RT2, fT2, h1⟩ := h1
  have FT2 := FS0.tr (fT2.sub (m := 1) (by decide))
  have GT2 := GS0.fr fT2 rfl rfl
  exact ⟨RT2, FT2, trivial⟩
theorem s_F_X6_strange (p1 : Int32) (S0 : fS) (RS0 : RI S0) (GS0 : GI S0) : zk (F_X6_strange p1 S0) (fun v S9 => RI S9 ∧ Fr 1 S0 S9 ∧ (v.1 = 0 ∨ v.1 = 1)) := by
  have l0 : (0 : Int32).toInt = 0 := by decide
  have l1 : (1 : Int32).toInt = 1 := by decide
  have l5 : (5 : Int32).toInt = 5 := by decide
  have l12 : (12 : Int32).toInt = 12 := by decide
  have FS0 : Fr 1 S0 S0 := Fr.rf
  unfold F_X6_strange
  refine zk_iv fun x1 e1 => ?_
  have gx1 : 0 ≤ x1.toInt ∧ x1.toInt ≤ 6 := by rw [e1]; exact RS0 0 _ _
  refine zk_iv fun x2 e2 => ?_
  have gx2 : x2.toInt = x1.toInt - (1 : Int32).toInt := by rw [e2]; exact ti_sub (by omega) (by omega)
  refine zk_bd (s_F_X6_within _ _ _ _ RS0) (fun v3 T4 h3 => ?_)
  obtain ⟨rfl, h3⟩ := h3
  refine zk_bx (s_F_X6_need _ _ RS0) (fun v5 T6 h5 => ?_) (fun z7 v5 T6 h5 => ?_)
  ·
    obtain ⟨rfl, h5⟩ := h5
    try dsimp only at h5
    refine zk_gd ⟨by omega, by omega⟩ ?_
    refine zk_qv fun o8 eo8 => ?_
    have Oo8 : OKo o8 S0 := by rw [eo8]; exact GS0.code (by decide)
    refine zk_bd (s_F_X6_firstStrange _ _ RS0 GS0 Oo8) (fun v9 T10 h9 => ?_)
    obtain ⟨RT10, fT10, h9⟩ := h9
    have FT10 := FS0.tr (fT10.sub (m := 1) (by decide))
    have GT10 := GS0.fr fT10 rfl rfl
    exact zk_some ⟨RT10, FT10, by (try dsimp only) <;> omega⟩
  ·
    obtain ⟨rfl, h5⟩ := h5
    try dsimp only at h5
    exact ⟨RS0, FS0, by (try dsimp only) <;> omega⟩
theorem s_B_X6_guess_8  (z : Int32 × Int32 × Int32) (S : fS) (RS : RI S) (GS : GI S) (hi : 0 ≤ z.2.2.toInt ∧ z.2.2.toInt ≤ 6) (hm : (6 - z.2.2.toInt).toNat < 4294967296) : zk (lp (B_X6_guess_8) fuel z S) (fun v S9 => RI S9 ∧ Fr 2049 S S9 ∧ v.1 = 0) := by
  have lm1 : (-1 : Int32).toInt = -1 := by decide
  have l0 : (0 : Int32).toInt = 0 := by decide
  have l1 : (1 : Int32).toInt = 1 := by decide
  have l2 : (2 : Int32).toInt = 2 := by decide
  have l5 : (5 : Int32).toInt = 5 := by decide
  have lo1 : (Int32.ofInt 1).toInt = 1 := by decide
  refine zk_lp (fun z S => RI S ∧ GI S ∧ (0 ≤ z.2.2.toInt ∧ z.2.2.toInt ≤ 6)) (fun z S => (6 - z.2.2.toInt).toNat) (fun z S (v : Nat × Int32) S9 => RI S9 ∧ Fr 2049 S S9 ∧ v.1 = 0) ?_ z S ⟨RS, GS, hi⟩ hm
  clear RS hi hm GS
  intro k z S hI hk
  obtain ⟨RS, GS, hI⟩ := hI
  obtain ⟨a1, a2, a3⟩ := z
  (try dsimp only at hI); (try dsimp only at hk); (try dsimp only)
  have FS : Fr 2049 S S := Fr.rf
  unfold B_X6_guess_8
  dsimp only
  refine zk_iv fun x1 e1 => ?_
  have gx1 : 0 ≤ x1.toInt ∧ x1.toInt ≤ 6 := by rw [e1]; exact RS 0 _ _
  refine zk_le (fun c2 => ?_) (fun c2 => ?_)
  ·
    exact zk_some ⟨RS, FS, by (try dsimp only) <;> omega⟩
  ·
    refine zk_gd ⟨by omega, by omega⟩ ?_
    refine zk_qv fun o3 eo3 => ?_
    have Oo3 : OKo o3 S := by rw [eo3]; exact GS.code (by decide)
    refine zk_bd (s_F_X6_firstStrange _ _ RS GS Oo3) (fun v4 T5 h4 => ?_)
    obtain ⟨RT5, fT5, h4⟩ := h4
    have FT5 := FS.tr (fT5.sub (m := 2049) (by decide))
    have GT5 := GS.fr fT5 rfl rfl
    have b6 := ti_bd v4
    refine zk_eq (fun c7 => ?_) (fun c7 => ?_)
    ·
      refine zk_bd (s_F_X5_nameNext _ _ _ RT5) (fun v8 T9 h8 => ?_)
      obtain ⟨RT9, fT9, h8⟩ := h8
      have FT9 := FT5.tr (fT9.sub (m := 2049) (by decide))
      have GT9 := GT5.fr fT9 rfl rfl
      refine zk_gd ⟨by omega, by omega⟩ ?_
      refine zk_qv fun o10 eo10 => ?_
      have Oo10 : OKo o10 T9 := by rw [eo10]; exact GT9.code (by decide)
      refine zk_bd (s_F_X3_run _ _ _ _ RT9 GT9 Oo10) (fun v11 T12 h11 => ?_)
      obtain ⟨RT12, fT12, h11⟩ := h11
      have FT12 := FT9.tr (fT12.sub (m := 2049) (by decide))
      have GT12 := GT9.fr fT12 rfl rfl
      refine zk_bd (s_F_X3_grip _ RT12) (fun v13 T14 h13 => ?_)
      obtain ⟨rfl, h13⟩ := h13
      refine zk_bd (s_F_X3_slip _ RT12) (fun v15 T16 h15 => ?_)
      obtain ⟨rfl, h15⟩ := h15
      refine zk_bd (s_F_X6_pays _ _ _ _ _ RT12) (fun v17 T18 h17 => ?_)
      obtain ⟨RT18, fT18, h17⟩ := h17
      have FT18 := FT12.tr (fT18.sub (m := 2049) (by decide))
      have GT18 := GT12.fr fT18 rfl rfl
      have b19 := ti_bd v17
      refine zk_eq (fun c20 => ?_) (fun c20 => ?_)
      ·
        unfold B_X6_guess_91
        refine zk_iv fun x21 e21 => ?_
        have b22 := ti_bd a2
        have gx21 : x21.toInt = a2.toInt + (0 : Int32).toInt := by rw [e21]; exact ti_add (by omega) (by omega)
        unfold B_X6_guess_93
        refine zk_iv fun x23 e23 => ?_
        have gx23 : x23.toInt = a3.toInt + (Int32.ofInt 1).toInt := by rw [e23]; exact ti_add (by omega) (by omega)
        refine zk_imp (hk (a1, x21, x23) _ ⟨RT18, GT18, (by (try dsimp only) <;> omega)⟩ (by (try dsimp only) <;> omega)) (fun v24 T25 h24 => ?_)
        obtain ⟨RT25, FT25, h24⟩ := h24
        try dsimp only at h24
        exact ⟨RT25, FT18.tr FT25, by omega⟩
      ·
        unfold B_X6_guess_91
        refine zk_iv fun x26 e26 => ?_
        unfold B_X6_guess_93
        refine zk_iv fun x27 e27 => ?_
        have gx27 : x27.toInt = a3.toInt + (Int32.ofInt 1).toInt := by rw [e27]; exact ti_add (by omega) (by omega)
        refine zk_imp (hk (a1, x26, x27) _ ⟨RT18, GT18, (by (try dsimp only) <;> omega)⟩ (by (try dsimp only) <;> omega)) (fun v28 T29 h28 => ?_)
        obtain ⟨RT29, FT29, h28⟩ := h28
        try dsimp only at h28
        exact ⟨RT29, FT18.tr FT29, by omega⟩
    ·
      unfold B_X6_guess_93
      refine zk_iv fun x30 e30 => ?_
      have gx30 : x30.toInt = a3.toInt + (Int32.ofInt 1).toInt := by rw [e30]; exact ti_add (by omega) (by omega)
      refine zk_imp (hk (a1, a2, x30) _ ⟨RT5, GT5, (by (try dsimp only) <;> omega)⟩ (by (try dsimp only) <;> omega)) (fun v31 T32 h31 => ?_)
      obtain ⟨RT32, FT32, h31⟩ := h31
      try dsimp only at h31
      exact ⟨RT32, FT5.tr FT32, by omega⟩
theorem s_F_X6_guess (p1 : Int32) (S0 : fS) (RS0 : RI S0) (GS0 : GI S0) : zk (F_X6_guess p1 S0) (fun v S9 => RI S9 ∧ Fr 2049 S0 S9 ∧ (v.1 = 0 ∨ v.1 = 2)) := by
  have l0 : (0 : Int32).toInt = 0 := by decide
  have FS0 : Fr 2049 S0 S0 := Fr.rf
  unfold F_X6_guess
  refine zk_bx (s_F_X6_needCell _ _ RS0) (fun v1 T2 h1 => ?_) (fun z3 v1 T2 h1 => ?_)
  ·
    obtain ⟨rfl, h1⟩ := h1
    try dsimp only at h1
    refine zk_imp (s_B_X6_guess_8 _ _ RS0 GS0 (by (try dsimp only) <;> omega) (by (try dsimp only) <;> omega)) (fun v4 T5 h4 => ?_)
    obtain ⟨RT5, fT5, h4⟩ := h4
    have FT5 := FS0.tr (fT5.sub (m := 2049) (by decide))
    have GT5 := GS0.fr fT5 rfl rfl
    try dsimp only at h4
    exact ⟨RT5, FT5, by omega⟩
  ·
    obtain ⟨rfl, h1⟩ := h1
    try dsimp only at h1
    exact ⟨RS0, FS0, by (try dsimp only) <;> omega⟩
theorem s_B_X6_tellLots_39  (z : Option Nat × Int32 × Int32) (S : fS) (RS : RI S) (GS : GI S) (Oa1 : OKo z.1 S) (hi : 0 ≤ z.2.2.toInt ∧ z.2.2.toInt ≤ 36) (hm : (36 - z.2.2.toInt).toNat < 4294967296) : zk (lp (B_X6_tellLots_39) fuel z S) (fun v S9 => RI S9 ∧ Fr 1 S S9 ∧ True) := by
  have l0 : (0 : Int32).toInt = 0 := by decide
  have l36 : (36 : Int32).toInt = 36 := by decide
  have lo1 : (Int32.ofInt 1).toInt = 1 := by decide
  refine zk_lp (fun z S => RI S ∧ GI S ∧ OKo z.1 S ∧ (0 ≤ z.2.2.toInt ∧ z.2.2.toInt ≤ 36)) (fun z S => (36 - z.2.2.toInt).toNat) (fun z S (v : Int32) S9 => RI S9 ∧ Fr 1 S S9 ∧ True) ?_ z S ⟨RS, GS, Oa1, hi⟩ hm
  clear RS hi hm GS Oa1
  intro k z S hI hk
  obtain ⟨RS, GS, Oa1, hI⟩ := hI
  obtain ⟨a1, a2, a3⟩ := z
  (try dsimp only at hI); (try dsimp only at hk); (try dsimp only); (try dsimp only at Oa1)
  have FS : Fr 1 S S := Fr.rf
  unfold B_X6_tellLots_39
  dsimp only
  have b1 := ti_bd a2
  refine zk_le (fun c2 => ?_) (fun c2 => ?_)
  ·
    exact zk_some ⟨RS, FS, trivial⟩
  ·
    refine zk_le (fun c3 => ?_) (fun c3 => ?_)
    ·
      exact zk_some ⟨RS, FS, trivial⟩
    ·
      refine zk_bd (s_F_X3_run _ _ _ _ RS GS Oa1) (fun v4 T5 h4 => ?_)
      obtain ⟨RT5, fT5, h4⟩ := h4
      have FT5 := FS.tr (fT5.sub (m := 1) (by decide))
      have GT5 := GS.fr fT5 rfl rfl
      refine zk_bd (s_F_X3_grip _ RT5) (fun v6 T7 h6 => ?_)
      obtain ⟨rfl, h6⟩ := h6
      refine zk_gd ⟨by omega, by omega⟩ ?_
      refine zk_sv fun S8 E8 => ?_
      have RS8 : RI S8 := by rw [E8]; exact RT5.wf rfl
      have FS8 : Fr 1 S S8 := by rw [E8]; exact FT5.wr (k := 0) rfl rfl
      have GS8 : GI S8 := by rw [E8]; exact GT5.wr (k := 0) rfl (by decide)
      refine zk_bd (s_F_X3_slip _ RS8) (fun v9 T10 h9 => ?_)
      obtain ⟨rfl, h9⟩ := h9
      refine zk_gd ⟨by omega, by omega⟩ ?_
      refine zk_sv fun S11 E11 => ?_
      have RS11 : RI S11 := by rw [E11]; exact RS8.wf rfl
      have FS11 : Fr 1 S S11 := by rw [E11]; exact FS8.wr (k := 0) rfl rfl
      have GS11 : GI S11 := by rw [E11]; exact GS8.wr (k := 0) rfl (by decide)
      refine zk_iv fun x12 e12 => ?_
      have gx12 : x12.toInt = a3.toInt + (Int32.ofInt 1).toInt := by rw [e12]; exact ti_add (by omega) (by omega)
      refine zk_imp (hk (a1, a2, x12) _ ⟨RS11, GS11, Oa1.mv FS FS11 rfl, (by (try dsimp only) <;> omega)⟩ (by (try dsimp only) <;> omega)) (fun v13 T14 h13 => ?_)
      obtain ⟨RT14, FT14, h13⟩ := h13
      exact ⟨RT14, FS11.tr FT14, trivial⟩
theorem s_F_X6_tellLots (S0 : fS) (RS0 : RI S0) (GS0 : GI S0) : zk (F_X6_tellLots S0) (fun v S9 => RI S9 ∧ Fr 2049 S0 S9 ∧ True) := by
  have l0 : (0 : Int32).toInt = 0 := by decide
  have FS0 : Fr 2049 S0 S0 := Fr.rf
  unfold F_X6_tellLots
  refine zk_bd (s_F_X6_codeInForce _ RS0 GS0) (fun v1 T2 h1 => ?_)
  obtain ⟨rfl, h1⟩ := h1
  refine zk_bd (s_F_X5_nameNext _ _ _ RS0) (fun v3 T4 h3 => ?_)
  obtain ⟨RT4, fT4, h3⟩ := h3
  have FT4 := FS0.tr (fT4.sub (m := 2049) (by decide))
  have GT4 := GS0.fr fT4 rfl rfl
  refine zk_bd (s_F_X3_run _ _ _ _ RT4 GT4 (h1.mv FS0 FT4 rfl)) (fun v5 T6 h5 => ?_)
  obtain ⟨RT6, fT6, h5⟩ := h5
  have FT6 := FT4.tr (fT6.sub (m := 2049) (by decide))
  have GT6 := GT4.fr fT6 rfl rfl
  refine zk_bd (s_F_X3_lots _ RT6) (fun v7 T8 h7 => ?_)
  obtain ⟨rfl, h7⟩ := h7
  refine zk_imp (s_B_X6_tellLots_39 _ _ RT6 GT6 (h1.mv FS0 FT6 rfl) (by (try dsimp only) <;> omega) (by (try dsimp only) <;> omega)) (fun v9 T10 h9 => ?_)
  obtain ⟨RT10, fT10, h9⟩ := h9
  have FT10 := FT6.tr (fT10.sub (m := 2049) (by decide))
  have GT10 := GT6.fr fT10 rfl rfl
  exact ⟨RT10, FT10, trivial⟩
theorem s_B_X6_leastPaying_7  (z : Int32 × Int32 × Int32) (S : fS) (RS : RI S) (GS : GI S) (hi : 0 ≤ z.2.2.toInt ∧ z.2.2.toInt ≤ 64 ∧ 0 ≤ z.1.toInt ∧ z.1.toInt ≤ 1) (hm : (64 - z.2.2.toInt).toNat < 4294967296) : zk (lp (B_X6_leastPaying_7) fuel z S) (fun v S9 => RI S9 ∧ Fr 2048 S S9 ∧ True) := by
  have lm1 : (-1 : Int32).toInt = -1 := by decide
  have l0 : (0 : Int32).toInt = 0 := by decide
  have l1 : (1 : Int32).toInt = 1 := by decide
  have l6 : (6 : Int32).toInt = 6 := by decide
  have l64 : (64 : Int32).toInt = 64 := by decide
  have lo1 : (Int32.ofInt 1).toInt = 1 := by decide
  refine zk_lp (fun z S => RI S ∧ GI S ∧ (0 ≤ z.2.2.toInt ∧ z.2.2.toInt ≤ 64 ∧ 0 ≤ z.1.toInt ∧ z.1.toInt ≤ 1)) (fun z S => (64 - z.2.2.toInt).toNat) (fun z S (v : Int32) S9 => RI S9 ∧ Fr 2048 S S9 ∧ True) ?_ z S ⟨RS, GS, hi⟩ hm
  clear RS hi hm GS
  intro k z S hI hk
  obtain ⟨RS, GS, hI⟩ := hI
  obtain ⟨a1, a2, a3⟩ := z
  (try dsimp only at hI); (try dsimp only at hk); (try dsimp only)
  have FS : Fr 2048 S S := Fr.rf
  unfold B_X6_leastPaying_7
  dsimp only
  refine zk_le (fun c1 => ?_) (fun c1 => ?_)
  ·
    exact zk_some ⟨RS, FS, trivial⟩
  ·
    refine zk_bd (s_F_X5_look _ _ _ _ RS) (fun v2 T3 h2 => ?_)
    obtain ⟨RT3, fT3, h2⟩ := h2
    have FT3 := FS.tr (fT3.sub (m := 2048) (by decide))
    have GT3 := GS.fr fT3 rfl rfl
    refine zk_iv fun x4 e4 => ?_
    have b5 := ti_bd x4
    refine zk_eq (fun c6 => ?_) (fun c6 => ?_)
    ·
      refine zk_bd (s_F_X6_paysByLots _ _ _ RT3 (by omega)) (fun v7 T8 h7 => ?_)
      obtain ⟨rfl, h7⟩ := h7
      refine zk_eq (fun c9 => ?_) (fun c9 => ?_)
      ·
        unfold B_X6_leastPaying_48
        refine zk_iv fun x10 e10 => ?_
        have gx10 : x10.toInt = a3.toInt + (Int32.ofInt 1).toInt := by rw [e10]; exact ti_add (by omega) (by omega)
        refine zk_imp (hk (a1, a2, x10) _ ⟨RT3, GT3, (by (try dsimp only) <;> omega)⟩ (by (try dsimp only) <;> omega)) (fun v11 T12 h11 => ?_)
        obtain ⟨RT12, FT12, h11⟩ := h11
        exact ⟨RT12, FT3.tr FT12, trivial⟩
      ·
        exact zk_some ⟨RT3, FT3, trivial⟩
    ·
      unfold B_X6_leastPaying_48
      refine zk_iv fun x13 e13 => ?_
      have gx13 : x13.toInt = a3.toInt + (Int32.ofInt 1).toInt := by rw [e13]; exact ti_add (by omega) (by omega)
      refine zk_imp (hk (a1, a2, x13) _ ⟨RT3, GT3, (by (try dsimp only) <;> omega)⟩ (by (try dsimp only) <;> omega)) (fun v14 T15 h14 => ?_)
      obtain ⟨RT15, FT15, h14⟩ := h14
      exact ⟨RT15, FT3.tr FT15, trivial⟩
theorem s_F_X6_leastPaying (p1 : Int32) (S0 : fS) (RS0 : RI S0) (GS0 : GI S0) (hp : 0 ≤ p1.toInt ∧ p1.toInt ≤ 1) : zk (F_X6_leastPaying p1 S0) (fun v S9 => RI S9 ∧ Fr 2049 S0 S9 ∧ True) := by
  have l0 : (0 : Int32).toInt = 0 := by decide
  have FS0 : Fr 2049 S0 S0 := Fr.rf
  unfold F_X6_leastPaying
  refine zk_bd (s_F_X6_tellLots _ RS0 GS0) (fun v1 T2 h1 => ?_)
  obtain ⟨RT2, fT2, h1⟩ := h1
  have FT2 := FS0.tr (fT2.sub (m := 2049) (by decide))
  have GT2 := GS0.fr fT2 rfl rfl
  refine zk_imp (s_B_X6_leastPaying_7 _ _ RT2 GT2 (by (try dsimp only) <;> omega) (by (try dsimp only) <;> omega)) (fun v3 T4 h3 => ?_)
  obtain ⟨RT4, fT4, h3⟩ := h3
  have FT4 := FT2.tr (fT4.sub (m := 2049) (by decide))
  have GT4 := GT2.fr fT4 rfl rfl
  exact ⟨RT4, FT4, trivial⟩
theorem s_F_X6_can (p1 : Int32) (S0 : fS) (RS0 : RI S0) (GS0 : GI S0) (hp : 0 ≤ p1.toInt ∧ p1.toInt ≤ 1) : zk (F_X6_can p1 S0) (fun v S9 => RI S9 ∧ Fr 2049 S0 S9 ∧ True) := by
  have FS0 : Fr 2049 S0 S0 := Fr.rf
  unfold F_X6_can
  refine zk_bd (s_F_X6_leastPaying _ _ RS0 GS0 (by omega)) (fun v1 T2 h1 => ?_)
  obtain ⟨RT2, fT2, h1⟩ := h1
  have FT2 := FS0.tr (fT2.sub (m := 2049) (by decide))
  have GT2 := GS0.fr fT2 rfl rfl
  exact zk_some ⟨RT2, FT2, trivial⟩
theorem s_F_X6_probeCopy (p1 : Int32) (S0 : fS) (RS0 : RI S0) (GS0 : GI S0) : zk (F_X6_probeCopy p1 S0) (fun v S9 => RI S9 ∧ Fr 2049 S0 S9 ∧ True) := by
  have l0 : (0 : Int32).toInt = 0 := by decide
  have l1 : (1 : Int32).toInt = 1 := by decide
  have FS0 : Fr 2049 S0 S0 := Fr.rf
  unfold F_X6_probeCopy
  refine zk_bd (s_F_X5_nameNext _ _ _ RS0) (fun v1 T2 h1 => ?_)
  obtain ⟨RT2, fT2, h1⟩ := h1
  have FT2 := FS0.tr (fT2.sub (m := 2049) (by decide))
  have GT2 := GS0.fr fT2 rfl rfl
  refine zk_bd (s_F_X6_codeInForce _ RT2 GT2) (fun v3 T4 h3 => ?_)
  obtain ⟨rfl, h3⟩ := h3
  refine zk_bd (s_F_X3_run _ _ _ _ RT2 GT2 h3) (fun v5 T6 h5 => ?_)
  obtain ⟨RT6, fT6, h5⟩ := h5
  have FT6 := FT2.tr (fT6.sub (m := 2049) (by decide))
  have GT6 := GT2.fr fT6 rfl rfl
  refine zk_bd (s_F_X5_look _ _ _ _ RT6) (fun v7 T8 h7 => ?_)
  obtain ⟨RT8, fT8, h7⟩ := h7
  have FT8 := FT6.tr (fT8.sub (m := 2049) (by decide))
  have GT8 := GT6.fr fT8 rfl rfl
  refine zk_bd (s_F_X3_grip _ RT8) (fun v9 T10 h9 => ?_)
  obtain ⟨rfl, h9⟩ := h9
  refine zk_bd (s_F_X3_slip _ RT8) (fun v11 T12 h11 => ?_)
  obtain ⟨rfl, h11⟩ := h11
  refine zk_bd (s_F_X5_carry _ _ _ _ RT8) (fun v13 T14 h13 => ?_)
  obtain ⟨RT14, fT14, h13⟩ := h13
  have FT14 := FT8.tr (fT14.sub (m := 2049) (by decide))
  have GT14 := GT8.fr fT14 rfl rfl
  exact zk_some ⟨RT14, FT14, trivial⟩
theorem s_F_X6_tryOnCopy (p1 : Int32) (S0 : fS) (RS0 : RI S0) (GS0 : GI S0) : zk (F_X6_tryOnCopy p1 S0) (fun v S9 => RI S9 ∧ Fr 3073 S0 S9 ∧ True) := by
  have l0 : (0 : Int32).toInt = 0 := by decide
  have l1 : (1 : Int32).toInt = 1 := by decide
  have FS0 : Fr 3073 S0 S0 := Fr.rf
  unfold F_X6_tryOnCopy
  refine zk_bd (s_F_X6_probeCopy _ _ RS0 GS0) (fun v1 T2 h1 => ?_)
  obtain ⟨RT2, fT2, h1⟩ := h1
  have FT2 := FS0.tr (fT2.sub (m := 3073) (by decide))
  have GT2 := GS0.fr fT2 rfl rfl
  refine zk_bd (s_F_X0_move _ _ _ RT2) (fun v3 T4 h3 => ?_)
  obtain ⟨RT4, fT4, h3⟩ := h3
  have FT4 := FT2.tr (fT4.sub (m := 3073) (by decide))
  have GT4 := GT2.fr fT4 rfl rfl
  refine zk_iv fun x5 e5 => ?_
  exact zk_some ⟨RT4, FT4, trivial⟩
theorem s_F_X6_worthOnCopy (p1 : Int32) (S0 : fS) (RS0 : RI S0) (GS0 : GI S0) : zk (F_X6_worthOnCopy p1 S0) (fun v S9 => RI S9 ∧ Fr 2049 S0 S9 ∧ True) := by
  have l0 : (0 : Int32).toInt = 0 := by decide
  have l1 : (1 : Int32).toInt = 1 := by decide
  have l3 : (3 : Int32).toInt = 3 := by decide
  have l5 : (5 : Int32).toInt = 5 := by decide
  have FS0 : Fr 2049 S0 S0 := Fr.rf
  unfold F_X6_worthOnCopy
  refine zk_bd (s_F_X6_probeCopy _ _ RS0 GS0) (fun v1 T2 h1 => ?_)
  obtain ⟨RT2, fT2, h1⟩ := h1
  have FT2 := FS0.tr (fT2.sub (m := 2049) (by decide))
  have GT2 := GS0.fr fT2 rfl rfl
  refine zk_iv fun x3 e3 => ?_
  have b4 := ti_bd x3
  refine zk_eq (fun c5 => ?_) (fun c5 => ?_)
  ·
    refine zk_bd (s_F_X2_valueOfAll _ _ _ RT2) (fun v6 T7 h6 => ?_)
    obtain ⟨rfl, h6⟩ := h6
    unfold B_X6_worthOnCopy_34
    refine zk_iv fun x8 e8 => ?_
    refine zk_iv fun x9 e9 => ?_
    exact zk_some ⟨RT2, FT2, trivial⟩
  ·
    unfold B_X6_worthOnCopy_34
    refine zk_iv fun x10 e10 => ?_
    refine zk_iv fun x11 e11 => ?_
    exact zk_some ⟨RT2, FT2, trivial⟩
theorem s_B_X6_broken_10  (z : Int32 × Int32) (S : fS) (RS : RI S) (GS : GI S) (hi : 0 ≤ z.1.toInt ∧ z.1.toInt ≤ 2 ∧ 0 ≤ z.2.toInt ∧ z.2.toInt ≤ 200) (hm : (200 - z.2.toInt).toNat < 4294967296) : zk (lp (B_X6_broken_10) fuel z S) (fun v S9 => RI S9 ∧ Fr 2049 S S9 ∧ v.1 = 0) := by
  have lm1 : (-1 : Int32).toInt = -1 := by decide
  have l0 : (0 : Int32).toInt = 0 := by decide
  have l1 : (1 : Int32).toInt = 1 := by decide
  have l2 : (2 : Int32).toInt = 2 := by decide
  have l9 : (9 : Int32).toInt = 9 := by decide
  have l11 : (11 : Int32).toInt = 11 := by decide
  have l12 : (12 : Int32).toInt = 12 := by decide
  have lo1 : (Int32.ofInt 1).toInt = 1 := by decide
  refine zk_lp (fun z S => RI S ∧ GI S ∧ (0 ≤ z.1.toInt ∧ z.1.toInt ≤ 2 ∧ 0 ≤ z.2.toInt ∧ z.2.toInt ≤ 200)) (fun z S => (200 - z.2.toInt).toNat) (fun z S (v : Nat × Int32) S9 => RI S9 ∧ Fr 2049 S S9 ∧ v.1 = 0) ?_ z S ⟨RS, GS, hi⟩ hm
  clear RS hi hm GS
  intro k z S hI hk
  obtain ⟨RS, GS, hI⟩ := hI
  obtain ⟨a1, a2⟩ := z
  (try dsimp only at hI); (try dsimp only at hk); (try dsimp only)
  have FS : Fr 2049 S S := Fr.rf
  unfold B_X6_broken_10
  dsimp only
  obtain ⟨y1, ey1⟩ : ∃ y : Int32, y = ge S 1 0 12 := ⟨_, rfl⟩
  have gy1 : 0 ≤ y1.toInt ∧ y1.toInt ≤ 200 := by rw [ey1]; exact RS 1 _ _
  have q2 : (ge S 1 0 12).toInt = y1.toInt := congrArg Int32.toInt (show ge S 1 0 12 = y1 from ey1.symm)
  refine zk_ivq (x := y1) ey1.symm ?_
  refine zk_le (fun c3 => ?_) (fun c3 => ?_)
  ·
    have q4 : (ge S 1 0 12).toInt = y1.toInt := congrArg Int32.toInt (show ge S 1 0 12 = y1 from ey1.symm)
    refine zk_bd (s_F_X6_leastPaying _ _ RS GS (by omega)) (fun v5 T6 h5 => ?_)
    obtain ⟨RT6, fT6, h5⟩ := h5
    have FT6 := FS.tr (fT6.sub (m := 2049) (by decide))
    have GT6 := GS.fr fT6 rfl rfl
    have q7 : (ge T6 1 0 12).toInt = y1.toInt := congrArg Int32.toInt (show ge T6 1 0 12 = y1 from ((fT6.1 1 0 12 rfl).trans ey1.symm))
    have b8 := ti_bd v5
    refine zk_eq (fun c9 => ?_) (fun c9 => ?_)
    ·
      unfold B_X6_broken_67
      have q10 : (ge T6 1 0 12).toInt = y1.toInt := congrArg Int32.toInt (show ge T6 1 0 12 = y1 from ((fT6.1 1 0 12 rfl).trans ey1.symm))
      refine zk_bd (s_F_X5_nameNext _ _ _ RT6) (fun v11 T12 h11 => ?_)
      obtain ⟨RT12, fT12, h11⟩ := h11
      have FT12 := FT6.tr (fT12.sub (m := 2049) (by decide))
      have GT12 := GT6.fr fT12 rfl rfl
      have q13 : (ge T12 1 0 12).toInt = y1.toInt := congrArg Int32.toInt (show ge T12 1 0 12 = y1 from ((fT12.1 1 0 12 rfl).trans ((fT6.1 1 0 12 rfl).trans ey1.symm)))
      refine zk_sv fun S14 E14 => ?_
      have RS14 : RI S14 := by rw [E14]; exact RT12.wf rfl
      have FS14 : Fr 2049 S S14 := by rw [E14]; exact FT12.wr (k := 11) rfl rfl
      have GS14 : GI S14 := by rw [E14]; exact GT12.wr (k := 11) rfl (by decide)
      refine zk_gd ⟨by omega, by omega⟩ ?_
      refine zk_qv fun o15 eo15 => ?_
      have Oo15 : OKo o15 S14 := by rw [eo15]; exact GS14.code (by decide)
      have q16 : (ge S14 1 0 12).toInt = y1.toInt := congrArg Int32.toInt (show ge S14 1 0 12 = y1 from (by rw [E14]; exact (ge_pua (by decide)).trans ((fT12.1 1 0 12 rfl).trans ((fT6.1 1 0 12 rfl).trans ey1.symm))))
      refine zk_bd (s_F_X3_holds _ _ _ RS14 GS14 Oo15) (fun v17 T18 h17 => ?_)
      obtain ⟨RT18, fT18, h17⟩ := h17
      have FT18 := FS14.tr (fT18.sub (m := 2049) (by decide))
      have GT18 := GS14.fr fT18 rfl rfl
      have q19 : (ge T18 1 0 12).toInt = y1.toInt := congrArg Int32.toInt (show ge T18 1 0 12 = y1 from ((fT18.1 1 0 12 rfl).trans (by rw [E14]; exact (ge_pua (by decide)).trans ((fT12.1 1 0 12 rfl).trans ((fT6.1 1 0 12 rfl).trans ey1.symm)))))
      have b20 := ti_bd v17
      refine zk_eq (fun c21 => ?_) (fun c21 => ?_)
      ·
        refine zk_ivq (x := y1) ((fT18.1 1 0 12 rfl).trans (by rw [E14]; exact (ge_pua (by decide)).trans ((fT12.1 1 0 12 rfl).trans ((fT6.1 1 0 12 rfl).trans ey1.symm)))) ?_
        have q22 : (ge T18 1 0 12).toInt = y1.toInt := congrArg Int32.toInt (show ge T18 1 0 12 = y1 from ((fT18.1 1 0 12 rfl).trans (by rw [E14]; exact (ge_pua (by decide)).trans ((fT12.1 1 0 12 rfl).trans ((fT6.1 1 0 12 rfl).trans ey1.symm)))))
        exact zk_some ⟨RT18, FT18, by (try dsimp only) <;> omega⟩
      ·
        have q23 : (ge T18 1 0 12).toInt = y1.toInt := congrArg Int32.toInt (show ge T18 1 0 12 = y1 from ((fT18.1 1 0 12 rfl).trans (by rw [E14]; exact (ge_pua (by decide)).trans ((fT12.1 1 0 12 rfl).trans ((fT6.1 1 0 12 rfl).trans ey1.symm)))))
        exact zk_some ⟨RT18, FT18, by (try dsimp only) <;> omega⟩
    ·
      unfold B_X6_broken_67
      have q24 : (ge T6 1 0 12).toInt = y1.toInt := congrArg Int32.toInt (show ge T6 1 0 12 = y1 from ((fT6.1 1 0 12 rfl).trans ey1.symm))
      refine zk_bd (s_F_X5_nameNext _ _ _ RT6) (fun v25 T26 h25 => ?_)
      obtain ⟨RT26, fT26, h25⟩ := h25
      have FT26 := FT6.tr (fT26.sub (m := 2049) (by decide))
      have GT26 := GT6.fr fT26 rfl rfl
      have q27 : (ge T26 1 0 12).toInt = y1.toInt := congrArg Int32.toInt (show ge T26 1 0 12 = y1 from ((fT26.1 1 0 12 rfl).trans ((fT6.1 1 0 12 rfl).trans ey1.symm)))
      refine zk_sv fun S28 E28 => ?_
      have RS28 : RI S28 := by rw [E28]; exact RT26.wf rfl
      have FS28 : Fr 2049 S S28 := by rw [E28]; exact FT26.wr (k := 11) rfl rfl
      have GS28 : GI S28 := by rw [E28]; exact GT26.wr (k := 11) rfl (by decide)
      refine zk_gd ⟨by omega, by omega⟩ ?_
      refine zk_qv fun o29 eo29 => ?_
      have Oo29 : OKo o29 S28 := by rw [eo29]; exact GS28.code (by decide)
      have q30 : (ge S28 1 0 12).toInt = y1.toInt := congrArg Int32.toInt (show ge S28 1 0 12 = y1 from (by rw [E28]; exact (ge_pua (by decide)).trans ((fT26.1 1 0 12 rfl).trans ((fT6.1 1 0 12 rfl).trans ey1.symm))))
      refine zk_bd (s_F_X3_holds _ _ _ RS28 GS28 Oo29) (fun v31 T32 h31 => ?_)
      obtain ⟨RT32, fT32, h31⟩ := h31
      have FT32 := FS28.tr (fT32.sub (m := 2049) (by decide))
      have GT32 := GS28.fr fT32 rfl rfl
      have q33 : (ge T32 1 0 12).toInt = y1.toInt := congrArg Int32.toInt (show ge T32 1 0 12 = y1 from ((fT32.1 1 0 12 rfl).trans (by rw [E28]; exact (ge_pua (by decide)).trans ((fT26.1 1 0 12 rfl).trans ((fT6.1 1 0 12 rfl).trans ey1.symm)))))
      have b34 := ti_bd v31
      refine zk_eq (fun c35 => ?_) (fun c35 => ?_)
      ·
        refine zk_ivq (x := y1) ((fT32.1 1 0 12 rfl).trans (by rw [E28]; exact (ge_pua (by decide)).trans ((fT26.1 1 0 12 rfl).trans ((fT6.1 1 0 12 rfl).trans ey1.symm)))) ?_
        have q36 : (ge T32 1 0 12).toInt = y1.toInt := congrArg Int32.toInt (show ge T32 1 0 12 = y1 from ((fT32.1 1 0 12 rfl).trans (by rw [E28]; exact (ge_pua (by decide)).trans ((fT26.1 1 0 12 rfl).trans ((fT6.1 1 0 12 rfl).trans ey1.symm)))))
        exact zk_some ⟨RT32, FT32, by (try dsimp only) <;> omega⟩
      ·
        have q37 : (ge T32 1 0 12).toInt = y1.toInt := congrArg Int32.toInt (show ge T32 1 0 12 = y1 from ((fT32.1 1 0 12 rfl).trans (by rw [E28]; exact (ge_pua (by decide)).trans ((fT26.1 1 0 12 rfl).trans ((fT6.1 1 0 12 rfl).trans ey1.symm)))))
        exact zk_some ⟨RT32, FT32, by (try dsimp only) <;> omega⟩
  ·
    refine zk_gd ⟨by omega, by omega⟩ ?_
    refine zk_qv fun o38 eo38 => ?_
    have Oo38 : OKo o38 S := by rw [eo38]; exact GS.code (by decide)
    have q39 : (ge S 1 0 12).toInt = y1.toInt := congrArg Int32.toInt (show ge S 1 0 12 = y1 from ey1.symm)
    refine zk_bd (s_F_X0_recordAt _ _ _ RS GS (by omega)) (fun v40 T41 h40 => ?_)
    obtain ⟨rfl, h40⟩ := h40
    refine zk_gd (by assumption) ?_
    have q42 : (ge S 1 0 12).toInt = y1.toInt := congrArg Int32.toInt (show ge S 1 0 12 = y1 from ey1.symm)
    refine zk_bd (s_F_X3_holds _ _ _ RS GS Oo38) (fun v43 T44 h43 => ?_)
    obtain ⟨RT44, fT44, h43⟩ := h43
    have FT44 := FS.tr (fT44.sub (m := 2049) (by decide))
    have GT44 := GS.fr fT44 rfl rfl
    have q45 : (ge T44 1 0 12).toInt = y1.toInt := congrArg Int32.toInt (show ge T44 1 0 12 = y1 from ((fT44.1 1 0 12 rfl).trans ey1.symm))
    have b46 := ti_bd v43
    refine zk_eq (fun c47 => ?_) (fun c47 => ?_)
    ·
      have q48 : (ge T44 1 0 12).toInt = y1.toInt := congrArg Int32.toInt (show ge T44 1 0 12 = y1 from ((fT44.1 1 0 12 rfl).trans ey1.symm))
      exact zk_some ⟨RT44, FT44, by (try dsimp only) <;> omega⟩
    ·
      refine zk_iv fun x49 e49 => ?_
      have gx49 : x49.toInt = a2.toInt + (Int32.ofInt 1).toInt := by rw [e49]; exact ti_add (by omega) (by omega)
      have q50 : (ge T44 1 0 12).toInt = y1.toInt := congrArg Int32.toInt (show ge T44 1 0 12 = y1 from ((fT44.1 1 0 12 rfl).trans ey1.symm))
      refine zk_imp (hk (a1, x49) _ ⟨RT44, GT44, (by (try dsimp only) <;> omega)⟩ (by (try dsimp only) <;> omega)) (fun v51 T52 h51 => ?_)
      obtain ⟨RT52, FT52, h51⟩ := h51
      try dsimp only at h51
      exact ⟨RT52, FT44.tr FT52, by omega⟩
theorem s_F_X6_broken (p1 : Int32) (S0 : fS) (RS0 : RI S0) (GS0 : GI S0) : zk (F_X6_broken p1 S0) (fun v S9 => RI S9 ∧ Fr 2049 S0 S9 ∧ (v.1 = 0 ∨ v.1 = 3)) := by
  have l0 : (0 : Int32).toInt = 0 := by decide
  have l7 : (7 : Int32).toInt = 7 := by decide
  have FS0 : Fr 2049 S0 S0 := Fr.rf
  unfold F_X6_broken
  refine zk_iv fun x1 e1 => ?_
  have gx1 : 0 ≤ x1.toInt ∧ x1.toInt ≤ 3 := by rw [e1]; exact RS0 0 _ _
  refine zk_bx (s_F_X6_needElement _ _ _ RS0 (by omega)) (fun v2 T3 h2 => ?_) (fun z4 v2 T3 h2 => ?_)
  ·
    obtain ⟨rfl, h2⟩ := h2
    try dsimp only at h2
    refine zk_imp (s_B_X6_broken_10 _ _ RS0 GS0 (by (try dsimp only) <;> omega) (by (try dsimp only) <;> omega)) (fun v5 T6 h5 => ?_)
    obtain ⟨RT6, fT6, h5⟩ := h5
    have FT6 := FS0.tr (fT6.sub (m := 2049) (by decide))
    have GT6 := GS0.fr fT6 rfl rfl
    try dsimp only at h5
    exact ⟨RT6, FT6, by omega⟩
  ·
    obtain ⟨rfl, h2⟩ := h2
    try dsimp only at h2
    exact ⟨RS0, FS0, by (try dsimp only) <;> omega⟩
