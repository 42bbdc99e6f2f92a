/-! the pure part: the reference, its walker of texts -/
theorem s_F_X7_bad (p1 : Int32) (p2 : Int32) (S0 : fS) (RS0 : RI S0) : zk (F_X7_bad p1 p2 S0) (fun v S9 => RI S9 ∧ Fr 65536 S0 S9 ∧ (v.toInt = 0 ∨ v.toInt = 1)) := by
  have l0 : (0 : Int32).toInt = 0 := by decide
  have l1 : (1 : Int32).toInt = 1 := by decide
  have FS0 : Fr 65536 S0 S0 := Fr.rf
  unfold F_X7_bad
  have b1 := ti_bd p1
  refine zk_eq (fun c2 => ?_) (fun c2 => ?_)
  ·
    unfold B_X7_bad_16
    refine zk_iv fun x3 e3 => ?_
    have b4 := ti_bd x3
    refine zk_eq (fun c5 => ?_) (fun c5 => ?_)
    ·
      exact zk_some ⟨RS0, FS0, by omega⟩
    ·
      exact zk_some ⟨RS0, FS0, by omega⟩
  ·
    refine zk_iv fun x6 e6 => ?_
    have b7 := ti_bd x6
    refine zk_eq (fun c8 => ?_) (fun c8 => ?_)
    ·
      refine zk_sv fun S9 E9 => ?_
      have RS9 : RI S9 := by rw [E9]; exact RS0.wf rfl
      have FS9 : Fr 65536 S0 S9 := by rw [E9]; exact FS0.wr (k := 16) rfl rfl
      unfold B_X7_bad_16
      refine zk_ivq (x := p2) (by rw [E9]; exact ge_pus) ?_
      have b10 := ti_bd p2
      refine zk_eq (fun c11 => ?_) (fun c11 => ?_)
      ·
        exact zk_some ⟨RS9, FS9, by omega⟩
      ·
        exact zk_some ⟨RS9, FS9, by omega⟩
    ·
      unfold B_X7_bad_16
      refine zk_ivq (x := x6) e6.symm ?_
      refine zk_eq (fun c12 => ?_) (fun c12 => ?_)
      ·
        exact zk_some ⟨RS0, FS0, by omega⟩
      ·
        exact zk_some ⟨RS0, FS0, by omega⟩
theorem s_F_X7_in (p0 : Int32) (p1 : Int32) (p2 : Int32) (S0 : fS) (RS0 : RI S0) : zk (F_X7_in p0 p1 p2 S0) (fun v S9 => S0 = S9 ∧ (v.toInt = 0 ∨ (v.toInt = 1 ∧ p1.toInt ≤ p0.toInt ∧ p0.toInt ≤ p2.toInt))) := by
  have l0 : (0 : Int32).toInt = 0 := by decide
  have l1 : (1 : Int32).toInt = 1 := by decide
  unfold F_X7_in
  have b1 := ti_bd p0
  have b2 := ti_bd p1
  refine zk_lt (fun c3 => ?_) (fun c3 => ?_)
  ·
    exact zk_some ⟨rfl, by omega⟩
  ·
    have b4 := ti_bd p2
    refine zk_lt (fun c5 => ?_) (fun c5 => ?_)
    ·
      exact zk_some ⟨rfl, by omega⟩
    ·
      exact zk_some ⟨rfl, by omega⟩
theorem s_F_X7_isCell (p0 : Int32) (S0 : fS) (RS0 : RI S0) : zk (F_X7_isCell p0 S0) (fun v S9 => S0 = S9 ∧ (v.toInt = 0 ∨ (v.toInt = 1 ∧ 0 ≤ p0.toInt ∧ p0.toInt ≤ 63))) := by
  have l0 : (0 : Int32).toInt = 0 := by decide
  have l1 : (1 : Int32).toInt = 1 := by decide
  have l63 : (63 : Int32).toInt = 63 := by decide
  unfold F_X7_isCell
  refine zk_bd (s_F_X7_in _ _ _ _ RS0) (fun v1 T2 h1 => ?_)
  obtain ⟨rfl, h1⟩ := h1
  refine zk_gd (z01 (by omega)) ?_
  exact zk_some ⟨rfl, by omega⟩
theorem s_F_X7_apart (p0 : Int32) (p1 : Int32) (S0 : fS) (RS0 : RI S0) : zk (F_X7_apart p0 p1 S0) (fun v S9 => S0 = S9 ∧ True) := by
  unfold F_X7_apart
  have b1 := ti_bd p1
  have b2 := ti_bd p0
  refine zk_le (fun c3 => ?_) (fun c3 => ?_)
  ·
    refine zk_iv fun x4 e4 => ?_
    exact zk_some ⟨rfl, trivial⟩
  ·
    refine zk_iv fun x5 e5 => ?_
    exact zk_some ⟨rfl, trivial⟩
/-- the byte at a place of the text that is being read; -1 past its end -/
def byv (S : fS) (p : Int32) : Int := if p.toInt < (ge S 40 0 2).toInt then (if (ge S 40 0 8).toInt = -1 then (ge S 41 0 p.toNatClampNeg).toInt else (ge S 43 (ge S 40 0 8).toNatClampNeg p.toNatClampNeg).toInt) else -1
theorem byv_bd {S : fS} (R : RI S) (p : Int32) : byv S p = -1 ∨ (0 ≤ byv S p ∧ byv S p ≤ 255 ∧ p.toInt < (ge S 40 0 2).toInt) := by
  unfold byv
  by_cases c : p.toInt < (ge S 40 0 2).toInt
  · rw [if_pos c]
    by_cases d : (ge S 40 0 8).toInt = -1
    · rw [if_pos d]
      have h : 0 ≤ (ge S 41 0 p.toNatClampNeg).toInt ∧ (ge S 41 0 p.toNatClampNeg).toInt ≤ 255 := R 41 _ _
      exact Or.inr ⟨h.1, h.2, c⟩
    · rw [if_neg d]
      have h : 0 ≤ (ge S 43 (ge S 40 0 8).toNatClampNeg p.toNatClampNeg).toInt ∧ (ge S 43 (ge S 40 0 8).toNatClampNeg p.toNatClampNeg).toInt ≤ 255 := R 43 _ _
      exact Or.inr ⟨h.1, h.2, c⟩
  · rw [if_neg c]
    exact Or.inl rfl
theorem byv_fr {S S' : fS} {m : Nat} (F : Fr m S S') (hm : m.testBit 25 = false) (p : Int32) : byv S' p = byv S p := by
  have h1 := F.1 40 0 2 hm
  have h2 := F.1 40 0 8 hm
  have h3 : ∀ i j : Nat, ge S' 41 i j = ge S 41 i j := fun i j => F.1 41 i j hm
  have h4 : ∀ i j : Nat, ge S' 43 i j = ge S 43 i j := fun i j => F.1 43 i j hm
  unfold byv
  rw [h1, h2, h3, h4]
theorem s_F_X7_byteAt (p1 : Int32) (S0 : fS) (RS0 : RI S0) (hp : 0 ≤ p1.toInt) : zk (F_X7_byteAt p1 S0) (fun v S9 => S0 = S9 ∧ v.toInt = byv S0 p1) := by
  have lm1 : (-1 : Int32).toInt = -1 := by decide
  have g2 : 0 ≤ (ge S0 40 0 2).toInt ∧ (ge S0 40 0 2).toInt ≤ 300 := RS0 40 _ _
  have g8 : -1 ≤ (ge S0 40 0 8).toInt ∧ (ge S0 40 0 8).toInt ≤ 8 := RS0 40 _ _
  unfold F_X7_byteAt byv
  refine zk_iv fun x1 e1 => ?_
  subst e1
  refine zk_lt (fun c => ?_) (fun c => ?_)
  · refine zk_iv fun x3 e3 => ?_
    subst e3
    refine zk_eq (fun d => ?_) (fun d => ?_)
    · refine zk_gd ⟨by omega, by omega⟩ ?_
      refine zk_iv fun x10 e10 => ?_
      exact zk_some ⟨rfl, by rw [if_pos c, if_pos (by omega), e10]⟩
    · refine zk_ivq rfl ?_
      refine zk_gd ⟨by omega, by omega⟩ ?_
      refine zk_gd ⟨by omega, by omega⟩ ?_
      refine zk_iv fun x8 e8 => ?_
      exact zk_some ⟨rfl, by rw [if_pos c, if_neg (by omega), e8]⟩
  · exact zk_some ⟨rfl, by rw [if_neg (by omega)]; exact lm1⟩
def wd2 (t p : Int32) : Int32 := if p = 0 then t else 27 * t + p
def wd (p0 p1 p2 p3 p4 : Int32) : Int32 := wd2 (wd2 (wd2 (27 * p0 + p1) p2) p3) p4
theorem byv_c {S : fS} {x y : Int32} (h : x.toInt = y.toInt) : byv S x = byv S y := by rw [of_toInt h]
theorem ti_mulc {a b : Int32} {c : Int} (ha : a.toInt = c) (h1 : -2147483648 ≤ c * b.toInt) (h2 : c * b.toInt ≤ 2147483647) : (a * b).toInt = c * b.toInt := by
  rw [← ha] at h1 h2 ⊢
  exact ti_mul h1 h2
theorem s_F_X7_word (p0 p1 p2 p3 p4 : Int32) (S0 : fS) (RS0 : RI S0) : zk (F_X7_word p0 p1 p2 p3 p4 S0) (fun v S9 => S0 = S9 ∧ v = wd p0 p1 p2 p3 p4) := by
  unfold F_X7_word wd wd2
  refine zk_iv fun x1 e1 => ?_
  refine zk_iv fun x2 e2 => ?_
  subst e1 e2
  have J : ∀ t : Int32, zk (B_X7_word_24 p3 p4 t S0) (fun v S9 => S0 = S9 ∧ v = (if p4 = 0 then (if p3 = 0 then t else 27 * t + p3) else 27 * (if p3 = 0 then t else 27 * t + p3) + p4)) := by
    intro t
    unfold B_X7_word_24 B_X7_word_42
    refine zk_bb (fun c => ?_) (fun c => ?_)
    · refine zk_bb (fun d => zk_some ⟨rfl, by rw [if_pos d, if_pos c]⟩) (fun d => ?_)
      refine zk_iv fun x e => ?_
      refine zk_iv fun y ey => ?_
      exact zk_some ⟨rfl, by rw [if_neg d, if_pos c, ey, e]⟩
    · refine zk_iv fun x e => ?_
      refine zk_iv fun y ey => ?_
      refine zk_bb (fun d => zk_some ⟨rfl, by rw [if_pos d, if_neg c, ey, e]⟩) (fun d => ?_)
      refine zk_iv fun x' e' => ?_
      refine zk_iv fun y' ey' => ?_
      exact zk_some ⟨rfl, by rw [if_neg d, if_neg c, ey', e', ey, e]⟩
  refine zk_bb (fun c => ?_) (fun c => ?_)
  · rw [if_pos c]
    exact J _
  · rw [if_neg c]
    refine zk_iv fun x e => ?_
    refine zk_iv fun y ey => ?_
    subst e ey
    exact J _
theorem s_B_X7_blanks_0  (z : Unit) (S : fS) (RS : RI S) (hi : True) (hm : (300 - (ge S 40 0 4).toInt).toNat < 4294967296) : zk (lp (B_X7_blanks_0) fuel z S) (fun v S9 => RI S9 ∧ Fr 536870912 S S9 ∧ (ge S 40 0 4).toInt ≤ (ge S9 40 0 4).toInt) := by
  have l0 : (0 : Int32).toInt = 0 := by decide
  have l1 : (1 : Int32).toInt = 1 := by decide
  have l4 : (4 : Int32).toInt = 4 := by decide
  have l32 : (32 : Int32).toInt = 32 := by decide
  refine zk_lp (fun z S => RI S ∧ (True)) (fun z S => (300 - (ge S 40 0 4).toInt).toNat) (fun z S (v : Int32) S9 => RI S9 ∧ Fr 536870912 S S9 ∧ (ge S 40 0 4).toInt ≤ (ge S9 40 0 4).toInt) ?_ z S ⟨RS, hi⟩ hm
  clear RS hi hm
  intro k z S hI hk
  obtain ⟨RS, hI⟩ := hI
  have FS : Fr 536870912 S S := Fr.rf
  unfold B_X7_blanks_0
  obtain ⟨y1, ey1⟩ : ∃ y : Int32, y = ge S 40 0 2 := ⟨_, rfl⟩
  have gy1 : 0 ≤ y1.toInt ∧ y1.toInt ≤ 300 := by rw [ey1]; exact RS 40 _ _
  have q2 : (ge S 40 0 2).toInt = y1.toInt := congrArg Int32.toInt (show ge S 40 0 2 = y1 from ey1.symm)
  obtain ⟨y3, ey3⟩ : ∃ y : Int32, y = ge S 40 0 4 := ⟨_, rfl⟩
  have gy3 : 0 ≤ y3.toInt ∧ y3.toInt ≤ 300 := by rw [ey3]; exact RS 40 _ _
  have q4 : (ge S 40 0 4).toInt = y3.toInt := congrArg Int32.toInt (show ge S 40 0 4 = y3 from ey3.symm)
  refine zk_ivq (x := y3) ey3.symm ?_
  refine zk_bd (s_F_X7_byteAt _ _ RS (by omega)) (fun v5 T6 h5 => ?_)
  obtain ⟨rfl, h5⟩ := h5
  have h5b := byv_bd RS y3
  rw [← h5] at h5b
  have q7 : (ge S 40 0 2).toInt = y1.toInt := congrArg Int32.toInt (show ge S 40 0 2 = y1 from ey1.symm)
  have q8 : (ge S 40 0 4).toInt = y3.toInt := congrArg Int32.toInt (show ge S 40 0 4 = y3 from ey3.symm)
  refine zk_eq (fun c9 => ?_) (fun c9 => ?_)
  ·
    refine zk_ivq (x := y3) ey3.symm ?_
    refine zk_iv fun x10 e10 => ?_
    have gx10 : x10.toInt = y3.toInt + (1 : Int32).toInt := by rw [e10]; exact ti_add (by omega) (by omega)
    refine zk_sv fun S11 E11 => ?_
    have RS11 : RI S11 := by rw [E11]; exact RS.wr (show (0 : Int) ≤ x10.toInt by omega) (show x10.toInt ≤ 300 by omega)
    have FS11 : Fr 536870912 S S11 := by rw [E11]; exact FS.wr (k := 29) rfl rfl
    have q12 : (ge S11 40 0 2).toInt = y1.toInt := congrArg Int32.toInt (show ge S11 40 0 2 = y1 from (by rw [E11]; exact (ge_puj (by decide)).trans ey1.symm))
    have q13 : (ge S11 40 0 4).toInt = x10.toInt := congrArg Int32.toInt (show ge S11 40 0 4 = x10 from (by rw [E11]; exact ge_pus))
    refine zk_imp (hk () _ ⟨RS11, trivial⟩ (by omega)) (fun v14 T15 h14 => ?_)
    obtain ⟨RT15, FT15, h14⟩ := h14
    exact ⟨RT15, FS11.tr FT15, by omega⟩
  ·
    have q16 : (ge S 40 0 2).toInt = y1.toInt := congrArg Int32.toInt (show ge S 40 0 2 = y1 from ey1.symm)
    have q17 : (ge S 40 0 4).toInt = y3.toInt := congrArg Int32.toInt (show ge S 40 0 4 = y3 from ey3.symm)
    exact zk_some ⟨RS, FS, by omega⟩
theorem s_F_X7_blanks (S0 : fS) (RS0 : RI S0) : zk (F_X7_blanks S0) (fun v S9 => RI S9 ∧ Fr 536870912 S0 S9 ∧ (ge S0 40 0 4).toInt ≤ (ge S9 40 0 4).toInt) := by
  have FS0 : Fr 536870912 S0 S0 := Fr.rf
  unfold F_X7_blanks
  obtain ⟨y1, ey1⟩ : ∃ y : Int32, y = ge S0 40 0 2 := ⟨_, rfl⟩
  have gy1 : 0 ≤ y1.toInt ∧ y1.toInt ≤ 300 := by rw [ey1]; exact RS0 40 _ _
  have q2 : (ge S0 40 0 2).toInt = y1.toInt := congrArg Int32.toInt (show ge S0 40 0 2 = y1 from ey1.symm)
  obtain ⟨y3, ey3⟩ : ∃ y : Int32, y = ge S0 40 0 4 := ⟨_, rfl⟩
  have gy3 : 0 ≤ y3.toInt ∧ y3.toInt ≤ 300 := by rw [ey3]; exact RS0 40 _ _
  have q4 : (ge S0 40 0 4).toInt = y3.toInt := congrArg Int32.toInt (show ge S0 40 0 4 = y3 from ey3.symm)
  have q5 : (ge S0 40 0 2).toInt = y1.toInt := congrArg Int32.toInt (show ge S0 40 0 2 = y1 from ey1.symm)
  have q6 : (ge S0 40 0 4).toInt = y3.toInt := congrArg Int32.toInt (show ge S0 40 0 4 = y3 from ey3.symm)
  refine zk_imp (s_B_X7_blanks_0 _ _ RS0 trivial (by omega)) (fun v7 T8 h7 => ?_)
  obtain ⟨RT8, fT8, h7⟩ := h7
  have FT8 := FS0.tr (fT8.sub (m := 536870912) (by decide))
  have q9 : (ge T8 40 0 2).toInt = y1.toInt := congrArg Int32.toInt (show ge T8 40 0 2 = y1 from ((fT8.1 40 0 2 rfl).trans ey1.symm))
  obtain ⟨y10, ey10⟩ : ∃ y : Int32, y = ge T8 40 0 4 := ⟨_, rfl⟩
  have gy10 : 0 ≤ y10.toInt ∧ y10.toInt ≤ 300 := by rw [ey10]; exact RT8 40 _ _
  have q11 : (ge T8 40 0 4).toInt = y10.toInt := congrArg Int32.toInt (show ge T8 40 0 4 = y10 from ey10.symm)
  exact ⟨RT8, FT8, by omega⟩
theorem s_F_X7_wrong (p1 : Int32) (p2 : Int32) (S0 : fS) (RS0 : RI S0) (hp : ¬ p1.toInt = 0) : zk (F_X7_wrong p1 p2 S0) (fun v S9 => RI S9 ∧ Fr 8590000128 S0 S9 ∧ ¬ (ge S9 40 0 6).toInt = 0) := by
  have l0 : (0 : Int32).toInt = 0 := by decide
  have l6 : (6 : Int32).toInt = 6 := by decide
  have l7 : (7 : Int32).toInt = 7 := by decide
  have FS0 : Fr 8590000128 S0 S0 := Fr.rf
  unfold F_X7_wrong
  obtain ⟨y1, ey1⟩ : ∃ y : Int32, y = ge S0 40 0 6 := ⟨_, rfl⟩
  have q2 : (ge S0 40 0 6).toInt = y1.toInt := congrArg Int32.toInt (show ge S0 40 0 6 = y1 from ey1.symm)
  refine zk_ivq (x := y1) ey1.symm ?_
  have b3 := ti_bd y1
  refine zk_eq (fun c4 => ?_) (fun c4 => ?_)
  ·
    refine zk_sv fun S5 E5 => ?_
    have RS5 : RI S5 := by rw [E5]; exact RS0.wf rfl
    have FS5 : Fr 8590000128 S0 S5 := by rw [E5]; exact FS0.wr (k := 33) rfl rfl
    refine zk_sv fun S6 E6 => ?_
    have RS6 : RI S6 := by rw [E6]; exact RS5.wf rfl
    have FS6 : Fr 8590000128 S0 S6 := by rw [E6]; exact FS5.wr (k := 16) rfl rfl
    have q7 : (ge S6 40 0 6).toInt = p1.toInt := congrArg Int32.toInt (show ge S6 40 0 6 = p1 from (by rw [E6]; exact (ge_puj (by decide)).trans (by rw [E5]; exact ge_pus)))
    exact zk_some ⟨RS6, FS6, by omega⟩
  ·
    have q8 : (ge S0 40 0 6).toInt = y1.toInt := congrArg Int32.toInt (show ge S0 40 0 6 = y1 from ey1.symm)
    exact zk_some ⟨RS0, FS0, by omega⟩
theorem s_F_X7_isDigit (p0 : Int32) (S0 : fS) (RS0 : RI S0) : zk (F_X7_isDigit p0 S0) (fun v S9 => S0 = S9 ∧ (v.toInt = 0 ∨ (v.toInt = 1 ∧ 48 ≤ p0.toInt ∧ p0.toInt ≤ 57))) := by
  have l0 : (0 : Int32).toInt = 0 := by decide
  have l1 : (1 : Int32).toInt = 1 := by decide
  have l48 : (48 : Int32).toInt = 48 := by decide
  have l57 : (57 : Int32).toInt = 57 := by decide
  unfold F_X7_isDigit
  have b1 := ti_bd p0
  refine zk_lt (fun c2 => ?_) (fun c2 => ?_)
  ·
    exact zk_some ⟨rfl, by omega⟩
  ·
    refine zk_lt (fun c3 => ?_) (fun c3 => ?_)
    ·
      exact zk_some ⟨rfl, by omega⟩
    ·
      exact zk_some ⟨rfl, by omega⟩
theorem s_B_X7_number_7  (z : Int32 × Int32) (S : fS) (RS : RI S) (hi : True) (hm : (300 - (ge S 40 0 4).toInt).toNat < 4294967296) : zk (lp (B_X7_number_7) fuel z S) (fun v S9 => RI S9 ∧ Fr 9126871040 S S9 ∧ ((ge S 40 0 4).toInt ≤ (ge S9 40 0 4).toInt ∧ (¬ (ge S 40 0 6).toInt = 0 → ¬ (ge S9 40 0 6).toInt = 0))) := by
  have l0 : (0 : Int32).toInt = 0 := by decide
  have l1 : (1 : Int32).toInt = 1 := by decide
  have l2 : (2 : Int32).toInt = 2 := by decide
  have l4 : (4 : Int32).toInt = 4 := by decide
  have l10 : (10 : Int32).toInt = 10 := by decide
  have l48 : (48 : Int32).toInt = 48 := by decide
  have l999 : (999 : Int32).toInt = 999 := by decide
  have l10000 : (10000 : Int32).toInt = 10000 := by decide
  refine zk_lp (fun z S => RI S ∧ (True)) (fun z S => (300 - (ge S 40 0 4).toInt).toNat) (fun z S (v : Int32) S9 => RI S9 ∧ Fr 9126871040 S S9 ∧ ((ge S 40 0 4).toInt ≤ (ge S9 40 0 4).toInt ∧ (¬ (ge S 40 0 6).toInt = 0 → ¬ (ge S9 40 0 6).toInt = 0))) ?_ z S ⟨RS, hi⟩ hm
  clear RS hi hm
  intro k z S hI hk
  obtain ⟨RS, hI⟩ := hI
  obtain ⟨a1, a2⟩ := z
  (try dsimp only at hI); (try dsimp only at hk); (try dsimp only)
  have FS : Fr 9126871040 S S := Fr.rf
  unfold B_X7_number_7
  dsimp only
  obtain ⟨y1, ey1⟩ : ∃ y : Int32, y = ge S 40 0 2 := ⟨_, rfl⟩
  have gy1 : 0 ≤ y1.toInt ∧ y1.toInt ≤ 300 := by rw [ey1]; exact RS 40 _ _
  have q2 : (ge S 40 0 2).toInt = y1.toInt := congrArg Int32.toInt (show ge S 40 0 2 = y1 from ey1.symm)
  obtain ⟨y3, ey3⟩ : ∃ y : Int32, y = ge S 40 0 4 := ⟨_, rfl⟩
  have gy3 : 0 ≤ y3.toInt ∧ y3.toInt ≤ 300 := by rw [ey3]; exact RS 40 _ _
  have q4 : (ge S 40 0 4).toInt = y3.toInt := congrArg Int32.toInt (show ge S 40 0 4 = y3 from ey3.symm)
  obtain ⟨y5, ey5⟩ : ∃ y : Int32, y = ge S 40 0 6 := ⟨_, rfl⟩
  have q6 : (ge S 40 0 6).toInt = y5.toInt := congrArg Int32.toInt (show ge S 40 0 6 = y5 from ey5.symm)
  refine zk_ivq (x := y3) ey3.symm ?_
  refine zk_bd (s_F_X7_byteAt _ _ RS (by omega)) (fun v7 T8 h7 => ?_)
  obtain ⟨rfl, h7⟩ := h7
  have h7b := byv_bd RS y3
  rw [← h7] at h7b
  have q9 : (ge S 40 0 2).toInt = y1.toInt := congrArg Int32.toInt (show ge S 40 0 2 = y1 from ey1.symm)
  have q10 : (ge S 40 0 4).toInt = y3.toInt := congrArg Int32.toInt (show ge S 40 0 4 = y3 from ey3.symm)
  have q11 : (ge S 40 0 6).toInt = y5.toInt := congrArg Int32.toInt (show ge S 40 0 6 = y5 from ey5.symm)
  refine zk_bd (s_F_X7_isDigit _ _ RS) (fun v12 T13 h12 => ?_)
  obtain ⟨rfl, h12⟩ := h12
  refine zk_eq (fun c14 => ?_) (fun c14 => ?_)
  ·
    have b15 := ti_bd a2
    refine zk_le (fun c16 => ?_) (fun c16 => ?_)
    ·
      have q17 : (ge S 40 0 2).toInt = y1.toInt := congrArg Int32.toInt (show ge S 40 0 2 = y1 from ey1.symm)
      have q18 : (ge S 40 0 4).toInt = y3.toInt := congrArg Int32.toInt (show ge S 40 0 4 = y3 from ey3.symm)
      have q19 : (ge S 40 0 6).toInt = y5.toInt := congrArg Int32.toInt (show ge S 40 0 6 = y5 from ey5.symm)
      exact zk_some ⟨RS, FS, by omega⟩
    ·
      have q20 : (ge S 40 0 2).toInt = y1.toInt := congrArg Int32.toInt (show ge S 40 0 2 = y1 from ey1.symm)
      have q21 : (ge S 40 0 4).toInt = y3.toInt := congrArg Int32.toInt (show ge S 40 0 4 = y3 from ey3.symm)
      have q22 : (ge S 40 0 6).toInt = y5.toInt := congrArg Int32.toInt (show ge S 40 0 6 = y5 from ey5.symm)
      refine zk_bd (s_F_X7_wrong _ _ _ RS (by omega)) (fun v23 T24 h23 => ?_)
      obtain ⟨RT24, fT24, h23⟩ := h23
      have FT24 := FS.tr (fT24.sub (m := 9126871040) (by decide))
      have q25 : (ge T24 40 0 2).toInt = y1.toInt := congrArg Int32.toInt (show ge T24 40 0 2 = y1 from ((fT24.1 40 0 2 rfl).trans ey1.symm))
      have q26 : (ge T24 40 0 4).toInt = y3.toInt := congrArg Int32.toInt (show ge T24 40 0 4 = y3 from ((fT24.1 40 0 4 rfl).trans ey3.symm))
      obtain ⟨y27, ey27⟩ : ∃ y : Int32, y = ge T24 40 0 6 := ⟨_, rfl⟩
      have q28 : (ge T24 40 0 6).toInt = y27.toInt := congrArg Int32.toInt (show ge T24 40 0 6 = y27 from ey27.symm)
      have q29 : (ge T24 40 0 2).toInt = y1.toInt := congrArg Int32.toInt (show ge T24 40 0 2 = y1 from ((fT24.1 40 0 2 rfl).trans ey1.symm))
      have q30 : (ge T24 40 0 4).toInt = y3.toInt := congrArg Int32.toInt (show ge T24 40 0 4 = y3 from ((fT24.1 40 0 4 rfl).trans ey3.symm))
      have q31 : (ge T24 40 0 6).toInt = y27.toInt := congrArg Int32.toInt (show ge T24 40 0 6 = y27 from ey27.symm)
      exact zk_some ⟨RT24, FT24, by omega⟩
  ·
    refine zk_iv fun x32 e32 => ?_
    refine zk_ivq (x := y3) ey3.symm ?_
    refine zk_bd (s_F_X7_byteAt _ _ RS (by omega)) (fun v33 T34 h33 => ?_)
    obtain ⟨rfl, h33⟩ := h33
    have h33b := byv_bd RS y3
    rw [← h33] at h33b
    have q35 : (ge S 40 0 2).toInt = y1.toInt := congrArg Int32.toInt (show ge S 40 0 2 = y1 from ey1.symm)
    have q36 : (ge S 40 0 4).toInt = y3.toInt := congrArg Int32.toInt (show ge S 40 0 4 = y3 from ey3.symm)
    have q37 : (ge S 40 0 6).toInt = y5.toInt := congrArg Int32.toInt (show ge S 40 0 6 = y5 from ey5.symm)
    refine zk_iv fun x38 e38 => ?_
    refine zk_iv fun x39 e39 => ?_
    have b40 := ti_bd x39
    refine zk_le (fun c41 => ?_) (fun c41 => ?_)
    ·
      unfold B_X7_number_52
      refine zk_ivq (x := y3) ey3.symm ?_
      refine zk_iv fun x42 e42 => ?_
      have gx42 : x42.toInt = y3.toInt + (1 : Int32).toInt := by rw [e42]; exact ti_add (by omega) (by omega)
      refine zk_sv fun S43 E43 => ?_
      have RS43 : RI S43 := by rw [E43]; exact RS.wr (show (0 : Int) ≤ x42.toInt by omega) (show x42.toInt ≤ 300 by omega)
      have FS43 : Fr 9126871040 S S43 := by rw [E43]; exact FS.wr (k := 29) rfl rfl
      have q44 : (ge S43 40 0 2).toInt = y1.toInt := congrArg Int32.toInt (show ge S43 40 0 2 = y1 from (by rw [E43]; exact (ge_puj (by decide)).trans ey1.symm))
      have q45 : (ge S43 40 0 4).toInt = x42.toInt := congrArg Int32.toInt (show ge S43 40 0 4 = x42 from (by rw [E43]; exact ge_pus))
      have q46 : (ge S43 40 0 6).toInt = y5.toInt := congrArg Int32.toInt (show ge S43 40 0 6 = y5 from (by rw [E43]; exact (ge_puj (by decide)).trans ey5.symm))
      refine zk_imp (hk (a1, x39) _ ⟨RS43, trivial⟩ (by (try dsimp only) <;> omega)) (fun v47 T48 h47 => ?_)
      obtain ⟨RT48, FT48, h47⟩ := h47
      try dsimp only at h47
      exact ⟨RT48, FS43.tr FT48, by omega⟩
    ·
      unfold B_X7_number_52
      refine zk_ivq (x := y3) ey3.symm ?_
      refine zk_iv fun x49 e49 => ?_
      have gx49 : x49.toInt = y3.toInt + (1 : Int32).toInt := by rw [e49]; exact ti_add (by omega) (by omega)
      refine zk_sv fun S50 E50 => ?_
      have RS50 : RI S50 := by rw [E50]; exact RS.wr (show (0 : Int) ≤ x49.toInt by omega) (show x49.toInt ≤ 300 by omega)
      have FS50 : Fr 9126871040 S S50 := by rw [E50]; exact FS.wr (k := 29) rfl rfl
      have q51 : (ge S50 40 0 2).toInt = y1.toInt := congrArg Int32.toInt (show ge S50 40 0 2 = y1 from (by rw [E50]; exact (ge_puj (by decide)).trans ey1.symm))
      have q52 : (ge S50 40 0 4).toInt = x49.toInt := congrArg Int32.toInt (show ge S50 40 0 4 = x49 from (by rw [E50]; exact ge_pus))
      have q53 : (ge S50 40 0 6).toInt = y5.toInt := congrArg Int32.toInt (show ge S50 40 0 6 = y5 from (by rw [E50]; exact (ge_puj (by decide)).trans ey5.symm))
      refine zk_imp (hk (a1, (10000 : Int32)) _ ⟨RS50, trivial⟩ (by (try dsimp only) <;> omega)) (fun v54 T55 h54 => ?_)
      obtain ⟨RT55, FT55, h54⟩ := h54
      try dsimp only at h54
      exact ⟨RT55, FS50.tr FT55, by omega⟩
theorem s_F_X7_number (S0 : fS) (RS0 : RI S0) : zk (F_X7_number S0) (fun v S9 => RI S9 ∧ Fr 9126871040 S0 S9 ∧ ((ge S0 40 0 4).toInt ≤ (ge S9 40 0 4).toInt ∧ (¬ (ge S0 40 0 6).toInt = 0 → ¬ (ge S9 40 0 6).toInt = 0))) := by
  have l0 : (0 : Int32).toInt = 0 := by decide
  have l4 : (4 : Int32).toInt = 4 := by decide
  have FS0 : Fr 9126871040 S0 S0 := Fr.rf
  unfold F_X7_number
  obtain ⟨y1, ey1⟩ : ∃ y : Int32, y = ge S0 40 0 2 := ⟨_, rfl⟩
  have gy1 : 0 ≤ y1.toInt ∧ y1.toInt ≤ 300 := by rw [ey1]; exact RS0 40 _ _
  have q2 : (ge S0 40 0 2).toInt = y1.toInt := congrArg Int32.toInt (show ge S0 40 0 2 = y1 from ey1.symm)
  obtain ⟨y3, ey3⟩ : ∃ y : Int32, y = ge S0 40 0 4 := ⟨_, rfl⟩
  have gy3 : 0 ≤ y3.toInt ∧ y3.toInt ≤ 300 := by rw [ey3]; exact RS0 40 _ _
  have q4 : (ge S0 40 0 4).toInt = y3.toInt := congrArg Int32.toInt (show ge S0 40 0 4 = y3 from ey3.symm)
  obtain ⟨y5, ey5⟩ : ∃ y : Int32, y = ge S0 40 0 6 := ⟨_, rfl⟩
  have q6 : (ge S0 40 0 6).toInt = y5.toInt := congrArg Int32.toInt (show ge S0 40 0 6 = y5 from ey5.symm)
  refine zk_ivq (x := y3) ey3.symm ?_
  have q7 : (ge S0 40 0 2).toInt = y1.toInt := congrArg Int32.toInt (show ge S0 40 0 2 = y1 from ey1.symm)
  have q8 : (ge S0 40 0 4).toInt = y3.toInt := congrArg Int32.toInt (show ge S0 40 0 4 = y3 from ey3.symm)
  have q9 : (ge S0 40 0 6).toInt = y5.toInt := congrArg Int32.toInt (show ge S0 40 0 6 = y5 from ey5.symm)
  refine zk_imp (s_B_X7_number_7 _ _ RS0 trivial (by (try dsimp only) <;> omega)) (fun v10 T11 h10 => ?_)
  obtain ⟨RT11, fT11, h10⟩ := h10
  have FT11 := FS0.tr (fT11.sub (m := 9126871040) (by decide))
  have q12 : (ge T11 40 0 2).toInt = y1.toInt := congrArg Int32.toInt (show ge T11 40 0 2 = y1 from ((fT11.1 40 0 2 rfl).trans ey1.symm))
  obtain ⟨y13, ey13⟩ : ∃ y : Int32, y = ge T11 40 0 4 := ⟨_, rfl⟩
  have gy13 : 0 ≤ y13.toInt ∧ y13.toInt ≤ 300 := by rw [ey13]; exact RT11 40 _ _
  have q14 : (ge T11 40 0 4).toInt = y13.toInt := congrArg Int32.toInt (show ge T11 40 0 4 = y13 from ey13.symm)
  obtain ⟨y15, ey15⟩ : ∃ y : Int32, y = ge T11 40 0 6 := ⟨_, rfl⟩
  have q16 : (ge T11 40 0 6).toInt = y15.toInt := congrArg Int32.toInt (show ge T11 40 0 6 = y15 from ey15.symm)
  try dsimp only at h10
  exact ⟨RT11, FT11, by omega⟩
def WI (S : fS) (a1 a2 : Int) : Prop := 0 ≤ a2 ∧ a2 ≤ 300 ∧ (a2 = 0 → a1 = 0) ∧ (1 ≤ a2 → 97 ≤ byv S (ge S 40 0 4) ∧ byv S (ge S 40 0 4) ≤ 122 ∧ (ge S 40 0 4).toInt + a2 ≤ (ge S 40 0 2).toInt) ∧ (a2 = 1 → -98 ≤ a1 ∧ a1 ≤ 159) ∧ (a2 = 2 → a1 ≤ 4452)
def WQ (S : fS) (v : Int) : Prop := (v ≤ 0 ∨ (97 ≤ byv S (ge S 40 0 4) ∧ byv S (ge S 40 0 4) ≤ 122)) ∧ (4452 < v → (ge S 40 0 4).toInt + 3 ≤ (ge S 40 0 2).toInt)
theorem s_B_X7_wordHere_8 (z : Int32 × Int32) (S : fS) (RS : RI S) (hi : WI S z.1.toInt z.2.toInt) : zk (lp (B_X7_wordHere_8) fuel z S) (fun v S9 => S = S9 ∧ WQ S v.toInt) := by
  have lm1 : (-1 : Int32).toInt = -1 := by decide
  have l1 : (1 : Int32).toInt = 1 := by decide
  have l5 : (5 : Int32).toInt = 5 := by decide
  have l97 : (97 : Int32).toInt = 97 := by decide
  have l122 : (122 : Int32).toInt = 122 := by decide
  refine zk_lp (fun z S => RI S ∧ WI S z.1.toInt z.2.toInt) (fun z S => (301 - z.2.toInt).toNat) (fun z S (v : Int32) S9 => S = S9 ∧ WQ S v.toInt) ?_ z S ⟨RS, hi⟩ (by have := hi.1; omega)
  clear RS hi
  intro k z S hI hk
  obtain ⟨RS, h0, h1, h2, h3, h4, h5⟩ := hI
  obtain ⟨a1, a2⟩ := z
  dsimp only at h0 h1 h2 h3 h4 h5 hk ⊢
  have gat : 0 ≤ (ge S 40 0 4).toInt ∧ (ge S 40 0 4).toInt ≤ 300 := RS 40 _ _
  have gsz : 0 ≤ (ge S 40 0 2).toInt ∧ (ge S 40 0 2).toInt ≤ 300 := RS 40 _ _
  have fin : zk (B_X7_wordHere_74 a1 a2 S) (fun v S9 => S = S9 ∧ WQ S v.toInt) := by
    unfold B_X7_wordHere_74
    refine zk_le (fun c => zk_some ⟨rfl, ?_⟩) (fun c => zk_some ⟨rfl, Or.inl (by omega), fun q => by omega⟩)
    by_cases e : a2.toInt = 0
    · have h6 := h2 e
      exact ⟨Or.inl (by omega), fun q => by omega⟩
    · have h6 := h3 (by omega)
      refine ⟨Or.inr ⟨h6.1, h6.2.1⟩, fun q => ?_⟩
      have h7 : ¬ a2.toInt = 1 := fun e1 => by have := h4 e1; omega
      have h8 : ¬ a2.toInt = 2 := fun e2 => by have := h5 e2; omega
      omega
  unfold B_X7_wordHere_8
  dsimp only
  refine zk_iv fun x3 e3 => ?_
  refine zk_iv fun x4 e4 => ?_
  have g4 : x4.toInt = (ge S 40 0 4).toInt + a2.toInt := by rw [e4, e3]; exact ti_add (by omega) (by omega)
  refine zk_bd (s_F_X7_byteAt x4 S RS (by omega)) (fun v5 S6 h => ?_)
  obtain ⟨rfl, hv5⟩ := h
  have b5 := byv_bd RS x4
  refine zk_lt (fun c => fin) (fun c => ?_)
  refine zk_ivq (x := x3) e3.symm ?_
  refine zk_ivq (x := x4) e4.symm ?_
  refine zk_bd (s_F_X7_byteAt x4 S RS (by omega)) (fun v11 S6 h => ?_)
  obtain ⟨rfl, hv11⟩ := h
  refine zk_lt (fun c => fin) (fun c2 => ?_)
  have hsz : x4.toInt < (ge S 40 0 2).toInt := by omega
  have lett : 97 ≤ byv S (ge S 40 0 4) ∧ byv S (ge S 40 0 4) ≤ 122 := by
    by_cases e : a2.toInt = 0
    · have h6 : byv S (ge S 40 0 4) = byv S x4 := byv_c (by omega)
      rw [h6]
      omega
    · have h6 := h3 (by omega)
      exact ⟨h6.1, h6.2.1⟩
  have go : ∀ t : Int32, (a2.toInt = 0 → -98 ≤ t.toInt ∧ t.toInt ≤ 159) → (a2.toInt = 1 → t.toInt ≤ 4452) → zk (B_X7_wordHere_67 k a2 t S) (fun v S9 => S = S9 ∧ WQ S v.toInt) := by
    intro t ht1 ht2
    unfold B_X7_wordHere_67
    refine zk_iv fun x e => ?_
    have gx : x.toInt = a2.toInt + 1 := by rw [e]; exact ti_inc (by omega)
    refine hk (t, x) S ⟨RS, ?_, ?_, fun q => ?_, fun _ => ?_, fun q => ?_, fun q => ?_⟩ ?_
    all_goals dsimp only at *
    · omega
    · omega
    · omega
    · exact ⟨lett.1, lett.2, by omega⟩
    · exact ht1 (by omega)
    · exact ht2 (by omega)
    · omega
  refine zk_le (fun c => go a1 (fun q => by omega) (fun q => by omega)) (fun c3 => ?_)
  refine zk_iv fun x16 e16 => ?_
  refine zk_ivq (x := x3) e3.symm ?_
  refine zk_ivq (x := x4) e4.symm ?_
  refine zk_bd (s_F_X7_byteAt x4 S RS (by omega)) (fun v19 S6 h => ?_)
  obtain ⟨rfl, hv19⟩ := h
  refine zk_iv fun x22 e22 => ?_
  refine zk_iv fun x23 e23 => ?_
  refine zk_iv fun x24 e24 => ?_
  have cal : -98 ≤ a1.toInt → a1.toInt ≤ 159 → x24.toInt = 27 * a1.toInt + v19.toInt - 97 + 1 := by
    intro q1 q2
    have g16 : x16.toInt = 27 * a1.toInt := by rw [e16]; exact ti_mulc (c := 27) (by decide) (by omega) (by omega)
    have g22 : x22.toInt = x16.toInt + v19.toInt := by rw [e22]; exact ti_add (by omega) (by omega)
    have g23 : x23.toInt = x22.toInt - (97 : Int32).toInt := by rw [e23]; exact ti_sub (by omega) (by omega)
    have g24 : x24.toInt = x23.toInt + (1 : Int32).toInt := by rw [e24]; exact ti_add (by omega) (by omega)
    omega
  refine go x24 (fun q => ?_) (fun q => ?_)
  · have h6 := h2 q
    have h7 := cal (by omega) (by omega)
    omega
  · have h6 := h4 q
    have h7 := cal h6.1 h6.2
    omega
theorem s_F_X7_wordHere (S0 : fS) (RS0 : RI S0) : zk (F_X7_wordHere S0) (fun v S9 => RI S9 ∧ Fr 536870912 S0 S9 ∧ (ge S0 40 0 4).toInt ≤ (ge S9 40 0 4).toInt ∧ WQ S9 v.toInt) := by
  have l0 : (0 : Int32).toInt = 0 := by decide
  unfold F_X7_wordHere
  refine zk_bd (s_F_X7_blanks _ RS0) (fun v T h => ?_)
  obtain ⟨RT, fT, h⟩ := h
  refine zk_imp (s_B_X7_wordHere_8 (0, 0) T RT ⟨by dsimp only; omega, by dsimp only; omega, fun _ => by dsimp only; omega, fun q => by dsimp only at q; omega, fun q => by dsimp only at q; omega, fun q => by dsimp only at q; omega⟩) (fun v S9 h2 => ?_)
  obtain ⟨rfl, h2⟩ := h2
  exact ⟨RT, fT, h, h2⟩
theorem s_F_X7_isWord (p1 p2 p3 p4 p5 : Int32) (S0 : fS) (RS0 : RI S0) : zk (F_X7_isWord p1 p2 p3 p4 p5 S0) (fun v S9 => RI S9 ∧ Fr 536870912 S0 S9 ∧ (ge S0 40 0 4).toInt ≤ (ge S9 40 0 4).toInt ∧ (v.toInt = 0 ∨ (v.toInt = 1 ∧ WQ S9 (wd p1 p2 p3 p4 p5).toInt))) := by
  have l0 : (0 : Int32).toInt = 0 := by decide
  have l1 : (1 : Int32).toInt = 1 := by decide
  unfold F_X7_isWord
  refine zk_bd (s_F_X7_wordHere _ RS0) (fun v T h => ?_)
  obtain ⟨RT, fT, h1, h2⟩ := h
  refine zk_bd (s_F_X7_word _ _ _ _ _ _ RT) (fun v4 S9 h => ?_)
  obtain ⟨rfl, rfl⟩ := h
  refine zk_eq (fun c => ?_) (fun c => ?_)
  · exact zk_some ⟨RT, fT, h1, Or.inr ⟨l1, by rw [← c]; exact h2⟩⟩
  · exact zk_some ⟨RT, fT, h1, Or.inl l0⟩
theorem isw1 {T : fS} {v : Int32} {w : Int} (h : v.toInt = 0 ∨ (v.toInt = 1 ∧ WQ T w)) (hw : 0 < w) : v.toInt = 0 ∨ (v.toInt = 1 ∧ 97 ≤ byv T (ge T 40 0 4) ∧ byv T (ge T 40 0 4) ≤ 122) := h.elim Or.inl (fun q => Or.inr ⟨q.1, q.2.1.resolve_left (by omega)⟩)
theorem isw3 {T : fS} {v : Int32} {w : Int} (h : v.toInt = 0 ∨ (v.toInt = 1 ∧ WQ T w)) (hw : 4452 < w) : v.toInt = 0 ∨ (v.toInt = 1 ∧ 97 ≤ byv T (ge T 40 0 4) ∧ byv T (ge T 40 0 4) ≤ 122 ∧ (ge T 40 0 4).toInt + 3 ≤ (ge T 40 0 2).toInt) := h.elim Or.inl (fun q => by
  have h1 := q.2.1.resolve_left (by omega)
  exact Or.inr ⟨q.1, h1.1, h1.2, q.2.2 hw⟩)
theorem s_B_X7_skipWord_0  (z : Unit) (S : fS) (RS : RI S) (hi : True) (hm : (300 - (ge S 40 0 4).toInt).toNat < 4294967296) : zk (lp (B_X7_skipWord_0) fuel z S) (fun v S9 => RI S9 ∧ Fr 536870912 S S9 ∧ ((ge S 40 0 4).toInt ≤ (ge S9 40 0 4).toInt ∧ (97 ≤ byv S (ge S 40 0 4) → byv S (ge S 40 0 4) ≤ 122 → (ge S 40 0 4).toInt < (ge S9 40 0 4).toInt))) := by
  have l0 : (0 : Int32).toInt = 0 := by decide
  have l1 : (1 : Int32).toInt = 1 := by decide
  have l4 : (4 : Int32).toInt = 4 := by decide
  have l97 : (97 : Int32).toInt = 97 := by decide
  have l122 : (122 : Int32).toInt = 122 := by decide
  refine zk_lp (fun z S => RI S ∧ (True)) (fun z S => (300 - (ge S 40 0 4).toInt).toNat) (fun z S (v : Int32) S9 => RI S9 ∧ Fr 536870912 S S9 ∧ ((ge S 40 0 4).toInt ≤ (ge S9 40 0 4).toInt ∧ (97 ≤ byv S (ge S 40 0 4) → byv S (ge S 40 0 4) ≤ 122 → (ge S 40 0 4).toInt < (ge S9 40 0 4).toInt))) ?_ z S ⟨RS, hi⟩ hm
  clear RS hi hm
  intro k z S hI hk
  obtain ⟨RS, hI⟩ := hI
  have FS : Fr 536870912 S S := Fr.rf
  unfold B_X7_skipWord_0
  obtain ⟨y1, ey1⟩ : ∃ y : Int32, y = ge S 40 0 2 := ⟨_, rfl⟩
  have gy1 : 0 ≤ y1.toInt ∧ y1.toInt ≤ 300 := by rw [ey1]; exact RS 40 _ _
  have q2 : (ge S 40 0 2).toInt = y1.toInt := congrArg Int32.toInt (show ge S 40 0 2 = y1 from ey1.symm)
  obtain ⟨y3, ey3⟩ : ∃ y : Int32, y = ge S 40 0 4 := ⟨_, rfl⟩
  have gy3 : 0 ≤ y3.toInt ∧ y3.toInt ≤ 300 := by rw [ey3]; exact RS 40 _ _
  have q4 : (ge S 40 0 4).toInt = y3.toInt := congrArg Int32.toInt (show ge S 40 0 4 = y3 from ey3.symm)
  have q5 : byv S (ge S 40 0 4) = byv S y3 := congrArg (byv S) (show ge S 40 0 4 = y3 from ey3.symm)
  refine zk_ivq (x := y3) ey3.symm ?_
  refine zk_bd (s_F_X7_byteAt _ _ RS (by omega)) (fun v6 T7 h6 => ?_)
  obtain ⟨rfl, h6⟩ := h6
  have h6b := byv_bd RS y3
  rw [← h6] at h6b
  have q8 : (ge S 40 0 2).toInt = y1.toInt := congrArg Int32.toInt (show ge S 40 0 2 = y1 from ey1.symm)
  have q9 : (ge S 40 0 4).toInt = y3.toInt := congrArg Int32.toInt (show ge S 40 0 4 = y3 from ey3.symm)
  have q10 : byv S (ge S 40 0 4) = byv S y3 := congrArg (byv S) (show ge S 40 0 4 = y3 from ey3.symm)
  refine zk_lt (fun c11 => ?_) (fun c11 => ?_)
  ·
    have q12 : (ge S 40 0 2).toInt = y1.toInt := congrArg Int32.toInt (show ge S 40 0 2 = y1 from ey1.symm)
    have q13 : (ge S 40 0 4).toInt = y3.toInt := congrArg Int32.toInt (show ge S 40 0 4 = y3 from ey3.symm)
    have q14 : byv S (ge S 40 0 4) = byv S y3 := congrArg (byv S) (show ge S 40 0 4 = y3 from ey3.symm)
    exact zk_some ⟨RS, FS, by omega⟩
  ·
    refine zk_ivq (x := y3) ey3.symm ?_
    refine zk_bd (s_F_X7_byteAt _ _ RS (by omega)) (fun v15 T16 h15 => ?_)
    obtain ⟨rfl, h15⟩ := h15
    have h15b := byv_bd RS y3
    rw [← h15] at h15b
    have q17 : (ge S 40 0 2).toInt = y1.toInt := congrArg Int32.toInt (show ge S 40 0 2 = y1 from ey1.symm)
    have q18 : (ge S 40 0 4).toInt = y3.toInt := congrArg Int32.toInt (show ge S 40 0 4 = y3 from ey3.symm)
    have q19 : byv S (ge S 40 0 4) = byv S y3 := congrArg (byv S) (show ge S 40 0 4 = y3 from ey3.symm)
    refine zk_lt (fun c20 => ?_) (fun c20 => ?_)
    ·
      have q21 : (ge S 40 0 2).toInt = y1.toInt := congrArg Int32.toInt (show ge S 40 0 2 = y1 from ey1.symm)
      have q22 : (ge S 40 0 4).toInt = y3.toInt := congrArg Int32.toInt (show ge S 40 0 4 = y3 from ey3.symm)
      have q23 : byv S (ge S 40 0 4) = byv S y3 := congrArg (byv S) (show ge S 40 0 4 = y3 from ey3.symm)
      exact zk_some ⟨RS, FS, by omega⟩
    ·
      refine zk_ivq (x := y3) ey3.symm ?_
      refine zk_iv fun x24 e24 => ?_
      have gx24 : x24.toInt = y3.toInt + (1 : Int32).toInt := by rw [e24]; exact ti_add (by omega) (by omega)
      refine zk_sv fun S25 E25 => ?_
      have RS25 : RI S25 := by rw [E25]; exact RS.wr (show (0 : Int) ≤ x24.toInt by omega) (show x24.toInt ≤ 300 by omega)
      have FS25 : Fr 536870912 S S25 := by rw [E25]; exact FS.wr (k := 29) rfl rfl
      have q26 : (ge S25 40 0 2).toInt = y1.toInt := congrArg Int32.toInt (show ge S25 40 0 2 = y1 from (by rw [E25]; exact (ge_puj (by decide)).trans ey1.symm))
      have q27 : (ge S25 40 0 4).toInt = x24.toInt := congrArg Int32.toInt (show ge S25 40 0 4 = x24 from (by rw [E25]; exact ge_pus))
      have q28 : byv S25 (ge S25 40 0 4) = byv S25 x24 := congrArg (byv S25) (show ge S25 40 0 4 = x24 from (by rw [E25]; exact ge_pus))
      have q29 := byv_fr FS25 rfl x24
      refine zk_imp (hk () _ ⟨RS25, trivial⟩ (by omega)) (fun v30 T31 h30 => ?_)
      obtain ⟨RT31, FT31, h30⟩ := h30
      exact ⟨RT31, FS25.tr FT31, by omega⟩
theorem s_F_X7_skipWord (S0 : fS) (RS0 : RI S0) : zk (F_X7_skipWord S0) (fun v S9 => RI S9 ∧ Fr 536870912 S0 S9 ∧ ((ge S0 40 0 4).toInt ≤ (ge S9 40 0 4).toInt ∧ (97 ≤ byv S0 (ge S0 40 0 4) → byv S0 (ge S0 40 0 4) ≤ 122 → (ge S0 40 0 4).toInt < (ge S9 40 0 4).toInt))) := by
  have FS0 : Fr 536870912 S0 S0 := Fr.rf
  unfold F_X7_skipWord
  obtain ⟨y1, ey1⟩ : ∃ y : Int32, y = ge S0 40 0 2 := ⟨_, rfl⟩
  have gy1 : 0 ≤ y1.toInt ∧ y1.toInt ≤ 300 := by rw [ey1]; exact RS0 40 _ _
  have q2 : (ge S0 40 0 2).toInt = y1.toInt := congrArg Int32.toInt (show ge S0 40 0 2 = y1 from ey1.symm)
  obtain ⟨y3, ey3⟩ : ∃ y : Int32, y = ge S0 40 0 4 := ⟨_, rfl⟩
  have gy3 : 0 ≤ y3.toInt ∧ y3.toInt ≤ 300 := by rw [ey3]; exact RS0 40 _ _
  have q4 : (ge S0 40 0 4).toInt = y3.toInt := congrArg Int32.toInt (show ge S0 40 0 4 = y3 from ey3.symm)
  have q5 : byv S0 (ge S0 40 0 4) = byv S0 y3 := congrArg (byv S0) (show ge S0 40 0 4 = y3 from ey3.symm)
  have q6 : (ge S0 40 0 2).toInt = y1.toInt := congrArg Int32.toInt (show ge S0 40 0 2 = y1 from ey1.symm)
  have q7 : (ge S0 40 0 4).toInt = y3.toInt := congrArg Int32.toInt (show ge S0 40 0 4 = y3 from ey3.symm)
  have q8 : byv S0 (ge S0 40 0 4) = byv S0 y3 := congrArg (byv S0) (show ge S0 40 0 4 = y3 from ey3.symm)
  refine zk_imp (s_B_X7_skipWord_0 _ _ RS0 trivial (by omega)) (fun v9 T10 h9 => ?_)
  obtain ⟨RT10, fT10, h9⟩ := h9
  have FT10 := FS0.tr (fT10.sub (m := 536870912) (by decide))
  have q11 : (ge T10 40 0 2).toInt = y1.toInt := congrArg Int32.toInt (show ge T10 40 0 2 = y1 from ((fT10.1 40 0 2 rfl).trans ey1.symm))
  obtain ⟨y12, ey12⟩ : ∃ y : Int32, y = ge T10 40 0 4 := ⟨_, rfl⟩
  have gy12 : 0 ≤ y12.toInt ∧ y12.toInt ≤ 300 := by rw [ey12]; exact RT10 40 _ _
  have q13 : (ge T10 40 0 4).toInt = y12.toInt := congrArg Int32.toInt (show ge T10 40 0 4 = y12 from ey12.symm)
  have q14 : byv T10 (ge T10 40 0 4) = byv T10 y12 := congrArg (byv T10) (show ge T10 40 0 4 = y12 from ey12.symm)
  have q15 := byv_fr FT10 rfl y12
  exact ⟨RT10, FT10, by omega⟩
theorem s_F_X7_sign (p1 : Int32) (S0 : fS) (RS0 : RI S0) (hp : 0 ≤ p1.toInt) : zk (F_X7_sign p1 S0) (fun v S9 => RI S9 ∧ Fr 9126871040 S0 S9 ∧ ((ge S0 40 0 4).toInt ≤ (ge S9 40 0 4).toInt ∧ (¬ (ge S0 40 0 6).toInt = 0 → ¬ (ge S9 40 0 6).toInt = 0))) := by
  have l0 : (0 : Int32).toInt = 0 := by decide
  have l1 : (1 : Int32).toInt = 1 := by decide
  have l4 : (4 : Int32).toInt = 4 := by decide
  have FS0 : Fr 9126871040 S0 S0 := Fr.rf
  unfold F_X7_sign
  obtain ⟨y1, ey1⟩ : ∃ y : Int32, y = ge S0 40 0 2 := ⟨_, rfl⟩
  have gy1 : 0 ≤ y1.toInt ∧ y1.toInt ≤ 300 := by rw [ey1]; exact RS0 40 _ _
  have q2 : (ge S0 40 0 2).toInt = y1.toInt := congrArg Int32.toInt (show ge S0 40 0 2 = y1 from ey1.symm)
  obtain ⟨y3, ey3⟩ : ∃ y : Int32, y = ge S0 40 0 4 := ⟨_, rfl⟩
  have gy3 : 0 ≤ y3.toInt ∧ y3.toInt ≤ 300 := by rw [ey3]; exact RS0 40 _ _
  have q4 : (ge S0 40 0 4).toInt = y3.toInt := congrArg Int32.toInt (show ge S0 40 0 4 = y3 from ey3.symm)
  obtain ⟨y5, ey5⟩ : ∃ y : Int32, y = ge S0 40 0 6 := ⟨_, rfl⟩
  have q6 : (ge S0 40 0 6).toInt = y5.toInt := congrArg Int32.toInt (show ge S0 40 0 6 = y5 from ey5.symm)
  have q7 : (ge S0 40 0 2).toInt = y1.toInt := congrArg Int32.toInt (show ge S0 40 0 2 = y1 from ey1.symm)
  have q8 : (ge S0 40 0 4).toInt = y3.toInt := congrArg Int32.toInt (show ge S0 40 0 4 = y3 from ey3.symm)
  have q9 : (ge S0 40 0 6).toInt = y5.toInt := congrArg Int32.toInt (show ge S0 40 0 6 = y5 from ey5.symm)
  refine zk_bd (s_F_X7_blanks _ RS0) (fun v10 T11 h10 => ?_)
  obtain ⟨RT11, fT11, h10⟩ := h10
  have FT11 := FS0.tr (fT11.sub (m := 9126871040) (by decide))
  have q12 : (ge T11 40 0 2).toInt = y1.toInt := congrArg Int32.toInt (show ge T11 40 0 2 = y1 from ((fT11.1 40 0 2 rfl).trans ey1.symm))
  obtain ⟨y13, ey13⟩ : ∃ y : Int32, y = ge T11 40 0 4 := ⟨_, rfl⟩
  have gy13 : 0 ≤ y13.toInt ∧ y13.toInt ≤ 300 := by rw [ey13]; exact RT11 40 _ _
  have q14 : (ge T11 40 0 4).toInt = y13.toInt := congrArg Int32.toInt (show ge T11 40 0 4 = y13 from ey13.symm)
  have q15 : (ge T11 40 0 6).toInt = y5.toInt := congrArg Int32.toInt (show ge T11 40 0 6 = y5 from ((fT11.1 40 0 6 rfl).trans ey5.symm))
  refine zk_ivq (x := y13) ey13.symm ?_
  refine zk_bd (s_F_X7_byteAt _ _ RT11 (by omega)) (fun v16 T17 h16 => ?_)
  obtain ⟨rfl, h16⟩ := h16
  have h16b := byv_bd RT11 y13
  rw [← h16] at h16b
  have q18 : (ge T11 40 0 2).toInt = y1.toInt := congrArg Int32.toInt (show ge T11 40 0 2 = y1 from ((fT11.1 40 0 2 rfl).trans ey1.symm))
  have q19 : (ge T11 40 0 4).toInt = y13.toInt := congrArg Int32.toInt (show ge T11 40 0 4 = y13 from ey13.symm)
  have q20 : (ge T11 40 0 6).toInt = y5.toInt := congrArg Int32.toInt (show ge T11 40 0 6 = y5 from ((fT11.1 40 0 6 rfl).trans ey5.symm))
  have b21 := ti_bd p1
  refine zk_eq (fun c22 => ?_) (fun c22 => ?_)
  ·
    refine zk_ivq (x := y13) ey13.symm ?_
    refine zk_iv fun x23 e23 => ?_
    have gx23 : x23.toInt = y13.toInt + (1 : Int32).toInt := by rw [e23]; exact ti_add (by omega) (by omega)
    refine zk_sv fun S24 E24 => ?_
    have RS24 : RI S24 := by rw [E24]; exact RT11.wr (show (0 : Int) ≤ x23.toInt by omega) (show x23.toInt ≤ 300 by omega)
    have FS24 : Fr 9126871040 S0 S24 := by rw [E24]; exact FT11.wr (k := 29) rfl rfl
    have q25 : (ge S24 40 0 2).toInt = y1.toInt := congrArg Int32.toInt (show ge S24 40 0 2 = y1 from (by rw [E24]; exact (ge_puj (by decide)).trans ((fT11.1 40 0 2 rfl).trans ey1.symm)))
    have q26 : (ge S24 40 0 4).toInt = x23.toInt := congrArg Int32.toInt (show ge S24 40 0 4 = x23 from (by rw [E24]; exact ge_pus))
    have q27 : (ge S24 40 0 6).toInt = y5.toInt := congrArg Int32.toInt (show ge S24 40 0 6 = y5 from (by rw [E24]; exact (ge_puj (by decide)).trans ((fT11.1 40 0 6 rfl).trans ey5.symm)))
    exact zk_some ⟨RS24, FS24, by omega⟩
  ·
    refine zk_ivq (x := y13) ey13.symm ?_
    have q28 : (ge T11 40 0 2).toInt = y1.toInt := congrArg Int32.toInt (show ge T11 40 0 2 = y1 from ((fT11.1 40 0 2 rfl).trans ey1.symm))
    have q29 : (ge T11 40 0 4).toInt = y13.toInt := congrArg Int32.toInt (show ge T11 40 0 4 = y13 from ey13.symm)
    have q30 : (ge T11 40 0 6).toInt = y5.toInt := congrArg Int32.toInt (show ge T11 40 0 6 = y5 from ((fT11.1 40 0 6 rfl).trans ey5.symm))
    refine zk_bd (s_F_X7_wrong _ _ _ RT11 (by omega)) (fun v31 T32 h31 => ?_)
    obtain ⟨RT32, fT32, h31⟩ := h31
    have FT32 := FT11.tr (fT32.sub (m := 9126871040) (by decide))
    have q33 : (ge T32 40 0 2).toInt = y1.toInt := congrArg Int32.toInt (show ge T32 40 0 2 = y1 from ((fT32.1 40 0 2 rfl).trans ((fT11.1 40 0 2 rfl).trans ey1.symm)))
    have q34 : (ge T32 40 0 4).toInt = y13.toInt := congrArg Int32.toInt (show ge T32 40 0 4 = y13 from ((fT32.1 40 0 4 rfl).trans ey13.symm))
    obtain ⟨y35, ey35⟩ : ∃ y : Int32, y = ge T32 40 0 6 := ⟨_, rfl⟩
    have q36 : (ge T32 40 0 6).toInt = y35.toInt := congrArg Int32.toInt (show ge T32 40 0 6 = y35 from ey35.symm)
    have q37 : (ge T32 40 0 2).toInt = y1.toInt := congrArg Int32.toInt (show ge T32 40 0 2 = y1 from ((fT32.1 40 0 2 rfl).trans ((fT11.1 40 0 2 rfl).trans ey1.symm)))
    have q38 : (ge T32 40 0 4).toInt = y13.toInt := congrArg Int32.toInt (show ge T32 40 0 4 = y13 from ((fT32.1 40 0 4 rfl).trans ey13.symm))
    have q39 : (ge T32 40 0 6).toInt = y35.toInt := congrArg Int32.toInt (show ge T32 40 0 6 = y35 from ey35.symm)
    exact zk_some ⟨RT32, FT32, by omega⟩
theorem s_F_X7_nameHere (S0 : fS) (RS0 : RI S0) : zk (F_X7_nameHere S0) (fun v S9 => RI S9 ∧ Fr 536870912 S0 S9 ∧ ((ge S0 40 0 4).toInt ≤ (ge S9 40 0 4).toInt ∧ -1 ≤ v.toInt ∧ v.toInt ≤ 6)) := by
  have lm1 : (-1 : Int32).toInt = -1 := by decide
  have l0 : (0 : Int32).toInt = 0 := by decide
  have l1 : (1 : Int32).toInt = 1 := by decide
  have l2 : (2 : Int32).toInt = 2 := by decide
  have l3 : (3 : Int32).toInt = 3 := by decide
  have l4 : (4 : Int32).toInt = 4 := by decide
  have l5 : (5 : Int32).toInt = 5 := by decide
  have l6 : (6 : Int32).toInt = 6 := by decide
  have l8 : (8 : Int32).toInt = 8 := by decide
  have l9 : (9 : Int32).toInt = 9 := by decide
  have l12 : (12 : Int32).toInt = 12 := by decide
  have l14 : (14 : Int32).toInt = 14 := by decide
  have l15 : (15 : Int32).toInt = 15 := by decide
  have l16 : (16 : Int32).toInt = 16 := by decide
  have l18 : (18 : Int32).toInt = 18 := by decide
  have l19 : (19 : Int32).toInt = 19 := by decide
  have l20 : (20 : Int32).toInt = 20 := by decide
  have l21 : (21 : Int32).toInt = 21 := by decide
  have FS0 : Fr 536870912 S0 S0 := Fr.rf
  unfold F_X7_nameHere
  obtain ⟨y1, ey1⟩ : ∃ y : Int32, y = ge S0 40 0 2 := ⟨_, rfl⟩
  have gy1 : 0 ≤ y1.toInt ∧ y1.toInt ≤ 300 := by rw [ey1]; exact RS0 40 _ _
  have q2 : (ge S0 40 0 2).toInt = y1.toInt := congrArg Int32.toInt (show ge S0 40 0 2 = y1 from ey1.symm)
  obtain ⟨y3, ey3⟩ : ∃ y : Int32, y = ge S0 40 0 4 := ⟨_, rfl⟩
  have gy3 : 0 ≤ y3.toInt ∧ y3.toInt ≤ 300 := by rw [ey3]; exact RS0 40 _ _
  have q4 : (ge S0 40 0 4).toInt = y3.toInt := congrArg Int32.toInt (show ge S0 40 0 4 = y3 from ey3.symm)
  have q5 : (ge S0 40 0 2).toInt = y1.toInt := congrArg Int32.toInt (show ge S0 40 0 2 = y1 from ey1.symm)
  have q6 : (ge S0 40 0 4).toInt = y3.toInt := congrArg Int32.toInt (show ge S0 40 0 4 = y3 from ey3.symm)
  refine zk_bd (s_F_X7_isWord _ _ _ _ _ _ RS0) (fun v7 T8 h7 => ?_)
  obtain ⟨RT8, fT8, h7⟩ := h7
  have FT8 := FS0.tr (fT8.sub (m := 536870912) (by decide))
  have q9 : (ge T8 40 0 2).toInt = y1.toInt := congrArg Int32.toInt (show ge T8 40 0 2 = y1 from ((fT8.1 40 0 2 rfl).trans ey1.symm))
  obtain ⟨y10, ey10⟩ : ∃ y : Int32, y = ge T8 40 0 4 := ⟨_, rfl⟩
  have gy10 : 0 ≤ y10.toInt ∧ y10.toInt ≤ 300 := by rw [ey10]; exact RT8 40 _ _
  have q11 : (ge T8 40 0 4).toInt = y10.toInt := congrArg Int32.toInt (show ge T8 40 0 4 = y10 from ey10.symm)
  have h7w := isw3 h7.2 (by decide)
  replace h7 := h7.1
  refine zk_eq (fun c12 => ?_) (fun c12 => ?_)
  ·
    have q13 : (ge T8 40 0 2).toInt = y1.toInt := congrArg Int32.toInt (show ge T8 40 0 2 = y1 from ((fT8.1 40 0 2 rfl).trans ey1.symm))
    have q14 : (ge T8 40 0 4).toInt = y10.toInt := congrArg Int32.toInt (show ge T8 40 0 4 = y10 from ey10.symm)
    refine zk_bd (s_F_X7_isWord _ _ _ _ _ _ RT8) (fun v15 T16 h15 => ?_)
    obtain ⟨RT16, fT16, h15⟩ := h15
    have FT16 := FT8.tr (fT16.sub (m := 536870912) (by decide))
    have q17 : (ge T16 40 0 2).toInt = y1.toInt := congrArg Int32.toInt (show ge T16 40 0 2 = y1 from ((fT16.1 40 0 2 rfl).trans ((fT8.1 40 0 2 rfl).trans ey1.symm)))
    obtain ⟨y18, ey18⟩ : ∃ y : Int32, y = ge T16 40 0 4 := ⟨_, rfl⟩
    have gy18 : 0 ≤ y18.toInt ∧ y18.toInt ≤ 300 := by rw [ey18]; exact RT16 40 _ _
    have q19 : (ge T16 40 0 4).toInt = y18.toInt := congrArg Int32.toInt (show ge T16 40 0 4 = y18 from ey18.symm)
    have h15w := isw3 h15.2 (by decide)
    replace h15 := h15.1
    refine zk_eq (fun c20 => ?_) (fun c20 => ?_)
    ·
      have q21 : (ge T16 40 0 2).toInt = y1.toInt := congrArg Int32.toInt (show ge T16 40 0 2 = y1 from ((fT16.1 40 0 2 rfl).trans ((fT8.1 40 0 2 rfl).trans ey1.symm)))
      have q22 : (ge T16 40 0 4).toInt = y18.toInt := congrArg Int32.toInt (show ge T16 40 0 4 = y18 from ey18.symm)
      refine zk_bd (s_F_X7_isWord _ _ _ _ _ _ RT16) (fun v23 T24 h23 => ?_)
      obtain ⟨RT24, fT24, h23⟩ := h23
      have FT24 := FT16.tr (fT24.sub (m := 536870912) (by decide))
      have q25 : (ge T24 40 0 2).toInt = y1.toInt := congrArg Int32.toInt (show ge T24 40 0 2 = y1 from ((fT24.1 40 0 2 rfl).trans ((fT16.1 40 0 2 rfl).trans ((fT8.1 40 0 2 rfl).trans ey1.symm))))
      obtain ⟨y26, ey26⟩ : ∃ y : Int32, y = ge T24 40 0 4 := ⟨_, rfl⟩
      have gy26 : 0 ≤ y26.toInt ∧ y26.toInt ≤ 300 := by rw [ey26]; exact RT24 40 _ _
      have q27 : (ge T24 40 0 4).toInt = y26.toInt := congrArg Int32.toInt (show ge T24 40 0 4 = y26 from ey26.symm)
      have h23w := isw3 h23.2 (by decide)
      replace h23 := h23.1
      refine zk_eq (fun c28 => ?_) (fun c28 => ?_)
      ·
        have q29 : (ge T24 40 0 2).toInt = y1.toInt := congrArg Int32.toInt (show ge T24 40 0 2 = y1 from ((fT24.1 40 0 2 rfl).trans ((fT16.1 40 0 2 rfl).trans ((fT8.1 40 0 2 rfl).trans ey1.symm))))
        have q30 : (ge T24 40 0 4).toInt = y26.toInt := congrArg Int32.toInt (show ge T24 40 0 4 = y26 from ey26.symm)
        refine zk_bd (s_F_X7_isWord _ _ _ _ _ _ RT24) (fun v31 T32 h31 => ?_)
        obtain ⟨RT32, fT32, h31⟩ := h31
        have FT32 := FT24.tr (fT32.sub (m := 536870912) (by decide))
        have q33 : (ge T32 40 0 2).toInt = y1.toInt := congrArg Int32.toInt (show ge T32 40 0 2 = y1 from ((fT32.1 40 0 2 rfl).trans ((fT24.1 40 0 2 rfl).trans ((fT16.1 40 0 2 rfl).trans ((fT8.1 40 0 2 rfl).trans ey1.symm)))))
        obtain ⟨y34, ey34⟩ : ∃ y : Int32, y = ge T32 40 0 4 := ⟨_, rfl⟩
        have gy34 : 0 ≤ y34.toInt ∧ y34.toInt ≤ 300 := by rw [ey34]; exact RT32 40 _ _
        have q35 : (ge T32 40 0 4).toInt = y34.toInt := congrArg Int32.toInt (show ge T32 40 0 4 = y34 from ey34.symm)
        have h31w := isw3 h31.2 (by decide)
        replace h31 := h31.1
        refine zk_eq (fun c36 => ?_) (fun c36 => ?_)
        ·
          have q37 : (ge T32 40 0 2).toInt = y1.toInt := congrArg Int32.toInt (show ge T32 40 0 2 = y1 from ((fT32.1 40 0 2 rfl).trans ((fT24.1 40 0 2 rfl).trans ((fT16.1 40 0 2 rfl).trans ((fT8.1 40 0 2 rfl).trans ey1.symm)))))
          have q38 : (ge T32 40 0 4).toInt = y34.toInt := congrArg Int32.toInt (show ge T32 40 0 4 = y34 from ey34.symm)
          refine zk_bd (s_F_X7_isWord _ _ _ _ _ _ RT32) (fun v39 T40 h39 => ?_)
          obtain ⟨RT40, fT40, h39⟩ := h39
          have FT40 := FT32.tr (fT40.sub (m := 536870912) (by decide))
          have q41 : (ge T40 40 0 2).toInt = y1.toInt := congrArg Int32.toInt (show ge T40 40 0 2 = y1 from ((fT40.1 40 0 2 rfl).trans ((fT32.1 40 0 2 rfl).trans ((fT24.1 40 0 2 rfl).trans ((fT16.1 40 0 2 rfl).trans ((fT8.1 40 0 2 rfl).trans ey1.symm))))))
          obtain ⟨y42, ey42⟩ : ∃ y : Int32, y = ge T40 40 0 4 := ⟨_, rfl⟩
          have gy42 : 0 ≤ y42.toInt ∧ y42.toInt ≤ 300 := by rw [ey42]; exact RT40 40 _ _
          have q43 : (ge T40 40 0 4).toInt = y42.toInt := congrArg Int32.toInt (show ge T40 40 0 4 = y42 from ey42.symm)
          have h39w := isw3 h39.2 (by decide)
          replace h39 := h39.1
          refine zk_eq (fun c44 => ?_) (fun c44 => ?_)
          ·
            have q45 : (ge T40 40 0 2).toInt = y1.toInt := congrArg Int32.toInt (show ge T40 40 0 2 = y1 from ((fT40.1 40 0 2 rfl).trans ((fT32.1 40 0 2 rfl).trans ((fT24.1 40 0 2 rfl).trans ((fT16.1 40 0 2 rfl).trans ((fT8.1 40 0 2 rfl).trans ey1.symm))))))
            have q46 : (ge T40 40 0 4).toInt = y42.toInt := congrArg Int32.toInt (show ge T40 40 0 4 = y42 from ey42.symm)
            refine zk_bd (s_F_X7_isWord _ _ _ _ _ _ RT40) (fun v47 T48 h47 => ?_)
            obtain ⟨RT48, fT48, h47⟩ := h47
            have FT48 := FT40.tr (fT48.sub (m := 536870912) (by decide))
            have q49 : (ge T48 40 0 2).toInt = y1.toInt := congrArg Int32.toInt (show ge T48 40 0 2 = y1 from ((fT48.1 40 0 2 rfl).trans ((fT40.1 40 0 2 rfl).trans ((fT32.1 40 0 2 rfl).trans ((fT24.1 40 0 2 rfl).trans ((fT16.1 40 0 2 rfl).trans ((fT8.1 40 0 2 rfl).trans ey1.symm)))))))
            obtain ⟨y50, ey50⟩ : ∃ y : Int32, y = ge T48 40 0 4 := ⟨_, rfl⟩
            have gy50 : 0 ≤ y50.toInt ∧ y50.toInt ≤ 300 := by rw [ey50]; exact RT48 40 _ _
            have q51 : (ge T48 40 0 4).toInt = y50.toInt := congrArg Int32.toInt (show ge T48 40 0 4 = y50 from ey50.symm)
            have h47w := isw3 h47.2 (by decide)
            replace h47 := h47.1
            refine zk_eq (fun c52 => ?_) (fun c52 => ?_)
            ·
              refine zk_iv fun x53 e53 => ?_
              have gx53 : 0 ≤ x53.toInt ∧ x53.toInt ≤ 1 := by rw [e53]; exact RT48 40 _ _
              refine zk_eq (fun c54 => ?_) (fun c54 => ?_)
              ·
                have q55 : (ge T48 40 0 2).toInt = y1.toInt := congrArg Int32.toInt (show ge T48 40 0 2 = y1 from ((fT48.1 40 0 2 rfl).trans ((fT40.1 40 0 2 rfl).trans ((fT32.1 40 0 2 rfl).trans ((fT24.1 40 0 2 rfl).trans ((fT16.1 40 0 2 rfl).trans ((fT8.1 40 0 2 rfl).trans ey1.symm)))))))
                have q56 : (ge T48 40 0 4).toInt = y50.toInt := congrArg Int32.toInt (show ge T48 40 0 4 = y50 from ey50.symm)
                exact zk_some ⟨RT48, FT48, by omega⟩
              ·
                have q57 : (ge T48 40 0 2).toInt = y1.toInt := congrArg Int32.toInt (show ge T48 40 0 2 = y1 from ((fT48.1 40 0 2 rfl).trans ((fT40.1 40 0 2 rfl).trans ((fT32.1 40 0 2 rfl).trans ((fT24.1 40 0 2 rfl).trans ((fT16.1 40 0 2 rfl).trans ((fT8.1 40 0 2 rfl).trans ey1.symm)))))))
                have q58 : (ge T48 40 0 4).toInt = y50.toInt := congrArg Int32.toInt (show ge T48 40 0 4 = y50 from ey50.symm)
                refine zk_bd (s_F_X7_isWord _ _ _ _ _ _ RT48) (fun v59 T60 h59 => ?_)
                obtain ⟨RT60, fT60, h59⟩ := h59
                have FT60 := FT48.tr (fT60.sub (m := 536870912) (by decide))
                have q61 : (ge T60 40 0 2).toInt = y1.toInt := congrArg Int32.toInt (show ge T60 40 0 2 = y1 from ((fT60.1 40 0 2 rfl).trans ((fT48.1 40 0 2 rfl).trans ((fT40.1 40 0 2 rfl).trans ((fT32.1 40 0 2 rfl).trans ((fT24.1 40 0 2 rfl).trans ((fT16.1 40 0 2 rfl).trans ((fT8.1 40 0 2 rfl).trans ey1.symm))))))))
                obtain ⟨y62, ey62⟩ : ∃ y : Int32, y = ge T60 40 0 4 := ⟨_, rfl⟩
                have gy62 : 0 ≤ y62.toInt ∧ y62.toInt ≤ 300 := by rw [ey62]; exact RT60 40 _ _
                have q63 : (ge T60 40 0 4).toInt = y62.toInt := congrArg Int32.toInt (show ge T60 40 0 4 = y62 from ey62.symm)
                have h59w := isw1 h59.2 (by decide)
                replace h59 := h59.1
                refine zk_eq (fun c64 => ?_) (fun c64 => ?_)
                ·
                  have q65 : (ge T60 40 0 2).toInt = y1.toInt := congrArg Int32.toInt (show ge T60 40 0 2 = y1 from ((fT60.1 40 0 2 rfl).trans ((fT48.1 40 0 2 rfl).trans ((fT40.1 40 0 2 rfl).trans ((fT32.1 40 0 2 rfl).trans ((fT24.1 40 0 2 rfl).trans ((fT16.1 40 0 2 rfl).trans ((fT8.1 40 0 2 rfl).trans ey1.symm))))))))
                  have q66 : (ge T60 40 0 4).toInt = y62.toInt := congrArg Int32.toInt (show ge T60 40 0 4 = y62 from ey62.symm)
                  exact zk_some ⟨RT60, FT60, by omega⟩
                ·
                  have q67 : (ge T60 40 0 2).toInt = y1.toInt := congrArg Int32.toInt (show ge T60 40 0 2 = y1 from ((fT60.1 40 0 2 rfl).trans ((fT48.1 40 0 2 rfl).trans ((fT40.1 40 0 2 rfl).trans ((fT32.1 40 0 2 rfl).trans ((fT24.1 40 0 2 rfl).trans ((fT16.1 40 0 2 rfl).trans ((fT8.1 40 0 2 rfl).trans ey1.symm))))))))
                  have q68 : (ge T60 40 0 4).toInt = y62.toInt := congrArg Int32.toInt (show ge T60 40 0 4 = y62 from ey62.symm)
                  exact zk_some ⟨RT60, FT60, by omega⟩
            ·
              have q69 : (ge T48 40 0 2).toInt = y1.toInt := congrArg Int32.toInt (show ge T48 40 0 2 = y1 from ((fT48.1 40 0 2 rfl).trans ((fT40.1 40 0 2 rfl).trans ((fT32.1 40 0 2 rfl).trans ((fT24.1 40 0 2 rfl).trans ((fT16.1 40 0 2 rfl).trans ((fT8.1 40 0 2 rfl).trans ey1.symm)))))))
              have q70 : (ge T48 40 0 4).toInt = y50.toInt := congrArg Int32.toInt (show ge T48 40 0 4 = y50 from ey50.symm)
              exact zk_some ⟨RT48, FT48, by omega⟩
          ·
            have q71 : (ge T40 40 0 2).toInt = y1.toInt := congrArg Int32.toInt (show ge T40 40 0 2 = y1 from ((fT40.1 40 0 2 rfl).trans ((fT32.1 40 0 2 rfl).trans ((fT24.1 40 0 2 rfl).trans ((fT16.1 40 0 2 rfl).trans ((fT8.1 40 0 2 rfl).trans ey1.symm))))))
            have q72 : (ge T40 40 0 4).toInt = y42.toInt := congrArg Int32.toInt (show ge T40 40 0 4 = y42 from ey42.symm)
            exact zk_some ⟨RT40, FT40, by omega⟩
        ·
          have q73 : (ge T32 40 0 2).toInt = y1.toInt := congrArg Int32.toInt (show ge T32 40 0 2 = y1 from ((fT32.1 40 0 2 rfl).trans ((fT24.1 40 0 2 rfl).trans ((fT16.1 40 0 2 rfl).trans ((fT8.1 40 0 2 rfl).trans ey1.symm)))))
          have q74 : (ge T32 40 0 4).toInt = y34.toInt := congrArg Int32.toInt (show ge T32 40 0 4 = y34 from ey34.symm)
          exact zk_some ⟨RT32, FT32, by omega⟩
      ·
        have q75 : (ge T24 40 0 2).toInt = y1.toInt := congrArg Int32.toInt (show ge T24 40 0 2 = y1 from ((fT24.1 40 0 2 rfl).trans ((fT16.1 40 0 2 rfl).trans ((fT8.1 40 0 2 rfl).trans ey1.symm))))
        have q76 : (ge T24 40 0 4).toInt = y26.toInt := congrArg Int32.toInt (show ge T24 40 0 4 = y26 from ey26.symm)
        exact zk_some ⟨RT24, FT24, by omega⟩
    ·
      have q77 : (ge T16 40 0 2).toInt = y1.toInt := congrArg Int32.toInt (show ge T16 40 0 2 = y1 from ((fT16.1 40 0 2 rfl).trans ((fT8.1 40 0 2 rfl).trans ey1.symm)))
      have q78 : (ge T16 40 0 4).toInt = y18.toInt := congrArg Int32.toInt (show ge T16 40 0 4 = y18 from ey18.symm)
      exact zk_some ⟨RT16, FT16, by omega⟩
  ·
    have q79 : (ge T8 40 0 2).toInt = y1.toInt := congrArg Int32.toInt (show ge T8 40 0 2 = y1 from ((fT8.1 40 0 2 rfl).trans ey1.symm))
    have q80 : (ge T8 40 0 4).toInt = y10.toInt := congrArg Int32.toInt (show ge T8 40 0 4 = y10 from ey10.symm)
    exact zk_some ⟨RT8, FT8, by omega⟩
theorem s_F_X7_fault (S0 : fS) (RS0 : RI S0) : zk (F_X7_fault S0) (fun v S9 => RI S9 ∧ Fr 65536 S0 S9 ∧ True) := by
  have l0 : (0 : Int32).toInt = 0 := by decide
  have l3 : (3 : Int32).toInt = 3 := by decide
  have FS0 : Fr 65536 S0 S0 := Fr.rf
  unfold F_X7_fault
  refine zk_sv fun S1 E1 => ?_
  have RS1 : RI S1 := by rw [E1]; exact RS0.wf rfl
  have FS1 : Fr 65536 S0 S1 := by rw [E1]; exact FS0.wr (k := 16) rfl rfl
  refine zk_iv fun x2 e2 => ?_
  exact zk_some ⟨RS1, FS1, trivial⟩
theorem s_F_X7_reads (p1 : Int32) (S0 : fS) (RS0 : RI S0) (hp : 0 ≤ p1.toInt ∧ p1.toInt ≤ 8) : zk (F_X7_reads p1 S0) (fun v S9 => RI S9 ∧ Fr 33619968 S0 S9 ∧ True) := by
  have l0 : (0 : Int32).toInt = 0 := by decide
  have l1 : (1 : Int32).toInt = 1 := by decide
  have l2 : (2 : Int32).toInt = 2 := by decide
  have l5 : (5 : Int32).toInt = 5 := by decide
  have l8 : (8 : Int32).toInt = 8 := by decide
  have l16 : (16 : Int32).toInt = 16 := by decide
  have FS0 : Fr 33619968 S0 S0 := Fr.rf
  unfold F_X7_reads
  refine zk_sv fun S1 E1 => ?_
  have RS1 : RI S1 := by rw [E1]; exact RS0.wr (show (-1 : Int) ≤ p1.toInt by omega) (show p1.toInt ≤ 8 by omega)
  have FS1 : Fr 33619968 S0 S1 := by rw [E1]; exact FS0.wr (k := 25) rfl rfl
  refine zk_gd ⟨by omega, by omega⟩ ?_
  refine zk_iv fun x2 e2 => ?_
  have gx2 : 0 ≤ x2.toInt ∧ x2.toInt ≤ 300 := by rw [e2]; exact RS1 44 _ _
  refine zk_sv fun S3 E3 => ?_
  have RS3 : RI S3 := by rw [E3]; exact RS1.wr (show (0 : Int) ≤ x2.toInt by omega) (show x2.toInt ≤ 300 by omega)
  have FS3 : Fr 33619968 S0 S3 := by rw [E3]; exact FS1.wr (k := 25) rfl rfl
  refine zk_le (fun c4 => ?_) (fun c4 => ?_)
  ·
    unfold B_X7_reads_26
    refine zk_gd (z01 (by omega)) ?_
    refine zk_sv fun S5 E5 => ?_
    have RS5 : RI S5 := by rw [E5]; exact RS3.wr (show (0 : Int) ≤ (0 : Int32).toInt by omega) (show (0 : Int32).toInt ≤ 1 by omega)
    have FS5 : Fr 33619968 S0 S5 := by rw [E5]; exact FS3.wr (k := 16) rfl rfl
    exact zk_some ⟨RS5, FS5, trivial⟩
  ·
    unfold B_X7_reads_26
    refine zk_gd (z01 (by omega)) ?_
    refine zk_sv fun S6 E6 => ?_
    have RS6 : RI S6 := by rw [E6]; exact RS3.wr (show (0 : Int) ≤ (1 : Int32).toInt by omega) (show (1 : Int32).toInt ≤ 1 by omega)
    have FS6 : Fr 33619968 S0 S6 := by rw [E6]; exact FS3.wr (k := 16) rfl rfl
    exact zk_some ⟨RS6, FS6, trivial⟩
theorem s_F_X7_namesOf (p1 : Int32) (S0 : fS) (RS0 : RI S0) : zk (F_X7_namesOf p1 S0) (fun v S9 => RI S9 ∧ Fr 65536 S0 S9 ∧ True) := by
  have l0 : (0 : Int32).toInt = 0 := by decide
  have l1 : (1 : Int32).toInt = 1 := by decide
  have l2 : (2 : Int32).toInt = 2 := by decide
  have l3 : (3 : Int32).toInt = 3 := by decide
  have l4 : (4 : Int32).toInt = 4 := by decide
  have l5 : (5 : Int32).toInt = 5 := by decide
  have l6 : (6 : Int32).toInt = 6 := by decide
  have l32 : (32 : Int32).toInt = 32 := by decide
  have l33 : (33 : Int32).toInt = 33 := by decide
  have l35 : (35 : Int32).toInt = 35 := by decide
  have l36 : (36 : Int32).toInt = 36 := by decide
  have l37 : (37 : Int32).toInt = 37 := by decide
  have l38 : (38 : Int32).toInt = 38 := by decide
  have FS0 : Fr 65536 S0 S0 := Fr.rf
  unfold F_X7_namesOf
  refine zk_iv fun x1 e1 => ?_
  refine zk_iv fun x2 e2 => ?_
  refine zk_sv fun S3 E3 => ?_
  have RS3 : RI S3 := by rw [E3]; exact RS0.wf rfl
  have FS3 : Fr 65536 S0 S3 := by rw [E3]; exact FS0.wr (k := 16) rfl rfl
  refine zk_iv fun x4 e4 => ?_
  refine zk_iv fun x5 e5 => ?_
  refine zk_sv fun S6 E6 => ?_
  have RS6 : RI S6 := by rw [E6]; exact RS3.wf rfl
  have FS6 : Fr 65536 S0 S6 := by rw [E6]; exact FS3.wr (k := 16) rfl rfl
  refine zk_iv fun x7 e7 => ?_
  refine zk_iv fun x8 e8 => ?_
  have gx8 : 0 ≤ x8.toInt ∧ x8.toInt ≤ 99 := by rw [e8]; exact RS6 40 _ _
  refine zk_iv fun x9 e9 => ?_
  refine zk_iv fun x10 e10 => ?_
  refine zk_sv fun S11 E11 => ?_
  have RS11 : RI S11 := by rw [E11]; exact RS6.wf rfl
  have FS11 : Fr 65536 S0 S11 := by rw [E11]; exact FS6.wr (k := 16) rfl rfl
  refine zk_iv fun x12 e12 => ?_
  refine zk_sv fun S13 E13 => ?_
  have RS13 : RI S13 := by rw [E13]; exact RS11.wf rfl
  have FS13 : Fr 65536 S0 S13 := by rw [E13]; exact FS11.wr (k := 16) rfl rfl
  refine zk_iv fun x14 e14 => ?_
  have gx14 : 0 ≤ x14.toInt ∧ x14.toInt ≤ 23 := by rw [e14]; exact RS13 40 _ _
  refine zk_sv fun S15 E15 => ?_
  have RS15 : RI S15 := by rw [E15]; exact RS13.wf rfl
  have FS15 : Fr 65536 S0 S15 := by rw [E15]; exact FS13.wr (k := 16) rfl rfl
  refine zk_sv fun S16 E16 => ?_
  have RS16 : RI S16 := by rw [E16]; exact RS15.wf rfl
  have FS16 : Fr 65536 S0 S16 := by rw [E16]; exact FS15.wr (k := 16) rfl rfl
  refine zk_sv fun S17 E17 => ?_
  have RS17 : RI S17 := by rw [E17]; exact RS16.wf rfl
  have FS17 : Fr 65536 S0 S17 := by rw [E17]; exact FS16.wr (k := 16) rfl rfl
  exact zk_some ⟨RS17, FS17, trivial⟩
theorem s_F_X7_within (p0 : Int32) (p1 : Int32) (p2 : Int32) (S0 : fS) (RS0 : RI S0) (hpr : p1.toInt ≤ p2.toInt) : zk (F_X7_within p0 p1 p2 S0) (fun v S9 => S0 = S9 ∧ (p1.toInt ≤ v.toInt ∧ v.toInt ≤ p2.toInt)) := by
  unfold F_X7_within
  have b1 := ti_bd p1
  have b2 := ti_bd p0
  refine zk_le (fun c3 => ?_) (fun c3 => ?_)
  ·
    have b4 := ti_bd p2
    refine zk_le (fun c5 => ?_) (fun c5 => ?_)
    ·
      exact zk_some ⟨rfl, by omega⟩
    ·
      exact zk_some ⟨rfl, by omega⟩
  ·
    exact zk_some ⟨rfl, by omega⟩
