/-! the pure part: the reference, its walker of texts -/
theorem s_F_X7_bad (p1 : Int32) (p2 : Int32) (S0 : fS) (RS0 : RI S0) (hp : ¬ p2.toInt = 0) : zk (F_X7_bad p1 p2 S0) (fun v S9 => RI S9 ∧ Fr 65536 S0 S9 ∧ ((v.toInt = 0 ∧ p1.toInt = 0 ∧ (ge S9 40 0 0).toInt = 0) ∨ (v.toInt = 1 ∧ (¬ p1.toInt = 0 ∨ ¬ (ge S0 40 0 0).toInt = 0)))) := by
  have l0 : (0 : Int32).toInt = 0 := by decide
  have l1 : (1 : Int32).toInt = 1 := by decide
  have FS0 : Fr 65536 S0 S0 := Fr.rf
  unfold F_X7_bad
  obtain ⟨y1, ey1⟩ : ∃ y : Int32, y = ge S0 40 0 0 := ⟨_, rfl⟩
  have q2 : (ge S0 40 0 0).toInt = y1.toInt := congrArg Int32.toInt (show ge S0 40 0 0 = y1 from ey1.symm)
  have b3 := ti_bd p1
  refine zk_eq (fun c4 => ?_) (fun c4 => ?_)
  ·
    unfold B_X7_bad_16
    refine zk_ivq (x := y1) ey1.symm ?_
    have b5 := ti_bd y1
    refine zk_eq (fun c6 => ?_) (fun c6 => ?_)
    ·
      have q7 : (ge S0 40 0 0).toInt = y1.toInt := congrArg Int32.toInt (show ge S0 40 0 0 = y1 from ey1.symm)
      exact zk_some ⟨RS0, FS0, by omega⟩
    ·
      have q8 : (ge S0 40 0 0).toInt = y1.toInt := congrArg Int32.toInt (show ge S0 40 0 0 = y1 from ey1.symm)
      exact zk_some ⟨RS0, FS0, by omega⟩
  ·
    refine zk_ivq (x := y1) ey1.symm ?_
    have b9 := ti_bd y1
    refine zk_eq (fun c10 => ?_) (fun c10 => ?_)
    ·
      refine zk_sv fun S11 E11 => ?_
      have RS11 : RI S11 := by rw [E11]; exact RS0.wf rfl
      have FS11 : Fr 65536 S0 S11 := by rw [E11]; exact FS0.wr (k := 16) rfl rfl
      unfold B_X7_bad_16
      refine zk_ivq (x := p2) (by rw [E11]; exact ge_pus) ?_
      have b12 := ti_bd p2
      refine zk_eq (fun c13 => ?_) (fun c13 => ?_)
      ·
        have q14 : (ge S11 40 0 0).toInt = p2.toInt := congrArg Int32.toInt (show ge S11 40 0 0 = p2 from (by rw [E11]; exact ge_pus))
        exact zk_some ⟨RS11, FS11, by omega⟩
      ·
        have q15 : (ge S11 40 0 0).toInt = p2.toInt := congrArg Int32.toInt (show ge S11 40 0 0 = p2 from (by rw [E11]; exact ge_pus))
        exact zk_some ⟨RS11, FS11, by omega⟩
    ·
      unfold B_X7_bad_16
      refine zk_ivq (x := y1) ey1.symm ?_
      refine zk_eq (fun c16 => ?_) (fun c16 => ?_)
      ·
        have q17 : (ge S0 40 0 0).toInt = y1.toInt := congrArg Int32.toInt (show ge S0 40 0 0 = y1 from ey1.symm)
        exact zk_some ⟨RS0, FS0, by omega⟩
      ·
        have q18 : (ge S0 40 0 0).toInt = y1.toInt := congrArg Int32.toInt (show ge S0 40 0 0 = y1 from ey1.symm)
        exact zk_some ⟨RS0, FS0, by omega⟩
theorem s_F_X7_in (p0 : Int32) (p1 : Int32) (p2 : Int32) (S0 : fS) (RS0 : RI S0) : zk (F_X7_in p0 p1 p2 S0) (fun v S9 => S0 = S9 ∧ ((v.toInt = 0 ∧ (p0.toInt < p1.toInt ∨ p2.toInt < p0.toInt)) ∨ (v.toInt = 1 ∧ p1.toInt ≤ p0.toInt ∧ p0.toInt ≤ p2.toInt))) := by
  have l0 : (0 : Int32).toInt = 0 := by decide
  have l1 : (1 : Int32).toInt = 1 := by decide
  unfold F_X7_in
  have b1 := ti_bd p0
  have b2 := ti_bd p1
  refine zk_lt (fun c3 => ?_) (fun c3 => ?_)
  ·
    exact zk_some ⟨rfl, by omega⟩
  ·
    have b4 := ti_bd p2
    refine zk_lt (fun c5 => ?_) (fun c5 => ?_)
    ·
      exact zk_some ⟨rfl, by omega⟩
    ·
      exact zk_some ⟨rfl, by omega⟩
theorem s_F_X7_isCell (p0 : Int32) (S0 : fS) (RS0 : RI S0) : zk (F_X7_isCell p0 S0) (fun v S9 => S0 = S9 ∧ ((v.toInt = 0 ∧ (p0.toInt < 0 ∨ 63 < p0.toInt)) ∨ (v.toInt = 1 ∧ 0 ≤ p0.toInt ∧ p0.toInt ≤ 63))) := by
  have l0 : (0 : Int32).toInt = 0 := by decide
  have l1 : (1 : Int32).toInt = 1 := by decide
  have l63 : (63 : Int32).toInt = 63 := by decide
  unfold F_X7_isCell
  refine zk_bd (s_F_X7_in _ _ _ _ RS0) (fun v1 T2 h1 => ?_)
  obtain ⟨rfl, h1⟩ := h1
  refine zk_gd (z01 (by omega)) ?_
  exact zk_some ⟨rfl, by omega⟩
theorem s_F_X7_apart (p0 : Int32) (p1 : Int32) (S0 : fS) (RS0 : RI S0) : zk (F_X7_apart p0 p1 S0) (fun v S9 => S0 = S9 ∧ True) := by
  unfold F_X7_apart
  have b1 := ti_bd p1
  have b2 := ti_bd p0
  refine zk_le (fun c3 => ?_) (fun c3 => ?_)
  ·
    refine zk_iv fun x4 e4 => ?_
    exact zk_some ⟨rfl, trivial⟩
  ·
    refine zk_iv fun x5 e5 => ?_
    exact zk_some ⟨rfl, trivial⟩
/-- the byte at a place of the text that is being read; -1 past its end -/
def byv (S : fS) (p : Int32) : Int := if p.toInt < (ge S 40 0 2).toInt then (if (ge S 40 0 8).toInt = -1 then (ge S 41 0 p.toNatClampNeg).toInt else (ge S 43 (ge S 40 0 8).toNatClampNeg p.toNatClampNeg).toInt) else -1
theorem byv_bd {S : fS} (R : RI S) (p : Int32) : byv S p = -1 ∨ (0 ≤ byv S p ∧ byv S p ≤ 255 ∧ p.toInt < (ge S 40 0 2).toInt) := by
  unfold byv
  by_cases c : p.toInt < (ge S 40 0 2).toInt
  · rw [if_pos c]
    by_cases d : (ge S 40 0 8).toInt = -1
    · rw [if_pos d]
      have h : 0 ≤ (ge S 41 0 p.toNatClampNeg).toInt ∧ (ge S 41 0 p.toNatClampNeg).toInt ≤ 255 := R 41 _ _
      exact Or.inr ⟨h.1, h.2, c⟩
    · rw [if_neg d]
      have h : 0 ≤ (ge S 43 (ge S 40 0 8).toNatClampNeg p.toNatClampNeg).toInt ∧ (ge S 43 (ge S 40 0 8).toNatClampNeg p.toNatClampNeg).toInt ≤ 255 := R 43 _ _
      exact Or.inr ⟨h.1, h.2, c⟩
  · rw [if_neg c]
    exact Or.inl rfl
theorem byv_fr {S S' : fS} {m : Nat} (F : Fr m S S') (hm : m.testBit 25 = false) (p : Int32) : byv S' p = byv S p := by
  have h1 := F.1 40 0 2 hm
  have h2 := F.1 40 0 8 hm
  have h3 : ∀ i j : Nat, ge S' 41 i j = ge S 41 i j := fun i j => F.1 41 i j hm
  have h4 : ∀ i j : Nat, ge S' 43 i j = ge S 43 i j := fun i j => F.1 43 i j hm
  unfold byv
  rw [h1, h2, h3, h4]
theorem s_F_X7_byteAt (p1 : Int32) (S0 : fS) (RS0 : RI S0) (hp : 0 ≤ p1.toInt) : zk (F_X7_byteAt p1 S0) (fun v S9 => S0 = S9 ∧ v.toInt = byv S0 p1) := by
  have lm1 : (-1 : Int32).toInt = -1 := by decide
  have g2 : 0 ≤ (ge S0 40 0 2).toInt ∧ (ge S0 40 0 2).toInt ≤ 300 := RS0 40 _ _
  have g8 : -1 ≤ (ge S0 40 0 8).toInt ∧ (ge S0 40 0 8).toInt ≤ 8 := RS0 40 _ _
  unfold F_X7_byteAt byv
  refine zk_iv fun x1 e1 => ?_
  subst e1
  refine zk_lt (fun c => ?_) (fun c => ?_)
  · refine zk_iv fun x3 e3 => ?_
    subst e3
    refine zk_eq (fun d => ?_) (fun d => ?_)
    · refine zk_gd ⟨by omega, by omega⟩ ?_
      refine zk_iv fun x10 e10 => ?_
      exact zk_some ⟨rfl, by rw [if_pos c, if_pos (by omega), e10]⟩
    · refine zk_ivq rfl ?_
      refine zk_gd ⟨by omega, by omega⟩ ?_
      refine zk_gd ⟨by omega, by omega⟩ ?_
      refine zk_iv fun x8 e8 => ?_
      exact zk_some ⟨rfl, by rw [if_pos c, if_neg (by omega), e8]⟩
  · exact zk_some ⟨rfl, by rw [if_neg (by omega)]; exact lm1⟩
def wd2 (t p : Int32) : Int32 := if p = 0 then t else 27 * t + p
def wd (p0 p1 p2 p3 p4 : Int32) : Int32 := wd2 (wd2 (wd2 (27 * p0 + p1) p2) p3) p4
theorem byv_c {S : fS} {x y : Int32} (h : x.toInt = y.toInt) : byv S x = byv S y := by rw [of_toInt h]
theorem ti_mulc {a b : Int32} {c : Int} (ha : a.toInt = c) (h1 : -2147483648 ≤ c * b.toInt) (h2 : c * b.toInt ≤ 2147483647) : (a * b).toInt = c * b.toInt := by
  rw [← ha] at h1 h2 ⊢
  exact ti_mul h1 h2
theorem s_F_X7_word (p0 p1 p2 p3 p4 : Int32) (S0 : fS) (RS0 : RI S0) : zk (F_X7_word p0 p1 p2 p3 p4 S0) (fun v S9 => S0 = S9 ∧ v = wd p0 p1 p2 p3 p4) := by
  unfold F_X7_word wd wd2
  refine zk_iv fun x1 e1 => ?_
  refine zk_iv fun x2 e2 => ?_
  subst e1 e2
  have J : ∀ t : Int32, zk (B_X7_word_24 p3 p4 t S0) (fun v S9 => S0 = S9 ∧ v = (if p4 = 0 then (if p3 = 0 then t else 27 * t + p3) else 27 * (if p3 = 0 then t else 27 * t + p3) + p4)) := by
    intro t
    unfold B_X7_word_24 B_X7_word_42
    refine zk_bb (fun c => ?_) (fun c => ?_)
    · refine zk_bb (fun d => zk_some ⟨rfl, by rw [if_pos d, if_pos c]⟩) (fun d => ?_)
      refine zk_iv fun x e => ?_
      refine zk_iv fun y ey => ?_
      exact zk_some ⟨rfl, by rw [if_neg d, if_pos c, ey, e]⟩
    · refine zk_iv fun x e => ?_
      refine zk_iv fun y ey => ?_
      refine zk_bb (fun d => zk_some ⟨rfl, by rw [if_pos d, if_neg c, ey, e]⟩) (fun d => ?_)
      refine zk_iv fun x' e' => ?_
      refine zk_iv fun y' ey' => ?_
      exact zk_some ⟨rfl, by rw [if_neg d, if_neg c, ey', e', ey, e]⟩
  refine zk_bb (fun c => ?_) (fun c => ?_)
  · rw [if_pos c]
    exact J _
  · rw [if_neg c]
    refine zk_iv fun x e => ?_
    refine zk_iv fun y ey => ?_
    subst e ey
    exact J _
theorem s_F_X7_isDigit (p0 : Int32) (S0 : fS) (RS0 : RI S0) : zk (F_X7_isDigit p0 S0) (fun v S9 => S0 = S9 ∧ (v.toInt = 0 ∨ (v.toInt = 1 ∧ 48 ≤ p0.toInt ∧ p0.toInt ≤ 57))) := by
  have l0 : (0 : Int32).toInt = 0 := by decide
  have l1 : (1 : Int32).toInt = 1 := by decide
  have l48 : (48 : Int32).toInt = 48 := by decide
  have l57 : (57 : Int32).toInt = 57 := by decide
  unfold F_X7_isDigit
  have b1 := ti_bd p0
  refine zk_lt (fun c2 => ?_) (fun c2 => ?_)
  ·
    exact zk_some ⟨rfl, by omega⟩
  ·
    refine zk_lt (fun c3 => ?_) (fun c3 => ?_)
    ·
      exact zk_some ⟨rfl, by omega⟩
    ·
      exact zk_some ⟨rfl, by omega⟩
/-! only the place is moved, and not past the text's end -/
def BS (S T : fS) : Prop := RI T ∧ Fr 536870912 S T ∧ (ge S 40 0 4).toInt ≤ (ge T 40 0 4).toInt ∧ ((ge T 40 0 4).toInt ≤ (ge S 40 0 2).toInt ∨ (ge T 40 0 4).toInt = (ge S 40 0 4).toInt)
/-! an expression is read: the place, the fault, the count of what is open -/
def PS (S T : fS) : Prop := RI T ∧ Fr 13421838336 S T ∧ (ge S 40 0 4).toInt ≤ (ge T 40 0 4).toInt ∧ ((ge T 40 0 4).toInt ≤ (ge S 40 0 2).toInt ∨ (ge T 40 0 4).toInt = (ge S 40 0 4).toInt) ∧ (ge T 40 0 5).toInt = (ge S 40 0 5).toInt ∧ (¬ (ge S 40 0 6).toInt = 0 → ¬ (ge T 40 0 6).toInt = 0)
def AK (S : fS) : Prop := (ge S 40 0 4).toInt ≤ (ge S 40 0 2).toInt + 1 ∧ ((ge S 40 0 6).toInt = 0 → (ge S 40 0 4).toInt ≤ (ge S 40 0 2).toInt)
def TS (S T : fS) : Prop := RI T ∧ Fr 13421838336 S T ∧ (ge S 40 0 4).toInt ≤ (ge T 40 0 4).toInt ∧ AK T ∧ (ge T 40 0 5).toInt = (ge S 40 0 5).toInt ∧ (¬ (ge S 40 0 6).toInt = 0 → ¬ (ge T 40 0 6).toInt = 0)
section BSS
variable {S T U : fS} {x : Int32} {n : Int}
theorem RI.at (R : RI S) : 0 ≤ (ge S 40 0 4).toInt ∧ (ge S 40 0 4).toInt ≤ 301 := R 40 0 4
theorem RI.sz (R : RI S) : 0 ≤ (ge S 40 0 2).toInt ∧ (ge S 40 0 2).toInt ≤ 300 := R 40 0 2
theorem RI.op (R : RI S) : 0 ≤ (ge S 40 0 5).toInt ∧ (ge S 40 0 5).toInt ≤ 7 := R 40 0 5
theorem BS.rf (R : RI S) : BS S S := ⟨R, Fr.rf, Int.le_refl _, Or.inr rfl⟩
theorem BS.sz (h : BS S T) : (ge T 40 0 2).toInt = (ge S 40 0 2).toInt := congrArg Int32.toInt (h.2.1.1 40 0 2 rfl)
theorem BS.fl (h : BS S T) : (ge T 40 0 6).toInt = (ge S 40 0 6).toInt := congrArg Int32.toInt (h.2.1.1 40 0 6 rfl)
theorem BS.op (h : BS S T) : (ge T 40 0 5).toInt = (ge S 40 0 5).toInt := congrArg Int32.toInt (h.2.1.1 40 0 5 rfl)
theorem BS.tr (h : BS S T) (h2 : BS T U) : BS S U := by
  have e := h.sz
  obtain ⟨_, f1, a1, b1⟩ := h
  obtain ⟨r2, f2, a2, b2⟩ := h2
  exact ⟨r2, f1.tr f2, by omega, by omega⟩
theorem BS.up (R : RI S) (hx : x.toInt = (ge S 40 0 4).toInt + n) (hn : 0 ≤ n) (hl : (ge S 40 0 4).toInt + n ≤ (ge S 40 0 2).toInt) : BS S (pu S 40 0 4 x) := by
  have g1 := R.at
  have g2 := R.sz
  have e : ge (pu S 40 0 4 x) 40 0 4 = x := ge_pus
  refine ⟨R.wr (show (0 : Int) ≤ x.toInt by omega) (show x.toInt ≤ 301 by omega), Fr.rf.wr (k := 29) rfl rfl, ?_, ?_⟩
  · rw [e]; omega
  · rw [e]; exact Or.inl (by omega)
theorem PS.rf (R : RI S) : PS S S := ⟨R, Fr.rf, Int.le_refl _, Or.inr rfl, rfl, id⟩
theorem PS.sz (h : PS S T) : (ge T 40 0 2).toInt = (ge S 40 0 2).toInt := congrArg Int32.toInt (h.2.1.1 40 0 2 rfl)
theorem PS.tr (h : PS S T) (h2 : PS T U) : PS S U := by
  have e := h.sz
  obtain ⟨_, f1, a1, b1, c1, d1⟩ := h
  obtain ⟨r2, f2, a2, b2, c2, d2⟩ := h2
  exact ⟨r2, f1.tr f2, by omega, by omega, by omega, fun q => d2 (d1 q)⟩
theorem BS.ps (h : BS S T) : PS S T := ⟨h.1, h.2.1.sub (by decide), h.2.2.1, h.2.2.2, h.op, fun q => by rw [h.fl]; exact q⟩
theorem PS.ak (hA : AK S) (h : PS S T) : AK T := by
  have e := h.sz
  obtain ⟨_, f1, a1, b1, c1, d1⟩ := h
  obtain ⟨p1, p2⟩ := hA
  refine ⟨by omega, fun q => ?_⟩
  by_cases z : (ge S 40 0 6).toInt = 0
  · have := p2 z
    omega
  · exact absurd q (d1 z)
theorem PS.ts (hA : AK S) (h : PS S T) : TS S T := ⟨h.1, h.2.1, h.2.2.1, h.ak hA, h.2.2.2.2.1, h.2.2.2.2.2⟩
theorem TS.rf (R : RI S) (hA : AK S) : TS S S := ⟨R, Fr.rf, Int.le_refl _, hA, rfl, id⟩
theorem TS.sz (h : TS S T) : (ge T 40 0 2).toInt = (ge S 40 0 2).toInt := congrArg Int32.toInt (h.2.1.1 40 0 2 rfl)
theorem TS.tr (h : TS S T) (h2 : TS T U) : TS S U := by
  obtain ⟨_, f1, a1, b1, c1, d1⟩ := h
  obtain ⟨r2, f2, a2, b2, c2, d2⟩ := h2
  exact ⟨r2, f1.tr f2, by omega, b2, by omega, fun q => d2 (d1 q)⟩
theorem TS.ps (h : TS S T) (h2 : PS T U) : TS S U := h.tr (h2.ts h.2.2.2.1)
theorem byv_lt (R : RI S) {p : Int32} (h : 0 ≤ byv S p) : p.toInt < (ge S 40 0 2).toInt := by
  have := byv_bd R p
  omega
end BSS
theorem s_B_X7_blanks_0 (S : fS) (RS : RI S) : zk (lp (B_X7_blanks_0) fuel () S) (fun _ T => BS S T) := by
  have l1 : (1 : Int32).toInt = 1 := by decide
  have l32 : (32 : Int32).toInt = 32 := by decide
  refine zk_lp (fun _ S => RI S) (fun _ S => (302 - (ge S 40 0 4).toInt).toNat) (fun _ S (_ : Int32) T => BS S T) ?_ () S RS (by have := RS.at; omega)
  clear RS
  intro k z S RS hk
  have g := RS.at
  have gs := RS.sz
  unfold B_X7_blanks_0
  refine zk_iv fun x e => ?_
  subst e
  refine zk_bd (s_F_X7_byteAt _ S RS (by omega)) (fun v T h => ?_)
  obtain ⟨rfl, hv⟩ := h
  have hb := byv_bd RS (ge S 40 0 4)
  refine zk_eq (fun c => ?_) (fun c => zk_some (BS.rf RS))
  refine zk_iv fun x e => ?_
  subst e
  refine zk_iv fun y e => ?_
  have gy : y.toInt = (ge S 40 0 4).toInt + 1 := by rw [e, ti_add (by omega) (by omega), l1]
  refine zk_sv fun T E => ?_
  have u : BS S T := by rw [E]; exact BS.up RS gy (by omega) (by omega)
  have e4 : ge T 40 0 4 = y := by rw [E]; exact ge_pus
  exact zk_imp (hk () T u.1 (by show (302 - (ge T 40 0 4).toInt).toNat < (302 - (ge S 40 0 4).toInt).toNat; rw [e4]; omega)) (fun v U h => u.tr h)
theorem s_F_X7_blanks (S0 : fS) (RS0 : RI S0) : zk (F_X7_blanks S0) (fun _ T => BS S0 T) := s_B_X7_blanks_0 S0 RS0
theorem s_F_X7_wrong (p1 p2 : Int32) (S0 : fS) (RS0 : RI S0) (hp : ¬ p1.toInt = 0) : zk (F_X7_wrong p1 p2 S0) (fun _ T => PS S0 T ∧ ¬ (ge T 40 0 6).toInt = 0 ∧ ge T 40 0 4 = ge S0 40 0 4) := by
  have l0 : (0 : Int32).toInt = 0 := by decide
  unfold F_X7_wrong
  refine zk_iv fun x e => ?_
  refine zk_eq (fun c => ?_) (fun c => zk_some ⟨PS.rf RS0, by rw [← e]; omega, rfl⟩)
  refine zk_sv fun S1 E1 => ?_
  refine zk_sv fun S2 E2 => ?_
  have R1 : RI S1 := by rw [E1]; exact RS0.wf rfl
  have F1 : Fr 13421838336 S0 S1 := by rw [E1]; exact Fr.rf.wr (k := 33) rfl rfl
  have R2 : RI S2 := by rw [E2]; exact R1.wf rfl
  have F2 : Fr 13421838336 S0 S2 := by rw [E2]; exact F1.wr (k := 16) rfl rfl
  have e4 : ge S2 40 0 4 = ge S0 40 0 4 := by rw [E2, ge_puj (by decide), E1, ge_puj (by decide)]
  have e5 : ge S2 40 0 5 = ge S0 40 0 5 := by rw [E2, ge_puj (by decide), E1, ge_puj (by decide)]
  have e6 : ge S2 40 0 6 = p1 := by rw [E2, ge_puj (by decide), E1, ge_pus]
  exact zk_some ⟨⟨R2, F2, by rw [e4]; exact Int.le_refl _, Or.inr (by rw [e4]), by rw [e5], fun _ => by rw [e6]; exact hp⟩, by rw [e6]; exact hp, e4⟩
theorem s_B_X7_number_7 (z : Int32 × Int32) (S : fS) (RS : RI S) : zk (lp (B_X7_number_7) fuel z S) (fun _ T => PS S T) := by
  have l0 : (0 : Int32).toInt = 0 := by decide
  have l1 : (1 : Int32).toInt = 1 := by decide
  refine zk_lp (fun _ S => RI S) (fun _ S => (302 - (ge S 40 0 4).toInt).toNat) (fun _ S (_ : Int32) T => PS S T) ?_ z S RS (by have := RS.at; omega)
  clear RS
  intro k z S RS hk
  obtain ⟨a1, a2⟩ := z
  have g := RS.at
  have gs := RS.sz
  unfold B_X7_number_7
  dsimp only
  refine zk_iv fun x e => ?_
  subst e
  refine zk_bd (s_F_X7_byteAt _ S RS (by omega)) (fun v T h => ?_)
  obtain ⟨rfl, hv⟩ := h
  have hb := byv_bd RS (ge S 40 0 4)
  refine zk_bd (s_F_X7_isDigit _ S RS) (fun v2 T h => ?_)
  obtain ⟨rfl, hd⟩ := h
  refine zk_eq (fun c => ?_) (fun c => ?_)
  · refine zk_le (fun _ => zk_some (PS.rf RS)) (fun _ => ?_)
    exact zk_bd (s_F_X7_wrong _ _ S RS (by decide)) (fun v T h => zk_some h.1)
  · refine zk_iv fun x e => ?_
    refine zk_iv fun x4 e => ?_
    subst e
    refine zk_bd (s_F_X7_byteAt _ S RS (by omega)) (fun v3 T h => ?_)
    obtain ⟨rfl, hv3⟩ := h
    refine zk_iv fun x5 e5 => ?_
    refine zk_iv fun x6 e6 => ?_
    have J : ∀ t : Int32, zk (B_X7_number_52 k a1 t S) (fun _ T => PS S T) := by
      intro t
      unfold B_X7_number_52
      refine zk_iv fun x e => ?_
      subst e
      refine zk_iv fun y e => ?_
      have gy : y.toInt = (ge S 40 0 4).toInt + 1 := by rw [e, ti_add (by omega) (by omega), l1]
      refine zk_sv fun T E => ?_
      have u : BS S T := by rw [E]; exact BS.up RS gy (by omega) (by omega)
      have e4 : ge T 40 0 4 = y := by rw [E]; exact ge_pus
      exact zk_imp (hk (a1, t) T u.1 (by show (302 - (ge T 40 0 4).toInt).toNat < (302 - (ge S 40 0 4).toInt).toNat; rw [e4]; omega)) (fun v U h => u.ps.tr h)
    exact zk_le (fun _ => J _) (fun _ => J _)
theorem s_F_X7_number (S0 : fS) (RS0 : RI S0) : zk (F_X7_number S0) (fun _ T => PS S0 T) := by
  unfold F_X7_number
  exact zk_iv fun x e => s_B_X7_number_7 _ S0 RS0
def WI (S : fS) (a1 a2 : Int) : Prop := 0 ≤ a2 ∧ a2 ≤ 300 ∧ (a2 = 0 → a1 = 0) ∧ (1 ≤ a2 → 97 ≤ byv S (ge S 40 0 4) ∧ byv S (ge S 40 0 4) ≤ 122 ∧ (ge S 40 0 4).toInt + a2 ≤ (ge S 40 0 2).toInt) ∧ (a2 = 1 → -98 ≤ a1 ∧ a1 ≤ 159) ∧ (a2 = 2 → a1 ≤ 4452)
def WQ (S : fS) (v : Int) : Prop := (v ≤ 0 ∨ (97 ≤ byv S (ge S 40 0 4) ∧ byv S (ge S 40 0 4) ≤ 122)) ∧ (4452 < v → (ge S 40 0 4).toInt + 3 ≤ (ge S 40 0 2).toInt)
theorem s_B_X7_wordHere_8 (z : Int32 × Int32) (S : fS) (RS : RI S) (hi : WI S z.1.toInt z.2.toInt) : zk (lp (B_X7_wordHere_8) fuel z S) (fun v S9 => S = S9 ∧ WQ S v.toInt) := by
  have lm1 : (-1 : Int32).toInt = -1 := by decide
  have l1 : (1 : Int32).toInt = 1 := by decide
  have l5 : (5 : Int32).toInt = 5 := by decide
  have l97 : (97 : Int32).toInt = 97 := by decide
  have l122 : (122 : Int32).toInt = 122 := by decide
  refine zk_lp (fun z S => RI S ∧ WI S z.1.toInt z.2.toInt) (fun z S => (301 - z.2.toInt).toNat) (fun z S (v : Int32) S9 => S = S9 ∧ WQ S v.toInt) ?_ z S ⟨RS, hi⟩ (by have := hi.1; omega)
  clear RS hi
  intro k z S hI hk
  obtain ⟨RS, h0, h1, h2, h3, h4, h5⟩ := hI
  obtain ⟨a1, a2⟩ := z
  dsimp only at h0 h1 h2 h3 h4 h5 hk ⊢
  have gat : 0 ≤ (ge S 40 0 4).toInt ∧ (ge S 40 0 4).toInt ≤ 301 := RS 40 _ _
  have gsz : 0 ≤ (ge S 40 0 2).toInt ∧ (ge S 40 0 2).toInt ≤ 300 := RS 40 _ _
  have fin : zk (B_X7_wordHere_74 a1 a2 S) (fun v S9 => S = S9 ∧ WQ S v.toInt) := by
    unfold B_X7_wordHere_74
    refine zk_le (fun c => zk_some ⟨rfl, ?_⟩) (fun c => zk_some ⟨rfl, Or.inl (by omega), fun q => by omega⟩)
    by_cases e : a2.toInt = 0
    · have h6 := h2 e
      exact ⟨Or.inl (by omega), fun q => by omega⟩
    · have h6 := h3 (by omega)
      refine ⟨Or.inr ⟨h6.1, h6.2.1⟩, fun q => ?_⟩
      have h7 : ¬ a2.toInt = 1 := fun e1 => by have := h4 e1; omega
      have h8 : ¬ a2.toInt = 2 := fun e2 => by have := h5 e2; omega
      omega
  unfold B_X7_wordHere_8
  dsimp only
  refine zk_iv fun x3 e3 => ?_
  refine zk_iv fun x4 e4 => ?_
  have g4 : x4.toInt = (ge S 40 0 4).toInt + a2.toInt := by rw [e4, e3]; exact ti_add (by omega) (by omega)
  refine zk_bd (s_F_X7_byteAt x4 S RS (by omega)) (fun v5 S6 h => ?_)
  obtain ⟨rfl, hv5⟩ := h
  have b5 := byv_bd RS x4
  refine zk_lt (fun c => fin) (fun c => ?_)
  refine zk_ivq (x := x3) e3.symm ?_
  refine zk_ivq (x := x4) e4.symm ?_
  refine zk_bd (s_F_X7_byteAt x4 S RS (by omega)) (fun v11 S6 h => ?_)
  obtain ⟨rfl, hv11⟩ := h
  refine zk_lt (fun c => fin) (fun c2 => ?_)
  have hsz : x4.toInt < (ge S 40 0 2).toInt := by omega
  have lett : 97 ≤ byv S (ge S 40 0 4) ∧ byv S (ge S 40 0 4) ≤ 122 := by
    by_cases e : a2.toInt = 0
    · have h6 : byv S (ge S 40 0 4) = byv S x4 := byv_c (by omega)
      rw [h6]
      omega
    · have h6 := h3 (by omega)
      exact ⟨h6.1, h6.2.1⟩
  have go : ∀ t : Int32, (a2.toInt = 0 → -98 ≤ t.toInt ∧ t.toInt ≤ 159) → (a2.toInt = 1 → t.toInt ≤ 4452) → zk (B_X7_wordHere_67 k a2 t S) (fun v S9 => S = S9 ∧ WQ S v.toInt) := by
    intro t ht1 ht2
    unfold B_X7_wordHere_67
    refine zk_iv fun x e => ?_
    have gx : x.toInt = a2.toInt + 1 := by rw [e]; exact ti_inc (by omega)
    refine hk (t, x) S ⟨RS, ?_, ?_, fun q => ?_, fun _ => ?_, fun q => ?_, fun q => ?_⟩ ?_
    all_goals dsimp only at *
    · omega
    · omega
    · omega
    · exact ⟨lett.1, lett.2, by omega⟩
    · exact ht1 (by omega)
    · exact ht2 (by omega)
    · omega
  refine zk_le (fun c => go a1 (fun q => by omega) (fun q => by omega)) (fun c3 => ?_)
  refine zk_iv fun x16 e16 => ?_
  refine zk_ivq (x := x3) e3.symm ?_
  refine zk_ivq (x := x4) e4.symm ?_
  refine zk_bd (s_F_X7_byteAt x4 S RS (by omega)) (fun v19 S6 h => ?_)
  obtain ⟨rfl, hv19⟩ := h
  refine zk_iv fun x22 e22 => ?_
  refine zk_iv fun x23 e23 => ?_
  refine zk_iv fun x24 e24 => ?_
  have cal : -98 ≤ a1.toInt → a1.toInt ≤ 159 → x24.toInt = 27 * a1.toInt + v19.toInt - 97 + 1 := by
    intro q1 q2
    have g16 : x16.toInt = 27 * a1.toInt := by rw [e16]; exact ti_mulc (c := 27) (by decide) (by omega) (by omega)
    have g22 : x22.toInt = x16.toInt + v19.toInt := by rw [e22]; exact ti_add (by omega) (by omega)
    have g23 : x23.toInt = x22.toInt - (97 : Int32).toInt := by rw [e23]; exact ti_sub (by omega) (by omega)
    have g24 : x24.toInt = x23.toInt + (1 : Int32).toInt := by rw [e24]; exact ti_add (by omega) (by omega)
    omega
  refine go x24 (fun q => ?_) (fun q => ?_)
  · have h6 := h2 q
    have h7 := cal (by omega) (by omega)
    omega
  · have h6 := h4 q
    have h7 := cal h6.1 h6.2
    omega
theorem s_F_X7_wordHere (S0 : fS) (RS0 : RI S0) : zk (F_X7_wordHere S0) (fun v T => BS S0 T ∧ WQ T v.toInt) := by
  have l0 : (0 : Int32).toInt = 0 := by decide
  unfold F_X7_wordHere
  refine zk_bd (s_F_X7_blanks _ RS0) (fun v T h => ?_)
  refine zk_imp (s_B_X7_wordHere_8 (0, 0) T h.1 ⟨by dsimp only; omega, by dsimp only; omega, fun _ => by dsimp only; omega, fun q => by dsimp only at q; omega, fun q => by dsimp only at q; omega, fun q => by dsimp only at q; omega⟩) (fun v S9 h2 => ?_)
  obtain ⟨rfl, h2⟩ := h2
  exact ⟨h, h2⟩
theorem s_F_X7_isWord (p1 p2 p3 p4 p5 : Int32) (S0 : fS) (RS0 : RI S0) : zk (F_X7_isWord p1 p2 p3 p4 p5 S0) (fun v T => BS S0 T ∧ (v.toInt = 0 ∨ (v.toInt = 1 ∧ WQ T (wd p1 p2 p3 p4 p5).toInt))) := by
  have l0 : (0 : Int32).toInt = 0 := by decide
  have l1 : (1 : Int32).toInt = 1 := by decide
  unfold F_X7_isWord
  refine zk_bd (s_F_X7_wordHere _ RS0) (fun v T h => ?_)
  obtain ⟨h1, h2⟩ := h
  refine zk_bd (s_F_X7_word _ _ _ _ _ _ h1.1) (fun v4 S9 h => ?_)
  obtain ⟨rfl, rfl⟩ := h
  refine zk_eq (fun c => ?_) (fun c => ?_)
  · exact zk_some ⟨h1, Or.inr ⟨l1, by rw [← c]; exact h2⟩⟩
  · exact zk_some ⟨h1, Or.inl l0⟩
theorem WQ.let {S : fS} {w : Int} (h : WQ S w) (hw : 0 < w) : 97 ≤ byv S (ge S 40 0 4) ∧ byv S (ge S 40 0 4) ≤ 122 := h.1.resolve_left (by omega)
theorem s_B_X7_skipWord_0 (S : fS) (RS : RI S) : zk (lp (B_X7_skipWord_0) fuel () S) (fun _ T => BS S T ∧ (97 ≤ byv S (ge S 40 0 4) ∧ byv S (ge S 40 0 4) ≤ 122 → (ge S 40 0 4).toInt < (ge T 40 0 4).toInt)) := by
  have l1 : (1 : Int32).toInt = 1 := by decide
  have l97 : (97 : Int32).toInt = 97 := by decide
  have l122 : (122 : Int32).toInt = 122 := by decide
  refine zk_lp (fun _ S => RI S) (fun _ S => (302 - (ge S 40 0 4).toInt).toNat) (fun _ S (_ : Int32) T => BS S T ∧ (97 ≤ byv S (ge S 40 0 4) ∧ byv S (ge S 40 0 4) ≤ 122 → (ge S 40 0 4).toInt < (ge T 40 0 4).toInt)) ?_ () S RS (by have := RS.at; omega)
  clear RS
  intro k z S RS hk
  have g := RS.at
  have gs := RS.sz
  unfold B_X7_skipWord_0
  refine zk_iv fun x e => ?_
  subst e
  refine zk_bd (s_F_X7_byteAt _ S RS (by omega)) (fun v T h => ?_)
  obtain ⟨rfl, hv⟩ := h
  have hb := byv_bd RS (ge S 40 0 4)
  refine zk_lt (fun c => zk_some ⟨BS.rf RS, fun q => by omega⟩) (fun c => ?_)
  refine zk_iv fun x e => ?_
  subst e
  refine zk_bd (s_F_X7_byteAt _ S RS (by omega)) (fun v2 T h => ?_)
  obtain ⟨rfl, hv2⟩ := h
  refine zk_lt (fun c => zk_some ⟨BS.rf RS, fun q => by omega⟩) (fun c2 => ?_)
  refine zk_iv fun x e => ?_
  subst e
  refine zk_iv fun y e => ?_
  have gy : y.toInt = (ge S 40 0 4).toInt + 1 := by rw [e, ti_add (by omega) (by omega), l1]
  refine zk_sv fun T E => ?_
  have u : BS S T := by rw [E]; exact BS.up RS gy (by omega) (by omega)
  have e4 : ge T 40 0 4 = y := by rw [E]; exact ge_pus
  refine zk_imp (hk () T u.1 (by show (302 - (ge T 40 0 4).toInt).toNat < (302 - (ge S 40 0 4).toInt).toNat; rw [e4]; omega)) (fun v U h => ⟨u.tr h.1, fun _ => ?_⟩)
  have h3 := h.1.2.2.1
  rw [e4] at h3
  omega
theorem s_F_X7_skipWord (S0 : fS) (RS0 : RI S0) : zk (F_X7_skipWord S0) (fun _ T => BS S0 T ∧ (97 ≤ byv S0 (ge S0 40 0 4) ∧ byv S0 (ge S0 40 0 4) ≤ 122 → (ge S0 40 0 4).toInt < (ge T 40 0 4).toInt)) := s_B_X7_skipWord_0 S0 RS0
theorem s_F_X7_sign (p1 : Int32) (S0 : fS) (RS0 : RI S0) (hp : 0 ≤ p1.toInt) : zk (F_X7_sign p1 S0) (fun _ T => PS S0 T ∧ ((ge T 40 0 6).toInt = 0 → (ge S0 40 0 4).toInt < (ge T 40 0 4).toInt)) := by
  have l1 : (1 : Int32).toInt = 1 := by decide
  unfold F_X7_sign
  refine zk_bd (s_F_X7_blanks _ RS0) (fun v S h => ?_)
  have RS := h.1
  have g := RS.at
  have gs := RS.sz
  refine zk_iv fun x e => ?_
  subst e
  refine zk_bd (s_F_X7_byteAt _ S RS (by omega)) (fun v T h2 => ?_)
  obtain ⟨rfl, hv⟩ := h2
  have hb := byv_bd RS (ge S 40 0 4)
  refine zk_eq (fun c => ?_) (fun c => ?_)
  · refine zk_iv fun x e => ?_
    subst e
    refine zk_iv fun y e => ?_
    have gy : y.toInt = (ge S 40 0 4).toInt + 1 := by rw [e, ti_add (by omega) (by omega), l1]
    refine zk_sv fun T E => ?_
    have u : BS S T := by rw [E]; exact BS.up RS gy (by omega) (by omega)
    have e4 : ge T 40 0 4 = y := by rw [E]; exact ge_pus
    refine zk_some ⟨(h.tr u).ps, fun _ => ?_⟩
    have h3 := h.2.2.1
    rw [e4]
    omega
  · refine zk_iv fun x e => ?_
    exact zk_bd (s_F_X7_wrong _ _ S RS (by decide)) (fun v T h2 => zk_some ⟨h.ps.tr h2.1, fun q => absurd q h2.2.1⟩)
theorem s_F_X7_nameHere (S0 : fS) (RS0 : RI S0) : zk (F_X7_nameHere S0) (fun v T => BS S0 T ∧ -1 ≤ v.toInt ∧ v.toInt ≤ 6) := by
  have lm1 : (-1 : Int32).toInt = -1 := by decide
  unfold F_X7_nameHere
  refine zk_bd (s_F_X7_isWord _ _ _ _ _ _ RS0) (fun v0 T0 h0 => ?_)
  have u0 : BS S0 T0 := h0.1
  refine zk_eq (fun _ => ?_) (fun _ => zk_some ⟨u0, by decide, by decide⟩)
  refine zk_bd (s_F_X7_isWord _ _ _ _ _ _ u0.1) (fun v1 T1 h1 => ?_)
  have u1 : BS S0 T1 := u0.tr h1.1
  refine zk_eq (fun _ => ?_) (fun _ => zk_some ⟨u1, by decide, by decide⟩)
  refine zk_bd (s_F_X7_isWord _ _ _ _ _ _ u1.1) (fun v2 T2 h2 => ?_)
  have u2 : BS S0 T2 := u1.tr h2.1
  refine zk_eq (fun _ => ?_) (fun _ => zk_some ⟨u2, by decide, by decide⟩)
  refine zk_bd (s_F_X7_isWord _ _ _ _ _ _ u2.1) (fun v3 T3 h3 => ?_)
  have u3 : BS S0 T3 := u2.tr h3.1
  refine zk_eq (fun _ => ?_) (fun _ => zk_some ⟨u3, by decide, by decide⟩)
  refine zk_bd (s_F_X7_isWord _ _ _ _ _ _ u3.1) (fun v4 T4 h4 => ?_)
  have u4 : BS S0 T4 := u3.tr h4.1
  refine zk_eq (fun _ => ?_) (fun _ => zk_some ⟨u4, by decide, by decide⟩)
  refine zk_bd (s_F_X7_isWord _ _ _ _ _ _ u4.1) (fun v5 T5 h5 => ?_)
  have u5 : BS S0 T5 := u4.tr h5.1
  refine zk_eq (fun _ => ?_) (fun _ => zk_some ⟨u5, by decide, by decide⟩)
  refine zk_iv fun x e => ?_
  refine zk_eq (fun _ => zk_some ⟨u5, by decide, by decide⟩) (fun _ => ?_)
  refine zk_bd (s_F_X7_isWord _ _ _ _ _ _ u5.1) (fun v6 T6 h6 => ?_)
  exact zk_eq (fun _ => zk_some ⟨u5.tr h6.1, by decide, by decide⟩) (fun _ => zk_some ⟨u5.tr h6.1, by decide, by decide⟩)
