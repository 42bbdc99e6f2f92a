/-! the pure part: the reference, the way, the outcome -/
theorem t7_w49 (z : Int32 × Int32 × Int32 × Int32) (S : fS) : zk (lp (B_X7_onWay_49) fuel z S) (fun v T => S = T ∧ (0 ≤ z.1.toInt ∧ z.1.toInt ≤ 63 ∧ 0 ≤ z.2.1.toInt ∧ z.2.1.toInt ≤ 7 ∧ 0 ≤ z.2.2.1.toInt ∧ z.2.2.1.toInt ≤ 7 → 0 ≤ v.toInt ∧ v.toInt ≤ 63)) := by
  have l0 : (0 : Int32).toInt = 0 := by decide
  have l1 : (1 : Int32).toInt = 1 := by decide
  have lm1 : (-1 : Int32).toInt = -1 := by decide
  have lo1 : (Int32.ofInt (-1)).toInt = -1 := by decide
  have l8 : (8 : Int32).toInt = 8 := by decide
  refine zk_lp (fun _ _ => True) (fun z S => z.2.2.2.toInt.toNat) (fun z S (v : Int32) T => S = T ∧ (0 ≤ z.1.toInt ∧ z.1.toInt ≤ 63 ∧ 0 ≤ z.2.1.toInt ∧ z.2.1.toInt ≤ 7 ∧ 0 ≤ z.2.2.1.toInt ∧ z.2.2.1.toInt ≤ 7 → 0 ≤ v.toInt ∧ v.toInt ≤ 63)) ?_ z S trivial (by have := ti_bd z.2.2.2; show z.2.2.2.toInt.toNat < 4294967296; omega)
  intro k z S _ hk
  obtain ⟨a1, a3, a4, a5⟩ := z
  dsimp only
  have b5 := ti_bd a5
  have F : zk (B_X7_onWay_88 a3 a4 S) (fun v T => S = T ∧ (0 ≤ a1.toInt ∧ a1.toInt ≤ 63 ∧ 0 ≤ a3.toInt ∧ a3.toInt ≤ 7 ∧ 0 ≤ a4.toInt ∧ a4.toInt ≤ 7 → 0 ≤ v.toInt ∧ v.toInt ≤ 63)) := by
    unfold B_X7_onWay_88
    refine zk_iv fun x ex => ?_
    refine zk_iv fun y ey => ?_
    refine zk_some ⟨rfl, fun h => ?_⟩
    have gx : x.toInt = 8 * a4.toInt := by rw [ex, ti_mulc (c := 8) (by decide) (by omega) (by omega)]
    have gy : y.toInt = x.toInt + a3.toInt := by rw [ey, ti_add (by omega) (by omega)]
    omega
  have hd : 0 ≤ a1.toInt → (a1 / 8).toInt = a1.toInt / 8 := fun h => by rw [ti_dv h (by omega), l8]
  unfold B_X7_onWay_49
  dsimp only
  refine zk_le (fun _ => F) (fun c => ?_)
  refine zk_iv fun x8 e8 => ?_
  refine zk_eq (fun _ => F) (fun c2 => ?_)
  refine zk_ivq (x := x8) e8.symm ?_
  have J : ∀ t : Int32, (0 ≤ a1.toInt ∧ a1.toInt ≤ 63 ∧ 0 ≤ a3.toInt ∧ a3.toInt ≤ 7 ∧ 0 ≤ a4.toInt ∧ a4.toInt ≤ 7 → (a4 + t).toInt = a4.toInt + t.toInt ∧ 0 ≤ a4.toInt + t.toInt ∧ a4.toInt + t.toInt ≤ 7) → zk (B_X7_onWay_79 k a1 a3 a5 t a4 S) (fun v T => S = T ∧ (0 ≤ a1.toInt ∧ a1.toInt ≤ 63 ∧ 0 ≤ a3.toInt ∧ a3.toInt ≤ 7 ∧ 0 ≤ a4.toInt ∧ a4.toInt ≤ 7 → 0 ≤ v.toInt ∧ v.toInt ≤ 63)) := by
    intro t ht
    unfold B_X7_onWay_79
    refine zk_iv fun x ex => ?_
    refine zk_iv fun y ey => ?_
    have gy : y.toInt = a5.toInt - 1 := by rw [ey, ti_add (by omega) (by omega), lo1]; omega
    refine zk_imp (hk (a1, a3, x, y) S trivial (by show y.toInt.toNat < a5.toInt.toNat; omega)) (fun v U q => ⟨q.1, fun h => q.2 ?_⟩)
    have h2 := ht h
    dsimp only
    rw [ex]
    omega
  refine zk_le (fun d => J _ (fun h => ?_)) (fun d => J _ (fun h => ?_))
  · have h9 := hd h.1
    rw [← e8] at h9
    rw [ti_add (by omega) (by omega)]
    omega
  · have h9 := hd h.1
    rw [← e8] at h9
    rw [ti_add (by omega) (by omega)]
    omega
theorem t7_w14 (z : Int32 × Int32 × Int32 × Int32) (S : fS) : zk (lp (B_X7_onWay_14) fuel z S) (fun v T => S = T ∧ (0 ≤ z.1.toInt ∧ z.1.toInt ≤ 63 ∧ 0 ≤ z.2.1.toInt ∧ z.2.1.toInt ≤ 7 ∧ 0 ≤ z.2.2.1.toInt ∧ z.2.2.1.toInt ≤ 7 → 0 ≤ v.toInt ∧ v.toInt ≤ 63)) := by
  have l0 : (0 : Int32).toInt = 0 := by decide
  have l1 : (1 : Int32).toInt = 1 := by decide
  have lm1 : (-1 : Int32).toInt = -1 := by decide
  have lo1 : (Int32.ofInt (-1)).toInt = -1 := by decide
  have l8 : (8 : Int32).toInt = 8 := by decide
  refine zk_lp (fun _ _ => True) (fun z S => z.2.2.2.toInt.toNat) (fun z S (v : Int32) T => S = T ∧ (0 ≤ z.1.toInt ∧ z.1.toInt ≤ 63 ∧ 0 ≤ z.2.1.toInt ∧ z.2.1.toInt ≤ 7 ∧ 0 ≤ z.2.2.1.toInt ∧ z.2.2.1.toInt ≤ 7 → 0 ≤ v.toInt ∧ v.toInt ≤ 63)) ?_ z S trivial (by have := ti_bd z.2.2.2; show z.2.2.2.toInt.toNat < 4294967296; omega)
  intro k z S _ hk
  obtain ⟨a1, a3, a4, a5⟩ := z
  dsimp only
  have b5 := ti_bd a5
  have F := t7_w49 (a1, a3, a4, a5) S
  have hd : 0 ≤ a1.toInt → (a1 / 8).toInt = a1.toInt / 8 := fun h => by rw [ti_dv h (by omega), l8]
  have hm8 : 0 ≤ a1.toInt → (a1 / 8 * 8).toInt = a1.toInt / 8 * 8 := fun h => by
    have b1 := ti_bd a1
    have h9 := hd h
    rw [ti_mul (by rw [h9, l8]; omega) (by rw [h9, l8]; omega), h9, l8]
  have hm : 0 ≤ a1.toInt → (a1 - a1 / 8 * 8).toInt = a1.toInt - a1.toInt / 8 * 8 := fun h => by
    have b1 := ti_bd a1
    have h9 := hm8 h
    rw [ti_sub (by rw [h9]; omega) (by rw [h9]; omega), h9]
  unfold B_X7_onWay_14
  dsimp only
  refine zk_le (fun _ => F) (fun c => ?_)
  refine zk_iv fun x8 e8 => ?_
  refine zk_eq (fun _ => F) (fun c2 => ?_)
  refine zk_ivq (x := x8) e8.symm ?_
  have J : ∀ t : Int32, (0 ≤ a1.toInt ∧ a1.toInt ≤ 63 ∧ 0 ≤ a3.toInt ∧ a3.toInt ≤ 7 ∧ 0 ≤ a4.toInt ∧ a4.toInt ≤ 7 → (a3 + t).toInt = a3.toInt + t.toInt ∧ 0 ≤ a3.toInt + t.toInt ∧ a3.toInt + t.toInt ≤ 7) → zk (B_X7_onWay_41 k a1 a4 a5 t a3 S) (fun v T => S = T ∧ (0 ≤ a1.toInt ∧ a1.toInt ≤ 63 ∧ 0 ≤ a3.toInt ∧ a3.toInt ≤ 7 ∧ 0 ≤ a4.toInt ∧ a4.toInt ≤ 7 → 0 ≤ v.toInt ∧ v.toInt ≤ 63)) := by
    intro t ht
    unfold B_X7_onWay_41
    refine zk_iv fun x ex => ?_
    refine zk_iv fun y ey => ?_
    have gy : y.toInt = a5.toInt - 1 := by rw [ey, ti_add (by omega) (by omega), lo1]; omega
    refine zk_imp (hk (a1, x, a4, y) S trivial (by show y.toInt.toNat < a5.toInt.toNat; omega)) (fun v U q => ⟨q.1, fun h => q.2 ?_⟩)
    have h2 := ht h
    dsimp only
    rw [ex]
    omega
  refine zk_le (fun d => J _ (fun h => ?_)) (fun d => J _ (fun h => ?_))
  · have h9 := hm h.1
    rw [← e8] at h9
    rw [ti_add (by omega) (by omega)]
    omega
  · have h9 := hm h.1
    rw [← e8] at h9
    rw [ti_add (by omega) (by omega)]
    omega
theorem t7_onWay (p0 p1 p2 : Int32) (S : fS) : zk (F_X7_onWay p0 p1 p2 S) (fun v T => S = T ∧ (0 ≤ p0.toInt ∧ p0.toInt ≤ 63 ∧ 0 ≤ p1.toInt ∧ p1.toInt ≤ 63 → 0 ≤ v.toInt ∧ v.toInt ≤ 63)) := by
  have l8 : (8 : Int32).toInt = 8 := by decide
  unfold F_X7_onWay
  refine zk_iv fun x e => ?_
  refine zk_iv fun y ey => ?_
  refine zk_imp (t7_w14 (p1, x, y, p2) S) (fun v T q => ⟨q.1, fun h => q.2 ?_⟩)
  dsimp only
  have hd : (p0 / 8).toInt = p0.toInt / 8 := by rw [ti_dv (by omega) (by omega), l8]
  have hm8 : (p0 / 8 * 8).toInt = p0.toInt / 8 * 8 := by rw [ti_mul (by rw [hd, l8]; omega) (by rw [hd, l8]; omega), hd, l8]
  have hm : (p0 - p0 / 8 * 8).toInt = p0.toInt - p0.toInt / 8 * 8 := by rw [ti_sub (by rw [hm8]; omega) (by rw [hm8]; omega), hm8]
  rw [e, ey, hm, hd]
  omega
def JQ (p3 p4 v : Int32) (T : fS) : Prop := (v.toInt = 1 ∨ v.toInt = 2 ∨ v.toInt = 3 ∨ v.toInt = 5) ∧ (v.toInt = 3 → 0 ≤ p3.toInt ∧ p3.toInt ≤ 63 ∧ 0 ≤ p4.toInt ∧ p4.toInt ≤ 63 → 0 ≤ (ge T 40 0 42).toInt ∧ (ge T 40 0 42).toInt ≤ 63)
theorem t7_j37 (z : Int32 × Int32 × Int32 × Int32 × Int32 × Int32 × Int32 × Int32) (S : fS) (RS : RI S) (hz : 0 ≤ z.2.2.2.2.2.2.2.toInt) : zk (lp (B_X7_judged_37) fuel z S) (fun v T => RI T ∧ Fr 65536 S T ∧ JQ z.2.2.1 z.2.2.2.1 v T) := by
  have l0 : (0 : Int32).toInt = 0 := by decide
  have l1 : (1 : Int32).toInt = 1 := by decide
  refine zk_lp (fun z S => RI S ∧ 0 ≤ z.2.2.2.2.2.2.2.toInt) (fun z S => (2147483648 - z.2.2.2.2.2.2.2.toInt).toNat) (fun z S (v : Int32) T => RI T ∧ Fr 65536 S T ∧ JQ z.2.2.1 z.2.2.2.1 v T) ?_ z S ⟨RS, hz⟩ (by show (2147483648 - z.2.2.2.2.2.2.2.toInt).toNat < 4294967296; omega)
  clear RS hz
  intro k z S hI hk
  obtain ⟨a1, a2, a3, a4, a5, a6, a7, a8⟩ := z
  obtain ⟨RS, hz⟩ := hI
  dsimp only at hz ⊢
  have b8 := ti_bd a8
  have b7 := ti_bd a7
  have J : (a8.toInt < a7.toInt ∨ a8.toInt = 0) → zk (B_X7_judged_49 k a1 a2 a3 a4 a5 a6 a7 a8 S) (fun v T => RI T ∧ Fr 65536 S T ∧ JQ a3 a4 v T) := by
    intro h
    unfold B_X7_judged_49
    refine zk_iv fun x1 _ => ?_
    refine zk_iv fun x2 _ => ?_
    refine zk_iv fun x3 _ => ?_
    refine zk_lt (fun _ => ?_) (fun _ => ?_)
    · refine zk_eq (fun _ => zk_some ⟨RS, Fr.rf, Or.inl rfl, fun q => absurd q (by decide)⟩) (fun _ => ?_)
      refine zk_lt (fun _ => ?_) (fun _ => zk_some ⟨RS, Fr.rf, Or.inr (Or.inl rfl), fun q => absurd q (by decide)⟩)
      refine zk_iv fun x7 _ => ?_
      refine zk_bd (t7_onWay a3 a4 x7 S) (fun v T q => ?_)
      obtain ⟨rfl, hv⟩ := q
      refine zk_sv fun S11 E => zk_some ⟨by rw [E]; exact RS.wf rfl, by rw [E]; exact Fr.rf.wr (k := 16) rfl rfl, Or.inr (Or.inr (Or.inl rfl)), fun _ q => ?_⟩
      have e : ge S11 40 0 42 = v := by rw [E]; exact ge_pus
      rw [e]
      exact hv q
    · refine zk_iv fun y ey => ?_
      have gy : y.toInt = a8.toInt + 1 := by rw [ey]; exact ti_inc (by omega)
      exact hk (a1, a2, a3, a4, a5, a6, a7, y) S ⟨RS, by dsimp only; omega⟩ (by show (2147483648 - y.toInt).toNat < (2147483648 - a8.toInt).toNat; omega)
  unfold B_X7_judged_37
  dsimp only
  exact zk_lt (fun c => J (Or.inl c)) (fun _ => zk_eq (fun c => J (Or.inr c)) (fun _ => zk_some ⟨RS, Fr.rf, Or.inr (Or.inr (Or.inr rfl)), fun q => absurd q (by decide)⟩))
theorem t7_judged (p1 p2 p3 p4 p5 p6 : Int32) (S : fS) (RS : RI S) : zk (F_X7_judged p1 p2 p3 p4 p5 p6 S) (fun v T => RI T ∧ Fr 65536 S T ∧ JQ p3 p4 v T) := by
  unfold F_X7_judged
  refine zk_iv fun _ _ => ?_
  refine zk_iv fun _ _ => ?_
  refine zk_bd (s_F_X7_apart _ _ S RS) (fun v T q => ?_)
  obtain ⟨rfl, _⟩ := q
  refine zk_iv fun _ _ => ?_
  refine zk_iv fun _ _ => ?_
  refine zk_iv fun _ _ => ?_
  refine zk_bd (s_F_X7_apart _ _ S RS) (fun v T q => ?_)
  obtain ⟨rfl, _⟩ := q
  refine zk_iv fun x26 _ => ?_
  refine zk_sv fun S27 E => ?_
  have R : RI S27 := by rw [E]; exact RS.wf rfl
  have F : Fr 65536 S S27 := by rw [E]; exact Fr.rf.wr (k := 16) rfl rfl
  exact zk_imp (t7_j37 (p1, p2, p3, p4, p5, p6, x26, 0) S27 R (by dsimp only; decide)) (fun v T q => ⟨q.1, F.tr q.2.1, q.2.2⟩)
def WB (S : fS) (v : Int32) (T : fS) : Prop := RI T ∧ Fr 17179934720 S T ∧ GR T ∧ 0 ≤ v.toInt ∧ v.toInt ≤ 5 ∧ (v.toInt = 3 → 0 ≤ (ge T 40 0 42).toInt ∧ (ge T 40 0 42).toInt ≤ 63)
theorem t7_wouldBe (p1 p2 p3 : Int32) (S : fS) (RS : RI S) (hp : 0 ≤ p1.toInt ∧ p1.toInt ≤ 63) : zk (F_X7_wouldBe p1 p2 p3 S) (fun v T => WB S v T) := by
  have l5 : (5 : Int32).toInt = 5 := by decide
  unfold F_X7_wouldBe
  refine zk_bd (t7_grips p1 S RS hp) (fun _ T q => ?_)
  obtain ⟨RT, FT, G, ho⟩ := q
  refine zk_iv fun x4 e4 => ?_
  rw [← e4] at ho
  refine zk_eq (fun _ => ?_) (fun c => ?_)
  · refine zk_iv fun x7 _ => ?_
    refine zk_iv fun x8 _ => ?_
    refine zk_iv fun x9 e9 => ?_
    have g9 : 0 ≤ x9.toInt ∧ x9.toInt ≤ 63 := by rw [e9]; exact RT 40 0 30
    refine zk_bd (t7_judged x7 x8 p1 x9 p2 p3 T RT) (fun v U q => ?_)
    obtain ⟨RU, FU, h1, h2⟩ := q
    exact zk_some ⟨RU, FT.tr (FU.sub (by decide)), G.fr FU rfl rfl, by omega, by omega, fun z => h2 z ⟨hp.1, hp.2, g9.1, g9.2⟩⟩
  · refine zk_ivq (x := x4) e4.symm ?_
    exact zk_some ⟨RT, FT, G, by omega, by omega, fun z => by omega⟩
theorem s_F_X7_wouldBe (p1 p2 p3 : Int32) (S0 : fS) (RS0 : RI S0) (hp : 0 ≤ p1.toInt ∧ p1.toInt ≤ 63) : zk (F_X7_wouldBe p1 p2 p3 S0) (fun v T => RI T ∧ Fr 17179934720 S0 T ∧ 0 ≤ v.toInt ∧ v.toInt ≤ 5) := zk_imp (t7_wouldBe p1 p2 p3 S0 RS0 hp) (fun v T q => ⟨q.1, q.2.1, q.2.2.2.1, q.2.2.2.2.1⟩)
theorem s_F_X7_judged (p1 p2 p3 p4 p5 p6 : Int32) (S0 : fS) (RS0 : RI S0) : zk (F_X7_judged p1 p2 p3 p4 p5 p6 S0) (fun v T => RI T ∧ Fr 65536 S0 T ∧ True) := zk_imp (t7_judged p1 p2 p3 p4 p5 p6 S0 RS0) (fun v T q => ⟨q.1, q.2.1, trivial⟩)
