/-! the pure part: the reference, hands -/
theorem shr_n {a c : Int32} {n : Nat} (hc : (c.toBitVec.smod 32).toNat = n) : (a >>> c).toInt = a.toInt / ((2 ^ n : Nat) : Int) := by
  have h : (a >>> c).toInt = (a.toBitVec.sshiftRight (c.toBitVec.smod 32).toNat).toInt := rfl
  rw [h, hc, BitVec.toInt_sshiftRight, Int.shiftRight_eq_div_pow]
  rfl
theorem and_7 {x : Int32} (h : 0 ≤ x.toInt) : (x &&& 7).toInt = x.toInt % 8 := by
  have h1 : (x &&& 7).toBitVec.toNat = x.toBitVec.toNat % 8 := by
    rw [Int32.toBitVec_and, BitVec.toNat_and]
    exact Nat.and_two_pow_sub_one_eq_mod _ 3
  have h0 : x.toInt = x.toBitVec.toInt := rfl
  have h2 : (x &&& 7).toInt = (x &&& 7).toBitVec.toInt := rfl
  have h3 : x.toBitVec.toNat < 4294967296 := x.toBitVec.isLt
  have h4 : x.toInt = (x.toBitVec.toNat : Int) := by
    rw [h0] at h ⊢
    rw [BitVec.toInt_eq_toNat_cond] at h ⊢
    by_cases q : 2 * x.toBitVec.toNat < 2 ^ 32
    · rw [if_pos q]
    · rw [if_neg q] at h
      exact absurd h (by omega)
  rw [h2, BitVec.toInt_eq_toNat_of_lt (by omega), h1, h4]
  omega
/-! the weights that a number tells -/
def dg (a k : Int32) : Int32 := (a >>> ((3 * (8 - k)) &&& 31)) &&& 7
def dgs (a : Int32) : Nat → Int
  | 0 => 0
  | k + 1 => dgs a k + (dg a (Int32.ofNat k)).toInt
theorem dg_n {a k : Int32} {n : Nat} (h : 0 ≤ a.toInt) (hc : (((3 * (8 - k)) &&& 31 : Int32).toBitVec.smod 32).toNat = n) : (dg a k).toInt = a.toInt / ((2 ^ n : Nat) : Int) % 8 := by
  have h1 := shr_n (a := a) hc
  unfold dg
  rw [and_7 (by rw [h1]; exact Int.ediv_nonneg h (Int.natCast_nonneg _)), h1]
theorem dg_bd (a k : Int32) : 0 ≤ (dg a k).toInt ∧ (dg a k).toInt ≤ 7 := ti_and7 _
theorem dgs_pos {a : Int32} (h : 1 ≤ a.toInt) (h2 : a.toInt ≤ 134217727) : 0 < dgs a 9 := by
  have e0 := dg_n (a := a) (k := Int32.ofNat 0) (n := 24) (by omega) (by decide)
  have e1 := dg_n (a := a) (k := Int32.ofNat 1) (n := 21) (by omega) (by decide)
  have e2 := dg_n (a := a) (k := Int32.ofNat 2) (n := 18) (by omega) (by decide)
  have e3 := dg_n (a := a) (k := Int32.ofNat 3) (n := 15) (by omega) (by decide)
  have e4 := dg_n (a := a) (k := Int32.ofNat 4) (n := 12) (by omega) (by decide)
  have e5 := dg_n (a := a) (k := Int32.ofNat 5) (n := 9) (by omega) (by decide)
  have e6 := dg_n (a := a) (k := Int32.ofNat 6) (n := 6) (by omega) (by decide)
  have e7 := dg_n (a := a) (k := Int32.ofNat 7) (n := 3) (by omega) (by decide)
  have e8 := dg_n (a := a) (k := Int32.ofNat 8) (n := 0) (by omega) (by decide)
  have b0 := dg_bd a (Int32.ofNat 0)
  have b1 := dg_bd a (Int32.ofNat 1)
  have b2 := dg_bd a (Int32.ofNat 2)
  have b3 := dg_bd a (Int32.ofNat 3)
  have b4 := dg_bd a (Int32.ofNat 4)
  have b5 := dg_bd a (Int32.ofNat 5)
  have b6 := dg_bd a (Int32.ofNat 6)
  have b7 := dg_bd a (Int32.ofNat 7)
  have b8 := dg_bd a (Int32.ofNat 8)
  have s : dgs a 9 = 0 + (dg a (Int32.ofNat 0)).toInt + (dg a (Int32.ofNat 1)).toInt + (dg a (Int32.ofNat 2)).toInt + (dg a (Int32.ofNat 3)).toInt + (dg a (Int32.ofNat 4)).toInt + (dg a (Int32.ofNat 5)).toInt + (dg a (Int32.ofNat 6)).toInt + (dg a (Int32.ofNat 7)).toInt + (dg a (Int32.ofNat 8)).toInt := rfl
  rw [s]
  by_cases z : (dg a (Int32.ofNat 0)).toInt = 0 ∧ (dg a (Int32.ofNat 1)).toInt = 0 ∧ (dg a (Int32.ofNat 2)).toInt = 0 ∧ (dg a (Int32.ofNat 3)).toInt = 0 ∧ (dg a (Int32.ofNat 4)).toInt = 0 ∧ (dg a (Int32.ofNat 5)).toInt = 0 ∧ (dg a (Int32.ofNat 6)).toInt = 0 ∧ (dg a (Int32.ofNat 7)).toInt = 0 ∧ (dg a (Int32.ofNat 8)).toInt = 0
  · obtain ⟨z0, z1, z2, z3, z4, z5, z6, z7, z8⟩ := z
    rw [z0] at e0; rw [z1] at e1; rw [z2] at e2; rw [z3] at e3; rw [z4] at e4; rw [z5] at e5; rw [z6] at e6; rw [z7] at e7; rw [z8] at e8
    clear b0 b1 b2 b3 b4 b5 b6 b7 b8 s z0 z1 z2 z3 z4 z5 z6 z7 z8
    have c0 : a.toInt < 16777216 := by clear e1 e2 e3 e4 e5 e6 e7 e8; omega
    have c1 : a.toInt < 2097152 := by clear e0 e2 e3 e4 e5 e6 e7 e8; omega
    have c2 : a.toInt < 262144 := by clear e0 e1 e3 e4 e5 e6 e7 e8; omega
    have c3 : a.toInt < 32768 := by clear e0 e1 e2 e4 e5 e6 e7 e8; omega
    have c4 : a.toInt < 4096 := by clear e0 e1 e2 e3 e5 e6 e7 e8; omega
    have c5 : a.toInt < 512 := by clear e0 e1 e2 e3 e4 e6 e7 e8; omega
    have c6 : a.toInt < 64 := by clear e0 e1 e2 e3 e4 e5 e7 e8; omega
    have c7 : a.toInt < 8 := by clear e0 e1 e2 e3 e4 e5 e6 e8; omega
    clear e0 e1 e2 e3 e4 e5 e6 e7
    omega
  · clear e0 e1 e2 e3 e4 e5 e6 e7 e8 s h h2
    omega
section HND
variable {S T U : fS}
theorem hsum_bd (R : RI S) (h : Nat) : ∀ k : Nat, 0 ≤ hsum S h k ∧ hsum S h k ≤ 7 * (k : Int)
  | 0 => ⟨Int.le_refl _, Int.le_refl _⟩
  | k + 1 => by
    have a := hsum_bd R h k
    have b : 0 ≤ (ge S 59 h k).toInt ∧ (ge S 59 h k).toInt ≤ 7 := R 59 h k
    have e : hsum S h (k + 1) = hsum S h k + (ge S 59 h k).toInt := rfl
    rw [e]
    omega
theorem hsum_dg {a : Int32} {n : Nat} : ∀ m : Nat, (∀ j : Nat, j < m → ge S 59 n j = dg a (Int32.ofNat j)) → hsum S n m = dgs a m
  | 0, _ => rfl
  | m + 1, h => by
    show hsum S n m + (ge S 59 n m).toInt = dgs a m + (dg a (Int32.ofNat m)).toInt
    rw [hsum_dg m (fun j q => h j (by omega)), h m (by omega)]
theorem t7_weightsOf (p1 : Int32) (S : fS) (RS : RI S) (hp : 0 ≤ p1.toInt ∧ p1.toInt ≤ 5) : zk (F_X7_weightsOf p1 S) (fun v T => S = T ∧ v.toInt = hsum S p1.toNatClampNeg 9) := by
  have l9 : (9 : Int32).toInt = 9 := by decide
  unfold F_X7_weightsOf
  refine zk_lp (fun (z : Int32 × Int32 × Int32) T => S = T ∧ z.1 = p1 ∧ 0 ≤ z.2.2.toInt ∧ z.2.2.toInt ≤ 9 ∧ z.2.1.toInt = hsum S p1.toNatClampNeg z.2.2.toNatClampNeg) (fun (z : Int32 × Int32 × Int32) _ => (9 - z.2.2.toInt).toNat) (fun _ _ (v : Int32) T => S = T ∧ v.toInt = hsum S p1.toNatClampNeg 9) ?_ (p1, 0, 0) S ⟨rfl, rfl, by show (0 : Int) ≤ (0 : Int32).toInt; decide, by show (0 : Int32).toInt ≤ 9; decide, rfl⟩ (by show (9 - (0 : Int32).toInt).toNat < 4294967296; decide)
  intro k z T hI hk
  obtain ⟨a1, a2, a3⟩ := z
  obtain ⟨rfl, h1, h2, h3, h4⟩ := hI
  dsimp only at h1 h2 h3 h4
  subst h1
  have hc := cn_eq h2
  have hb := hsum_bd RS a1.toNatClampNeg a3.toNatClampNeg
  unfold B_X7_weightsOf_4
  dsimp only
  refine zk_le (fun c => zk_some ⟨rfl, by rw [h4, show a3.toNatClampNeg = 9 from by omega]⟩) (fun c => ?_)
  refine zk_gd ⟨by omega, by omega⟩ ?_
  refine zk_gd ⟨by omega, by omega⟩ ?_
  refine zk_iv fun x e => ?_
  have gx : 0 ≤ x.toInt ∧ x.toInt ≤ 7 := by rw [e]; exact RS 59 _ _
  refine zk_iv fun y ey => ?_
  have gy : y.toInt = a2.toInt + x.toInt := by rw [ey, ti_add (by omega) (by omega)]
  refine zk_iv fun w ew => ?_
  have gw : w.toInt = a3.toInt + 1 := by rw [ew]; exact ti_inc (by omega)
  have hw := cn_eq (x := w) (by omega)
  refine hk (a1, y, w) S ⟨rfl, rfl, by dsimp only; omega, by dsimp only; omega, ?_⟩ (by show (9 - w.toInt).toNat < (9 - a3.toInt).toNat; omega)
  dsimp only
  rw [show w.toNatClampNeg = a3.toNatClampNeg + 1 from by omega, gy, h4, e]
  rfl
/-! a hand is told -/
theorem t7_h44 (a1 : Int32) (S : fS) (RS : RI S) (hn : (ge S 40 0 48).toInt ≤ 5) : zk (lp (B_X7_hand_44) fuel (a1, 0) S) (fun v T => RI T ∧ Fr 327680 S T ∧ v = ge S 40 0 48 ∧ ge T 40 0 0 = ge S 40 0 0 ∧ (ge T 40 0 48).toInt = (ge S 40 0 48).toInt + 1 ∧ (∀ h k : Nat, h ≠ (ge S 40 0 48).toNatClampNeg → ge T 59 h k = ge S 59 h k) ∧ ∀ j : Nat, j < 9 → ge T 59 (ge S 40 0 48).toNatClampNeg j = dg a1 (Int32.ofNat j)) := by
  have l1 : (1 : Int32).toInt = 1 := by decide
  have l3 : (3 : Int32).toInt = 3 := by decide
  have l8 : (8 : Int32).toInt = 8 := by decide
  have l9 : (9 : Int32).toInt = 9 := by decide
  have z0 : ∀ j : Nat, (j : Int) < (0 : Int32).toInt → False := fun j q => by
    have l0 : (0 : Int32).toInt = 0 := by decide
    omega
  have gn : 0 ≤ (ge S 40 0 48).toInt := (RS 40 0 48).1
  have hnc := cn_eq gn
  refine zk_lp (fun (z : Int32 × Int32) T => z.1 = a1 ∧ 0 ≤ z.2.toInt ∧ z.2.toInt ≤ 9 ∧ RI T ∧ Fr 327680 S T ∧ ge T 40 0 48 = ge S 40 0 48 ∧ ge T 40 0 0 = ge S 40 0 0 ∧ (∀ h k : Nat, h ≠ (ge S 40 0 48).toNatClampNeg → ge T 59 h k = ge S 59 h k) ∧ ∀ j : Nat, (j : Int) < z.2.toInt → ge T 59 (ge S 40 0 48).toNatClampNeg j = dg a1 (Int32.ofNat j)) (fun (z : Int32 × Int32) _ => (9 - z.2.toInt).toNat) (fun _ _ (v : Int32) T => RI T ∧ Fr 327680 S T ∧ v = ge S 40 0 48 ∧ ge T 40 0 0 = ge S 40 0 0 ∧ (ge T 40 0 48).toInt = (ge S 40 0 48).toInt + 1 ∧ (∀ h k : Nat, h ≠ (ge S 40 0 48).toNatClampNeg → ge T 59 h k = ge S 59 h k) ∧ ∀ j : Nat, j < 9 → ge T 59 (ge S 40 0 48).toNatClampNeg j = dg a1 (Int32.ofNat j)) ?_ (a1, 0) S ⟨rfl, by show (0 : Int) ≤ (0 : Int32).toInt; decide, by show (0 : Int32).toInt ≤ 9; decide, RS, Fr.rf, rfl, rfl, fun _ _ _ => rfl, fun j q => (z0 j q).elim⟩ (by show (9 - (0 : Int32).toInt).toNat < 4294967296; decide)
  intro k z T hI hk
  obtain ⟨b1, a2⟩ := z
  obtain ⟨h1, h2, h3, RT, FT, e48, e0, e59, ed⟩ := hI
  dsimp only at h1 h2 h3 ed
  subst h1
  have hc := cn_eq h2
  unfold B_X7_hand_44
  dsimp only
  refine zk_le (fun c => ?_) (fun c => ?_)
  · refine zk_iv fun x e => ?_
    rw [e48] at e
    refine zk_iv fun y ey => ?_
    have gy : y.toInt = x.toInt + 1 := by rw [ey, ti_add (by rw [e]; omega) (by rw [e]; omega), l1]
    refine zk_sv fun S4 E4 => ?_
    have e4 : ge S4 40 0 48 = y := by rw [E4]; exact ge_pus
    refine zk_ivq (x := y) e4 ?_
    refine zk_iv fun w ew => ?_
    have R4 : RI S4 := by rw [E4]; exact RT.wr (show (0 : Int) ≤ y.toInt by rw [gy, e]; omega) (show y.toInt ≤ 6 by rw [gy, e]; omega)
    have F4 : Fr 327680 S S4 := by rw [E4]; exact FT.wr (k := 18) rfl rfl
    refine zk_some ⟨R4, F4, of_toInt ?_, by rw [E4, ge_puj (by decide)]; exact e0, by rw [e4, gy, e], fun h j hh => by rw [E4, ge_pua (by decide)]; exact e59 h j hh, fun j hj => by rw [E4, ge_pua (by decide)]; exact ed j (by omega)⟩
    rw [ew, ti_sub (by rw [gy, e]; omega) (by rw [gy, e]; omega), l1, gy, e]
    omega
  · refine zk_iv fun x e => ?_
    rw [e48] at e
    refine zk_gd (by rw [e]; exact ⟨by omega, by omega⟩) ?_
    refine zk_iv fun x9 e9 => ?_
    refine zk_iv fun x10 e10 => ?_
    refine zk_iv fun x11 e11 => ?_
    refine zk_iv fun x12 e12 => ?_
    have ex : x12 = dg b1 a2 := by rw [e12, e11, e10, e9]; rfl
    have g12 : 0 ≤ x12.toInt ∧ x12.toInt ≤ 7 := by rw [ex]; exact dg_bd _ _
    refine zk_gd ⟨by omega, by omega⟩ ?_
    refine zk_sv fun S14 E14 => ?_
    refine zk_iv fun y ey => ?_
    have gy : y.toInt = a2.toInt + 1 := by rw [ey]; exact ti_inc (by omega)
    have R14 : RI S14 := by rw [E14]; exact RT.wr (show (0 : Int) ≤ x12.toInt by omega) (show x12.toInt ≤ 7 by omega)
    have F14 : Fr 327680 S S14 := by rw [E14]; exact FT.wr (k := 18) rfl rfl
    rw [e] at E14
    refine hk (b1, y) S14 ⟨rfl, by dsimp only; omega, by dsimp only; omega, R14, F14, by rw [E14, ge_pua (by decide)]; exact e48, by rw [E14, ge_pua (by decide)]; exact e0, fun h j hh => by rw [E14, ge_pui hh]; exact e59 h j hh, fun j hj => ?_⟩ (by show (9 - y.toInt).toNat < (9 - a2.toInt).toNat; omega)
    dsimp only at hj
    rw [E14, ge_pu]
    by_cases z : j = a2.toNatClampNeg
    · rw [if_pos ⟨rfl, rfl, z⟩, ex]
      have e3 : a2 = Int32.ofNat j := of_toInt (by rw [show (Int32.ofNat j).toInt = (j : Int) from nI_toInt (by omega)]; omega)
      rw [← e3]
    · rw [if_neg (fun q => z q.2.2)]
      exact ed j (by omega)
theorem bad1 {p1 p2 : Int32} (hp : ¬ p2 = 0) (h0 : ge S 40 0 0 = 0) : zk (F_X7_bad p1 p2 S) (fun v T => (p1 = 0 ∧ v = 0 ∧ T = S) ∨ (¬ p1 = 0 ∧ v = 1 ∧ T = pu S 40 0 0 p2)) := by
  unfold F_X7_bad
  refine zk_bb (fun c => ?_) (fun c => ?_)
  · unfold B_X7_bad_16
    exact zk_ivq (x := 0) h0 (zk_bbt rfl (zk_some (Or.inl ⟨c, rfl, rfl⟩)))
  · refine zk_ivq (x := 0) h0 (zk_bbt rfl ?_)
    refine zk_sv fun S6 E => ?_
    unfold B_X7_bad_16
    exact zk_ivq (x := p2) (by rw [E]; exact ge_pus) (zk_bbf hp (zk_some (Or.inr ⟨c, rfl, E⟩)))
/-! what hand answers -/
def HQ7 (S T : fS) (p1 v : Int32) : Prop := ((p1.toInt < 1 ∨ 134217727 < p1.toInt) ∧ ge T 40 0 0 = 1 ∧ (ge T 40 0 48).toInt = (ge S 40 0 48).toInt ∧ ∀ h k : Nat, ge T 59 h k = ge S 59 h k) ∨ ((1 ≤ p1.toInt ∧ p1.toInt ≤ 134217727) ∧ ge T 40 0 0 = 0 ∧ (((ge S 40 0 48).toInt = 6 ∧ v.toInt = -1 ∧ (ge T 40 0 48).toInt = 6 ∧ ∀ h k : Nat, ge T 59 h k = ge S 59 h k) ∨ ((ge S 40 0 48).toInt ≤ 5 ∧ v = ge S 40 0 48 ∧ (ge T 40 0 48).toInt = (ge S 40 0 48).toInt + 1 ∧ (∀ h k : Nat, h ≠ (ge S 40 0 48).toNatClampNeg → ge T 59 h k = ge S 59 h k) ∧ ∀ j : Nat, j < 9 → ge T 59 (ge S 40 0 48).toNatClampNeg j = dg p1 (Int32.ofNat j))))
theorem h7_hand (p1 : Int32) (RS : RI S) (h : HI S) : zk (F_X7_hand p1 S) (fun v T => RI T ∧ Fr 327680 S T ∧ HI T ∧ HQ7 S T p1 v) := by
  have l0 : (0 : Int32).toInt = 0 := by decide
  have l1 : (1 : Int32).toInt = 1 := by decide
  have l6 : (6 : Int32).toInt = 6 := by decide
  have lm1 : (-1 : Int32).toInt = -1 := by decide
  have lm : (134217727 : Int32).toInt = 134217727 := by decide
  unfold F_X7_hand
  refine zk_sv fun S1 E1 => ?_
  have R1 : RI S1 := by rw [E1]; exact RS.wf rfl
  have F1 : Fr 327680 S S1 := by rw [E1]; exact Fr.rf.wr (k := 16) rfl rfl
  have H1 : HI S1 := by rw [E1]; exact h.wr (k := 16) rfl rfl
  have z1 : ge S1 40 0 0 = 0 := by rw [E1]; exact ge_pus
  have n48 : ge S1 40 0 48 = ge S 40 0 48 := by rw [E1]; exact ge_puj (by decide)
  have n59 : ∀ h k : Nat, ge S1 59 h k = ge S 59 h k := fun h k => by rw [E1]; exact ge_pua (by decide)
  refine zk_bd (s_F_X7_in _ _ _ S1 R1) (fun v T q => ?_)
  obtain ⟨rfl, hv⟩ := q
  refine zk_eq (fun c => ?_) (fun c => ?_)
  · unfold B_X7_hand_22
    refine zk_bd (bad1 (by decide) z1) (fun v2 T q => ?_)
    rcases q with ⟨q, _⟩ | ⟨_, rfl, E2⟩
    · exact absurd q (by decide)
    · refine zk_bbf (by decide) (zk_some ⟨by rw [E2]; exact R1.wf rfl, by rw [E2]; exact F1.wr (k := 16) rfl rfl, by rw [E2]; exact H1.wr (k := 16) rfl rfl, Or.inl ⟨by omega, by rw [E2]; exact ge_pus, by rw [E2, ge_puj (by decide), n48], fun h k => by rw [E2, ge_pua (by decide)]; exact n59 h k⟩⟩)
  · unfold B_X7_hand_22
    refine zk_bd (bad1 (by decide) z1) (fun v2 T q => ?_)
    rcases q with ⟨_, rfl, E2⟩ | ⟨q, _⟩
    · have E3 := E2.symm
      subst E3
      refine zk_bbt rfl ?_
      refine zk_iv fun x e => ?_
      have g : 0 ≤ x.toInt ∧ x.toInt ≤ 6 := by rw [e]; exact R1 40 0 48
      have hr : 1 ≤ p1.toInt ∧ p1.toInt ≤ 134217727 := by omega
      refine zk_eq (fun c6 => zk_some ⟨R1, F1, H1, Or.inr ⟨hr, z1, Or.inl ⟨by rw [← n48, ← e]; omega, lm1, by rw [← e]; omega, n59⟩⟩⟩) (fun c2 => ?_)
      refine zk_imp (t7_h44 p1 S1 R1 (by rw [← e]; omega)) (fun v3 T q => ?_)
      obtain ⟨RT, FT, ev, e0, en, er, ed⟩ := q
      refine ⟨RT, F1.tr FT, ⟨H1.1.fr FT rfl rfl, fun k q => ?_, fun x q => ?_⟩, Or.inr ⟨hr, by rw [e0]; exact z1, Or.inr ⟨by rw [← n48, ← e]; omega, by rw [ev, n48], by rw [en, n48], fun h k hh => by rw [er h k (by rw [n48]; exact hh)]; exact n59 h k, fun j hj => by rw [← n48]; exact ed j hj⟩⟩⟩
      · have e1 : ge T 40 0 56 = ge S1 40 0 56 := FT.1 40 0 56 rfl
        exact (H1.2.1 k (by rw [← e1]; exact q)).of (fun a i j q => FT.1 a i j (by rcases q with q | q <;> rw [q] <;> rfl))
      · have hnc := cn_eq (x := ge S1 40 0 48) (by rw [← e]; omega)
        by_cases z : x = (ge S1 40 0 48).toNatClampNeg
        · rw [z, hsum_dg 9 ed]
          exact dgs_pos (by omega) (by omega)
        · rw [hsum_of (fun k => er x k z)]
          exact H1.2.2 x (by omega)
    · exact absurd rfl q
/-! what weights answers -/
def WQ7 (S T : fS) (p1 v : Int32) : Prop := ((p1.toInt < 0 ∨ (ge S 40 0 48).toInt ≤ p1.toInt) ∧ ge T 40 0 0 = 1) ∨ ((0 ≤ p1.toInt ∧ p1.toInt < (ge S 40 0 48).toInt) ∧ ge T 40 0 0 = 0 ∧ v.toInt = hsum S p1.toNatClampNeg 9)
theorem h7_weights (p1 : Int32) (RS : RI S) (_ : HI S) : zk (F_X7_weights p1 S) (fun v T => RI T ∧ Fr 65536 S T ∧ WQ7 S T p1 v) := by
  have l0 : (0 : Int32).toInt = 0 := by decide
  have l1 : (1 : Int32).toInt = 1 := by decide
  unfold F_X7_weights
  refine zk_sv fun S1 E1 => ?_
  have R1 : RI S1 := by rw [E1]; exact RS.wf rfl
  have F1 : Fr 65536 S S1 := by rw [E1]; exact Fr.rf.wr (k := 16) rfl rfl
  have z1 : ge S1 40 0 0 = 0 := by rw [E1]; exact ge_pus
  have n48 : ge S1 40 0 48 = ge S 40 0 48 := by rw [E1]; exact ge_puj (by decide)
  have n59 : ∀ h k : Nat, ge S1 59 h k = ge S 59 h k := fun h k => by rw [E1]; exact ge_pua (by decide)
  have g : 0 ≤ (ge S1 40 0 48).toInt ∧ (ge S1 40 0 48).toInt ≤ 6 := R1 40 0 48
  unfold F_X7_isHand
  refine zk_bd (Q1 := fun v T => S1 = T ∧ ((v.toInt = 0 ∧ (p1.toInt < 0 ∨ (ge S1 40 0 48).toInt ≤ p1.toInt)) ∨ (v.toInt = 1 ∧ 0 ≤ p1.toInt ∧ p1.toInt < (ge S1 40 0 48).toInt))) ?_ (fun v T q => ?_)
  · refine zk_iv fun x e => ?_
    refine zk_iv fun y ey => ?_
    have gy : y.toInt = (ge S1 40 0 48).toInt - 1 := by rw [ey, e, ti_sub (by omega) (by omega), l1]
    refine zk_bd (s_F_X7_in _ _ _ S1 R1) (fun v T q => ?_)
    obtain ⟨rfl, hv⟩ := q
    exact zk_gd (z01 (by omega)) (zk_some ⟨rfl, by omega⟩)
  · obtain ⟨rfl, hv⟩ := q
    rw [n48] at hv g
    refine zk_eq (fun c => ?_) (fun c => ?_)
    · unfold B_X7_weights_19
      refine zk_bd (bad1 (by decide) z1) (fun v2 T q => ?_)
      rcases q with ⟨q, _⟩ | ⟨_, rfl, E2⟩
      · exact absurd q (by decide)
      · exact zk_bbf (by decide) (zk_some ⟨by rw [E2]; exact R1.wf rfl, by rw [E2]; exact F1.wr (k := 16) rfl rfl, Or.inl ⟨by omega, by rw [E2]; exact ge_pus⟩⟩)
    · unfold B_X7_weights_19
      refine zk_bd (bad1 (by decide) z1) (fun v2 T q => ?_)
      rcases q with ⟨_, rfl, E2⟩ | ⟨q, _⟩
      · have E3 := E2.symm
        subst E3
        refine zk_bbt rfl ?_
        refine zk_bd (t7_weightsOf p1 S1 R1 ⟨by omega, by omega⟩) (fun v3 T q => ?_)
        obtain ⟨rfl, h3⟩ := q
        exact zk_some ⟨R1, F1, Or.inr ⟨by omega, z1, by rw [h3]; exact hsum_of (fun k => n59 _ k) 9⟩⟩
      · exact absurd rfl q
theorem h7_p73 (a1 a2 d : Int32) (S : fS) (RS : RI S) (h : HI S) (hp : 0 ≤ a1.toInt ∧ a1.toInt ≤ 5 ∧ 0 ≤ a2.toInt ∧ a2.toInt ≤ 63) (hr : (ge S 40 0 46).toInt ≤ 199) (hd : 0 ≤ d.toInt ∧ d.toInt < hsum S a1.toNatClampNeg 9) : zk (lp (B_X7_play_73) fuel (a1, a2, d, 0) S) (fun _ T => RI T ∧ Fr 30662524928 S T ∧ HI T) := by
  have l0 : (0 : Int32).toInt = 0 := by decide
  refine zk_lp (fun (z : Int32 × Int32 × Int32 × Int32) T => S = T ∧ z.1 = a1 ∧ z.2.1 = a2 ∧ 0 ≤ z.2.2.1.toInt ∧ 0 ≤ z.2.2.2.toInt ∧ z.2.2.2.toInt ≤ 8 ∧ hsum S a1.toNatClampNeg z.2.2.2.toNatClampNeg + z.2.2.1.toInt < hsum S a1.toNatClampNeg 9) (fun (z : Int32 × Int32 × Int32 × Int32) _ => (9 - z.2.2.2.toInt).toNat) (fun _ _ (_ : Int32) T => RI T ∧ Fr 30662524928 S T ∧ HI T) ?_ (a1, a2, d, 0) S ⟨rfl, rfl, rfl, hd.1, by show (0 : Int) ≤ (0 : Int32).toInt; decide, by show (0 : Int32).toInt ≤ 8; decide, by show (0 : Int) + d.toInt < _; omega⟩ (by show (9 - (0 : Int32).toInt).toNat < 4294967296; decide)
  intro k z T hI hk
  obtain ⟨b1, b2, a3, a4⟩ := z
  obtain ⟨rfl, h1, h2, h3, h4, h5, h6⟩ := hI
  dsimp only at h1 h2 h3 h4 h5 h6
  subst h1
  subst h2
  have hc := cn_eq h4
  unfold B_X7_play_73
  dsimp only
  refine zk_gd ⟨by omega, by omega⟩ ?_
  refine zk_gd ⟨by omega, by omega⟩ ?_
  refine zk_iv fun x e => ?_
  have gx : 0 ≤ x.toInt ∧ x.toInt ≤ 7 := by rw [e]; exact RS 59 _ _
  refine zk_lt (fun c => ?_) (fun c => ?_)
  · refine zk_bd (s_F_X7_comesTo b2 a4 S RS ⟨by omega, by omega, by omega, by omega⟩) (fun v T q => ?_)
    obtain ⟨rfl, hv⟩ := q
    exact zk_bd (s_F_X7_attemptAt v S RS h ⟨by omega, by omega⟩ hr) (fun v2 T q => zk_some ⟨q.1, q.2.1, q.2.2.1⟩)
  · refine zk_gd ⟨by omega, by omega⟩ ?_
    refine zk_gd ⟨by omega, by omega⟩ ?_
    refine zk_ivq (x := x) e.symm ?_
    refine zk_iv fun y ey => ?_
    have gy : y.toInt = a3.toInt - x.toInt := by rw [ey, ti_sub (by have := ti_bd a3; omega) (by have := ti_bd a3; omega)]
    refine zk_iv fun w ew => ?_
    have gw : w.toInt = a4.toInt + 1 := by rw [ew]; exact ti_inc (by omega)
    have hw := cn_eq (x := w) (by omega)
    have hs : hsum S b1.toNatClampNeg (a4.toNatClampNeg + 1) = hsum S b1.toNatClampNeg a4.toNatClampNeg + (ge S 59 b1.toNatClampNeg a4.toNatClampNeg).toInt := rfl
    rw [← e] at hs
    have h8 : a4.toInt ≤ 7 := by
      by_cases z : a4.toInt ≤ 7
      · exact z
      · have e8 : a4.toNatClampNeg + 1 = 9 := by omega
        rw [e8] at hs
        omega
    refine hk (b1, b2, y, w) S ⟨rfl, rfl, rfl, by dsimp only; omega, by dsimp only; omega, by dsimp only; omega, ?_⟩ (by show (9 - w.toInt).toNat < (9 - a4.toInt).toNat; omega)
    dsimp only
    rw [show w.toNatClampNeg = a4.toNatClampNeg + 1 from by omega, hs]
    omega
theorem h7_play (p1 p2 : Int32) (RS : RI S) (h : HI S) : zk (F_X7_play p1 p2 S) (fun _ T => RI T ∧ Fr 30662524928 S T ∧ HI T) := by
  have l0 : (0 : Int32).toInt = 0 := by decide
  have l200 : (200 : Int32).toInt = 200 := by decide
  unfold F_X7_play
  refine zk_sv fun S1 E1 => ?_
  have R1 : RI S1 := by rw [E1]; exact RS.wf rfl
  have F1 : Fr 30662524928 S S1 := by rw [E1]; exact Fr.rf.wr (k := 16) rfl rfl
  have H1 : HI S1 := by rw [E1]; exact h.wr (k := 16) rfl rfl
  refine zk_bd (s_F_X7_isHand p1 S1 R1) (fun v T q => ?_)
  obtain ⟨rfl, hv⟩ := q
  have J : ∀ t : Int32, (¬ t.toInt = 0 ∨ (0 ≤ p1.toInt ∧ p1.toInt < (ge S1 40 0 48).toInt ∧ p1.toInt ≤ 5)) → zk (B_X7_play_19 p1 p2 t S1) (fun _ T => RI T ∧ Fr 30662524928 S T ∧ HI T) := by
    intro t ht
    unfold B_X7_play_19
    refine zk_bd (s_F_X7_bad t 1 S1 R1 (by decide)) (fun v2 S2 q => ?_)
    obtain ⟨R2, f2, hv2⟩ := q
    have F2 : Fr 30662524928 S S2 := F1.tr (f2.sub (by decide))
    have H2 := H1.fr f2 rfl
    have e48 : ge S2 40 0 48 = ge S1 40 0 48 := f2.1 40 0 48 rfl
    refine zk_eq (fun c => ?_) (fun _ => zk_some ⟨R2, F2, H2⟩)
    refine zk_bd (s_F_X7_isCell p2 S2 R2) (fun v3 T q => ?_)
    obtain ⟨rfl, hv3⟩ := q
    have K : ∀ t : Int32, (¬ t.toInt = 0 ∨ (0 ≤ p2.toInt ∧ p2.toInt ≤ 63)) → zk (B_X7_play_39 p1 p2 t S2) (fun _ T => RI T ∧ Fr 30662524928 S T ∧ HI T) := by
      intro t2 ht2
      unfold B_X7_play_39
      refine zk_bd (s_F_X7_bad t2 2 S2 R2 (by decide)) (fun v4 S4 q => ?_)
      obtain ⟨R4, f4, hv4⟩ := q
      have F4 : Fr 30662524928 S S4 := F2.tr (f4.sub (by decide))
      have H4 := H2.fr f4 rfl
      have e48' : ge S4 40 0 48 = ge S2 40 0 48 := f4.1 40 0 48 rfl
      refine zk_eq (fun c4 => ?_) (fun _ => zk_some ⟨R4, F4, H4⟩)
      refine zk_iv fun x e => ?_
      have g : 0 ≤ x.toInt ∧ x.toInt ≤ 200 := by rw [e]; exact R4 40 0 46
      refine zk_eq (fun _ => zk_some ⟨R4, F4, H4⟩) (fun c5 => ?_)
      have hh : 0 ≤ p1.toInt ∧ p1.toInt < (ge S1 40 0 48).toInt ∧ p1.toInt ≤ 5 := ht.resolve_left (by omega)
      refine zk_bd (t7_weightsOf p1 S4 R4 ⟨hh.1, hh.2.2⟩) (fun v5 T q => ?_)
      obtain ⟨rfl, hv5⟩ := q
      have hc := cn_eq hh.1
      have hpos := H4.2.2 p1.toNatClampNeg (by rw [e48', e48]; omega)
      refine zk_bd (s_F_X7_draw v5 S4 R4 (by omega)) (fun v6 S6 q => ?_)
      obtain ⟨R6, f6, hv6⟩ := q
      have F6 : Fr 30662524928 S S6 := F4.tr (f6.sub (by decide))
      have H6 := H4.fr f6 rfl
      have e46 : ge S6 40 0 46 = x := (f6.1 40 0 46 rfl).trans e.symm
      have hs : hsum S6 p1.toNatClampNeg 9 = hsum S4 p1.toNatClampNeg 9 := hsum_of (fun k => f6.1 59 _ k (by rw [show rgn 59 k = 18 from rfl]; rfl)) 9
      refine zk_imp (h7_p73 p1 p2 v6 S6 R6 H6 ⟨hh.1, hh.2.2, by omega, by omega⟩ (by rw [e46]; omega) ⟨by omega, by rw [hs]; omega⟩) (fun v7 T q => ⟨q.1, F6.tr q.2.1, q.2.2⟩)
    exact zk_eq (fun _ => K _ (Or.inl (by decide))) (fun _ => K _ (Or.inr (by omega)))
  exact zk_eq (fun _ => J _ (Or.inl (by decide))) (fun _ => J _ (Or.inr (by omega)))
/-! the class: weights are told by the same digits -/
theorem dgs_bd (a : Int32) : ∀ k : Nat, 0 ≤ dgs a k ∧ dgs a k ≤ 7 * (k : Int)
  | 0 => ⟨Int.le_refl _, Int.le_refl _⟩
  | k + 1 => by
    have x := dgs_bd a k
    have y := dg_bd a (Int32.ofNat k)
    have e : dgs a (k + 1) = dgs a k + (dg a (Int32.ofNat k)).toInt := rfl
    rw [e]
    omega
theorem t6_weightAt (p0 p1 : Int32) (S : fS) : zk (F_X6_weightAt p0 p1 S) (fun v T => S = T ∧ v = dg p0 p1) := by
  unfold F_X6_weightAt
  refine zk_iv fun x1 e1 => ?_
  refine zk_iv fun x2 e2 => ?_
  refine zk_iv fun x3 e3 => ?_
  refine zk_iv fun x4 e4 => ?_
  exact zk_some ⟨rfl, by rw [e4, e3, e2, e1]; rfl⟩
theorem t6_allWeights (p0 : Int32) (S : fS) : zk (F_X6_allWeights p0 S) (fun v T => S = T ∧ v.toInt = dgs p0 9) := by
  have l9 : (9 : Int32).toInt = 9 := by decide
  unfold F_X6_allWeights
  refine zk_lp (fun (z : Int32 × Int32 × Int32) T => S = T ∧ z.1 = p0 ∧ 0 ≤ z.2.2.toInt ∧ z.2.2.toInt ≤ 9 ∧ z.2.1.toInt = dgs p0 z.2.2.toNatClampNeg) (fun (z : Int32 × Int32 × Int32) _ => (9 - z.2.2.toInt).toNat) (fun _ _ (v : Int32) T => S = T ∧ v.toInt = dgs p0 9) ?_ (p0, 0, 0) S ⟨rfl, rfl, by show (0 : Int) ≤ (0 : Int32).toInt; decide, by show (0 : Int32).toInt ≤ 9; decide, rfl⟩ (by show (9 - (0 : Int32).toInt).toNat < 4294967296; decide)
  intro k z T hI hk
  obtain ⟨a1, a2, a3⟩ := z
  obtain ⟨rfl, h1, h2, h3, h4⟩ := hI
  dsimp only at h1 h2 h3 h4
  subst h1
  have hc := cn_eq h2
  have hb := dgs_bd a1 a3.toNatClampNeg
  unfold B_X6_allWeights_4
  dsimp only
  refine zk_le (fun c => zk_some ⟨rfl, by rw [h4, show a3.toNatClampNeg = 9 from by omega]⟩) (fun c => ?_)
  refine zk_bd (t6_weightAt a1 a3 S) (fun x T q => ?_)
  obtain ⟨rfl, e⟩ := q
  have gx := dg_bd a1 a3
  rw [← e] at gx
  refine zk_iv fun y ey => ?_
  have gy : y.toInt = a2.toInt + x.toInt := by rw [ey, ti_add (by omega) (by omega)]
  refine zk_iv fun w ew => ?_
  have gw : w.toInt = a3.toInt + 1 := by rw [ew]; exact ti_inc (by omega)
  have hw := cn_eq (x := w) (by omega)
  refine hk (a1, y, w) S ⟨rfl, rfl, by dsimp only; omega, by dsimp only; omega, ?_⟩ (by show (9 - w.toInt).toNat < (9 - a3.toInt).toNat; omega)
  dsimp only
  have e3 : a3 = Int32.ofNat a3.toNatClampNeg := of_toInt (by rw [show (Int32.ofNat a3.toNatClampNeg).toInt = (a3.toNatClampNeg : Int) from nI_toInt (by omega)]; omega)
  rw [show w.toNatClampNeg = a3.toNatClampNeg + 1 from by omega, gy, h4, e]
  show _ = dgs a1 a3.toNatClampNeg + (dg a1 (Int32.ofNat a3.toNatClampNeg)).toInt
  rw [← e3]
end HND
