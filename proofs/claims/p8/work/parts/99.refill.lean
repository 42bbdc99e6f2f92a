/-! the pure part: the reference, refill -/
section RFL
variable {S T U : fS}
def HBn (S : fS) (n : Int) : Prop := HB n (fun t => (ge S 50 0 t).toInt) (fun c k => (ge S 53 c k).toInt) (fun c => (ge S 54 0 c).toInt)
theorem HBn.of {n : Int} (h : HBn S n) (e2 : ∀ t : Nat, ge T 50 0 t = ge S 50 0 t) (e3 : ∀ c k : Nat, ge T 53 c k = ge S 53 c k) (e4 : ∀ c : Nat, ge T 54 0 c = ge S 54 0 c) : HBn T n := by
  unfold HBn
  simp only [e2, e3, e4]
  exact h
theorem h7_r79 {k : Int32 × Int32 → fS → Option (Int32 × fS)} {a1 a2 a3 : Int32} {Q : Int32 → fS → Prop} (ha : 0 ≤ a2.toInt ∧ a2.toInt ≤ 23) (hk : ∀ x y : Int32, y.toInt = a2.toInt + 1 → zk (k (x, y) S) Q) : zk (B_X7_refill_79 k a1 a2 a3 S) Q := by
  unfold B_X7_refill_79 B_X7_refill_95
  refine zk_gd ⟨by omega, by omega⟩ ?_
  refine zk_iv fun x _ => ?_
  have J : ∀ t : Int32, zk (iv (a1 + t) (fun x1 => iv (a2 + Int32.ofInt 1) (fun x2 => k (x1, x2) S))) Q := fun t => zk_iv fun u _ => zk_iv fun y ey => hk u y (by rw [ey]; exact ti_inc (by omega))
  exact zk_bb (fun _ => J _) (fun _ => J _)
theorem h7_r30 (a1 : Int32) (S : fS) (RS : RI S) (h : HBn S 0) : zk (lp (B_X7_refill_30) fuel (a1, 0) S) (fun _ T => RI T ∧ Fr 18939904 S T ∧ HSm T) := by
  have l0 : (0 : Int32).toInt = 0 := by decide
  have lm1 : (-1 : Int32).toInt = -1 := by decide
  refine zk_lp (fun (z : Int32 × Int32) T => 0 ≤ z.2.toInt ∧ z.2.toInt ≤ (ge T 40 0 21).toInt ∧ RI T ∧ Fr 18939904 S T ∧ HBn T z.2.toInt) (fun (z : Int32 × Int32) _ => (24 - z.2.toInt).toNat) (fun _ _ (_ : Int32) T => RI T ∧ Fr 18939904 S T ∧ HSm T) ?_ (a1, 0) S ⟨by show (0 : Int) ≤ (0 : Int32).toInt; decide, by show (0 : Int32).toInt ≤ _; rw [l0]; exact (RS 40 0 21).1, RS, Fr.rf, by show HBn S (0 : Int32).toInt; rw [l0]; exact h⟩ (by show (24 - (0 : Int32).toInt).toNat < 4294967296; decide)
  intro k z T hI hk
  obtain ⟨b1, a2⟩ := z
  obtain ⟨h1, h2, RT, FT, hB⟩ := hI
  dsimp only at h1 h2 hB
  have gn : (ge T 40 0 21).toInt ≤ 24 := (RT 40 0 21).2
  have hc := cn_eq h1
  unfold B_X7_refill_30
  dsimp only
  refine zk_iv fun x e => ?_
  subst e
  refine zk_le (fun c => ?_) (fun c => ?_)
  · refine zk_sv fun S1 E1 => ?_
    refine zk_sv fun S2 E2 => ?_
    refine zk_sv fun S3 E3 => ?_
    refine zk_sv fun S4 E4 => ?_
    refine zk_sv fun S5 E5 => ?_
    have R1 : RI S1 := by rw [E1]; exact RT.wf rfl
    have R2 : RI S2 := by rw [E2]; exact R1.wf rfl
    have R3 : RI S3 := by rw [E3]; exact R2.wf rfl
    have R4 : RI S4 := by rw [E4]; exact R3.wf rfl
    have R5 : RI S5 := by rw [E5]; exact R4.wr (show (0 : Int) ≤ (0 : Int32).toInt by decide) (show (0 : Int32).toInt ≤ 200 by decide)
    have F1 : Fr 2162688 T S1 := by rw [E1]; exact Fr.rf.wr (k := 16) rfl rfl
    have F2 : Fr 2162688 T S2 := by rw [E2]; exact F1.wr (k := 16) rfl rfl
    have F3 : Fr 2162688 T S3 := by rw [E3]; exact F2.wr (k := 16) rfl rfl
    have F4 : Fr 2162688 T S4 := by rw [E4]; exact F3.wr (k := 16) rfl rfl
    have F5 : Fr 2162688 T S5 := by rw [E5]; exact F4.wr (k := 21) rfl rfl
    refine zk_some ⟨R5, FT.tr (F5.sub (by decide)), ?_⟩
    have en : a2.toInt = (ge T 40 0 21).toInt := by omega
    rw [en] at hB
    exact HSm.fr (m := 2162688) hB F5 rfl rfl
  · refine zk_gd ⟨by omega, by omega⟩ ?_
    refine zk_iv fun x14 _ => ?_
    refine zk_gd ⟨by omega, by omega⟩ ?_
    refine zk_iv fun x16 e16 => ?_
    have g16 : 0 ≤ x16.toInt ∧ x16.toInt ≤ 63 := by rw [e16]; exact RT 49 0 _
    refine zk_iv fun x17 _ => ?_
    refine zk_eq (fun _ => ?_) (fun _ => ?_)
    · refine zk_gd ⟨by omega, by omega⟩ ?_
      refine zk_sv fun V E => ?_
      refine h7_r79 ⟨by omega, by omega⟩ (fun x y ey => ?_)
      have RV : RI V := by rw [E]; exact RT.wr (show (-2 : Int) ≤ (-1 : Int32).toInt by decide) (show (-1 : Int32).toInt ≤ 63 by decide)
      have FV : Fr 18939904 T V := by rw [E]; exact Fr.rf.wr (k := 24) rfl rfl
      have e21 : ge V 40 0 21 = ge T 40 0 21 := by rw [E]; exact ge_pua (by decide)
      refine zk_imp (hk (x, y) V ⟨by dsimp only; omega, by dsimp only; rw [e21]; omega, RV, FT.tr FV, ?_⟩ (by show (24 - y.toInt).toNat < (24 - a2.toInt).toNat; omega)) (fun v W q => q)
      dsimp only
      rw [ey]
      have f53 : ∀ i k : Nat, ge V 53 i k = ge T 53 i k := fun i k => by rw [E]; exact ge_pua (by decide)
      have f54 : ∀ i : Nat, ge V 54 0 i = ge T 54 0 i := fun i => by rw [E]; exact ge_pua (by decide)
      unfold HBn at hB ⊢
      simp only [f53, f54]
      refine HB.inc hB h1 (x := -1) (by decide) (fun i => ?_)
      show (ge V 50 0 i).toInt = _
      rw [E, ge_pu]
      by_cases z : (i : Int) = a2.toInt
      · rw [if_pos z, if_pos ⟨rfl, rfl, by omega⟩]; exact lm1
      · rw [if_neg z, if_neg (fun q => z (by have := q.2.2; omega))]
    · refine zk_gd ⟨by omega, by omega⟩ ?_
      refine zk_ivq (x := x16) e16.symm ?_
      have hcc := cn_eq g16.1
      have hle := HB.le hB (c := x16.toNatClampNeg) h1 (by omega)
      have hle : (ge T 54 0 x16.toNatClampNeg).toInt ≤ a2.toInt := hle
      refine zk_bd (t7_puts a2 x16 T RT ⟨by omega, by omega, by omega, by omega⟩ (by omega)) (fun _ V q => ?_)
      obtain ⟨RV, FV, p1, p2, p3⟩ := q
      refine h7_r79 ⟨by omega, by omega⟩ (fun x y ey => ?_)
      have e21 : ge V 40 0 21 = ge T 40 0 21 := FV.1 40 0 21 rfl
      refine zk_imp (hk (x, y) V ⟨by dsimp only; omega, by dsimp only; rw [e21]; omega, RV, FT.tr (FV.sub (by decide)), ?_⟩ (by show (24 - y.toInt).toNat < (24 - a2.toInt).toNat; omega)) (fun v W q => q)
      dsimp only
      rw [ey]
      refine HB.put hB (n' := a2.toInt + 1) (c := x16.toNatClampNeg) (t := a2.toNatClampNeg) (by omega) (fun i hi hne => Or.inl (by omega)) (by omega) (fun q => by omega) (by omega) (RT 54 0 _).1 (fun i _ => wl RT i) (fun i => ?_) p2 (fun i k => ?_)
      · show (ge V 50 0 i).toInt = _
        rw [p1]
        by_cases z : i = a2.toNatClampNeg
        · rw [if_pos z, if_pos z]; omega
        · rw [if_neg z, if_neg z]
      · show (ge V 53 i k).toInt = _
        rw [p3]
        by_cases z : i = x16.toNatClampNeg ∧ (k : Int) = (ge T 54 0 x16.toNatClampNeg).toInt
        · rw [if_pos z, if_pos z]; omega
        · rw [if_neg z, if_neg z]
theorem h7_refill (RS : RI S) (h : HI S) : zk (F_X7_refill S) (fun _ T => RI T ∧ Fr 18939904 S T ∧ HI T) := by
  have l0 : (0 : Int32).toInt = 0 := by decide
  have l64 : (64 : Int32).toInt = 64 := by decide
  unfold F_X7_refill
  refine zk_sv fun S1 E1 => ?_
  have R1 : RI S1 := by rw [E1]; exact RS.wf rfl
  have F1 : Fr 18939904 S S1 := by rw [E1]; exact Fr.rf.wr (k := 16) rfl rfl
  refine zk_lp (fun (z : Int32 × Int32) T => 0 ≤ z.2.toInt ∧ z.2.toInt ≤ 64 ∧ RI T ∧ Fr 18939904 S T ∧ ∀ i : Nat, (i : Int) < z.2.toInt → (ge T 54 0 i).toInt = 0) (fun (z : Int32 × Int32) _ => (64 - z.2.toInt).toNat) (fun _ _ (_ : Int32) T => RI T ∧ Fr 18939904 S T ∧ HI T) ?_ (0, 0) S1 ⟨by show (0 : Int) ≤ (0 : Int32).toInt; decide, by show (0 : Int32).toInt ≤ 64; decide, R1, F1, fun i q => by have q : (i : Int) < (0 : Int32).toInt := q; omega⟩ (by show (64 - (0 : Int32).toInt).toNat < 4294967296; decide)
  intro k z T hI hk
  obtain ⟨a1, a2⟩ := z
  obtain ⟨h1, h2, RT, FT, h0⟩ := hI
  dsimp only at h1 h2 h0
  have hc := cn_eq h1
  unfold B_X7_refill_9
  dsimp only
  refine zk_le (fun c => ?_) (fun c => ?_)
  · refine zk_imp (h7_r30 a1 T RT ⟨fun c k hc hk => ?_, fun c k k' hc hk _ _ => ?_, fun t ht _ => by omega⟩) (fun v U q => ⟨q.1, FT.tr q.2.1, h.hs q.2.2 (FT.tr q.2.1) rfl⟩)
    · have hk : (k : Int) < (ge T 54 0 c).toInt := hk
      have := h0 c (by omega)
      omega
    · have hk : (k : Int) < (ge T 54 0 c).toInt := hk
      have := h0 c (by omega)
      omega
  · refine zk_gd ⟨by omega, by omega⟩ ?_
    refine zk_sv fun V E => ?_
    refine zk_iv fun y ey => ?_
    have gy : y.toInt = a2.toInt + 1 := by rw [ey]; exact ti_inc (by omega)
    have RV : RI V := by rw [E]; exact RT.wr (show (0 : Int) ≤ (0 : Int32).toInt by decide) (show (0 : Int32).toInt ≤ 24 by decide)
    have FV : Fr 18939904 S V := by rw [E]; exact FT.wr (k := 24) rfl rfl
    refine hk (a1, y) V ⟨by dsimp only; omega, by dsimp only; omega, RV, FV, fun i hi => ?_⟩ (by show (64 - y.toInt).toNat < (64 - a2.toInt).toNat; omega)
    dsimp only at hi
    rw [E, ge_pu]
    by_cases z : i = a2.toNatClampNeg
    · rw [if_pos ⟨rfl, rfl, z⟩]; exact l0
    · rw [if_neg (fun q => z q.2.2)]; exact h0 i (by omega)
end RFL
