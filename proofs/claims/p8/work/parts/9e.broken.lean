/-! the pure part: the reference, broken; the class, program with its tape -/
theorem h7_br125L {k : Int32 × Int32 → fS → Option (Int32 × fS)} {a1 a2 a3 : Int32} {S0 T : fS} (RT : RI T) (F : Fr 30635261952 S0 T) (ha : 0 ≤ a1.toInt ∧ a1.toInt ≤ 2 ∧ 0 ≤ a2.toInt ∧ a2.toInt ≤ 200) (hk : ∀ (y : Int32) (U : fS), y.toInt = a2.toInt + 1 → RI U → Fr 30635261952 S0 U → zk (k (a1, y) U) (fun _ U => RI U ∧ Fr 30635261952 S0 U)) : zk (B_X7_broken_125L k a1 a2 a3 T) (fun _ U => RI U ∧ Fr 30635261952 S0 U) := by
  have l6 : (6 : Int32).toInt = 6 := by decide
  unfold B_X7_broken_125L
  refine zk_sv fun S1 E1 => ?_
  have R1 : RI S1 := by rw [E1]; exact RT.wf rfl
  have F1 : Fr 30635261952 S0 S1 := by rw [E1]; exact F.wr (k := 16) rfl rfl
  refine zk_iv fun x e => ?_
  have gx : x.toInt = 6 + a1.toInt := by rw [e, ti_add (by omega) (by omega), l6]
  refine zk_bd (s_F_X7_reads x S1 R1 ⟨by omega, by omega⟩) (fun _ S2 q => ?_)
  obtain ⟨R2, f2, _⟩ := q
  refine zk_bd (s_F_X7_walksLaw S2 R2) (fun v S3 q => ?_)
  obtain ⟨R3, f3, _⟩ := q
  have F3 : Fr 30635261952 S0 S3 := (F1.tr (f2.sub (by decide))).tr (f3.sub (by decide))
  refine zk_eq (fun _ => zk_some ⟨R3, F3⟩) (fun _ => ?_)
  exact zk_iv fun y ey => hk y S3 (by rw [ey]; exact ti_inc (by omega)) R3 F3
theorem h7_br87L {k : Int32 × Int32 → fS → Option (Int32 × fS)} {a1 a2 a3 : Int32} {S0 T : fS} (RT : RI T) (F : Fr 30635261952 S0 T) (ha : 0 ≤ a1.toInt ∧ a1.toInt ≤ 2 ∧ 0 ≤ a2.toInt ∧ a2.toInt ≤ 200) (hk : ∀ (y : Int32) (U : fS), y.toInt = a2.toInt + 1 → RI U → Fr 30635261952 S0 U → zk (k (a1, y) U) (fun _ U => RI U ∧ Fr 30635261952 S0 U)) : zk (lp (B_X7_broken_87L k) fuel (a1, a2, a3, 0) T) (fun _ U => RI U ∧ Fr 30635261952 S0 U) := by
  have l4 : (4 : Int32).toInt = 4 := by decide
  have l5 : (5 : Int32).toInt = 5 := by decide
  refine zk_lp (fun (z : Int32 × Int32 × Int32 × Int32) T => z.1 = a1 ∧ z.2.1 = a2 ∧ 0 ≤ z.2.2.2.toInt ∧ z.2.2.2.toInt ≤ 5 ∧ RI T ∧ Fr 30635261952 S0 T) (fun (z : Int32 × Int32 × Int32 × Int32) _ => (5 - z.2.2.2.toInt).toNat) (fun _ _ (_ : Int32) U => RI U ∧ Fr 30635261952 S0 U) ?_ (a1, a2, a3, 0) T ⟨rfl, rfl, by show (0 : Int) ≤ (0 : Int32).toInt; decide, by show (0 : Int32).toInt ≤ 5; decide, RT, F⟩ (by show (5 - (0 : Int32).toInt).toNat < 4294967296; decide)
  clear RT F
  intro k9 z T hI hk9
  obtain ⟨b1, b2, b3, a4⟩ := z
  obtain ⟨h1, h2, h3, h4, RT, FT⟩ := hI
  dsimp only at h1 h2 h3 h4
  subst h1
  subst h2
  unfold B_X7_broken_87L
  dsimp only
  refine zk_le (fun _ => h7_br125L RT FT ha hk) (fun c => ?_)
  refine zk_iv fun x e => ?_
  have gx : 0 ≤ x.toInt ∧ x.toInt ≤ 200 := by rw [e]; exact RT 40 0 46
  refine zk_le (fun _ => h7_br125L RT FT ha hk) (fun c2 => ?_)
  refine zk_gd ⟨by omega, by omega⟩ ?_
  refine zk_iv fun x15 e15 => ?_
  have g15 : x15.toInt = 4 + a4.toInt := by rw [e15, ti_add (by omega) (by omega), l4]
  refine zk_gd ⟨by omega, by omega⟩ ?_
  refine zk_iv fun x17 _ => ?_
  refine zk_gd ⟨by omega, by omega⟩ ?_
  refine zk_sv fun V E => ?_
  refine zk_iv fun y ey => ?_
  have gy : y.toInt = a4.toInt + 1 := by rw [ey]; exact ti_inc (by omega)
  exact hk9 (b1, b2, b3, y) V ⟨rfl, rfl, by dsimp only; omega, by dsimp only; omega, by rw [E]; exact RT.wf rfl, by rw [E]; exact FT.wr (k := 16) rfl rfl⟩ (by show (5 - y.toInt).toNat < (5 - a4.toInt).toNat; omega)
theorem h7_br78L {k : Int32 × Int32 → fS → Option (Int32 × fS)} {a1 a2 t0 : Int32} {S0 T : fS} (RT : RI T) (F : Fr 30635261952 S0 T) (ha : 0 ≤ a1.toInt ∧ a1.toInt ≤ 2 ∧ 0 ≤ a2.toInt ∧ a2.toInt ≤ 200) (hk : ∀ (y : Int32) (U : fS), y.toInt = a2.toInt + 1 → RI U → Fr 30635261952 S0 U → zk (k (a1, y) U) (fun _ U => RI U ∧ Fr 30635261952 S0 U)) : zk (B_X7_broken_78L k a1 a2 t0 T) (fun _ U => RI U ∧ Fr 30635261952 S0 U) := by
  unfold B_X7_broken_78L
  refine zk_bd (s_F_X7_namesOf 1 T RT) (fun _ T1 q => ?_)
  obtain ⟨R1, f1, _⟩ := q
  exact h7_br87L R1 (F.tr (f1.sub (by decide))) ha hk
theorem h7_br125 {k : Int32 × Int32 → fS → Option (Int32 × fS)} {a1 a2 a3 : Int32} {S0 T : fS} (RT : RI T) (F : Fr 30635261952 S0 T) (ha : 0 ≤ a1.toInt ∧ a1.toInt ≤ 2 ∧ 0 ≤ a2.toInt ∧ a2.toInt ≤ 200) (hk : ∀ (y : Int32) (U : fS), y.toInt = a2.toInt + 1 → RI U → Fr 30635261952 S0 U → zk (k (a1, y) U) (fun _ U => RI U ∧ Fr 30635261952 S0 U)) : zk (B_X7_broken_125 k a1 a2 a3 T) (fun _ U => RI U ∧ Fr 30635261952 S0 U) := by
  have l6 : (6 : Int32).toInt = 6 := by decide
  unfold B_X7_broken_125
  refine zk_sv fun S1 E1 => ?_
  have R1 : RI S1 := by rw [E1]; exact RT.wf rfl
  have F1 : Fr 30635261952 S0 S1 := by rw [E1]; exact F.wr (k := 16) rfl rfl
  refine zk_iv fun x e => ?_
  have gx : x.toInt = 6 + a1.toInt := by rw [e, ti_add (by omega) (by omega), l6]
  refine zk_bd (s_F_X7_reads x S1 R1 ⟨by omega, by omega⟩) (fun _ S2 q => ?_)
  obtain ⟨R2, f2, _⟩ := q
  refine zk_bd (s_F_X7_walksLaw S2 R2) (fun v S3 q => ?_)
  obtain ⟨R3, f3, _⟩ := q
  have F3 : Fr 30635261952 S0 S3 := (F1.tr (f2.sub (by decide))).tr (f3.sub (by decide))
  refine zk_eq (fun _ => zk_some ⟨R3, F3⟩) (fun _ => ?_)
  exact zk_iv fun y ey => hk y S3 (by rw [ey]; exact ti_inc (by omega)) R3 F3
theorem h7_br87 {k : Int32 × Int32 → fS → Option (Int32 × fS)} {a1 a2 a3 : Int32} {S0 T : fS} (RT : RI T) (F : Fr 30635261952 S0 T) (ha : 0 ≤ a1.toInt ∧ a1.toInt ≤ 2 ∧ 0 ≤ a2.toInt ∧ a2.toInt ≤ 200) (hk : ∀ (y : Int32) (U : fS), y.toInt = a2.toInt + 1 → RI U → Fr 30635261952 S0 U → zk (k (a1, y) U) (fun _ U => RI U ∧ Fr 30635261952 S0 U)) : zk (lp (B_X7_broken_87 k) fuel (a1, a2, a3, 0) T) (fun _ U => RI U ∧ Fr 30635261952 S0 U) := by
  have l4 : (4 : Int32).toInt = 4 := by decide
  have l5 : (5 : Int32).toInt = 5 := by decide
  refine zk_lp (fun (z : Int32 × Int32 × Int32 × Int32) T => z.1 = a1 ∧ z.2.1 = a2 ∧ 0 ≤ z.2.2.2.toInt ∧ z.2.2.2.toInt ≤ 5 ∧ RI T ∧ Fr 30635261952 S0 T) (fun (z : Int32 × Int32 × Int32 × Int32) _ => (5 - z.2.2.2.toInt).toNat) (fun _ _ (_ : Int32) U => RI U ∧ Fr 30635261952 S0 U) ?_ (a1, a2, a3, 0) T ⟨rfl, rfl, by show (0 : Int) ≤ (0 : Int32).toInt; decide, by show (0 : Int32).toInt ≤ 5; decide, RT, F⟩ (by show (5 - (0 : Int32).toInt).toNat < 4294967296; decide)
  clear RT F
  intro k9 z T hI hk9
  obtain ⟨b1, b2, b3, a4⟩ := z
  obtain ⟨h1, h2, h3, h4, RT, FT⟩ := hI
  dsimp only at h1 h2 h3 h4
  subst h1
  subst h2
  unfold B_X7_broken_87
  dsimp only
  refine zk_le (fun _ => h7_br125 RT FT ha hk) (fun c => ?_)
  refine zk_iv fun x e => ?_
  have gx : 0 ≤ x.toInt ∧ x.toInt ≤ 200 := by rw [e]; exact RT 40 0 46
  refine zk_le (fun _ => h7_br125 RT FT ha hk) (fun c2 => ?_)
  refine zk_gd ⟨by omega, by omega⟩ ?_
  refine zk_iv fun x15 e15 => ?_
  have g15 : x15.toInt = 4 + a4.toInt := by rw [e15, ti_add (by omega) (by omega), l4]
  refine zk_gd ⟨by omega, by omega⟩ ?_
  refine zk_iv fun x17 _ => ?_
  refine zk_gd ⟨by omega, by omega⟩ ?_
  refine zk_sv fun V E => ?_
  refine zk_iv fun y ey => ?_
  have gy : y.toInt = a4.toInt + 1 := by rw [ey]; exact ti_inc (by omega)
  exact hk9 (b1, b2, b3, y) V ⟨rfl, rfl, by dsimp only; omega, by dsimp only; omega, by rw [E]; exact RT.wf rfl, by rw [E]; exact FT.wr (k := 16) rfl rfl⟩ (by show (5 - y.toInt).toNat < (5 - a4.toInt).toNat; omega)
theorem h7_br78 {k : Int32 × Int32 → fS → Option (Int32 × fS)} {a1 a2 t0 : Int32} {S0 T : fS} (RT : RI T) (F : Fr 30635261952 S0 T) (ha : 0 ≤ a1.toInt ∧ a1.toInt ≤ 2 ∧ 0 ≤ a2.toInt ∧ a2.toInt ≤ 200) (hk : ∀ (y : Int32) (U : fS), y.toInt = a2.toInt + 1 → RI U → Fr 30635261952 S0 U → zk (k (a1, y) U) (fun _ U => RI U ∧ Fr 30635261952 S0 U)) : zk (B_X7_broken_78 k a1 a2 t0 T) (fun _ U => RI U ∧ Fr 30635261952 S0 U) := by
  unfold B_X7_broken_78
  refine zk_bd (s_F_X7_namesOf 1 T RT) (fun _ T1 q => ?_)
  obtain ⟨R1, f1, _⟩ := q
  exact h7_br87 R1 (F.tr (f1.sub (by decide))) ha hk
theorem h7_br36L {a1 y : Int32} {S0 T : fS} (RT : RI T) (F : Fr 30635261952 S0 T) (hy : (ge S0 40 0 46).toInt < y.toInt) : zk (lp (B_X7_broken_36L) fuel (a1, y) T) (fun _ U => RI U ∧ Fr 30635261952 S0 U) := by
  refine zk_lp (fun (z : Int32 × Int32) T => RI T ∧ Fr 30635261952 S0 T ∧ (ge S0 40 0 46).toInt < z.2.toInt) (fun _ _ => 0) (fun _ _ (_ : Int32) U => RI U ∧ Fr 30635261952 S0 U) ?_ (a1, y) T ⟨RT, F, hy⟩ (by decide)
  intro k z T hI hk
  obtain ⟨b1, b2⟩ := z
  obtain ⟨RT, FT, hz⟩ := hI
  dsimp only at hz
  have e46 : ge T 40 0 46 = ge S0 40 0 46 := FT.1 40 0 46 rfl
  unfold B_X7_broken_36L
  dsimp only
  refine zk_iv fun x e => ?_
  rw [e46] at e
  exact zk_lt (fun _ => zk_some ⟨RT, FT⟩) (fun c => absurd c (by rw [e]; omega))
theorem h7_br36 {a1 : Int32} {S0 : fS} (RS : RI S0) (ha : 0 ≤ a1.toInt ∧ a1.toInt ≤ 2) : zk (lp (B_X7_broken_36) fuel (a1, 0) S0) (fun _ U => RI U ∧ Fr 30635261952 S0 U) := by
  have g46 : 0 ≤ (ge S0 40 0 46).toInt ∧ (ge S0 40 0 46).toInt ≤ 200 := RS 40 0 46
  have l0 : (0 : Int32).toInt = 0 := by decide
  refine zk_lp (fun (z : Int32 × Int32) T => z.1 = a1 ∧ 0 ≤ z.2.toInt ∧ z.2.toInt ≤ (ge S0 40 0 46).toInt + 1 ∧ RI T ∧ Fr 30635261952 S0 T) (fun (z : Int32 × Int32) _ => (201 - z.2.toInt).toNat) (fun _ _ (_ : Int32) U => RI U ∧ Fr 30635261952 S0 U) ?_ (a1, 0) S0 ⟨rfl, by show (0 : Int) ≤ (0 : Int32).toInt; decide, by show (0 : Int32).toInt ≤ _; omega, RS, Fr.rf⟩ (by show (201 - (0 : Int32).toInt).toNat < 4294967296; decide)
  intro k z T hI hk
  obtain ⟨b1, a2⟩ := z
  obtain ⟨h1, h2, h3, RT, FT⟩ := hI
  dsimp only at h1 h2 h3
  subst h1
  have e46 : ge T 40 0 46 = ge S0 40 0 46 := FT.1 40 0 46 rfl
  unfold B_X7_broken_36
  dsimp only
  refine zk_iv fun x e => ?_
  have ex : x = ge S0 40 0 46 := e.trans e46
  have gx : x.toInt = (ge S0 40 0 46).toInt := by rw [ex]
  refine zk_lt (fun _ => zk_some ⟨RT, FT⟩) (fun c => ?_)
  refine zk_ivq (x := x) e.symm ?_
  refine zk_le (fun c2 => ?_) (fun c2 => ?_)
  · refine zk_bd (s_F_X7_canNow 0 T RT (by decide)) (fun v T1 q => ?_)
    obtain ⟨R1, f1, _⟩ := q
    have F1 := FT.tr (f1.sub (m := 30635261952) (by decide))
    have J : ∀ t : Int32, zk (B_X7_broken_78L (lp (B_X7_broken_36L) fuel) b1 a2 t T1) (fun _ U => RI U ∧ Fr 30635261952 S0 U) := fun t => h7_br78L R1 F1 ⟨ha.1, ha.2, by omega, by omega⟩ (fun y U ey RU FU => h7_br36L RU FU (by omega))
    exact zk_eq (fun _ => J _) (fun _ => J _)
  · refine zk_gd ⟨by omega, by omega⟩ ?_
    refine zk_iv fun x29 _ => ?_
    exact h7_br78 RT FT ⟨ha.1, ha.2, by omega, by omega⟩ (fun y U ey RU FU => hk (b1, y) U ⟨rfl, by dsimp only; omega, by dsimp only; omega, RU, FU⟩ (by show (201 - y.toInt).toNat < (201 - a2.toInt).toNat; omega))
theorem s_F_X7_broken (p1 : Int32) (S : fS) (RS : RI S) : zk (F_X7_broken p1 S) (fun _ U => RI U ∧ Fr 30635261952 S U ∧ True) := by
  have l0 : (0 : Int32).toInt = 0 := by decide
  have l1 : (1 : Int32).toInt = 1 := by decide
  unfold F_X7_broken
  refine zk_sv fun S1 E1 => ?_
  have R1 : RI S1 := by rw [E1]; exact RS.wf rfl
  have F1 : Fr 30635261952 S S1 := by rw [E1]; exact Fr.rf.wr (k := 16) rfl rfl
  refine zk_iv fun x e => ?_
  have g : 0 ≤ x.toInt ∧ x.toInt ≤ 3 := by rw [e]; exact R1 40 0 14
  refine zk_iv fun y ey => ?_
  have gy : y.toInt = x.toInt - 1 := by rw [ey, ti_sub (by omega) (by omega), l1]
  refine zk_bd (s_F_X7_in _ _ _ S1 R1) (fun v T q => ?_)
  obtain ⟨rfl, hv⟩ := q
  have J : ∀ t : Int32, (¬ t.toInt = 0 ∨ (0 ≤ p1.toInt ∧ p1.toInt ≤ 2)) → zk (B_X7_broken_25 p1 t S1) (fun _ U => RI U ∧ Fr 30635261952 S U ∧ True) := by
    intro t ht
    unfold B_X7_broken_25
    refine zk_bd (s_F_X7_bad t 1 S1 R1 (by decide)) (fun v2 S2 q => ?_)
    obtain ⟨R2, f2, hv2⟩ := q
    have F2 := F1.tr (f2.sub (m := 30635261952) (by decide))
    refine zk_eq (fun c => ?_) (fun _ => zk_some ⟨R2, F2, trivial⟩)
    exact zk_imp (h7_br36 R2 (by omega)) (fun v U q => ⟨q.1, F2.tr q.2, trivial⟩)
  exact zk_eq (fun _ => J _ (Or.inl (by decide))) (fun _ => J _ (Or.inr (by omega)))
theorem s2_F_X6_within (p0 : Int32) (p1 : Int32) (p2 : Int32) (S0 : fS) (RS0 : RI S0) : zk (F_X6_within p0 p1 p2 S0) (fun v S9 => S0 = S9 ∧ ((v.toInt = 0 ∧ (p0.toInt < p1.toInt ∨ p2.toInt < p0.toInt)) ∨ (v.toInt = 1 ∧ p1.toInt ≤ p0.toInt ∧ p0.toInt ≤ p2.toInt))) := by
  have l0 : (0 : Int32).toInt = 0 := by decide
  have l1 : (1 : Int32).toInt = 1 := by decide
  unfold F_X6_within
  have b1 := ti_bd p0
  have b2 := ti_bd p1
  refine zk_lt (fun c3 => ?_) (fun c3 => ?_)
  ·
    exact zk_some ⟨rfl, by omega⟩
  ·
    have b4 := ti_bd p2
    refine zk_lt (fun c5 => ?_) (fun c5 => ?_)
    ·
      exact zk_some ⟨rfl, by omega⟩
    ·
      exact zk_some ⟨rfl, by omega⟩
theorem s2_F_X6_need (p0 : Int32) (S0 : fS) (RS0 : RI S0) : zk (F_X6_need p0 S0) (fun v S9 => S0 = S9 ∧ ((v.1 = 0 ∧ ¬ p0.toInt = 0) ∨ (v.1 = 1 ∧ p0.toInt = 0))) := by
  have l0 : (0 : Int32).toInt = 0 := by decide
  have l1 : (1 : Int32).toInt = 1 := by decide
  unfold F_X6_need
  have b1 := ti_bd p0
  refine zk_eq (fun c2 => ?_) (fun c2 => ?_)
  ·
    exact zk_some ⟨rfl, by (try dsimp only) <;> omega⟩
  ·
    exact zk_some ⟨rfl, by (try dsimp only) <;> omega⟩
theorem s2_F_X6_program (p1 : Int32) (p2 : Int32) (S0 : fS) (RS0 : RI S0) (GS0 : GI S0) : zk (F_X6_program p1 p2 S0) (fun v S9 => RI S9 ∧ Fr 2147487811 S0 S9 ∧ GI S9 ∧ ((v.1 = 0 ∨ v.1 = 1) ∧ ((0 ≤ p1.toInt ∧ p1.toInt ≤ (ge S0 0 0 11).toInt ∧ (ge S9 0 0 11).toInt = 0) ∨ ((p1.toInt < 0 ∨ (ge S0 0 0 11).toInt < p1.toInt) ∧ (ge S9 0 0 11).toInt = (ge S0 0 0 11).toInt)))) := by
  have l0 : (0 : Int32).toInt = 0 := by decide
  have l5 : (5 : Int32).toInt = 5 := by decide
  have l8 : (8 : Int32).toInt = 8 := by decide
  have l10 : (10 : Int32).toInt = 10 := by decide
  have l11 : (11 : Int32).toInt = 11 := by decide
  have l12 : (12 : Int32).toInt = 12 := by decide
  have FS0 : Fr 2147487811 S0 S0 := Fr.rf
  unfold F_X6_program
  obtain ⟨y1, ey1⟩ : ∃ y : Int32, y = ge S0 0 0 11 := ⟨_, rfl⟩
  have gy1 : 0 ≤ y1.toInt ∧ y1.toInt ≤ 300 := by rw [ey1]; exact RS0 0 _ _
  have q2 : (ge S0 0 0 11).toInt = y1.toInt := congrArg Int32.toInt (show ge S0 0 0 11 = y1 from ey1.symm)
  refine zk_ivq (x := y1) ey1.symm ?_
  refine zk_bd (s2_F_X6_within _ _ _ _ RS0) (fun v3 T4 h3 => ?_)
  obtain ⟨rfl, h3⟩ := h3
  refine zk_bx (s2_F_X6_need _ _ RS0) (fun v5 T6 h5 => ?_) (fun z7 v5 T6 h5 => ?_)
  ·
    obtain ⟨rfl, h5⟩ := h5
    try dsimp only at h5
    refine zk_sv fun S8 E8 => ?_
    have RS8 : RI S8 := by rw [E8]; exact RS0.wr (show (0 : Int) ≤ (0 : Int32).toInt by omega) (show (0 : Int32).toInt ≤ 300 by omega)
    have FS8 : Fr 2147487811 S0 S8 := by rw [E8]; exact FS0.wr (k := 1) rfl rfl
    have GS8 : GI S8 := by rw [E8]; exact GS0.wr (k := 1) rfl (by decide)
    have b9 := ti_bd p2
    refine zk_eq (fun c10 => ?_) (fun c10 => ?_)
    ·
      have q11 : (ge S8 0 0 11).toInt = (0 : Int32).toInt := congrArg Int32.toInt (show ge S8 0 0 11 = (0 : Int32) from (by rw [E8]; exact ge_pus))
      refine zk_bd (s_F_X4_readProgram _ _ RS8) (fun v12 T13 h12 => ?_)
      obtain ⟨RT13, fT13, h12⟩ := h12
      have FT13 := FS8.tr (fT13.sub (m := 2147487811) (by decide))
      have GT13 := GS8.fr fT13 rfl rfl
      have q14 : (ge T13 0 0 11).toInt = (0 : Int32).toInt := congrArg Int32.toInt (show ge T13 0 0 11 = (0 : Int32) from ((fT13.1 0 0 11 rfl).trans (by rw [E8]; exact ge_pus)))
      unfold B_X6_program_48
      refine zk_iv fun x15 e15 => ?_
      refine zk_sv fun S16 E16 => ?_
      have RS16 : RI S16 := by rw [E16]; exact RT13.wf rfl
      have FS16 : Fr 2147487811 S0 S16 := by rw [E16]; exact FT13.wr (k := 0) rfl rfl
      have GS16 : GI S16 := by rw [E16]; exact GT13.wr (k := 0) rfl (by decide)
      have b17 := ti_bd v12
      refine zk_eq (fun c18 => ?_) (fun c18 => ?_)
      ·
        refine zk_iv fun x19 e19 => ?_
        refine zk_iv fun x20 e20 => ?_
        have q21 : (ge S16 0 0 11).toInt = (0 : Int32).toInt := congrArg Int32.toInt (show ge S16 0 0 11 = (0 : Int32) from (by rw [E16]; exact (ge_puj (by decide)).trans ((fT13.1 0 0 11 rfl).trans (by rw [E8]; exact ge_pus))))
        exact zk_some ⟨RS16, FS16, GS16, by (try dsimp only) <;> omega⟩
      ·
        refine zk_eq (fun c22 => ?_) (fun c22 => ?_)
        ·
          have q23 : (ge S16 0 0 11).toInt = (0 : Int32).toInt := congrArg Int32.toInt (show ge S16 0 0 11 = (0 : Int32) from (by rw [E16]; exact (ge_puj (by decide)).trans ((fT13.1 0 0 11 rfl).trans (by rw [E8]; exact ge_pus))))
          refine zk_bd (s_F_X6_keepProgram _ RS16 GS16) (fun v24 T25 h24 => ?_)
          obtain ⟨RT25, fT25, GT25, h24⟩ := h24
          have FT25 := FS16.tr (fT25.sub (m := 2147487811) (by decide))
          have q26 : (ge T25 0 0 11).toInt = (0 : Int32).toInt := congrArg Int32.toInt (show ge T25 0 0 11 = (0 : Int32) from ((fT25.1 0 0 11 rfl).trans (by rw [E16]; exact (ge_puj (by decide)).trans ((fT13.1 0 0 11 rfl).trans (by rw [E8]; exact ge_pus)))))
          have q27 : (ge T25 0 0 11).toInt = (0 : Int32).toInt := congrArg Int32.toInt (show ge T25 0 0 11 = (0 : Int32) from ((fT25.1 0 0 11 rfl).trans (by rw [E16]; exact (ge_puj (by decide)).trans ((fT13.1 0 0 11 rfl).trans (by rw [E8]; exact ge_pus)))))
          exact zk_some ⟨RT25, FT25, GT25, by (try dsimp only) <;> omega⟩
        ·
          exact False.elim (by omega)
    ·
      have q28 : (ge S8 0 0 11).toInt = (0 : Int32).toInt := congrArg Int32.toInt (show ge S8 0 0 11 = (0 : Int32) from (by rw [E8]; exact ge_pus))
      refine zk_bd (s_F_X4_readLaw _ _ RS8) (fun v29 T30 h29 => ?_)
      obtain ⟨RT30, fT30, h29⟩ := h29
      have FT30 := FS8.tr (fT30.sub (m := 2147487811) (by decide))
      have GT30 := GS8.fr fT30 rfl rfl
      have q31 : (ge T30 0 0 11).toInt = (0 : Int32).toInt := congrArg Int32.toInt (show ge T30 0 0 11 = (0 : Int32) from ((fT30.1 0 0 11 rfl).trans (by rw [E8]; exact ge_pus)))
      unfold B_X6_program_48
      refine zk_iv fun x32 e32 => ?_
      refine zk_sv fun S33 E33 => ?_
      have RS33 : RI S33 := by rw [E33]; exact RT30.wf rfl
      have FS33 : Fr 2147487811 S0 S33 := by rw [E33]; exact FT30.wr (k := 0) rfl rfl
      have GS33 : GI S33 := by rw [E33]; exact GT30.wr (k := 0) rfl (by decide)
      have b34 := ti_bd v29
      refine zk_eq (fun c35 => ?_) (fun c35 => ?_)
      ·
        refine zk_iv fun x36 e36 => ?_
        refine zk_iv fun x37 e37 => ?_
        have q38 : (ge S33 0 0 11).toInt = (0 : Int32).toInt := congrArg Int32.toInt (show ge S33 0 0 11 = (0 : Int32) from (by rw [E33]; exact (ge_puj (by decide)).trans ((fT30.1 0 0 11 rfl).trans (by rw [E8]; exact ge_pus))))
        exact zk_some ⟨RS33, FS33, GS33, by (try dsimp only) <;> omega⟩
      ·
        refine zk_eq (fun c39 => ?_) (fun c39 => ?_)
        ·
          have q40 : (ge S33 0 0 11).toInt = (0 : Int32).toInt := congrArg Int32.toInt (show ge S33 0 0 11 = (0 : Int32) from (by rw [E33]; exact (ge_puj (by decide)).trans ((fT30.1 0 0 11 rfl).trans (by rw [E8]; exact ge_pus))))
          refine zk_bd (s_F_X6_keepProgram _ RS33 GS33) (fun v41 T42 h41 => ?_)
          obtain ⟨RT42, fT42, GT42, h41⟩ := h41
          have FT42 := FS33.tr (fT42.sub (m := 2147487811) (by decide))
          have q43 : (ge T42 0 0 11).toInt = (0 : Int32).toInt := congrArg Int32.toInt (show ge T42 0 0 11 = (0 : Int32) from ((fT42.1 0 0 11 rfl).trans (by rw [E33]; exact (ge_puj (by decide)).trans ((fT30.1 0 0 11 rfl).trans (by rw [E8]; exact ge_pus)))))
          have q44 : (ge T42 0 0 11).toInt = (0 : Int32).toInt := congrArg Int32.toInt (show ge T42 0 0 11 = (0 : Int32) from ((fT42.1 0 0 11 rfl).trans (by rw [E33]; exact (ge_puj (by decide)).trans ((fT30.1 0 0 11 rfl).trans (by rw [E8]; exact ge_pus)))))
          exact zk_some ⟨RT42, FT42, GT42, by (try dsimp only) <;> omega⟩
        ·
          have q45 : (ge S33 0 0 11).toInt = (0 : Int32).toInt := congrArg Int32.toInt (show ge S33 0 0 11 = (0 : Int32) from (by rw [E33]; exact (ge_puj (by decide)).trans ((fT30.1 0 0 11 rfl).trans (by rw [E8]; exact ge_pus))))
          refine zk_bd (s_F_X6_keepLaw _ RS33 GS33) (fun v46 T47 h46 => ?_)
          obtain ⟨RT47, fT47, GT47, h46⟩ := h46
          have FT47 := FS33.tr (fT47.sub (m := 2147487811) (by decide))
          have q48 : (ge T47 0 0 11).toInt = (0 : Int32).toInt := congrArg Int32.toInt (show ge T47 0 0 11 = (0 : Int32) from ((fT47.1 0 0 11 rfl).trans (by rw [E33]; exact (ge_puj (by decide)).trans ((fT30.1 0 0 11 rfl).trans (by rw [E8]; exact ge_pus)))))
          have q49 : (ge T47 0 0 11).toInt = (0 : Int32).toInt := congrArg Int32.toInt (show ge T47 0 0 11 = (0 : Int32) from ((fT47.1 0 0 11 rfl).trans (by rw [E33]; exact (ge_puj (by decide)).trans ((fT30.1 0 0 11 rfl).trans (by rw [E8]; exact ge_pus)))))
          exact zk_some ⟨RT47, FT47, GT47, by (try dsimp only) <;> omega⟩
  ·
    obtain ⟨rfl, h5⟩ := h5
    try dsimp only at h5
    exact ⟨RS0, FS0, GS0, by (try dsimp only) <;> omega⟩
theorem s2_F_X6_image (S0 : fS) (RS0 : RI S0) (GS0 : GI S0) : zk (F_X6_image S0) (fun v S9 => RI S9 ∧ Fr 2147485625 S0 S9 ∧ GI S9 ∧ (((ge S0 0 0 3).toInt = 3 ∧ (ge S9 0 0 3).toInt = 3 ∧ v.toInt = -1) ∨ ((ge S0 0 0 3).toInt ≤ 2 ∧ (ge S9 0 0 3).toInt = (ge S0 0 0 3).toInt + 1 ∧ v.toInt = (ge S9 0 0 3).toInt))) := by
  have lm1 : (-1 : Int32).toInt = -1 := by decide
  have l0 : (0 : Int32).toInt = 0 := by decide
  have l1 : (1 : Int32).toInt = 1 := by decide
  have l3 : (3 : Int32).toInt = 3 := by decide
  have FS0 : Fr 2147485625 S0 S0 := Fr.rf
  unfold F_X6_image
  obtain ⟨y1, ey1⟩ : ∃ y : Int32, y = ge S0 0 0 3 := ⟨_, rfl⟩
  have gy1 : 0 ≤ y1.toInt ∧ y1.toInt ≤ 3 := by rw [ey1]; exact RS0 0 _ _
  have q2 : (ge S0 0 0 3).toInt = y1.toInt := congrArg Int32.toInt (show ge S0 0 0 3 = y1 from ey1.symm)
  refine zk_ivq (x := y1) ey1.symm ?_
  refine zk_lt (fun c3 => ?_) (fun c3 => ?_)
  ·
    refine zk_ivq (x := y1) ey1.symm ?_
    refine zk_gd ⟨by omega, by omega⟩ ?_
    have q4 : (ge S0 0 0 3).toInt = y1.toInt := congrArg Int32.toInt (show ge S0 0 0 3 = y1 from ey1.symm)
    refine zk_bd (s_F_X0_copyFrom _ _ _ RS0 GS0 (by omega)) (fun v5 T6 h5 => ?_)
    obtain ⟨RT6, fT6, GT6, h5⟩ := h5
    have FT6 := FS0.tr (fT6.sub (m := 2147485625) (by decide))
    have q7 : (ge T6 0 0 3).toInt = y1.toInt := congrArg Int32.toInt (show ge T6 0 0 3 = y1 from ((fT6.1 0 0 3 rfl).trans ey1.symm))
    refine zk_ivq (x := y1) ((fT6.1 0 0 3 rfl).trans ey1.symm) ?_
    refine zk_iv fun x8 e8 => ?_
    have gx8 : x8.toInt = y1.toInt + (1 : Int32).toInt := by rw [e8]; exact ti_add (by omega) (by omega)
    refine zk_sv fun S9 E9 => ?_
    have RS9 : RI S9 := by rw [E9]; exact RT6.wr (show (0 : Int) ≤ x8.toInt by omega) (show x8.toInt ≤ 3 by omega)
    have FS9 : Fr 2147485625 S0 S9 := by rw [E9]; exact FT6.wr (k := 3) rfl rfl
    have GS9 : GI S9 := by rw [E9]; exact GT6.wr (k := 3) rfl (by decide)
    refine zk_ivq (x := x8) (by rw [E9]; exact ge_pus) ?_
    have q10 : (ge S9 0 0 3).toInt = x8.toInt := congrArg Int32.toInt (show ge S9 0 0 3 = x8 from (by rw [E9]; exact ge_pus))
    exact zk_some ⟨RS9, FS9, GS9, by omega⟩
  ·
    have q11 : (ge S0 0 0 3).toInt = y1.toInt := congrArg Int32.toInt (show ge S0 0 0 3 = y1 from ey1.symm)
    exact zk_some ⟨RS0, FS0, GS0, by omega⟩
theorem s2_F_X6_restore (S0 : fS) (RS0 : RI S0) (GS0 : GI S0) : zk (F_X6_restore S0) (fun v S9 => RI S9 ∧ Fr 2147485625 S0 S9 ∧ GI S9 ∧ (((ge S0 0 0 3).toInt = 0 ∧ (ge S9 0 0 3).toInt = 0 ∧ v.toInt = -1) ∨ (1 ≤ (ge S0 0 0 3).toInt ∧ (ge S9 0 0 3).toInt = (ge S0 0 0 3).toInt - 1 ∧ v.toInt = (ge S9 0 0 3).toInt))) := by
  have lm1 : (-1 : Int32).toInt = -1 := by decide
  have l0 : (0 : Int32).toInt = 0 := by decide
  have l1 : (1 : Int32).toInt = 1 := by decide
  have l3 : (3 : Int32).toInt = 3 := by decide
  have FS0 : Fr 2147485625 S0 S0 := Fr.rf
  unfold F_X6_restore
  obtain ⟨y1, ey1⟩ : ∃ y : Int32, y = ge S0 0 0 3 := ⟨_, rfl⟩
  have gy1 : 0 ≤ y1.toInt ∧ y1.toInt ≤ 3 := by rw [ey1]; exact RS0 0 _ _
  have q2 : (ge S0 0 0 3).toInt = y1.toInt := congrArg Int32.toInt (show ge S0 0 0 3 = y1 from ey1.symm)
  refine zk_ivq (x := y1) ey1.symm ?_
  refine zk_lt (fun c3 => ?_) (fun c3 => ?_)
  ·
    refine zk_ivq (x := y1) ey1.symm ?_
    refine zk_iv fun x4 e4 => ?_
    have gx4 : x4.toInt = y1.toInt - (1 : Int32).toInt := by rw [e4]; exact ti_sub (by omega) (by omega)
    refine zk_sv fun S5 E5 => ?_
    have RS5 : RI S5 := by rw [E5]; exact RS0.wr (show (0 : Int) ≤ x4.toInt by omega) (show x4.toInt ≤ 3 by omega)
    have FS5 : Fr 2147485625 S0 S5 := by rw [E5]; exact FS0.wr (k := 3) rfl rfl
    have GS5 : GI S5 := by rw [E5]; exact GS0.wr (k := 3) rfl (by decide)
    refine zk_ivq (x := x4) (by rw [E5]; exact ge_pus) ?_
    refine zk_gd ⟨by omega, by omega⟩ ?_
    have q6 : (ge S5 0 0 3).toInt = x4.toInt := congrArg Int32.toInt (show ge S5 0 0 3 = x4 from (by rw [E5]; exact ge_pus))
    refine zk_bd (s_F_X0_copyFrom _ _ _ RS5 GS5 (by omega)) (fun v7 T8 h7 => ?_)
    obtain ⟨RT8, fT8, GT8, h7⟩ := h7
    have FT8 := FS5.tr (fT8.sub (m := 2147485625) (by decide))
    have q9 : (ge T8 0 0 3).toInt = x4.toInt := congrArg Int32.toInt (show ge T8 0 0 3 = x4 from ((fT8.1 0 0 3 rfl).trans (by rw [E5]; exact ge_pus)))
    refine zk_ivq (x := x4) ((fT8.1 0 0 3 rfl).trans (by rw [E5]; exact ge_pus)) ?_
    have q10 : (ge T8 0 0 3).toInt = x4.toInt := congrArg Int32.toInt (show ge T8 0 0 3 = x4 from ((fT8.1 0 0 3 rfl).trans (by rw [E5]; exact ge_pus)))
    exact zk_some ⟨RT8, FT8, GT8, by omega⟩
  ·
    have q11 : (ge S0 0 0 3).toInt = y1.toInt := congrArg Int32.toInt (show ge S0 0 0 3 = y1 from ey1.symm)
    exact zk_some ⟨RS0, FS0, GS0, by omega⟩
theorem s2_F_X6_needElement (p0 : Int32) (p1 : Int32) (S0 : fS) (RS0 : RI S0) (hp : 0 ≤ p1.toInt) : zk (F_X6_needElement p0 p1 S0) (fun v S9 => S0 = S9 ∧ ((v.1 = 0 ∧ 0 ≤ p0.toInt ∧ p0.toInt < p1.toInt) ∨ (v.1 = 3 ∧ (p0.toInt < 0 ∨ p1.toInt ≤ p0.toInt)))) := by
  have l0 : (0 : Int32).toInt = 0 := by decide
  have l1 : (1 : Int32).toInt = 1 := by decide
  have l3 : (3 : Int32).toInt = 3 := by decide
  unfold F_X6_needElement
  refine zk_iv fun x1 e1 => ?_
  have b2 := ti_bd p1
  have gx1 : x1.toInt = p1.toInt - (1 : Int32).toInt := by rw [e1]; exact ti_sub (by omega) (by omega)
  refine zk_bd (s2_F_X6_within _ _ _ _ RS0) (fun v3 T4 h3 => ?_)
  obtain ⟨rfl, h3⟩ := h3
  refine zk_eq (fun c5 => ?_) (fun c5 => ?_)
  ·
    exact zk_some ⟨rfl, by (try dsimp only) <;> omega⟩
  ·
    exact zk_some ⟨rfl, by (try dsimp only) <;> omega⟩
