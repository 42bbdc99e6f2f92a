/-! the pure part: the reference, tries -/
theorem s_B_X7_triesAt_116 (a3 : Int32) (S : fS) (RS : RI S) : zk (B_X7_triesAt_116 a3 S) (fun v S9 => RI S9 ∧ Fr 65536 S S9 ∧ True) := by
  have l0 : (0 : Int32).toInt = 0 := by decide
  have l1 : (1 : Int32).toInt = 1 := by decide
  have l5 : (5 : Int32).toInt = 5 := by decide
  have l32 : (32 : Int32).toInt = 32 := by decide
  have l35 : (35 : Int32).toInt = 35 := by decide
  have l36 : (36 : Int32).toInt = 36 := by decide
  have l37 : (37 : Int32).toInt = 37 := by decide
  have l38 : (38 : Int32).toInt = 38 := by decide
  have l43 : (43 : Int32).toInt = 43 := by decide
  have FS : Fr 65536 S S := Fr.rf
  unfold B_X7_triesAt_116
  refine zk_iv fun x1 e1 => ?_
  refine zk_iv fun x2 e2 => ?_
  refine zk_sv fun S3 E3 => ?_
  have RS3 : RI S3 := by rw [E3]; exact RS.wf rfl
  have FS3 : Fr 65536 S S3 := by rw [E3]; exact FS.wr (k := 16) rfl rfl
  have b4 := ti_bd a3
  refine zk_eq (fun c5 => ?_) (fun c5 => ?_)
  ·
    unfold B_X7_triesAt_142
    refine zk_sv fun S6 E6 => ?_
    have RS6 : RI S6 := by rw [E6]; exact RS3.wf rfl
    have FS6 : Fr 65536 S S6 := by rw [E6]; exact FS3.wr (k := 16) rfl rfl
    refine zk_iv fun x7 e7 => ?_
    refine zk_iv fun x8 e8 => ?_
    refine zk_iv fun x9 e9 => ?_
    refine zk_sv fun S10 E10 => ?_
    have RS10 : RI S10 := by rw [E10]; exact RS6.wf rfl
    have FS10 : Fr 65536 S S10 := by rw [E10]; exact FS6.wr (k := 16) rfl rfl
    refine zk_iv fun x11 e11 => ?_
    refine zk_iv fun x12 e12 => ?_
    refine zk_iv fun x13 e13 => ?_
    refine zk_sv fun S14 E14 => ?_
    have RS14 : RI S14 := by rw [E14]; exact RS10.wf rfl
    have FS14 : Fr 65536 S S14 := by rw [E14]; exact FS10.wr (k := 16) rfl rfl
    exact zk_some ⟨RS14, FS14, trivial⟩
  ·
    refine zk_iv fun x15 e15 => ?_
    refine zk_iv fun x16 e16 => ?_
    unfold B_X7_triesAt_142
    refine zk_sv fun S17 E17 => ?_
    have RS17 : RI S17 := by rw [E17]; exact RS3.wf rfl
    have FS17 : Fr 65536 S S17 := by rw [E17]; exact FS3.wr (k := 16) rfl rfl
    refine zk_iv fun x18 e18 => ?_
    refine zk_iv fun x19 e19 => ?_
    refine zk_iv fun x20 e20 => ?_
    refine zk_sv fun S21 E21 => ?_
    have RS21 : RI S21 := by rw [E21]; exact RS17.wf rfl
    have FS21 : Fr 65536 S S21 := by rw [E21]; exact FS17.wr (k := 16) rfl rfl
    refine zk_iv fun x22 e22 => ?_
    refine zk_iv fun x23 e23 => ?_
    refine zk_iv fun x24 e24 => ?_
    refine zk_sv fun S25 E25 => ?_
    have RS25 : RI S25 := by rw [E25]; exact RS21.wf rfl
    have FS25 : Fr 65536 S S25 := by rw [E25]; exact FS21.wr (k := 16) rfl rfl
    exact zk_some ⟨RS25, FS25, trivial⟩
section TRS
variable {S T U : fS}
theorem h7_t41 (z : Int32 × Int32) (RS : RI S) (h : HSm S) (hz : 0 ≤ z.2.toInt ∧ z.2.toInt ≤ 5) (hl : z.1.toInt = 3 → 0 ≤ (ge S 40 0 42).toInt ∧ (ge S 40 0 42).toInt ≤ 63) (hq : GQ S z.2.toInt) : zk (lp (B_X7_triesAt_41) fuel z S) (fun _ T => RI T ∧ Fr 16842752 S T ∧ HSm T) := by
  have l3 : (3 : Int32).toInt = 3 := by decide
  have lm1 : (-1 : Int32).toInt = -1 := by decide
  refine zk_lp (fun (z : Int32 × Int32) S => RI S ∧ HSm S ∧ (0 ≤ z.2.toInt ∧ z.2.toInt ≤ 5) ∧ (z.1.toInt = 3 → 0 ≤ (ge S 40 0 42).toInt ∧ (ge S 40 0 42).toInt ≤ 63) ∧ GQ S z.2.toInt) (fun (z : Int32 × Int32) _ => (5 - z.2.toInt).toNat) (fun _ S (_ : Int32) T => RI T ∧ Fr 16842752 S T ∧ HSm T) ?_ z S ⟨RS, h, hz, hl, hq⟩ (by show (5 - z.2.toInt).toNat < 4294967296; omega)
  clear RS h hz hl hq
  intro k z S hI hk
  obtain ⟨a3, a4⟩ := z
  obtain ⟨RS, h, hz, hl, hq⟩ := hI
  dsimp only at hz hl hq
  have g : (ge S 40 0 40).toInt ≤ 5 := (RS 40 0 40).2
  have gn : (ge S 40 0 21).toInt ≤ 24 := (RS 40 0 21).2
  have hc := cn_eq hz.1
  have E0 : zk (B_X7_triesAt_116 a3 S) (fun _ T => RI T ∧ Fr 16842752 S T ∧ HSm T) := zk_imp (s_B_X7_triesAt_116 a3 S RS) (fun v T q => ⟨q.1, q.2.1.sub (by decide), h.fr q.2.1 rfl rfl⟩)
  have M : (a4.toInt < (ge S 40 0 40).toInt) → zk (B_X7_triesAt_60 k a3 a4 S) (fun _ T => RI T ∧ Fr 16842752 S T ∧ HSm T) := by
    intro hlt
    unfold B_X7_triesAt_60
    refine zk_gd ⟨by omega, by omega⟩ ?_
    refine zk_iv fun x e => ?_
    obtain ⟨q1, q2, q3⟩ := hq.1 a4.toNatClampNeg (by omega) (by omega)
    rw [← e] at q1 q2 q3
    have hx := cn_eq q1
    have J : ∀ U : fS, RI U → Fr 16842752 S U → HSm U → ge U 40 0 42 = ge S 40 0 42 → (∀ i : Nat, i ≠ x.toNatClampNeg → ge U 50 0 i = ge S 50 0 i) → zk (B_X7_triesAt_110 k a3 a4 U) (fun _ T => RI T ∧ Fr 16842752 S T ∧ HSm T) := by
      intro U RU FU HU e42 e50
      have e40 : ge U 40 0 40 = ge S 40 0 40 := FU.1 40 0 40 rfl
      have e21 : ge U 40 0 21 = ge S 40 0 21 := FU.1 40 0 21 rfl
      have e55 : ∀ j : Nat, ge U 55 0 j = ge S 55 0 j := fun j => FU.1 55 0 j (by rw [show rgn 55 j = 34 from rfl]; rfl)
      unfold B_X7_triesAt_110
      refine zk_iv fun y ey => ?_
      have gy : y.toInt = a4.toInt + 1 := by rw [ey]; exact ti_inc (by omega)
      refine zk_imp (hk (a3, y) U ⟨RU, HU, ⟨by dsimp only; omega, by dsimp only; omega⟩, fun q => by rw [e42]; exact hl q, fun j q1 q2 => ?_, fun j j' q1 q2 q3 => ?_⟩ (by show (5 - y.toInt).toNat < (5 - a4.toInt).toNat; omega)) (fun v V q => ⟨q.1, FU.tr q.2.1, q.2.2⟩)
      · dsimp only at q1
        rw [e40] at q2
        rw [e55, e21]
        obtain ⟨r1, r2, r3⟩ := hq.1 j (by omega) q2
        refine ⟨r1, r2, ?_⟩
        rw [e50 _ (fun z => ?_)]
        · exact r3
        · have hj := cn_eq r1
          have := hq.2 j a4.toNatClampNeg q2 (by omega) (of_toInt (by rw [← e]; omega))
          omega
      · rw [e40] at q1 q2
        rw [e55, e55] at q3
        exact hq.2 j j' q1 q2 q3
    refine zk_bd (h7_goes x (-1) S RS h ⟨q1, q2, by decide, by decide⟩ q3) (fun _ T q => ?_)
    obtain ⟨RT, FT, HT, e50⟩ := q
    have FT' : Fr 16842752 S T := FT.sub (by decide)
    have t42 : ge T 40 0 42 = ge S 40 0 42 := FT.1 40 0 42 rfl
    have t21 : ge T 40 0 21 = ge S 40 0 21 := FT.1 40 0 21 rfl
    refine zk_eq (fun c => ?_) (fun _ => ?_)
    · refine zk_iv fun x13 e13 => ?_
      have g13 : 0 ≤ x13.toInt ∧ x13.toInt ≤ 63 := by rw [e13, t42]; exact hl (by omega)
      refine zk_bd (h7_puts x x13 T RT HT ⟨q1, by rw [t21]; exact q2, g13.1, g13.2⟩ (by rw [e50, if_pos rfl]; decide)) (fun _ V q => ?_)
      obtain ⟨RV, FV, HV, f50⟩ := q
      exact J V RV (FT'.tr (FV.sub (by decide))) HV ((FV.1 40 0 42 rfl).trans t42) (fun i hi => by rw [f50, if_neg hi, e50, if_neg hi])
    · refine zk_iv fun x8 _ => ?_
      refine zk_gd ⟨by omega, by omega⟩ ?_
      refine zk_iv fun x10 _ => ?_
      refine zk_iv fun x11 _ => ?_
      refine zk_sv fun V E => ?_
      have RV : RI V := by rw [E]; exact RT.wf rfl
      have FV : Fr 65536 T V := by rw [E]; exact Fr.rf.wr (k := 16) rfl rfl
      exact J V RV (FT'.tr (FV.sub (by decide))) (HT.fr FV rfl rfl) (by rw [E, ge_puj (by decide)]; exact t42) (fun i hi => by rw [E, ge_pua (by decide), e50, if_neg hi])
  unfold B_X7_triesAt_41
  dsimp only
  refine zk_iv fun x e => ?_
  subst e
  refine zk_le (fun _ => E0) (fun c => ?_)
  exact zk_eq (fun _ => M c) (fun _ => zk_eq (fun _ => M c) (fun _ => E0))
theorem s_F_X7_triesAt (p1 p2 : Int32) (S0 : fS) (RS0 : RI S0) (GS0 : HI S0) (hp : 0 ≤ p1.toInt ∧ p1.toInt ≤ 63) : zk (F_X7_triesAt p1 p2 S0) (fun v S9 => RI S9 ∧ Fr 30652039168 S0 S9 ∧ HI S9 ∧ True) := by
  unfold F_X7_triesAt
  refine zk_bd (s_F_X7_namesOf 1 S0 RS0) (fun _ T1 q => ?_)
  obtain ⟨R1, f1, _⟩ := q
  have F1 : Fr 30652039168 S0 T1 := f1.sub (by decide)
  refine zk_iv fun x e => ?_
  have g : -1 ≤ x.toInt ∧ x.toInt ≤ 5 := by rw [e]; exact R1 40 0 15
  refine zk_bd (s_F_X7_tellsBy x p2 T1 R1 g) (fun _ T2 q => ?_)
  obtain ⟨R2, f2, _⟩ := q
  have F2 := F1.tr (f2.sub (m := 30652039168) (by decide))
  have H2 : HI T2 := (GS0.fr f1 rfl).fr f2 rfl
  refine zk_iv fun x43 _ => ?_
  refine zk_iv fun x44 _ => ?_
  refine zk_bd (t7_wouldBe p1 x43 x44 T2 R2 hp) (fun v T3 q => ?_)
  obtain ⟨R3, f3, G3, _, _, hl⟩ := q
  have F3 := F2.tr (f3.sub (m := 30652039168) (by decide))
  have H3 : HI T3 := H2.fr f3 rfl
  refine zk_sv fun S4 E4 => ?_
  refine zk_sv fun S5 E5 => ?_
  have w4 := GO.w (S := T3) (j := 41) (v := v) R3 Fr.rf G3 rfl rfl (by decide)
  rw [← E4] at w4
  have w5 := GO.w (S := T3) (j := 43) (v := 0) w4.1 w4.2.1 w4.2.2 rfl rfl (by decide)
  rw [← E5] at w5
  have F5 := F3.tr (w5.2.1.sub (m := 30652039168) (by decide))
  have H5 : HI S5 := H3.fr w5.2.1 rfl
  have e42 : ge S5 40 0 42 = ge T3 40 0 42 := by rw [E5, ge_puj (by decide), E4, ge_puj (by decide)]
  refine zk_imp (h7_t41 (v, 0) w5.1 H5.1 ⟨by show (0 : Int) ≤ (0 : Int32).toInt; decide, by show (0 : Int32).toInt ≤ 5; decide⟩ (fun q => by rw [e42]; exact hl q) (w5.2.2.q H5.1 w5.1)) (fun v2 T q => ?_)
  obtain ⟨RT, FT, HT⟩ := q
  exact ⟨RT, F5.tr (FT.sub (by decide)), H5.hs HT FT rfl, trivial⟩
end TRS
theorem s_F_X7_grips (p1 : Int32) (S0 : fS) (RS0 : RI S0) (hp : 0 ≤ p1.toInt ∧ p1.toInt ≤ 63) : zk (F_X7_grips p1 S0) (fun v T => RI T ∧ Fr 17179934720 S0 T ∧ True) := zk_imp (t7_grips p1 S0 RS0 hp) (fun v T q => ⟨q.1, q.2.1, trivial⟩)
theorem s_B_X7_attemptAt_35L  (z : Int32 × Nat × Int32) (S : fS) (RS : RI S) (GS : HI S) (hi : 0 ≤ z.1.toInt ∧ z.1.toInt ≤ 63 ∧ 0 ≤ z.2.2.toInt ∧ z.2.2.toInt ≤ 5 ∧ (ge S 40 0 46).toInt ≤ 199) (hm : (5 - z.2.2.toInt).toNat < 4294967296) : zk (lp (B_X7_attemptAt_35L) fuel z S) (fun v S9 => RI S9 ∧ Fr 30662524928 S S9 ∧ HI S9 ∧ True) := by
  have lm1 : (-1 : Int32).toInt = -1 := by decide
  have l0 : (0 : Int32).toInt = 0 := by decide
  have l1 : (1 : Int32).toInt = 1 := by decide
  have l2 : (2 : Int32).toInt = 2 := by decide
  have l3 : (3 : Int32).toInt = 3 := by decide
  have l4 : (4 : Int32).toInt = 4 := by decide
  have l5 : (5 : Int32).toInt = 5 := by decide
  have l10 : (10 : Int32).toInt = 10 := by decide
  have l11 : (11 : Int32).toInt = 11 := by decide
  have l12 : (12 : Int32).toInt = 12 := by decide
  have l15 : (15 : Int32).toInt = 15 := by decide
  have l30 : (30 : Int32).toInt = 30 := by decide
  have l41 : (41 : Int32).toInt = 41 := by decide
  have l42 : (42 : Int32).toInt = 42 := by decide
  have l44 : (44 : Int32).toInt = 44 := by decide
  have l45 : (45 : Int32).toInt = 45 := by decide
  have l46 : (46 : Int32).toInt = 46 := by decide
  have lo1 : (Int32.ofInt 1).toInt = 1 := by decide
  refine zk_lp (fun z S => RI S ∧ HI S ∧ (0 ≤ z.1.toInt ∧ z.1.toInt ≤ 63 ∧ 0 ≤ z.2.2.toInt ∧ z.2.2.toInt ≤ 5 ∧ (ge S 40 0 46).toInt ≤ 199)) (fun z S => (5 - z.2.2.toInt).toNat) (fun z S (v : Int32) S9 => RI S9 ∧ Fr 30662524928 S S9 ∧ HI S9 ∧ True) ?_ z S ⟨RS, GS, hi⟩ hm
  clear RS hi hm GS
  intro k z S hI hk
  obtain ⟨RS, GS, hI⟩ := hI
  obtain ⟨a1, a2, a3⟩ := z
  (try dsimp only at hI); (try dsimp only at hk); (try dsimp only)
  have FS : Fr 30662524928 S S := Fr.rf
  unfold B_X7_attemptAt_35L
  dsimp only
  obtain ⟨y1, ey1⟩ : ∃ y : Int32, y = ge S 40 0 46 := ⟨_, rfl⟩
  have gy1 : 0 ≤ y1.toInt ∧ y1.toInt ≤ 200 := by rw [ey1]; exact RS 40 _ _
  have q2 : (ge S 40 0 46).toInt = y1.toInt := congrArg Int32.toInt (show ge S 40 0 46 = y1 from ey1.symm)
  refine zk_le (fun c3 => ?_) (fun c3 => ?_)
  ·
    refine zk_iv fun x4 e4 => ?_
    have gx4 : -1 ≤ x4.toInt ∧ x4.toInt ≤ 5 := by rw [e4]; exact RS 40 _ _
    have q5 : (ge S 40 0 46).toInt = y1.toInt := congrArg Int32.toInt (show ge S 40 0 46 = y1 from ey1.symm)
    refine zk_bd (s_F_X7_lotsBy _ _ RS (by omega)) (fun v6 T7 h6 => ?_)
    obtain ⟨RT7, fT7, h6⟩ := h6
    have FT7 := FS.tr (fT7.sub (m := 30662524928) (by decide))
    have GT7 := GS.fr fT7 rfl
    have q8 : (ge T7 40 0 46).toInt = y1.toInt := congrArg Int32.toInt (show ge T7 40 0 46 = y1 from ((fT7.1 40 0 46 rfl).trans ey1.symm))
    refine zk_le (fun c9 => ?_) (fun c9 => ?_)
    ·
      unfold B_X7_attemptAt_80L
      refine zk_iv fun x10 e10 => ?_
      have gx10 : 0 ≤ x10.toInt ∧ x10.toInt ≤ 63 := by rw [e10]; exact RT7 40 _ _
      have q11 : (ge T7 40 0 46).toInt = y1.toInt := congrArg Int32.toInt (show ge T7 40 0 46 = y1 from ((fT7.1 40 0 46 rfl).trans ey1.symm))
      refine zk_bd (s_F_X7_grips _ _ RT7 (by omega)) (fun v12 T13 h12 => ?_)
      obtain ⟨RT13, fT13, h12⟩ := h12
      have FT13 := FT7.tr (fT13.sub (m := 30662524928) (by decide))
      have GT13 := GT7.fr fT13 rfl
      have q14 : (ge T13 40 0 46).toInt = y1.toInt := congrArg Int32.toInt (show ge T13 40 0 46 = y1 from ((fT13.1 40 0 46 rfl).trans ((fT7.1 40 0 46 rfl).trans ey1.symm)))
      refine zk_iv fun x15 e15 => ?_
      refine zk_sv fun S16 E16 => ?_
      have RS16 : RI S16 := by rw [E16]; exact RT13.wf rfl
      have FS16 : Fr 30662524928 S S16 := by rw [E16]; exact FT13.wr (k := 16) rfl rfl
      have GS16 : HI S16 := by rw [E16]; exact GT13.wr (k := 16) rfl rfl
      refine zk_iv fun x17 e17 => ?_
      refine zk_sv fun S18 E18 => ?_
      have RS18 : RI S18 := by rw [E18]; exact RS16.wf rfl
      have FS18 : Fr 30662524928 S S18 := by rw [E18]; exact FS16.wr (k := 16) rfl rfl
      have GS18 : HI S18 := by rw [E18]; exact GS16.wr (k := 16) rfl rfl
      refine zk_sv fun S19 E19 => ?_
      have RS19 : RI S19 := by rw [E19]; exact RS18.wf rfl
      have FS19 : Fr 30662524928 S S19 := by rw [E19]; exact FS18.wr (k := 16) rfl rfl
      have GS19 : HI S19 := by rw [E19]; exact GS18.wr (k := 16) rfl rfl
      have q20 : (ge S19 40 0 46).toInt = y1.toInt := congrArg Int32.toInt (show ge S19 40 0 46 = y1 from (by rw [E19]; exact (ge_pua (by decide)).trans (by rw [E18]; exact (ge_pua (by decide)).trans (by rw [E16]; exact (ge_pua (by decide)).trans ((fT13.1 40 0 46 rfl).trans ((fT7.1 40 0 46 rfl).trans ey1.symm))))))
      refine zk_bd (s_F_X7_triesAt _ _ _ RS19 GS19 (by omega)) (fun v21 T22 h21 => ?_)
      obtain ⟨RT22, fT22, GT22, h21⟩ := h21
      have FT22 := FS19.tr (fT22.sub (m := 30662524928) (by decide))
      have q23 : (ge T22 40 0 46).toInt = y1.toInt := congrArg Int32.toInt (show ge T22 40 0 46 = y1 from ((fT22.1 40 0 46 rfl).trans (by rw [E19]; exact (ge_pua (by decide)).trans (by rw [E18]; exact (ge_pua (by decide)).trans (by rw [E16]; exact (ge_pua (by decide)).trans ((fT13.1 40 0 46 rfl).trans ((fT7.1 40 0 46 rfl).trans ey1.symm)))))))
      refine zk_sv fun S24 E24 => ?_
      have RS24 : RI S24 := by rw [E24]; exact RT22.wf rfl
      have FS24 : Fr 30662524928 S S24 := by rw [E24]; exact FT22.wr (k := 16) rfl rfl
      have GS24 : HI S24 := by rw [E24]; exact GT22.wr (k := 16) rfl rfl
      refine zk_iv fun x25 e25 => ?_
      refine zk_sv fun S26 E26 => ?_
      have RS26 : RI S26 := by rw [E26]; exact RS24.wf rfl
      have FS26 : Fr 30662524928 S S26 := by rw [E26]; exact FS24.wr (k := 16) rfl rfl
      have GS26 : HI S26 := by rw [E26]; exact GS24.wr (k := 16) rfl rfl
      refine zk_ivq (x := x25) (by rw [E26]; exact (ge_pua (by decide)).trans e25.symm) ?_
      have b27 := ti_bd x25
      refine zk_eq (fun c28 => ?_) (fun c28 => ?_)
      ·
        refine zk_iv fun x29 e29 => ?_
        unfold B_X7_attemptAt_151L
        refine zk_gd ⟨by omega, by omega⟩ ?_
        refine zk_sv fun S30 E30 => ?_
        have RS30 : RI S30 := by rw [E30]; exact RS26.wf rfl
        have FS30 : Fr 30662524928 S S30 := by rw [E30]; exact FS26.wr (k := 16) rfl rfl
        have GS30 : HI S30 := by rw [E30]; exact GS26.wr (k := 16) rfl rfl
        refine zk_sv fun S31 E31 => ?_
        have RS31 : RI S31 := by rw [E31]; exact RS30.wf rfl
        have FS31 : Fr 30662524928 S S31 := by rw [E31]; exact FS30.wr (k := 16) rfl rfl
        have GS31 : HI S31 := by rw [E31]; exact GS30.wr (k := 16) rfl rfl
        refine zk_ivq (x := y1) (by rw [E31]; exact (ge_pua (by decide)).trans (by rw [E30]; exact (ge_pua (by decide)).trans (by rw [E26]; exact (ge_pua (by decide)).trans (by rw [E24]; exact (ge_pua (by decide)).trans ((fT22.1 40 0 46 rfl).trans (by rw [E19]; exact (ge_pua (by decide)).trans (by rw [E18]; exact (ge_pua (by decide)).trans (by rw [E16]; exact (ge_pua (by decide)).trans ((fT13.1 40 0 46 rfl).trans ((fT7.1 40 0 46 rfl).trans ey1.symm)))))))))) ?_
        refine zk_iv fun x32 e32 => ?_
        have gx32 : x32.toInt = y1.toInt + (1 : Int32).toInt := by rw [e32]; exact ti_add (by omega) (by omega)
        refine zk_sv fun S33 E33 => ?_
        have RS33 : RI S33 := by rw [E33]; exact RS31.wr (show (0 : Int) ≤ x32.toInt by omega) (show x32.toInt ≤ 200 by omega)
        have FS33 : Fr 30662524928 S S33 := by rw [E33]; exact FS31.wr (k := 21) rfl rfl
        have GS33 : HI S33 := by rw [E33]; exact GS31.wr (k := 21) rfl rfl
        refine zk_ivq (x := x25) (by rw [E33]; exact (ge_puj (by decide)).trans (by rw [E31]; exact (ge_pua (by decide)).trans (by rw [E30]; exact (ge_pua (by decide)).trans (by rw [E26]; exact (ge_pua (by decide)).trans e25.symm)))) ?_
        have q34 : (ge S33 40 0 46).toInt = x32.toInt := congrArg Int32.toInt (show ge S33 40 0 46 = x32 from (by rw [E33]; exact ge_pus))
        exact zk_some ⟨RS33, FS33, GS33, trivial⟩
      ·
        unfold B_X7_attemptAt_151L
        refine zk_gd ⟨by omega, by omega⟩ ?_
        refine zk_sv fun S35 E35 => ?_
        have RS35 : RI S35 := by rw [E35]; exact RS26.wf rfl
        have FS35 : Fr 30662524928 S S35 := by rw [E35]; exact FS26.wr (k := 16) rfl rfl
        have GS35 : HI S35 := by rw [E35]; exact GS26.wr (k := 16) rfl rfl
        refine zk_sv fun S36 E36 => ?_
        have RS36 : RI S36 := by rw [E36]; exact RS35.wf rfl
        have FS36 : Fr 30662524928 S S36 := by rw [E36]; exact FS35.wr (k := 16) rfl rfl
        have GS36 : HI S36 := by rw [E36]; exact GS35.wr (k := 16) rfl rfl
        refine zk_ivq (x := y1) (by rw [E36]; exact (ge_pua (by decide)).trans (by rw [E35]; exact (ge_pua (by decide)).trans (by rw [E26]; exact (ge_pua (by decide)).trans (by rw [E24]; exact (ge_pua (by decide)).trans ((fT22.1 40 0 46 rfl).trans (by rw [E19]; exact (ge_pua (by decide)).trans (by rw [E18]; exact (ge_pua (by decide)).trans (by rw [E16]; exact (ge_pua (by decide)).trans ((fT13.1 40 0 46 rfl).trans ((fT7.1 40 0 46 rfl).trans ey1.symm)))))))))) ?_
        refine zk_iv fun x37 e37 => ?_
        have gx37 : x37.toInt = y1.toInt + (1 : Int32).toInt := by rw [e37]; exact ti_add (by omega) (by omega)
        refine zk_sv fun S38 E38 => ?_
        have RS38 : RI S38 := by rw [E38]; exact RS36.wr (show (0 : Int) ≤ x37.toInt by omega) (show x37.toInt ≤ 200 by omega)
        have FS38 : Fr 30662524928 S S38 := by rw [E38]; exact FS36.wr (k := 21) rfl rfl
        have GS38 : HI S38 := by rw [E38]; exact GS36.wr (k := 21) rfl rfl
        refine zk_ivq (x := x25) (by rw [E38]; exact (ge_puj (by decide)).trans (by rw [E36]; exact (ge_pua (by decide)).trans (by rw [E35]; exact (ge_pua (by decide)).trans (by rw [E26]; exact (ge_pua (by decide)).trans e25.symm)))) ?_
        have q39 : (ge S38 40 0 46).toInt = x37.toInt := congrArg Int32.toInt (show ge S38 40 0 46 = x37 from (by rw [E38]; exact ge_pus))
        exact zk_some ⟨RS38, FS38, GS38, trivial⟩
    ·
      have q40 : (ge T7 40 0 46).toInt = y1.toInt := congrArg Int32.toInt (show ge T7 40 0 46 = y1 from ((fT7.1 40 0 46 rfl).trans ey1.symm))
      refine zk_bd (s_F_X7_draw _ _ RT7 (by omega)) (fun v41 T42 h41 => ?_)
      obtain ⟨RT42, fT42, h41⟩ := h41
      have FT42 := FT7.tr (fT42.sub (m := 30662524928) (by decide))
      have GT42 := GT7.fr fT42 rfl
      have q43 : (ge T42 40 0 46).toInt = y1.toInt := congrArg Int32.toInt (show ge T42 40 0 46 = y1 from ((fT42.1 40 0 46 rfl).trans ((fT7.1 40 0 46 rfl).trans ey1.symm)))
      unfold B_X7_attemptAt_80L
      refine zk_iv fun x44 e44 => ?_
      have gx44 : 0 ≤ x44.toInt ∧ x44.toInt ≤ 63 := by rw [e44]; exact RT42 40 _ _
      have q45 : (ge T42 40 0 46).toInt = y1.toInt := congrArg Int32.toInt (show ge T42 40 0 46 = y1 from ((fT42.1 40 0 46 rfl).trans ((fT7.1 40 0 46 rfl).trans ey1.symm)))
      refine zk_bd (s_F_X7_grips _ _ RT42 (by omega)) (fun v46 T47 h46 => ?_)
      obtain ⟨RT47, fT47, h46⟩ := h46
      have FT47 := FT42.tr (fT47.sub (m := 30662524928) (by decide))
      have GT47 := GT42.fr fT47 rfl
      have q48 : (ge T47 40 0 46).toInt = y1.toInt := congrArg Int32.toInt (show ge T47 40 0 46 = y1 from ((fT47.1 40 0 46 rfl).trans ((fT42.1 40 0 46 rfl).trans ((fT7.1 40 0 46 rfl).trans ey1.symm))))
      refine zk_iv fun x49 e49 => ?_
      refine zk_sv fun S50 E50 => ?_
      have RS50 : RI S50 := by rw [E50]; exact RT47.wf rfl
      have FS50 : Fr 30662524928 S S50 := by rw [E50]; exact FT47.wr (k := 16) rfl rfl
      have GS50 : HI S50 := by rw [E50]; exact GT47.wr (k := 16) rfl rfl
      refine zk_iv fun x51 e51 => ?_
      refine zk_sv fun S52 E52 => ?_
      have RS52 : RI S52 := by rw [E52]; exact RS50.wf rfl
      have FS52 : Fr 30662524928 S S52 := by rw [E52]; exact FS50.wr (k := 16) rfl rfl
      have GS52 : HI S52 := by rw [E52]; exact GS50.wr (k := 16) rfl rfl
      refine zk_sv fun S53 E53 => ?_
      have RS53 : RI S53 := by rw [E53]; exact RS52.wf rfl
      have FS53 : Fr 30662524928 S S53 := by rw [E53]; exact FS52.wr (k := 16) rfl rfl
      have GS53 : HI S53 := by rw [E53]; exact GS52.wr (k := 16) rfl rfl
      have q54 : (ge S53 40 0 46).toInt = y1.toInt := congrArg Int32.toInt (show ge S53 40 0 46 = y1 from (by rw [E53]; exact (ge_pua (by decide)).trans (by rw [E52]; exact (ge_pua (by decide)).trans (by rw [E50]; exact (ge_pua (by decide)).trans ((fT47.1 40 0 46 rfl).trans ((fT42.1 40 0 46 rfl).trans ((fT7.1 40 0 46 rfl).trans ey1.symm)))))))
      refine zk_bd (s_F_X7_triesAt _ _ _ RS53 GS53 (by omega)) (fun v55 T56 h55 => ?_)
      obtain ⟨RT56, fT56, GT56, h55⟩ := h55
      have FT56 := FS53.tr (fT56.sub (m := 30662524928) (by decide))
      have q57 : (ge T56 40 0 46).toInt = y1.toInt := congrArg Int32.toInt (show ge T56 40 0 46 = y1 from ((fT56.1 40 0 46 rfl).trans (by rw [E53]; exact (ge_pua (by decide)).trans (by rw [E52]; exact (ge_pua (by decide)).trans (by rw [E50]; exact (ge_pua (by decide)).trans ((fT47.1 40 0 46 rfl).trans ((fT42.1 40 0 46 rfl).trans ((fT7.1 40 0 46 rfl).trans ey1.symm))))))))
      refine zk_sv fun S58 E58 => ?_
      have RS58 : RI S58 := by rw [E58]; exact RT56.wf rfl
      have FS58 : Fr 30662524928 S S58 := by rw [E58]; exact FT56.wr (k := 16) rfl rfl
      have GS58 : HI S58 := by rw [E58]; exact GT56.wr (k := 16) rfl rfl
      refine zk_iv fun x59 e59 => ?_
      refine zk_sv fun S60 E60 => ?_
      have RS60 : RI S60 := by rw [E60]; exact RS58.wf rfl
      have FS60 : Fr 30662524928 S S60 := by rw [E60]; exact FS58.wr (k := 16) rfl rfl
      have GS60 : HI S60 := by rw [E60]; exact GS58.wr (k := 16) rfl rfl
      refine zk_ivq (x := x59) (by rw [E60]; exact (ge_pua (by decide)).trans e59.symm) ?_
      have b61 := ti_bd x59
      refine zk_eq (fun c62 => ?_) (fun c62 => ?_)
      ·
        refine zk_iv fun x63 e63 => ?_
        unfold B_X7_attemptAt_151L
        refine zk_gd ⟨by omega, by omega⟩ ?_
        refine zk_sv fun S64 E64 => ?_
        have RS64 : RI S64 := by rw [E64]; exact RS60.wf rfl
        have FS64 : Fr 30662524928 S S64 := by rw [E64]; exact FS60.wr (k := 16) rfl rfl
        have GS64 : HI S64 := by rw [E64]; exact GS60.wr (k := 16) rfl rfl
        refine zk_sv fun S65 E65 => ?_
        have RS65 : RI S65 := by rw [E65]; exact RS64.wf rfl
        have FS65 : Fr 30662524928 S S65 := by rw [E65]; exact FS64.wr (k := 16) rfl rfl
        have GS65 : HI S65 := by rw [E65]; exact GS64.wr (k := 16) rfl rfl
        refine zk_ivq (x := y1) (by rw [E65]; exact (ge_pua (by decide)).trans (by rw [E64]; exact (ge_pua (by decide)).trans (by rw [E60]; exact (ge_pua (by decide)).trans (by rw [E58]; exact (ge_pua (by decide)).trans ((fT56.1 40 0 46 rfl).trans (by rw [E53]; exact (ge_pua (by decide)).trans (by rw [E52]; exact (ge_pua (by decide)).trans (by rw [E50]; exact (ge_pua (by decide)).trans ((fT47.1 40 0 46 rfl).trans ((fT42.1 40 0 46 rfl).trans ((fT7.1 40 0 46 rfl).trans ey1.symm))))))))))) ?_
        refine zk_iv fun x66 e66 => ?_
        have gx66 : x66.toInt = y1.toInt + (1 : Int32).toInt := by rw [e66]; exact ti_add (by omega) (by omega)
        refine zk_sv fun S67 E67 => ?_
        have RS67 : RI S67 := by rw [E67]; exact RS65.wr (show (0 : Int) ≤ x66.toInt by omega) (show x66.toInt ≤ 200 by omega)
        have FS67 : Fr 30662524928 S S67 := by rw [E67]; exact FS65.wr (k := 21) rfl rfl
        have GS67 : HI S67 := by rw [E67]; exact GS65.wr (k := 21) rfl rfl
        refine zk_ivq (x := x59) (by rw [E67]; exact (ge_puj (by decide)).trans (by rw [E65]; exact (ge_pua (by decide)).trans (by rw [E64]; exact (ge_pua (by decide)).trans (by rw [E60]; exact (ge_pua (by decide)).trans e59.symm)))) ?_
        have q68 : (ge S67 40 0 46).toInt = x66.toInt := congrArg Int32.toInt (show ge S67 40 0 46 = x66 from (by rw [E67]; exact ge_pus))
        exact zk_some ⟨RS67, FS67, GS67, trivial⟩
      ·
        unfold B_X7_attemptAt_151L
        refine zk_gd ⟨by omega, by omega⟩ ?_
        refine zk_sv fun S69 E69 => ?_
        have RS69 : RI S69 := by rw [E69]; exact RS60.wf rfl
        have FS69 : Fr 30662524928 S S69 := by rw [E69]; exact FS60.wr (k := 16) rfl rfl
        have GS69 : HI S69 := by rw [E69]; exact GS60.wr (k := 16) rfl rfl
        refine zk_sv fun S70 E70 => ?_
        have RS70 : RI S70 := by rw [E70]; exact RS69.wf rfl
        have FS70 : Fr 30662524928 S S70 := by rw [E70]; exact FS69.wr (k := 16) rfl rfl
        have GS70 : HI S70 := by rw [E70]; exact GS69.wr (k := 16) rfl rfl
        refine zk_ivq (x := y1) (by rw [E70]; exact (ge_pua (by decide)).trans (by rw [E69]; exact (ge_pua (by decide)).trans (by rw [E60]; exact (ge_pua (by decide)).trans (by rw [E58]; exact (ge_pua (by decide)).trans ((fT56.1 40 0 46 rfl).trans (by rw [E53]; exact (ge_pua (by decide)).trans (by rw [E52]; exact (ge_pua (by decide)).trans (by rw [E50]; exact (ge_pua (by decide)).trans ((fT47.1 40 0 46 rfl).trans ((fT42.1 40 0 46 rfl).trans ((fT7.1 40 0 46 rfl).trans ey1.symm))))))))))) ?_
        refine zk_iv fun x71 e71 => ?_
        have gx71 : x71.toInt = y1.toInt + (1 : Int32).toInt := by rw [e71]; exact ti_add (by omega) (by omega)
        refine zk_sv fun S72 E72 => ?_
        have RS72 : RI S72 := by rw [E72]; exact RS70.wr (show (0 : Int) ≤ x71.toInt by omega) (show x71.toInt ≤ 200 by omega)
        have FS72 : Fr 30662524928 S S72 := by rw [E72]; exact FS70.wr (k := 21) rfl rfl
        have GS72 : HI S72 := by rw [E72]; exact GS70.wr (k := 21) rfl rfl
        refine zk_ivq (x := x59) (by rw [E72]; exact (ge_puj (by decide)).trans (by rw [E70]; exact (ge_pua (by decide)).trans (by rw [E69]; exact (ge_pua (by decide)).trans (by rw [E60]; exact (ge_pua (by decide)).trans e59.symm)))) ?_
        have q73 : (ge S72 40 0 46).toInt = x71.toInt := congrArg Int32.toInt (show ge S72 40 0 46 = x71 from (by rw [E72]; exact ge_pus))
        exact zk_some ⟨RS72, FS72, GS72, trivial⟩
  ·
    refine zk_iv fun x74 e74 => ?_
    have gx74 : x74.toInt = (4 : Int32).toInt + a3.toInt := by rw [e74]; exact ti_add (by omega) (by omega)
    refine zk_gd ⟨by omega, by omega⟩ ?_
    refine zk_iv fun x75 e75 => ?_
    refine zk_gd ⟨by omega, by omega⟩ ?_
    refine zk_sv fun S76 E76 => ?_
    have RS76 : RI S76 := by rw [E76]; exact RS.wf rfl
    have FS76 : Fr 30662524928 S S76 := by rw [E76]; exact FS.wr (k := 16) rfl rfl
    have GS76 : HI S76 := by rw [E76]; exact GS.wr (k := 16) rfl rfl
    refine zk_iv fun x77 e77 => ?_
    have gx77 : x77.toInt = a3.toInt + (Int32.ofInt 1).toInt := by rw [e77]; exact ti_add (by omega) (by omega)
    have q78 : (ge S76 40 0 46).toInt = y1.toInt := congrArg Int32.toInt (show ge S76 40 0 46 = y1 from (by rw [E76]; exact (ge_pua (by decide)).trans ey1.symm))
    refine zk_imp (hk (a1, a2, x77) _ ⟨RS76, GS76, (by (try dsimp only) <;> omega)⟩ (by (try dsimp only) <;> omega)) (fun v79 T80 h79 => ?_)
    obtain ⟨RT80, FT80, GT80, h79⟩ := h79
    exact ⟨RT80, FS76.tr FT80, GT80, trivial⟩
theorem s_F_X7_attemptAt (p1 : Int32) (S0 : fS) (RS0 : RI S0) (GS0 : HI S0) (hp : 0 ≤ p1.toInt ∧ p1.toInt ≤ 63) (hpr : (ge S0 40 0 46).toInt ≤ 199) : zk (F_X7_attemptAt p1 S0) (fun v S9 => RI S9 ∧ Fr 30662524928 S0 S9 ∧ HI S9 ∧ True) := by
  have lm1 : (-1 : Int32).toInt = -1 := by decide
  have l0 : (0 : Int32).toInt = 0 := by decide
  have l1 : (1 : Int32).toInt = 1 := by decide
  have l9 : (9 : Int32).toInt = 9 := by decide
  have l46 : (46 : Int32).toInt = 46 := by decide
  have FS0 : Fr 30662524928 S0 S0 := Fr.rf
  unfold F_X7_attemptAt
  obtain ⟨y1, ey1⟩ : ∃ y : Int32, y = ge S0 40 0 46 := ⟨_, rfl⟩
  have gy1 : 0 ≤ y1.toInt ∧ y1.toInt ≤ 200 := by rw [ey1]; exact RS0 40 _ _
  have q2 : (ge S0 40 0 46).toInt = y1.toInt := congrArg Int32.toInt (show ge S0 40 0 46 = y1 from ey1.symm)
  refine zk_ivq (x := y1) ey1.symm ?_
  refine zk_gd ⟨by omega, by omega⟩ ?_
  have q3 : (ge S0 40 0 46).toInt = y1.toInt := congrArg Int32.toInt (show ge S0 40 0 46 = y1 from ey1.symm)
  refine zk_bd (s_F_X7_canNow _ _ RS0 (by omega)) (fun v4 T5 h4 => ?_)
  obtain ⟨RT5, fT5, h4⟩ := h4
  have FT5 := FS0.tr (fT5.sub (m := 30662524928) (by decide))
  have GT5 := GS0.fr fT5 rfl
  have q6 : (ge T5 40 0 46).toInt = y1.toInt := congrArg Int32.toInt (show ge T5 40 0 46 = y1 from ((fT5.1 40 0 46 rfl).trans ey1.symm))
  refine zk_eq (fun c7 => ?_) (fun c7 => ?_)
  ·
    unfold B_X7_attemptAt_27L
    refine zk_gd ⟨by omega, by omega⟩ ?_
    refine zk_sv fun S8 E8 => ?_
    have RS8 : RI S8 := by rw [E8]; exact RT5.wf rfl
    have FS8 : Fr 30662524928 S0 S8 := by rw [E8]; exact FT5.wr (k := 16) rfl rfl
    have GS8 : HI S8 := by rw [E8]; exact GT5.wr (k := 16) rfl rfl
    have q9 : (ge S8 40 0 46).toInt = y1.toInt := congrArg Int32.toInt (show ge S8 40 0 46 = y1 from (by rw [E8]; exact (ge_pua (by decide)).trans ((fT5.1 40 0 46 rfl).trans ey1.symm)))
    refine zk_bd (s_F_X7_namesOf _ _ RS8) (fun v10 T11 h10 => ?_)
    obtain ⟨RT11, fT11, h10⟩ := h10
    have FT11 := FS8.tr (fT11.sub (m := 30662524928) (by decide))
    have GT11 := GS8.fr fT11 rfl
    have q12 : (ge T11 40 0 46).toInt = y1.toInt := congrArg Int32.toInt (show ge T11 40 0 46 = y1 from ((fT11.1 40 0 46 rfl).trans (by rw [E8]; exact (ge_pua (by decide)).trans ((fT5.1 40 0 46 rfl).trans ey1.symm))))
    have q13 : (ge T11 40 0 46).toInt = y1.toInt := congrArg Int32.toInt (show ge T11 40 0 46 = y1 from ((fT11.1 40 0 46 rfl).trans (by rw [E8]; exact (ge_pua (by decide)).trans ((fT5.1 40 0 46 rfl).trans ey1.symm))))
    refine zk_imp (s_B_X7_attemptAt_35L _ _ RT11 GT11 (by (try dsimp only) <;> omega) (by (try dsimp only) <;> omega)) (fun v14 T15 h14 => ?_)
    obtain ⟨RT15, fT15, GT15, h14⟩ := h14
    have FT15 := FT11.tr (fT15.sub (m := 30662524928) (by decide))
    obtain ⟨y16, ey16⟩ : ∃ y : Int32, y = ge T15 40 0 46 := ⟨_, rfl⟩
    have gy16 : 0 ≤ y16.toInt ∧ y16.toInt ≤ 200 := by rw [ey16]; exact RT15 40 _ _
    have q17 : (ge T15 40 0 46).toInt = y16.toInt := congrArg Int32.toInt (show ge T15 40 0 46 = y16 from ey16.symm)
    exact ⟨RT15, FT15, GT15, trivial⟩
  ·
    unfold B_X7_attemptAt_27L
    refine zk_gd ⟨by omega, by omega⟩ ?_
    refine zk_sv fun S18 E18 => ?_
    have RS18 : RI S18 := by rw [E18]; exact RT5.wf rfl
    have FS18 : Fr 30662524928 S0 S18 := by rw [E18]; exact FT5.wr (k := 16) rfl rfl
    have GS18 : HI S18 := by rw [E18]; exact GT5.wr (k := 16) rfl rfl
    have q19 : (ge S18 40 0 46).toInt = y1.toInt := congrArg Int32.toInt (show ge S18 40 0 46 = y1 from (by rw [E18]; exact (ge_pua (by decide)).trans ((fT5.1 40 0 46 rfl).trans ey1.symm)))
    refine zk_bd (s_F_X7_namesOf _ _ RS18) (fun v20 T21 h20 => ?_)
    obtain ⟨RT21, fT21, h20⟩ := h20
    have FT21 := FS18.tr (fT21.sub (m := 30662524928) (by decide))
    have GT21 := GS18.fr fT21 rfl
    have q22 : (ge T21 40 0 46).toInt = y1.toInt := congrArg Int32.toInt (show ge T21 40 0 46 = y1 from ((fT21.1 40 0 46 rfl).trans (by rw [E18]; exact (ge_pua (by decide)).trans ((fT5.1 40 0 46 rfl).trans ey1.symm))))
    have q23 : (ge T21 40 0 46).toInt = y1.toInt := congrArg Int32.toInt (show ge T21 40 0 46 = y1 from ((fT21.1 40 0 46 rfl).trans (by rw [E18]; exact (ge_pua (by decide)).trans ((fT5.1 40 0 46 rfl).trans ey1.symm))))
    refine zk_imp (s_B_X7_attemptAt_35L _ _ RT21 GT21 (by (try dsimp only) <;> omega) (by (try dsimp only) <;> omega)) (fun v24 T25 h24 => ?_)
    obtain ⟨RT25, fT25, GT25, h24⟩ := h24
    have FT25 := FT21.tr (fT25.sub (m := 30662524928) (by decide))
    obtain ⟨y26, ey26⟩ : ∃ y : Int32, y = ge T25 40 0 46 := ⟨_, rfl⟩
    have gy26 : 0 ≤ y26.toInt ∧ y26.toInt ≤ 200 := by rw [ey26]; exact RT25 40 _ _
    have q27 : (ge T25 40 0 46).toInt = y26.toInt := congrArg Int32.toInt (show ge T25 40 0 46 = y26 from ey26.symm)
    exact ⟨RT25, FT25, GT25, trivial⟩
theorem s_F_X7_attempt (p1 : Int32) (S0 : fS) (RS0 : RI S0) (GS0 : HI S0) : zk (F_X7_attempt p1 S0) (fun v S9 => RI S9 ∧ Fr 30662524928 S0 S9 ∧ HI S9 ∧ True) := by
  have lm1 : (-1 : Int32).toInt = -1 := by decide
  have l0 : (0 : Int32).toInt = 0 := by decide
  have l1 : (1 : Int32).toInt = 1 := by decide
  have l46 : (46 : Int32).toInt = 46 := by decide
  have l200 : (200 : Int32).toInt = 200 := by decide
  have FS0 : Fr 30662524928 S0 S0 := Fr.rf
  unfold F_X7_attempt
  obtain ⟨y1, ey1⟩ : ∃ y : Int32, y = ge S0 40 0 46 := ⟨_, rfl⟩
  have gy1 : 0 ≤ y1.toInt ∧ y1.toInt ≤ 200 := by rw [ey1]; exact RS0 40 _ _
  have q2 : (ge S0 40 0 46).toInt = y1.toInt := congrArg Int32.toInt (show ge S0 40 0 46 = y1 from ey1.symm)
  refine zk_sv fun S3 E3 => ?_
  have RS3 : RI S3 := by rw [E3]; exact RS0.wf rfl
  have FS3 : Fr 30662524928 S0 S3 := by rw [E3]; exact FS0.wr (k := 16) rfl rfl
  have GS3 : HI S3 := by rw [E3]; exact GS0.wr (k := 16) rfl rfl
  refine zk_bd (s_F_X7_isCell _ _ RS3) (fun v4 T5 h4 => ?_)
  obtain ⟨rfl, h4⟩ := h4
  refine zk_eq (fun c6 => ?_) (fun c6 => ?_)
  ·
    unfold B_X7_attempt_18
    have q7 : (ge S3 40 0 46).toInt = y1.toInt := congrArg Int32.toInt (show ge S3 40 0 46 = y1 from (by rw [E3]; exact (ge_puj (by decide)).trans ey1.symm))
    refine zk_bd (s_F_X7_bad _ _ _ RS3 (by omega)) (fun v8 T9 h8 => ?_)
    obtain ⟨RT9, fT9, h8⟩ := h8
    have FT9 := FS3.tr (fT9.sub (m := 30662524928) (by decide))
    have GT9 := GS3.fr fT9 rfl
    have q10 : (ge T9 40 0 46).toInt = y1.toInt := congrArg Int32.toInt (show ge T9 40 0 46 = y1 from ((fT9.1 40 0 46 rfl).trans (by rw [E3]; exact (ge_puj (by decide)).trans ey1.symm)))
    refine zk_eq (fun c11 => ?_) (fun c11 => ?_)
    ·
      refine zk_ivq (x := y1) ((fT9.1 40 0 46 rfl).trans (by rw [E3]; exact (ge_puj (by decide)).trans ey1.symm)) ?_
      refine zk_eq (fun c12 => ?_) (fun c12 => ?_)
      ·
        have q13 : (ge T9 40 0 46).toInt = y1.toInt := congrArg Int32.toInt (show ge T9 40 0 46 = y1 from ((fT9.1 40 0 46 rfl).trans (by rw [E3]; exact (ge_puj (by decide)).trans ey1.symm)))
        exact zk_some ⟨RT9, FT9, GT9, trivial⟩
      ·
        have q14 : (ge T9 40 0 46).toInt = y1.toInt := congrArg Int32.toInt (show ge T9 40 0 46 = y1 from ((fT9.1 40 0 46 rfl).trans (by rw [E3]; exact (ge_puj (by decide)).trans ey1.symm)))
        refine zk_bd (s_F_X7_attemptAt _ _ RT9 GT9 (by omega) (by omega)) (fun v15 T16 h15 => ?_)
        obtain ⟨RT16, fT16, GT16, h15⟩ := h15
        have FT16 := FT9.tr (fT16.sub (m := 30662524928) (by decide))
        obtain ⟨y17, ey17⟩ : ∃ y : Int32, y = ge T16 40 0 46 := ⟨_, rfl⟩
        have gy17 : 0 ≤ y17.toInt ∧ y17.toInt ≤ 200 := by rw [ey17]; exact RT16 40 _ _
        have q18 : (ge T16 40 0 46).toInt = y17.toInt := congrArg Int32.toInt (show ge T16 40 0 46 = y17 from ey17.symm)
        have q19 : (ge T16 40 0 46).toInt = y17.toInt := congrArg Int32.toInt (show ge T16 40 0 46 = y17 from ey17.symm)
        exact zk_some ⟨RT16, FT16, GT16, trivial⟩
    ·
      have q20 : (ge T9 40 0 46).toInt = y1.toInt := congrArg Int32.toInt (show ge T9 40 0 46 = y1 from ((fT9.1 40 0 46 rfl).trans (by rw [E3]; exact (ge_puj (by decide)).trans ey1.symm)))
      exact zk_some ⟨RT9, FT9, GT9, trivial⟩
  ·
    unfold B_X7_attempt_18
    have q21 : (ge S3 40 0 46).toInt = y1.toInt := congrArg Int32.toInt (show ge S3 40 0 46 = y1 from (by rw [E3]; exact (ge_puj (by decide)).trans ey1.symm))
    refine zk_bd (s_F_X7_bad _ _ _ RS3 (by omega)) (fun v22 T23 h22 => ?_)
    obtain ⟨RT23, fT23, h22⟩ := h22
    have FT23 := FS3.tr (fT23.sub (m := 30662524928) (by decide))
    have GT23 := GS3.fr fT23 rfl
    have q24 : (ge T23 40 0 46).toInt = y1.toInt := congrArg Int32.toInt (show ge T23 40 0 46 = y1 from ((fT23.1 40 0 46 rfl).trans (by rw [E3]; exact (ge_puj (by decide)).trans ey1.symm)))
    refine zk_eq (fun c25 => ?_) (fun c25 => ?_)
    ·
      refine zk_ivq (x := y1) ((fT23.1 40 0 46 rfl).trans (by rw [E3]; exact (ge_puj (by decide)).trans ey1.symm)) ?_
      refine zk_eq (fun c26 => ?_) (fun c26 => ?_)
      ·
        have q27 : (ge T23 40 0 46).toInt = y1.toInt := congrArg Int32.toInt (show ge T23 40 0 46 = y1 from ((fT23.1 40 0 46 rfl).trans (by rw [E3]; exact (ge_puj (by decide)).trans ey1.symm)))
        exact zk_some ⟨RT23, FT23, GT23, trivial⟩
      ·
        have q28 : (ge T23 40 0 46).toInt = y1.toInt := congrArg Int32.toInt (show ge T23 40 0 46 = y1 from ((fT23.1 40 0 46 rfl).trans (by rw [E3]; exact (ge_puj (by decide)).trans ey1.symm)))
        refine zk_bd (s_F_X7_attemptAt _ _ RT23 GT23 (by omega) (by omega)) (fun v29 T30 h29 => ?_)
        obtain ⟨RT30, fT30, GT30, h29⟩ := h29
        have FT30 := FT23.tr (fT30.sub (m := 30662524928) (by decide))
        obtain ⟨y31, ey31⟩ : ∃ y : Int32, y = ge T30 40 0 46 := ⟨_, rfl⟩
        have gy31 : 0 ≤ y31.toInt ∧ y31.toInt ≤ 200 := by rw [ey31]; exact RT30 40 _ _
        have q32 : (ge T30 40 0 46).toInt = y31.toInt := congrArg Int32.toInt (show ge T30 40 0 46 = y31 from ey31.symm)
        have q33 : (ge T30 40 0 46).toInt = y31.toInt := congrArg Int32.toInt (show ge T30 40 0 46 = y31 from ey31.symm)
        exact zk_some ⟨RT30, FT30, GT30, trivial⟩
    ·
      have q34 : (ge T23 40 0 46).toInt = y1.toInt := congrArg Int32.toInt (show ge T23 40 0 46 = y1 from ((fT23.1 40 0 46 rfl).trans (by rw [E3]; exact (ge_puj (by decide)).trans ey1.symm)))
      exact zk_some ⟨RT23, FT23, GT23, trivial⟩
