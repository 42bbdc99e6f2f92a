/-! what both keep alike: the hands -/
def REL (S : fS) : Prop := (ge S 0 0 9).toInt = (ge S 40 0 48).toInt ∧ ∀ h k : Nat, (h : Int) < (ge S 40 0 48).toInt → k < 9 → ge S 59 h k = dg (ge S 15 0 h) (Int32.ofNat k)
theorem REL.fr {S T : fS} {m : Nat} (h : REL S) (F : Fr m S T) (b2 : m.testBit 2 = false) (b18 : m.testBit 18 = false) : REL T := by
  have e1 := F.1 0 0 9 b2
  have e2 := F.1 40 0 48 b18
  have e3 : ∀ h k : Nat, ge T 59 h k = ge S 59 h k := fun h k => F.1 59 h k (by rw [show rgn 59 k = 18 from rfl]; exact b18)
  have e4 : ∀ h : Nat, ge T 15 0 h = ge S 15 0 h := fun h => F.1 15 0 h (by rw [show rgn 15 h = 2 from rfl]; exact b2)
  unfold REL
  rw [e1, e2]
  exact ⟨h.1, fun x k hx hk => by rw [e3, e4]; exact h.2 x k hx hk⟩
theorem REL_SI : REL SI := ⟨rfl, fun x k hx _ => by
  have hx : (x : Int) < (0 : Int32).toInt := hx
  have l0 : (0 : Int32).toInt = 0 := by decide
  omega⟩
def HQ6 (S T : fS) (p1 : Int32) (v : Nat × Int32) : Prop := (v.1 = 1 ∧ (p1.toInt < 1 ∨ 134217727 < p1.toInt) ∧ T = S) ∨ (v.1 = 0 ∧ (1 ≤ p1.toInt ∧ p1.toInt ≤ 134217727) ∧ (((ge S 0 0 9).toInt = 6 ∧ v.2.toInt = -1 ∧ T = S) ∨ ((ge S 0 0 9).toInt ≤ 5 ∧ v.2.toInt = (ge S 0 0 9).toInt ∧ (ge T 0 0 9).toInt = (ge S 0 0 9).toInt + 1 ∧ (∀ h : Nat, h ≠ (ge S 0 0 9).toNatClampNeg → ge T 15 0 h = ge S 15 0 h) ∧ ge T 15 0 (ge S 0 0 9).toNatClampNeg = p1)))
theorem s3_hand (p1 : Int32) (S : fS) (RS : RI S) : zk (F_X6_hand p1 S) (fun v T => RI T ∧ Fr 4 S T ∧ HQ6 S T p1 v) := by
  have l0 : (0 : Int32).toInt = 0 := by decide
  have l1 : (1 : Int32).toInt = 1 := by decide
  have l6 : (6 : Int32).toInt = 6 := by decide
  have lm1 : (-1 : Int32).toInt = -1 := by decide
  have lm : (134217727 : Int32).toInt = 134217727 := by decide
  unfold F_X6_hand
  refine zk_bd (s2_F_X6_within _ _ _ S RS) (fun v1 T q => ?_)
  obtain ⟨rfl, h1⟩ := q
  refine zk_bx (s2_F_X6_need _ S RS) (fun v T q => ?_) (fun ec v T q => ?_)
  · obtain ⟨rfl, h2⟩ := q
    dsimp only at h2
    have hr : 1 ≤ p1.toInt ∧ p1.toInt ≤ 134217727 := by omega
    refine zk_iv fun x e => ?_
    have g : 0 ≤ x.toInt ∧ x.toInt ≤ 6 := by rw [e]; exact RS 0 0 9
    refine zk_lt (fun c => ?_) (fun c => zk_some ⟨RS, Fr.rf, Or.inr ⟨rfl, hr, Or.inl ⟨by rw [← e]; omega, lm1, rfl⟩⟩⟩)
    refine zk_ivq (x := x) e.symm ?_
    refine zk_gd ⟨by omega, by omega⟩ ?_
    refine zk_sv fun S12 E12 => ?_
    refine zk_ivq (x := x) (by rw [E12, ge_pua (by decide)]; exact e.symm) ?_
    refine zk_iv fun y ey => ?_
    have gy : y.toInt = x.toInt + 1 := by rw [ey, ti_add (by omega) (by omega), l1]
    refine zk_sv fun S15 E15 => ?_
    have e15 : ge S15 0 0 9 = y := by rw [E15]; exact ge_pus
    refine zk_ivq (x := y) e15 ?_
    refine zk_iv fun z ez => ?_
    have gz : z.toInt = x.toInt := by rw [ez, ti_sub (by omega) (by omega), l1]; omega
    have R12 : RI S12 := by rw [E12]; exact RS.wf rfl
    have R15 : RI S15 := by rw [E15]; exact R12.wr (show (0 : Int) ≤ y.toInt by omega) (show y.toInt ≤ 6 by omega)
    have F12 : Fr 4 S S12 := by rw [E12]; exact Fr.rf.wr (k := 2) rfl rfl
    have F15 : Fr 4 S S15 := by rw [E15]; exact F12.wr (k := 2) rfl rfl
    refine zk_some ⟨R15, F15, Or.inr ⟨rfl, hr, Or.inr ⟨by rw [← e]; omega, by rw [← e]; exact gz, by rw [e15, ← e]; exact gy, fun h hh => ?_, ?_⟩⟩⟩
    · rw [E15, ge_pua (by decide), E12, ge_puj (by rw [e]; exact hh)]
    · rw [E15, ge_pua (by decide), E12, e]; exact ge_pus
  · obtain ⟨rfl, h2⟩ := q
    dsimp only at h2
    exact ⟨RS, Fr.rf, Or.inl ⟨by dsimp only; omega, by omega, rfl⟩⟩
theorem s3_weights (p1 : Int32) (S : fS) (RS : RI S) : zk (F_X6_weights p1 S) (fun v T => S = T ∧ ((v.1 = 3 ∧ (p1.toInt < 0 ∨ (ge S 0 0 9).toInt ≤ p1.toInt)) ∨ (v.1 = 0 ∧ (0 ≤ p1.toInt ∧ p1.toInt < (ge S 0 0 9).toInt) ∧ v.2.toInt = dgs (ge S 15 0 p1.toNatClampNeg) 9))) := by
  unfold F_X6_weights
  refine zk_iv fun x e => ?_
  have g : 0 ≤ x.toInt ∧ x.toInt ≤ 6 := by rw [e]; exact RS 0 0 9
  refine zk_bx (s2_F_X6_needElement p1 x S RS g.1) (fun v T q => ?_) (fun ec v T q => ?_)
  · obtain ⟨rfl, h2⟩ := q
    dsimp only at h2
    refine zk_gd ⟨by omega, by omega⟩ ?_
    refine zk_iv fun x7 e7 => ?_
    refine zk_bd (t6_allWeights x7 S) (fun v8 T q => ?_)
    obtain ⟨rfl, h8⟩ := q
    exact zk_some ⟨rfl, Or.inr ⟨rfl, by rw [← e]; omega, by rw [← e7]; exact h8⟩⟩
  · obtain ⟨rfl, h2⟩ := q
    dsimp only at h2
    exact ⟨rfl, Or.inl ⟨by dsimp only; omega, by rw [← e]; omega⟩⟩
/-! the invariant: ranges, references, heaps, images, hands; what both keep alike -/
def Inv (S : fS) : Prop := RI S ∧ GI S ∧ HI S ∧ REL S
section INV
variable {S T : fS} {m : Nat}
theorem Inv.c (h : Inv S) (R : RI T) (F : Fr m S T) (G : GI T) (hm : m &&& 35518152704 = 0) (b2 : m.testBit 2 = false) (b18 : m.testBit 18 = false) : Inv T := ⟨R, G, h.2.2.1.fr F hm, REL.fr h.2.2.2 F b2 b18⟩
theorem Inv.c0 (h : Inv S) (R : RI T) (F : Fr m S T) (hm : m &&& 35518152704 = 0) (b2 : m.testBit 2 = false) (b18 : m.testBit 18 = false) (h5 : m.testBit 5 = false) (h31 : m.testBit 31 = false) : Inv T := h.c R F (h.2.1.fr F h5 h31) hm b2 b18
theorem Inv.md (h : Inv S) (R : RI T) (F : Fr m S T) (H : HI T) (b2 : m.testBit 2 = false) (b18 : m.testBit 18 = false) (h5 : m.testBit 5 = false) (h31 : m.testBit 31 = false) : Inv T := ⟨R, h.2.1.fr F h5 h31, H, REL.fr h.2.2.2 F b2 b18⟩
end INV
theorem comb {c : Nat → Prop} {x : Option ((Nat × Int32) × fS)} {y : fS → Option (Int32 × fS)} {I : fS → Prop} (h1 : zk x (fun v S1 => I S1 ∧ c v.1)) (h2 : ∀ S1 : fS, I S1 → zk (y S1) (fun _ S2 => I S2)) : ∃ (ec : Nat) (v : Int32) (S1 : fS) (v2 : Int32) (S2 : fS), c ec ∧ x = some ((ec, v), S1) ∧ y S1 = some (v2, S2) ∧ I S2 := by
  obtain ⟨⟨ec, v⟩, S1, e, i1, hc⟩ := h1
  obtain ⟨v2, S2, e2, i2⟩ := h2 S1 i1
  exact ⟨ec, v, S1, v2, S2, hc, e, e2, i2⟩
theorem comb0 {x : Option (Int32 × fS)} {y : fS → Option (Int32 × fS)} {I : fS → Prop} (h1 : zk x (fun _ S1 => I S1)) (h2 : ∀ S1 : fS, I S1 → zk (y S1) (fun _ S2 => I S2)) : ∃ (v : Int32) (S1 : fS) (v2 : Int32) (S2 : fS), x = some (v, S1) ∧ y S1 = some (v2, S2) ∧ I S2 := by
  obtain ⟨v, S1, e, i1⟩ := h1
  obtain ⟨v2, S2, e2, i2⟩ := h2 S1 i1
  exact ⟨v, S1, v2, S2, e, e2, i2⟩
theorem b01 (a : Int32) : 0 ≤ (if a = 0 then (0 : Int32) else 1).toInt ∧ (if a = 0 then (0 : Int32) else 1).toInt ≤ 1 := by
  by_cases z : a = 0
  · rw [if_pos z]; decide
  · rw [if_neg z]; decide
theorem st_0 : St_0 Inv := fun S h a1 a2 a3 a4 => comb (zk_imp (s_F_X6_lay a1 a2 a3 a4 S h.1) (fun v T q => ⟨h.c0 q.1 q.2.1 rfl rfl rfl rfl rfl, q.2.2⟩)) (fun T i => zk_imp (h7_lay a1 a2 a3 a4 i.1 i.2.2.1) (fun v U q => i.md q.1 q.2.1 q.2.2 rfl rfl rfl rfl))
theorem st_1 : St_1 Inv := fun S h a1 a2 => comb (zk_imp (s_F_X6_wire a1 (if a2 = 0 then 0 else 1) S h.1) (fun v T q => ⟨h.c0 q.1 q.2.1 rfl rfl rfl rfl rfl, q.2.2⟩)) (fun T i => zk_imp (s_F_X7_wire a1 (if a2 = 0 then 0 else 1) T i.1 (b01 _)) (fun v U q => i.c0 q.1 q.2.1 rfl rfl rfl rfl rfl))
theorem st_2 : St_2 Inv := fun S h a1 => comb (zk_imp (s_F_X6_key a1 S h.1) (fun v T q => ⟨h.c0 q.1 q.2.1 rfl rfl rfl rfl rfl, q.2.2⟩)) (fun T i => zk_imp (h7_key a1 i.1 i.2.2.1) (fun v U q => i.md q.1 q.2.1 q.2.2 rfl rfl rfl rfl))
theorem st_3 : St_3 Inv := fun S h a1 a2 => comb (zk_imp (s_F_X6_thing a1 a2 S h.1) (fun v T q => ⟨q.1 ▸ h, q.2⟩)) (fun T i => zk_imp (h7_thing a1 a2 i.1 i.2.2.1) (fun v U q => i.c0 q.1 q.2 rfl rfl rfl rfl rfl))
theorem st_4 : St_4 Inv := fun S h a1 a2 => comb (zk_imp (s_F_X6_top a1 (if a2 = 0 then 0 else 1) S h.1) (fun v T q => ⟨q.1 ▸ h, q.2⟩)) (fun T i => zk_imp (s_F_X7_top a1 (if a2 = 0 then 0 else 1) T i.1) (fun v U q => i.c0 q.1 q.2.1 rfl rfl rfl rfl rfl))
theorem st_5 : St_5 Inv := fun S h a1 => comb (zk_imp (s_F_X6_hole a1 S h.1) (fun v T q => ⟨h.c0 q.1 q.2.1 rfl rfl rfl rfl rfl, q.2.2⟩)) (fun T i => zk_imp (s_F_X7_hole a1 T i.1) (fun v U q => i.c0 q.1 q.2.1 rfl rfl rfl rfl rfl))
theorem st_6 : St_6 Inv := fun S h a1 a2 => comb (zk_imp (s_F_X6_set a1 a2 S h.1) (fun v T q => ⟨h.c0 q.1 q.2.1 rfl rfl rfl rfl rfl, q.2.2⟩)) (fun T i => zk_imp (s_F_X7_set a1 a2 T i.1) (fun v U q => i.c0 q.1 q.2.1 rfl rfl rfl rfl rfl))
theorem st_7 : St_7 Inv := fun S h a1 => comb0 (zk_imp (s_F_X6_seed a1 S h.1) (fun v T q => h.c0 q.1 q.2.1 rfl rfl rfl rfl rfl)) (fun T i => zk_imp (s_F_X7_seed a1 T i.1) (fun v U q => i.c0 q.1 q.2.1 rfl rfl rfl rfl rfl))
theorem st_8 : St_8 Inv := fun S h a1 a2 a3 a4 a5 => comb0 (zk_imp (s_F_X6_feed a1 a2 a3 a4 a5 S h.1) (fun v T q => h.c0 q.1 q.2.1 rfl rfl rfl rfl rfl)) (fun T i => zk_imp (s_F_X7_feed a1 a2 a3 a4 a5 T i.1) (fun v U q => i.c0 q.1 q.2.1 rfl rfl rfl rfl rfl))
theorem st_9 : St_9 Inv := fun S h a1 a2 => comb (zk_imp (s_F_X6_program a1 (if a2 = 0 then 0 else 1) S h.1 h.2.1) (fun v T q => ⟨h.c q.1 q.2.1 q.2.2.1 rfl rfl rfl, q.2.2.2⟩)) (fun T i => zk_imp (s_F_X7_program a1 (if a2 = 0 then 0 else 1) T i.1 (b01 _)) (fun v U q => i.c0 q.1 q.2.1 rfl rfl rfl rfl rfl))
theorem st_10 : St_10 Inv := fun S h => comb0 (zk_imp (s_F_X6_fault  S h.1) (fun v T q => q.1 ▸ h)) (fun T i => zk_imp (s_F_X7_fault  T i.1) (fun v U q => i.c0 q.1 q.2.1 rfl rfl rfl rfl rfl))
theorem st_11 : St_11 Inv := fun S h a1 => comb (zk_imp (s_F_X6_force a1 S h.1) (fun v T q => ⟨h.c0 q.1 q.2.1 rfl rfl rfl rfl rfl, q.2.2⟩)) (fun T i => zk_imp (s_F_X7_force a1 T i.1) (fun v U q => i.c0 q.1 q.2.1 rfl rfl rfl rfl rfl))
theorem st_12 : St_12 Inv := fun S h a1 a2 => comb (zk_imp (s_F_X6_tells a1 a2 S h.1 h.2.1) (fun v T q => ⟨h.c0 q.1 q.2.1 rfl rfl rfl rfl rfl, q.2.2⟩)) (fun T i => zk_imp (s_F_X7_tells a1 a2 T i.1) (fun v U q => i.c0 q.1 q.2.1 rfl rfl rfl rfl rfl))
theorem st_13 : St_13 Inv := fun S h a1 => comb (zk_imp (s_F_X6_attempt a1 S h.1 h.2.1) (fun v T q => ⟨h.c q.1 q.2.1 q.2.2.1 rfl rfl rfl, q.2.2.2⟩)) (fun T i => zk_imp (s_F_X7_attempt a1 T i.1 i.2.2.1) (fun v U q => i.md q.1 q.2.1 q.2.2.1 rfl rfl rfl rfl))
theorem st_14 : St_14 Inv := fun S h a1 a2 => comb (zk_imp (s_F_X6_record a1 a2 S h.1 h.2.1) (fun v T q => ⟨q.1 ▸ h, q.2⟩)) (fun T i => zk_imp (s_F_X7_record a1 a2 T i.1) (fun v U q => i.c0 q.1 q.2.1 rfl rfl rfl rfl rfl))
theorem st_16 : St_16 Inv := fun S h a1 a2 => comb (zk_imp (s_F_X6_play a1 a2 S h.1 h.2.1) (fun v T q => ⟨h.c q.1 q.2.1 q.2.2.1 rfl rfl rfl, q.2.2.2⟩)) (fun T i => zk_imp (h7_play a1 a2 i.1 i.2.2.1) (fun v U q => i.md q.1 q.2.1 q.2.2 rfl rfl rfl rfl))
theorem st_17 : St_17 Inv := fun S h a1 => comb0 (zk_imp (s_F_X6_can (if a1 = 0 then 0 else 1) S h.1 h.2.1 (b01 _)) (fun v T q => h.c0 q.1 q.2.1 rfl rfl rfl rfl rfl)) (fun T i => zk_imp (s_F_X7_can (if a1 = 0 then 0 else 1) T i.1 (b01 _)) (fun v U q => i.c0 q.1 q.2.1 rfl rfl rfl rfl rfl))
theorem st_18 : St_18 Inv := fun S h a1 a2 a3 => comb (zk_imp (s_F_X6_odds a1 a2 a3 S h.1 h.2.1) (fun v T q => ⟨h.c0 q.1 q.2.1 rfl rfl rfl rfl rfl, q.2.2⟩)) (fun T i => zk_imp (s_F_X7_odds a1 a2 a3 T i.1) (fun v U q => i.c0 q.1 q.2.1 rfl rfl rfl rfl rfl))
theorem st_20 : St_20 Inv := fun S h a1 a2 => comb (zk_imp (s_F_X6_when a1 a2 S h.1 h.2.1) (fun v T q => ⟨h.c0 q.1 q.2.1 rfl rfl rfl rfl rfl, q.2.2⟩)) (fun T i => zk_imp (s_F_X7_when a1 a2 T i.1) (fun v U q => i.c0 q.1 q.2.1 rfl rfl rfl rfl rfl))
theorem st_21 : St_21 Inv := fun S h => comb0 (zk_imp (s_F_X6_fitting  S h.1 h.2.1) (fun v T q => h.c0 q.1 q.2.1 rfl rfl rfl rfl rfl)) (fun T i => zk_imp (s_F_X7_fitting  T i.1) (fun v U q => i.c0 q.1 q.2.1 rfl rfl rfl rfl rfl))
theorem st_22 : St_22 Inv := fun S h a1 => comb (zk_imp (s_F_X6_strange a1 S h.1 h.2.1) (fun v T q => ⟨h.c0 q.1 q.2.1 rfl rfl rfl rfl rfl, q.2.2⟩)) (fun T i => zk_imp (s_F_X7_strange a1 T i.1) (fun v U q => i.c0 q.1 q.2.1 rfl rfl rfl rfl rfl))
theorem st_23 : St_23 Inv := fun S h a1 => comb (zk_imp (s_F_X6_guess a1 S h.1 h.2.1) (fun v T q => ⟨h.c0 q.1 q.2.1 rfl rfl rfl rfl rfl, q.2.2⟩)) (fun T i => zk_imp (s_F_X7_guess a1 T i.1) (fun v U q => i.c0 q.1 q.2.1 rfl rfl rfl rfl rfl))
theorem st_24 : St_24 Inv := fun S h => comb0 (zk_imp (s_F_X6_refill  S h.1 h.2.1) (fun v T q => h.c q.1 q.2.1 q.2.2.1 rfl rfl rfl)) (fun T i => zk_imp (h7_refill  i.1 i.2.2.1) (fun v U q => i.md q.1 q.2.1 q.2.2 rfl rfl rfl rfl))
theorem st_25 : St_25 Inv := fun S h a1 a2 a3 => comb (zk_imp (s_F_X6_worth a1 a2 a3 S h.1 h.2.1) (fun v T q => ⟨h.c q.1 q.2.1 q.2.2.1 rfl rfl rfl, q.2.2.2⟩)) (fun T i => zk_imp (s_F_X7_worth a1 a2 a3 T i.1 i.2.2.1) (fun v U q => i.md q.1 q.2.1 q.2.2.1 rfl rfl rfl rfl))
theorem st_26 : St_26 Inv := fun S h a1 a2 => comb (zk_imp (s_F_X6_bide a1 a2 S h.1 h.2.1) (fun v T q => ⟨h.c q.1 q.2.1 q.2.2.1 rfl rfl rfl, q.2.2.2⟩)) (fun T i => zk_imp (s_F_X7_bide a1 a2 T i.1 i.2.2.1) (fun v U q => i.md q.1 q.2.1 q.2.2.1 rfl rfl rfl rfl))
theorem st_27 : St_27 Inv := fun S h a1 a2 a3 => comb (zk_imp (s_F_X6_settle a1 a2 a3 S h.1) (fun v T q => ⟨q.1 ▸ h, q.2⟩)) (fun T i => zk_imp (s_F_X7_settle a1 a2 a3 T i.1) (fun v U q => i.c0 q.1 q.2.1 rfl rfl rfl rfl rfl))
theorem st_28 : St_28 Inv := fun S h a1 a2 => comb (zk_imp (s_F_X6_back a1 a2 S h.1) (fun v T q => ⟨q.1 ▸ h, q.2⟩)) (fun T i => zk_imp (s_F_X7_back a1 a2 T i.1) (fun v U q => i.c0 q.1 q.2.1 rfl rfl rfl rfl rfl))
theorem st_29 : St_29 Inv := fun S h a1 => comb (zk_imp (s_F_X6_broken a1 S h.1 h.2.1) (fun v T q => ⟨h.c0 q.1 q.2.1 rfl rfl rfl rfl rfl, q.2.2⟩)) (fun T i => zk_imp (s_F_X7_broken a1 T i.1) (fun v U q => i.c0 q.1 q.2.1 rfl rfl rfl rfl rfl))
theorem st_30 : St_30 Inv := fun S h a1 a2 a3 a4 a5 => comb (zk_imp (s_F_X6_cut a1 a2 a3 a4 a5 S h.1) (fun v T q => ⟨q.1 ▸ h, q.2⟩)) (fun T i => zk_imp (s_F_X7_cut a1 a2 a3 a4 a5 T i.1) (fun v U q => i.c0 q.1 q.2.1 rfl rfl rfl rfl rfl))
theorem st_31 : St_31 Inv := fun S h a1 a2 a3 a4 => comb (zk_imp (s_F_X6_player a1 a2 a3 a4 S h.1 h.2.1) (fun v T q => ⟨h.c q.1 q.2.1 q.2.2.1 rfl rfl rfl, q.2.2.2⟩)) (fun T i => zk_imp (h7_player a1 a2 a3 a4 _ i.1 i.2.2.1) (fun v U q => i.md q.1 q.2.1 q.2.2 rfl rfl rfl rfl))
theorem st_32 : St_32 Inv := fun S h a1 => comb (zk_imp (s_F_X6_fair a1 S h.1) (fun v T q => ⟨h.c0 q.1 q.2.1 rfl rfl rfl rfl rfl, q.2.2⟩)) (fun T i => zk_imp (s_F_X7_fair a1 T i.1) (fun v U q => i.c0 q.1 q.2.1 rfl rfl rfl rfl rfl))
theorem st_33 : St_33 Inv := fun S h => comb0 (zk_imp (s_F_X6_image  S h.1 h.2.1) (fun v T q => h.c q.1 q.2.1 q.2.2.1 rfl rfl rfl)) (fun T i => zk_imp (h7_image  i.1 i.2.2.1) (fun v U q => i.md q.1 q.2.1 q.2.2.1 rfl rfl rfl rfl))
theorem st_34 : St_34 Inv := fun S h => comb0 (zk_imp (s_F_X6_restore  S h.1 h.2.1) (fun v T q => h.c q.1 q.2.1 q.2.2.1 rfl rfl rfl)) (fun T i => zk_imp (h7_restore  i.1 i.2.2.1) (fun v U q => i.md q.1 q.2.1 q.2.2.1 rfl rfl rfl rfl))
theorem st_35 : St_35 Inv := fun S h a1 => comb0 (zk_imp (s_F_X6_count a1 S h.1) (fun v T q => q.1 ▸ h)) (fun T i => zk_imp (s_F_X7_count a1 T i.1) (fun v U q => i.c0 q.1 q.2.1 rfl rfl rfl rfl rfl))
theorem st_15 : St_15 Inv := by
  intro S h a1
  obtain ⟨⟨ec, v⟩, S1, e, R1, F1, q1⟩ := s3_hand a1 S h.1
  have H1 : HI S1 := h.2.2.1.fr F1 rfl
  obtain ⟨v2, S2, e2, R2, F2, H2, q2⟩ := h7_hand a1 R1 H1
  have G2 : GI S2 := (h.2.1.fr F1 rfl rfl).fr F2 rfl rfl
  have t48 : ge S1 40 0 48 = ge S 40 0 48 := F1.1 40 0 48 rfl
  have t9 : ge S2 0 0 9 = ge S1 0 0 9 := F2.1 0 0 9 rfl
  have t15 : ∀ h : Nat, ge S2 15 0 h = ge S1 15 0 h := fun h => F2.1 15 0 h (by rw [show rgn 15 h = 2 from rfl]; rfl)
  have t59 : ∀ h k : Nat, ge S1 59 h k = ge S 59 h k := fun h k => F1.1 59 h k (by rw [show rgn 59 k = 18 from rfl]; rfl)
  obtain ⟨r1, r2⟩ := h.2.2.2
  have g9 : 0 ≤ (ge S 0 0 9).toInt := (h.1 0 0 9).1
  have hc := cn_eq g9
  have hc2 : (ge S1 40 0 48).toNatClampNeg = (ge S 0 0 9).toNatClampNeg := by
    have := cn_eq (x := ge S1 40 0 48) (by rw [t48]; omega)
    rw [t48] at this ⊢
    omega
  unfold HQ6 at q1
  unfold HQ7 at q2
  dsimp only at q1
  rw [t48] at q2
  have nb : ∀ P Q : Prop, P → ¬ P → Q := fun P Q a b => absurd a b
  have X : (ec = 0 ∨ ec = 1) ∧ REL S2 ∧ ge S2 40 0 0 = (if ec = 0 then 0 else 1) ∧ (ec = 0 → v = v2) := by
    rcases q1 with ⟨c1, c2, c3⟩ | ⟨c1, c2, c3⟩ <;> rcases q2 with ⟨d1, d2, d3, d4⟩ | ⟨d1, d2, d3⟩
    · refine ⟨Or.inr c1, ⟨by rw [t9, c3]; omega, fun x k hx hk => ?_⟩, by rw [c1, d2]; rfl, fun z => by omega⟩
      rw [d4, t15, c3]
      exact r2 x k (by omega) hk
    · omega
    · omega
    · rcases c3 with ⟨u1, u2, u3⟩ | ⟨u1, u2, u3, u4, u5⟩ <;> rcases d3 with ⟨w1, w2, w3, w4⟩ | ⟨w1, w2, w3, w4, w5⟩
      · refine ⟨Or.inl c1, ⟨by rw [t9, u3]; omega, fun x k hx hk => ?_⟩, by rw [c1, d2]; rfl, fun _ => of_toInt (by omega)⟩
        rw [w4, t15, u3]
        exact r2 x k (by omega) hk
      · omega
      · omega
      · refine ⟨Or.inl c1, ⟨by rw [t9]; omega, fun x k hx hk => ?_⟩, by rw [c1, d2]; rfl, fun _ => of_toInt (by rw [w2]; omega)⟩
        rw [t15]
        by_cases z : x = (ge S 0 0 9).toNatClampNeg
        · rw [z, u5]
          have := w5 k hk
          rw [← t48, hc2] at this
          exact this
        · rw [w4 x k (by rw [← t48, hc2]; exact z), t59, u4 x z]
          exact r2 x k (by omega) hk
  exact ⟨ec, v, S1, v2, S2, X.1, e, e2, ⟨R2, G2, H2, X.2.1⟩⟩
theorem st_19 : St_19 Inv := by
  intro S h a1
  obtain ⟨⟨ec, v⟩, S1, e, rfl, q1⟩ := s3_weights a1 S h.1
  obtain ⟨v2, S2, e2, R2, F2, q2⟩ := h7_weights a1 h.1 h.2.2.1
  obtain ⟨r1, r2⟩ := h.2.2.2
  unfold WQ7 at q2
  dsimp only at q1
  have X : (ec = 0 ∨ ec = 3) ∧ ge S2 40 0 0 = (if ec = 0 then 0 else 1) ∧ (ec = 0 → v = v2) := by
    rcases q1 with ⟨c1, c2⟩ | ⟨c1, c2, c3⟩ <;> rcases q2 with ⟨d1, d2⟩ | ⟨d1, d2, d3⟩
    · exact ⟨Or.inr c1, by rw [c1, d2]; rfl, fun z => by omega⟩
    · omega
    · omega
    · have hc := cn_eq d1.1
      refine ⟨Or.inl c1, by rw [c1, d2]; rfl, fun _ => of_toInt ?_⟩
      rw [c3, d3, hsum_dg 9 (fun j hj => r2 _ j (by omega) hj)]
  exact ⟨ec, v, S, v2, S2, X.1, e, e2, h.c0 R2 F2 rfl rfl rfl rfl rfl, X.2.1, X.2.2⟩
def rgl (a : Nat) : List (List Int32) := [iniL.getD a []]
theorem ini_rg : ∀ a : Nat, a < 92 → a ≠ 10 → ∀ j : Nat, j < 64 → (rg a j).1 ≤ ((iniL.getD a []).getD j 0).toInt ∧ ((iniL.getD a []).getD j 0).toInt ≤ (rg a j).2 := by decide +kernel
theorem ini_len : ∀ a : Nat, a < 92 → (iniL.getD a []).length ≤ 64 := by decide +kernel
def P0 (p : Int × Int) : Prop := p.1 ≤ 0 ∧ 0 ≤ p.2
theorem P0.mk {x y : Int} (h1 : x ≤ 0) (h2 : 0 ≤ y) : P0 (x, y) := ⟨h1, h2⟩
theorem P0.it {c : Prop} {ins : Decidable c} {x y : Int × Int} (hx : P0 x) (hy : P0 y) : P0 (@ite (Int × Int) c ins x y) := by
  by_cases q : c
  · rw [if_pos q]; exact hx
  · rw [if_neg q]; exact hy
theorem rg_0 (a j : Nat) : P0 (rg a j) := by
  unfold rg rgF
  repeat' (first | exact P0.mk (by decide) (by decide) | refine P0.it ?_ ?_)
theorem inv_SI : Inv SI := by
  have z0 : (0 : Int32).toInt = 0 := by decide
  refine ⟨fun a i j => ?_, ⟨⟨fun i j t q => (by cases q), fun a i j t _ q => (by cases q)⟩, fun i k q => ?_, fun i => Nat.zero_le _⟩, ⟨⟨fun c k hc q => ?_, fun c k k' hc q _ _ => ?_, fun t q _ => ?_⟩, fun k q => ?_, fun k q => ?_⟩, REL_SI⟩
  · show (rg a j).1 ≤ (if a = 10 then (if j < 64 then (-1 : Int32) else 0) else (iniL.getD a []).getD j 0).toInt ∧ (if a = 10 then (if j < 64 then (-1 : Int32) else 0) else (iniL.getD a []).getD j 0).toInt ≤ (rg a j).2
    by_cases h10 : a = 10
    · rw [h10]
      exact ti_bd _
    · rw [if_neg h10]
      by_cases ha : a < 92
      · by_cases hj : j < 64
        · exact ini_rg a ha h10 j hj
        · have e : (iniL.getD a []).getD j 0 = 0 := by
            rw [List.getD_eq_getElem?_getD, List.getElem?_eq_none (by have := ini_len a ha; omega)]
            rfl
          rw [e, z0]
          exact rg_0 a j
      · have e : iniL.getD a [] = [] := by
          rw [List.getD_eq_getElem?_getD, List.getElem?_eq_none (by show 92 ≤ a; omega)]
          rfl
        rw [e]
        show (rg a j).1 ≤ (0 : Int32).toInt ∧ (0 : Int32).toInt ≤ (rg a j).2
        rw [z0]
        exact rg_0 a j
  · have q : (k : Int) < (0 : Int32).toInt := q
    omega
  · have q : (k : Int) < (0 : Int32).toInt := q
    omega
  · have q : (k : Int) < (0 : Int32).toInt := q
    omega
  · have q : (t : Int) < (0 : Int32).toInt := q
    omega
  · have q : (k : Int) < (0 : Int32).toInt := q
    omega
  · have q : (k : Int) < (0 : Int32).toInt := q
    omega
theorem good_Inv : Good Inv := ⟨inv_SI, st_0, st_1, st_2, st_3, st_4, st_5, st_6, st_7, st_8, st_9, st_10, st_11, st_12, st_13, st_14, st_15, st_16, st_17, st_18, st_19, st_20, st_21, st_22, st_23, st_24, st_25, st_26, st_27, st_28, st_29, st_30, st_31, st_32, st_33, st_34, st_35⟩
