/-! the pure part: images, copies -/
theorem GI.wz {S : fS} {i : Nat} (h : GI S) : GI (pu S 1 i 12 0) := by
  refine ⟨h.1, fun i' k' q => ?_, h.2.2⟩
  rw [ge_pu] at q
  by_cases e : (1 = 1 ∧ i' = i ∧ 12 = 12)
  · rw [if_pos e] at q
    have h0 : (0 : Int32).toInt = 0 := by decide
    exact False.elim (by omega)
  · rw [if_neg e] at q
    exact h.2.1 i' k' q
theorem GI.wb {S : fS} {a i : Nat} {g : Nat → Int32} (h : GI S) (ha : (a == 1) = false) : GI (pb S a i g) := by
  refine ⟨h.1, fun i' k' q => h.2.1 i' k' ?_, h.2.2⟩
  rw [ge_pb, if_neg (fun e => by rw [← e.1] at ha; cases ha)] at q
  exact q
theorem s_cf (r0 r1 : Nat) (hne : r0 ≠ r1) (z : Int32) (S : fS) (RS : RI S) (hC : Cl S) (hL : ∀ i : Nat, ln S i ≤ 300) (hK : ∀ i : Nat, i ≠ r0 → ∀ k : Nat, (k : Int) < (ge S 1 i 12).toInt → ∃ t : Nat, gr S 11 i k = some t) (he : (ge S 1 r0 12).toInt = (ge S 1 r1 12).toInt) (hd : ∀ k : Nat, (k : Int) < z.toInt → ∃ t : Nat, gr S 11 r0 k = some t) (hz : 0 ≤ z.toInt ∧ z.toInt ≤ 200) : zk (lp (B_X0_copyFrom_101 r0 r1) fuel z S) (fun v S9 => RI S9 ∧ Fr 2147483648 S S9 ∧ GI S9 ∧ True) := by
  have l200 : (200 : Int32).toInt = 200 := by decide
  refine zk_lp (fun z S => RI S ∧ Cl S ∧ (∀ i : Nat, ln S i ≤ 300) ∧ (∀ i : Nat, i ≠ r0 → ∀ k : Nat, (k : Int) < (ge S 1 i 12).toInt → ∃ t : Nat, gr S 11 i k = some t) ∧ (ge S 1 r0 12).toInt = (ge S 1 r1 12).toInt ∧ (∀ k : Nat, (k : Int) < z.toInt → ∃ t : Nat, gr S 11 r0 k = some t) ∧ 0 ≤ z.toInt ∧ z.toInt ≤ 200) (fun z S => (200 - z.toInt).toNat) (fun z S (v : Int32) S9 => RI S9 ∧ Fr 2147483648 S S9 ∧ GI S9 ∧ True) ?_ z S ⟨RS, hC, hL, hK, he, hd, hz⟩ (by omega)
  clear RS hC hL hK he hd hz
  intro k z S hI hk
  obtain ⟨RS, hC, hL, hK, he, hd, hz⟩ := hI
  have g12 : 0 ≤ (ge S 1 r0 12).toInt ∧ (ge S 1 r0 12).toInt ≤ 200 := RS 1 _ _
  have fin : (ge S 1 r0 12).toInt ≤ z.toInt → GI S := by
    intro q
    refine ⟨hC, fun i k' q2 => ?_, hL⟩
    by_cases e : i = r0
    · subst e
      exact hd k' (by omega)
    · exact hK i e k' q2
  unfold B_X0_copyFrom_101
  refine zk_iv fun x e => ?_
  have gx : x.toInt = (ge S 1 r0 12).toInt := by rw [e]
  refine zk_le (fun c => zk_some ⟨RS, Fr.rf, fin (by omega), trivial⟩) (fun c => ?_)
  refine zk_le (fun c => zk_some ⟨RS, Fr.rf, fin (by omega), trivial⟩) (fun c => ?_)
  have hn := cn_eq hz.1
  refine zk_gd ⟨by omega, by omega⟩ ?_
  refine zk_qv fun o eo => ?_
  refine zk_gd ⟨by omega, by omega⟩ ?_
  obtain ⟨t, ht⟩ := hK r1 (Ne.symm hne) z.toNatClampNeg (by omega)
  have ho : o = some t := eo.trans ht
  have htn := hC.1 r1 _ t ht
  refine zk_gd (by rw [ho]; exact decide_eq_true htn) ?_
  refine zk_sv fun S2 E2 => ?_
  have g2 : ∀ a i j : Nat, ge S2 a i j = ge S a i j := fun a i j => by rw [E2, ge_pr]
  have n2 : nT S2 = nT S := by rw [E2]; rfl
  have c2 : nC S2 = nC S := by rw [E2]; rfl
  have l2 : ∀ i : Nat, ln S2 i = ln S i := fun i => by rw [E2]; rfl
  have r2 : ∀ a i j : Nat, gr S2 a i j = if a = 11 ∧ i = r0 ∧ j = z.toNatClampNeg then o else gr S a i j := fun a i j => by rw [E2, gr_pr]
  refine zk_iv fun x9 e9 => ?_
  have g9 : x9.toInt = z.toInt + 1 := by rw [e9]; exact ti_inc (by omega)
  refine zk_imp (hk x9 S2 ⟨fun a i j => by rw [g2]; exact RS a i j, ⟨fun i j t' q => ?_, fun a i j t' ha q => ?_⟩, fun i => by rw [l2]; exact hL i, fun i hi k' q => ?_, by rw [g2, g2]; exact he, fun k' q => ?_, by omega, by omega⟩ (by omega)) (fun v S9 h => ⟨h.1, ⟨fun a i j q => ((h.2.1).1 a i j q).trans (g2 a i j), fun q => by cases q⟩, h.2.2.1, trivial⟩)
  · rw [r2] at q
    rw [n2]
    by_cases e : (11 = 11 ∧ i = r0 ∧ j = z.toNatClampNeg)
    · rw [if_pos e, ho] at q
      cases q
      exact htn
    · rw [if_neg e] at q
      exact hC.1 i j t' q
  · rw [r2, if_neg (fun e => by rcases ha with rfl | rfl <;> cases e.1)] at q
    rw [c2]
    exact hC.2 a i j t' ha q
  · rw [r2, if_neg (fun e => hi e.2.1)]
    exact hK i hi k' (by rw [← g2]; exact q)
  · rw [r2]
    by_cases e : (11 = 11 ∧ r0 = r0 ∧ k' = z.toNatClampNeg)
    · rw [if_pos e]
      exact ⟨t, ho⟩
    · rw [if_neg e]
      have e2 : k' ≠ z.toNatClampNeg := fun q2 => e ⟨rfl, rfl, q2⟩
      exact hd k' (by omega)
theorem cf_tail {r0 r1 m : Nat} {S0 S S' : fS} {x : Int32} (hne : r0 ≠ r1) (G : GI S) (R' : RI S') (F' : Fr m S0 S') (E : S' = pu S 1 r0 12 x) (hx : x = ge S 1 r1 12) (hm : 2147483648 ||| m = m) : zk (lp (B_X0_copyFrom_101 r0 r1) fuel 0 S') (fun v S9 => RI S9 ∧ Fr m S0 S9 ∧ GI S9 ∧ True) := by
  have l0 : (0 : Int32).toInt = 0 := by decide
  have hs : ge S' 1 r0 12 = x := by rw [E]; exact ge_pus
  have ho : ∀ i : Nat, i ≠ r0 → ge S' 1 i 12 = ge S 1 i 12 := fun i hi => by rw [E]; exact ge_pui hi
  have hg : S'.2 = S.2 := by rw [E]; rfl
  refine zk_imp (s_cf r0 r1 hne 0 S' R' ?_ ?_ ?_ ?_ (fun k q => False.elim (by omega)) (by omega)) (fun v S9 h => ⟨h.1, F'.tr (h.2.1.sub hm), h.2.2⟩)
  · rw [E]; exact G.1
  · intro i
    rw [E]
    exact G.2.2 i
  · intro i hi k q
    rw [ho i hi] at q
    have h2 := G.2.1 i k q
    rw [E]
    exact h2
  · rw [hs, ho r1 (Ne.symm hne), hx]
theorem s_F_X0_keep (r0 r1 : Nat) (S0 : fS) (RS0 : RI S0) (GS0 : GI S0) (ht : r1 < nT S0) : zk (F_X0_keep r0 r1 S0) (fun v S9 => RI S9 ∧ Fr 2147483680 S0 S9 ∧ GI S9 ∧ True) := by
  have l200 : (200 : Int32).toInt = 200 := by decide
  have l1 : (1 : Int32).toInt = 1 := by decide
  unfold F_X0_keep
  refine zk_iv fun x e => ?_
  have g : 0 ≤ x.toInt ∧ x.toInt ≤ 200 := by rw [e]; exact RS0 1 _ _
  refine zk_le (fun c => zk_some ⟨RS0, Fr.rf, GS0, trivial⟩) (fun c => ?_)
  refine zk_ivq (x := x) e.symm ?_
  have hn := cn_eq g.1
  refine zk_gd ⟨by omega, by omega⟩ ?_
  refine zk_sv fun S2 E2 => ?_
  have g2 : ∀ a i j : Nat, ge S2 a i j = ge S0 a i j := fun a i j => by rw [E2, ge_pr]
  have r2 : ∀ a i j : Nat, gr S2 a i j = if a = 11 ∧ i = r0 ∧ j = x.toNatClampNeg then some r1 else gr S0 a i j := fun a i j => by rw [E2, gr_pr]
  have R2 : RI S2 := fun a i j => by rw [g2]; exact RS0 a i j
  refine zk_ivq (x := x) ((g2 1 r0 12).trans e.symm) ?_
  refine zk_iv fun y ey => ?_
  have gy : y.toInt = x.toInt + 1 := by rw [ey, ti_add (by omega) (by omega), l1]
  refine zk_sv fun S3 E3 => ?_
  have R3 : RI S3 := by rw [E3]; exact R2.wr (show (0 : Int) ≤ y.toInt by omega) (show y.toInt ≤ 200 by omega)
  have F3 : Fr 2147483680 S0 S3 := by
    rw [E3]
    exact Fr.wr (k := 5) (⟨fun a i j _ => g2 a i j, fun q => by cases q⟩ : Fr 2147483680 S0 S2) rfl rfl
  refine zk_some ⟨R3, F3, ⟨⟨fun i j t q => ?_, fun a i j t ha q => ?_⟩, fun i k q => ?_, fun i => ?_⟩, trivial⟩
  · have q : gr S2 11 i j = some t := by rw [E3] at q; exact q
    have hh : t < nT S0 := by
      rw [r2] at q
      by_cases e : (11 = 11 ∧ i = r0 ∧ j = x.toNatClampNeg)
      · rw [if_pos e] at q
        cases q
        exact ht
      · rw [if_neg e] at q
        exact GS0.1.1 i j t q
    rw [E3, E2]
    exact hh
  · have q : gr S2 a i j = some t := by rw [E3] at q; exact q
    rw [r2, if_neg (fun e => by rcases ha with rfl | rfl <;> cases e.1)] at q
    have hh := GS0.1.2 a i j t ha q
    rw [E3, E2]
    exact hh
  · have hg : gr S3 11 i k = gr S2 11 i k := by rw [E3]; rfl
    rw [hg, r2]
    by_cases e7 : (11 = 11 ∧ i = r0 ∧ k = x.toNatClampNeg)
    · rw [if_pos e7]
      exact ⟨r1, rfl⟩
    · rw [if_neg e7]
      by_cases ei : i = r0
      · subst ei
        have h3 : ge S3 1 i 12 = y := by rw [E3]; exact ge_pus
        rw [h3] at q
        have e2 : k ≠ x.toNatClampNeg := fun q2 => e7 ⟨rfl, rfl, q2⟩
        exact GS0.2.1 i k (by rw [← e]; omega)
      · have h3 : ge S3 1 i 12 = ge S0 1 i 12 := by rw [E3]; exact (ge_pui ei).trans (g2 1 i 12)
        exact GS0.2.1 i k (by rw [← h3]; exact q)
  · have hl : ln S3 i = ln S0 i := by rw [E3, E2]; rfl
    rw [hl]; exact GS0.2.2 i
theorem s_F_X0_copyFrom (r0 : Nat) (r1 : Nat) (S0 : fS) (RS0 : RI S0) (GS0 : GI S0) (hpr : r0 ≠ r1) : zk (F_X0_copyFrom r0 r1 S0) (fun v S9 => RI S9 ∧ Fr 2147485617 S0 S9 ∧ GI S9 ∧ True) := by
  have l1 : (1 : Int32).toInt = 1 := by decide
  have l2 : (2 : Int32).toInt = 2 := by decide
  have l3 : (3 : Int32).toInt = 3 := by decide
  have l4 : (4 : Int32).toInt = 4 := by decide
  have l5 : (5 : Int32).toInt = 5 := by decide
  have l6 : (6 : Int32).toInt = 6 := by decide
  have l7 : (7 : Int32).toInt = 7 := by decide
  have l8 : (8 : Int32).toInt = 8 := by decide
  have l9 : (9 : Int32).toInt = 9 := by decide
  have l10 : (10 : Int32).toInt = 10 := by decide
  have l12 : (12 : Int32).toInt = 12 := by decide
  have FS0 : Fr 2147485617 S0 S0 := Fr.rf
  unfold F_X0_copyFrom
  refine zk_bd (s_F_X2_copyFrom _ _ _ RS0) (fun v1 T2 h1 => ?_)
  obtain ⟨RT2, fT2, h1⟩ := h1
  have FT2 := FS0.tr (fT2.sub (m := 2147485617) (by decide))
  have GT2 := GS0.fr fT2 rfl rfl
  refine zk_iv fun x3 e3 => ?_
  refine zk_sv fun S4 E4 => ?_
  have RS4 : RI S4 := by rw [E4]; exact RT2.wf rfl
  have FS4 : Fr 2147485617 S0 S4 := by rw [E4]; exact FT2.wr (k := 9) rfl rfl
  have GS4 : GI S4 := by rw [E4]; exact GT2.wr (k := 9) rfl (by decide)
  refine zk_iv fun x5 e5 => ?_
  refine zk_sv fun S6 E6 => ?_
  have RS6 : RI S6 := by rw [E6]; exact RS4.wf rfl
  have FS6 : Fr 2147485617 S0 S6 := by rw [E6]; exact FS4.wr (k := 4) rfl rfl
  have GS6 : GI S6 := by rw [E6]; exact GS4.wr (k := 4) rfl (by decide)
  refine zk_iv fun x7 e7 => ?_
  refine zk_sv fun S8 E8 => ?_
  have RS8 : RI S8 := by rw [E8]; exact RS6.wf rfl
  have FS8 : Fr 2147485617 S0 S8 := by rw [E8]; exact FS6.wr (k := 4) rfl rfl
  have GS8 : GI S8 := by rw [E8]; exact GS6.wr (k := 4) rfl (by decide)
  refine zk_iv fun x9 e9 => ?_
  refine zk_sv fun S10 E10 => ?_
  have RS10 : RI S10 := by rw [E10]; exact RS8.wf rfl
  have FS10 : Fr 2147485617 S0 S10 := by rw [E10]; exact FS8.wr (k := 4) rfl rfl
  have GS10 : GI S10 := by rw [E10]; exact GS8.wr (k := 4) rfl (by decide)
  refine zk_iv fun x11 e11 => ?_
  refine zk_sv fun S12 E12 => ?_
  have RS12 : RI S12 := by rw [E12]; exact RS10.wf rfl
  have FS12 : Fr 2147485617 S0 S12 := by rw [E12]; exact FS10.wr (k := 7) rfl rfl
  have GS12 : GI S12 := by rw [E12]; exact GS10.wr (k := 7) rfl (by decide)
  refine zk_iv fun x13 e13 => ?_
  refine zk_sv fun S14 E14 => ?_
  have RS14 : RI S14 := by rw [E14]; exact RS12.wf rfl
  have FS14 : Fr 2147485617 S0 S14 := by rw [E14]; exact FS12.wr (k := 8) rfl rfl
  have GS14 : GI S14 := by rw [E14]; exact GS12.wr (k := 8) rfl (by decide)
  refine zk_iv fun x15 e15 => ?_
  refine zk_sv fun S16 E16 => ?_
  have RS16 : RI S16 := by rw [E16]; exact RS14.wf rfl
  have FS16 : Fr 2147485617 S0 S16 := by rw [E16]; exact FS14.wr (k := 10) rfl rfl
  have GS16 : GI S16 := by rw [E16]; exact GS14.wr (k := 10) rfl (by decide)
  refine zk_iv fun x17 e17 => ?_
  refine zk_sv fun S18 E18 => ?_
  have RS18 : RI S18 := by rw [E18]; exact RS16.wf rfl
  have FS18 : Fr 2147485617 S0 S18 := by rw [E18]; exact FS16.wr (k := 10) rfl rfl
  have GS18 : GI S18 := by rw [E18]; exact GS16.wr (k := 10) rfl (by decide)
  refine zk_iv fun x19 e19 => ?_
  refine zk_sv fun S20 E20 => ?_
  have RS20 : RI S20 := by rw [E20]; exact RS18.wf rfl
  have FS20 : Fr 2147485617 S0 S20 := by rw [E20]; exact FS18.wr (k := 10) rfl rfl
  have GS20 : GI S20 := by rw [E20]; exact GS18.wr (k := 10) rfl (by decide)
  refine zk_iv fun x21 e21 => ?_
  refine zk_sv fun S22 E22 => ?_
  have RS22 : RI S22 := by rw [E22]; exact RS20.wf rfl
  have FS22 : Fr 2147485617 S0 S22 := by rw [E22]; exact FS20.wr (k := 10) rfl rfl
  have GS22 : GI S22 := by rw [E22]; exact GS20.wr (k := 10) rfl (by decide)
  refine zk_iv fun x23 e23 => ?_
  have gx23 : 0 ≤ x23.toInt ∧ x23.toInt ≤ 200 := by rw [e23]; exact RS22 1 _ _
  refine zk_sv fun S24 E24 => ?_
  have RS24 : RI S24 := by rw [E24]; exact RS22.wr (show (0 : Int) ≤ x23.toInt by omega) (show x23.toInt ≤ 200 by omega)
  have FS24 : Fr 2147485617 S0 S24 := by rw [E24]; exact FS22.wr (k := 5) rfl rfl
  exact cf_tail hpr GS22 RS24 FS24 E24 (by rw [e23]) (by decide)
theorem s_F_X6_refill (S0 : fS) (RS0 : RI S0) (GS0 : GI S0) : zk (F_X6_refill S0) (fun v S9 => RI S9 ∧ Fr 1057 S0 S9 ∧ GI S9 ∧ True) := by
  have l0 : (0 : Int32).toInt = 0 := by decide
  have l1 : (1 : Int32).toInt = 1 := by decide
  have l7 : (7 : Int32).toInt = 7 := by decide
  have l8 : (8 : Int32).toInt = 8 := by decide
  have l9 : (9 : Int32).toInt = 9 := by decide
  have l10 : (10 : Int32).toInt = 10 := by decide
  have l12 : (12 : Int32).toInt = 12 := by decide
  have FS0 : Fr 1057 S0 S0 := Fr.rf
  unfold F_X6_refill
  refine zk_iv fun x1 e1 => ?_
  refine zk_bd (s_F_X2_layAgain _ _ _ RS0) (fun v2 T3 h2 => ?_)
  obtain ⟨RT3, fT3, h2⟩ := h2
  have FT3 := FS0.tr (fT3.sub (m := 1057) (by decide))
  have GT3 := GS0.fr fT3 rfl rfl
  refine zk_sv fun S4 E4 => ?_
  have RS4 : RI S4 := by rw [E4]; exact RT3.wf rfl
  have FS4 : Fr 1057 S0 S4 := by rw [E4]; exact FT3.wr (k := 10) rfl rfl
  have GS4 : GI S4 := by rw [E4]; exact GT3.wr (k := 10) rfl (by decide)
  refine zk_sv fun S5 E5 => ?_
  have RS5 : RI S5 := by rw [E5]; exact RS4.wf rfl
  have FS5 : Fr 1057 S0 S5 := by rw [E5]; exact FS4.wr (k := 10) rfl rfl
  have GS5 : GI S5 := by rw [E5]; exact GS4.wr (k := 10) rfl (by decide)
  refine zk_sv fun S6 E6 => ?_
  have RS6 : RI S6 := by rw [E6]; exact RS5.wf rfl
  have FS6 : Fr 1057 S0 S6 := by rw [E6]; exact FS5.wr (k := 10) rfl rfl
  have GS6 : GI S6 := by rw [E6]; exact GS5.wr (k := 10) rfl (by decide)
  refine zk_sv fun S7 E7 => ?_
  have RS7 : RI S7 := by rw [E7]; exact RS6.wf rfl
  have FS7 : Fr 1057 S0 S7 := by rw [E7]; exact FS6.wr (k := 10) rfl rfl
  have GS7 : GI S7 := by rw [E7]; exact GS6.wr (k := 10) rfl (by decide)
  refine zk_sv fun S8 E8 => ?_
  have RS8 : RI S8 := by rw [E8]; exact RS7.wr (show (0 : Int) ≤ (0 : Int32).toInt by omega) (show (0 : Int32).toInt ≤ 200 by omega)
  have FS8 : Fr 1057 S0 S8 := by rw [E8]; exact FS7.wr (k := 5) rfl rfl
  have GS8 : GI S8 := by rw [E8]; exact GS7.wz
  exact zk_some ⟨RS8, FS8, GS8, trivial⟩
theorem s_F_X6_image (S0 : fS) (RS0 : RI S0) (GS0 : GI S0) : zk (F_X6_image S0) (fun v S9 => RI S9 ∧ Fr 2147485625 S0 S9 ∧ GI S9 ∧ True) := by
  have lm1 : (-1 : Int32).toInt = -1 := by decide
  have l0 : (0 : Int32).toInt = 0 := by decide
  have l1 : (1 : Int32).toInt = 1 := by decide
  have l3 : (3 : Int32).toInt = 3 := by decide
  have FS0 : Fr 2147485625 S0 S0 := Fr.rf
  unfold F_X6_image
  refine zk_iv fun x1 e1 => ?_
  have gx1 : 0 ≤ x1.toInt ∧ x1.toInt ≤ 3 := by rw [e1]; exact RS0 0 _ _
  refine zk_lt (fun c2 => ?_) (fun c2 => ?_)
  ·
    refine zk_ivq (x := x1) e1.symm ?_
    refine zk_gd ⟨by omega, by omega⟩ ?_
    refine zk_bd (s_F_X0_copyFrom _ _ _ RS0 GS0 (by omega)) (fun v3 T4 h3 => ?_)
    obtain ⟨RT4, fT4, GT4, h3⟩ := h3
    have FT4 := FS0.tr (fT4.sub (m := 2147485625) (by decide))
    refine zk_ivq (x := x1) ((fT4.1 0 0 3 rfl).trans e1.symm) ?_
    refine zk_iv fun x5 e5 => ?_
    have gx5 : x5.toInt = x1.toInt + (1 : Int32).toInt := by rw [e5]; exact ti_add (by omega) (by omega)
    refine zk_sv fun S6 E6 => ?_
    have RS6 : RI S6 := by rw [E6]; exact RT4.wr (show (0 : Int) ≤ x5.toInt by omega) (show x5.toInt ≤ 3 by omega)
    have FS6 : Fr 2147485625 S0 S6 := by rw [E6]; exact FT4.wr (k := 3) rfl rfl
    have GS6 : GI S6 := by rw [E6]; exact GT4.wr (k := 3) rfl (by decide)
    refine zk_ivq (x := x5) (by rw [E6]; exact ge_pus) ?_
    exact zk_some ⟨RS6, FS6, GS6, trivial⟩
  ·
    exact zk_some ⟨RS0, FS0, GS0, trivial⟩
theorem s_F_X6_restore (S0 : fS) (RS0 : RI S0) (GS0 : GI S0) : zk (F_X6_restore S0) (fun v S9 => RI S9 ∧ Fr 2147485625 S0 S9 ∧ GI S9 ∧ True) := by
  have lm1 : (-1 : Int32).toInt = -1 := by decide
  have l0 : (0 : Int32).toInt = 0 := by decide
  have l1 : (1 : Int32).toInt = 1 := by decide
  have l3 : (3 : Int32).toInt = 3 := by decide
  have FS0 : Fr 2147485625 S0 S0 := Fr.rf
  unfold F_X6_restore
  refine zk_iv fun x1 e1 => ?_
  have gx1 : 0 ≤ x1.toInt ∧ x1.toInt ≤ 3 := by rw [e1]; exact RS0 0 _ _
  refine zk_lt (fun c2 => ?_) (fun c2 => ?_)
  ·
    refine zk_ivq (x := x1) e1.symm ?_
    refine zk_iv fun x3 e3 => ?_
    have gx3 : x3.toInt = x1.toInt - (1 : Int32).toInt := by rw [e3]; exact ti_sub (by omega) (by omega)
    refine zk_sv fun S4 E4 => ?_
    have RS4 : RI S4 := by rw [E4]; exact RS0.wr (show (0 : Int) ≤ x3.toInt by omega) (show x3.toInt ≤ 3 by omega)
    have FS4 : Fr 2147485625 S0 S4 := by rw [E4]; exact FS0.wr (k := 3) rfl rfl
    have GS4 : GI S4 := by rw [E4]; exact GS0.wr (k := 3) rfl (by decide)
    refine zk_ivq (x := x3) (by rw [E4]; exact ge_pus) ?_
    refine zk_gd ⟨by omega, by omega⟩ ?_
    refine zk_bd (s_F_X0_copyFrom _ _ _ RS4 GS4 (by omega)) (fun v5 T6 h5 => ?_)
    obtain ⟨RT6, fT6, GT6, h5⟩ := h5
    have FT6 := FS4.tr (fT6.sub (m := 2147485625) (by decide))
    refine zk_ivq (x := x3) ((fT6.1 0 0 3 rfl).trans (by rw [E4]; exact ge_pus)) ?_
    exact zk_some ⟨RT6, FT6, GT6, trivial⟩
  ·
    exact zk_some ⟨RS0, FS0, GS0, trivial⟩
theorem s_B_X6_worth_32  (z : Int32 × Int32 × Int32 × Int32) (S : fS) (RS : RI S) (GS : GI S) (hi : 0 ≤ z.2.2.2.toInt ∧ z.2.2.2.toInt ≤ 20 ∧ z.2.2.1.toInt ≤ 20) (hm : (20 - z.2.2.2.toInt).toNat < 4294967296) : zk (lp (B_X6_worth_32) fuel z S) (fun v S9 => RI S9 ∧ Fr 3073 S S9 ∧ v.1 = 0) := by
  have l0 : (0 : Int32).toInt = 0 := by decide
  have l2 : (2 : Int32).toInt = 2 := by decide
  have lo1 : (Int32.ofInt 1).toInt = 1 := by decide
  refine zk_lp (fun z S => RI S ∧ GI S ∧ (0 ≤ z.2.2.2.toInt ∧ z.2.2.2.toInt ≤ 20 ∧ z.2.2.1.toInt ≤ 20)) (fun z S => (20 - z.2.2.2.toInt).toNat) (fun z S (v : Nat × Int32) S9 => RI S9 ∧ Fr 3073 S S9 ∧ v.1 = 0) ?_ z S ⟨RS, GS, hi⟩ hm
  clear RS hi hm GS
  intro k z S hI hk
  obtain ⟨RS, GS, hI⟩ := hI
  obtain ⟨a1, a2, a3, a4⟩ := z
  (try dsimp only at hI); (try dsimp only at hk); (try dsimp only)
  have FS : Fr 3073 S S := Fr.rf
  unfold B_X6_worth_32
  dsimp only
  have b1 := ti_bd a3
  refine zk_le (fun c2 => ?_) (fun c2 => ?_)
  ·
    refine zk_bd (s_F_X6_worthOnCopy _ _ RS GS) (fun v3 T4 h3 => ?_)
    obtain ⟨RT4, fT4, h3⟩ := h3
    have FT4 := FS.tr (fT4.sub (m := 3073) (by decide))
    have GT4 := GS.fr fT4 rfl rfl
    exact zk_some ⟨RT4, FT4, by (try dsimp only) <;> omega⟩
  ·
    refine zk_bd (s_F_X6_tryOnCopy _ _ RS GS) (fun v5 T6 h5 => ?_)
    obtain ⟨RT6, fT6, h5⟩ := h5
    have FT6 := FS.tr (fT6.sub (m := 3073) (by decide))
    have GT6 := GS.fr fT6 rfl rfl
    refine zk_iv fun x7 e7 => ?_
    have gx7 : x7.toInt = a4.toInt + (Int32.ofInt 1).toInt := by rw [e7]; exact ti_add (by omega) (by omega)
    refine zk_imp (hk (a1, a2, a3, x7) _ ⟨RT6, GT6, (by (try dsimp only) <;> omega)⟩ (by (try dsimp only) <;> omega)) (fun v8 T9 h8 => ?_)
    obtain ⟨RT9, FT9, h8⟩ := h8
    try dsimp only at h8
    exact ⟨RT9, FT6.tr FT9, by omega⟩
theorem s_F_X6_worth (p1 : Int32) (p2 : Int32) (p3 : Int32) (S0 : fS) (RS0 : RI S0) (GS0 : GI S0) : zk (F_X6_worth p1 p2 p3 S0) (fun v S9 => RI S9 ∧ Fr 2147487665 S0 S9 ∧ GI S9 ∧ (v.1 = 0 ∨ v.1 = 1 ∨ v.1 = 2)) := by
  have l0 : (0 : Int32).toInt = 0 := by decide
  have l1 : (1 : Int32).toInt = 1 := by decide
  have l20 : (20 : Int32).toInt = 20 := by decide
  have FS0 : Fr 2147487665 S0 S0 := Fr.rf
  unfold F_X6_worth
  refine zk_bx (s_F_X6_needCell _ _ RS0) (fun v1 T2 h1 => ?_) (fun z3 v1 T2 h1 => ?_)
  ·
    obtain ⟨rfl, h1⟩ := h1
    try dsimp only at h1
    refine zk_bx (s_F_X6_needCell _ _ RS0) (fun v4 T5 h4 => ?_) (fun z6 v4 T5 h4 => ?_)
    ·
      obtain ⟨rfl, h4⟩ := h4
      try dsimp only at h4
      refine zk_bd (s_F_X6_within _ _ _ _ RS0) (fun v7 T8 h7 => ?_)
      obtain ⟨rfl, h7⟩ := h7
      refine zk_bx (s_F_X6_need _ _ RS0) (fun v9 T10 h9 => ?_) (fun z11 v9 T10 h9 => ?_)
      ·
        obtain ⟨rfl, h9⟩ := h9
        try dsimp only at h9
        refine zk_bd (s_F_X0_copyFrom _ _ _ RS0 GS0 (by omega)) (fun v12 T13 h12 => ?_)
        obtain ⟨RT13, fT13, GT13, h12⟩ := h12
        have FT13 := FS0.tr (fT13.sub (m := 2147487665) (by decide))
        refine zk_imp (s_B_X6_worth_32 _ _ RT13 GT13 (by (try dsimp only) <;> omega) (by (try dsimp only) <;> omega)) (fun v14 T15 h14 => ?_)
        obtain ⟨RT15, fT15, h14⟩ := h14
        have FT15 := FT13.tr (fT15.sub (m := 2147487665) (by decide))
        have GT15 := GT13.fr fT15 rfl rfl
        try dsimp only at h14
        exact ⟨RT15, FT15, GT15, by omega⟩
      ·
        obtain ⟨rfl, h9⟩ := h9
        try dsimp only at h9
        exact ⟨RS0, FS0, GS0, by (try dsimp only) <;> omega⟩
    ·
      obtain ⟨rfl, h4⟩ := h4
      try dsimp only at h4
      exact ⟨RS0, FS0, GS0, by (try dsimp only) <;> omega⟩
  ·
    obtain ⟨rfl, h1⟩ := h1
    try dsimp only at h1
    exact ⟨RS0, FS0, GS0, by (try dsimp only) <;> omega⟩
theorem s_B_X6_bide_31  (z : Int32 × Int32 × Int32 × Int32 × Int32) (S : fS) (RS : RI S) (GS : GI S) (hi : 0 ≤ z.2.2.2.2.toInt ∧ z.2.2.2.2.toInt ≤ 21) (hm : (21 - z.2.2.2.2.toInt).toNat < 4294967296) : zk (lp (B_X6_bide_31) fuel z S) (fun v S9 => RI S9 ∧ Fr 3073 S S9 ∧ v.1 = 0) := by
  have l0 : (0 : Int32).toInt = 0 := by decide
  have l3 : (3 : Int32).toInt = 3 := by decide
  have l20 : (20 : Int32).toInt = 20 := by decide
  have lo1 : (Int32.ofInt 1).toInt = 1 := by decide
  refine zk_lp (fun z S => RI S ∧ GI S ∧ (0 ≤ z.2.2.2.2.toInt ∧ z.2.2.2.2.toInt ≤ 21)) (fun z S => (21 - z.2.2.2.2.toInt).toNat) (fun z S (v : Nat × Int32) S9 => RI S9 ∧ Fr 3073 S S9 ∧ v.1 = 0) ?_ z S ⟨RS, GS, hi⟩ hm
  clear RS hi hm GS
  intro k z S hI hk
  obtain ⟨RS, GS, hI⟩ := hI
  obtain ⟨a1, a2, a3, a4, a5⟩ := z
  (try dsimp only at hI); (try dsimp only at hk); (try dsimp only)
  have FS : Fr 3073 S S := Fr.rf
  unfold B_X6_bide_31
  dsimp only
  refine zk_lt (fun c1 => ?_) (fun c1 => ?_)
  ·
    exact zk_some ⟨RS, FS, by (try dsimp only) <;> omega⟩
  ·
    refine zk_bd (s_F_X6_tryOnCopy _ _ RS GS) (fun v2 T3 h2 => ?_)
    obtain ⟨RT3, fT3, h2⟩ := h2
    have FT3 := FS.tr (fT3.sub (m := 3073) (by decide))
    have GT3 := GS.fr fT3 rfl rfl
    refine zk_bd (s_F_X6_worthOnCopy _ _ RT3 GT3) (fun v4 T5 h4 => ?_)
    obtain ⟨RT5, fT5, h4⟩ := h4
    have FT5 := FT3.tr (fT5.sub (m := 3073) (by decide))
    have GT5 := GT3.fr fT5 rfl rfl
    have b6 := ti_bd v4
    have b7 := ti_bd a4
    refine zk_le (fun c8 => ?_) (fun c8 => ?_)
    ·
      unfold B_X6_bide_65
      refine zk_iv fun x9 e9 => ?_
      have gx9 : x9.toInt = a5.toInt + (Int32.ofInt 1).toInt := by rw [e9]; exact ti_add (by omega) (by omega)
      refine zk_imp (hk (a1, a2, a3, a4, x9) _ ⟨RT5, GT5, (by (try dsimp only) <;> omega)⟩ (by (try dsimp only) <;> omega)) (fun v10 T11 h10 => ?_)
      obtain ⟨RT11, FT11, h10⟩ := h10
      try dsimp only at h10
      exact ⟨RT11, FT5.tr FT11, by omega⟩
    ·
      unfold B_X6_bide_65
      refine zk_iv fun x12 e12 => ?_
      have gx12 : x12.toInt = a5.toInt + (Int32.ofInt 1).toInt := by rw [e12]; exact ti_add (by omega) (by omega)
      refine zk_imp (hk (a1, a2, a5, v4, x12) _ ⟨RT5, GT5, (by (try dsimp only) <;> omega)⟩ (by (try dsimp only) <;> omega)) (fun v13 T14 h13 => ?_)
      obtain ⟨RT14, FT14, h13⟩ := h13
      try dsimp only at h13
      exact ⟨RT14, FT5.tr FT14, by omega⟩
theorem s_F_X6_bide (p1 : Int32) (p2 : Int32) (S0 : fS) (RS0 : RI S0) (GS0 : GI S0) : zk (F_X6_bide p1 p2 S0) (fun v S9 => RI S9 ∧ Fr 2147487665 S0 S9 ∧ GI S9 ∧ (v.1 = 0 ∨ v.1 = 2)) := by
  have l0 : (0 : Int32).toInt = 0 := by decide
  have l1 : (1 : Int32).toInt = 1 := by decide
  have l2 : (2 : Int32).toInt = 2 := by decide
  have FS0 : Fr 2147487665 S0 S0 := Fr.rf
  unfold F_X6_bide
  refine zk_bx (s_F_X6_needCell _ _ RS0) (fun v1 T2 h1 => ?_) (fun z3 v1 T2 h1 => ?_)
  ·
    obtain ⟨rfl, h1⟩ := h1
    try dsimp only at h1
    refine zk_bx (s_F_X6_needCell _ _ RS0) (fun v4 T5 h4 => ?_) (fun z6 v4 T5 h4 => ?_)
    ·
      obtain ⟨rfl, h4⟩ := h4
      try dsimp only at h4
      refine zk_bd (s_F_X0_copyFrom _ _ _ RS0 GS0 (by omega)) (fun v7 T8 h7 => ?_)
      obtain ⟨RT8, fT8, GT8, h7⟩ := h7
      have FT8 := FS0.tr (fT8.sub (m := 2147487665) (by decide))
      refine zk_bd (s_F_X6_worthOnCopy _ _ RT8 GT8) (fun v9 T10 h9 => ?_)
      obtain ⟨RT10, fT10, h9⟩ := h9
      have FT10 := FT8.tr (fT10.sub (m := 2147487665) (by decide))
      have GT10 := GT8.fr fT10 rfl rfl
      refine zk_imp (s_B_X6_bide_31 _ _ RT10 GT10 (by (try dsimp only) <;> omega) (by (try dsimp only) <;> omega)) (fun v11 T12 h11 => ?_)
      obtain ⟨RT12, fT12, h11⟩ := h11
      have FT12 := FT10.tr (fT12.sub (m := 2147487665) (by decide))
      have GT12 := GT10.fr fT12 rfl rfl
      try dsimp only at h11
      exact ⟨RT12, FT12, GT12, by omega⟩
    ·
      obtain ⟨rfl, h4⟩ := h4
      try dsimp only at h4
      exact ⟨RS0, FS0, GS0, by (try dsimp only) <;> omega⟩
  ·
    obtain ⟨rfl, h1⟩ := h1
    try dsimp only at h1
    exact ⟨RS0, FS0, GS0, by (try dsimp only) <;> omega⟩
theorem s_B_X6_player_65  (z : Int32 × Int32 × Int32 × Int32 × Int32 × Int32 × Int32) (S : fS) (RS : RI S) (GS : GI S) (hi : 0 ≤ z.2.2.2.2.1.toInt ∧ z.2.2.2.2.1.toInt ≤ 99 ∧ z.2.1.toInt ≤ 99) (hm : (99 - z.2.2.2.2.1.toInt).toNat < 4294967296) : zk (lp (B_X6_player_65) fuel z S) (fun v S9 => RI S9 ∧ Fr 3073 S S9 ∧ v.1 = 0) := by
  have l0 : (0 : Int32).toInt = 0 := by decide
  have l1 : (1 : Int32).toInt = 1 := by decide
  have l2 : (2 : Int32).toInt = 2 := by decide
  have l3 : (3 : Int32).toInt = 3 := by decide
  have l5 : (5 : Int32).toInt = 5 := by decide
  have l6 : (6 : Int32).toInt = 6 := by decide
  have l7 : (7 : Int32).toInt = 7 := by decide
  have l8 : (8 : Int32).toInt = 8 := by decide
  have l99 : (99 : Int32).toInt = 99 := by decide
  have lo1 : (Int32.ofInt 1).toInt = 1 := by decide
  refine zk_lp (fun z S => RI S ∧ GI S ∧ (0 ≤ z.2.2.2.2.1.toInt ∧ z.2.2.2.2.1.toInt ≤ 99 ∧ z.2.1.toInt ≤ 99)) (fun z S => (99 - z.2.2.2.2.1.toInt).toNat) (fun z S (v : Nat × Int32) S9 => RI S9 ∧ Fr 3073 S S9 ∧ v.1 = 0) ?_ z S ⟨RS, GS, hi⟩ hm
  clear RS hi hm GS
  intro k z S hI hk
  obtain ⟨RS, GS, hI⟩ := hI
  obtain ⟨a1, a3, a4, a5, a6, a7, a8⟩ := z
  (try dsimp only at hI); (try dsimp only at hk); (try dsimp only)
  have FS : Fr 3073 S S := Fr.rf
  unfold B_X6_player_65
  dsimp only
  have b1 := ti_bd a3
  refine zk_le (fun c2 => ?_) (fun c2 => ?_)
  ·
    unfold B_X6_player_146
    have b3 := ti_bd a4
    refine zk_eq (fun c4 => ?_) (fun c4 => ?_)
    ·
      exact zk_some ⟨RS, FS, by (try dsimp only) <;> omega⟩
    ·
      refine zk_eq (fun c5 => ?_) (fun c5 => ?_)
      ·
        exact zk_some ⟨RS, FS, by (try dsimp only) <;> omega⟩
      ·
        refine zk_eq (fun c6 => ?_) (fun c6 => ?_)
        ·
          exact zk_some ⟨RS, FS, by (try dsimp only) <;> omega⟩
        ·
          exact zk_some ⟨RS, FS, by (try dsimp only) <;> omega⟩
  ·
    have b7 := ti_bd a5
    refine zk_le (fun c8 => ?_) (fun c8 => ?_)
    ·
      unfold B_X6_player_146
      have b9 := ti_bd a4
      refine zk_eq (fun c10 => ?_) (fun c10 => ?_)
      ·
        exact zk_some ⟨RS, FS, by (try dsimp only) <;> omega⟩
      ·
        refine zk_eq (fun c11 => ?_) (fun c11 => ?_)
        ·
          exact zk_some ⟨RS, FS, by (try dsimp only) <;> omega⟩
        ·
          refine zk_eq (fun c12 => ?_) (fun c12 => ?_)
          ·
            exact zk_some ⟨RS, FS, by (try dsimp only) <;> omega⟩
          ·
            exact zk_some ⟨RS, FS, by (try dsimp only) <;> omega⟩
    ·
      refine zk_bd (s_F_X6_tryOnCopy _ _ RS GS) (fun v13 T14 h13 => ?_)
      obtain ⟨RT14, fT14, h13⟩ := h13
      have FT14 := FS.tr (fT14.sub (m := 3073) (by decide))
      have GT14 := GS.fr fT14 rfl rfl
      refine zk_iv fun x15 e15 => ?_
      have gx15 : x15.toInt = a6.toInt + (Int32.ofInt 1).toInt := by rw [e15]; exact ti_add (by omega) (by omega)
      have b16 := ti_bd v13
      refine zk_eq (fun c17 => ?_) (fun c17 => ?_)
      ·
        unfold B_X6_player_100
        unfold B_X6_player_105
        refine zk_iv fun x18 e18 => ?_
        refine zk_eq (fun c19 => ?_) (fun c19 => ?_)
        ·
          exact False.elim (by omega)
        ·
          unfold B_X6_player_121
          refine zk_iv fun x20 e20 => ?_
          have b21 := ti_bd a8
          have gx20 : x20.toInt = a8.toInt + (0 : Int32).toInt := by rw [e20]; exact ti_add (by omega) (by omega)
          refine zk_bd (s_F_X6_faithGiven _ _ RT14) (fun v22 T23 h22 => ?_)
          obtain ⟨rfl, h22⟩ := h22
          refine zk_iv fun x24 e24 => ?_
          refine zk_iv fun x25 e25 => ?_
          have gx25 := zi_min e25
          refine zk_iv fun x26 e26 => ?_
          have gx26 := zi_max e26
          refine zk_imp (hk (a1, a3, a4, x26, x15, x18, x20) _ ⟨RT14, GT14, (by (try dsimp only) <;> omega)⟩ (by (try dsimp only) <;> omega)) (fun v27 T28 h27 => ?_)
          obtain ⟨RT28, FT28, h27⟩ := h27
          try dsimp only at h27
          exact ⟨RT28, FT14.tr FT28, by omega⟩
      ·
        refine zk_eq (fun c29 => ?_) (fun c29 => ?_)
        ·
          unfold B_X6_player_100
          unfold B_X6_player_105
          refine zk_iv fun x30 e30 => ?_
          refine zk_eq (fun c31 => ?_) (fun c31 => ?_)
          ·
            exact False.elim (by omega)
          ·
            unfold B_X6_player_121
            refine zk_iv fun x32 e32 => ?_
            have b33 := ti_bd a8
            have gx32 : x32.toInt = a8.toInt + (0 : Int32).toInt := by rw [e32]; exact ti_add (by omega) (by omega)
            refine zk_bd (s_F_X6_faithGiven _ _ RT14) (fun v34 T35 h34 => ?_)
            obtain ⟨rfl, h34⟩ := h34
            refine zk_iv fun x36 e36 => ?_
            refine zk_iv fun x37 e37 => ?_
            have gx37 := zi_min e37
            refine zk_iv fun x38 e38 => ?_
            have gx38 := zi_max e38
            refine zk_imp (hk (a1, a3, a4, x38, x15, x30, x32) _ ⟨RT14, GT14, (by (try dsimp only) <;> omega)⟩ (by (try dsimp only) <;> omega)) (fun v39 T40 h39 => ?_)
            obtain ⟨RT40, FT40, h39⟩ := h39
            try dsimp only at h39
            exact ⟨RT40, FT14.tr FT40, by omega⟩
        ·
          unfold B_X6_player_105
          refine zk_iv fun x41 e41 => ?_
          have b42 := ti_bd a7
          have gx41 : x41.toInt = a7.toInt + (0 : Int32).toInt := by rw [e41]; exact ti_add (by omega) (by omega)
          refine zk_eq (fun c43 => ?_) (fun c43 => ?_)
          ·
            unfold B_X6_player_121
            refine zk_iv fun x44 e44 => ?_
            refine zk_bd (s_F_X6_faithGiven _ _ RT14) (fun v45 T46 h45 => ?_)
            obtain ⟨rfl, h45⟩ := h45
            refine zk_iv fun x47 e47 => ?_
            refine zk_iv fun x48 e48 => ?_
            have gx48 := zi_min e48
            refine zk_iv fun x49 e49 => ?_
            have gx49 := zi_max e49
            refine zk_imp (hk (a1, a3, a4, x49, x15, x41, x44) _ ⟨RT14, GT14, (by (try dsimp only) <;> omega)⟩ (by (try dsimp only) <;> omega)) (fun v50 T51 h50 => ?_)
            obtain ⟨RT51, FT51, h50⟩ := h50
            try dsimp only at h50
            exact ⟨RT51, FT14.tr FT51, by omega⟩
          ·
            unfold B_X6_player_121
            refine zk_iv fun x52 e52 => ?_
            have b53 := ti_bd a8
            have gx52 : x52.toInt = a8.toInt + (0 : Int32).toInt := by rw [e52]; exact ti_add (by omega) (by omega)
            refine zk_bd (s_F_X6_faithGiven _ _ RT14) (fun v54 T55 h54 => ?_)
            obtain ⟨rfl, h54⟩ := h54
            refine zk_iv fun x56 e56 => ?_
            refine zk_iv fun x57 e57 => ?_
            have gx57 := zi_min e57
            refine zk_iv fun x58 e58 => ?_
            have gx58 := zi_max e58
            refine zk_imp (hk (a1, a3, a4, x58, x15, x41, x52) _ ⟨RT14, GT14, (by (try dsimp only) <;> omega)⟩ (by (try dsimp only) <;> omega)) (fun v59 T60 h59 => ?_)
            obtain ⟨RT60, FT60, h59⟩ := h59
            try dsimp only at h59
            exact ⟨RT60, FT14.tr FT60, by omega⟩
theorem s_F_X6_player (p1 : Int32) (p2 : Int32) (p3 : Int32) (p4 : Int32) (S0 : fS) (RS0 : RI S0) (GS0 : GI S0) : zk (F_X6_player p1 p2 p3 p4 S0) (fun v S9 => RI S9 ∧ Fr 2147487665 S0 S9 ∧ GI S9 ∧ (v.1 = 0 ∨ v.1 = 1 ∨ v.1 = 2)) := by
  have l0 : (0 : Int32).toInt = 0 := by decide
  have l1 : (1 : Int32).toInt = 1 := by decide
  have l3 : (3 : Int32).toInt = 3 := by decide
  have l99 : (99 : Int32).toInt = 99 := by decide
  have FS0 : Fr 2147487665 S0 S0 := Fr.rf
  unfold F_X6_player
  refine zk_bx (s_F_X6_needCell _ _ RS0) (fun v1 T2 h1 => ?_) (fun z3 v1 T2 h1 => ?_)
  ·
    obtain ⟨rfl, h1⟩ := h1
    try dsimp only at h1
    refine zk_bd (s_F_X6_within _ _ _ _ RS0) (fun v4 T5 h4 => ?_)
    obtain ⟨rfl, h4⟩ := h4
    refine zk_eq (fun c6 => ?_) (fun c6 => ?_)
    ·
      unfold B_X6_player_38
      unfold B_X6_player_39
      refine zk_bx (s_F_X6_need _ _ RS0) (fun v7 T8 h7 => ?_) (fun z9 v7 T8 h7 => ?_)
      ·
        obtain ⟨rfl, h7⟩ := h7
        try dsimp only at h7
        refine zk_bd (s_F_X0_copyFrom _ _ _ RS0 GS0 (by omega)) (fun v10 T11 h10 => ?_)
        obtain ⟨RT11, fT11, GT11, h10⟩ := h10
        have FT11 := FS0.tr (fT11.sub (m := 2147487665) (by decide))
        refine zk_imp (s_B_X6_player_65 _ _ RT11 GT11 (by (try dsimp only) <;> omega) (by (try dsimp only) <;> omega)) (fun v12 T13 h12 => ?_)
        obtain ⟨RT13, fT13, h12⟩ := h12
        have FT13 := FT11.tr (fT13.sub (m := 2147487665) (by decide))
        have GT13 := GT11.fr fT13 rfl rfl
        try dsimp only at h12
        exact ⟨RT13, FT13, GT13, by omega⟩
      ·
        obtain ⟨rfl, h7⟩ := h7
        try dsimp only at h7
        exact ⟨RS0, FS0, GS0, by (try dsimp only) <;> omega⟩
    ·
      refine zk_bd (s_F_X6_within _ _ _ _ RS0) (fun v14 T15 h14 => ?_)
      obtain ⟨rfl, h14⟩ := h14
      refine zk_eq (fun c16 => ?_) (fun c16 => ?_)
      ·
        unfold B_X6_player_38
        unfold B_X6_player_39
        refine zk_bx (s_F_X6_need _ _ RS0) (fun v17 T18 h17 => ?_) (fun z19 v17 T18 h17 => ?_)
        ·
          obtain ⟨rfl, h17⟩ := h17
          try dsimp only at h17
          refine zk_bd (s_F_X0_copyFrom _ _ _ RS0 GS0 (by omega)) (fun v20 T21 h20 => ?_)
          obtain ⟨RT21, fT21, GT21, h20⟩ := h20
          have FT21 := FS0.tr (fT21.sub (m := 2147487665) (by decide))
          refine zk_imp (s_B_X6_player_65 _ _ RT21 GT21 (by (try dsimp only) <;> omega) (by (try dsimp only) <;> omega)) (fun v22 T23 h22 => ?_)
          obtain ⟨RT23, fT23, h22⟩ := h22
          have FT23 := FT21.tr (fT23.sub (m := 2147487665) (by decide))
          have GT23 := GT21.fr fT23 rfl rfl
          try dsimp only at h22
          exact ⟨RT23, FT23, GT23, by omega⟩
        ·
          obtain ⟨rfl, h17⟩ := h17
          try dsimp only at h17
          exact ⟨RS0, FS0, GS0, by (try dsimp only) <;> omega⟩
      ·
        refine zk_bd (s_F_X6_within _ _ _ _ RS0) (fun v24 T25 h24 => ?_)
        obtain ⟨rfl, h24⟩ := h24
        refine zk_eq (fun c26 => ?_) (fun c26 => ?_)
        ·
          unfold B_X6_player_38
          unfold B_X6_player_39
          refine zk_bx (s_F_X6_need _ _ RS0) (fun v27 T28 h27 => ?_) (fun z29 v27 T28 h27 => ?_)
          ·
            obtain ⟨rfl, h27⟩ := h27
            try dsimp only at h27
            refine zk_bd (s_F_X0_copyFrom _ _ _ RS0 GS0 (by omega)) (fun v30 T31 h30 => ?_)
            obtain ⟨RT31, fT31, GT31, h30⟩ := h30
            have FT31 := FS0.tr (fT31.sub (m := 2147487665) (by decide))
            refine zk_imp (s_B_X6_player_65 _ _ RT31 GT31 (by (try dsimp only) <;> omega) (by (try dsimp only) <;> omega)) (fun v32 T33 h32 => ?_)
            obtain ⟨RT33, fT33, h32⟩ := h32
            have FT33 := FT31.tr (fT33.sub (m := 2147487665) (by decide))
            have GT33 := GT31.fr fT33 rfl rfl
            try dsimp only at h32
            exact ⟨RT33, FT33, GT33, by omega⟩
          ·
            obtain ⟨rfl, h27⟩ := h27
            try dsimp only at h27
            exact ⟨RS0, FS0, GS0, by (try dsimp only) <;> omega⟩
        ·
          unfold B_X6_player_39
          refine zk_bx (s_F_X6_need _ _ RS0) (fun v34 T35 h34 => ?_) (fun z36 v34 T35 h34 => ?_)
          ·
            obtain ⟨rfl, h34⟩ := h34
            try dsimp only at h34
            refine zk_bd (s_F_X0_copyFrom _ _ _ RS0 GS0 (by omega)) (fun v37 T38 h37 => ?_)
            obtain ⟨RT38, fT38, GT38, h37⟩ := h37
            have FT38 := FS0.tr (fT38.sub (m := 2147487665) (by decide))
            refine zk_imp (s_B_X6_player_65 _ _ RT38 GT38 (by (try dsimp only) <;> omega) (by (try dsimp only) <;> omega)) (fun v39 T40 h39 => ?_)
            obtain ⟨RT40, fT40, h39⟩ := h39
            have FT40 := FT38.tr (fT40.sub (m := 2147487665) (by decide))
            have GT40 := GT38.fr fT40 rfl rfl
            try dsimp only at h39
            exact ⟨RT40, FT40, GT40, by omega⟩
          ·
            obtain ⟨rfl, h34⟩ := h34
            try dsimp only at h34
            exact ⟨RS0, FS0, GS0, by (try dsimp only) <;> omega⟩
  ·
    obtain ⟨rfl, h1⟩ := h1
    try dsimp only at h1
    exact ⟨RS0, FS0, GS0, by (try dsimp only) <;> omega⟩
