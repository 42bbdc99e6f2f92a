/-! the pure part: the reference, images -/
section IMG
variable {S T U B : fS}
def PI7 (B T : fS) (k0 : Nat) (m : Nat) : Prop := RI T ∧ Fr 34359803904 B T ∧ (∀ i j : Nat, ge T 67 i j = ge B 67 i j) ∧ (∀ r j : Nat, r < 5 * k0 ∨ 5 * k0 + 5 ≤ r → ge T 69 r j = ge B 69 r j) ∧ ∀ t : Nat, t < m → 0 ≤ (ge T 69 (5 * k0 + 3) t).toInt ∧ (ge T 69 (5 * k0 + 3) t).toInt ≤ 63
def IQ7 (B T : fS) (k0 : Nat) : Prop := RI T ∧ Fr 34360328192 B T ∧ (ge T 40 0 56).toInt = (ge B 40 0 56).toInt + 1 ∧ (∀ i j : Nat, ge T 67 i j = ge B 67 i j) ∧ (∀ r j : Nat, r < 5 * k0 ∨ 5 * k0 + 5 ≤ r → ge T 69 r j = ge B 69 r j) ∧ ∀ t : Nat, t < 24 → 0 ≤ (ge T 69 (5 * k0 + 3) t).toInt ∧ (ge T 69 (5 * k0 + 3) t).toInt ≤ 63
theorem PI7.w {k0 m a i j : Nat} {v : Int32} (h : PI7 B T k0 m) (ha : rgn a j = 16) (hr : rg a j = rgF) (h67 : 67 ≠ a) (h69 : 69 ≠ a) : PI7 B (pu T a i j v) k0 m := by
  obtain ⟨R, F, A, C, D⟩ := h
  exact ⟨R.wf hr, F.wr ha rfl, fun i j => (ge_pua h67).trans (A i j), fun r j q => (ge_pua h69).trans (C r j q), fun t q => by rw [ge_pua h69]; exact D t q⟩
theorem h7_im217 (k6 : Int32 × Int32 → fS → Option (Int32 × fS)) (p1 c : Int32) (k0 : Nat) {Q : Int32 → fS → Prop} (hp : 0 ≤ p1.toInt ∧ p1.toInt ≤ 2 ∧ 0 ≤ c.toInt ∧ c.toInt ≤ 199) (hk2 : ∀ (y : Int32) (T : fS), y.toInt = c.toInt + 1 → PI7 B T k0 24 → zk (k6 (p1, y) T) Q) (h : PI7 B T k0 24) : zk (lp (B_X7_image_217 k6) fuel (p1, c, 0) T) Q := by
  have l0 : (0 : Int32).toInt = 0 := by decide
  have l14 : (14 : Int32).toInt = 14 := by decide
  refine zk_lp (fun (z : Int32 × Int32 × Int32) T => z.1 = p1 ∧ z.2.1 = c ∧ 0 ≤ z.2.2.toInt ∧ z.2.2.toInt ≤ 14 ∧ PI7 B T k0 24) (fun (z : Int32 × Int32 × Int32) _ => (14 - z.2.2.toInt).toNat) (fun _ _ (v : Int32) T => Q v T) ?_ (p1, c, 0) T ⟨rfl, rfl, by show (0 : Int) ≤ (0 : Int32).toInt; decide, by show (0 : Int32).toInt ≤ 14; decide, h⟩ (by show (14 - (0 : Int32).toInt).toNat < 4294967296; decide)
  clear h
  intro k z T hI hk
  obtain ⟨a1, a2, a3⟩ := z
  obtain ⟨h1, h2, h3, h4, hT⟩ := hI
  dsimp only at h1 h2 h3 h4
  subst h1
  subst h2
  unfold B_X7_image_217
  dsimp only
  refine zk_le (fun _ => ?_) (fun cc => ?_)
  · refine zk_iv fun y ey => ?_
    exact hk2 y T (by rw [ey]; exact ti_inc (by omega)) hT
  · refine zk_iv fun x6 e6 => ?_
    have g6 : x6.toInt = 200 * a1.toInt := by rw [e6, ti_mulc (c := 200) (by decide) (by omega) (by omega)]
    refine zk_iv fun x7 e7 => ?_
    have g7 : x7.toInt = 200 * a1.toInt + a2.toInt := by rw [e7, ti_add (by omega) (by omega), g6]
    refine zk_gd ⟨by omega, by omega⟩ ?_
    refine zk_gd ⟨by omega, by omega⟩ ?_
    refine zk_gd ⟨by omega, by omega⟩ ?_
    refine zk_iv fun x11 _ => ?_
    refine zk_gd ⟨by omega, by omega⟩ ?_
    refine zk_sv fun V E => ?_
    refine zk_iv fun y ey => ?_
    have gy : y.toInt = a3.toInt + 1 := by rw [ey]; exact ti_inc (by omega)
    refine hk (a1, a2, y) V ⟨rfl, rfl, by dsimp only; omega, by dsimp only; omega, by rw [E]; exact hT.w rfl rfl (by decide) (by decide)⟩ (by show (14 - y.toInt).toNat < (14 - a3.toInt).toNat; omega)
theorem h7_im206 (p1 : Int32) (k0 : Nat) (RB : RI B) (hp : 0 ≤ p1.toInt ∧ p1.toInt ≤ 2) (hi : (ge B 40 0 56).toInt ≤ 2) (h : PI7 B T k0 24) : zk (lp (B_X7_image_206) fuel (p1, 0) T) (fun v U => IQ7 B U k0 ∧ v = ge U 40 0 56) := by
  have l0 : (0 : Int32).toInt = 0 := by decide
  have l1 : (1 : Int32).toInt = 1 := by decide
  refine zk_lp (fun (z : Int32 × Int32) T => z.1 = p1 ∧ 0 ≤ z.2.toInt ∧ z.2.toInt ≤ 200 ∧ PI7 B T k0 24) (fun (z : Int32 × Int32) _ => (200 - z.2.toInt).toNat) (fun _ _ (v : Int32) U => IQ7 B U k0 ∧ v = ge U 40 0 56) ?_ (p1, 0) T ⟨rfl, by show (0 : Int) ≤ (0 : Int32).toInt; decide, by show (0 : Int32).toInt ≤ 200; decide, h⟩ (by show (200 - (0 : Int32).toInt).toNat < 4294967296; decide)
  clear h
  intro k z T hI hk
  obtain ⟨a1, a3⟩ := z
  obtain ⟨h1, h2, h3, hT⟩ := hI
  dsimp only at h1 h2 h3
  subst h1
  have RT := hT.1
  have g46 : (ge T 40 0 46).toInt ≤ 200 := (RT 40 0 46).2
  unfold B_X7_image_206
  dsimp only
  refine zk_iv fun x e => ?_
  subst e
  refine zk_le (fun _ => ?_) (fun c => ?_)
  · obtain ⟨_, F, A, C, D⟩ := hT
    have e56 : ge T 40 0 56 = ge B 40 0 56 := F.1 40 0 56 rfl
    have gB : 0 ≤ (ge B 40 0 56).toInt := (RB 40 0 56).1
    refine zk_iv fun x17 e17 => ?_
    rw [e56] at e17
    refine zk_iv fun x18 e18 => ?_
    have g18 : x18.toInt = (ge B 40 0 56).toInt + 1 := by rw [e18, ti_add (by rw [e17]; omega) (by rw [e17]; omega), l1, e17]
    refine zk_sv fun V E => ?_
    refine zk_iv fun x20 e20 => ?_
    have n : ∀ a i j : Nat, a ≠ 40 → ge V a i j = ge T a i j := fun a i j ha => by rw [E, ge_pua ha]
    refine zk_some ⟨⟨by rw [E]; exact RT.wr (show (0 : Int) ≤ x18.toInt by omega) (show x18.toInt ≤ 3 by omega), by rw [E]; exact (F.sub (by decide)).wr (k := 19) rfl rfl, ?_, fun i j => by rw [n _ _ _ (by decide)]; exact A i j, fun r j q => by rw [n _ _ _ (by decide)]; exact C r j q, fun t q => by rw [n _ _ _ (by decide)]; exact D t q⟩, e20⟩
    have e9 : ge V 40 0 56 = x18 := by rw [E]; exact ge_pus
    rw [e9]; exact g18
  · exact h7_im217 k a1 a3 k0 ⟨hp.1, hp.2, h2, by omega⟩ (fun y V gy hV => hk (a1, y) V ⟨rfl, by dsimp only; omega, by dsimp only; omega, hV⟩ (by show (200 - y.toInt).toNat < (200 - a3.toInt).toNat; omega)) hT
theorem h7_im96 (p1 : Int32) (RB : RI B) (hp : 0 ≤ p1.toInt ∧ p1.toInt ≤ 2) (hi : (ge B 40 0 56).toInt ≤ 2) : zk (lp (B_X7_image_96) fuel (p1, 0) B) (fun v U => IQ7 B U p1.toNatClampNeg ∧ v = ge U 40 0 56) := by
  have l0 : (0 : Int32).toInt = 0 := by decide
  have l1 : (1 : Int32).toInt = 1 := by decide
  have l2 : (2 : Int32).toInt = 2 := by decide
  have l3 : (3 : Int32).toInt = 3 := by decide
  have l4 : (4 : Int32).toInt = 4 := by decide
  have l24 : (24 : Int32).toInt = 24 := by decide
  have hc0 := cn_eq hp.1
  refine zk_lp (fun (z : Int32 × Int32) T => z.1 = p1 ∧ 0 ≤ z.2.toInt ∧ z.2.toInt ≤ 24 ∧ PI7 B T p1.toNatClampNeg z.2.toNatClampNeg) (fun (z : Int32 × Int32) _ => (24 - z.2.toInt).toNat) (fun _ _ (v : Int32) U => IQ7 B U p1.toNatClampNeg ∧ v = ge U 40 0 56) ?_ (p1, 0) B ⟨rfl, by show (0 : Int) ≤ (0 : Int32).toInt; decide, by show (0 : Int32).toInt ≤ 24; decide, RB, Fr.rf, fun _ _ => rfl, fun _ _ _ => rfl, fun t q => absurd q (Nat.not_lt_zero t)⟩ (by show (24 - (0 : Int32).toInt).toNat < 4294967296; decide)
  intro k z T hI hk
  obtain ⟨a1, a3⟩ := z
  obtain ⟨h1, h2, h3, hT⟩ := hI
  dsimp only at h1 h2 h3 hT
  subst h1
  have hc := cn_eq h2
  unfold B_X7_image_96
  dsimp only
  refine zk_le (fun c => ?_) (fun c => ?_)
  · have e24 : a3.toNatClampNeg = 24 := by omega
    rw [e24] at hT
    exact h7_im206 a1 _ RB hp hi hT
  · obtain ⟨RT, F, A, C, D⟩ := hT
    refine zk_iv fun x22 e22 => ?_
    have g22 : x22.toInt = 5 * a1.toInt := by rw [e22, ti_mulc (c := 5) (by decide) (by omega) (by omega)]
    refine zk_gd ⟨by omega, by omega⟩ ?_
    refine zk_gd ⟨by omega, by omega⟩ ?_
    refine zk_iv fun x25 _ => ?_
    refine zk_gd ⟨by omega, by omega⟩ ?_
    refine zk_sv fun S1 E1 => ?_
    refine zk_ivq (x := x22) e22.symm ?_
    refine zk_iv fun x29 e29 => ?_
    have g29 : x29.toInt = 5 * a1.toInt + 1 := by rw [e29, ti_add (by omega) (by omega), l1, g22]
    refine zk_gd ⟨by omega, by omega⟩ ?_
    refine zk_gd ⟨by omega, by omega⟩ ?_
    refine zk_iv fun x32 _ => ?_
    refine zk_gd ⟨by omega, by omega⟩ ?_
    refine zk_sv fun S2 E2 => ?_
    refine zk_ivq (x := x22) e22.symm ?_
    refine zk_iv fun x36 e36 => ?_
    have g36 : x36.toInt = 5 * a1.toInt + 2 := by rw [e36, ti_add (by omega) (by omega), l2, g22]
    refine zk_gd ⟨by omega, by omega⟩ ?_
    refine zk_gd ⟨by omega, by omega⟩ ?_
    refine zk_iv fun x39 _ => ?_
    refine zk_gd ⟨by omega, by omega⟩ ?_
    refine zk_sv fun S3 E3 => ?_
    refine zk_ivq (x := x22) e22.symm ?_
    refine zk_iv fun x43 e43 => ?_
    have g43 : x43.toInt = 5 * a1.toInt + 3 := by rw [e43, ti_add (by omega) (by omega), l3, g22]
    refine zk_gd ⟨by omega, by omega⟩ ?_
    refine zk_gd ⟨by omega, by omega⟩ ?_
    refine zk_iv fun x46 e46 => ?_
    refine zk_gd ⟨by omega, by omega⟩ ?_
    refine zk_sv fun S4 E4 => ?_
    refine zk_ivq (x := x22) e22.symm ?_
    refine zk_iv fun x50 e50 => ?_
    have g50 : x50.toInt = 5 * a1.toInt + 4 := by rw [e50, ti_add (by omega) (by omega), l4, g22]
    refine zk_gd ⟨by omega, by omega⟩ ?_
    refine zk_gd ⟨by omega, by omega⟩ ?_
    refine zk_iv fun x53 _ => ?_
    have r22 := cn_eq (x := x22) (by omega)
    have r29 := cn_eq (x := x29) (by omega)
    have r36 := cn_eq (x := x36) (by omega)
    have r43 := cn_eq (x := x43) (by omega)
    have r50 := cn_eq (x := x50) (by omega)
    have w46 : 0 ≤ x46.toInt ∧ x46.toInt ≤ 63 := by
      rw [e46, E3, ge_pua (by decide), E2, ge_pua (by decide), E1, ge_pua (by decide)]
      exact RT 49 0 _
    have J : ∀ t : Int32, zk (B_X7_image_197 k a1 a3 t a3 x50.toNatClampNeg S4) (fun v U => IQ7 B U a1.toNatClampNeg ∧ v = ge U 40 0 56) := by
      intro t
      unfold B_X7_image_197
      refine zk_gd ⟨by omega, by omega⟩ ?_
      refine zk_sv fun V E => ?_
      refine zk_iv fun y ey => ?_
      have gy : y.toInt = a3.toInt + 1 := by rw [ey]; exact ti_inc (by omega)
      have hy := cn_eq (x := y) (by omega)
      have n : ∀ a i j : Nat, a ≠ 69 → ge V a i j = ge T a i j := fun a i j ha => by rw [E, ge_pua ha, E4, ge_pua ha, E3, ge_pua ha, E2, ge_pua ha, E1, ge_pua ha]
      have nr : ∀ r j : Nat, r < 5 * a1.toNatClampNeg ∨ 5 * a1.toNatClampNeg + 5 ≤ r → ge V 69 r j = ge T 69 r j := fun r j q => by rw [E, ge_pui (by omega), E4, ge_pui (by omega), E3, ge_pui (by omega), E2, ge_pui (by omega), E1, ge_pui (by omega)]
      have n3 : ∀ j : Nat, ge V 69 (5 * a1.toNatClampNeg + 3) j = if j = a3.toNatClampNeg then x46 else ge T 69 (5 * a1.toNatClampNeg + 3) j := fun j => by
        rw [E, ge_pui (by omega), E4, ge_pu]
        by_cases z : j = a3.toNatClampNeg
        · rw [if_pos ⟨rfl, by omega, z⟩, if_pos z]
        · rw [if_neg (fun q => z q.2.2), if_neg z, E3, ge_pui (by omega), E2, ge_pui (by omega), E1, ge_pui (by omega)]
      have R1 : RI S1 := by rw [E1]; exact RT.wf rfl
      have R2 : RI S2 := by rw [E2]; exact R1.wf rfl
      have R3 : RI S3 := by rw [E3]; exact R2.wf rfl
      have R4 : RI S4 := by rw [E4]; exact R3.wf rfl
      have RV : RI V := by rw [E]; exact R4.wf rfl
      have F1 : Fr 34359803904 B S1 := by rw [E1]; exact F.wr (k := 35) rfl rfl
      have F2 : Fr 34359803904 B S2 := by rw [E2]; exact F1.wr (k := 35) rfl rfl
      have F3 : Fr 34359803904 B S3 := by rw [E3]; exact F2.wr (k := 35) rfl rfl
      have F4 : Fr 34359803904 B S4 := by rw [E4]; exact F3.wr (k := 35) rfl rfl
      have FV : Fr 34359803904 B V := by rw [E]; exact F4.wr (k := 35) rfl rfl
      refine hk (a1, y) V ⟨rfl, by dsimp only; omega, by dsimp only; omega, RV, FV, fun i j => by rw [n _ _ _ (by decide)]; exact A i j, fun r j q => by rw [nr r j q]; exact C r j q, fun t q => ?_⟩ (by show (24 - y.toInt).toNat < (24 - a3.toInt).toNat; omega)
      dsimp only at q
      rw [n3]
      by_cases z : t = a3.toNatClampNeg
      · rw [if_pos z]; exact w46
      · rw [if_neg z]; exact D t (by omega)
    exact zk_eq (fun _ => J _) (fun _ => J _)
end IMG
