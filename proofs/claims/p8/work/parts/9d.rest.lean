/-! the pure part: the reference, image, restore, broken -/
section RST
variable {S T U B : fS}
theorem KI.mv {k : Nat} (h : KI S k) (e67 : ge T 67 k 9 = ge S 67 k 9) (e69 : ∀ t : Nat, ge T 69 (5 * k + 3) t = ge S 69 (5 * k + 3) t) (e30 : ∀ a i j : Nat, rgn a j = 30 → ge T a i j = ge S a i j) : KI T k := by
  obtain ⟨r, n, h1, h2, h3, h4, h5, h6, h7⟩ := h
  exact ⟨r, n, h1, h2, h3, h4, by rw [e67]; exact h5, h6.of e30, fun t ht => by rw [e69]; exact h7 t ht⟩
theorem h7_image (RS : RI S) (h : HI S) : zk (F_X7_image S) (fun v T => RI T ∧ Fr 35434070016 S T ∧ HI T ∧ (((ge S 40 0 56).toInt = 3 ∧ (ge T 40 0 56).toInt = 3 ∧ v.toInt = -1) ∨ ((ge S 40 0 56).toInt ≤ 2 ∧ (ge T 40 0 56).toInt = (ge S 40 0 56).toInt + 1 ∧ v = ge T 40 0 56))) := by
  have l3 : (3 : Int32).toInt = 3 := by decide
  have l100 : (100 : Int32).toInt = 100 := by decide
  unfold F_X7_image
  refine zk_sv fun S1 E1 => ?_
  have R1 : RI S1 := by rw [E1]; exact RS.wf rfl
  have F1 : Fr 35434070016 S S1 := by rw [E1]; exact Fr.rf.wr (k := 16) rfl rfl
  have H1 : HI S1 := by rw [E1]; exact h.wr (k := 16) rfl rfl
  refine zk_iv fun x e => ?_
  have g : 0 ≤ x.toInt ∧ x.toInt ≤ 3 := by rw [e]; exact R1 40 0 56
  have eS : ge S1 40 0 56 = ge S 40 0 56 := by rw [E1]; exact ge_puj (by decide)
  refine zk_eq (fun c => zk_some ⟨R1, F1, H1, Or.inl ⟨by rw [← eS, ← e]; omega, by rw [← e]; omega, by decide⟩⟩) (fun c => ?_)
  refine zk_ivq (x := x) e.symm ?_
  refine zk_bd (t7_lays x S1 R1 ⟨by omega, by omega⟩) (fun _ S60 q => ?_)
  obtain ⟨R60, F60, l, o⟩ := q
  have hc := cn_eq g.1
  refine zk_gd ⟨by omega, by omega⟩ ?_
  refine zk_iv fun y4 e4 => ?_
  have g4 : 0 ≤ y4.toInt ∧ y4.toInt ≤ 63 := by rw [e4]; exact R60 40 0 30
  refine zk_sv fun T4 E4 => ?_
  refine zk_iv fun y5 _ => ?_
  refine zk_sv fun T5 E5 => ?_
  refine zk_iv fun y6 _ => ?_
  refine zk_sv fun T6 E6 => ?_
  refine zk_iv fun y7 _ => ?_
  refine zk_sv fun T7 E7 => ?_
  refine zk_iv fun y8 _ => ?_
  refine zk_sv fun T8 E8 => ?_
  have E4 : T4 = pu S60 67 x.toNatClampNeg 4 y4 := E4
  have E5 : T5 = pu T4 67 x.toNatClampNeg 5 y5 := E5
  have E6 : T6 = pu T5 67 x.toNatClampNeg 6 y6 := E6
  have E7 : T7 = pu T6 67 x.toNatClampNeg 7 y7 := E7
  have E8 : T8 = pu T7 67 x.toNatClampNeg 8 y8 := E8
  have n8 : ∀ a i j : Nat, a ≠ 67 → ge T8 a i j = ge S60 a i j := fun a i j ha => by rw [E8, ge_pua ha, E7, ge_pua ha, E6, ge_pua ha, E5, ge_pua ha, E4, ge_pua ha]
  have k8 : ∀ i j : Nat, i ≠ x.toNatClampNeg → ge T8 67 i j = ge S60 67 i j := fun i j hi => by rw [E8, ge_pui hi, E7, ge_pui hi, E6, ge_pui hi, E5, ge_pui hi, E4, ge_pui hi]
  have R4 : RI T4 := by rw [E4]; exact R60.wr (show (0 : Int) ≤ y4.toInt by omega) (show y4.toInt ≤ 63 by omega)
  have R5 : RI T5 := by rw [E5]; exact R4.wf rfl
  have R6 : RI T6 := by rw [E6]; exact R5.wf rfl
  have R7 : RI T7 := by rw [E7]; exact R6.wf rfl
  have R8 : RI T8 := by rw [E8]; exact R7.wf rfl
  have G4 : Fr 34359738368 S60 T4 := by rw [E4]; exact Fr.rf.wr (k := 35) rfl rfl
  have G5 : Fr 34359738368 S60 T5 := by rw [E5]; exact G4.wr (k := 35) rfl rfl
  have G6 : Fr 34359738368 S60 T6 := by rw [E6]; exact G5.wr (k := 35) rfl rfl
  have G7 : Fr 34359738368 S60 T7 := by rw [E7]; exact G6.wr (k := 35) rfl rfl
  have G8 : Fr 34359738368 S60 T8 := by rw [E8]; exact G7.wr (k := 35) rfl rfl
  refine zk_iv fun y9 e9 => ?_
  have g9 : 0 ≤ y9.toInt ∧ y9.toInt ≤ 200 := by rw [e9]; exact R8 40 0 46
  refine zk_iv fun z9 ez9 => ?_
  have gz9 : z9.toInt = 100 * y9.toInt := by rw [ez9, ti_mulc (c := 100) (by decide) (by omega) (by omega)]
  refine zk_iv fun w9 ew9 => ?_
  have gw9 : 0 ≤ w9.toInt ∧ w9.toInt ≤ 24 := by rw [ew9]; exact R8 40 0 21
  refine zk_iv fun v9 ev9 => ?_
  have gv9 : v9.toInt = 100 * y9.toInt + w9.toInt := by rw [ev9, ti_add (by omega) (by omega), gz9]
  refine zk_sv fun T9 E9 => ?_
  refine zk_iv fun y10 e10 => ?_
  refine zk_sv fun B E10 => ?_
  have E9 : T9 = pu T8 67 x.toNatClampNeg 9 v9 := E9
  have E10 : B = pu T9 67 x.toNatClampNeg 10 y10 := E10
  have R9 : RI T9 := by rw [E9]; exact R8.wf rfl
  have g10 : -1 ≤ y10.toInt ∧ y10.toInt ≤ 5 := by rw [e10]; exact R9 40 0 15
  have RB : RI B := by rw [E10]; exact R9.wr (show (-1 : Int) ≤ y10.toInt by omega) (show y10.toInt ≤ 5 by omega)
  have G9 : Fr 34359738368 S60 T9 := by rw [E9]; exact G8.wr (k := 35) rfl rfl
  have GB : Fr 34359738368 S60 B := by rw [E10]; exact G9.wr (k := 35) rfl rfl
  have nB : ∀ a i j : Nat, a ≠ 67 → ge B a i j = ge S60 a i j := fun a i j ha => by rw [E10, ge_pua ha, E9, ge_pua ha, n8 a i j ha]
  have kB : ∀ i j : Nat, i ≠ x.toNatClampNeg → ge B 67 i j = ge S60 67 i j := fun i j hi => by rw [E10, ge_pui hi, E9, ge_pui hi, k8 i j hi]
  have b9 : ge B 67 x.toNatClampNeg 9 = v9 := by rw [E10, ge_puj (by decide), E9, ge_pus]
  have bi : ge B 40 0 56 = x := by rw [nB _ _ _ (by decide), F60.1 40 0 56 rfl]; exact e.symm
  have w21 : w9 = ge S1 40 0 21 := by rw [ew9, n8 _ _ _ (by decide)]; exact F60.1 40 0 21 rfl
  refine zk_imp (h7_im96 x RB ⟨by omega, by omega⟩ (by rw [bi]; omega)) (fun v U q => ?_)
  obtain ⟨⟨RU, FU, ui, u67, u69, uf⟩, uv⟩ := q
  have FF : Fr 35434070016 S1 U := ((F60.sub (by decide)).tr (GB.sub (by decide))).tr (FU.sub (by decide))
  have e30 : ∀ a i j : Nat, rgn a j = 30 → ge U a i j = ge S60 a i j := fun a i j q => (FU.1 a i j (by rw [q]; rfl)).trans (GB.1 a i j (by rw [q]; rfl))
  refine ⟨RU, F1.tr FF, ⟨H1.1.fr FF rfl rfl, fun k q => ?_, fun z q => ?_⟩, Or.inr ⟨by rw [← eS, ← e]; omega, by rw [ui, bi, ← eS, ← e], uv⟩⟩
  · rw [ui, bi] at q
    by_cases z : k = x.toNatClampNeg
    · have hk := LAY.kb H1.1 R1 l
      rw [← w21] at hk
      rw [z]
      exact ⟨y9.toInt, w9.toInt, g9.1, g9.2, gw9.1, gw9.2, by rw [u67, b9]; exact gv9, hk.of e30, uf⟩
    · have e56 : ge S1 40 0 56 = x := e.symm
      have hk := (H1.2.1 k (by rw [e56]; omega)).oth R1 o z
      exact hk.mv (by rw [u67, kB k 9 z]) (fun t => by rw [u69 _ _ (by omega), nB _ _ _ (by decide)]) e30
  · rw [hsum_of (fun k => FF.1 59 z k (by rw [show rgn 59 k = 18 from rfl]; rfl))]
    exact H1.2.2 z (by rw [← FF.1 40 0 48 rfl]; exact q)
/-! the things' and tries' rows are laid back; only ranges matter -/
theorem h7_r233 (k6 : Int32 × Int32 → fS → Option (Int32 × fS)) (p1 c : Int32) {Q : Int32 → fS → Prop} (hp : 0 ≤ p1.toInt ∧ p1.toInt ≤ 2 ∧ 0 ≤ c.toInt ∧ c.toInt ≤ 199) (hk2 : ∀ (y : Int32) (T : fS), y.toInt = c.toInt + 1 → RI T → Fr 65536 B T → zk (k6 (p1, y) T) Q) (R : RI T) (F : Fr 65536 B T) : zk (lp (B_X7_restore_233 k6) fuel (p1, c, 0) T) Q := by
  have l0 : (0 : Int32).toInt = 0 := by decide
  have l14 : (14 : Int32).toInt = 14 := by decide
  refine zk_lp (fun (z : Int32 × Int32 × Int32) T => z.1 = p1 ∧ z.2.1 = c ∧ 0 ≤ z.2.2.toInt ∧ z.2.2.toInt ≤ 14 ∧ RI T ∧ Fr 65536 B T) (fun (z : Int32 × Int32 × Int32) _ => (14 - z.2.2.toInt).toNat) (fun _ _ (v : Int32) T => Q v T) ?_ (p1, c, 0) T ⟨rfl, rfl, by show (0 : Int) ≤ (0 : Int32).toInt; decide, by show (0 : Int32).toInt ≤ 14; decide, R, F⟩ (by show (14 - (0 : Int32).toInt).toNat < 4294967296; decide)
  clear R F
  intro k z T hI hk
  obtain ⟨a1, a2, a3⟩ := z
  obtain ⟨h1, h2, h3, h4, RT, FT⟩ := hI
  dsimp only at h1 h2 h3 h4
  subst h1
  subst h2
  unfold B_X7_restore_233
  dsimp only
  refine zk_le (fun _ => ?_) (fun cc => ?_)
  · refine zk_iv fun y ey => ?_
    exact hk2 y T (by rw [ey]; exact ti_inc (by omega)) RT FT
  · refine zk_gd ⟨by omega, by omega⟩ ?_
    refine zk_iv fun x6 e6 => ?_
    have g6 : x6.toInt = 200 * a1.toInt := by rw [e6, ti_mulc (c := 200) (by decide) (by omega) (by omega)]
    refine zk_iv fun x7 e7 => ?_
    have g7 : x7.toInt = 200 * a1.toInt + a2.toInt := by rw [e7, ti_add (by omega) (by omega), g6]
    refine zk_gd ⟨by omega, by omega⟩ ?_
    refine zk_gd ⟨by omega, by omega⟩ ?_
    refine zk_iv fun x11 _ => ?_
    refine zk_gd ⟨by omega, by omega⟩ ?_
    refine zk_sv fun V E => ?_
    refine zk_iv fun y ey => ?_
    have gy : y.toInt = a3.toInt + 1 := by rw [ey]; exact ti_inc (by omega)
    exact hk (a1, a2, y) V ⟨rfl, rfl, by dsimp only; omega, by dsimp only; omega, by rw [E]; exact RT.wf rfl, by rw [E]; exact FT.wr (k := 16) rfl rfl⟩ (by show (14 - y.toInt).toNat < (14 - a3.toInt).toNat; omega)
theorem h7_r222 (p1 : Int32) (hp : 0 ≤ p1.toInt ∧ p1.toInt ≤ 2) (R : RI T) (F : Fr 65536 B T) : zk (lp (B_X7_restore_222) fuel (p1, 0) T) (fun v U => (RI U ∧ Fr 65536 B U) ∧ v = ge U 40 0 56) := by
  refine zk_lp (fun (z : Int32 × Int32) T => z.1 = p1 ∧ 0 ≤ z.2.toInt ∧ z.2.toInt ≤ 200 ∧ RI T ∧ Fr 65536 B T) (fun (z : Int32 × Int32) _ => (200 - z.2.toInt).toNat) (fun _ _ (v : Int32) U => (RI U ∧ Fr 65536 B U) ∧ v = ge U 40 0 56) ?_ (p1, 0) T ⟨rfl, by show (0 : Int) ≤ (0 : Int32).toInt; decide, by show (0 : Int32).toInt ≤ 200; decide, R, F⟩ (by show (200 - (0 : Int32).toInt).toNat < 4294967296; decide)
  clear R F
  intro k z T hI hk
  obtain ⟨a1, a3⟩ := z
  obtain ⟨h1, h2, h3, RT, FT⟩ := hI
  dsimp only at h1 h2 h3
  subst h1
  have g46 : (ge T 40 0 46).toInt ≤ 200 := (RT 40 0 46).2
  unfold B_X7_restore_222
  dsimp only
  refine zk_iv fun x e => ?_
  subst e
  refine zk_le (fun _ => zk_iv fun _ e => zk_some ⟨⟨RT, FT⟩, e⟩) (fun c => ?_)
  exact h7_r233 k a1 a3 ⟨hp.1, hp.2, h2, by omega⟩ (fun y V gy RV FV => hk (a1, y) V ⟨rfl, by dsimp only; omega, by dsimp only; omega, RV, FV⟩ (by show (200 - y.toInt).toNat < (200 - a3.toInt).toNat; omega)) RT FT
theorem h7_r111 (p1 : Int32) (RB : RI B) (hp : 0 ≤ p1.toInt ∧ p1.toInt ≤ 2) (hf : ∀ t : Nat, t < 24 → 0 ≤ (ge B 69 (5 * p1.toNatClampNeg + 3) t).toInt ∧ (ge B 69 (5 * p1.toNatClampNeg + 3) t).toInt ≤ 63) : zk (lp (B_X7_restore_111) fuel (p1, 0) B) (fun v U => (RI U ∧ Fr 65536 B U) ∧ v = ge U 40 0 56) := by
  have l0 : (0 : Int32).toInt = 0 := by decide
  have l1 : (1 : Int32).toInt = 1 := by decide
  have l2 : (2 : Int32).toInt = 2 := by decide
  have l3 : (3 : Int32).toInt = 3 := by decide
  have l4 : (4 : Int32).toInt = 4 := by decide
  have l24 : (24 : Int32).toInt = 24 := by decide
  have hc0 := cn_eq hp.1
  refine zk_lp (fun (z : Int32 × Int32) T => z.1 = p1 ∧ 0 ≤ z.2.toInt ∧ z.2.toInt ≤ 24 ∧ RI T ∧ Fr 65536 B T) (fun (z : Int32 × Int32) _ => (24 - z.2.toInt).toNat) (fun _ _ (v : Int32) U => (RI U ∧ Fr 65536 B U) ∧ v = ge U 40 0 56) ?_ (p1, 0) B ⟨rfl, by show (0 : Int) ≤ (0 : Int32).toInt; decide, by show (0 : Int32).toInt ≤ 24; decide, RB, Fr.rf⟩ (by show (24 - (0 : Int32).toInt).toNat < 4294967296; decide)
  intro k z T hI hk
  obtain ⟨a1, a3⟩ := z
  obtain ⟨h1, h2, h3, RT, F⟩ := hI
  dsimp only at h1 h2 h3
  subst h1
  have hc := cn_eq h2
  unfold B_X7_restore_111
  dsimp only
  refine zk_le (fun c => h7_r222 a1 hp RT F) (fun c => ?_)
  refine zk_iv fun x22 e22 => ?_
  have g22 : x22.toInt = 5 * a1.toInt := by rw [e22, ti_mulc (c := 5) (by decide) (by omega) (by omega)]
  refine zk_gd ⟨by omega, by omega⟩ ?_
  refine zk_gd ⟨by omega, by omega⟩ ?_
  refine zk_iv fun x25 _ => ?_
  refine zk_gd ⟨by omega, by omega⟩ ?_
  refine zk_sv fun S1 E1 => ?_
  refine zk_ivq (x := x22) e22.symm ?_
  refine zk_iv fun x29 e29 => ?_
  have g29 : x29.toInt = 5 * a1.toInt + 1 := by rw [e29, ti_add (by omega) (by omega), l1, g22]
  refine zk_gd ⟨by omega, by omega⟩ ?_
  refine zk_gd ⟨by omega, by omega⟩ ?_
  refine zk_iv fun x32 _ => ?_
  refine zk_gd ⟨by omega, by omega⟩ ?_
  refine zk_sv fun S2 E2 => ?_
  refine zk_ivq (x := x22) e22.symm ?_
  refine zk_iv fun x36 e36 => ?_
  have g36 : x36.toInt = 5 * a1.toInt + 2 := by rw [e36, ti_add (by omega) (by omega), l2, g22]
  refine zk_gd ⟨by omega, by omega⟩ ?_
  refine zk_gd ⟨by omega, by omega⟩ ?_
  refine zk_iv fun x39 _ => ?_
  refine zk_gd ⟨by omega, by omega⟩ ?_
  refine zk_sv fun S3 E3 => ?_
  refine zk_ivq (x := x22) e22.symm ?_
  refine zk_iv fun x43 e43 => ?_
  have g43 : x43.toInt = 5 * a1.toInt + 3 := by rw [e43, ti_add (by omega) (by omega), l3, g22]
  refine zk_gd ⟨by omega, by omega⟩ ?_
  refine zk_gd ⟨by omega, by omega⟩ ?_
  refine zk_iv fun x46 e46 => ?_
  have g46 : 0 ≤ x46.toInt ∧ x46.toInt ≤ 63 := by
    have r43 := cn_eq (x := x43) (by omega)
    have F3 : Fr 65536 B S3 := by rw [E3]; exact Fr.wr (k := 16) (by rw [E2]; exact Fr.wr (k := 16) (by rw [E1]; exact F.wr (k := 16) rfl rfl) rfl rfl) rfl rfl
    rw [e46, F3.1 69 _ _ (by rw [show rgn 69 a3.toNatClampNeg = 35 from rfl]; rfl), show x43.toNatClampNeg = 5 * a1.toNatClampNeg + 3 from by omega]
    exact hf _ (by omega)
  refine zk_gd ⟨by omega, by omega⟩ ?_
  refine zk_sv fun S4 E4 => ?_
  refine zk_ivq (x := x22) e22.symm ?_
  refine zk_iv fun x50 e50 => ?_
  have g50 : x50.toInt = 5 * a1.toInt + 4 := by rw [e50, ti_add (by omega) (by omega), l4, g22]
  refine zk_gd ⟨by omega, by omega⟩ ?_
  refine zk_gd ⟨by omega, by omega⟩ ?_
  refine zk_iv fun x53 _ => ?_
  have J : ∀ t : Int32, zk (B_X7_restore_213 k a1 a3 t a3 S4) (fun v U => (RI U ∧ Fr 65536 B U) ∧ v = ge U 40 0 56) := by
    intro t
    unfold B_X7_restore_213
    refine zk_gd ⟨by omega, by omega⟩ ?_
    refine zk_sv fun V E => ?_
    refine zk_iv fun y ey => ?_
    have gy : y.toInt = a3.toInt + 1 := by rw [ey]; exact ti_inc (by omega)
    have R1 : RI S1 := by rw [E1]; exact RT.wf rfl
    have R2 : RI S2 := by rw [E2]; exact R1.wf rfl
    have R3 : RI S3 := by rw [E3]; exact R2.wf rfl
    have R4 : RI S4 := by rw [E4]; exact R3.wr (show (0 : Int) ≤ x46.toInt by omega) (show x46.toInt ≤ 63 by omega)
    have RV : RI V := by rw [E]; exact R4.wr (vnb _).1 (vnb _).2
    have F1 : Fr 65536 B S1 := by rw [E1]; exact F.wr (k := 16) rfl rfl
    have F2 : Fr 65536 B S2 := by rw [E2]; exact F1.wr (k := 16) rfl rfl
    have F3 : Fr 65536 B S3 := by rw [E3]; exact F2.wr (k := 16) rfl rfl
    have F4 : Fr 65536 B S4 := by rw [E4]; exact F3.wr (k := 16) rfl rfl
    have FV : Fr 65536 B V := by rw [E]; exact F4.wr (k := 16) rfl rfl
    exact hk (a1, y) V ⟨rfl, by dsimp only; omega, by dsimp only; omega, RV, FV⟩ (by show (24 - y.toInt).toNat < (24 - a3.toInt).toNat; omega)
  exact zk_eq (fun _ => J _) (fun _ => J _)
theorem h7_restore (RS : RI S) (h : HI S) : zk (F_X7_restore S) (fun v T => RI T ∧ Fr 498663424 S T ∧ HI T ∧ (((ge S 40 0 56).toInt = 0 ∧ (ge T 40 0 56).toInt = 0 ∧ v.toInt = -1) ∨ (1 ≤ (ge S 40 0 56).toInt ∧ (ge T 40 0 56).toInt = (ge S 40 0 56).toInt - 1 ∧ v = ge T 40 0 56))) := by
  have l0 : (0 : Int32).toInt = 0 := by decide
  have l1 : (1 : Int32).toInt = 1 := by decide
  have l100 : (100 : Int32).toInt = 100 := by decide
  unfold F_X7_restore
  refine zk_sv fun S1 E1 => ?_
  have R1 : RI S1 := by rw [E1]; exact RS.wf rfl
  have F1 : Fr 498663424 S S1 := by rw [E1]; exact Fr.rf.wr (k := 16) rfl rfl
  have H1 : HI S1 := by rw [E1]; exact h.wr (k := 16) rfl rfl
  refine zk_iv fun x e => ?_
  have g : 0 ≤ x.toInt ∧ x.toInt ≤ 3 := by rw [e]; exact R1 40 0 56
  have eS : ge S1 40 0 56 = ge S 40 0 56 := by rw [E1]; exact ge_puj (by decide)
  refine zk_eq (fun c => zk_some ⟨R1, F1, H1, Or.inl ⟨by rw [← eS, ← e]; omega, by rw [← e]; omega, by decide⟩⟩) (fun c => ?_)
  refine zk_ivq (x := x) e.symm ?_
  refine zk_iv fun k ek => ?_
  have gk : k.toInt = x.toInt - 1 := by rw [ek, ti_sub (by omega) (by omega), l1]
  refine zk_sv fun S2 E2 => ?_
  have e56 : ge S2 40 0 56 = k := by rw [E2]; exact ge_pus
  refine zk_ivq (x := k) e56 ?_
  have R2 : RI S2 := by rw [E2]; exact R1.wr (show (0 : Int) ≤ k.toInt by omega) (show k.toInt ≤ 3 by omega)
  have F2 : Fr 498663424 S1 S2 := by rw [E2]; exact Fr.rf.wr (k := 19) rfl rfl
  have hc := cn_eq (x := k) (by omega)
  have n2 : ∀ a i j : Nat, a ≠ 40 → ge S2 a i j = ge S1 a i j := fun a i j ha => by rw [E2, ge_pua ha]
  obtain ⟨r, n, q1, q2, q3, q4, q5, q6, q7⟩ := H1.2.1 k.toNatClampNeg (by rw [← e]; omega)
  have kb2 : KB S2 k.toNatClampNeg n := q6.of (fun a i j q => F2.1 a i j (by rw [q]; rfl))
  refine zk_bd (t7_laysBack k S2 R2 ⟨by omega, by omega⟩) (fun _ S60 q => ?_)
  obtain ⟨R60, F60, b⟩ := q
  have hb := BK.hb kb2 R2 b q4
  have e67 : ∀ j : Nat, ge S60 67 k.toNatClampNeg j = ge S1 67 k.toNatClampNeg j := fun j => (F60.1 67 _ j (by rw [show rgn 67 j = 35 from rfl]; rfl)).trans (n2 _ _ _ (by decide))
  refine zk_gd ⟨by omega, by omega⟩ ?_
  refine zk_iv fun y4 e4 => ?_
  have e4 : y4 = ge S60 67 k.toNatClampNeg 4 := e4
  have g4 : 0 ≤ y4.toInt ∧ y4.toInt ≤ 63 := by rw [e4]; exact R60 67 _ 4
  refine zk_sv fun T4 E4 => ?_
  refine zk_iv fun y5 _ => ?_
  refine zk_sv fun T5 E5 => ?_
  refine zk_iv fun y6 _ => ?_
  refine zk_sv fun T6 E6 => ?_
  refine zk_iv fun y7 _ => ?_
  refine zk_sv fun T7 E7 => ?_
  refine zk_iv fun y8 _ => ?_
  refine zk_sv fun T8 E8 => ?_
  have n8 : ∀ a i j : Nat, a ≠ 40 → ge T8 a i j = ge S60 a i j := fun a i j ha => by rw [E8, ge_pua ha, E7, ge_pua ha, E6, ge_pua ha, E5, ge_pua ha, E4, ge_pua ha]
  have R4 : RI T4 := by rw [E4]; exact R60.wr (show (0 : Int) ≤ y4.toInt by omega) (show y4.toInt ≤ 63 by omega)
  have R5 : RI T5 := by rw [E5]; exact R4.wf rfl
  have R6 : RI T6 := by rw [E6]; exact R5.wf rfl
  have R7 : RI T7 := by rw [E7]; exact R6.wf rfl
  have R8 : RI T8 := by rw [E8]; exact R7.wf rfl
  have G4 : Fr 481886208 S60 T4 := by rw [E4]; exact Fr.rf.wr (k := 28) rfl rfl
  have G5 : Fr 481886208 S60 T5 := by rw [E5]; exact G4.wr (k := 20) rfl rfl
  have G6 : Fr 481886208 S60 T6 := by rw [E6]; exact G5.wr (k := 20) rfl rfl
  have G7 : Fr 481886208 S60 T7 := by rw [E7]; exact G6.wr (k := 20) rfl rfl
  have G8 : Fr 481886208 S60 T8 := by rw [E8]; exact G7.wr (k := 23) rfl rfl
  refine zk_iv fun y9 e9 => ?_
  have e9 : y9 = ge T8 67 k.toNatClampNeg 9 := e9
  have g9 : y9.toInt = 100 * r + n := by rw [e9, n8 _ _ _ (by decide), e67]; exact q5
  refine zk_iv fun z9 ez9 => ?_
  have gz9 : z9.toInt = r := by
    rw [ez9, ti_dv (by omega) (by omega), l100, g9]
    omega
  refine zk_sv fun T9 E9 => ?_
  refine zk_ivq (x := y9) (by rw [E9, ge_pua (by decide)]; exact e9.symm) ?_
  refine zk_iv fun w9 ew9 => ?_
  have gw9 : w9.toInt = n := by
    have hd : (y9 / 100).toInt = r := by rw [ti_dv (by omega) (by omega), l100, g9]; omega
    have hm : (y9 / 100 * 100).toInt = r * 100 := by rw [ti_mul (by rw [hd, l100]; omega) (by rw [hd, l100]; omega), hd, l100]
    rw [ew9, ti_sub (by rw [hm]; omega) (by rw [hm]; omega), hm, g9]
    omega
  refine zk_sv fun T10 E10 => ?_
  refine zk_iv fun y10 e10 => ?_
  have R9 : RI T9 := by rw [E9]; exact R8.wr (show (0 : Int) ≤ z9.toInt by omega) (show z9.toInt ≤ 200 by omega)
  have R10 : RI T10 := by rw [E10]; exact R9.wr (show (0 : Int) ≤ w9.toInt by omega) (show w9.toInt ≤ 24 by omega)
  have e10 : y10 = ge T10 67 k.toNatClampNeg 10 := e10
  have g10 : -1 ≤ y10.toInt ∧ y10.toInt ≤ 5 := by rw [e10]; exact R10 67 _ 10
  refine zk_sv fun B E11 => ?_
  have RB : RI B := by rw [E11]; exact R10.wr (show (-1 : Int) ≤ y10.toInt by omega) (show y10.toInt ≤ 5 by omega)
  have G9 : Fr 481886208 S60 T9 := by rw [E9]; exact G8.wr (k := 21) rfl rfl
  have G10 : Fr 481886208 S60 T10 := by rw [E10]; exact G9.wr (k := 26) rfl rfl
  have GB : Fr 481886208 S60 B := by rw [E11]; exact G10.wr (k := 27) rfl rfl
  have nB : ∀ a i j : Nat, a ≠ 40 → ge B a i j = ge S60 a i j := fun a i j ha => by rw [E11, ge_pua ha, E10, ge_pua ha, E9, ge_pua ha, n8 a i j ha]
  have b21 : ge B 40 0 21 = w9 := by rw [E11, ge_puj (by decide), E10, ge_pus]
  refine zk_imp (h7_r111 k RB ⟨by omega, by omega⟩ (fun t ht => ?_)) (fun v U q => ?_)
  · rw [nB _ _ _ (by decide), F60.1 69 _ t (by rw [show rgn 69 t = 35 from rfl]; rfl), n2 _ _ _ (by decide)]
    exact q7 t ht
  · obtain ⟨⟨RU, FU⟩, uv⟩ := q
    have FF : Fr 498663424 S1 U := ((F2.tr (F60.sub (by decide))).tr (GB.sub (by decide))).tr (FU.sub (by decide))
    have HB2 : HSm B := by
      have h9 : HBn B n := hb.of (fun t => nB _ _ _ (by decide)) (fun c i => nB _ _ _ (by decide)) (fun c => nB _ _ _ (by decide))
      unfold HSm
      rw [b21, gw9]
      exact h9
    have ui : ge U 40 0 56 = k := by
      rw [FU.1 40 0 56 rfl, E11, ge_puj (by decide), E10, ge_puj (by decide), E9, ge_puj (by decide), E8, ge_puj (by decide), E7, ge_puj (by decide), E6, ge_puj (by decide), E5, ge_puj (by decide), E4, ge_puj (by decide), F60.1 40 0 56 rfl]
      exact e56
    refine ⟨RU, F1.tr FF, ⟨HB2.fr FU rfl rfl, fun i q => ?_, fun z q => ?_⟩, Or.inr ⟨by rw [← eS, ← e]; omega, by rw [ui, ← eS, ← e]; exact gk, uv⟩⟩
    · rw [ui] at q
      exact (H1.2.1 i (by rw [← e]; omega)).of (fun a i j q => FF.1 a i j (by rcases q with q | q <;> rw [q] <;> rfl))
    · rw [hsum_of (fun k => FF.1 59 z k (by rw [show rgn 59 k = 18 from rfl]; rfl))]
      exact H1.2.2 z (by rw [← FF.1 40 0 48 rfl]; exact q)
end RST
