/-! the pure part: the reference, what is gripped, where it goes -/
theorem cnn (x : Int32) : x.toNatClampNeg = x.toInt.toNat := rfl
theorem t7_topOf (p1 : Int32) (S : fS) (RS : RI S) (hp : 0 ≤ p1.toInt ∧ p1.toInt ≤ 63) : zk (F_X7_topOf p1 S) (fun v T => S = T ∧ -1 ≤ v.toInt ∧ v.toInt ≤ 23 ∧ (v.toInt = -1 ∨ (0 ≤ v.toInt ∧ 0 < (ge S 54 0 p1.toNatClampNeg).toInt ∧ v = ge S 53 p1.toNatClampNeg ((ge S 54 0 p1.toNatClampNeg).toInt - 1).toNat))) := by
  have l0 : (0 : Int32).toInt = 0 := by decide
  have l1 : (1 : Int32).toInt = 1 := by decide
  have lm1 : (-1 : Int32).toInt = -1 := by decide
  unfold F_X7_topOf
  refine zk_gd ⟨by omega, by omega⟩ ?_
  refine zk_iv fun x e => ?_
  have g : 0 ≤ x.toInt ∧ x.toInt ≤ 24 := by rw [e]; exact RS 54 0 _
  refine zk_eq (fun c => zk_some ⟨rfl, by omega, by omega, Or.inl lm1⟩) (fun c => ?_)
  refine zk_gd ⟨by omega, by omega⟩ ?_
  refine zk_gd ⟨by omega, by omega⟩ ?_
  refine zk_ivq (x := x) e.symm ?_
  refine zk_iv fun y ey => ?_
  have gy : y.toInt = x.toInt - 1 := by rw [ey, ti_sub (by omega) (by omega), l1]
  refine zk_gd ⟨by omega, by omega⟩ ?_
  refine zk_iv fun z ez => ?_
  have gz : 0 ≤ z.toInt ∧ z.toInt ≤ 23 := by rw [ez]; exact RS 53 _ _
  refine zk_some ⟨rfl, by omega, by omega, Or.inr ⟨gz.1, by rw [← e]; omega, ?_⟩⟩
  rw [ez, cnn y, gy, e]
theorem t7_beside (p0 p1 : Int32) (S : fS) (hp : 0 ≤ p0.toInt ∧ p0.toInt ≤ 63 ∧ 0 ≤ p1.toInt ∧ p1.toInt ≤ 3) : zk (F_X7_beside p0 p1 S) (fun v T => S = T ∧ (v.toInt = -1 ∨ (0 ≤ v.toInt ∧ v.toInt ≤ 63 ∧ ((p1.toInt = 0 ∧ v.toInt = p0.toInt + 1) ∨ (p1.toInt = 1 ∧ v.toInt = p0.toInt + 8) ∨ (p1.toInt = 2 ∧ v.toInt = p0.toInt - 1) ∨ (p1.toInt = 3 ∧ v.toInt = p0.toInt - 8))))) := by
  have l0 : (0 : Int32).toInt = 0 := by decide
  have l1 : (1 : Int32).toInt = 1 := by decide
  have l2 : (2 : Int32).toInt = 2 := by decide
  have l7 : (7 : Int32).toInt = 7 := by decide
  have l8 : (8 : Int32).toInt = 8 := by decide
  have lm1 : (-1 : Int32).toInt = -1 := by decide
  have hd : (p0 / 8).toInt = p0.toInt / 8 := by rw [ti_dv (by omega) (by omega), l8]
  have hm8 : (p0 / 8 * 8).toInt = p0.toInt / 8 * 8 := by rw [ti_mul (by rw [hd, l8]; omega) (by rw [hd, l8]; omega), hd, l8]
  have hm : (p0 - p0 / 8 * 8).toInt = p0.toInt - p0.toInt / 8 * 8 := by rw [ti_sub (by rw [hm8]; omega) (by rw [hm8]; omega), hm8]
  unfold F_X7_beside
  refine zk_iv fun x1 e1 => ?_
  refine zk_iv fun x2 e2 => ?_
  rw [← e1] at hm
  rw [← e2] at hd
  have out : zk (some ((-1 : Int32), S)) (fun v T => S = T ∧ (v.toInt = -1 ∨ (0 ≤ v.toInt ∧ v.toInt ≤ 63 ∧ ((p1.toInt = 0 ∧ v.toInt = p0.toInt + 1) ∨ (p1.toInt = 1 ∧ v.toInt = p0.toInt + 8) ∨ (p1.toInt = 2 ∧ v.toInt = p0.toInt - 1) ∨ (p1.toInt = 3 ∧ v.toInt = p0.toInt - 8))))) := zk_some ⟨rfl, Or.inl lm1⟩
  refine zk_eq (fun c => zk_eq (fun _ => out) (fun d => ?_)) (fun c => ?_)
  · refine zk_iv fun y ey => ?_
    have gy : y.toInt = p0.toInt + 1 := by rw [ey, ti_add (by omega) (by omega), l1]
    exact zk_some ⟨rfl, by omega⟩
  refine zk_eq (fun c => zk_eq (fun _ => out) (fun d => ?_)) (fun c => ?_)
  · refine zk_iv fun y ey => ?_
    have gy : y.toInt = p0.toInt + 8 := by rw [ey, ti_add (by omega) (by omega), l8]
    exact zk_some ⟨rfl, by omega⟩
  refine zk_eq (fun c => zk_eq (fun _ => out) (fun d => ?_)) (fun c => zk_eq (fun _ => out) (fun d => ?_))
  · refine zk_iv fun y ey => ?_
    have gy : y.toInt = p0.toInt - 1 := by rw [ey, ti_sub (by omega) (by omega), l1]
    exact zk_some ⟨rfl, by omega⟩
  · refine zk_iv fun y ey => ?_
    have gy : y.toInt = p0.toInt - 8 := by rw [ey, ti_sub (by omega) (by omega), l8]
    exact zk_some ⟨rfl, by omega⟩
theorem t7_takes (p1 : Int32) (S : fS) (RS : RI S) (hp : 0 ≤ p1.toInt ∧ p1.toInt ≤ 23) (hm : (ge S 40 0 40).toInt ≤ 4) : zk (F_X7_takes p1 S) (fun _ T => RI T ∧ Fr 17179934720 S T ∧ (ge T 40 0 40).toInt = (ge S 40 0 40).toInt + 1 ∧ ∀ j : Nat, ge T 55 0 j = if (j : Int) = (ge S 40 0 40).toInt then p1 else ge S 55 0 j) := by
  have l1 : (1 : Int32).toInt = 1 := by decide
  have g : 0 ≤ (ge S 40 0 40).toInt ∧ (ge S 40 0 40).toInt ≤ 5 := RS 40 0 40
  unfold F_X7_takes
  refine zk_iv fun x e => ?_
  subst e
  refine zk_gd ⟨by omega, by omega⟩ ?_
  refine zk_sv fun S3 E3 => ?_
  refine zk_ivq (x := ge S 40 0 40) (by rw [E3, ge_pua (by decide)]) ?_
  refine zk_iv fun y ey => ?_
  have gy : y.toInt = (ge S 40 0 40).toInt + 1 := by rw [ey, ti_add (by omega) (by omega), l1]
  refine zk_sv fun S6 E6 => ?_
  refine zk_iv fun x7 e7 => ?_
  refine zk_gd ⟨by omega, by omega⟩ ?_
  refine zk_iv fun x9 e9 => ?_
  refine zk_iv fun x10 e10 => ?_
  refine zk_sv fun S11 E11 => ?_
  have R3 : RI S3 := by rw [E3]; exact RS.wr (show (0 : Int) ≤ p1.toInt by omega) (show p1.toInt ≤ 23 by omega)
  have R6 : RI S6 := by rw [E6]; exact R3.wr (show (0 : Int) ≤ y.toInt by omega) (show y.toInt ≤ 5 by omega)
  have R11 : RI S11 := by rw [E11]; exact R6.wf rfl
  have F3 : Fr 17179934720 S S3 := by rw [E3]; exact Fr.rf.wr (k := 34) rfl rfl
  have F6 : Fr 17179934720 S S6 := by rw [E6]; exact F3.wr (k := 34) rfl rfl
  have F11 : Fr 17179934720 S S11 := by rw [E11]; exact F6.wr (k := 16) rfl rfl
  refine zk_some ⟨R11, F11, ?_, fun j => ?_⟩
  · have q : ge S11 40 0 40 = y := by rw [E11, ge_puj (by decide), E6, ge_pus]
    rw [q]; exact gy
  · have q : ge S11 55 0 j = ge S3 55 0 j := by rw [E11, ge_pua (by decide), E6, ge_pua (by decide)]
    rw [q, E3, ge_pu]
    have hc := cn_eq g.1
    by_cases z : (j : Int) = (ge S 40 0 40).toInt
    · rw [if_pos z, if_pos ⟨rfl, rfl, by omega⟩]
    · rw [if_neg z, if_neg (fun q => z (by omega))]
/-! what is gripped lies on top of cells that differ -/
def GP (S : fS) (P : Int → Prop) : Prop := ∃ x : Nat → Nat, (∀ j : Nat, (j : Int) < (ge S 40 0 40).toInt → x j < 64 ∧ 0 < (ge S 54 0 (x j)).toInt ∧ ge S 55 0 j = ge S 53 (x j) ((ge S 54 0 (x j)).toInt - 1).toNat ∧ P (x j)) ∧ ∀ j j' : Nat, (j : Int) < (ge S 40 0 40).toInt → (j' : Int) < (ge S 40 0 40).toInt → x j = x j' → j = j'
theorem GP.of {S T : fS} {P : Int → Prop} (h : GP S P) (e1 : ge T 40 0 40 = ge S 40 0 40) (e2 : ∀ j : Nat, ge T 55 0 j = ge S 55 0 j) (e3 : ∀ c k : Nat, ge T 53 c k = ge S 53 c k) (e4 : ∀ c : Nat, ge T 54 0 c = ge S 54 0 c) : GP T P := by
  unfold GP
  simp only [e1, e2, e3, e4]
  exact h
theorem GP.fr {S T : fS} {P : Int → Prop} {m : Nat} (h : GP S P) (f : Fr m S T) (hm : m.testBit 34 = false) (hm2 : m.testBit 24 = false) : GP T P :=
  h.of (f.1 40 0 40 hm) (fun j => f.1 55 0 j hm) (fun c k => f.1 53 c k hm2) (fun c => f.1 54 0 c hm2)
theorem GP.im {S : fS} {P P' : Int → Prop} (h : GP S P) (hi : ∀ y : Int, P y → P' y) : GP S P' := by
  obtain ⟨x, h1, h2⟩ := h
  exact ⟨x, fun j q => ⟨(h1 j q).1, (h1 j q).2.1, (h1 j q).2.2.1, hi _ (h1 j q).2.2.2⟩, h2⟩
theorem GP.add {S T : fS} {P P' : Int → Prop} {c : Nat} {v : Int32} (h : GP S P) (F : Fr 17179934720 S T) (em : (ge T 40 0 40).toInt = (ge S 40 0 40).toInt + 1) (eg : ∀ j : Nat, ge T 55 0 j = if (j : Int) = (ge S 40 0 40).toInt then v else ge S 55 0 j) (hc : c < 64) (h0 : 0 < (ge S 54 0 c).toInt) (hv : v = ge S 53 c ((ge S 54 0 c).toInt - 1).toNat) (hP : ∀ y : Int, P y → P' y) (hn : ∀ y : Int, P y → y ≠ c) (hPc : P' c) : GP T P' := by
  obtain ⟨x, h1, h2⟩ := h
  have e3 : ∀ c k : Nat, ge T 53 c k = ge S 53 c k := fun c k => F.1 53 c k (by rw [show rgn 53 k = 24 from rfl]; rfl)
  have e4 : ∀ c : Nat, ge T 54 0 c = ge S 54 0 c := fun c => F.1 54 0 c (by rw [show rgn 54 c = 24 from rfl]; rfl)
  refine ⟨fun j => if (j : Int) = (ge S 40 0 40).toInt then c else x j, fun j q => ?_, fun j j' q q' e => ?_⟩
  · simp only [e3, e4]
    rw [eg]
    by_cases z : (j : Int) = (ge S 40 0 40).toInt
    · simp only [if_pos z]
      exact ⟨hc, h0, hv, hPc⟩
    · simp only [if_neg z]
      have a := h1 j (by omega)
      exact ⟨a.1, a.2.1, a.2.2.1, hP _ a.2.2.2⟩
  · have e : (if (j : Int) = (ge S 40 0 40).toInt then c else x j) = (if (j' : Int) = (ge S 40 0 40).toInt then c else x j') := e
    by_cases z : (j : Int) = (ge S 40 0 40).toInt <;> by_cases z' : (j' : Int) = (ge S 40 0 40).toInt
    · omega
    · rw [if_pos z, if_neg z'] at e
      have a := h1 j' (by omega)
      exact absurd (by rw [e]) (hn _ a.2.2.2)
    · rw [if_neg z, if_pos z'] at e
      have a := h1 j (by omega)
      exact absurd (by rw [e]) (hn _ a.2.2.2)
    · rw [if_neg z, if_neg z'] at e
      exact h2 j j' (by omega) (by omega) e
def ofs (c d y : Int) : Prop := y = c ∨ (1 ≤ d ∧ y = c + 1) ∨ (2 ≤ d ∧ y = c + 8) ∨ (3 ≤ d ∧ y = c - 1) ∨ (4 ≤ d ∧ y = c - 8)
def GR (S : fS) : Prop := GP S (fun _ => True)
def GO (S T : fS) : Prop := RI T ∧ Fr 17179934720 S T ∧ GR T ∧ ((ge T 40 0 41).toInt = 0 ∨ (ge T 40 0 41).toInt = 4 ∨ (ge T 40 0 41).toInt = 5)
theorem GO.w {S T : fS} {j : Nat} {v : Int32} (RT : RI T) (F : Fr 17179934720 S T) (G : GR T) (hj : rgn 40 j = 16) (hr : rg 40 j = rgF) (h40 : j ≠ 40) : RI (pu T 40 0 j v) ∧ Fr 17179934720 S (pu T 40 0 j v) ∧ GR (pu T 40 0 j v) :=
  ⟨RT.wf hr, F.wr hj rfl, G.of (ge_puj (Ne.symm h40)) (fun _ => ge_pua (by decide)) (fun _ _ => ge_pua (by decide)) (fun _ => ge_pua (by decide))⟩
theorem t7_g176 (z : Int32) (S : fS) (RS : RI S) (hz : 0 ≤ z.toInt ∧ z.toInt ≤ 5) (G : GR S) (ho : (ge S 40 0 41).toInt = 0 ∨ (ge S 40 0 41).toInt = 4 ∨ (ge S 40 0 41).toInt = 5) : zk (lp (B_X7_grips_176) fuel z S) (fun _ T => GO S T) := by
  have l0 : (0 : Int32).toInt = 0 := by decide
  refine zk_lp (fun z S => RI S ∧ (0 ≤ z.toInt ∧ z.toInt ≤ 5) ∧ GR S ∧ ((ge S 40 0 41).toInt = 0 ∨ (ge S 40 0 41).toInt = 4 ∨ (ge S 40 0 41).toInt = 5)) (fun z S => (5 - z.toInt).toNat) (fun _ S (_ : Int32) T => GO S T) ?_ z S ⟨RS, hz, G, ho⟩ (by omega)
  clear RS hz G ho
  intro k z S hI hk
  obtain ⟨RS, hz, G, ho⟩ := hI
  have g : 0 ≤ (ge S 40 0 40).toInt ∧ (ge S 40 0 40).toInt ≤ 5 := RS 40 0 40
  unfold B_X7_grips_176
  refine zk_iv fun x e => ?_
  subst e
  refine zk_le (fun _ => zk_some ⟨RS, Fr.rf, G, ho⟩) (fun c => ?_)
  refine zk_gd ⟨by omega, by omega⟩ ?_
  refine zk_iv fun x15 e15 => ?_
  have g15 : 0 ≤ x15.toInt ∧ x15.toInt ≤ 23 := by rw [e15]; exact RS 55 0 _
  refine zk_gd ⟨by omega, by omega⟩ ?_
  refine zk_iv fun x17 e17 => ?_
  have J : ∀ T : fS, GO S T → zk (B_X7_grips_203 k z T) (fun _ T => GO S T) := by
    intro T h
    unfold B_X7_grips_203
    refine zk_iv fun y ey => ?_
    have gy : y.toInt = z.toInt + 1 := by rw [ey]; exact ti_inc (by omega)
    exact zk_imp (hk y T ⟨h.1, ⟨by omega, by omega⟩, h.2.2.1, h.2.2.2⟩ (by show (5 - y.toInt).toNat < (5 - z.toInt).toNat; omega)) (fun v U q => ⟨q.1, h.2.1.tr q.2.1, q.2.2⟩)
  refine zk_eq (fun _ => J S ⟨RS, Fr.rf, G, ho⟩) (fun _ => zk_sv fun S2 E2 => J S2 ?_)
  have w := GO.w (j := 41) (v := 4) RS Fr.rf G rfl rfl (by decide)
  rw [← E2] at w
  refine ⟨w.1, w.2.1, w.2.2, Or.inr (Or.inl ?_)⟩
  rw [E2, ge_pus]; rfl
theorem t7_g166 {S T : fS} {t : Int32} (RT : RI T) (F : Fr 17179934720 S T) (G : GR T) : zk (B_X7_grips_166 t T) (fun _ U => GO S U) := by
  unfold B_X7_grips_166
  refine zk_sv fun S1 E1 => ?_
  refine zk_sv fun S2 E2 => ?_
  have w1 := GO.w (j := 45) (v := t) RT F G rfl rfl (by decide)
  rw [← E1] at w1
  have w2 := GO.w (j := 41) (v := 5) w1.1 w1.2.1 w1.2.2 rfl rfl (by decide)
  rw [← E2] at w2
  refine zk_imp (t7_g176 0 S2 w2.1 (by decide) w2.2.2 (Or.inr (Or.inr ?_))) (fun v U q => ⟨q.1, w2.2.1.tr q.2.1, q.2.2⟩)
  rw [E2, ge_pus]; rfl
theorem t7_g141 {S T : fS} {c : Int32} (hc : 0 ≤ c.toInt ∧ c.toInt ≤ 63) (RT : RI T) (F : Fr 17179934720 S T) (G : GR T) : zk (B_X7_grips_141 c T) (fun _ U => GO S U) := by
  unfold B_X7_grips_141
  refine zk_gd ⟨by omega, by omega⟩ ?_
  refine zk_iv fun x e => ?_
  refine zk_le (fun _ => zk_gd ⟨by omega, by omega⟩ (zk_iv fun y _ => zk_iv fun y _ => t7_g166 RT F G)) (fun _ => t7_g166 RT F G)
theorem t7_g68 (z : Int32 × Int32 × Int32) (S : fS) (RS : RI S) (hz : 0 ≤ z.1.toInt ∧ z.1.toInt ≤ 63 ∧ 0 ≤ z.2.1.toInt ∧ z.2.1.toInt ≤ 23 ∧ 0 ≤ z.2.2.toInt ∧ z.2.2.toInt ≤ 4) (hm : (ge S 40 0 40).toInt ≤ z.2.2.toInt + 1) (G : GP S (ofs z.1.toInt z.2.2.toInt)) : zk (lp (B_X7_grips_68) fuel z S) (fun _ T => GO S T) := by
  have l0 : (0 : Int32).toInt = 0 := by decide
  have lm1 : (-1 : Int32).toInt = -1 := by decide
  have l4 : (4 : Int32).toInt = 4 := by decide
  refine zk_lp (fun z S => RI S ∧ (0 ≤ z.1.toInt ∧ z.1.toInt ≤ 63 ∧ 0 ≤ z.2.1.toInt ∧ z.2.1.toInt ≤ 23 ∧ 0 ≤ z.2.2.toInt ∧ z.2.2.toInt ≤ 4) ∧ (ge S 40 0 40).toInt ≤ z.2.2.toInt + 1 ∧ GP S (ofs z.1.toInt z.2.2.toInt)) (fun z S => (4 - z.2.2.toInt).toNat) (fun _ S (_ : Int32) T => GO S T) ?_ z S ⟨RS, hz, hm, G⟩ (by omega)
  clear RS hz hm G
  intro k z S hI hk
  obtain ⟨a1, a2, a3⟩ := z
  obtain ⟨RS, hz, hm, G⟩ := hI
  dsimp only at hz hm G
  have G0 : GR S := G.im (fun _ _ => trivial)
  have gm : 0 ≤ (ge S 40 0 40).toInt ∧ (ge S 40 0 40).toInt ≤ 5 := RS 40 0 40
  have up : ∀ y : Int, ofs a1.toInt a3.toInt y → ofs a1.toInt (a3.toInt + 1) y := fun y q => by
    unfold ofs at q ⊢
    omega
  unfold B_X7_grips_68
  dsimp only
  refine zk_le (fun _ => t7_g141 ⟨by omega, by omega⟩ RS Fr.rf G0) (fun c => ?_)
  refine zk_gd ⟨by omega, by omega⟩ ?_
  refine zk_iv fun x e => ?_
  refine zk_le (fun _ => t7_g141 ⟨by omega, by omega⟩ RS Fr.rf G0) (fun _ => ?_)
  have J : ∀ T : fS, RI T → Fr 17179934720 S T → (ge T 40 0 40).toInt ≤ a3.toInt + 2 → GP T (ofs a1.toInt (a3.toInt + 1)) → zk (B_X7_grips_135 k a1 a2 a3 T) (fun _ U => GO S U) := by
    intro T RT F hm2 G2
    unfold B_X7_grips_135
    refine zk_iv fun y ey => ?_
    have gy : y.toInt = a3.toInt + 1 := by rw [ey]; exact ti_inc (by omega)
    refine zk_imp (hk (a1, a2, y) T ⟨RT, ⟨by dsimp only; omega, by dsimp only; omega, by dsimp only; omega, by dsimp only; omega, by dsimp only; omega, by dsimp only; omega⟩, by dsimp only; omega, by dsimp only; rw [gy]; exact G2⟩ (by show (4 - y.toInt).toNat < (4 - a3.toInt).toNat; omega)) (fun v U q => ⟨q.1, F.tr q.2.1, q.2.2⟩)
  refine zk_bd (t7_beside a1 a3 S ⟨by omega, by omega, by omega, by omega⟩) (fun v T h => ?_)
  obtain ⟨rfl, hv⟩ := h
  refine zk_eq (fun _ => ?_) (fun c2 => ?_)
  · unfold B_X7_grips_105
    exact zk_bbt (by decide) (J S RS Fr.rf (by omega) (G.im up))
  · refine zk_bd (t7_topOf v S RS ⟨by omega, by omega⟩) (fun u T h => ?_)
    obtain ⟨rfl, hu1, hu2, hu⟩ := h
    unfold B_X7_grips_105
    refine zk_eq (fun _ => J S RS Fr.rf (by omega) (G.im up)) (fun c3 => ?_)
    refine zk_gd ⟨by omega, by omega⟩ ?_
    refine zk_iv fun y ey => ?_
    refine zk_gd ⟨by omega, by omega⟩ ?_
    refine zk_iv fun y2 ey2 => ?_
    refine zk_eq (fun _ => ?_) (fun _ => J S RS Fr.rf (by omega) (G.im up))
    refine zk_bd (t7_takes u S RS ⟨by omega, by omega⟩ (by omega)) (fun w T h => ?_)
    obtain ⟨RT, FT, em, eg⟩ := h
    have hq := hu.resolve_left (by omega)
    have hc := cn_eq (x := v) (by omega)
    refine J T RT FT (by omega) (G.add (c := v.toNatClampNeg) FT em eg (by omega) hq.2.1 hq.2.2 up (fun y q => ?_) ?_)
    · unfold ofs at q
      omega
    · unfold ofs
      omega
theorem t7_grips (p1 : Int32) (S : fS) (RS : RI S) (hp : 0 ≤ p1.toInt ∧ p1.toInt ≤ 63) : zk (F_X7_grips p1 S) (fun _ T => GO S T) := by
  have l0 : (0 : Int32).toInt = 0 := by decide
  have lm1 : (-1 : Int32).toInt = -1 := by decide
  unfold F_X7_grips
  refine zk_sv fun S1 E1 => ?_
  refine zk_sv fun S2 E2 => ?_
  refine zk_sv fun S3 E3 => ?_
  refine zk_sv fun S4 E4 => ?_
  refine zk_sv fun S5 E5 => ?_
  have R1 : RI S1 := by rw [E1]; exact RS.wr (show (0 : Int) ≤ (0 : Int32).toInt by decide) (show (0 : Int32).toInt ≤ 5 by decide)
  have R2 : RI S2 := by rw [E2]; exact R1.wf rfl
  have R3 : RI S3 := by rw [E3]; exact R2.wf rfl
  have R4 : RI S4 := by rw [E4]; exact R3.wf rfl
  have R5 : RI S5 := by rw [E5]; exact R4.wf rfl
  have F1 : Fr 17179934720 S S1 := by rw [E1]; exact Fr.rf.wr (k := 34) rfl rfl
  have F2 : Fr 17179934720 S S2 := by rw [E2]; exact F1.wr (k := 16) rfl rfl
  have F3 : Fr 17179934720 S S3 := by rw [E3]; exact F2.wr (k := 16) rfl rfl
  have F4 : Fr 17179934720 S S4 := by rw [E4]; exact F3.wr (k := 16) rfl rfl
  have F5 : Fr 17179934720 S S5 := by rw [E5]; exact F4.wr (k := 16) rfl rfl
  have m5 : (ge S5 40 0 40).toInt = 0 := by rw [E5, ge_puj (by decide), E4, ge_puj (by decide), E3, ge_puj (by decide), E2, ge_puj (by decide), E1, ge_pus]; rfl
  have o5 : (ge S5 40 0 41).toInt = 0 := by rw [E5, ge_pus]; rfl
  have G5 : ∀ P : Int → Prop, GP S5 P := fun P => ⟨fun _ => 0, fun j q => by omega, fun j j' q _ _ => by omega⟩
  refine zk_bd (t7_topOf p1 S5 R5 hp) (fun u T h => ?_)
  obtain ⟨rfl, hu1, hu2, hu⟩ := h
  have fin : zk (some ((0 : Int32), S5)) (fun _ T => GO S T) := zk_some ⟨R5, F5, G5 _, Or.inl o5⟩
  refine zk_iv fun x47 _ => ?_
  refine zk_eq (fun _ => fin) (fun _ => ?_)
  refine zk_eq (fun _ => fin) (fun c => ?_)
  refine zk_iv fun _ _ => ?_
  refine zk_iv fun _ _ => ?_
  refine zk_iv fun _ _ => ?_
  refine zk_iv fun _ _ => ?_
  refine zk_le (fun _ => ?_) (fun _ => fin)
  refine zk_bd (t7_takes u S5 R5 ⟨by omega, by omega⟩ (by omega)) (fun w T h => ?_)
  obtain ⟨RT, FT, em, eg⟩ := h
  have hq := hu.resolve_left (by omega)
  have hc := cn_eq (x := p1) (by omega)
  have GT : GP T (ofs p1.toInt 0) := (G5 (fun _ => False)).add (c := p1.toNatClampNeg) FT em eg (by omega) hq.2.1 hq.2.2 (fun _ q => q.elim) (fun _ q => q.elim) (Or.inl hc)
  refine zk_imp (t7_g68 (p1, u, 0) T RT ⟨by dsimp only; omega, by dsimp only; omega, by dsimp only; omega, by dsimp only; omega, by dsimp only; omega, by dsimp only; omega⟩ (by dsimp only; omega) (by dsimp only; rw [l0]; exact GT)) (fun v U q => ⟨q.1, (F5.tr FT).tr q.2.1, q.2.2⟩)
