/-! the pure part: the reference, things put and taken -/
def PUT (S T : fS) (t c : Int32) : Prop := (∀ i : Nat, ge T 50 0 i = if i = t.toNatClampNeg then c else ge S 50 0 i) ∧ (∀ i : Nat, (ge T 54 0 i).toInt = if i = c.toNatClampNeg then (ge S 54 0 c.toNatClampNeg).toInt + 1 else (ge S 54 0 i).toInt) ∧ ∀ i k : Nat, ge T 53 i k = if i = c.toNatClampNeg ∧ (k : Int) = (ge S 54 0 c.toNatClampNeg).toInt then t else ge S 53 i k
theorem t7_puts (t c : Int32) (S : fS) (RS : RI S) (hp : 0 ≤ t.toInt ∧ t.toInt ≤ 23 ∧ 0 ≤ c.toInt ∧ c.toInt ≤ 63) (hh : (ge S 54 0 c.toNatClampNeg).toInt ≤ 23) : zk (F_X7_puts t c S) (fun _ T => RI T ∧ Fr 16777216 S T ∧ PUT S T t c) := by
  have l1 : (1 : Int32).toInt = 1 := by decide
  unfold F_X7_puts
  refine zk_gd ⟨by omega, by omega⟩ ?_
  refine zk_gd ⟨by omega, by omega⟩ ?_
  refine zk_iv fun x e => ?_
  have g : 0 ≤ x.toInt ∧ x.toInt ≤ 24 := by rw [e]; exact RS 54 0 _
  have gx : x.toInt ≤ 23 := by rw [e]; exact hh
  refine zk_gd ⟨by omega, by omega⟩ ?_
  refine zk_sv fun S5 E5 => ?_
  refine zk_gd ⟨by omega, by omega⟩ ?_
  refine zk_ivq (x := x) (by rw [E5, ge_pua (by decide)]; exact e.symm) ?_
  refine zk_iv fun y ey => ?_
  have gy : y.toInt = x.toInt + 1 := by rw [ey, ti_add (by omega) (by omega), l1]
  refine zk_gd ⟨by omega, by omega⟩ ?_
  refine zk_sv fun S10 E10 => ?_
  refine zk_gd ⟨by omega, by omega⟩ ?_
  refine zk_sv fun S12 E12 => ?_
  have R5 : RI S5 := by rw [E5]; exact RS.wr (show (0 : Int) ≤ t.toInt by omega) (show t.toInt ≤ 23 by omega)
  have R10 : RI S10 := by rw [E10]; exact R5.wr (show (0 : Int) ≤ y.toInt by omega) (show y.toInt ≤ 24 by omega)
  have R12 : RI S12 := by rw [E12]; exact R10.wr (show (-2 : Int) ≤ c.toInt by omega) (show c.toInt ≤ 63 by omega)
  have F5 : Fr 16777216 S S5 := by rw [E5]; exact Fr.rf.wr (k := 24) rfl rfl
  have F10 : Fr 16777216 S S10 := by rw [E10]; exact F5.wr (k := 24) rfl rfl
  have F12 : Fr 16777216 S S12 := by rw [E12]; exact F10.wr (k := 24) rfl rfl
  have hx := cn_eq g.1
  rw [e] at hx
  refine zk_some ⟨R12, F12, fun i => ?_, fun i => ?_, fun i k => ?_⟩
  · rw [E12, ge_pu, E10, ge_pua (by decide), E5, ge_pua (by decide)]
    by_cases z : i = t.toNatClampNeg
    · rw [if_pos z, if_pos ⟨rfl, rfl, z⟩]
    · rw [if_neg z, if_neg (fun q => z q.2.2)]
  · rw [E12, ge_pua (by decide), E10, ge_pu, E5, ge_pua (by decide)]
    by_cases z : i = c.toNatClampNeg
    · rw [if_pos z, if_pos ⟨rfl, rfl, z⟩, gy, e]
    · rw [if_neg z, if_neg (fun q => z q.2.2)]
  · rw [E12, ge_pua (by decide), E10, ge_pua (by decide), E5, ge_pu]
    by_cases z : i = c.toNatClampNeg ∧ (k : Int) = (ge S 54 0 c.toNatClampNeg).toInt
    · rw [if_pos z, if_pos ⟨rfl, z.1, by rw [e]; omega⟩]
    · rw [if_neg z, if_neg (fun q => z ⟨q.2.1, by have := q.2.2; rw [e] at this; omega⟩)]
theorem t7_levelOf (t : Int32) (S : fS) (RS : RI S) (hp : 0 ≤ t.toInt ∧ t.toInt ≤ 23) (hw : 0 ≤ (ge S 50 0 t.toNatClampNeg).toInt) (k0 : Nat) (hk0 : k0 < 24) (he : ge S 53 (ge S 50 0 t.toNatClampNeg).toNatClampNeg k0 = t) : zk (F_X7_levelOf t S) (fun v T => S = T ∧ 0 ≤ v.toInt ∧ v.toInt ≤ k0 ∧ ge S 53 (ge S 50 0 t.toNatClampNeg).toNatClampNeg v.toNatClampNeg = t) := by
  have l0 : (0 : Int32).toInt = 0 := by decide
  have gw : (ge S 50 0 t.toNatClampNeg).toInt ≤ 63 := (RS 50 0 t.toNatClampNeg).2
  unfold F_X7_levelOf
  refine zk_lp (fun (z : Int32 × Int32) T => S = T ∧ z.1 = t ∧ 0 ≤ z.2.toInt ∧ z.2.toInt ≤ (k0 : Int)) (fun (z : Int32 × Int32) _ => (24 - z.2.toInt).toNat) (fun _ _ (v : Int32) T => S = T ∧ 0 ≤ v.toInt ∧ v.toInt ≤ (k0 : Int) ∧ ge S 53 (ge S 50 0 t.toNatClampNeg).toNatClampNeg v.toNatClampNeg = t) ?_ (t, 0) S ⟨rfl, rfl, by show (0 : Int) ≤ (0 : Int32).toInt; omega, by show (0 : Int32).toInt ≤ (k0 : Int); omega⟩ (by show (24 - (0 : Int32).toInt).toNat < 4294967296; decide)
  intro k z T hI hk
  obtain ⟨a1, a2⟩ := z
  obtain ⟨rfl, h1, h2, h3⟩ := hI
  dsimp only at h1 h2 h3
  subst h1
  have hc := cn_eq h2
  unfold B_X7_levelOf_2
  dsimp only
  refine zk_gd ⟨by omega, by omega⟩ ?_
  refine zk_iv fun x e => ?_
  subst e
  refine zk_gd ⟨by omega, by omega⟩ ?_
  refine zk_gd ⟨by omega, by omega⟩ ?_
  refine zk_iv fun x5 e5 => ?_
  refine zk_bb (fun c => zk_some ⟨rfl, h2, h3, by rw [← e5]; exact c⟩) (fun c => ?_)
  refine zk_iv fun y ey => ?_
  have gy : y.toInt = a2.toInt + 1 := by rw [ey]; exact ti_inc (by omega)
  have hne : a2.toNatClampNeg ≠ k0 := fun q => c (by rw [e5, q]; exact he)
  exact hk (a1, y) S ⟨rfl, rfl, by dsimp only; omega, by dsimp only; omega⟩ (by show (24 - y.toInt).toNat < (24 - a2.toInt).toNat; omega)
def TKE (S T : fS) (t x : Int32) (c k1 : Nat) : Prop := (∀ i : Nat, ge T 50 0 i = if i = t.toNatClampNeg then x else ge S 50 0 i) ∧ (∀ i : Nat, (ge T 54 0 i).toInt = if i = c then (ge S 54 0 c).toInt - 1 else (ge S 54 0 i).toInt) ∧ (∀ i k : Nat, i ≠ c → ge T 53 i k = ge S 53 i k) ∧ ∀ k : Nat, (k : Int) < (ge S 54 0 c).toInt - 1 → ge T 53 c k = if k < k1 then ge S 53 c k else ge S 53 c (k + 1)
theorem t7_goes (t x : Int32) (S : fS) (RS : RI S) (hp : 0 ≤ t.toInt ∧ t.toInt ≤ 23 ∧ -2 ≤ x.toInt ∧ x.toInt ≤ -1) (hw : 0 ≤ (ge S 50 0 t.toNatClampNeg).toInt) (k0 : Nat) (hk0 : (k0 : Int) < (ge S 54 0 (ge S 50 0 t.toNatClampNeg).toNatClampNeg).toInt) (he : ge S 53 (ge S 50 0 t.toNatClampNeg).toNatClampNeg k0 = t) : zk (F_X7_goes t x S) (fun _ T => RI T ∧ Fr 16777216 S T ∧ ∃ k1 : Nat, (k1 : Int) < (ge S 54 0 (ge S 50 0 t.toNatClampNeg).toNatClampNeg).toInt ∧ ge S 53 (ge S 50 0 t.toNatClampNeg).toNatClampNeg k1 = t ∧ TKE S T t x (ge S 50 0 t.toNatClampNeg).toNatClampNeg k1) := by
  have l1 : (1 : Int32).toInt = 1 := by decide
  have gw : (ge S 50 0 t.toNatClampNeg).toInt ≤ 63 := (RS 50 0 t.toNatClampNeg).2
  have gh : (ge S 54 0 (ge S 50 0 t.toNatClampNeg).toNatClampNeg).toInt ≤ 24 := (RS 54 0 _).2
  unfold F_X7_goes
  refine zk_gd ⟨by omega, by omega⟩ ?_
  refine zk_iv fun xc exc => ?_
  rw [← exc] at hw gw gh hk0 he ⊢
  refine zk_bd (t7_levelOf t S RS ⟨hp.1, hp.2.1⟩ (by rw [← exc]; exact hw) k0 (by omega) (by rw [← exc]; exact he)) (fun v T q => ?_)
  obtain ⟨rfl, hv0, hv1, hv⟩ := q
  rw [← exc] at hv
  have hvc := cn_eq hv0
  refine zk_lp (fun (z : Int32 × Int32 × Int32 × Int32) T => z.1 = t ∧ z.2.1 = x ∧ z.2.2.1 = xc ∧ v.toInt ≤ z.2.2.2.toInt ∧ z.2.2.2.toInt + 1 ≤ (ge S 54 0 xc.toNatClampNeg).toInt ∧ RI T ∧ Fr 16777216 S T ∧ (∀ i : Nat, ge T 50 0 i = ge S 50 0 i) ∧ (∀ i : Nat, ge T 54 0 i = ge S 54 0 i) ∧ (∀ i k : Nat, i ≠ xc.toNatClampNeg → ge T 53 i k = ge S 53 i k) ∧ (∀ k : Nat, ge T 53 xc.toNatClampNeg k = if v.toInt ≤ (k : Int) ∧ (k : Int) < z.2.2.2.toInt then ge S 53 xc.toNatClampNeg (k + 1) else ge S 53 xc.toNatClampNeg k)) (fun (z : Int32 × Int32 × Int32 × Int32) _ => (24 - z.2.2.2.toInt).toNat) (fun _ _ (_ : Int32) T => RI T ∧ Fr 16777216 S T ∧ ∃ k1 : Nat, (k1 : Int) < (ge S 54 0 xc.toNatClampNeg).toInt ∧ ge S 53 xc.toNatClampNeg k1 = t ∧ TKE S T t x xc.toNatClampNeg k1) ?_ (t, x, xc, v) S ⟨rfl, rfl, rfl, Int.le_refl _, by dsimp only; omega, RS, Fr.rf, fun _ => rfl, fun _ => rfl, fun _ _ _ => rfl, fun k => by rw [if_neg (by dsimp only; omega)]⟩ (by show (24 - v.toInt).toNat < 4294967296; omega)
  intro k z T hI hk
  obtain ⟨a1, a2, a3, a4⟩ := z
  obtain ⟨h1, h2, h3, h4, h5, RT, FT, e50, e54, e53, ec⟩ := hI
  dsimp only at h1 h2 h3 h4 h5 ec
  subst h1
  subst h2
  subst h3
  have hc := cn_eq (x := a4) (by omega)
  unfold B_X7_goes_14
  dsimp only
  refine zk_iv fun y ey => ?_
  have gy : y.toInt = a4.toInt + 1 := by rw [ey, ti_add (by omega) (by omega), l1]
  refine zk_gd ⟨by omega, by omega⟩ ?_
  refine zk_iv fun x3 e3 => ?_
  rw [e54] at e3
  have g3 : 0 ≤ x3.toInt ∧ x3.toInt ≤ 24 := by rw [e3]; exact RS 54 0 _
  refine zk_le (fun c => ?_) (fun c => ?_)
  · refine zk_gd ⟨by omega, by omega⟩ ?_
    refine zk_ivq (x := x3) (by rw [e54]; exact e3.symm) ?_
    refine zk_iv fun x7 e7 => ?_
    rw [← e3] at h5 hk0
    have g7 : x7.toInt = x3.toInt - 1 := by rw [e7, ti_sub (by omega) (by omega), l1]
    refine zk_gd ⟨by omega, by omega⟩ ?_
    refine zk_sv fun S9 E9 => ?_
    refine zk_gd ⟨by omega, by omega⟩ ?_
    refine zk_sv fun S11 E11 => ?_
    have R9 : RI S9 := by rw [E9]; exact RT.wr (show (0 : Int) ≤ x7.toInt by omega) (show x7.toInt ≤ 24 by omega)
    have R11 : RI S11 := by rw [E11]; exact R9.wr (show (-2 : Int) ≤ a2.toInt by omega) (show a2.toInt ≤ 63 by omega)
    have F9 : Fr 16777216 S S9 := by rw [E9]; exact FT.wr (k := 24) rfl rfl
    have F11 : Fr 16777216 S S11 := by rw [E11]; exact F9.wr (k := 24) rfl rfl
    refine zk_some ⟨R11, F11, v.toNatClampNeg, by rw [← e3]; omega, hv, fun i => ?_, fun i => ?_, fun i j hi => ?_, fun j hj => ?_⟩
    · rw [E11, ge_pu, E9, ge_pua (by decide), e50]
      by_cases z : i = a1.toNatClampNeg
      · rw [if_pos z, if_pos ⟨rfl, rfl, z⟩]
      · rw [if_neg z, if_neg (fun q => z q.2.2)]
    · rw [E11, ge_pua (by decide), E9, ge_pu, e54]
      by_cases z : i = a3.toNatClampNeg
      · rw [if_pos z, if_pos ⟨rfl, rfl, z⟩, g7, e3]
      · rw [if_neg z, if_neg (fun q => z q.2.2)]
    · rw [E11, ge_pua (by decide), E9, ge_pua (by decide)]
      exact e53 i j hi
    · rw [E11, ge_pua (by decide), E9, ge_pua (by decide), ec]
      rw [← e3] at hj
      by_cases z : j < v.toNatClampNeg
      · rw [if_pos z, if_neg (by omega)]
      · rw [if_neg z, if_pos (by omega)]
  · refine zk_gd ⟨by omega, by omega⟩ ?_
    refine zk_gd ⟨by omega, by omega⟩ ?_
    refine zk_ivq (x := y) ey.symm ?_
    refine zk_gd ⟨by omega, by omega⟩ ?_
    refine zk_iv fun x16 e16 => ?_
    have g16 : 0 ≤ x16.toInt ∧ x16.toInt ≤ 23 := by rw [e16]; exact RT 53 _ _
    refine zk_gd ⟨by omega, by omega⟩ ?_
    refine zk_sv fun S18 E18 => ?_
    refine zk_iv fun x19 e19 => ?_
    have g19 : x19.toInt = a4.toInt + 1 := by rw [e19]; exact ti_inc (by omega)
    have hy := cn_eq (x := y) (by omega)
    have R18 : RI S18 := by rw [E18]; exact RT.wr (show (0 : Int) ≤ x16.toInt by omega) (show x16.toInt ≤ 23 by omega)
    have F18 : Fr 16777216 S S18 := by rw [E18]; exact FT.wr (k := 24) rfl rfl
    refine hk (a1, a2, a3, x19) S18 ⟨rfl, rfl, rfl, by dsimp only; omega, by dsimp only; rw [← e3]; omega, R18, F18, fun i => by rw [E18, ge_pua (by decide)]; exact e50 i, fun i => by rw [E18, ge_pua (by decide)]; exact e54 i, fun i j hi => by rw [E18, ge_pui hi]; exact e53 i j hi, fun j => ?_⟩ (by show (24 - x19.toInt).toNat < (24 - a4.toInt).toNat; omega)
    dsimp only
    rw [E18, ge_pu]
    by_cases z : j = a4.toNatClampNeg
    · rw [if_pos ⟨rfl, rfl, z⟩, if_pos (by omega), e16, ec, if_neg (by omega), show y.toNatClampNeg = j + 1 from by omega]
    · rw [if_neg (fun q => z q.2.2), ec]
      by_cases z2 : v.toInt ≤ (j : Int) ∧ (j : Int) < a4.toInt
      · rw [if_pos z2, if_pos (by omega)]
      · rw [if_neg z2, if_neg (by omega)]
theorem wl {S : fS} (R : RI S) (i : Nat) : (ge S 50 0 i).toInt ≤ 63 := (R 50 0 i).2
theorem HSm.put {S T : fS} {t c : Int32} (h : HSm S) (RS : RI S) (ht : 0 ≤ t.toInt) (htn : t.toInt < (ge S 40 0 21).toInt) (hw : (ge S 50 0 t.toNatClampNeg).toInt < 0) (hc : 0 ≤ c.toInt ∧ c.toInt ≤ 63) (F : Fr 16777216 S T) (p : PUT S T t c) : HSm T := by
  have h1 := cn_eq ht
  have h2 := cn_eq hc.1
  have e : ge T 40 0 21 = ge S 40 0 21 := F.1 40 0 21 rfl
  obtain ⟨p1, p2, p3⟩ := p
  unfold HSm
  rw [e]
  refine HB.put h (Int.le_refl _) (fun i hi _ => Or.inl hi) (by omega) (fun _ => hw) (c := c.toNatClampNeg) (t := t.toNatClampNeg) (by omega) (RS 54 0 _).1 (fun i _ => wl RS i) (fun i => ?_) p2 (fun i k => ?_)
  · show (ge T 50 0 i).toInt = _
    rw [p1]
    by_cases z : i = t.toNatClampNeg
    · rw [if_pos z, if_pos z]; omega
    · rw [if_neg z, if_neg z]
  · show (ge T 53 i k).toInt = _
    rw [p3]
    by_cases z : i = c.toNatClampNeg ∧ (k : Int) = (ge S 54 0 c.toNatClampNeg).toInt
    · rw [if_pos z, if_pos z]; omega
    · rw [if_neg z, if_neg z]
theorem HSm.take {S T : fS} {t x : Int32} {k1 : Nat} (h : HSm S) (RS : RI S) (ht : 0 ≤ t.toInt) (htn : t.toInt < (ge S 40 0 21).toInt) (hx : x.toInt < 0) (hw : 0 ≤ (ge S 50 0 t.toNatClampNeg).toInt) (F : Fr 16777216 S T) (hk : (k1 : Int) < (ge S 54 0 (ge S 50 0 t.toNatClampNeg).toNatClampNeg).toInt) (he : ge S 53 (ge S 50 0 t.toNatClampNeg).toNatClampNeg k1 = t) (p : TKE S T t x (ge S 50 0 t.toNatClampNeg).toNatClampNeg k1) : HSm T := by
  have h1 := cn_eq ht
  have h2 := cn_eq hw
  have h3 := wl RS t.toNatClampNeg
  have e : ge T 40 0 21 = ge S 40 0 21 := F.1 40 0 21 rfl
  obtain ⟨p1, p2, p3, p4⟩ := p
  unfold HSm
  rw [e]
  refine HB.take h (c := (ge S 50 0 t.toNatClampNeg).toNatClampNeg) (t := t.toNatClampNeg) (k0 := k1) (x := x.toInt) (by omega) (by show (ge S 50 0 t.toNatClampNeg).toInt = _; omega) (by omega) hk (by show (ge S 53 _ k1).toInt = _; rw [he]; omega) hx (fun i => ?_) p2 (fun i k hi => by show (ge T 53 i k).toInt = _; rw [p3 i k hi]) (fun k hk => ?_) (fun i _ => wl RS i)
  · show (ge T 50 0 i).toInt = _
    rw [p1]
    by_cases z : i = t.toNatClampNeg
    · rw [if_pos z, if_pos z]
    · rw [if_neg z, if_neg z]
  · show (ge T 53 _ k).toInt = _
    rw [p4 k hk]
    by_cases z : k < k1
    · rw [if_pos z, if_pos z]
    · rw [if_neg z, if_neg z]
/-! where a thing lies, for levelOf and goes -/
theorem HSm.at {S : fS} {t : Int32} (h : HSm S) (RS : RI S) (ht : 0 ≤ t.toInt) (htn : t.toInt < (ge S 40 0 21).toInt) (hw : 0 ≤ (ge S 50 0 t.toNatClampNeg).toInt) : ∃ k : Nat, (k : Int) < (ge S 54 0 (ge S 50 0 t.toNatClampNeg).toNatClampNeg).toInt ∧ ge S 53 (ge S 50 0 t.toNatClampNeg).toNatClampNeg k = t := by
  have h1 := cn_eq ht
  obtain ⟨k, a, b⟩ := h.2.2 t.toNatClampNeg (by omega) hw
  have a : (k : Int) < (ge S 54 0 (ge S 50 0 t.toNatClampNeg).toInt.toNat).toInt := a
  have b : (ge S 53 (ge S 50 0 t.toNatClampNeg).toInt.toNat k).toInt = (t.toNatClampNeg : Int) := b
  exact ⟨k, a, of_toInt (by rw [cnn, b]; omega)⟩
theorem h7_goes (t x : Int32) (S : fS) (RS : RI S) (h : HSm S) (hp : 0 ≤ t.toInt ∧ t.toInt < (ge S 40 0 21).toInt ∧ -2 ≤ x.toInt ∧ x.toInt ≤ -1) (hw : 0 ≤ (ge S 50 0 t.toNatClampNeg).toInt) : zk (F_X7_goes t x S) (fun _ T => RI T ∧ Fr 16777216 S T ∧ HSm T ∧ ∀ i : Nat, ge T 50 0 i = if i = t.toNatClampNeg then x else ge S 50 0 i) := by
  have gt : (ge S 40 0 21).toInt ≤ 24 := (RS 40 0 21).2
  obtain ⟨k, a, b⟩ := h.at RS hp.1 hp.2.1 hw
  refine zk_imp (t7_goes t x S RS ⟨hp.1, by omega, hp.2.2.1, hp.2.2.2⟩ hw k a b) (fun v T q => ?_)
  obtain ⟨RT, FT, k1, c1, c2, c3⟩ := q
  exact ⟨RT, FT, h.take RS hp.1 hp.2.1 (by omega) hw FT c1 c2 c3, c3.1⟩
theorem h7_puts (t c : Int32) (S : fS) (RS : RI S) (h : HSm S) (hp : 0 ≤ t.toInt ∧ t.toInt < (ge S 40 0 21).toInt ∧ 0 ≤ c.toInt ∧ c.toInt ≤ 63) (hw : (ge S 50 0 t.toNatClampNeg).toInt < 0) : zk (F_X7_puts t c S) (fun _ T => RI T ∧ Fr 16777216 S T ∧ HSm T ∧ ∀ i : Nat, ge T 50 0 i = if i = t.toNatClampNeg then c else ge S 50 0 i) := by
  have gt : (ge S 40 0 21).toInt ≤ 24 := (RS 40 0 21).2
  have h1 := cn_eq hp.1
  have h2 := cn_eq hp.2.2.1
  have hl := HB.lt h (c := c.toNatClampNeg) (t := t.toNatClampNeg) (by omega) hw (by omega)
  have hl : (ge S 54 0 c.toNatClampNeg).toInt < (ge S 40 0 21).toInt := hl
  refine zk_imp (t7_puts t c S RS ⟨hp.1, by omega, hp.2.2.1, hp.2.2.2⟩ (by omega)) (fun v T q => ?_)
  obtain ⟨RT, FT, p⟩ := q
  exact ⟨RT, FT, h.put RS hp.1 hp.2.1 hw ⟨hp.2.2.1, hp.2.2.2⟩ FT p, p.1⟩
