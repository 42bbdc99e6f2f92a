/-! the pure part: the reference, calls that move things, tries -/
section TRY
variable {S T U : fS} {m : Nat}
theorem HSm.fr (h : HSm S) (F : Fr m S T) (h24 : m.testBit 24 = false) (h26 : m.testBit 26 = false) : HSm T := h.of (fun a i j q => F.1 a i j (by rcases q with q | q <;> rw [q] <;> assumption))
theorem HI.hs (h : HI S) (hs : HSm T) (F : Fr m S T) (hm : m &&& 35434266624 = 0) : HI T := by
  have b : ∀ k : Nat, (35434266624 : Nat).testBit k = true → m.testBit k = false := fun k q => by
    have e : (m &&& 35434266624).testBit k = false := by rw [hm]; exact Nat.zero_testBit _
    rw [Nat.testBit_and, q, Bool.and_true] at e
    exact e
  have e1 : ge T 40 0 56 = ge S 40 0 56 := F.1 40 0 56 (b 19 rfl)
  have e2 : ge T 40 0 48 = ge S 40 0 48 := F.1 40 0 48 (b 18 rfl)
  refine ⟨hs, fun k q => (h.2.1 k (by rw [← e1]; exact q)).of (fun a i j q => F.1 a i j (by rcases q with q | q <;> rw [q] <;> exact b _ rfl)), fun x q => ?_⟩
  rw [hsum_of (fun k => F.1 59 x k (b 18 rfl))]
  exact h.2.2 x (by rw [← e2]; exact q)
theorem h7_lay71 {a1 a2 a3 a4 t0 : Int32} (RS : RI S) (h : HI S) (hp : ¬ t0.toInt = 0 ∨ (0 ≤ a1.toInt ∧ a1.toInt ≤ 63)) : zk (B_X7_lay_71 a1 a2 a3 a4 t0 S) (fun _ T => RI T ∧ Fr 83951616 S T ∧ HI T) := by
  have l0 : (0 : Int32).toInt = 0 := by decide
  have l1 : (1 : Int32).toInt = 1 := by decide
  have l24 : (24 : Int32).toInt = 24 := by decide
  unfold B_X7_lay_71
  refine zk_bd (s_F_X7_bad t0 2 S RS (by decide)) (fun v S2 q => ?_)
  obtain ⟨R2, f2, hv⟩ := q
  have F2 : Fr 83951616 S S2 := f2.sub (by decide)
  have H2 := h.fr f2 rfl
  refine zk_eq (fun c => ?_) (fun _ => zk_some ⟨R2, F2, H2⟩)
  have ha : 0 ≤ a1.toInt ∧ a1.toInt ≤ 63 := by omega
  refine zk_iv fun x e => ?_
  have g : 0 ≤ x.toInt ∧ x.toInt ≤ 24 := by rw [e]; exact R2 40 0 21
  refine zk_eq (fun _ => zk_some ⟨R2, F2, H2⟩) (fun c2 => ?_)
  have ib : ¬ (x < 0 ∨ 24 ≤ x.toNatClampNeg) → True := fun _ => trivial
  refine zk_ivq (x := x) e.symm ?_
  refine zk_gd ⟨by omega, by omega⟩ ?_
  refine zk_sv fun S9 E9 => ?_
  refine zk_ivq (x := x) (by rw [E9, ge_pua (by decide)]; exact e.symm) ?_
  refine zk_gd ⟨by omega, by omega⟩ ?_
  refine zk_sv fun S12 E12 => ?_
  refine zk_ivq (x := x) (by rw [E12, ge_pua (by decide), E9, ge_pua (by decide)]; exact e.symm) ?_
  refine zk_gd ⟨by omega, by omega⟩ ?_
  refine zk_sv fun S15 E15 => ?_
  refine zk_ivq (x := x) (by rw [E15, ge_pua (by decide), E12, ge_pua (by decide), E9, ge_pua (by decide)]; exact e.symm) ?_
  refine zk_gd ⟨by omega, by omega⟩ ?_
  refine zk_sv fun S18 E18 => ?_
  refine zk_ivq (x := x) (by rw [E18, ge_pua (by decide), E15, ge_pua (by decide), E12, ge_pua (by decide), E9, ge_pua (by decide)]; exact e.symm) ?_
  refine zk_gd ⟨by omega, by omega⟩ ?_
  refine zk_sv fun S21 E21 => ?_
  have e21 : ge S21 40 0 21 = x := by rw [E21, ge_pua (by decide), E18, ge_pua (by decide), E15, ge_pua (by decide), E12, ge_pua (by decide), E9, ge_pua (by decide)]; exact e.symm
  refine zk_ivq (x := x) e21 ?_
  have R9 : RI S9 := by rw [E9]; exact R2.wf rfl
  have R12 : RI S12 := by rw [E12]; exact R9.wf rfl
  have R15 : RI S15 := by rw [E15]; exact R12.wf rfl
  have R18 : RI S18 := by rw [E18]; exact R15.wr (show (0 : Int) ≤ a1.toInt by omega) (show a1.toInt ≤ 63 by omega)
  have R21 : RI S21 := by rw [E21]; exact R18.wr (vnb _).1 (vnb _).2
  have F9 : Fr 65536 S2 S9 := by rw [E9]; exact Fr.rf.wr (k := 16) rfl rfl
  have F12 : Fr 65536 S2 S12 := by rw [E12]; exact F9.wr (k := 16) rfl rfl
  have F15 : Fr 65536 S2 S15 := by rw [E15]; exact F12.wr (k := 16) rfl rfl
  have F18 : Fr 65536 S2 S18 := by rw [E18]; exact F15.wr (k := 16) rfl rfl
  have F21 : Fr 65536 S2 S21 := by rw [E21]; exact F18.wr (k := 16) rfl rfl
  have H21 := H2.fr F21 rfl
  have F21' : Fr 83951616 S S21 := F2.tr (F21.sub (by decide))
  have hc := cn_eq ha.1
  have hx := cn_eq g.1
  have hle := HB.le H21.1 (c := a1.toNatClampNeg) (by rw [e21]; omega) (by omega)
  have hle : (ge S21 54 0 a1.toNatClampNeg).toInt ≤ (ge S21 40 0 21).toInt := hle
  rw [e21] at hle
  refine zk_bd (t7_puts x a1 S21 R21 ⟨by omega, by omega, by omega, by omega⟩ (by omega)) (fun v3 S24 q => ?_)
  obtain ⟨R24, F24, p1, p2, p3⟩ := q
  have e24 : ge S24 40 0 21 = x := (F24.1 40 0 21 rfl).trans e21
  refine zk_ivq (x := x) e24 ?_
  refine zk_iv fun y ey => ?_
  have gy : y.toInt = x.toInt + 1 := by rw [ey, ti_add (by omega) (by omega), l1]
  refine zk_sv fun S28 E28 => ?_
  have e28 : ge S28 40 0 21 = y := by rw [E28]; exact ge_pus
  refine zk_ivq (x := y) e28 ?_
  refine zk_iv fun z ez => ?_
  have R28 : RI S28 := by rw [E28]; exact R24.wr (show (0 : Int) ≤ y.toInt by omega) (show y.toInt ≤ 24 by omega)
  have F28 : Fr 83951616 S S28 := by rw [E28]; exact (F21'.tr (F24.sub (by decide))).wr (k := 26) rfl rfl
  refine zk_some ⟨R28, F28, h.hs ?_ F28 rfl⟩
  have f50 : ∀ i : Nat, ge S28 50 0 i = ge S24 50 0 i := fun i => by rw [E28, ge_pua (by decide)]
  have f54 : ∀ i : Nat, ge S28 54 0 i = ge S24 54 0 i := fun i => by rw [E28, ge_pua (by decide)]
  have f53 : ∀ i k : Nat, ge S28 53 i k = ge S24 53 i k := fun i k => by rw [E28, ge_pua (by decide)]
  have hB := H21.1
  unfold HSm at hB ⊢
  rw [e28, gy]
  rw [e21] at hB
  simp only [f50, f54, f53]
  refine HB.put hB (n' := x.toInt + 1) (c := a1.toNatClampNeg) (t := x.toNatClampNeg) (by omega) (fun i hi hne => Or.inl (by omega)) (by omega) (fun q => by omega) (by omega) (R21 54 0 _).1 (fun i _ => wl R21 i) (fun i => ?_) p2 (fun i k => ?_)
  · show (ge S24 50 0 i).toInt = _
    rw [p1]
    by_cases z : i = x.toNatClampNeg
    · rw [if_pos z, if_pos z]; omega
    · rw [if_neg z, if_neg z]
  · show (ge S24 53 i k).toInt = _
    rw [p3]
    by_cases z : i = a1.toNatClampNeg ∧ (k : Int) = (ge S21 54 0 a1.toNatClampNeg).toInt
    · rw [if_pos z, if_pos z]; omega
    · rw [if_neg z, if_neg z]
theorem h7_lay18 {a1 a2 a3 a4 t0 : Int32} (RS : RI S) (h : HI S) (hp : ¬ t0.toInt = 0 ∨ (0 ≤ a1.toInt ∧ a1.toInt ≤ 63)) : zk (B_X7_lay_18 a1 a2 a3 a4 t0 S) (fun _ T => RI T ∧ Fr 83951616 S T ∧ HI T) := by
  have l0 : (0 : Int32).toInt = 0 := by decide
  unfold B_X7_lay_18 B_X7_lay_66
  refine zk_bd (s_F_X7_bad t0 1 S RS (by decide)) (fun v S2 q => ?_)
  obtain ⟨R2, f2, hv⟩ := q
  have F2 : Fr 83951616 S S2 := f2.sub (by decide)
  have H2 := h.fr f2 rfl
  refine zk_eq (fun c => ?_) (fun _ => zk_some ⟨R2, F2, H2⟩)
  have K : ∀ t : Int32, zk (B_X7_lay_71 a1 a2 a3 a4 t S2) (fun _ T => RI T ∧ Fr 83951616 S T ∧ HI T) := fun t => zk_imp (h7_lay71 R2 H2 (Or.inr (by omega))) (fun v T q => ⟨q.1, F2.tr q.2.1, q.2.2⟩)
  refine zk_iv fun x e => ?_
  refine zk_eq (fun _ => K _) (fun _ => ?_)
  refine zk_bd (s_F_X7_in _ _ _ S2 R2) (fun v3 T q => ?_)
  obtain ⟨rfl, _⟩ := q
  refine zk_eq (fun _ => K _) (fun _ => ?_)
  refine zk_bd (s_F_X7_in _ _ _ S2 R2) (fun v3 T q => ?_)
  obtain ⟨rfl, _⟩ := q
  refine zk_eq (fun _ => K _) (fun _ => ?_)
  refine zk_bd (s_F_X7_in _ _ _ S2 R2) (fun v3 T q => ?_)
  obtain ⟨rfl, _⟩ := q
  exact zk_eq (fun _ => K _) (fun _ => K _)
theorem h7_lay (p1 p2 p3 p4 : Int32) (RS : RI S) (h : HI S) : zk (F_X7_lay p1 p2 p3 p4 S) (fun _ T => RI T ∧ Fr 83951616 S T ∧ HI T) := by
  have l0 : (0 : Int32).toInt = 0 := by decide
  unfold F_X7_lay
  refine zk_sv fun S1 E1 => ?_
  have R1 : RI S1 := by rw [E1]; exact RS.wf rfl
  have F1 : Fr 83951616 S S1 := by rw [E1]; exact Fr.rf.wr (k := 16) rfl rfl
  have H1 : HI S1 := by rw [E1]; exact h.wr (k := 16) rfl rfl
  refine zk_bd (s_F_X7_isCell p1 S1 R1) (fun v T q => ?_)
  obtain ⟨rfl, hv⟩ := q
  have J : ∀ t : Int32, (¬ t.toInt = 0 ∨ (0 ≤ p1.toInt ∧ p1.toInt ≤ 63)) → zk (B_X7_lay_18 p1 p2 p3 p4 t S1) (fun _ T => RI T ∧ Fr 83951616 S T ∧ HI T) := fun t ht => zk_imp (h7_lay18 R1 H1 ht) (fun v T q => ⟨q.1, F1.tr q.2.1, q.2.2⟩)
  exact zk_eq (fun _ => J _ (Or.inl (by decide))) (fun _ => J _ (Or.inr (by omega)))
theorem h7_key (p1 : Int32) (RS : RI S) (h : HI S) : zk (F_X7_key p1 S) (fun _ T => RI T ∧ Fr 16842752 S T ∧ HI T) := by
  have l0 : (0 : Int32).toInt = 0 := by decide
  have l1 : (1 : Int32).toInt = 1 := by decide
  unfold F_X7_key
  refine zk_sv fun S1 E1 => ?_
  have R1 : RI S1 := by rw [E1]; exact RS.wf rfl
  have F1 : Fr 16842752 S S1 := by rw [E1]; exact Fr.rf.wr (k := 16) rfl rfl
  have H1 : HI S1 := by rw [E1]; exact h.wr (k := 16) rfl rfl
  refine zk_iv fun x e => ?_
  have g : 0 ≤ x.toInt ∧ x.toInt ≤ 24 := by rw [e]; exact R1 40 0 21
  refine zk_iv fun y ey => ?_
  have gy : y.toInt = x.toInt - 1 := by rw [ey, ti_sub (by omega) (by omega), l1]
  refine zk_bd (s_F_X7_in _ _ _ S1 R1) (fun v T q => ?_)
  obtain ⟨rfl, hv⟩ := q
  have J : ∀ t : Int32, (¬ t.toInt = 0 ∨ (0 ≤ p1.toInt ∧ p1.toInt < x.toInt)) → zk (B_X7_key_25 p1 t S1) (fun _ T => RI T ∧ Fr 16842752 S T ∧ HI T) := by
    intro t ht
    unfold B_X7_key_25
    refine zk_bd (s_F_X7_bad t 1 S1 R1 (by decide)) (fun v2 S2 q => ?_)
    obtain ⟨R2, f2, hv2⟩ := q
    have F2 : Fr 16842752 S S2 := F1.tr (f2.sub (by decide))
    have H2 := H1.fr f2 rfl
    have e2 : ge S2 40 0 21 = x := (f2.1 40 0 21 rfl).trans e.symm
    refine zk_eq (fun c => ?_) (fun _ => zk_some ⟨R2, F2, H2⟩)
    refine zk_gd ⟨by omega, by omega⟩ ?_
    refine zk_iv fun x6 e6 => ?_
    refine zk_le (fun c2 => ?_) (fun _ => zk_some ⟨R2, F2, H2⟩)
    refine zk_bd (h7_goes p1 (-2) S2 R2 H2.1 ⟨by omega, by rw [e2]; omega, by decide, by decide⟩ (by rw [← e6]; omega)) (fun _ T q => ?_)
    obtain ⟨RT, FT, HT, _⟩ := q
    have FT' : Fr 16842752 S T := F2.tr (FT.sub (by decide))
    exact zk_some ⟨RT, FT', h.hs HT FT' rfl⟩
  exact zk_eq (fun _ => J _ (Or.inl (by decide))) (fun _ => J _ (Or.inr (by omega)))
theorem h7_th47 {a1 a2 t0 : Int32} (RS : RI S) (h : HSm S) (hp : ¬ t0.toInt = 0 ∨ (0 ≤ a1.toInt ∧ a1.toInt < (ge S 40 0 21).toInt)) (ha : 0 ≤ a1.toInt ∧ a1.toInt < (ge S 40 0 21).toInt) : zk (B_X7_thing_47 a1 a2 t0 S) (fun _ T => RI T ∧ Fr 65536 S T) := by
  have l0 : (0 : Int32).toInt = 0 := by decide
  have g : (ge S 40 0 21).toInt ≤ 24 := (RS 40 0 21).2
  unfold B_X7_thing_47
  refine zk_bd (s_F_X7_bad t0 2 S RS (by decide)) (fun v S2 q => ?_)
  obtain ⟨R2, F2, hv⟩ := q
  have H2 := h.fr F2 rfl rfl
  have e2 : ge S2 40 0 21 = ge S 40 0 21 := F2.1 40 0 21 rfl
  have K : ∀ y : Int32, zk (some (y, S2)) (fun _ T => RI T ∧ Fr 65536 S T) := fun y => zk_some ⟨R2, F2⟩
  refine zk_eq (fun c => ?_) (fun _ => K _)
  refine zk_bb (fun _ => zk_gd ⟨by omega, by omega⟩ (zk_iv fun y _ => K y)) (fun _ => ?_)
  refine zk_bb (fun _ => zk_gd ⟨by omega, by omega⟩ (zk_iv fun x e => ?_)) (fun _ => ?_)
  · refine zk_le (fun c3 => ?_) (fun _ => K _)
    have hw : 0 ≤ (ge S2 50 0 a1.toNatClampNeg).toInt := by rw [← e]; omega
    obtain ⟨k, a, b⟩ := H2.at R2 ha.1 (by rw [e2]; exact ha.2) hw
    have g2 : (ge S2 54 0 (ge S2 50 0 a1.toNatClampNeg).toNatClampNeg).toInt ≤ 24 := (R2 54 0 _).2
    refine zk_bd (t7_levelOf a1 S2 R2 ⟨by omega, by omega⟩ hw k (by omega) b) (fun v T q => ?_)
    obtain ⟨rfl, _⟩ := q
    exact K _
  refine zk_bb (fun _ => zk_gd ⟨by omega, by omega⟩ (zk_iv fun y _ => K y)) (fun _ => ?_)
  refine zk_bb (fun _ => zk_gd ⟨by omega, by omega⟩ (zk_iv fun y _ => K y)) (fun _ => ?_)
  refine zk_bb (fun _ => zk_gd ⟨by omega, by omega⟩ (zk_iv fun y _ => K y)) (fun _ => ?_)
  exact zk_gd ⟨by omega, by omega⟩ (zk_iv fun y _ => zk_eq (fun _ => K _) (fun _ => K _))
theorem h7_thing (p1 p2 : Int32) (RS : RI S) (h : HI S) : zk (F_X7_thing p1 p2 S) (fun _ T => RI T ∧ Fr 65536 S T) := by
  have l0 : (0 : Int32).toInt = 0 := by decide
  have l1 : (1 : Int32).toInt = 1 := by decide
  unfold F_X7_thing
  refine zk_sv fun S1 E1 => ?_
  have R1 : RI S1 := by rw [E1]; exact RS.wf rfl
  have F1 : Fr 65536 S S1 := by rw [E1]; exact Fr.rf.wr (k := 16) rfl rfl
  have H1 : HI S1 := by rw [E1]; exact h.wr (k := 16) rfl rfl
  refine zk_iv fun x e => ?_
  have g : 0 ≤ x.toInt ∧ x.toInt ≤ 24 := by rw [e]; exact R1 40 0 21
  refine zk_iv fun y ey => ?_
  have gy : y.toInt = x.toInt - 1 := by rw [ey, ti_sub (by omega) (by omega), l1]
  refine zk_bd (s_F_X7_in _ _ _ S1 R1) (fun v T q => ?_)
  obtain ⟨rfl, hv⟩ := q
  have J : ∀ t : Int32, (¬ t.toInt = 0 ∨ (0 ≤ p1.toInt ∧ p1.toInt < x.toInt)) → zk (B_X7_thing_25 p1 p2 t S1) (fun _ T => RI T ∧ Fr 65536 S T) := by
    intro t ht
    unfold B_X7_thing_25
    refine zk_bd (s_F_X7_bad t 1 S1 R1 (by decide)) (fun v2 S2 q => ?_)
    obtain ⟨R2, f2, hv2⟩ := q
    have F2 : Fr 65536 S S2 := F1.tr f2
    have H2 := H1.fr f2 rfl
    have e2 : ge S2 40 0 21 = x := (f2.1 40 0 21 rfl).trans e.symm
    refine zk_eq (fun c => ?_) (fun _ => zk_some ⟨R2, F2⟩)
    refine zk_bd (s_F_X7_in _ _ _ S2 R2) (fun v3 T q => ?_)
    obtain ⟨rfl, _⟩ := q
    have ha : 0 ≤ p1.toInt ∧ p1.toInt < (ge S2 40 0 21).toInt := by rw [e2]; omega
    have K : ∀ t : Int32, zk (B_X7_thing_47 p1 p2 t S2) (fun _ T => RI T ∧ Fr 65536 S T) := fun t => zk_imp (h7_th47 R2 H2.1 (Or.inr ha) ha) (fun v T q => ⟨q.1, F2.tr q.2⟩)
    exact zk_eq (fun _ => K _) (fun _ => K _)
  exact zk_eq (fun _ => J _ (Or.inl (by decide))) (fun _ => J _ (Or.inr (by omega)))
/-! tries: what is still to be moved lies somewhere, and is not twice there -/
def GQ (S : fS) (k : Int) : Prop := (∀ j : Nat, k ≤ (j : Int) → (j : Int) < (ge S 40 0 40).toInt → 0 ≤ (ge S 55 0 j).toInt ∧ (ge S 55 0 j).toInt < (ge S 40 0 21).toInt ∧ 0 ≤ (ge S 50 0 (ge S 55 0 j).toNatClampNeg).toInt) ∧ ∀ j j' : Nat, (j : Int) < (ge S 40 0 40).toInt → (j' : Int) < (ge S 40 0 40).toInt → ge S 55 0 j = ge S 55 0 j' → j = j'
theorem GR.q (G : GR S) (h : HSm S) (R : RI S) : GQ S 0 := by
  obtain ⟨x, h1, h2⟩ := G
  have A : ∀ j : Nat, (j : Int) < (ge S 40 0 40).toInt → 0 ≤ (ge S 55 0 j).toInt ∧ (ge S 55 0 j).toInt < (ge S 40 0 21).toInt ∧ (ge S 50 0 (ge S 55 0 j).toNatClampNeg).toInt = (x j : Int) := fun j q => by
    obtain ⟨a, b, c, _⟩ := h1 j q
    have d := h.1 (x j) ((ge S 54 0 (x j)).toInt - 1).toNat a (by show (((ge S 54 0 (x j)).toInt - 1).toNat : Int) < (ge S 54 0 (x j)).toInt; omega)
    rw [c]
    exact d
  exact ⟨fun j _ q => ⟨(A j q).1, (A j q).2.1, by rw [(A j q).2.2]; omega⟩, fun j j' q q' e => h2 j j' q q' (by
    have a := (A j q).2.2
    have b := (A j' q').2.2
    rw [e] at a
    omega)⟩
end TRY
