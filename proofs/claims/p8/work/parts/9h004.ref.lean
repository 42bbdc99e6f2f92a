/-! the reference's walker does what the walk says -/
section REF
variable {S T U : fS}
theorem e_isWord (p1 p2 p3 p4 p5 : Int32) (R : RI S) : zk (F_X7_isWord p1 p2 p3 p4 p5 S) (fun v T => MV S T (sk (bt S) (at7 S)) ∧ ((v.toInt = 1 ∧ wc (bt S) (sk (bt S) (at7 S)) = (wd p1 p2 p3 p4 p5).toInt) ∨ (v.toInt = 0 ∧ ¬ wc (bt S) (sk (bt S) (at7 S)) = (wd p1 p2 p3 p4 p5).toInt))) := by
  have l0 : (0 : Int32).toInt = 0 := by decide
  have l1 : (1 : Int32).toInt = 1 := by decide
  unfold F_X7_isWord
  refine zk_bd (e_wordHere R) (fun v T h => ?_)
  obtain ⟨h1, h2⟩ := h
  refine zk_bd (s_F_X7_word _ _ _ _ _ _ h1.1) (fun v4 S9 h => ?_)
  obtain ⟨rfl, rfl⟩ := h
  rw [← h2]
  exact zk_eq (fun c => zk_some ⟨h1, Or.inl ⟨l1, c⟩⟩) (fun c => zk_some ⟨h1, Or.inr ⟨l0, c⟩⟩)
theorem e_skipWord (R : RI S) : zk (F_X7_skipWord S) (fun _ T => MV S T (rn (bt S) 97 122 (at7 S))) := by
  have l1 : (1 : Int32).toInt = 1 := by decide
  have l97 : (97 : Int32).toInt = 97 := by decide
  have l122 : (122 : Int32).toInt = 122 := by decide
  unfold F_X7_skipWord
  refine zk_lp (fun (_ : Unit) T => RI T ∧ Fr 536870912 S T ∧ rn (bt S) 97 122 (at7 T) = rn (bt S) 97 122 (at7 S)) (fun (_ : Unit) T => (302 - (ge T 40 0 4).toInt).toNat) (fun _ _ (_ : Int32) T => MV S T (rn (bt S) 97 122 (at7 S))) ?_ () S ⟨R, Fr.rf, rfl⟩ (by have := R.at; show (302 - (ge S 40 0 4).toInt).toNat < 4294967296; omega)
  intro k z T hI hk
  obtain ⟨RT, FT, hs⟩ := hI
  have g := RT.at
  have gs := RT.sz
  have ha := at7_eq RT
  have hbt : bt T = bt S := bt_fr FT rfl
  have htx := bt_txt R
  have fin : ¬ (97 ≤ bt S (at7 T) ∧ bt S (at7 T) ≤ 122) → MV S T (rn (bt S) 97 122 (at7 S)) := fun c => ⟨RT, FT, by rw [← hs]; exact (rn_un htx (by decide) (Nat.le_refl _) (fun i h1 h2 => by omega) c).symm⟩
  unfold B_X7_skipWord_0
  refine zk_iv fun x e => ?_
  subst e
  refine zk_bd (e_byteAt _ RT (p := at7 T) (by omega) (by omega)) (fun v U h => ?_)
  obtain ⟨rfl, hv⟩ := h
  rw [hbt] at hv
  refine zk_lt (fun c => zk_some (fin (by omega))) (fun c => ?_)
  refine zk_iv fun x e => ?_
  subst e
  refine zk_bd (e_byteAt _ RT (p := at7 T) (by omega) (by omega)) (fun v2 U h => ?_)
  obtain ⟨rfl, hv2⟩ := h
  rw [hbt] at hv2
  refine zk_lt (fun c => zk_some (fin (by omega))) (fun c2 => ?_)
  have hlt := bt_lt RT (p := at7 T) (by rw [hbt]; omega)
  refine zk_iv fun x e => ?_
  subst e
  refine zk_iv fun y e => ?_
  have gy : y.toInt = ((at7 T + 1 : Nat) : Int) := by rw [e, ti_add (by omega) (by omega), l1]; omega
  refine zk_sv fun V E => ?_
  have u : MV T V (at7 T + 1) := by rw [E]; exact MV.up RT gy (by omega)
  have e4 : ge V 40 0 4 = y := by rw [E]; exact ge_pus
  exact hk () V ⟨u.1, FT.tr u.2.1, by rw [u.2.2, rn_up htx (by decide) ⟨by omega, by omega⟩]; exact hs⟩ (by show (302 - (ge V 40 0 4).toInt).toNat < (302 - (ge T 40 0 4).toInt).toNat; rw [e4]; omega)
/-! a fault: the first one is kept -/
theorem e_wrong (p1 p2 : Int32) (R : RI S) (hp : ¬ p1.toInt = 0) : zk (F_X7_wrong p1 p2 S) (fun _ T => PS S T ∧ at7 T = at7 S ∧ (((ge S 40 0 6).toInt = 0 ∧ ge T 40 0 6 = p1 ∧ ge T 40 0 7 = p2) ∨ (¬ (ge S 40 0 6).toInt = 0 ∧ ge T 40 0 6 = ge S 40 0 6 ∧ ge T 40 0 7 = ge S 40 0 7))) := by
  have l0 : (0 : Int32).toInt = 0 := by decide
  unfold F_X7_wrong
  refine zk_iv fun x e => ?_
  refine zk_eq (fun c => ?_) (fun c => zk_some ⟨PS.rf R, rfl, Or.inr ⟨by rw [← e]; omega, rfl, rfl⟩⟩)
  refine zk_sv fun S1 E1 => ?_
  refine zk_sv fun S2 E2 => ?_
  have R1 : RI S1 := by rw [E1]; exact R.wf rfl
  have F1 : Fr 13421838336 S S1 := by rw [E1]; exact Fr.rf.wr (k := 33) rfl rfl
  have R2 : RI S2 := by rw [E2]; exact R1.wf rfl
  have F2 : Fr 13421838336 S S2 := by rw [E2]; exact F1.wr (k := 16) rfl rfl
  have e4 : ge S2 40 0 4 = ge S 40 0 4 := by rw [E2, ge_puj (by decide), E1, ge_puj (by decide)]
  have e5 : ge S2 40 0 5 = ge S 40 0 5 := by rw [E2, ge_puj (by decide), E1, ge_puj (by decide)]
  have e6 : ge S2 40 0 6 = p1 := by rw [E2, ge_puj (by decide), E1, ge_pus]
  have e7 : ge S2 40 0 7 = p2 := by rw [E2, ge_pus]
  refine zk_some ⟨⟨R2, F2, by rw [e4]; exact Int.le_refl _, Or.inr (by rw [e4]), by rw [e5], fun _ => by rw [e6]; exact hp⟩, ?_, Or.inl ⟨by rw [← e]; omega, e6, e7⟩⟩
  unfold at7
  rw [e4]
/-! names and their kind stay; a fault that is there stays -/
def NF (S T : fS) : Prop := (∀ i : Nat, ge T 45 0 i = ge S 45 0 i) ∧ ge T 40 0 16 = ge S 40 0 16
def FZ (S T : fS) : Prop := ¬ (ge S 40 0 6).toInt = 0 → ge T 40 0 6 = ge S 40 0 6 ∧ ge T 40 0 7 = ge S 40 0 7
def XS (S T : fS) : Prop := PS S T ∧ NF S T ∧ FZ S T
def XT (S T : fS) : Prop := TS S T ∧ NF S T ∧ FZ S T
theorem NF.rf : NF S S := ⟨fun _ => rfl, rfl⟩
theorem NF.tr (h : NF S T) (h2 : NF T U) : NF S U := ⟨fun i => (h2.1 i).trans (h.1 i), h2.2.trans h.2⟩
theorem NF.fr {m : Nat} (F : Fr m S T) (hm : m.testBit 16 = false) : NF S T := ⟨fun i => F.1 45 0 i (by rw [show rgn 45 i = 16 from rfl]; exact hm), F.1 40 0 16 hm⟩
theorem FZ.tr (h : FZ S T) (h2 : FZ T U) : FZ S U := fun q => by
  have a := h q
  have c := h2 (by rw [a.1]; exact q)
  exact ⟨c.1.trans a.1, c.2.trans a.2⟩
theorem XS.tr (h : XS S T) (h2 : XS T U) : XS S U := ⟨h.1.tr h2.1, h.2.1.tr h2.2.1, h.2.2.tr h2.2.2⟩
theorem XT.tr (h : XT S T) (h2 : XT T U) : XT S U := ⟨h.1.tr h2.1, h.2.1.tr h2.2.1, h.2.2.tr h2.2.2⟩
theorem XS.xt (hA : AK S) (h : XS S T) : XT S T := ⟨h.1.ts hA, h.2⟩
theorem XT.xs (h : XT S T) (h2 : XS T U) : XT S U := h.tr (h2.xt h.1.2.2.2.1)
theorem XS.rf (R : RI S) : XS S S := ⟨PS.rf R, NF.rf, fun _ => ⟨rfl, rfl⟩⟩
theorem XS.tx (h : XS S T) : bt T = bt S := bt_fr h.1.2.1 rfl
theorem XT.tx (h : XT S T) : bt T = bt S := bt_fr h.1.2.1 rfl
/-! a move that stays within the text -/
theorem MV.xs {p : Nat} (R : RI S) (h : MV S T p) (h1 : at7 S ≤ p) (h2 : (p : Int) ≤ (ge S 40 0 2).toInt ∨ p = at7 S) : XS S T := by
  have a := at7_eq R
  have c := at7_eq h.1
  have e := h.2.2
  refine ⟨BS.ps ⟨h.1, h.2.1, by omega, by omega⟩, NF.fr h.2.1 rfl, fun _ => ⟨h.2.1.1 40 0 6 rfl, h.2.1.1 40 0 7 rfl⟩⟩
theorem sk_in (R : RI S) (p : Nat) : (sk (bt S) p : Int) ≤ (ge S 40 0 2).toInt ∨ sk (bt S) p = p := by
  by_cases c : sk (bt S) p = p
  · exact Or.inr c
  · have h1 := sk_le (b := bt S) p
    have h2 := sk_bl (b := bt S) (p := p) (i := sk (bt S) p - 1) (by omega) (by omega)
    have h3 := bt_lt R (p := sk (bt S) p - 1) (by rw [h2]; decide)
    exact Or.inl (by omega)
theorem rn_inT (R : RI S) {lo hi : Int} (hl : 0 ≤ lo) (p : Nat) : (rn (bt S) lo hi p : Int) ≤ (ge S 40 0 2).toInt ∨ rn (bt S) lo hi p = p := by
  by_cases c : rn (bt S) lo hi p = p
  · exact Or.inr c
  · have h1 := rn_le (b := bt S) (lo := lo) (hi := hi) p
    have h2 := rn_in (b := bt S) (lo := lo) (hi := hi) (p := p) (i := rn (bt S) lo hi p - 1) (by omega) (by omega)
    have h3 := bt_lt R (p := rn (bt S) lo hi p - 1) (by omega)
    exact Or.inl (by omega)
theorem x_blanks (R : RI S) : zk (F_X7_blanks S) (fun _ T => XS S T ∧ at7 T = sk (bt S) (at7 S) ∧ (ge T 40 0 6).toInt = (ge S 40 0 6).toInt) := zk_imp (e_blanks R) (fun _ T h => ⟨h.xs R (sk_le _) (sk_in R _), h.2.2, congrArg Int32.toInt (h.2.1.1 40 0 6 rfl)⟩)
theorem x_wrong (p1 p2 : Int32) (R : RI S) (hp : ¬ p1.toInt = 0) : zk (F_X7_wrong p1 p2 S) (fun _ T => XS S T ∧ at7 T = at7 S ∧ ¬ (ge T 40 0 6).toInt = 0 ∧ ((ge S 40 0 6).toInt = 0 → ge T 40 0 6 = p1 ∧ ge T 40 0 7 = p2)) := by
  have l0 : (0 : Int32).toInt = 0 := by decide
  unfold F_X7_wrong
  refine zk_iv fun x e => ?_
  refine zk_eq (fun c => ?_) (fun c => zk_some ⟨XS.rf R, rfl, by rw [← e]; omega, fun q => absurd (by rw [e, l0]; exact q) c⟩)
  refine zk_sv fun S1 E1 => ?_
  refine zk_sv fun S2 E2 => ?_
  have R1 : RI S1 := by rw [E1]; exact R.wf rfl
  have F1 : Fr 13421838336 S S1 := by rw [E1]; exact Fr.rf.wr (k := 33) rfl rfl
  have R2 : RI S2 := by rw [E2]; exact R1.wf rfl
  have F2 : Fr 13421838336 S S2 := by rw [E2]; exact F1.wr (k := 16) rfl rfl
  have e4 : ge S2 40 0 4 = ge S 40 0 4 := by rw [E2, ge_puj (by decide), E1, ge_puj (by decide)]
  have e5 : ge S2 40 0 5 = ge S 40 0 5 := by rw [E2, ge_puj (by decide), E1, ge_puj (by decide)]
  have e6 : ge S2 40 0 6 = p1 := by rw [E2, ge_puj (by decide), E1, ge_pus]
  have e7 : ge S2 40 0 7 = p2 := by rw [E2, ge_pus]
  have n : NF S S2 := ⟨fun i => by rw [E2, ge_pua (by decide), E1, ge_pua (by decide)], by rw [E2, ge_puj (by decide), E1, ge_puj (by decide)]⟩
  refine zk_some ⟨⟨⟨R2, F2, by rw [e4]; exact Int.le_refl _, Or.inr (by rw [e4]), by rw [e5], fun _ => by rw [e6]; exact hp⟩, n, fun q => absurd (by rw [← e]; omega) q⟩, ?_, by rw [e6]; exact hp, fun _ => ⟨e6, e7⟩⟩
  unfold at7
  rw [e4]
theorem x_sign (p1 : Int32) (R : RI S) (hp : 0 ≤ p1.toInt) : zk (F_X7_sign p1 S) (fun _ T => XS S T ∧ ((ge S 40 0 6).toInt = 0 → (bt S (sk (bt S) (at7 S)) = p1.toInt ∧ (ge T 40 0 6).toInt = 0 ∧ at7 T = sk (bt S) (at7 S) + 1) ∨ (¬ bt S (sk (bt S) (at7 S)) = p1.toInt ∧ ge T 40 0 6 = 1 ∧ (ge T 40 0 7).toInt = (sk (bt S) (at7 S) : Int)))) := by
  have l1 : (1 : Int32).toInt = 1 := by decide
  unfold F_X7_sign
  refine zk_bd (x_blanks R) (fun _ S1 h => ?_)
  obtain ⟨u, ua, uf⟩ := h
  have R1 := u.1.1
  have hb : bt S1 = bt S := u.tx
  have ha := at7_eq R1
  have hl := at7_le R1
  have gs := R1.sz
  refine zk_iv fun x e => ?_
  subst e
  refine zk_bd (e_byteAt _ R1 (p := at7 S1) (by omega) hl) (fun v U h => ?_)
  obtain ⟨rfl, hv⟩ := h
  rw [hb, ua] at hv
  refine zk_eq (fun c => ?_) (fun c => ?_)
  · have hlt := bt_lt R1 (p := at7 S1) (by rw [hb, ua]; omega)
    refine zk_iv fun x e => ?_
    subst e
    refine zk_iv fun y e => ?_
    have gy : y.toInt = ((at7 S1 + 1 : Nat) : Int) := by rw [e, ti_add (by omega) (by omega), l1]; omega
    refine zk_sv fun V E => ?_
    have w : MV S1 V (at7 S1 + 1) := by rw [E]; exact MV.up R1 gy (by omega)
    have wx := w.xs R1 (by omega) (Or.inl (by omega))
    refine zk_some ⟨u.tr wx, fun q => Or.inl ⟨by omega, by rw [w.2.1.1 40 0 6 rfl, uf]; exact q, by rw [w.2.2, ua]⟩⟩
  · refine zk_iv fun x e => ?_
    refine zk_bd (x_wrong 1 x R1 (by decide)) (fun _ V h => ?_)
    obtain ⟨w, wa, wf, wz⟩ := h
    refine zk_some ⟨u.tr w, fun q => Or.inr ⟨by omega, (wz (by rw [uf]; exact q)).1, ?_⟩⟩
    rw [(wz (by rw [uf]; exact q)).2, e]
    omega
end REF
