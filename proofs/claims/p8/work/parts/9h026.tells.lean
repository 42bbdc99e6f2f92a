/-! what is told: the reference -/
def btx (S : fS) (t k : Nat) : Int := if (k : Int) < (ge S 44 0 t).toInt then (ge S 43 t k).toInt else -1
def envN (S : fS) (lot : Int32) (i : Nat) : Int32 := if i = 5 then lot else ge S 45 0 i
def clm (g : G3) : G3 := (cwq g.1 0 999, cwq g.2.1 0 999, cwq g.2.2 1 36)
def W45 (a _ _ : Nat) : Bool := Nat.beq a 45
def Wt7 (a i j : Nat) : Bool := W8 a i j || (Nat.beq a 45 || (Nat.beq a 40 && (Nat.beq j 2 || (Nat.beq j 8 || Nat.beq j 16))))
section QTL
variable {S T U : fS} {lot : Int32}
theorem btx.fx {W : Nat → Nat → Nat → Bool} {t : Nat} (F : FX W S T) (h1 : W 44 0 t = false) (h2 : ∀ k : Nat, W 43 t k = false) : btx T t = btx S t := by
  funext k
  unfold btx
  rw [F.1 44 0 t h1, F.1 43 t k (h2 k)]
theorem W8_t : ∀ a i j : Nat, Wt7 a i j = false → W8 a i j = false := fun a i j h => (Bool.or_eq_false_iff.1 h).1
theorem q_within (p0 p1 p2 : Int32) : pk (F_X7_within p0 p1 p2 S) (fun v T => S = T ∧ v = cwq p0 p1 p2) := by
  unfold F_X7_within cwq
  refine pq_le (fun c => ?_) (fun c => ?_)
  · rw [if_neg (fun q => by have := lt_toInt q; omega)]
    refine pq_le (fun c2 => pq_some ⟨rfl, ?_⟩) (fun c2 => pq_some ⟨rfl, ?_⟩)
    · rw [if_neg (fun q => by have := lt_toInt q; omega)]
    · rw [if_pos (Int32.lt_iff_toInt_lt.2 c2)]
  · rw [if_pos (Int32.lt_iff_toInt_lt.2 c)]
    exact pq_some ⟨rfl, rfl⟩
theorem q_namesOf (n : Int32) : pk (F_X7_namesOf n S) (fun _ T => FX W45 S T ∧ ge T 45 0 0 = ge S 40 0 35 + n ∧ ge T 45 0 1 = ge S 40 0 36 + n ∧ ge T 45 0 2 = ge S 40 0 37 + n * ge S 40 0 32 ∧ ge T 45 0 3 = ge S 40 0 38 ∧ ge T 45 0 4 = ge S 40 0 33 ∧ ge T 45 0 5 = 0 ∧ ge T 45 0 6 = 0) := by
  have c0 : (0 : Int32).toNatClampNeg = 0 := by decide
  have c1 : (1 : Int32).toNatClampNeg = 1 := by decide
  have c2 : (2 : Int32).toNatClampNeg = 2 := by decide
  have c3 : (3 : Int32).toNatClampNeg = 3 := by decide
  have c4 : (4 : Int32).toNatClampNeg = 4 := by decide
  have c5 : (5 : Int32).toNatClampNeg = 5 := by decide
  have c6 : (6 : Int32).toNatClampNeg = 6 := by decide
  unfold F_X7_namesOf
  rw [c0, c1, c2, c3, c4, c5, c6]
  refine pq_iv fun x1 e1 => pq_iv fun x2 e2 => pq_sv fun S3 E3 => ?_
  refine pq_iv fun x4 e4 => pq_iv fun x5 e5 => pq_sv fun S6 E6 => ?_
  refine pq_iv fun x7 e7 => pq_iv fun x8 e8 => pq_iv fun x9 e9 => pq_iv fun x10 e10 => pq_sv fun S11 E11 => ?_
  refine pq_iv fun x12 e12 => pq_sv fun S13 E13 => ?_
  refine pq_iv fun x14 e14 => pq_sv fun S15 E15 => pq_sv fun S16 E16 => pq_sv fun S17 E17 => pq_some ?_
  have F3 : FX W45 S S3 := by rw [E3]; exact FX.rf.wr rfl
  have F6 : FX W45 S S6 := by rw [E6]; exact F3.wr rfl
  have F11 : FX W45 S S11 := by rw [E11]; exact F6.wr rfl
  have F13 : FX W45 S S13 := by rw [E13]; exact F11.wr rfl
  have F15 : FX W45 S S15 := by rw [E15]; exact F13.wr rfl
  have F16 : FX W45 S S16 := by rw [E16]; exact F15.wr rfl
  have F17 : FX W45 S S17 := by rw [E17]; exact F16.wr rfl
  rw [F3.1 40 0 36 rfl] at e4
  rw [F6.1 40 0 37 rfl] at e7
  rw [F6.1 40 0 32 rfl] at e8
  rw [F11.1 40 0 38 rfl] at e12
  rw [F13.1 40 0 33 rfl] at e14
  refine ⟨F17, ?_, ?_, ?_, ?_, ?_, ?_, ?_⟩
  · rw [E17, ge_puj (by decide), E16, ge_puj (by decide), E15, ge_puj (by decide), E13, ge_puj (by decide), E11, ge_puj (by decide), E6, ge_puj (by decide), E3, ge_pus, e2, e1]
  · rw [E17, ge_puj (by decide), E16, ge_puj (by decide), E15, ge_puj (by decide), E13, ge_puj (by decide), E11, ge_puj (by decide), E6, ge_pus, e5, e4]
  · rw [E17, ge_puj (by decide), E16, ge_puj (by decide), E15, ge_puj (by decide), E13, ge_puj (by decide), E11, ge_pus, e10, e9, e8, e7]
  · rw [E17, ge_puj (by decide), E16, ge_puj (by decide), E15, ge_puj (by decide), E13, ge_pus, e12]
  · rw [E17, ge_puj (by decide), E16, ge_puj (by decide), E15, ge_pus, e14]
  · rw [E17, ge_puj (by decide), E16, ge_pus]
  · rw [E17, ge_pus]
theorem q_reads {p : Int32} {t : Nat} (hp : p.toInt = (t : Int)) : pk (F_X7_reads p S) (fun _ T => FX Wt7 S T ∧ (∀ i : Nat, ge T 45 0 i = ge S 45 0 i) ∧ ge T 40 0 8 = p ∧ ge T 40 0 2 = ge S 44 0 t ∧ ge T 40 0 16 = (if t ≤ 5 then 0 else 1)) := by
  have l5 : (5 : Int32).toInt = 5 := by decide
  have hr : p.toNatClampNeg = t := by have := cn_eq (x := p) (by omega); omega
  unfold F_X7_reads
  refine pq_sv fun S3 E3 => ?_
  refine pq_gd fun _ => ?_
  refine pq_iv fun x5 e5 => ?_
  rw [hr, E3, ge_pua (by decide)] at e5
  refine pq_sv fun S6 E6 => ?_
  have F3 : FX Wt7 S S3 := by rw [E3]; exact FX.rf.wr rfl
  have F6 : FX Wt7 S S6 := by rw [E6]; exact F3.wr rfl
  have J : ∀ v : Int32, v = (if t ≤ 5 then 0 else 1) → pk (B_X7_reads_26 v S6) (fun _ T => FX Wt7 S T ∧ (∀ i : Nat, ge T 45 0 i = ge S 45 0 i) ∧ ge T 40 0 8 = p ∧ ge T 40 0 2 = ge S 44 0 t ∧ ge T 40 0 16 = (if t ≤ 5 then 0 else 1)) := by
    intro v hv
    unfold B_X7_reads_26
    refine pq_gd fun _ => ?_
    refine pq_sv fun S2 E2 => pq_some ⟨by rw [E2]; exact F6.wr rfl, fun i => ?_, ?_, ?_, ?_⟩
    · rw [E2, ge_pua (by decide), E6, ge_pua (by decide), E3, ge_pua (by decide)]
    · rw [E2, ge_puj (by decide), E6, ge_puj (by decide), E3, ge_pus]
    · rw [E2, ge_puj (by decide), E6, ge_pus, e5]
    · rw [E2, ge_pus, hv]
  refine pq_le (fun c => J 0 (by rw [if_pos (by omega)])) (fun c => J 1 (by rw [if_neg (by omega)]))
theorem bt_btx {t : Nat} (R : RI S) (h8 : (ge S 40 0 8).toInt = (t : Int)) (h2 : ge S 40 0 2 = ge S 44 0 t) : bt S = btx S t := by
  have hr : (ge S 40 0 8).toNatClampNeg = t := by have := cn_eq (x := ge S 40 0 8) (by omega); omega
  have gs := R.sz
  rw [h2] at gs
  funext k
  unfold bt btx
  by_cases c : k ≤ 301
  · rw [if_pos c]
    unfold byv
    rw [h2, on_toInt c, hr, if_neg (c := (ge S 40 0 8).toInt = -1) (by omega)]
    have e : (Int32.ofNat k).toNatClampNeg = k := by have := cn_eq (x := Int32.ofNat k) (by rw [on_toInt c]; omega); rw [on_toInt c] at this; omega
    rw [e]
  · rw [if_neg c, if_neg (by omega)]
theorem q_36 : pk (B_X7_tellsBy_36 U) (fun _ T => FX W8 U T ∧ tg T = clm (tg U)) := by
  unfold B_X7_tellsBy_36
  refine pq_iv fun x1 e1 => ?_
  refine pq_bd (q_within x1 0 999) (fun v2 S3 q => ?_)
  obtain ⟨rfl, q2⟩ := q
  refine pq_sv fun S5 E5 => ?_
  refine pq_iv fun x6 e6 => ?_
  refine pq_bd (q_within x6 0 999) (fun v7 S8 q => ?_)
  obtain ⟨rfl, q7⟩ := q
  refine pq_sv fun S10 E10 => ?_
  refine pq_iv fun x11 e11 => ?_
  refine pq_bd (q_within x11 1 36) (fun v12 S13 q => ?_)
  obtain ⟨rfl, q12⟩ := q
  refine pq_sv fun S15 E15 => pq_some ?_
  have F5 : FX W8 U S5 := by rw [E5]; exact FX.rf.wr rfl
  have F10 : FX W8 U S10 := by rw [E10]; exact F5.wr rfl
  have F15 : FX W8 U S15 := by rw [E15]; exact F10.wr rfl
  refine ⟨F15, ?_⟩
  unfold tg clm
  rw [E15, ge_puj (by decide), ge_puj (by decide), ge_pus, E10, ge_puj (by decide), ge_pus, E5, ge_pus, q12, e11, E10, ge_puj (by decide), E5, ge_puj (by decide), q7, e6, E5, ge_puj (by decide), q2, e1]
/-- what a program tells: its text's meaning, within the bounds; none: nothing -/
theorem q_tellsBy {p : Int32} {g : G3} (RS : RI S) (hp : (p = -1 ∧ g = (0, 0, 0)) ∨ ∃ t : Nat, p.toInt = (t : Int) ∧ t ≤ 5 ∧ nW (btx S t) false (envN S lot) 302 0 0 (0, 0, 0) = .ok g) : pk (F_X7_tellsBy p lot S) (fun _ T => FX Wt7 S T ∧ (∀ i : Nat, i ≠ 5 → ge T 45 0 i = ge S 45 0 i) ∧ ge T 45 0 5 = lot ∧ tg T = clm g) := by
  have c5 : (5 : Int32).toNatClampNeg = 5 := by decide
  unfold F_X7_tellsBy
  rw [c5]
  refine pq_sv fun S16 E16 => pq_sv fun S17 E17 => pq_sv fun S18 E18 => pq_sv fun S19 E19 => ?_
  have F16 : FX Wt7 S S16 := by rw [E16]; exact FX.rf.wr rfl
  have F17 : FX Wt7 S S17 := by rw [E17]; exact F16.wr rfl
  have F18 : FX Wt7 S S18 := by rw [E18]; exact F17.wr rfl
  have F19 : FX Wt7 S S19 := by rw [E19]; exact F18.wr rfl
  have n5 : ge S19 45 0 5 = lot := by rw [E19, ge_pua (by decide), E18, ge_pua (by decide), E17, ge_pua (by decide), E16, ge_pus]
  have nn : ∀ i : Nat, i ≠ 5 → ge S19 45 0 i = ge S 45 0 i := fun i hi => by rw [E19, ge_pua (by decide), E18, ge_pua (by decide), E17, ge_pua (by decide), E16, ge_puj hi]
  have t19 : tg S19 = (0, 0, 0) := by
    unfold tg
    rw [E19, ge_puj (by decide), ge_puj (by decide), ge_pus, E18, ge_puj (by decide), ge_pus, E17, ge_pus]
  have R19 : RI S19 := by rw [E19, E18, E17, E16]; exact (((RS.wf rfl).wf rfl).wf rfl).wf rfl
  refine pq_bb (fun c => ?_) (fun c => ?_)
  · rcases hp with ⟨_, hg⟩ | ⟨t, ht, _⟩
    · refine pq_imp q_36 (fun _ T q => ⟨F19.tr (q.1.sub W8_t), fun i hi => by rw [q.1.1 45 0 i rfl]; exact nn i hi, by rw [q.1.1 45 0 5 rfl]; exact n5, by rw [q.2, t19, hg]⟩)
    · rw [c] at ht
      have : (-1 : Int32).toInt = -1 := by decide
      omega
  · rcases hp with ⟨e, _⟩ | ⟨t, ht, h5, hw⟩
    · exact absurd e c
    · refine pq_bd (pq_and (s_F_X7_reads p S19 R19 (by omega)).pk (q_reads ht)) (fun _ S22 q => ?_)
      obtain ⟨⟨R22, _⟩, F22, m22, h8, h2, h16⟩ := q
      rw [if_pos h5] at h16
      have b22 : bt S22 = btx S t := by
        rw [bt_btx R22 (by rw [h8]; exact ht) (by rw [h2, F22.1 44 0 t rfl]), btx.fx (F19.tr F22) rfl (fun _ => rfl)]
      have hN : NMq S22 (btx S t) false (envN S lot) := by
        refine ⟨b22, fun i _ => ?_, by rw [h16]; decide⟩
        unfold envN
        by_cases d : i = 5
        · rw [if_pos d, d, m22, n5]
        · rw [if_neg d, m22, nn i d]
      refine pq_bd (pq_and (q_walks R22 hN) (w_F_X7_walks (W := W8) rfl rfl rfl rfl rfl rfl rfl rfl FX.rf).go) (fun _ S25 q => ?_)
      obtain ⟨q1, F25⟩ := q
      rw [hw] at q1
      refine pq_imp q_36 (fun _ T q => ⟨((F19.tr F22).tr (F25.sub W8_t)).tr (q.1.sub W8_t), fun i hi => ?_, ?_, by rw [q.2, q1.2]⟩)
      · rw [q.1.1 45 0 i rfl, F25.1 45 0 i rfl, m22, nn i hi]
      · rw [q.1.1 45 0 5 rfl, F25.1 45 0 5 rfl, m22, n5]
end QTL
