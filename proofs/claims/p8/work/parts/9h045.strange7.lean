/-! whether a try could have come so: the reference; the first that could not -/
def Wcb (a i j : Nat) : Bool := Wt7 a i j || W42 a i j
theorem Wt7_cb : ∀ a i j : Nat, Wcb a i j = false → Wt7 a i j = false := fun a i j h => (Bool.or_eq_false_iff.1 h).1
theorem W42_cb : ∀ a i j : Nat, Wcb a i j = false → W42 a i j = false := fun a i j h => (Bool.or_eq_false_iff.1 h).2
/-- the least one below m of which P does not hold -/
def FNO (P : Nat → Prop) (m : Nat) (v : Int32) : Prop := (v = -1 ∧ ∀ k : Nat, k < m → P k) ∨ ∃ k : Nat, k < m ∧ v.toInt = (k : Int) ∧ ¬ P k ∧ ∀ k' : Nat, k' < k → P k'
theorem FNO.un {P : Nat → Prop} {m : Nat} {v u : Int32} (h : FNO P m v) (h' : FNO P m u) : v = u := by
  rcases h with ⟨a, b⟩ | ⟨c, c1, c2, c3, c4⟩ <;> rcases h' with ⟨a', b'⟩ | ⟨d, d1, d2, d3, d4⟩
  · rw [a, a']
  · exact absurd (b d d1) d3
  · exact absurd (b' c c1) c3
  · refine of_toInt ?_
    by_cases z : c < d
    · exact absurd (d4 c z) c3
    · by_cases z2 : d < c
      · exact absurd (c4 d z2) d3
      · omega
theorem FNO.m1 {P : Nat → Prop} {m : Nat} {v : Int32} (h : FNO P m v) : v = -1 ↔ ∀ k : Nat, k < m → P k := by
  have lm1 : (-1 : Int32).toInt = -1 := by decide
  rcases h with ⟨a, b⟩ | ⟨c, c1, c2, c3, c4⟩
  · exact ⟨fun _ => b, fun _ => a⟩
  · exact ⟨fun q => by rw [q, lm1] at c2; omega, fun q => absurd (q c c1) c3⟩
section ST7
variable {S T U : fS} {k : Nat} {p : Int32} {x : Option Nat} {o : Int}
theorem q_couldBe (RS : RI S) (hR : RKq S k) (hp : -1 ≤ p.toInt ∧ p.toInt ≤ 5) (hX : ∀ env : Nat → Int32, ∃ g : G3, TPq S p.toInt env g) : pk (F_X7_couldBe p k S) (fun v T => FX Wcb S T ∧ ((v = 0 ∧ ¬ CBq S p.toInt k) ∨ (¬ v = 0 ∧ CBq S p.toInt k))) := by
  have l0 : (0 : Int32).toInt = 0 := by decide
  have l4 : (4 : Int32).toInt = 4 := by decide
  have l5 : (5 : Int32).toInt = 5 := by decide
  have n0 : (0 : Int32).toNatClampNeg = 0 := by decide
  have n1 : (1 : Int32).toNatClampNeg = 1 := by decide
  have n2 : (2 : Int32).toNatClampNeg = 2 := by decide
  have n10 : (10 : Int32).toNatClampNeg = 10 := by decide
  have n11 : (11 : Int32).toNatClampNeg = 11 := by decide
  have n12 : (12 : Int32).toNatClampNeg = 12 := by decide
  have lb := loK_bd (S := S) (o := p.toInt) (k := k)
  unfold F_X7_couldBe
  rw [n1]
  refine pq_iv fun x30 e30 => ?_
  refine pq_bb (fun c => pq_some ⟨FX.rf, Or.inr ⟨by decide, Or.inl (Or.inl (e30.symm.trans c))⟩⟩) (fun c30 => ?_)
  refine pq_iv fun x32 e32 => ?_
  refine pq_bb (fun c => pq_some ⟨FX.rf, Or.inr ⟨by decide, Or.inl (Or.inr (e32.symm.trans c))⟩⟩) (fun c32 => ?_)
  have z : ¬ (ge S 57 k 1 = 0 ∨ ge S 57 k 1 = 4) := fun q => q.elim (fun q => c30 (e30.trans q)) (fun q => c32 (e32.trans q))
  have hr : (ge S 57 k 0).toInt = (rcN S k 0 : Int) ∧ (ge S 57 k 12).toInt = (rcN S k 12 : Int) ∧ (ge S 57 k 11).toInt = (rcN S k 11 : Int) ∧ rcN S k 0 < 64 ∧ rcN S k 12 < 64 ∧ rcN S k 0 ≠ rcN S k 12 ∧ rcN S k 11 ≤ 9 := by
    rcases hR with q | q
    · exact absurd q.1 z
    · exact q.2
  obtain ⟨r0, r12, r11, b0, b12, bn, b11⟩ := hr
  -- a telling at any lot, the names being the row's
  have tell : ∀ (V : fS) (lot : Nat), RI V → FX Wcb S V → (∀ i : Nat, i < 5 → ge V 45 0 i = ge S 57 k (4 + i)) → pk (F_X7_tellsBy p (Int32.ofNat lot) V) (fun _ X => RI X ∧ FX Wcb S X ∧ (∀ i : Nat, i < 5 → ge X 45 0 i = ge S 57 k (4 + i)) ∧ tg X = clm (tlK S p.toInt k lot)) := by
    intro V lot RV FV eV
    refine pq_imp (pq_and (s_F_X7_tellsBy p (Int32.ofNat lot) V RV hp).pk (q_tellsq (g := tlK S p.toInt k lot) RV ?_)) (fun _ X q => ?_)
    · refine TPq.fx ?_ FV (fun t => rfl) (fun t k => rfl)
      refine (tlK_ok (hX _)).cg (fun i hi => ?_)
      unfold envK envN
      by_cases d : i = 5
      · rw [if_neg (by omega), if_pos d]
      · rw [if_pos (by omega), if_neg d, eV i (by omega)]
    · obtain ⟨⟨RX, _⟩, FX1, e1, _, t1⟩ := q
      exact ⟨RX, FV.tr (FX1.sub Wt7_cb), fun i hi => (e1 i (by omega)).trans (eV i hi), t1⟩
  have rest : ∀ V : fS, RI V → FX Wcb S V → (∀ i : Nat, i < 5 → ge V 45 0 i = ge S 57 k (4 + i)) → pk (bd (F_X7_lotsBy p V) (fun v21 S22 => lp (B_X7_couldBe_48 k) fuel (p, v21, 0) S22)) (fun v T => FX Wcb S T ∧ ((v = 0 ∧ ¬ CBq S p.toInt k) ∨ (¬ v = 0 ∧ CBq S p.toInt k))) := by
    intro V RV FV eV
    unfold F_X7_lotsBy
    refine pq_bd (pq_bd (Q := fun v X => RI X ∧ FX Wcb S X ∧ (∀ i : Nat, i < 5 → ge X 45 0 i = ge S 57 k (4 + i)) ∧ v.toInt = (loK S p.toInt k : Int)) (tell V 0 RV FV eV) (fun _ X q => ?_)) (fun v21 S22 q => ?_)
    · obtain ⟨q1, q2, q3, q4⟩ := q
      refine pq_iv fun x4 e4 => pq_some ⟨q1, q2, q3, ?_⟩
      rw [e4, ← lb.2.2]
      exact congrArg (fun z => z.2.2.toInt) q4
    obtain ⟨R22, G22, e22, g21⟩ := q
    refine pq_lp (fun (z : Int32 × Int32 × Int32) V => z.1 = p ∧ z.2.1 = v21 ∧ RI V ∧ FX Wcb S V ∧ (∀ i : Nat, i < 5 → ge V 45 0 i = ge S 57 k (4 + i)) ∧ ∃ i : Nat, z.2.2.toInt = (i : Int) ∧ i ≤ loK S p.toInt k ∧ ∀ lot : Nat, lot < i → ¬ JKq S p.toInt k lot) (fun _ _ (v : Int32) T => FX Wcb S T ∧ ((v = 0 ∧ ¬ CBq S p.toInt k) ∨ (¬ v = 0 ∧ CBq S p.toInt k))) ?_ fuel (p, v21, 0) S22 ⟨rfl, rfl, R22, G22, e22, 0, l0, Nat.zero_le _, fun lot h => absurd h (Nat.not_lt_zero _)⟩
    intro kk hk zz V hz
    obtain ⟨d1, d3, d4⟩ := zz
    obtain ⟨f1, f2, RV, FV, eV, i, i1, i2, i3⟩ := hz
    dsimp only at f1 f2 i1
    subst f1
    subst f2
    unfold B_X7_couldBe_48
    dsimp only
    rw [n0, n1, n2, n10, n11, n12]
    refine pq_le (fun c0 => pq_some ⟨FV, Or.inl ⟨rfl, ?_⟩⟩) (fun c0 => ?_)
    · rintro (q | ⟨lot, hl, q⟩)
      · exact z q
      · exact i3 lot (by omega) q
    · rw [oNi i1 (by omega)]
      have gi : (Int32.ofNat i).toInt = (i : Int) := by rw [← oNi i1 (by omega)]; exact i1
      refine pq_bd (tell V i RV FV eV) (fun _ S4 q => ?_)
      obtain ⟨R4, G4, e4, t4⟩ := q
      refine pq_iv fun x6 e6 => pq_iv fun x7 e7 => pq_iv fun x8 e8 => pq_iv fun x9 e9 => pq_iv fun x10 e10 => pq_iv fun x11 e11 => ?_
      rw [G4.1 57 k 10 rfl] at e6
      rw [G4.1 57 k 11 rfl] at e7
      rw [G4.1 57 k 0 rfl] at e8
      rw [G4.1 57 k 12 rfl] at e9
      have g10 : x10 = (clm (tlK S d1.toInt k i)).1 := by rw [e10]; exact congrArg Prod.fst t4
      have g11 : x11 = (clm (tlK S d1.toInt k i)).2.1 := by rw [e11]; exact congrArg (fun z => z.2.1) t4
      rw [e6, g10, g11]
      have jj := pq_and (s_F_X7_judged (ge S 57 k 10) x7 x8 x9 (clm (tlK S d1.toInt k i)).1 (clm (tlK S d1.toInt k i)).2.1 S4 R4).pk (q_judged (S := S4) (W := ge S 57 k 10) (u := x7) (x := x8) (y := x9) (by rw [e8]; exact r0) (by rw [e9]; exact r12) (by rw [e7]; exact r11) b0 b12 bn b11 (stq_FS _ _ _ _))
      refine pq_bd jj (fun v12 S13 q => ?_)
      obtain ⟨⟨R13, _⟩, F13, q1, q2⟩ := q
      have G13 : FX Wcb S S13 := G4.tr (F13.sub W42_cb)
      have e13 : ∀ i : Nat, i < 5 → ge S13 45 0 i = ge S 57 k (4 + i) := fun i hi => by rw [F13.1 45 0 i rfl]; exact e4 i hi
      have q2 : (ge S13 40 0 42).toInt = jdl (rcN S k 0) (rcN S k 12) (rcN S k 11) (ge S 57 k 10) (clm (tlK S d1.toInt k i)).1 (clm (tlK S d1.toInt k i)).2.1 := by
        rw [q2, q1]
        rfl
      have nx : ¬ JKq S d1.toInt k i → pk (B_X7_couldBe_106 k kk d1 d3 (Int32.ofNat i) S13) (fun v T => FX Wcb S T ∧ ((v = 0 ∧ ¬ CBq S d1.toInt k) ∨ (¬ v = 0 ∧ CBq S d1.toInt k))) := by
        intro hn
        unfold B_X7_couldBe_106
        refine pq_iv fun x1 e1 => ?_
        have g1 : x1.toInt = (i : Int) + 1 := by rw [e1, ti_inc (by omega), gi]
        refine hk (d1, d3, x1) S13 ⟨rfl, rfl, R13, G13, e13, i + 1, by dsimp only; omega, by omega, fun lot hl => ?_⟩
        by_cases d : lot = i
        · rw [d]; exact hn
        · exact i3 lot (by omega)
      refine pq_iv fun x15 e15 => ?_
      rw [G13.1 57 k 1 rfl] at e15
      refine pq_bb (fun c1 => ?_) (fun c1 => nx (fun q => c1 (by rw [q1, e15]; exact q.1)))
      refine pq_iv fun x17 e17 => pq_iv fun x18 e18 => ?_
      rw [G13.1 57 k 2 rfl] at e18
      refine pq_eq (fun c2 => pq_some ⟨G13, Or.inr ⟨by decide, Or.inr ⟨i, by omega, by rw [e15] at c1; exact q1.symm.trans c1, by rw [← q2, ← e17, c2, e18]⟩⟩⟩) (fun c2 => nx (fun q => c2 (by rw [e17, q2, e18]; exact q.2)))
  refine pq_lp (fun (z : Int32 × Int32) V => z.1 = p ∧ RI V ∧ FX Wcb S V ∧ ∃ i : Nat, z.2.toInt = (i : Int) ∧ i ≤ 5 ∧ ∀ l : Nat, l < i → ge V 45 0 l = ge S 57 k (4 + l)) (fun _ _ (v : Int32) T => FX Wcb S T ∧ ((v = 0 ∧ ¬ CBq S p.toInt k) ∨ (¬ v = 0 ∧ CBq S p.toInt k))) ?_ fuel (p, 0) S ⟨rfl, RS, FX.rf, 0, l0, Nat.zero_le _, fun l h => absurd h (Nat.not_lt_zero _)⟩
  intro kk hk zz V hz
  obtain ⟨d1, d3⟩ := zz
  obtain ⟨f1, RV, FV, i, i1, i2, i3⟩ := hz
  dsimp only at f1 i1
  subst f1
  unfold B_X7_couldBe_17
  dsimp only
  refine pq_le (fun c0 => rest V RV FV (fun l hl => i3 l (by omega))) (fun c0 => ?_)
  refine pq_iv fun x24 e24 => ?_
  have g24 : x24.toInt = ((4 + i : Nat) : Int) := by rw [e24, ti_add (by omega) (by omega), l4]; omega
  rw [cnNq g24, cnNq i1]
  refine pq_gd fun _ => ?_
  refine pq_iv fun x26 e26 => ?_
  rw [FV.1 57 k _ rfl] at e26
  refine pq_gd fun _ => ?_
  refine pq_sv fun S28 E28 => ?_
  refine pq_iv fun x29 e29 => ?_
  have g29 : x29.toInt = d3.toInt + 1 := by rw [e29]; exact ti_inc (by omega)
  refine hk (d1, x29) S28 ⟨rfl, by rw [E28]; exact RV.wf rfl, by rw [E28]; exact FV.wr rfl, i + 1, by dsimp only; omega, by omega, fun l hl => ?_⟩
  rw [E28]
  by_cases d : l = i
  · rw [d, ge_pus, e26]
  · rw [ge_puj d]; exact i3 l (by omega)
/-- all that the record is read for stays -/
theorem CBq_fx {V : Nat → Nat → Nat → Bool} (F : FX V S T) (h1 : ∀ t : Nat, V 44 0 t = false) (h2 : ∀ t j : Nat, V 43 t j = false) (h3 : ∀ j : Nat, V 57 k j = false) : CBq T o k = CBq S o k := by
  have er : ∀ j : Nat, ge T 57 k j = ge S 57 k j := fun j => F.1 57 k j (h3 j)
  have en : ∀ j : Nat, rcN T k j = rcN S k j := fun j => by unfold rcN; rw [er]
  have eE : envK T k = envK S k := funext fun lot => funext fun i => by unfold envK; rw [er]
  have eP : ∀ env g, TPq T o env g = TPq S o env g := fun env g => by
    unfold TPq
    have : ∀ t : Nat, btx T t = btx S t := fun t => btx.fx F (h1 t) (h2 t)
    simp only [this]
  have et : tlK T o k = tlK S o k := funext fun lot => by
    unfold tlK
    rw [eE]
    congr 1
    funext g
    rw [eP]
  unfold CBq loK JKq
  rw [er 1, er 2, er 10, en 0, en 12, en 11, et]
theorem RKq_fx {V : Nat → Nat → Nat → Bool} (h : RKq S k) (F : FX V S T) (h3 : ∀ j : Nat, V 57 k j = false) : RKq T k := by
  have er : ∀ j : Nat, ge T 57 k j = ge S 57 k j := fun j => F.1 57 k j (h3 j)
  have en : ∀ j : Nat, rcN T k j = rcN S k j := fun j => by unfold rcN; rw [er]
  unfold RKq
  rw [er 1, er 2, er 0, er 12, er 11, en 0, en 12, en 11]
  exact h
/-- the reference: the first that could not -/
theorem q_strangeBy {m : Nat} (RS : RI S) (hm : (ge S 40 0 46).toInt = (m : Int)) (hR : ∀ k : Nat, k < m → RKq S k) (hp : -1 ≤ p.toInt ∧ p.toInt ≤ 5) (hX : ∀ env : Nat → Int32, ∃ g : G3, TPq S p.toInt env g) : pk (F_X7_strangeBy p S) (fun v T => RI T ∧ FX Wcb S T ∧ FNO (CBq S p.toInt) m v) := by
  have l0 : (0 : Int32).toInt = 0 := by decide
  have m200 : m ≤ 200 := by have := (RS 40 0 46).2; have e : (rg 40 46).2 = 200 := rfl; omega
  unfold F_X7_strangeBy
  refine pq_lp (fun (z : Int32 × Int32) V => z.1 = p ∧ RI V ∧ FX Wcb S V ∧ ∃ i : Nat, z.2.toInt = (i : Int) ∧ i ≤ m ∧ ∀ k : Nat, k < i → CBq S p.toInt k) (fun _ _ (v : Int32) T => RI T ∧ FX Wcb S T ∧ FNO (CBq S p.toInt) m v) ?_ fuel (p, 0) S ⟨rfl, RS, FX.rf, 0, l0, Nat.zero_le _, fun k h => absurd h (Nat.not_lt_zero _)⟩
  intro kk hk zz V hz
  obtain ⟨d1, d2⟩ := zz
  obtain ⟨f1, RV, FV, i, i1, i2, i3⟩ := hz
  dsimp only at f1 i1
  subst f1
  unfold B_X7_strangeBy_2
  dsimp only
  refine pq_iv fun x1 e1 => ?_
  rw [FV.1 40 0 46 rfl] at e1
  have gm1 : x1.toInt = (m : Int) := by rw [e1]; exact hm
  refine pq_le (fun c0 => pq_some ⟨RV, FV, Or.inl ⟨rfl, fun k hk => i3 k (by omega)⟩⟩) (fun c0 => ?_)
  rw [cnNq i1]
  refine pq_gd fun _ => ?_
  refine pq_bd (pq_and (s_F_X7_couldBe d1 i V RV hp).pk (q_couldBe RV (RKq_fx (hR i (by omega)) FV (fun _ => rfl)) hp (fun env => by obtain ⟨g, h⟩ := hX env; exact ⟨g, h.fx FV (fun _ => rfl) (fun _ _ => rfl)⟩))) (fun v4 S5 q => ?_)
  obtain ⟨⟨R5, _⟩, F5, q4⟩ := q
  rw [CBq_fx FV (fun _ => rfl) (fun _ _ => rfl) (fun _ => rfl)] at q4
  refine pq_bb (fun c => pq_some ⟨R5, FV.tr F5, Or.inr ⟨i, by omega, i1, q4.elim (fun q => q.2) (fun q => absurd c q.1), i3⟩⟩) (fun c => ?_)
  refine pq_iv fun x8 e8 => ?_
  have g8 : x8.toInt = d2.toInt + 1 := by rw [e8]; exact ti_inc (by omega)
  refine hk (d1, x8) S5 ⟨rfl, R5, FV.tr F5, i + 1, by dsimp only; omega, by omega, fun k hk => ?_⟩
  by_cases d : k = i
  · rw [d]
    exact q4.elim (fun q => absurd q.1 c) (fun q => q.2)
  · exact i3 k (by omega)
/-- box b's record is the reference's -/
def RCq (S : fS) (b : Nat) : Prop := ∃ m : Nat, m ≤ 200 ∧ (ge S 1 b 12).toInt = (m : Int) ∧ (ge S 40 0 46).toInt = (m : Int) ∧ ∀ k : Nat, k < m → ∃ t : Nat, gr S 11 b k = some t ∧ TRq S t k ∧ 1 ≤ t ∧ t < nT S
theorem y_recordAt {b t : Nat} (hp : p.toInt = (k : Int)) (hk : k < 200) (hg : gr S 11 b k = some t) : pk (F_X0_recordAt b p S) (fun v T => S = T ∧ v = t) := by
  have l0 : (0 : Int32).toInt = 0 := by decide
  have l200 : (200 : Int32).toInt = 200 := by decide
  unfold F_X0_recordAt
  refine pq_lt (fun c => absurd c (by omega)) (fun _ => ?_)
  refine pq_le (fun c => absurd c (by omega)) (fun _ => ?_)
  rw [cnNq hp]
  refine pq_gd fun _ => pq_qv fun o e => ?_
  rw [e, hg]
  unfold B_X0_recordAt_21
  exact pq_oc (fun e => nomatch e) (fun t1 e1 => pq_gd fun _ => pq_some ⟨rfl, (Option.some.inj e1).symm⟩)
/-- the class: the first that could not -/
theorem y_firstStrange {m : Nat} (hm : (ge S 1 0 12).toInt = (m : Int)) (m200 : m ≤ 200) (hR : ∀ k : Nat, k < m → ∃ t : Nat, gr S 11 0 k = some t ∧ TRq S t k) (hC : COq S o x) : pk (F_X6_firstStrange x S) (fun v T => FX Wmq S T ∧ FNO (CBq S o) m v) := by
  have l0 : (0 : Int32).toInt = 0 := by decide
  unfold F_X6_firstStrange
  refine pq_lp (fun (z : Int32) V => FX Wmq S V ∧ ∃ i : Nat, z.toInt = (i : Int) ∧ i ≤ m ∧ ∀ k : Nat, k < i → CBq S o k) (fun _ _ (v : Int32) T => FX Wmq S T ∧ FNO (CBq S o) m v) ?_ fuel 0 S ⟨FX.rf, 0, l0, Nat.zero_le _, fun k h => absurd h (Nat.not_lt_zero _)⟩
  intro kk hk z V hz
  obtain ⟨FV, i, i1, i2, i3⟩ := hz
  unfold B_X6_firstStrange_2
  refine pq_iv fun x1 e1 => ?_
  rw [FV.1 1 0 12 rfl] at e1
  have gm1 : x1.toInt = (m : Int) := by rw [e1]; exact hm
  refine pq_le (fun c0 => pq_some ⟨FV, Or.inl ⟨rfl, fun k hk => i3 k (by omega)⟩⟩) (fun c0 => ?_)
  obtain ⟨t, ht, hT⟩ := hR i (by omega)
  refine pq_bd (y_recordAt i1 (by omega) (by rw [gr_fx FV]; exact ht)) (fun v3 U q => ?_)
  obtain ⟨rfl, q3⟩ := q
  refine pq_gd fun _ => ?_
  rw [q3]
  have cV : COq V o x := by
    rcases hC with q | ⟨t', c, a1, a2, a3, a4⟩
    · exact Or.inl q
    · exact Or.inr ⟨t', c, a1, a2, a3, a4.fx FV rfl (fun _ => rfl) (fun _ => rfl)⟩
  refine pq_bd (y_couldCome cV (hT.fx FV (fun _ => rfl) (fun _ => rfl))) (fun v7 S8 q => ?_)
  obtain ⟨F8, q7⟩ := q
  rw [CBq_fx FV (fun _ => rfl) (fun _ _ => rfl) (fun _ => rfl)] at q7
  refine pq_bb (fun c => pq_some ⟨FV.tr F8, Or.inr ⟨i, by omega, i1, q7.elim (fun q => q.2) (fun q => absurd c q.1), i3⟩⟩) (fun c => ?_)
  refine pq_iv fun x11 e11 => ?_
  have g11 : x11.toInt = z.toInt + 1 := by rw [e11]; exact ti_inc (by omega)
  refine hk x11 S8 ⟨FV.tr F8, i + 1, by omega, by omega, fun k hk => ?_⟩
  by_cases d : k = i
  · rw [d]
    exact q7.elim (fun q => absurd q.1 c) (fun q => q.2)
  · exact i3 k (by omega)
end ST7
