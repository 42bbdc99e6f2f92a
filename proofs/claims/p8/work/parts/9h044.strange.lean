/-! whether a try could have come as it did, on both sides alike -/
def envK (S : fS) (k : Nat) (lot : Int32) (i : Nat) : Int32 := if i < 5 then ge S 57 k (4 + i) else lot
noncomputable def tlK (S : fS) (o : Int) (k lot : Nat) : G3 := Classical.epsilon (fun g => TPq S o (envK S k (Int32.ofNat lot)) g)
noncomputable def loK (S : fS) (o : Int) (k : Nat) : Nat := (clm (tlK S o k 0)).2.2.toNatClampNeg
noncomputable def jdo (c h up : Nat) (W g s : Int32) : Int32 := ocm (stq g s W (lst c h up)) (lst c h up) up
noncomputable def jdl (c h up : Nat) (W g s : Int32) : Int := if jdo c h up W g s = 3 then lg c h (stq g s W (lst c h up) - up) else -1
def rcN (S : fS) (k j : Nat) : Nat := (ge S 57 k j).toNatClampNeg
def JKq (S : fS) (o : Int) (k lot : Nat) : Prop := jdo (rcN S k 0) (rcN S k 12) (rcN S k 11) (ge S 57 k 10) (clm (tlK S o k lot)).1 (clm (tlK S o k lot)).2.1 = ge S 57 k 1 ∧ jdl (rcN S k 0) (rcN S k 12) (rcN S k 11) (ge S 57 k 10) (clm (tlK S o k lot)).1 (clm (tlK S o k lot)).2.1 = (ge S 57 k 2).toInt
def CBq (S : fS) (o : Int) (k : Nat) : Prop := (ge S 57 k 1 = 0 ∨ ge S 57 k 1 = 4) ∨ ∃ lot : Nat, lot < loK S o k ∧ JKq S o k lot
/-- a row of the record is well -/
def RKq (S : fS) (k : Nat) : Prop := ((ge S 57 k 1 = 0 ∨ ge S 57 k 1 = 4) ∧ ge S 57 k 2 = -1) ∨ (¬ (ge S 57 k 1 = 0 ∨ ge S 57 k 1 = 4) ∧ (ge S 57 k 0).toInt = (rcN S k 0 : Int) ∧ (ge S 57 k 12).toInt = (rcN S k 12 : Int) ∧ (ge S 57 k 11).toInt = (rcN S k 11 : Int) ∧ rcN S k 0 < 64 ∧ rcN S k 12 < 64 ∧ rcN S k 0 ≠ rcN S k 12 ∧ rcN S k 11 ≤ 9)
/-- the class's try t is the record's row k -/
def TRq (S : fS) (t k : Nat) : Prop := (∀ j : Nat, j < 10 → ge S 25 t j = ge S 57 k j) ∧ RKq S k ∧ (¬ (ge S 57 k 1 = 0 ∨ ge S 57 k 1 = 4) → TYq S t (rcN S k 0) (rcN S k 12) (rcN S k 11) (ge S 57 k 10))
section STR
variable {S T U : fS} {o : Int} {k t : Nat} {p : Int32} {x : Option Nat}
theorem loK_bd : 1 ≤ loK S o k ∧ loK S o k ≤ 36 ∧ (clm (tlK S o k 0)).2.2.toInt = (loK S o k : Int) := by
  have l1 : (1 : Int32).toInt = 1 := by decide
  have l36 : (36 : Int32).toInt = 36 := by decide
  have b : (1 : Int32).toInt ≤ (clm (tlK S o k 0)).2.2.toInt ∧ (clm (tlK S o k 0)).2.2.toInt ≤ (36 : Int32).toInt := cw_bd (v := (tlK S o k 0).2.2) (lo := 1) (hi := 36) (by decide)
  have e := cn_eq (x := (clm (tlK S o k 0)).2.2) (by omega)
  unfold loK
  omega
theorem tlK_un {lot : Nat} {g : G3} (h : TPq S o (envK S k (Int32.ofNat lot)) g) : g = tlK S o k lot := TPq.un h (Classical.epsilon_spec (p := fun g => TPq S o (envK S k (Int32.ofNat lot)) g) ⟨g, h⟩)
theorem tlK_ok {lot : Nat} (h : ∃ g : G3, TPq S o (envK S k (Int32.ofNat lot)) g) : TPq S o (envK S k (Int32.ofNat lot)) (tlK S o k lot) := Classical.epsilon_spec h
theorem y_out04 (h : ge S 25 t 1 = 0 ∨ ge S 25 t 1 = 4) : pk (F_X5_outcomeAt t p S) (fun v T => S = T ∧ v = ge S 25 t 1) := by
  unfold F_X5_outcomeAt
  refine pq_iv fun x2 e2 => ?_
  refine pq_bb (fun _ => ?_) (fun c => ?_)
  · unfold B_X5_outcomeAt_15
    exact pq_iv fun x1 e1 => pq_some ⟨rfl, e1⟩
  · refine pq_iv fun x4 e4 => ?_
    refine pq_bb (fun _ => ?_) (fun c4 => (h.elim (fun q => c (e2.trans q)) (fun q => c4 (e4.trans q))).elim)
    unfold B_X5_outcomeAt_15
    exact pq_iv fun x1 e1 => pq_some ⟨rfl, e1⟩
/-- the class: did it come so by this force -/
theorem y_cameBy {g s : Int32} (h : TRq S t k) : pk (F_X5_cameBy t g s S) (fun v U => S = U ∧ ((v = 0 ∧ ¬ ((ge S 57 k 1 = 0 ∨ ge S 57 k 1 = 4) ∨ (jdo (rcN S k 0) (rcN S k 12) (rcN S k 11) (ge S 57 k 10) g s = ge S 57 k 1 ∧ jdl (rcN S k 0) (rcN S k 12) (rcN S k 11) (ge S 57 k 10) g s = (ge S 57 k 2).toInt))) ∨ (¬ v = 0 ∧ ((ge S 57 k 1 = 0 ∨ ge S 57 k 1 = 4) ∨ (jdo (rcN S k 0) (rcN S k 12) (rcN S k 11) (ge S 57 k 10) g s = ge S 57 k 1 ∧ jdl (rcN S k 0) (rcN S k 12) (rcN S k 11) (ge S 57 k 10) g s = (ge S 57 k 2).toInt))))) := by
  have lm1 : (-1 : Int32).toInt = -1 := by decide
  obtain ⟨h1, h2, h3⟩ := h
  have e1 := h1 1 (by decide)
  have e2 := h1 2 (by decide)
  unfold F_X5_cameBy
  by_cases z : ge S 57 k 1 = 0 ∨ ge S 57 k 1 = 4
  · have l2 : ge S 57 k 2 = -1 := by
      rcases h2 with q | q
      · exact q.2
      · exact absurd z q.1
    have z' : ge S 25 t 1 = 0 ∨ ge S 25 t 1 = 4 := by rw [e1]; exact z
    refine pq_bd y_fs0 (fun v1 U q => ?_)
    obtain rfl := q
    refine pq_bd (y_out04 z') (fun v4 U q => ?_)
    obtain ⟨rfl, q4⟩ := q
    refine pq_iv fun x7 e7 => ?_
    refine pq_bb (fun _ => ?_) (fun c => absurd (q4.trans e7.symm) c)
    have lz : pk (F_X5_letGoAt t v1 S) (fun v U => S = U ∧ v = -1) := by
      unfold F_X5_letGoAt
      refine pq_bd (y_out04 z') (fun v U q => ?_)
      obtain ⟨rfl, q⟩ := q
      refine pq_bb (fun c => ?_) (fun _ => pq_some ⟨rfl, rfl⟩)
      rw [q] at c
      rcases z' with y | y <;> rw [y] at c <;> exact absurd c (by decide)
    refine pq_bd lz (fun v9 U q => ?_)
    obtain ⟨rfl, q9⟩ := q
    refine pq_iv fun x12 e12 => ?_
    refine pq_bb (fun _ => pq_some ⟨rfl, Or.inr ⟨by decide, Or.inl z⟩⟩) (fun c => absurd (by rw [q9, e12, e2, l2]) c)
  · have ty := h3 z
    refine pq_bd (y_failingStep ty) (fun v1 U q => ?_)
    obtain ⟨rfl, st, q1, q2⟩ := q
    have es : st = stq g s (ge S 57 k 10) (lst (rcN S k 0) (rcN S k 12) (rcN S k 11)) := q2.un (stq_FS _ _ _ _)
    have nz' : ¬ (ge S 25 t 1 = 0 ∨ ge S 25 t 1 = 4) := by rw [e1]; exact z
    have oA : oAt (ge S 25 t 1) st (lst (rcN S k 0) (rcN S k 12) (rcN S k 11)) (rcN S k 11) = jdo (rcN S k 0) (rcN S k 12) (rcN S k 11) (ge S 57 k 10) g s := by
      unfold oAt jdo
      rw [if_neg nz', es]
    refine pq_bd (y_outcomeAt ty q1) (fun v4 U q => ?_)
    obtain ⟨rfl, q4⟩ := q
    rw [oA] at q4
    refine pq_iv fun x7 e7 => ?_
    rw [e1] at e7
    refine pq_bb (fun c => ?_) (fun c => pq_some ⟨rfl, Or.inl ⟨rfl, fun q => q.elim z (fun q => c (by rw [q4, e7]; exact q.1))⟩⟩)
    have cc : jdo (rcN S k 0) (rcN S k 12) (rcN S k 11) (ge S 57 k 10) g s = ge S 57 k 1 := by rw [← q4, ← e7]; exact c
    refine pq_bd (y_letGoAt ty q1) (fun v9 U q => ?_)
    obtain ⟨rfl, q9⟩ := q
    have q9 : v9.toInt = jdl (rcN S k 0) (rcN S k 12) (rcN S k 11) (ge S 57 k 10) g s := by
      rw [q9]
      unfold lAt jdl
      rw [oA, es]
    refine pq_iv fun x12 e12 => ?_
    rw [e2] at e12
    refine pq_eq (fun c2 => pq_some ⟨rfl, Or.inr ⟨by decide, Or.inr ⟨cc, by rw [← q9, c2, e12]⟩⟩⟩) (fun c2 => pq_some ⟨rfl, Or.inl ⟨rfl, fun q => q.elim z (fun q => c2 (by rw [q9, e12]; exact q.2))⟩⟩)
theorem TRq.fx {V : Nat → Nat → Nat → Bool} (h : TRq S t k) (F : FX V S T) (h1 : ∀ j : Nat, V 25 t j = false) (h2 : ∀ j : Nat, V 57 k j = false) : TRq T t k := by
  obtain ⟨a1, a2, a3⟩ := h
  have e : ∀ j : Nat, ge T 57 k j = ge S 57 k j := fun j => F.1 57 k j (h2 j)
  have en : ∀ j : Nat, rcN T k j = rcN S k j := fun j => by unfold rcN; rw [e]
  refine ⟨fun j hj => by rw [F.1 25 t j (h1 j), e]; exact a1 j hj, ?_, ?_⟩
  · unfold RKq
    rw [e 1, e 2, e 0, e 12, e 11, en 0, en 12, en 11]
    exact a2
  · rw [e 1, en 0, en 12, en 11, e 10]
    exact fun q => (a3 q).fx F (h1 _) (h1 _) (h1 _) (h1 _) (h1 _) (h1 _)
/-- the class -/
theorem y_couldCome (hC : COq S o x) (h : TRq S t k) : pk (F_X6_couldCome x t S) (fun v T => FX Wmq S T ∧ ((v = 0 ∧ ¬ CBq S o k) ∨ (¬ v = 0 ∧ CBq S o k))) := by
  have l0 : (0 : Int32).toInt = 0 := by decide
  have lb := loK_bd (S := S) (o := o) (k := k)
  have run : ∀ (V : fS) (lot : Nat), FX Wmq S V → pk (F_X3_run x t (Int32.ofNat lot) V) (fun _ X => FX Wmq V X ∧ ∃ st : List Int32, MR X st (tlK S o k lot)) := by
    intro V lot FV
    have cV : COq V o x := by
      rcases hC with q | ⟨t', c, a1, a2, a3, a4⟩
      · exact Or.inl q
      · exact Or.inr ⟨t', c, a1, a2, a3, a4.fx FV rfl (fun _ => rfl) (fun _ => rfl)⟩
    refine pq_imp (y_runq cV (Int32.ofNat lot)) (fun _ X q => ?_)
    obtain ⟨FX1, st, g, m, tp⟩ := q
    refine ⟨FX1, st, ?_⟩
    have eE : ∀ i : Nat, i < 6 → envT V t (Int32.ofNat lot) i = envK S k (Int32.ofNat lot) i := by
      intro i hi
      have hi6 : i = 0 ∨ i = 1 ∨ i = 2 ∨ i = 3 ∨ i = 4 ∨ i = 5 := by omega
      rcases hi6 with rfl | rfl | rfl | rfl | rfl | rfl
      · show ge V 25 t 4 = ge S 57 k 4; rw [FV.1 25 t 4 rfl]; exact h.1 4 (by decide)
      · show ge V 25 t 5 = ge S 57 k 5; rw [FV.1 25 t 5 rfl]; exact h.1 5 (by decide)
      · show ge V 25 t 6 = ge S 57 k 6; rw [FV.1 25 t 6 rfl]; exact h.1 6 (by decide)
      · show ge V 25 t 7 = ge S 57 k 7; rw [FV.1 25 t 7 rfl]; exact h.1 7 (by decide)
      · show ge V 25 t 8 = ge S 57 k 8; rw [FV.1 25 t 8 rfl]; exact h.1 8 (by decide)
      · rfl
    have tp2 : TPq S o (envK S k (Int32.ofNat lot)) g := by
      have z := tp.cg eE
      rcases z with q | ⟨t', a, b, e⟩
      · exact Or.inl q
      · exact Or.inr ⟨t', a, b, by rw [← btx.fx FV rfl (fun _ => rfl)]; exact e⟩
    rw [← tlK_un tp2]
    exact m
  unfold F_X6_couldCome
  refine pq_bd (run S 0 FX.rf) (fun _ S17 q => ?_)
  obtain ⟨F17, st, m17⟩ := q
  refine pq_bd (y_lots m17) (fun v19 V q => ?_)
  obtain ⟨rfl, q19⟩ := q
  have g19 : v19.toInt = (loK S o k : Int) := by rw [q19]; exact lb.2.2
  refine pq_lp (fun (z : Int32 × Int32) V => z.1 = v19 ∧ FX Wmq S V ∧ ∃ i : Nat, z.2.toInt = (i : Int) ∧ i ≤ loK S o k ∧ ∀ lot : Nat, lot < i → ¬ ((ge S 57 k 1 = 0 ∨ ge S 57 k 1 = 4) ∨ JKq S o k lot)) (fun _ _ (v : Int32) T => FX Wmq S T ∧ ((v = 0 ∧ ¬ CBq S o k) ∨ (¬ v = 0 ∧ CBq S o k))) ?_ fuel (v19, 0) S17 ⟨rfl, F17, 0, l0, Nat.zero_le _, fun lot h => absurd h (Nat.not_lt_zero _)⟩
  intro kk hk z V hz
  obtain ⟨b1, b2⟩ := z
  obtain ⟨e1, FV, i, i1, i2, i3⟩ := hz
  dsimp only at e1 i1
  subst e1
  unfold B_X6_couldCome_21
  dsimp only
  refine pq_le (fun c0 => pq_some ⟨FV, Or.inl ⟨rfl, ?_⟩⟩) (fun c0 => ?_)
  · rintro (q | ⟨lot, hl, q⟩)
    · exact i3 0 (by omega) (Or.inl q)
    · exact i3 lot (by omega) (Or.inr q)
  · rw [oNi i1 (by omega)]
    refine pq_bd (run V i FV) (fun _ S3 q => ?_)
    obtain ⟨F3, st3, m3⟩ := q
    refine pq_bd (y_grip m3) (fun v5 X q => ?_)
    obtain ⟨rfl, q5⟩ := q
    refine pq_bd (y_slip m3) (fun v8 X q => ?_)
    obtain ⟨rfl, q8⟩ := q
    have G3' : FX Wmq S S3 := FV.tr F3
    have h3 : TRq S3 t k := h.fx G3' (fun _ => rfl) (fun _ => rfl)
    refine pq_bd (y_cameBy h3 (g := v5) (s := v8)) (fun v11 X q => ?_)
    obtain ⟨rfl, q11⟩ := q
    have er : ∀ j : Nat, ge S3 57 k j = ge S 57 k j := fun j => G3'.1 57 k j rfl
    have en : ∀ j : Nat, rcN S3 k j = rcN S k j := fun j => by unfold rcN; rw [er]
    rw [er 1, er 2, er 10, en 0, en 12, en 11] at q11
    have e5 : v5 = (clm (tlK S o k i)).1 := q5
    have e8 : v8 = (clm (tlK S o k i)).2.1 := q8
    rw [e5, e8] at q11
    have gi : (Int32.ofNat i).toInt = (i : Int) := by rw [← oNi i1 (by omega)]; exact i1
    refine pq_bb (fun c => ?_) (fun c => pq_some ⟨G3', Or.inr ⟨by decide, ?_⟩⟩)
    · refine pq_iv fun x15 e15 => ?_
      have g15 : x15.toInt = (i : Int) + 1 := by rw [e15, ti_inc (by omega), gi]
      refine hk (b1, x15) S3 ⟨rfl, G3', i + 1, by dsimp only; omega, by omega, fun lot hl => ?_⟩
      by_cases d : lot = i
      · rw [d]
        rcases q11 with q | q
        · exact q.2
        · exact absurd c q.1
      · exact i3 lot (by omega)
    · rcases q11 with q | q
      · exact absurd q.1 c
      · rcases q.2 with q | q
        · exact Or.inl q
        · exact Or.inr ⟨i, by omega, q⟩
end STR
