/-! the class's machine, exactly -/
def MR (S : fS) (st : List Int32) (g : G3) : Prop := (ge S 22 0 1).toInt = (st.length : Int) ∧ (∀ k : Nat, k < st.length → ge S 23 0 (st.length - 1 - k) = st.getD k 0) ∧ ge S 24 0 0 = g.1 ∧ ge S 24 0 1 = g.2.1 ∧ ge S 24 0 2 = g.2.2
def Wmq (a _ j : Nat) : Bool := Nat.beq a 23 || (Nat.beq a 24 || (Nat.beq a 22 && Nat.beq j 1))
/-- the names of a try, at a lot -/
def envT (S : fS) (r : Nat) (lot : Int32) (i : Nat) : Int32 := if i = 0 then ge S 25 r 4 else if i = 1 then ge S 25 r 5 else if i = 2 then ge S 25 r 6 else if i = 3 then ge S 25 r 7 else if i = 4 then ge S 25 r 8 else if i = 5 then lot else ge S 25 r 9
section MAC
variable {S T : fS} {st : List Int32} {g : G3} {r c : Nat} {lot : Int32}
theorem y_push (v : Int32) (h : MR S st g) (hl : st.length < 300) : pk (F_X3_push v S) (fun _ T => FX Wmq S T ∧ MR T (v :: st) g) := by
  have l300 : (300 : Int32).toInt = 300 := by decide
  have l1 : (1 : Int32).toInt = 1 := by decide
  obtain ⟨h1, h2, h3⟩ := h
  unfold F_X3_push
  refine pq_iv fun x1 e1 => ?_
  have g1 : x1.toInt = (st.length : Int) := by rw [e1]; exact h1
  refine pq_le (fun c => absurd c (by omega)) (fun _ => ?_)
  refine pq_iv fun x3 e3 => ?_
  have e31 : x3 = x1 := by rw [e3, e1]
  have hr : x3.toNatClampNeg = st.length := by have := cn_eq (x := x3) (by rw [e31]; omega); rw [e31] at this ⊢; omega
  refine pq_gd fun _ => ?_
  refine pq_sv fun S5 E5 => ?_
  refine pq_iv fun x6 e6 => ?_
  have e61 : x6 = x1 := by rw [e6, E5, ge_pua (by decide), e1]
  refine pq_iv fun x7 e7 => ?_
  have g7 : x7.toInt = ((st.length + 1 : Nat) : Int) := by rw [e7, e61, ti_add (by omega) (by omega), l1]; omega
  refine pq_sv fun S8 E8 => pq_some ?_
  rw [hr] at E5
  have F5 : FX Wmq S S5 := by rw [E5]; exact FX.rf.wr rfl
  have F8 : FX Wmq S S8 := by rw [E8]; exact F5.wr rfl
  refine ⟨F8, ?_, fun k hk => ?_, ?_, ?_, ?_⟩
  · rw [E8, ge_pus, List.length_cons]; exact g7
  · rw [List.length_cons] at hk ⊢
    rw [E8, ge_pua (by decide), E5]
    match k, hk with
    | 0, _ =>
      rw [show st.length + 1 - 1 - 0 = st.length from by omega, ge_pus]
      rfl
    | k + 1, hk =>
      rw [show st.length + 1 - 1 - (k + 1) = st.length - 1 - k from by omega, ge_puj (by omega), h2 k (by omega)]
      rfl
  · rw [E8, ge_pua (by decide), E5, ge_pua (by decide)]; exact h3.1
  · rw [E8, ge_pua (by decide), E5, ge_pua (by decide)]; exact h3.2.1
  · rw [E8, ge_pua (by decide), E5, ge_pua (by decide)]; exact h3.2.2
theorem y_pop (h : MR S st g) : pk (F_X3_pop S) (fun v T => FX Wmq S T ∧ v = hd0 st ∧ MR T st.tail g) := by
  have l0 : (0 : Int32).toInt = 0 := by decide
  have l1 : (1 : Int32).toInt = 1 := by decide
  obtain ⟨h1, h2, h3⟩ := h
  unfold F_X3_pop
  refine pq_iv fun x1 e1 => ?_
  have g1 : x1.toInt = (st.length : Int) := by rw [e1]; exact h1
  refine pq_lt (fun c => ?_) (fun c => ?_)
  · refine pq_iv fun x3 e3 => ?_
    refine pq_iv fun x4 e4 => ?_
    have e31 : x3 = x1 := by rw [e3, e1]
    have b1 := ti_bd x1
    have g4 : x4.toInt = ((st.length - 1 : Nat) : Int) := by rw [e4, e31, ti_sub (by omega) (by omega), l1]; omega
    have hr : x4.toNatClampNeg = st.length - 1 := by have := cn_eq (x := x4) (by omega); omega
    refine pq_sv fun S5 E5 => ?_
    refine pq_iv fun x6 e6 => ?_
    have e64 : x6 = x4 := by rw [e6, E5, ge_pus]
    refine pq_gd fun _ => ?_
    refine pq_iv fun x8 e8 => pq_some ?_
    rw [e64, hr, E5, ge_pua (by decide)] at e8
    have F5 : FX Wmq S S5 := by rw [E5]; exact FX.rf.wr rfl
    have a0 := h2 0 (by omega)
    rw [Nat.sub_zero] at a0
    refine ⟨F5, ?_, ?_, fun k hk => ?_, ?_, ?_, ?_⟩
    · rw [e8, a0]
      unfold hd0
      cases st <;> rfl
    · rw [E5, ge_pus, List.length_tail]; exact g4
    · rw [List.length_tail] at hk ⊢
      rw [E5, ge_pua (by decide), show st.length - 1 - 1 - k = st.length - 1 - (k + 1) from by omega, h2 (k + 1) (by omega)]
      cases st <;> rfl
    · rw [E5, ge_pua (by decide)]; exact h3.1
    · rw [E5, ge_pua (by decide)]; exact h3.2.1
    · rw [E5, ge_pua (by decide)]; exact h3.2.2
  · have e : st = [] := List.length_eq_zero_iff.1 (by omega)
    refine pq_some ⟨FX.rf, by rw [e]; rfl, ?_⟩
    rw [e] at h1 h2 ⊢
    exact ⟨h1, h2, h3⟩
theorem y_tell (p1 p2 p3 : Int32) (h : MR S st g) : pk (F_X3_tell p1 p2 p3 S) (fun _ T => FX Wmq S T ∧ MR T st (if p3 = 0 then g else tl3 p1.toInt p2 g)) := by
  have l0 : (0 : Int32).toInt = 0 := by decide
  have l3 : (3 : Int32).toInt = 3 := by decide
  unfold F_X3_tell
  refine pq_bb (fun c => ?_) (fun c => ?_)
  · rw [if_pos c]; exact pq_some ⟨FX.rf, h⟩
  · rw [if_neg c]
    have no : ¬ (0 ≤ p1.toInt ∧ p1.toInt < 3) → tl3 p1.toInt p2 g = g := by
      intro q
      unfold tl3
      rw [if_neg (by omega), if_neg (by omega), if_neg (by omega)]
    refine pq_lt (fun c1 => pq_some ⟨FX.rf, by rw [no (by omega)]; exact h⟩) (fun c1 => ?_)
    refine pq_le (fun c2 => pq_some ⟨FX.rf, by rw [no (by omega)]; exact h⟩) (fun c2 => ?_)
    refine pq_gd fun _ => ?_
    refine pq_sv fun S5 E5 => pq_some ?_
    obtain ⟨h1, h2, h3, h4, h5⟩ := h
    have F5 : FX Wmq S S5 := by rw [E5]; exact FX.rf.wr rfl
    have hr := cn_eq (x := p1) (by omega)
    have s1 : (ge S5 22 0 1).toInt = (st.length : Int) := by rw [E5, ge_pua (by decide)]; exact h1
    have s2 : ∀ k : Nat, k < st.length → ge S5 23 0 (st.length - 1 - k) = st.getD k 0 := fun k hk => by rw [E5, ge_pua (by decide)]; exact h2 k hk
    refine ⟨F5, s1, s2, ?_⟩
    have : p1.toInt = 0 ∨ p1.toInt = 1 ∨ p1.toInt = 2 := by omega
    rcases this with e | e | e
    · rw [show p1.toNatClampNeg = 0 from by omega] at E5
      rw [e, E5, ge_pus, ge_puj (by decide), ge_puj (by decide)]
      exact ⟨rfl, h4, h5⟩
    · rw [show p1.toNatClampNeg = 1 from by omega] at E5
      rw [e, E5, ge_puj (by decide), ge_pus, ge_puj (by decide)]
      exact ⟨h3, rfl, h5⟩
    · rw [show p1.toNatClampNeg = 2 from by omega] at E5
      rw [e, E5, ge_puj (by decide), ge_puj (by decide), ge_pus]
      exact ⟨h3, h4, rfl⟩
theorem y_joined (p0 p1 p2 : Int32) : pk (F_X3_joined p0 p1 p2 S) (fun v T => S = T ∧ v = jn p0 p1 p2) := by
  unfold F_X3_joined jn
  refine pq_bb (fun c => ?_) (fun c => ?_)
  · rw [if_pos c]; exact pq_iv fun x e => pq_some ⟨rfl, e⟩
  rw [if_neg c]
  refine pq_bb (fun c => ?_) (fun c => ?_)
  · rw [if_pos c]; exact pq_iv fun x e => pq_some ⟨rfl, e⟩
  rw [if_neg c]
  refine pq_bb (fun c => ?_) (fun c => ?_)
  · rw [if_pos c]; exact pq_iv fun x e => pq_some ⟨rfl, e⟩
  rw [if_neg c]
  refine pq_bb (fun c => ?_) (fun c => ?_)
  · rw [if_pos c]
    refine pq_bb (fun c2 => ?_) (fun c2 => ?_)
    · rw [if_pos c2]; exact pq_some ⟨rfl, rfl⟩
    · rw [if_neg c2]; exact pq_gd fun _ => pq_iv fun x e => pq_some ⟨rfl, e⟩
  rw [if_neg c]
  refine pq_bb (fun c => ?_) (fun c => ?_)
  · rw [if_pos c]; exact pq_iv fun x e => pq_some ⟨rfl, e⟩
  rw [if_neg c]
  refine pq_bb (fun c => ?_) (fun c => ?_)
  · rw [if_pos c]; exact pq_iv fun x e => pq_some ⟨rfl, e⟩
  rw [if_neg c]
  refine pq_bb (fun c => ?_) (fun c => ?_)
  · rw [if_pos c]
    refine pq_bb (fun c2 => ?_) (fun c2 => ?_)
    · rw [if_pos c2]; exact pq_some ⟨rfl, rfl⟩
    · rw [if_neg c2]; exact pq_some ⟨rfl, rfl⟩
  rw [if_neg c]
  refine pq_bb (fun c => ?_) (fun c => ?_)
  · rw [if_pos c]
    refine pq_bb (fun c2 => ?_) (fun c2 => ?_)
    · rw [if_pos c2]; exact pq_some ⟨rfl, rfl⟩
    · rw [if_neg c2]; exact pq_some ⟨rfl, rfl⟩
  rw [if_neg c]
  refine pq_bb (fun c => ?_) (fun c => ?_)
  · rw [if_pos c]
    refine pq_bb (fun c2 => ?_) (fun c2 => ?_)
    · rw [if_pos c2]; exact pq_some ⟨rfl, rfl⟩
    · rw [if_neg c2]; exact pq_some ⟨rfl, rfl⟩
  rw [if_neg c]
  refine pq_bb (fun c => ?_) (fun c => ?_)
  · rw [if_pos c]; exact pq_iv fun x e => pq_some ⟨rfl, e⟩
  · rw [if_neg c]; exact pq_iv fun x e => pq_some ⟨rfl, e⟩
theorem y_named (p0 p2 : Int32) : pk (F_X3_named p0 r p2 S) (fun v T => S = T ∧ v = nme (envT S r p2) p0.toInt) := by
  unfold F_X3_named nme
  refine pq_bb (fun c => ?_) (fun c => ?_)
  · rw [if_pos c]; exact pq_iv fun x e => pq_some ⟨rfl, e⟩
  rw [if_neg c]
  refine pq_bb (fun c => ?_) (fun c => ?_)
  · rw [if_pos c]; exact pq_iv fun x e => pq_some ⟨rfl, e⟩
  rw [if_neg c]
  refine pq_bb (fun c => ?_) (fun c => ?_)
  · rw [if_pos c]; exact pq_iv fun x e => pq_some ⟨rfl, e⟩
  rw [if_neg c]
  refine pq_bb (fun c => ?_) (fun c => ?_)
  · rw [if_pos c]; exact pq_iv fun x e => pq_some ⟨rfl, e⟩
  rw [if_neg c]
  refine pq_bb (fun c => ?_) (fun c => ?_)
  · rw [if_pos c]; exact pq_iv fun x e => pq_some ⟨rfl, e⟩
  rw [if_neg c]
  refine pq_bb (fun c => ?_) (fun c => ?_)
  · rw [if_pos c]; exact pq_some ⟨rfl, rfl⟩
  · rw [if_neg c]; exact pq_iv fun x e => pq_some ⟨rfl, e⟩
theorem tail_le (l : List Int32) : l.tail.length ≤ l.length := by rw [List.length_tail]; omega
theorem y_work (p1 : Int32) (env : Nat → Int32) (h : MR S st g) (hl : st.length < 300) (hp : 2000 ≤ p1.toInt) : pk (F_X3_work p1 S) (fun _ T => FX Wmq S T ∧ MR T (xw env p1 (st, g)).1 (xw env p1 (st, g)).2) := by
  have l0 : (0 : Int32).toInt = 0 := by decide
  have l2011 : (2011 : Int32).toInt = 2011 := by decide
  have l2020 : (2020 : Int32).toInt = 2020 := by decide
  have l2030 : (2030 : Int32).toInt = 2030 := by decide
  have t1 := tail_le st
  have t2 := tail_le st.tail
  have bp := ti_bd p1
  unfold F_X3_work
  have P20 : ∀ (t : Int32) (U : fS) (s2 : List Int32) (g2 : G3), FX Wmq S U → MR U s2 g2 → s2.length < 300 → pk (B_X3_work_20 t U) (fun _ T => FX Wmq S T ∧ MR T (t :: s2) g2) := by
    intro t U s2 g2 F hU hl2
    unfold B_X3_work_20
    exact pq_bd (y_push t hU hl2) (fun _ V q => pq_some ⟨F.tr q.1, q.2⟩)
  have P45 : ∀ (t : Int32) (U : fS) (s2 : List Int32) (g2 : G3), FX Wmq S U → MR U s2 g2 → pk (B_X3_work_45 p1 t U) (fun _ T => FX Wmq S T ∧ MR T s2.tail (if t = 0 then g2 else tl3 (p1 - 2030).toInt (hd0 s2) g2)) := by
    intro t U s2 g2 F hU
    unfold B_X3_work_45
    refine pq_iv fun x4 e4 => ?_
    refine pq_bd (y_pop hU) (fun v5 V q => ?_)
    obtain ⟨q1, q2, q3⟩ := q
    refine pq_bd (y_tell x4 v5 t q3) (fun _ V2 q => pq_some ⟨(F.tr q1).tr q.1, ?_⟩)
    rw [← e4, ← q2]
    exact q.2
  refine pq_eq (fun c => ?_) (fun c => ?_)
  · have e : xw env p1 (st, g) = ((if hd0 st = 0 then 1 else 0) :: st.tail, g) := by
      unfold xw
      rw [if_neg (by omega), if_neg (by omega), if_pos (by omega)]
    rw [e]
    refine pq_bd (y_pop h) (fun v37 U q => ?_)
    obtain ⟨q1, q2, q3⟩ := q
    rw [← q2]
    refine pq_bb (fun c2 => ?_) (fun c2 => ?_)
    · rw [if_pos c2]
      exact P20 1 U _ _ q1 q3 (by omega)
    · rw [if_neg c2]
      exact P20 0 U _ _ q1 q3 (by omega)
  · refine pq_lt (fun c2 => ?_) (fun c2 => ?_)
    · refine pq_lt (fun c3 => ?_) (fun c3 => ?_)
      · have e : xw env p1 (st, g) = (jn p1 (hd0 st.tail) (hd0 st) :: st.tail.tail, g) := by
          unfold xw
          rw [if_neg (by omega), if_neg (by omega), if_neg (by omega), if_pos (by omega)]
        rw [e]
        refine pq_bd (y_pop h) (fun v14 U q => ?_)
        obtain ⟨q1, q2, q3⟩ := q
        refine pq_bd (y_pop q3) (fun v17 V q => ?_)
        obtain ⟨r1, r2, r3⟩ := q
        refine pq_bd (y_joined p1 v17 v14) (fun v20 V2 q => ?_)
        obtain ⟨rfl, s2⟩ := q
        refine pq_bd (y_push v20 r3 (by omega)) (fun _ V3 q => pq_some ⟨(q1.tr r1).tr q.1, ?_⟩)
        rw [← q2, ← r2, ← s2]
        exact q.2
      · have e : xw env p1 (st, g) = (st.tail, tl3 (p1.toInt - 2020) (hd0 st) g) := by
          unfold xw
          rw [if_neg (by omega), if_neg (by omega), if_neg (by omega), if_neg (by omega), if_pos (by omega)]
        rw [e]
        refine pq_iv fun x26 e26 => ?_
        have g26 : x26.toInt = p1.toInt - 2020 := by rw [e26, ti_sub (by omega) (by omega), l2020]
        refine pq_bd (y_pop h) (fun v27 U q => ?_)
        obtain ⟨q1, q2, q3⟩ := q
        refine pq_bd (y_tell x26 v27 1 q3) (fun _ V q => pq_some ⟨q1.tr q.1, ?_⟩)
        rw [← g26, ← q2]
        have z := q.2
        rw [if_neg (by decide)] at z
        exact z
    · have e : xw env p1 (st, g) = (st.tail.tail, if hd0 st = 0 then g else tl3 (p1.toInt - 2030) (hd0 st.tail) g) := by
        unfold xw
        rw [if_neg (by omega), if_neg (by omega), if_neg (by omega), if_neg (by omega), if_neg (by omega)]
      have g30 : (p1 - 2030).toInt = p1.toInt - 2030 := by rw [ti_sub (by omega) (by omega), l2030]
      rw [e]
      refine pq_bd (y_pop h) (fun v33 U q => ?_)
      obtain ⟨q1, q2, q3⟩ := q
      rw [← q2]
      refine pq_bb (fun c3 => ?_) (fun c3 => ?_)
      · rw [if_pos c3]
        have z := P45 0 U _ _ q1 q3
        rw [if_pos rfl] at z
        exact z
      · rw [if_neg c3]
        have z := P45 1 U _ _ q1 q3
        rw [if_neg (by decide), g30] at z
        exact z
theorem xw_len (env : Nat → Int32) (p : Int32) (s : sM) : (xw env p s).1.length ≤ s.1.length + 1 := by
  have t1 := tail_le s.1
  have t2 := tail_le s.1.tail
  unfold xw
  by_cases c1 : p.toInt < 1000
  · rw [if_pos c1]; exact Nat.le_refl _
  rw [if_neg c1]
  by_cases c2 : p.toInt < 2000
  · rw [if_pos c2]; exact Nat.le_refl _
  rw [if_neg c2]
  by_cases c3 : p.toInt = 2011
  · rw [if_pos c3, List.length_cons]; omega
  rw [if_neg c3]
  by_cases c4 : p.toInt < 2020
  · rw [if_pos c4, List.length_cons]; omega
  rw [if_neg c4]
  by_cases c5 : p.toInt < 2030
  · rw [if_pos c5]
    show s.1.tail.length ≤ _
    omega
  · rw [if_neg c5]
    show s.1.tail.tail.length ≤ _
    omega
/-- a code's parts -/
def CP (S : fS) (c : Nat) (P : List Int32) : Prop := ln S c = P.length ∧ P.length ≤ 300 ∧ ∀ k : Nat, k < P.length → ge S 30 c k = P.getD k 0
theorem CP.fx {W : Nat → Nat → Nat → Bool} {P : List Int32} (h : CP S c P) (F : FX W S T) (hw : ∀ j : Nat, W 30 c j = false) : CP T c P := ⟨by unfold ln; rw [F.2]; exact h.1, h.2.1, fun k hk => by rw [F.1 30 c k (hw k)]; exact h.2.2 k hk⟩
theorem envT.fx {W : Nat → Nat → Nat → Bool} (F : FX W S T) (hw : ∀ j : Nat, W 25 r j = false) : envT T r lot = envT S r lot := by
  funext i
  unfold envT
  rw [F.1 25 r 4 (hw 4), F.1 25 r 5 (hw 5), F.1 25 r 6 (hw 6), F.1 25 r 7 (hw 7), F.1 25 r 8 (hw 8), F.1 25 r 9 (hw 9)]
theorem drop_at (P : List Int32) (i : Nat) (h : i < P.length) : P.drop i = P.getD i 0 :: P.drop (i + 1) := by
  rw [List.drop_eq_getElem_cons h, List.getD_eq_getElem?_getD, List.getElem?_eq_getElem h]
  rfl
theorem y_fill24 : pk (F_fill24 0 S) (fun _ T => FX Wmq S T ∧ (∀ j : Nat, ge T 23 0 j = ge S 23 0 j) ∧ ge T 22 0 1 = ge S 22 0 1 ∧ ge T 24 0 0 = 0 ∧ ge T 24 0 1 = 0 ∧ ge T 24 0 2 = 0) := by
  have l0 : (0 : Int32).toInt = 0 := by decide
  have l3 : (3 : Int32).toInt = 3 := by decide
  unfold F_fill24
  refine pq_lp (fun (z : Int32 × Int32 × Int32) T => z.1 = 0 ∧ z.2.2 = 3 ∧ 0 ≤ z.2.1.toInt ∧ FX Wmq S T ∧ (∀ j : Nat, ge T 23 0 j = ge S 23 0 j) ∧ ge T 22 0 1 = ge S 22 0 1 ∧ ∀ j : Nat, (j : Int) < z.2.1.toInt → ge T 24 0 j = 0) (fun _ _ (_ : Int32) T => FX Wmq S T ∧ (∀ j : Nat, ge T 23 0 j = ge S 23 0 j) ∧ ge T 22 0 1 = ge S 22 0 1 ∧ ge T 24 0 0 = 0 ∧ ge T 24 0 1 = 0 ∧ ge T 24 0 2 = 0) ?_ fuel (0, 0, 3) S ⟨rfl, rfl, by dsimp only; omega, FX.rf, fun _ => rfl, rfl, fun j h => by dsimp only at h; omega⟩
  intro k hk z T hI
  obtain ⟨a1, a2, a3⟩ := z
  obtain ⟨h1, h3, h2, F, hs, hd, hz⟩ := hI
  dsimp only at h1 h2 h3 hz
  subst h1
  subst h3
  unfold B_fill24_5
  dsimp only
  refine pq_le (fun c => pq_some ⟨F, hs, hd, hz 0 (by omega), hz 1 (by omega), hz 2 (by omega)⟩) (fun c => ?_)
  refine pq_gd fun _ => ?_
  refine pq_sv fun S3 E3 => ?_
  refine pq_iv fun x4 e4 => ?_
  have g4 : x4.toInt = a2.toInt + 1 := by rw [e4]; exact ti_inc (by omega)
  have hr := cn_eq (x := a2) h2
  refine hk (0, x4, 3) S3 ⟨rfl, rfl, by dsimp only; omega, by rw [E3]; exact F.wr rfl, fun j => by rw [E3, ge_pua (by decide)]; exact hs j, by rw [E3, ge_pua (by decide)]; exact hd, fun j hj => ?_⟩
  dsimp only at hj
  rw [E3]
  by_cases d : j = a2.toNatClampNeg
  · rw [d]; exact ge_pus
  · rw [ge_puj d]; exact hz j (by omega)
def runP (env : Nat → Int32) (P : List Int32) : sM := xs env P ([], (0, 0, 0))
theorem y_run0 (p3 : Int32) : pk (F_X3_run none r p3 S) (fun _ T => FX Wmq S T ∧ MR T [] (0, 0, 0)) := by
  have l0 : (0 : Int32).toInt = 0 := by decide
  unfold F_X3_run
  refine pq_sv fun S21 E21 => ?_
  refine pq_bd y_fill24 (fun _ S23 q => ?_)
  obtain ⟨F, q1, q2, q3, q4, q5⟩ := q
  have F21 : FX Wmq S S21 := by rw [E21]; exact FX.rf.wr rfl
  refine pq_oc (fun _ => pq_some ⟨F21.tr F, by rw [q2, E21, ge_pus]; exact l0, fun k hk => absurd hk (Nat.not_lt_zero _), q3, q4, q5⟩) (fun t e => nomatch e)
theorem y_run {P : List Int32} (p3 : Int32) (hP : CP S c P) : pk (F_X3_run (some c) r p3 S) (fun _ T => FX Wmq S T ∧ MR T (runP (envT S r p3) P).1 (runP (envT S r p3) P).2) := by
  have l0 : (0 : Int32).toInt = 0 := by decide
  have l1000 : (1000 : Int32).toInt = 1000 := by decide
  have l2000 : (2000 : Int32).toInt = 2000 := by decide
  have h300 := hP.2.1
  unfold F_X3_run
  refine pq_sv fun S21 E21 => ?_
  refine pq_bd y_fill24 (fun _ S23 q => ?_)
  obtain ⟨F, q1, q2, q3, q4, q5⟩ := q
  have F21 : FX Wmq S S21 := by rw [E21]; exact FX.rf.wr rfl
  have F23 := F21.tr F
  refine pq_oc (fun e => nomatch e) (fun t e => ?_)
  have e := Option.some.inj e
  subst e
  refine pq_gd fun _ => ?_
  refine pq_lp (fun (z : Nat × Int32 × Int32) T => z.1 = c ∧ z.2.1 = p3 ∧ FX Wmq S T ∧ ∃ (i : Nat) (st : List Int32) (g : G3), z.2.2.toInt = (i : Int) ∧ i ≤ P.length ∧ st.length ≤ i ∧ MR T st g ∧ runP (envT S r p3) P = xs (envT S r p3) (P.drop i) (st, g)) (fun _ _ (_ : Int32) T => FX Wmq S T ∧ MR T (runP (envT S r p3) P).1 (runP (envT S r p3) P).2) ?_ fuel (c, p3, 0) S23 ⟨rfl, rfl, F23, 0, [], (0, 0, 0), l0, Nat.zero_le _, Nat.le_refl _, ⟨by rw [q2, E21, ge_pus]; exact l0, fun k hk => absurd hk (Nat.not_lt_zero _), q3, q4, q5⟩, rfl⟩
  intro k hk z T hI
  obtain ⟨a1, a3, a4⟩ := z
  obtain ⟨h1, h2, FT, i, st, g, h3, h4, h5, h6, h7⟩ := hI
  dsimp only at h1 h2 h3
  subst h1
  subst h2
  have hPT := hP.fx FT (fun _ => rfl)
  have hE : envT T r a3 = envT S r a3 := envT.fx FT (fun _ => rfl)
  unfold B_X3_run_21
  dsimp only
  refine pq_iv fun x2 e2 => ?_
  have g2 : x2.toInt = (P.length : Int) := by rw [e2, hPT.1]; exact nI_toInt (by omega)
  refine pq_le (fun c => ?_) (fun c => ?_)
  · have e : i = P.length := by omega
    rw [e, List.drop_length] at h7
    rw [h7]
    exact pq_some ⟨FT, h6⟩
  · have hi : i < P.length := by omega
    rw [drop_at P i hi] at h7
    refine pq_gd fun _ => ?_
    refine pq_iv fun x5 e5 => ?_
    rw [show a4.toNatClampNeg = i from by have := cn_eq (x := a4) (by omega); omega, hPT.2.2 i hi] at e5
    rw [← e5] at h7
    have h7 : runP (envT S r a3) P = xs (envT S r a3) (P.drop (i + 1)) (xw (envT S r a3) x5 (st, g)) := h7
    have nx : ∀ (U : fS) (s2 : List Int32) (g2 : G3), FX Wmq T U → MR U s2 g2 → (s2, g2) = xw (envT S r a3) x5 (st, g) → pk (B_X3_run_89 (some a1) r k a1 a3 a4 U) (fun _ V => FX Wmq S V ∧ MR V (runP (envT S r a3) P).1 (runP (envT S r a3) P).2) := by
      intro U s2 g2 FU hU e9
      unfold B_X3_run_89
      refine pq_iv fun x1 e1 => ?_
      have g1 : x1.toInt = a4.toInt + 1 := by rw [e1]; exact ti_inc (by omega)
      have hl := xw_len (envT S r a3) x5 (st, g)
      rw [← e9] at hl h7
      have hl : s2.length ≤ st.length + 1 := hl
      exact hk (a1, a3, x1) U ⟨rfl, rfl, FT.tr FU, i + 1, s2, g2, by dsimp only; omega, by omega, by omega, hU, h7⟩
    refine pq_le (fun c1 => ?_) (fun c1 => ?_)
    · refine pq_le (fun c2 => ?_) (fun c2 => ?_)
      · refine pq_bd (y_work x5 (envT S r a3) h6 (by omega) (by omega)) (fun _ U q => nx U _ _ q.1 q.2 rfl)
      · refine pq_iv fun x11 e11 => ?_
        have b5 := ti_bd x5
        have g11 : x11.toInt = x5.toInt - 1000 := by rw [e11, ti_sub (by omega) (by omega), l1000]
        refine pq_bd (y_named x11 a3) (fun v12 U q => ?_)
        obtain ⟨rfl, q⟩ := q
        rw [hE, g11] at q
        refine pq_bd (y_push v12 h6 (by omega)) (fun _ U q9 => nx U _ _ q9.1 q9.2 ?_)
        unfold xw
        rw [if_neg (by omega), if_pos (by omega), q]
    · refine pq_bd (y_push x5 h6 (by omega)) (fun _ U q9 => nx U _ _ q9.1 q9.2 ?_)
      unfold xw
      rw [if_pos (by omega)]
/-- what is told, within its bounds -/
def cwq (v lo hi : Int32) : Int32 := if v < lo then lo else if hi < v then hi else v
theorem cw_mm (v lo hi : Int32) (h : lo.toInt ≤ hi.toInt) : (if lo < (if v < hi then v else hi) then (if v < hi then v else hi) else lo) = cwq v lo hi := by
  unfold cwq
  by_cases c1 : v < hi
  · have d1 := lt_toInt c1
    rw [if_pos c1]
    by_cases c2 : lo < v
    · have d2 := lt_toInt c2
      rw [if_pos c2, if_neg (fun q => by have := lt_toInt q; omega), if_neg (fun q => by have := lt_toInt q; omega)]
    · have d2 := nlt_toInt c2
      rw [if_neg c2]
      by_cases c3 : v < lo
      · rw [if_pos c3]
      · have d3 := nlt_toInt c3
        rw [if_neg c3, if_neg (fun q => by have := lt_toInt q; omega)]
        exact of_toInt (by omega)
  · have d1 := nlt_toInt c1
    rw [if_neg c1]
    by_cases c2 : lo < hi
    · have d2 := lt_toInt c2
      rw [if_pos c2, if_neg (fun q => by have := lt_toInt q; omega)]
      by_cases c3 : hi < v
      · rw [if_pos c3]
      · have d3 := nlt_toInt c3
        rw [if_neg c3]
        exact of_toInt (by omega)
    · have d2 := nlt_toInt c2
      rw [if_neg c2, if_neg (fun q => by have := lt_toInt q; omega)]
      by_cases c3 : hi < v
      · rw [if_pos c3]
        exact of_toInt (by omega)
      · have d3 := nlt_toInt c3
        rw [if_neg c3]
        exact of_toInt (by omega)
theorem y_grip (h : MR S st g) : pk (F_X3_grip S) (fun v T => S = T ∧ v = cwq g.1 0 999) := by
  unfold F_X3_grip
  refine pq_iv fun x1 e1 => pq_iv fun x2 e2 => pq_iv fun x3 e3 => pq_some ⟨rfl, ?_⟩
  rw [e3, e2, show x1 = g.1 from e1.trans h.2.2.1]
  exact cw_mm _ 0 999 (by decide)
theorem y_slip (h : MR S st g) : pk (F_X3_slip S) (fun v T => S = T ∧ v = cwq g.2.1 0 999) := by
  unfold F_X3_slip
  refine pq_iv fun x1 e1 => pq_iv fun x2 e2 => pq_iv fun x3 e3 => pq_some ⟨rfl, ?_⟩
  rw [e3, e2, show x1 = g.2.1 from e1.trans h.2.2.2.1]
  exact cw_mm _ 0 999 (by decide)
theorem y_lots (h : MR S st g) : pk (F_X3_lots S) (fun v T => S = T ∧ v = cwq g.2.2 1 36) := by
  unfold F_X3_lots
  refine pq_iv fun x1 e1 => pq_iv fun x2 e2 => pq_iv fun x3 e3 => pq_some ⟨rfl, ?_⟩
  rw [e3, e2, show x1 = g.2.2 from e1.trans h.2.2.2.2]
  exact cw_mm _ 1 36 (by decide)
end MAC
