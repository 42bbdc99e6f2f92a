/-! counts -/
def cnB (f : Nat → Bool) : Nat → Nat
  | 0 => 0
  | k + 1 => cnB f k + if f k then 1 else 0
section CNT
variable {S : fS} {r : Nat} {p : Int32}
theorem cnB_cg {f g : Nat → Bool} : ∀ k : Nat, (∀ i : Nat, i < k → f i = g i) → cnB f k = cnB g k
  | 0, _ => rfl
  | k + 1, h => by
    show cnB f k + (if f k then 1 else 0) = cnB g k + (if g k then 1 else 0)
    rw [cnB_cg k (fun i hi => h i (by omega)), h k (by omega)]
theorem cnB_le (f : Nat → Bool) : ∀ k : Nat, cnB f k ≤ k
  | 0 => Nat.le_refl 0
  | k + 1 => by
    have := cnB_le f k
    show cnB f k + (if f k then 1 else 0) ≤ k + 1
    by_cases c : f k
    · rw [if_pos c]; omega
    · rw [if_neg c]; omega
theorem cnB_3 {f g e : Nat → Bool} : ∀ k : Nat, (∀ i : Nat, i < k → (f i = true ∧ g i = false ∧ e i = false) ∨ (f i = false ∧ g i = true ∧ e i = false) ∨ (f i = false ∧ g i = false ∧ e i = true)) → cnB f k + cnB g k + cnB e k = k
  | 0, _ => rfl
  | k + 1, h => by
    have ih := cnB_3 k (fun i hi => h i (by omega))
    show cnB f k + (if f k then 1 else 0) + (cnB g k + (if g k then 1 else 0)) + (cnB e k + (if e k then 1 else 0)) = k + 1
    rcases h k (by omega) with ⟨a, b, c⟩ | ⟨a, b, c⟩ | ⟨a, b, c⟩ <;> (rw [a, b, c]; simp only [if_true, Bool.false_eq_true, if_false]; omega)
theorem y_countAt {n : Nat} (hn : (ge S 2 r 0).toInt = (n : Int)) (h24 : n ≤ 24) : pk (F_X2_countAt r p S) (fun v T => S = T ∧ v.toInt = (cnB (fun u => decide (ge S 8 r u = p)) n : Int)) := by
  have l0 : (0 : Int32).toInt = 0 := by decide
  have l1 : (1 : Int32).toInt = 1 := by decide
  unfold F_X2_countAt
  refine pq_lp (fun (z : Int32 × Int32 × Int32) V => S = V ∧ z.1 = p ∧ ∃ i : Nat, z.2.2.toInt = (i : Int) ∧ i ≤ n ∧ z.2.1.toInt = (cnB (fun u => decide (ge S 8 r u = p)) i : Int)) (fun _ _ (v : Int32) T => S = T ∧ v.toInt = (cnB (fun u => decide (ge S 8 r u = p)) n : Int)) ?_ fuel (p, 0, 0) S ⟨rfl, rfl, 0, l0, by omega, l0⟩
  intro k hk z V hz
  obtain ⟨d0, d1, d2⟩ := z
  dsimp only at hz
  obtain ⟨rfl, rfl, i, i1, i2, i3⟩ := hz
  have le := cnB_le (fun u => decide (ge S 8 r u = d0)) i
  unfold B_X2_countAt_4
  refine pq_iv fun x3 e3 => pq_le (fun c => pq_some ⟨rfl, ?_⟩) (fun c => ?_)
  · rw [i3, show i = n by rw [e3] at c; omega]
  · rw [e3] at c
    refine pq_gd fun _ => pq_iv fun x6 e6 => ?_
    rw [cnNq i1] at e6
    have go : ∀ t : Int32, t.toInt = (if decide (ge S 8 r i = d0) then 1 else 0 : Nat) → pk (B_X2_countAt_28 r k d0 d2 t d1 S) (fun v T => S = T ∧ v.toInt = (cnB (fun u => decide (ge S 8 r u = d0)) n : Int)) := by
      intro t ht
      have tb : t.toInt ≤ 1 ∧ 0 ≤ t.toInt := by
        by_cases q : decide (ge S 8 r i = d0)
        · rw [if_pos q] at ht; omega
        · rw [if_neg q] at ht; omega
      unfold B_X2_countAt_28
      refine pq_iv fun x1 e1 => pq_iv fun x2 e2 => ?_
      refine hk (d0, x1, x2) S ⟨rfl, rfl, i + 1, by dsimp only; rw [e2, ti_inc (by omega), i1]; omega, by omega, ?_⟩
      dsimp only
      rw [e1, ti_add (by omega) (by omega), i3, ht]
      show _ = ((cnB (fun u => decide (ge S 8 r u = d0)) i + (if decide (ge S 8 r i = d0) then 1 else 0) : Nat) : Int)
      omega
    refine pq_bb (fun d => go 1 ?_) (fun d => go 0 ?_)
    · rw [if_pos (decide_eq_true (by rw [← e6]; exact d))]; exact l1
    · rw [if_neg (by rw [← e6]; exact fun q => d (of_decide_eq_true q))]; exact l0
def lyf (S : fS) (p : Int32) (u : Nat) : Bool := if p = 0 then decide (¬ ge S 50 0 u < 0) else decide (ge S 50 0 u = -p)
theorem q_lying {n : Nat} (hn : (ge S 40 0 21).toInt = (n : Int)) (h24 : n ≤ 24) : pk (F_X7_lying p S) (fun v T => S = T ∧ v.toInt = (cnB (lyf S p) n : Int)) := by
  have l0 : (0 : Int32).toInt = 0 := by decide
  have l1 : (1 : Int32).toInt = 1 := by decide
  unfold F_X7_lying
  refine pq_lp (fun (z : Int32 × Int32 × Int32) V => S = V ∧ z.1 = p ∧ ∃ i : Nat, z.2.2.toInt = (i : Int) ∧ i ≤ n ∧ z.2.1.toInt = (cnB (lyf S p) i : Int)) (fun _ _ (v : Int32) T => S = T ∧ v.toInt = (cnB (lyf S p) n : Int)) ?_ fuel (p, 0, 0) S ⟨rfl, rfl, 0, l0, by omega, l0⟩
  intro k hk z V hz
  obtain ⟨d0, d1, d2⟩ := z
  dsimp only at hz
  obtain ⟨rfl, rfl, i, i1, i2, i3⟩ := hz
  have le := cnB_le (lyf S d0) i
  unfold B_X7_lying_4
  refine pq_iv fun x3 e3 => pq_le (fun c => pq_some ⟨rfl, ?_⟩) (fun c => ?_)
  · rw [i3, show i = n by rw [e3] at c; omega]
  · rw [e3] at c
    have go : ∀ t : Int32, t.toInt = (if lyf S d0 i then 1 else 0 : Nat) → pk (B_X7_lying_50 k d0 d2 t d1 S) (fun v T => S = T ∧ v.toInt = (cnB (lyf S d0) n : Int)) := by
      intro t ht
      have tb : t.toInt ≤ 1 ∧ 0 ≤ t.toInt := by
        by_cases q : lyf S d0 i
        · rw [if_pos q] at ht; omega
        · rw [if_neg q] at ht; omega
      unfold B_X7_lying_50
      refine pq_iv fun x1 e1 => pq_iv fun x2 e2 => ?_
      refine hk (d0, x1, x2) S ⟨rfl, rfl, i + 1, by dsimp only; rw [e2, ti_inc (by omega), i1]; omega, by omega, ?_⟩
      dsimp only
      rw [e1, ti_add (by omega) (by omega), i3, ht]
      show _ = ((cnB (lyf S d0) i + (if lyf S d0 i then 1 else 0) : Nat) : Int)
      omega
    refine pq_bb (fun d => ?_) (fun d => ?_)
    · refine pq_gd fun _ => pq_iv fun x6 e6 => ?_
      rw [cnNq i1] at e6
      refine pq_bb (fun w => go 0 ?_) (fun w => go 1 ?_)
      · rw [if_neg]
        · exact l0
        · unfold lyf
          rw [if_pos d, ← e6]
          exact fun q => of_decide_eq_true q w
      · rw [if_pos]
        · exact l1
        · unfold lyf
          rw [if_pos d, ← e6]
          exact decide_eq_true w
    · refine pq_gd fun _ => pq_iv fun x7 e7 => pq_iv fun x8 e8 => ?_
      rw [cnNq i1] at e7
      refine pq_bb (fun w => go 1 ?_) (fun w => go 0 ?_)
      · rw [if_pos]
        · exact l1
        · unfold lyf
          rw [if_neg d, ← e7, ← e8]
          exact decide_eq_true w
      · rw [if_neg]
        · exact l0
        · unfold lyf
          rw [if_neg d, ← e7, ← e8]
          exact fun q => w (of_decide_eq_true q)
/-- what both count -/
def ctv (S : fS) (n : Nat) (p : Int32) (v : Int32) : Prop := (p.toInt = 1 → v.toInt = (cnB (lyf S 0) n : Int)) ∧ (p.toInt = 2 → v.toInt = (cnB (lyf S 1) n : Int)) ∧ (p.toInt = 3 → v.toInt = (cnB (lyf S 2) n : Int)) ∧ (¬ (p.toInt = 1 ∨ p.toInt = 2 ∨ p.toInt = 3) → v = if p.toInt = 0 then ge S 40 0 21 else if p.toInt = 4 then ge S 40 0 35 else if p.toInt = 5 then ge S 40 0 36 + 1 else if p.toInt = 6 then ge S 40 0 37 else if p.toInt = 7 then ge S 40 0 38 else if p.toInt = 8 then ge S 40 0 13 else if p.toInt = 9 then ge S 40 0 14 else if p.toInt = 10 then ge S 40 0 48 else if p.toInt = 11 then ge S 40 0 56 else if p.toInt = 12 then ge S 40 0 1 else if p.toInt = 13 then ge S 40 0 34 else -1)
theorem ctv_un {n : Nat} {v u : Int32} (h : ctv S n p v) (g : ctv S n p u) : v = u := by
  obtain ⟨h1, h2, h3, h4⟩ := h
  obtain ⟨g1, g2, g3, g4⟩ := g
  by_cases c1 : p.toInt = 1
  · exact of_toInt ((h1 c1).trans (g1 c1).symm)
  by_cases c2 : p.toInt = 2
  · exact of_toInt ((h2 c2).trans (g2 c2).symm)
  by_cases c3 : p.toInt = 3
  · exact of_toInt ((h3 c3).trans (g3 c3).symm)
  exact (h4 (by omega)).trans (g4 (by omega)).symm
theorem q_count {n : Nat} (hn : (ge S 40 0 21).toInt = (n : Int)) (h24 : n ≤ 24) (z : ge S 40 0 0 = 0) : pk (F_X7_count p S) (fun v T => S = T ∧ ctv S n p v) := by
  unfold F_X7_count
  refine pg7_0 z ?_
  refine pq_bb (fun d => pq_iv fun x e => pq_some ⟨rfl, fun q => by omega, fun q => by omega, fun q => by omega, fun _ => by rw [if_pos d, e]⟩) (fun d0 => ?_)
  refine pq_bb (fun d => pq_bd (q_lying hn h24) (fun v T q => pq_some ⟨q.1, fun _ => q.2, fun q => by omega, fun q => by omega, fun q => by omega⟩)) (fun d1 => ?_)
  refine pq_bb (fun d => pq_bd (q_lying hn h24) (fun v T q => pq_some ⟨q.1, fun q => by omega, fun _ => q.2, fun q => by omega, fun q => by omega⟩)) (fun d2 => ?_)
  refine pq_bb (fun d => pq_bd (q_lying hn h24) (fun v T q => pq_some ⟨q.1, fun q => by omega, fun q => by omega, fun _ => q.2, fun q => by omega⟩)) (fun d3 => ?_)
  refine pq_bb (fun d => pq_iv fun x e => pq_some ⟨rfl, fun q => by omega, fun q => by omega, fun q => by omega, fun _ => by rw [if_neg d0, if_pos d, e]⟩) (fun d4 => ?_)
  refine pq_bb (fun d => pq_iv fun x e => pq_iv fun y ey => pq_some ⟨rfl, fun q => by omega, fun q => by omega, fun q => by omega, fun _ => by rw [if_neg d0, if_neg d4, if_pos d, ey, e]⟩) (fun d5 => ?_)
  refine pq_bb (fun d => pq_iv fun x e => pq_some ⟨rfl, fun q => by omega, fun q => by omega, fun q => by omega, fun _ => by rw [if_neg d0, if_neg d4, if_neg d5, if_pos d, e]⟩) (fun d6 => ?_)
  refine pq_bb (fun d => pq_iv fun x e => pq_some ⟨rfl, fun q => by omega, fun q => by omega, fun q => by omega, fun _ => by rw [if_neg d0, if_neg d4, if_neg d5, if_neg d6, if_pos d, e]⟩) (fun d7 => ?_)
  refine pq_bb (fun d => pq_iv fun x e => pq_some ⟨rfl, fun q => by omega, fun q => by omega, fun q => by omega, fun _ => by rw [if_neg d0, if_neg d4, if_neg d5, if_neg d6, if_neg d7, if_pos d, e]⟩) (fun d8 => ?_)
  refine pq_bb (fun d => pq_iv fun x e => pq_some ⟨rfl, fun q => by omega, fun q => by omega, fun q => by omega, fun _ => by rw [if_neg d0, if_neg d4, if_neg d5, if_neg d6, if_neg d7, if_neg d8, if_pos d, e]⟩) (fun d9 => ?_)
  refine pq_bb (fun d => pq_iv fun x e => pq_some ⟨rfl, fun q => by omega, fun q => by omega, fun q => by omega, fun _ => by rw [if_neg d0, if_neg d4, if_neg d5, if_neg d6, if_neg d7, if_neg d8, if_neg d9, if_pos d, e]⟩) (fun da => ?_)
  refine pq_bb (fun d => pq_iv fun x e => pq_some ⟨rfl, fun q => by omega, fun q => by omega, fun q => by omega, fun _ => by rw [if_neg d0, if_neg d4, if_neg d5, if_neg d6, if_neg d7, if_neg d8, if_neg d9, if_neg da, if_pos d, e]⟩) (fun db => ?_)
  refine pq_bb (fun d => pq_iv fun x e => pq_some ⟨rfl, fun q => by omega, fun q => by omega, fun q => by omega, fun _ => by rw [if_neg d0, if_neg d4, if_neg d5, if_neg d6, if_neg d7, if_neg d8, if_neg d9, if_neg da, if_neg db, if_pos d, e]⟩) (fun dc => ?_)
  refine pq_bb (fun d => pq_iv fun x e => pq_some ⟨rfl, fun q => by omega, fun q => by omega, fun q => by omega, fun _ => by rw [if_neg d0, if_neg d4, if_neg d5, if_neg d6, if_neg d7, if_neg d8, if_neg d9, if_neg da, if_neg db, if_neg dc, if_pos d, e]⟩) (fun dd => ?_)
  exact pq_some ⟨rfl, fun q => by omega, fun q => by omega, fun q => by omega, fun _ => by rw [if_neg d0, if_neg d4, if_neg d5, if_neg d6, if_neg d7, if_neg d8, if_neg d9, if_neg da, if_neg db, if_neg dc, if_neg dd]⟩
theorem y_count {n : Nat} (h : IV S) (hn : nq S = (n : Int)) : pk (F_X6_count p S) (fun v T => S = T ∧ ctv S n p v) := by
  have lm1 : (-1 : Int32).toInt = -1 := by decide
  have lm2 : (-2 : Int32).toInt = -2 := by decide
  obtain ⟨⟨H, hO, B, N, hP, hI, hs, hR, _, hH⟩, ht, hi⟩ := h.2.2.2
  have n24 := H.2.2.1
  have en : (ge S 2 0 0).toInt = (n : Int) := by rw [B.1.2.2.1, hn]
  have e21 : ge S 2 0 0 = ge S 40 0 21 := of_toInt (by rw [en]; exact hn.symm)
  have w8 : ∀ u : Nat, u < n → ge S 8 0 u = ge S 50 0 u ∧ -2 ≤ (ge S 50 0 u).toInt := fun u hu => by
    obtain ⟨q1, q2, _⟩ := B.1.2.2.2.2.1 u (by omega)
    exact ⟨of_toInt q1, q2⟩
  have c1 : cnB (fun u => decide (ge S 8 0 u = -1)) n = cnB (lyf S 1) n := cnB_cg n (fun i hi => by
    unfold lyf
    rw [if_neg (by decide), (w8 i hi).1])
  have c2 : cnB (fun u => decide (ge S 8 0 u = -2)) n = cnB (lyf S 2) n := cnB_cg n (fun i hi => by
    unfold lyf
    rw [if_neg (by decide), (w8 i hi).1])
  have c3 : cnB (lyf S 0) n + cnB (lyf S 1) n + cnB (lyf S 2) n = n := cnB_3 n (fun i hi => by
    have b := (w8 i hi).2
    unfold lyf
    rw [if_pos rfl, if_neg (by decide), if_neg (by decide)]
    by_cases d : 0 ≤ (ge S 50 0 i).toInt
    · refine Or.inl ⟨decide_eq_true (fun q => absurd (lt_iff.1 q) (by rw [l0']; omega)), decide_eq_false (fun q => ?_), decide_eq_false (fun q => ?_)⟩
      · have := congrArg Int32.toInt q
        have l : (-1 : Int32).toInt = -1 := by decide
        omega
      · have := congrArg Int32.toInt q
        have l : (-2 : Int32).toInt = -2 := by decide
        omega
    · have lt : ge S 50 0 i < 0 := lt_iff.2 (by rw [l0']; omega)
      by_cases d1 : (ge S 50 0 i).toInt = -1
      · have e : ge S 50 0 i = -1 := of_toInt (by rw [d1]; exact lm1.symm)
        refine Or.inr (Or.inl ⟨decide_eq_false (fun q => q lt), decide_eq_true e, decide_eq_false (fun q => ?_)⟩)
        rw [e] at q
        exact absurd q (by decide)
      · have e : ge S 50 0 i = -2 := of_toInt (by rw [lm2]; omega)
        refine Or.inr (Or.inr ⟨decide_eq_false (fun q => q lt), decide_eq_false (fun q => ?_), decide_eq_true e⟩)
        rw [e] at q
        exact absurd q (by decide))
  unfold F_X6_count
  refine pq_bb (fun d => pq_iv fun x e => pq_some ⟨rfl, fun q => by omega, fun q => by omega, fun q => by omega, fun _ => by rw [if_pos d, e, e21]⟩) (fun d0 => ?_)
  refine pq_bb (fun d => ?_) (fun d1 => ?_)
  · refine pq_iv fun x4 e4 => pq_bd (y_countAt en (by omega)) (fun v5 T q => ?_)
    obtain ⟨rfl, q5⟩ := q
    rw [c1] at q5
    refine pq_iv fun x8 e8 => pq_bd (y_countAt en (by omega)) (fun v9 T q => ?_)
    obtain ⟨rfl, q9⟩ := q
    rw [c2] at q9
    refine pq_iv fun x12 e12 => pq_some ⟨rfl, fun _ => ?_, fun q => by omega, fun q => by omega, fun q => by omega⟩
    have g8 : x8.toInt = (n : Int) - (cnB (lyf S 1) n : Int) := by rw [e8, e4, ti_sub (by rw [en, q5]; omega) (by rw [en, q5]; omega), en, q5]
    rw [e12, ti_sub (by rw [g8, q9]; omega) (by rw [g8, q9]; omega), g8, q9]
    omega
  refine pq_bb (fun d => pq_bd (y_countAt en (by omega)) (fun v T q => pq_some ⟨q.1, fun q => by omega, fun _ => by rw [q.2, c1], fun q => by omega, fun q => by omega⟩)) (fun d2 => ?_)
  refine pq_bb (fun d => pq_bd (y_countAt en (by omega)) (fun v T q => pq_some ⟨q.1, fun q => by omega, fun q => by omega, fun _ => by rw [q.2, c2], fun q => by omega⟩)) (fun d3 => ?_)
  obtain ⟨n3, n4, n7, n8, n9, n10⟩ := N
  obtain ⟨⟨_, _, m1, m2, _⟩, ⟨_, _, m3, m4, _⟩⟩ := hP
  have p5 : ge S 0 0 5 = ge S 40 0 13 := of_toInt (m1.trans m2.symm)
  have p7 : ge S 0 0 7 = ge S 40 0 14 := of_toInt (m3.trans m4.symm)
  have p9 : ge S 0 0 9 = ge S 40 0 48 := of_toInt hH.1
  refine pq_bb (fun d => pq_iv fun x e => pq_some ⟨rfl, fun q => by omega, fun q => by omega, fun q => by omega, fun _ => by rw [if_neg d0, if_pos d, e, n7]⟩) (fun d4 => ?_)
  refine pq_bb (fun d => pq_iv fun x e => pq_iv fun y ey => pq_some ⟨rfl, fun q => by omega, fun q => by omega, fun q => by omega, fun _ => by rw [if_neg d0, if_neg d4, if_pos d, ey, e, n8]⟩) (fun d5 => ?_)
  refine pq_bb (fun d => pq_iv fun x e => pq_some ⟨rfl, fun q => by omega, fun q => by omega, fun q => by omega, fun _ => by rw [if_neg d0, if_neg d4, if_neg d5, if_pos d, e, n9]⟩) (fun d6 => ?_)
  refine pq_bb (fun d => pq_iv fun x e => pq_some ⟨rfl, fun q => by omega, fun q => by omega, fun q => by omega, fun _ => by rw [if_neg d0, if_neg d4, if_neg d5, if_neg d6, if_pos d, e, n10]⟩) (fun d7 => ?_)
  refine pq_bb (fun d => pq_iv fun x e => pq_some ⟨rfl, fun q => by omega, fun q => by omega, fun q => by omega, fun _ => by rw [if_neg d0, if_neg d4, if_neg d5, if_neg d6, if_neg d7, if_pos d, e, p5]⟩) (fun d8 => ?_)
  refine pq_bb (fun d => pq_iv fun x e => pq_some ⟨rfl, fun q => by omega, fun q => by omega, fun q => by omega, fun _ => by rw [if_neg d0, if_neg d4, if_neg d5, if_neg d6, if_neg d7, if_neg d8, if_pos d, e, p7]⟩) (fun d9 => ?_)
  refine pq_bb (fun d => pq_iv fun x e => pq_some ⟨rfl, fun q => by omega, fun q => by omega, fun q => by omega, fun _ => by rw [if_neg d0, if_neg d4, if_neg d5, if_neg d6, if_neg d7, if_neg d8, if_neg d9, if_pos d, e, p9]⟩) (fun da => ?_)
  refine pq_bb (fun d => pq_iv fun x e => pq_some ⟨rfl, fun q => by omega, fun q => by omega, fun q => by omega, fun _ => by rw [if_neg d0, if_neg d4, if_neg d5, if_neg d6, if_neg d7, if_neg d8, if_neg d9, if_neg da, if_pos d, e, hi.1]⟩) (fun db => ?_)
  refine pq_bb (fun d => pq_iv fun x e => pq_some ⟨rfl, fun q => by omega, fun q => by omega, fun q => by omega, fun _ => by rw [if_neg d0, if_neg d4, if_neg d5, if_neg d6, if_neg d7, if_neg d8, if_neg d9, if_neg da, if_neg db, if_pos d, e, ht.1]⟩) (fun dc => ?_)
  refine pq_bb (fun d => pq_iv fun x e => pq_some ⟨rfl, fun q => by omega, fun q => by omega, fun q => by omega, fun _ => by rw [if_neg d0, if_neg d4, if_neg d5, if_neg d6, if_neg d7, if_neg d8, if_neg d9, if_neg da, if_neg db, if_neg dc, if_pos d, e, hs]⟩) (fun dd => ?_)
  exact pq_some ⟨rfl, fun q => by omega, fun q => by omega, fun q => by omega, fun _ => by rw [if_neg d0, if_neg d4, if_neg d5, if_neg d6, if_neg d7, if_neg d8, if_neg d9, if_neg da, if_neg db, if_neg dc, if_neg dd]⟩
theorem rk_count (h : IV S) (z : ge S 40 0 0 = 0) : RK0 (F_X6_count p S) (F_X7_count p) := by
  obtain ⟨n, hn⟩ : ∃ n : Nat, nq S = (n : Int) := ⟨(nq S).toNat, by have := h.nq; omega⟩
  have n24 := h.2.2.2.1.1.2.2.1
  refine pq_imp (y_count h hn) (fun v T q => ?_)
  obtain ⟨rfl, q⟩ := q
  refine pq_imp (q_count hn (by omega) z) (fun v2 T q2 => ?_)
  obtain ⟨rfl, q2⟩ := q2
  exact ⟨h.2.2.2, ctv_un q q2⟩
theorem rk_fault (h : IV S) (z : ge S 40 0 0 = 0) : pk (F_X6_fault S) (fun v T1 => pk (F_X7_fault T1) (fun v2 T2 => RLv T2)) := by
  unfold F_X6_fault F_X7_fault
  exact pq_iv fun x e => pq_some (pg7_0 z (pq_iv fun y ey => pq_some h.2.2.2))
end CNT
