/-! settle, cut -/
section SET
variable {S T : fS} {p p2 p3 p4 p5 : Int32} {c t k : Nat}
theorem y_valueOf (B : BVq S 0) (hp : p.toInt = (t : Int)) (ht : (t : Int) < nq S) : pk (F_X2_valueOf 0 p S) (fun v T => S = T ∧ v = ge S 48 0 t) := by
  have l0 : (0 : Int32).toInt = 0 := by decide
  unfold F_X2_valueOf
  refine pq_bd (y_known1 B.1 hp ht) (fun v1 T q => ?_)
  obtain ⟨rfl, q1⟩ := q
  refine pq_eq (fun c => absurd c (by rw [q1, l0]; decide)) (fun _ => pq_gd fun _ => pq_iv fun x6 e6 => pq_some ⟨rfl, ?_⟩)
  rw [e6, cnNq hp]
  exact (B.2.1 t ht).2.2.1
def wRq (S : fS) (k : Nat) (p2 : Int32) : Int32 := rchw (fun i => ge S 59 k i) p2
def wAq (S : fS) (k : Nat) : Int32 := sumw (fun i => ge S 59 k i) 9
def SPq (S : fS) (k c : Nat) (p2 p3 : Int32) (n : Nat) : Prop := ¬ (ge S 40 0 32 * ((Int32.ofNat n - 1) * wRq S k p2 + wAq S k) < (ge S 48 0 (tq S c).toNat + p3) * wRq S k p2)
def NOq (S : fS) (k c : Nat) (p2 : Int32) : Prop := wRq S k p2 = 0 ∨ tq S c = -1
def STq (S : fS) (k c : Nat) (p2 p3 v : Int32) : Prop := (NOq S k c p2 ∧ v = -1) ∨ (¬ NOq S k c p2 ∧ FST (SPq S k c p2 p3) 200 v)
theorem STq.un {v u : Int32} (h : STq S k c p2 p3 v) (g : STq S k c p2 p3 u) : v = u := by
  rcases h with ⟨a, b⟩ | ⟨a, b⟩ <;> rcases g with ⟨a', b'⟩ | ⟨a', b'⟩
  · rw [b, b']
  · exact absurd a a'
  · exact absurd a' a
  · exact b.un b'
/-- hand and cell, both sides -/
theorem y_hand (h : IV S) (hp : p.toInt = (k : Int)) (hk : (k : Int) < (ge S 40 0 48).toInt) : pk (F_X6_weightsReaching (ge S 15 0 k) p2 S) (fun v T => S = T ∧ v = wRq S k p2) ∧ pk (F_X6_allWeights (ge S 15 0 k) S) (fun v T => S = T ∧ v = wAq S k) := by
  obtain ⟨_, _, _, _, _, _, _, _, _, hH, hW⟩ := h.2.2.2.1
  refine ⟨pq_imp y_weightsReaching (fun v T q => ⟨q.1, ?_⟩), pq_imp y_allWeights (fun v T q => ⟨q.1, ?_⟩)⟩
  · rw [q.2]
    exact (rchw_cg (fun i hi => hW k i hk hi)).symm
  · rw [q.2]
    exact (sumw_cg 9 (fun i hi => hW k i hk hi)).symm
def leav (p : Int32) : Prop := (0 : Int32).toInt ≤ p.toInt ∧ p.toInt ≤ (9999 : Int32).toInt
theorem rk_settle (h : IV S) (z : ge S 40 0 0 = 0) : RK (fun ec => if ec = 0 then 0 else if ec = 1 then 3 else if ec = 2 then 2 else 1) (F_X6_settle p p2 p3 S) (F_X7_settle p p2 p3) := by
  have l1 : (1 : Int32).toInt = 1 := by decide
  have lm1 : (-1 : Int32).toInt = -1 := by decide
  have l200 : (200 : Int32).toInt = 200 := by decide
  obtain ⟨H, hO, B, N, hP, hI, hs, hR, hn, hH, hW⟩ := h.2.2.2.1
  have h48 : 0 ≤ (ge S 40 0 48).toInt := (h.1 40 0 48).1
  have h0 := h.nq
  unfold RK
  have c6 : pk (F_X6_settle p p2 p3 S) (fun r T => S = T ∧ ((r.1 = 3 ∧ ¬ ie p (ge S 40 0 48)) ∨ (r.1 = 2 ∧ ie p (ge S 40 0 48) ∧ ¬ ic p2) ∨ (r.1 = 1 ∧ ie p (ge S 40 0 48) ∧ ic p2 ∧ ¬ leav p3) ∨ (r.1 = 0 ∧ ie p (ge S 40 0 48) ∧ ic p2 ∧ leav p3 ∧ ∃ k c : Nat, p.toInt = (k : Int) ∧ p2.toInt = (c : Int) ∧ STq S k c p2 p3 r.2))) := by
    unfold F_X6_settle
    refine pq_iv fun x14 e14 => pg_el (by rw [e14, hH]; exact h48) (fun hc => ?_) (fun hc => ⟨rfl, Or.inl ⟨rfl, fun q => hc ⟨q.1, by rw [e14, hH]; exact q.2⟩⟩⟩)
    have hc' : ie p (ge S 40 0 48) := ⟨hc.1, by have := hc.2; rw [e14, hH] at this; exact this⟩
    refine pg_cell (fun hc2 => ?_) (fun hc2 => ⟨rfl, Or.inr (Or.inl ⟨rfl, hc', hc2⟩)⟩)
    refine pg_w (fun hc3 => pg_n1 ?_) (fun hc3 => pg_n0 ⟨rfl, Or.inr (Or.inr (Or.inl ⟨rfl, hc', hc2, hc3⟩))⟩)
    obtain ⟨k, hp⟩ : ∃ k : Nat, p.toInt = (k : Int) := ⟨p.toInt.toNat, by have := hc.1; omega⟩
    have hk : (k : Int) < (ge S 40 0 48).toInt := by rw [← hp]; exact hc'.2
    obtain ⟨c, hp2, hc64⟩ := ic_nat hc2
    obtain ⟨yR, yA⟩ := y_hand (p2 := p2) h hp hk
    have ht := tops_tq B hc64
    have fin : ∀ v : Int32, STq S k c p2 p3 v → S = S ∧ (((0, v) : Nat × Int32).1 = 3 ∧ ¬ ie p (ge S 40 0 48) ∨ ((0, v) : Nat × Int32).1 = 2 ∧ ie p (ge S 40 0 48) ∧ ¬ ic p2 ∨ ((0, v) : Nat × Int32).1 = 1 ∧ ie p (ge S 40 0 48) ∧ ic p2 ∧ ¬ leav p3 ∨ ((0, v) : Nat × Int32).1 = 0 ∧ ie p (ge S 40 0 48) ∧ ic p2 ∧ leav p3 ∧ ∃ k c : Nat, p.toInt = (k : Int) ∧ p2.toInt = (c : Int) ∧ STq S k c p2 p3 ((0, v) : Nat × Int32).2) := fun v hv => ⟨rfl, Or.inr (Or.inr (Or.inr ⟨rfl, hc', hc2, hc3, k, c, hp, hp2, hv⟩))⟩
    refine pq_gd fun _ => pq_iv fun x31 e31 => ?_
    rw [cnNq hp] at e31
    rw [e31]
    refine pq_bd yR (fun v32 T q => ?_)
    obtain ⟨rfl, q32⟩ := q
    refine pq_gd fun _ => pq_iv fun x36 e36 => ?_
    rw [cnNq hp2] at e36
    rw [← e36] at ht
    refine pq_bb (fun d => pq_some (fin _ (Or.inl ⟨Or.inl (q32.symm.trans d), rfl⟩))) (fun d => ?_)
    refine pq_bb (fun d2 => pq_some (fin _ (Or.inl ⟨Or.inr (by rw [← ht, d2, lm1]), rfl⟩))) (fun d2 => ?_)
    have nm : ¬ tq S c = -1 := fun e => d2 (of_toInt (by rw [ht, e, lm1]))
    have nO : ¬ NOq S k c p2 := fun q => q.elim (fun e => d (q32.trans e)) nm
    obtain ⟨i1, i2⟩ := tq_in H hc64 nm
    refine pq_bd (y_valueOf (t := (tq S c).toNat) B (by rw [ht]; omega) (by omega)) (fun v39 T q => ?_)
    obtain ⟨rfl, q39⟩ := q
    refine pq_iv fun x42 e42 => pq_iv fun x43 e43 => ?_
    rw [e42, q39, q32] at e43
    refine pq_lp (fun (y : Int32 × Int32 × Int32 × Int32) V => S = V ∧ y.1 = p ∧ y.2.1 = v32 ∧ y.2.2.1 = x43 ∧ ∃ n : Nat, y.2.2.2.toInt = (n : Int) ∧ 1 ≤ n ∧ n ≤ 201 ∧ ∀ n' : Nat, 1 ≤ n' → n' < n → ¬ SPq S k c p2 p3 n') (fun _ _ (r : Nat × Int32) T => S = T ∧ ((r.1 = 3 ∧ ¬ ie p (ge S 40 0 48)) ∨ (r.1 = 2 ∧ ie p (ge S 40 0 48) ∧ ¬ ic p2) ∨ (r.1 = 1 ∧ ie p (ge S 40 0 48) ∧ ic p2 ∧ ¬ leav p3) ∨ (r.1 = 0 ∧ ie p (ge S 40 0 48) ∧ ic p2 ∧ leav p3 ∧ ∃ k c : Nat, p.toInt = (k : Int) ∧ p2.toInt = (c : Int) ∧ STq S k c p2 p3 r.2))) ?_ fuel (p, v32, x43, 1) S ⟨rfl, rfl, rfl, rfl, 1, l1, by omega, by omega, fun n' h1 h2 => absurd h1 (by omega)⟩
    intro k2 hk2 y V hy
    obtain ⟨a1, a4, a6, a7⟩ := y
    obtain ⟨rfl, f1, f2, f3, n, i1, i2, i3, i4⟩ := hy
    dsimp only at f1 f2 f3 i1
    subst f1
    subst f2
    subst f3
    unfold B_X6_settle_84
    dsimp only
    refine pq_lt (fun c0 => pq_some (fin _ (Or.inr ⟨nO, Or.inl ⟨rfl, fun n' h1 h2 => i4 n' h1 (by omega)⟩⟩))) (fun c0 => ?_)
    have ea : a7 = Int32.ofNat n := ofN i1 (by omega)
    refine pq_iv fun x2 e2 => pq_iv fun x3 e3 => pq_iv fun x4 e4 => pq_gd fun _ => pq_iv fun x6 e6 => ?_
    rw [cnNq hp] at e6
    rw [e6]
    refine pq_bd yA (fun v7 T q => ?_)
    obtain ⟨rfl, q7⟩ := q
    refine pq_iv fun x10 e10 => pq_iv fun x11 e11 => ?_
    have ex : x11 = ge S 40 0 32 * ((Int32.ofNat n - 1) * wRq S k p2 + wAq S k) := by rw [e11, e10, e4, e3, e2, q7, q32, ea, N.1]
    refine pq_bb (fun d => pq_iv fun x13 e13 => ?_) (fun d => pq_some (fin _ (Or.inr ⟨nO, Or.inr ⟨n, i2, by omega, i1, (fun q => d (by rw [ex, e43]; exact q)), i4⟩⟩)))
    have g13 : x13.toInt = a7.toInt + 1 := by rw [e13]; exact ti_inc (by omega)
    refine hk2 (a1, a4, a6, x13) S ⟨rfl, rfl, rfl, rfl, n + 1, by dsimp only; omega, by omega, by omega, fun n' h1 h2 => ?_⟩
    by_cases dn : n' = n
    · rw [dn]
      exact fun q => q (by rw [ex, e43] at d; exact d)
    · exact i4 n' h1 (by omega)
  refine pq_imp c6 (fun r T1 q => ?_)
  obtain ⟨rfl, q⟩ := q
  rcases q with ⟨q1, q2⟩ | ⟨q1, q2, q3⟩ | ⟨q1, q2, q3, q4⟩ | ⟨q1, q2, q3, q4, k, c, hp, hp2, q5⟩
  · unfold F_X7_settle
    refine pg7_0 z (pg7_hand h48 (fun c => absurd c q2) (fun _ => pg_b0 ?_))
    unfold B_X7_settle_19
    exact pg7_no z (by decide) (pq_some ⟨(h.wr 1).2.2.2, by rw [ge_pus, q1]; rfl, fun d => by omega⟩)
  · unfold F_X7_settle
    refine pg7_0 z (pg7_hand h48 (fun _ => pg_b1 ?_) (fun c => absurd q2 c))
    unfold B_X7_settle_19
    refine pg7_ok z (pg7_cell (fun c => absurd c q3) (fun _ => pg_b0 ?_))
    unfold B_X7_settle_39
    exact pg7_no z (by decide) (pq_some ⟨(h.wr 2).2.2.2, by rw [ge_pus, q1]; rfl, fun d => by omega⟩)
  · unfold F_X7_settle
    refine pg7_0 z (pg7_hand h48 (fun _ => pg_b1 ?_) (fun c => absurd q2 c))
    unfold B_X7_settle_19
    refine pg7_ok z (pg7_cell (fun _ => pg_b1 ?_) (fun c => absurd q3 c))
    unfold B_X7_settle_39
    refine pg7_ok z (pg_7 (fun c => absurd c q4) (fun _ => pg_b0 ?_))
    unfold B_X7_settle_63
    exact pg7_no z (by decide) (pq_some ⟨(h.wr 3).2.2.2, by rw [ge_pus, q1]; rfl, fun d => by omega⟩)
  · have hc64 : c < 64 := by have := q3.2; omega
    unfold F_X7_settle
    refine pg7_0 z (pg7_hand h48 (fun _ => pg_b1 ?_) (fun c => absurd q2 c))
    unfold B_X7_settle_19
    refine pg7_ok z (pg7_cell (fun _ => pg_b1 ?_) (fun c => absurd q3 c))
    unfold B_X7_settle_39
    refine pg7_ok z (pg_7 (fun _ => pg_b1 ?_) (fun c => absurd q4 c))
    unfold B_X7_settle_63
    refine pg7_ok z ?_
    have fin : ∀ v : Int32, STq S k c p2 p3 v → RLv S ∧ ge S 40 0 0 = (if r.1 = 0 then (0 : Int32) else if r.1 = 1 then 3 else if r.1 = 2 then 2 else 1) ∧ (r.1 = 0 → r.2 = v) := fun v hv => ⟨h.2.2.2, by rw [z, if_pos q1], fun _ => q5.un hv⟩
    refine pq_bd (q_tq H hp2 hc64) (fun v20 T q => ?_)
    obtain ⟨rfl, q20⟩ := q
    refine pq_bd (q_weightFor hp) (fun v23 T q => ?_)
    obtain ⟨rfl, q23⟩ := q
    have w23 : v23 = wRq S k p2 := q23
    refine pq_bb (fun d => pq_some (fin _ (Or.inl ⟨Or.inr (by rw [← q20, d, lm1]), rfl⟩))) (fun d => ?_)
    refine pq_bb (fun d2 => pq_some (fin _ (Or.inl ⟨Or.inl (w23.symm.trans d2), rfl⟩))) (fun d2 => ?_)
    have nm : ¬ tq S c = -1 := fun e => d (of_toInt (by rw [q20, e, lm1]))
    have nO : ¬ NOq S k c p2 := fun q => q.elim (fun e => d2 (w23.trans e)) nm
    obtain ⟨i1, i2⟩ := tq_in H hc64 nm
    have g20 : v20.toInt = (((tq S c).toNat : Nat) : Int) := by rw [q20]; omega
    refine pq_lp (fun (y : Int32 × Int32 × Int32 × Int32 × Int32) V => S = V ∧ y.1 = p ∧ y.2.1 = p3 ∧ y.2.2.1 = v20 ∧ y.2.2.2.1 = v23 ∧ ∃ n : Nat, y.2.2.2.2.toInt = (n : Int) ∧ 1 ≤ n ∧ n ≤ 201 ∧ ∀ n' : Nat, 1 ≤ n' → n' < n → ¬ SPq S k c p2 p3 n') (fun _ _ (v : Int32) T => RLv T ∧ ge T 40 0 0 = (if r.1 = 0 then (0 : Int32) else if r.1 = 1 then 3 else if r.1 = 2 then 2 else 1) ∧ (r.1 = 0 → r.2 = v)) ?_ fuel (p, p3, v20, v23, 1) S ⟨rfl, rfl, rfl, rfl, rfl, 1, l1, by omega, by omega, fun n' h1 h2 => absurd h1 (by omega)⟩
    intro k2 hk2 y V hy
    obtain ⟨a1, a3, a4, a5, a6⟩ := y
    obtain ⟨rfl, f1, f2, f3, f4, n, i1, i2, i3, i4⟩ := hy
    dsimp only at f1 f2 f3 f4 i1
    subst f1
    subst f2
    subst f3
    subst f4
    unfold B_X7_settle_103
    dsimp only
    refine pq_lt (fun c0 => pq_some (fin _ (Or.inr ⟨nO, Or.inl ⟨rfl, fun n' h1 h2 => i4 n' h1 (by omega)⟩⟩))) (fun c0 => ?_)
    have ea : a6 = Int32.ofNat n := ofN i1 (by omega)
    refine pq_iv fun x2 e2 => pq_iv fun x3 e3 => pq_iv fun x4 e4 => ?_
    refine pq_bd (q_weightsOf hp) (fun v5 T q => ?_)
    obtain ⟨rfl, q5'⟩ := q
    refine pq_iv fun x8 e8 => pq_iv fun x9 e9 => pq_gd fun _ => pq_iv fun x11 e11 => pq_iv fun x12 e12 => pq_iv fun x13 e13 => ?_
    have w5 : v5 = wAq S k := q5'
    have ex : x9 = ge S 40 0 32 * ((Int32.ofNat n - 1) * wRq S k p2 + wAq S k) := by rw [e9, e8, e4, e3, e2, w5, w23, ea]
    have ey : x13 = (ge S 48 0 (tq S c).toNat + a3) * wRq S k p2 := by rw [e13, e12, e11, cnNq g20, w23]
    refine pq_bb (fun d => pq_iv fun x15 e15 => ?_) (fun d => pq_some (fin _ (Or.inr ⟨nO, Or.inr ⟨n, i2, by omega, i1, (fun q => d (by rw [ex, ey]; exact q)), i4⟩⟩)))
    have g15 : x15.toInt = a6.toInt + 1 := by rw [e15]; exact ti_inc (by omega)
    refine hk2 (a1, a3, a4, a5, x15) S ⟨rfl, rfl, rfl, rfl, rfl, n + 1, by dsimp only; omega, by omega, by omega, fun n' h1 h2 => ?_⟩
    by_cases dn : n' = n
    · rw [dn]
      exact fun q => q (by rw [ex, ey] at d; exact d)
    · exact i4 n' h1 (by omega)
end SET
/-! cut -/
section CUT
variable {S T : fS} {p p2 p3 p4 p5 : Int32} {k : Nat}
def fmq (x : Int32) : Int32 := if (0 : Int32) ≤ x ^^^ 100 then x - x / 100 * 100 else if x - x / 100 * 100 = 0 then x - x / 100 * 100 else x - x / 100 * 100 + 100
def r100 (x : Int32) : Int32 := x + 100 - (x + 100) / 100 * 100
theorem fm_eq : ∀ n : Nat, n < 202 → fmq (Int32.ofNat n - 1) = r100 (Int32.ofNat n - 1) := by decide +kernel
theorem fm_r {x : Int32} (h : -1 ≤ x.toInt ∧ x.toInt ≤ 200) : fmq x = r100 x := by
  have l1 : (1 : Int32).toInt = 1 := by decide
  have a : (Int32.ofNat (x.toInt + 1).toNat).toInt = (((x.toInt + 1).toNat : Nat) : Int) := Int32.toInt_ofNat_of_lt (by omega)
  have e : x = Int32.ofNat (x.toInt + 1).toNat - 1 := of_toInt (by rw [ti_sub (by rw [a, l1]; omega) (by rw [a, l1]; omega), a, l1]; omega)
  rw [e]
  exact fm_eq _ (by omega)
theorem y_floorMod {x : Int32} : pk (F_J9_floorMod_7cf53 x 100 S) (fun v T => S = T ∧ v = fmq x) := by
  unfold F_J9_floorMod_7cf53 fmq
  refine pq_gd fun _ => pq_iv fun x2 e2 => pq_iv fun x3 e3 => ?_
  rw [e3, e2]
  refine pq_bb (fun d => pq_some ⟨rfl, by rw [if_pos d]⟩) (fun d => ?_)
  rw [if_neg d]
  exact pq_bb (fun d2 => pq_some ⟨rfl, by rw [if_pos d2]⟩) (fun d2 => pq_iv fun x6 e6 => pq_some ⟨rfl, by rw [if_neg d2, e6]⟩)
def m3q (i : Nat) : Int32 := Int32.ofNat i - Int32.ofNat i / 3 * 3
theorem m3_bd : ∀ i : Nat, i < 9 → 0 ≤ (m3q i).toInt ∧ (m3q i).toInt ≤ 2 := by decide +kernel
def tkq (aim late : Int32) (i : Nat) : Int32 := aim + m3q i - 1 + late
theorem tk_bd {aim late : Int32} {i : Nat} (hi : i < 9) (h1 : 0 ≤ aim.toInt ∧ aim.toInt ≤ 99) (h2 : 0 ≤ late.toInt ∧ late.toInt ≤ 9) : -1 ≤ (tkq aim late i).toInt ∧ (tkq aim late i).toInt ≤ 200 := by
  have l1 : (1 : Int32).toInt = 1 := by decide
  have b := m3_bd i hi
  have a1 : (aim + m3q i).toInt = aim.toInt + (m3q i).toInt := ti_add (by omega) (by omega)
  have a2 : (aim + m3q i - 1).toInt = aim.toInt + (m3q i).toInt - 1 := by rw [ti_sub (by rw [a1, l1]; omega) (by rw [a1, l1]; omega), a1, l1]
  unfold tkq
  rw [ti_add (by rw [a2]; omega) (by rw [a2]; omega), a2]
  omega
def CUq (S : fS) (k : Nat) (aim string late : Int32) (n : Nat) (v : Int32) : Prop := ACC (fun i => r100 (tkq aim late i) = string) (fun i u => u + ge S 59 k i) n v
def cok (p2 p3 p4 p5 : Int32) : Prop := ((0 : Int32).toInt ≤ p2.toInt ∧ p2.toInt ≤ (99 : Int32).toInt) ∧ ((0 : Int32).toInt ≤ p3.toInt ∧ p3.toInt ≤ (99 : Int32).toInt) ∧ ((0 : Int32).toInt ≤ p4.toInt ∧ p4.toInt ≤ (9 : Int32).toInt) ∧ ((0 : Int32).toInt ≤ p5.toInt ∧ p5.toInt ≤ (999 : Int32).toInt)
def latq (S : fS) (p4 p5 : Int32) : Int32 := if ge S 40 0 36 + 1 < p5 then p4 else 0
theorem rk_cut (h : IV S) (z : ge S 40 0 0 = 0) : RK (fun ec => if ec = 0 then 0 else if ec = 1 then 2 else 1) (F_X6_cut p p2 p3 p4 p5 S) (F_X7_cut p p2 p3 p4 p5) := by
  have l0 : (0 : Int32).toInt = 0 := by decide
  have l9 : (9 : Int32).toInt = 9 := by decide
  have l99 : (99 : Int32).toInt = 99 := by decide
  obtain ⟨H, hO, B, N, hP, hI, hs, hR, hn, hH, hW⟩ := h.2.2.2.1
  have h48 : 0 ≤ (ge S 40 0 48).toInt ∧ (ge S 40 0 48).toInt ≤ 6 := h.1 40 0 48
  have lat : cok p2 p3 p4 p5 → 0 ≤ (latq S p4 p5).toInt ∧ (latq S p4 p5).toInt ≤ 9 := fun q => by
    have b := q.2.2.1
    rw [l0, l9] at b
    unfold latq
    by_cases d : ge S 40 0 36 + 1 < p5
    · rw [if_pos d]; exact b
    · rw [if_neg d]; decide
  unfold RK
  have c6 : pk (F_X6_cut p p2 p3 p4 p5 S) (fun r T => S = T ∧ ((r.1 = 3 ∧ ¬ ie p (ge S 40 0 48)) ∨ (r.1 = 1 ∧ ie p (ge S 40 0 48) ∧ ¬ cok p2 p3 p4 p5) ∨ (r.1 = 0 ∧ ie p (ge S 40 0 48) ∧ cok p2 p3 p4 p5 ∧ ∃ k : Nat, p.toInt = (k : Int) ∧ CUq S k p2 p3 (latq S p4 p5) 9 r.2))) := by
    unfold F_X6_cut
    refine pq_iv fun x36 e36 => pg_el (by rw [e36, hH]; exact h48.1) (fun hc => ?_) (fun hc => ⟨rfl, Or.inl ⟨rfl, fun q => hc ⟨q.1, by rw [e36, hH]; exact q.2⟩⟩⟩)
    have hc' : ie p (ge S 40 0 48) := ⟨hc.1, by have := hc.2; rw [e36, hH] at this; exact this⟩
    obtain ⟨k, hp⟩ : ∃ k : Nat, p.toInt = (k : Int) := ⟨p.toInt.toNat, by have := hc.1; omega⟩
    have hk : (k : Int) < (ge S 40 0 48).toInt := by rw [← hp]; exact hc'.2
    have no : ¬ cok p2 p3 p4 p5 → pk (B_X6_cut_32 p p2 p3 p4 p5 S) (fun r T => S = T ∧ ((r.1 = 3 ∧ ¬ ie p (ge S 40 0 48)) ∨ (r.1 = 1 ∧ ie p (ge S 40 0 48) ∧ ¬ cok p2 p3 p4 p5) ∨ (r.1 = 0 ∧ ie p (ge S 40 0 48) ∧ cok p2 p3 p4 p5 ∧ ∃ k : Nat, p.toInt = (k : Int) ∧ CUq S k p2 p3 (latq S p4 p5) 9 r.2))) := fun q => by
      unfold B_X6_cut_32 B_X6_cut_33
      exact pg_n0 ⟨rfl, Or.inr (Or.inl ⟨rfl, hc', q⟩)⟩
    have no2 : ¬ cok p2 p3 p4 p5 → pk (B_X6_cut_63 p p2 p3 p4 p5 S) (fun r T => S = T ∧ ((r.1 = 3 ∧ ¬ ie p (ge S 40 0 48)) ∨ (r.1 = 1 ∧ ie p (ge S 40 0 48) ∧ ¬ cok p2 p3 p4 p5) ∨ (r.1 = 0 ∧ ie p (ge S 40 0 48) ∧ cok p2 p3 p4 p5 ∧ ∃ k : Nat, p.toInt = (k : Int) ∧ CUq S k p2 p3 (latq S p4 p5) 9 r.2))) := fun q => by
      unfold B_X6_cut_63 B_X6_cut_64
      exact pg_n0 ⟨rfl, Or.inr (Or.inl ⟨rfl, hc', q⟩)⟩
    refine pg_w (fun c2 => pg_b1 ?_) (fun q => pg_b0 (no (fun d => q d.1)))
    refine pg_w (fun c3 => pg_b1 ?_) (fun q => pg_b0 (no (fun d => q d.2.1)))
    unfold B_X6_cut_33
    refine pg_n1 (pg_w (fun c4 => pg_b1 ?_) (fun q => pg_b0 (no2 (fun d => q d.2.2.1))))
    refine pg_w (fun c5 => pg_b1 ?_) (fun q => pg_b0 (no2 (fun d => q d.2.2.2)))
    have ok : cok p2 p3 p4 p5 := ⟨c2, c3, c4, c5⟩
    unfold B_X6_cut_64
    refine pg_n1 (pq_iv fun x21 e21 => pq_iv fun x22 e22 => ?_)
    have f22 : x22 = ge S 40 0 36 + 1 := by rw [e22, e21, N.2.2.2.1]
    have go : pk (B_X6_cut_87 p p2 p3 (latq S p4 p5) S) (fun r T => S = T ∧ ((r.1 = 3 ∧ ¬ ie p (ge S 40 0 48)) ∨ (r.1 = 1 ∧ ie p (ge S 40 0 48) ∧ ¬ cok p2 p3 p4 p5) ∨ (r.1 = 0 ∧ ie p (ge S 40 0 48) ∧ cok p2 p3 p4 p5 ∧ ∃ k : Nat, p.toInt = (k : Int) ∧ CUq S k p2 p3 (latq S p4 p5) 9 r.2))) := by
      unfold B_X6_cut_87
      refine pq_lp (fun (y : Int32 × Int32 × Int32 × Int32 × Int32 × Int32) V => S = V ∧ y.1 = p ∧ y.2.1 = p2 ∧ y.2.2.1 = p3 ∧ y.2.2.2.1 = latq S p4 p5 ∧ ∃ i : Nat, y.2.2.2.2.2.toInt = (i : Int) ∧ i ≤ 9 ∧ CUq S k p2 p3 (latq S p4 p5) i y.2.2.2.2.1) (fun _ _ (r : Nat × Int32) T => S = T ∧ ((r.1 = 3 ∧ ¬ ie p (ge S 40 0 48)) ∨ (r.1 = 1 ∧ ie p (ge S 40 0 48) ∧ ¬ cok p2 p3 p4 p5) ∨ (r.1 = 0 ∧ ie p (ge S 40 0 48) ∧ cok p2 p3 p4 p5 ∧ ∃ k : Nat, p.toInt = (k : Int) ∧ CUq S k p2 p3 (latq S p4 p5) 9 r.2))) ?_ fuel (p, p2, p3, latq S p4 p5, 0, 0) S ⟨rfl, rfl, rfl, rfl, rfl, 0, l0, Nat.zero_le _, rfl⟩
      intro k2 hk2 y V hy
      obtain ⟨a1, a2, a3, a6, a7, a8⟩ := y
      obtain ⟨rfl, f1, f2, f3, f4, i, i1, i2, i3⟩ := hy
      dsimp only at f1 f2 f3 f4 i1 i3
      subst f1
      subst f2
      subst f3
      unfold B_X6_cut_95
      dsimp only
      refine pq_le (fun c9 => pq_some ⟨rfl, Or.inr (Or.inr ⟨rfl, hc', ok, k, hp, ?_⟩)⟩) (fun c9 => ?_)
      · have : i = 9 := by omega
        rw [this] at i3
        exact i3
      have i9 : i < 9 := by omega
      have ea : a8 = Int32.ofNat i := isN9 i1 (by omega)
      refine pq_iv fun x4 e4 => pq_iv fun x5 e5 => pq_iv fun x6 e6 => pq_iv fun x7 e7 => ?_
      have t7 : x7 = tkq a2 (latq S p4 p5) i := by rw [e7, e6, e5, e4, ea, f4]; rfl
      rw [l0, l99] at c2
      have tb := tk_bd i9 c2 (lat ok)
      refine pq_bd y_floorMod (fun v8 T q => ?_)
      obtain ⟨rfl, q8⟩ := q
      rw [t7, fm_r tb] at q8
      have nx : ∀ t : Int32, CUq S k a2 a3 (latq S p4 p5) (i + 1) (a7 + t) → pk (B_X6_cut_143 k2 a1 a2 a3 a6 a8 t a7 S) (fun r T => S = T ∧ ((r.1 = 3 ∧ ¬ ie a1 (ge S 40 0 48)) ∨ (r.1 = 1 ∧ ie a1 (ge S 40 0 48) ∧ ¬ cok a2 a3 p4 p5) ∨ (r.1 = 0 ∧ ie a1 (ge S 40 0 48) ∧ cok a2 a3 p4 p5 ∧ ∃ k : Nat, a1.toInt = (k : Int) ∧ CUq S k a2 a3 (latq S p4 p5) 9 r.2))) := by
        intro t ht
        unfold B_X6_cut_143
        refine pq_iv fun x1 e1 => pq_iv fun x2 e2 => ?_
        have g2 : x2.toInt = a8.toInt + 1 := by rw [e2]; exact ti_inc (by omega)
        exact hk2 (a1, a2, a3, a6, x1, x2) S ⟨rfl, rfl, rfl, rfl, f4, i + 1, by dsimp only; omega, by omega, by dsimp only; rw [e1]; exact ht⟩
      refine pq_bb (fun d => pq_gd fun _ => pq_iv fun x13 e13 => pq_bd y_weightAt (fun v14 T q => ?_)) (fun d => nx 0 (i3.no (fun q => d (q8.trans q)) (Int32.add_zero _)))
      obtain ⟨rfl, q14⟩ := q
      refine nx v14 (i3.yes (q8.symm.trans d) ?_)
      rw [q14, e13, cnNq hp, ea]
      exact congrArg (fun w => a7 + w) (hW k i hk i9).symm
    refine pq_bb (fun d => ?_) (fun d => ?_)
    · rw [show latq S p4 p5 = p4 by unfold latq; rw [if_pos (by rw [← f22]; exact d)]] at go
      rw [show latq S p4 p5 = p4 by unfold latq; rw [if_pos (by rw [← f22]; exact d)]]
      exact go
    · rw [show latq S p4 p5 = 0 by unfold latq; rw [if_neg (by rw [← f22]; exact d)]] at go
      rw [show latq S p4 p5 = 0 by unfold latq; rw [if_neg (by rw [← f22]; exact d)]]
      exact go
  refine pq_imp c6 (fun r T1 q => ?_)
  obtain ⟨rfl, q⟩ := q
  rcases q with ⟨q1, q2⟩ | ⟨q1, q2, q3⟩ | ⟨q1, q2, q3, k, hp, q5⟩
  · unfold F_X7_cut
    refine pg7_0 z (pg7_hand h48.1 (fun c => absurd c q2) (fun _ => pg_b0 ?_))
    unfold B_X7_cut_19
    exact pg7_no z (by decide) (pq_some ⟨(h.wr 1).2.2.2, by rw [ge_pus, q1]; rfl, fun d => by omega⟩)
  · have no : pk (B_X7_cut_70 p p2 p3 p4 p5 S) (fun v2 T2 => RLv T2 ∧ ge T2 40 0 0 = (if r.1 = 0 then (0 : Int32) else if r.1 = 1 then 2 else 1) ∧ (r.1 = 0 → r.2 = v2)) := by
      unfold B_X7_cut_70 B_X7_cut_75
      exact pg7_no z (by decide) (pq_some ⟨(h.wr 2).2.2.2, by rw [ge_pus, q1]; rfl, fun d => by omega⟩)
    unfold F_X7_cut
    refine pg7_0 z (pg7_hand h48.1 (fun _ => pg_b1 ?_) (fun c => absurd q2 c))
    unfold B_X7_cut_19
    refine pg7_ok z (pg_7 (fun c2 => pg_b1 ?_) (fun _ => pg_b0 no))
    refine pg_7 (fun c3 => pg_b1 ?_) (fun _ => pg_b0 no)
    refine pg_7 (fun c4 => pg_b1 ?_) (fun _ => pg_b0 no)
    exact pg_7 (fun c5 => absurd ⟨c2, c3, c4, c5⟩ q3) (fun _ => pg_b0 no)
  · unfold F_X7_cut
    refine pg7_0 z (pg7_hand h48.1 (fun _ => pg_b1 ?_) (fun c => absurd q2 c))
    unfold B_X7_cut_19
    refine pg7_ok z (pg_7 (fun _ => pg_b1 ?_) (fun c => absurd q3.1 c))
    refine pg_7 (fun _ => pg_b1 ?_) (fun c => absurd q3.2.1 c)
    refine pg_7 (fun _ => pg_b1 ?_) (fun c => absurd q3.2.2.1 c)
    refine pg_7 (fun _ => pg_b1 ?_) (fun c => absurd q3.2.2.2 c)
    unfold B_X7_cut_75
    refine pg7_ok z (pq_iv fun x18 e18 => pq_iv fun x19 e19 => ?_)
    have f19 : x19 = ge S 40 0 36 + 1 := by rw [e19, e18]
    have go : ∀ a7 : Int32, a7 = latq S p4 p5 → pk (B_X7_cut_104 p p2 p3 0 a7 S) (fun v2 T2 => RLv T2 ∧ ge T2 40 0 0 = (if r.1 = 0 then (0 : Int32) else if r.1 = 1 then 2 else 1) ∧ (r.1 = 0 → r.2 = v2)) := by
      intro a7 h7
      unfold B_X7_cut_104
      refine pq_lp (fun (y : Int32 × Int32 × Int32 × Int32 × Int32 × Int32) V => S = V ∧ y.1 = p ∧ y.2.1 = p2 ∧ y.2.2.1 = p3 ∧ y.2.2.2.2.1 = latq S p4 p5 ∧ ∃ i : Nat, y.2.2.2.2.2.toInt = (i : Int) ∧ i ≤ 9 ∧ CUq S k p2 p3 (latq S p4 p5) i y.2.2.2.1) (fun _ _ (v2 : Int32) T2 => RLv T2 ∧ ge T2 40 0 0 = (if r.1 = 0 then (0 : Int32) else if r.1 = 1 then 2 else 1) ∧ (r.1 = 0 → r.2 = v2)) ?_ fuel (p, p2, p3, 0, a7, 0) S ⟨rfl, rfl, rfl, rfl, h7, 0, l0, Nat.zero_le _, rfl⟩
      intro k2 hk2 y V hy
      obtain ⟨a1, a2, a3, a6, a7, a8⟩ := y
      obtain ⟨rfl, f1, f2, f3, f4, i, i1, i2, i3⟩ := hy
      dsimp only at f1 f2 f3 f4 i1 i3
      subst f1
      subst f2
      subst f3
      unfold B_X7_cut_109
      dsimp only
      refine pq_le (fun c9 => pq_some ⟨h.2.2.2, by rw [z, if_pos q1], fun _ => ?_⟩) (fun c9 => ?_)
      · have : i = 9 := by omega
        rw [this] at i3
        exact ACC.un q5 i3
      have i9 : i < 9 := by omega
      have ea : a8 = Int32.ofNat i := isN9 i1 (by omega)
      refine pq_iv fun x4 e4 => pq_iv fun x5 e5 => pq_iv fun x6 e6 => pq_iv fun x7 e7 => pq_iv fun x8 e8 => pq_iv fun x9 e9 => ?_
      have t9 : x9 = r100 (tkq a2 (latq S p4 p5) i) := by rw [e9, e8, e7, e6, e5, e4, ea, f4]; rfl
      have nx : ∀ t : Int32, CUq S k a2 a3 (latq S p4 p5) (i + 1) (a6 + t) → pk (B_X7_cut_152 k2 a1 a2 a3 a7 a8 t a6 S) (fun v2 T2 => RLv T2 ∧ ge T2 40 0 0 = (if r.1 = 0 then (0 : Int32) else if r.1 = 1 then 2 else 1) ∧ (r.1 = 0 → r.2 = v2)) := by
        intro t ht
        unfold B_X7_cut_152
        refine pq_iv fun x1 e1 => pq_iv fun x2 e2 => ?_
        have g2 : x2.toInt = a8.toInt + 1 := by rw [e2]; exact ti_inc (by omega)
        exact hk2 (a1, a2, a3, x1, a7, x2) S ⟨rfl, rfl, rfl, rfl, f4, i + 1, by dsimp only; omega, by omega, by dsimp only; rw [e1]; exact ht⟩
      refine pq_bb (fun d => pq_gd fun _ => pq_gd fun _ => pq_iv fun x13 e13 => nx x13 (i3.yes (t9.symm.trans d) ?_)) (fun d => nx 0 (i3.no (fun q => d (t9.trans q)) (Int32.add_zero _)))
      rw [e13, cnNq hp, cnNq i1]
    refine pq_bb (fun d => go p4 ?_) (fun d => go 0 ?_)
    · unfold latq; rw [if_pos (by rw [← f19]; exact d)]
    · unfold latq; rw [if_neg (by rw [← f19]; exact d)]
end CUT
