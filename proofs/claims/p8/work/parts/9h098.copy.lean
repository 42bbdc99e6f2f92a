/-! a box is copied -/
theorem pb_cp {S T : fS} {a r0 r1 n : Nat} (hr : r0 ≠ r1) (E : T = pb S a r0 (fun j => if j < n then ge S a r1 j else ge S a r0 j)) : T.2 = S.2 ∧ (∀ b i j : Nat, ¬ (b = a ∧ i = r0) → ge T b i j = ge S b i j) ∧ ∀ j : Nat, j < n → ge T a r0 j = ge S a r1 j := by
  refine ⟨by rw [E]; rfl, fun b i j h => by rw [E, ge_pb, if_neg h], fun j hj => by rw [E, ge_pb, if_pos ⟨rfl, rfl⟩, if_pos hj]⟩
def CPh (S T : fS) (r0 r1 : Nat) : Prop := T.2 = S.2 ∧ (∀ a i j : Nat, ¬ (2 ≤ a ∧ a ≤ 10 ∧ i = r0) → ge T a i j = ge S a i j) ∧ ge T 2 r0 0 = ge S 2 r1 0 ∧ (∀ a j : Nat, 3 ≤ a → a ≤ 9 → j < 24 → ge T a r0 j = ge S a r1 j) ∧ ∀ j : Nat, j < 64 → ge T 10 r0 j = ge S 10 r1 j
def CPb (S T : fS) (r0 r1 m : Nat) : Prop := (∀ a i j : Nat, ¬ (1 ≤ a ∧ a ≤ 10 ∧ i = r0) → ge T a i j = ge S a i j) ∧ ge T 2 r0 0 = ge S 2 r1 0 ∧ (∀ a j : Nat, 3 ≤ a → a ≤ 9 → j < 24 → ge T a r0 j = ge S a r1 j) ∧ (∀ j : Nat, j < 64 → ge T 10 r0 j = ge S 10 r1 j) ∧ (∀ j : Nat, 1 ≤ j → j ≤ 12 → j ≠ 11 → ge T 1 r0 j = ge S 1 r1 j) ∧ (∀ k : Nat, k < m → gr T 11 r0 k = gr S 11 r1 k) ∧ (∀ a i j : Nat, ¬ (a = 11 ∧ i = r0) → gr T a i j = gr S a i j) ∧ T.2.2 = S.2.2
section CPY
variable {S T : fS} {r0 r1 m : Nat}
theorem y_copyH (hr : r0 ≠ r1) : pk (F_X2_copyFrom r0 r1 S) (fun _ T => CPh S T r0 r1) := by
  have c24 : (24 : Int32).toNatClampNeg = 24 := by decide
  have c64 : (64 : Int32).toNatClampNeg = 64 := by decide
  unfold F_X2_copyFrom
  rw [c24, c64]
  refine pq_iv fun x1 e1 => pq_sv fun S2 E2 => pq_sv fun S3 E3 => pq_sv fun S4 E4 => pq_sv fun S5 E5 => pq_sv fun S6 E6 => pq_sv fun S7 E7 => pq_sv fun S8 E8 => pq_sv fun S9 E9 => pq_sv fun S10 E10 => pq_some ?_
  obtain ⟨f3, g3, h3⟩ := pb_cp hr E3
  obtain ⟨f4, g4, h4⟩ := pb_cp hr E4
  obtain ⟨f5, g5, h5⟩ := pb_cp hr E5
  obtain ⟨f6, g6, h6⟩ := pb_cp hr E6
  obtain ⟨f7, g7, h7⟩ := pb_cp hr E7
  obtain ⟨f8, g8, h8⟩ := pb_cp hr E8
  obtain ⟨f9, g9, h9⟩ := pb_cp hr E9
  obtain ⟨f10, g10, h10⟩ := pb_cp hr E10
  have g2 : ∀ a i j : Nat, ¬ (a = 2 ∧ i = r0) → ge S2 a i j = ge S a i j := fun a i j h => by rw [E2, ge_pu, if_neg (fun q => h ⟨q.1, q.2.1⟩)]
  refine ⟨by rw [f10, f9, f8, f7, f6, f5, f4, f3, E2]; rfl, fun a i j h => ?_, ?_, fun a j ha hb hj => ?_, fun j hj => ?_⟩
  · rw [g10 a i j (fun q => h ⟨by omega, by omega, q.2⟩), g9 a i j (fun q => h ⟨by omega, by omega, q.2⟩), g8 a i j (fun q => h ⟨by omega, by omega, q.2⟩), g7 a i j (fun q => h ⟨by omega, by omega, q.2⟩), g6 a i j (fun q => h ⟨by omega, by omega, q.2⟩), g5 a i j (fun q => h ⟨by omega, by omega, q.2⟩), g4 a i j (fun q => h ⟨by omega, by omega, q.2⟩), g3 a i j (fun q => h ⟨by omega, by omega, q.2⟩), g2 a i j (fun q => h ⟨by omega, by omega, q.2⟩)]
  · rw [g10 2 r0 0 (by omega), g9 2 r0 0 (by omega), g8 2 r0 0 (by omega), g7 2 r0 0 (by omega), g6 2 r0 0 (by omega), g5 2 r0 0 (by omega), g4 2 r0 0 (by omega), g3 2 r0 0 (by omega), E2, ge_pus, e1]
  · have : a = 3 ∨ a = 4 ∨ a = 5 ∨ a = 6 ∨ a = 7 ∨ a = 8 ∨ a = 9 := by omega
    rcases this with rfl | rfl | rfl | rfl | rfl | rfl | rfl
    · rw [g10 3 r0 j (by omega), g9 3 r0 j (by omega), g8 3 r0 j (by omega), g7 3 r0 j (by omega), g6 3 r0 j (by omega), g5 3 r0 j (by omega), g4 3 r0 j (by omega), h3 j hj, g2 3 r1 j (by omega)]
    · rw [g10 4 r0 j (by omega), g9 4 r0 j (by omega), g8 4 r0 j (by omega), g7 4 r0 j (by omega), g6 4 r0 j (by omega), g5 4 r0 j (by omega), h4 j hj, g3 4 r1 j (by omega), g2 4 r1 j (by omega)]
    · rw [g10 5 r0 j (by omega), g9 5 r0 j (by omega), g8 5 r0 j (by omega), g7 5 r0 j (by omega), g6 5 r0 j (by omega), h5 j hj, g4 5 r1 j (by omega), g3 5 r1 j (by omega), g2 5 r1 j (by omega)]
    · rw [g10 6 r0 j (by omega), g9 6 r0 j (by omega), g8 6 r0 j (by omega), g7 6 r0 j (by omega), h6 j hj, g5 6 r1 j (by omega), g4 6 r1 j (by omega), g3 6 r1 j (by omega), g2 6 r1 j (by omega)]
    · rw [g10 7 r0 j (by omega), g9 7 r0 j (by omega), g8 7 r0 j (by omega), h7 j hj, g6 7 r1 j (by omega), g5 7 r1 j (by omega), g4 7 r1 j (by omega), g3 7 r1 j (by omega), g2 7 r1 j (by omega)]
    · rw [g10 8 r0 j (by omega), g9 8 r0 j (by omega), h8 j hj, g7 8 r1 j (by omega), g6 8 r1 j (by omega), g5 8 r1 j (by omega), g4 8 r1 j (by omega), g3 8 r1 j (by omega), g2 8 r1 j (by omega)]
    · rw [g10 9 r0 j (by omega), h9 j hj, g8 9 r1 j (by omega), g7 9 r1 j (by omega), g6 9 r1 j (by omega), g5 9 r1 j (by omega), g4 9 r1 j (by omega), g3 9 r1 j (by omega), g2 9 r1 j (by omega)]
  · rw [h10 j hj, g9 10 r1 j (by omega), g8 10 r1 j (by omega), g7 10 r1 j (by omega), g6 10 r1 j (by omega), g5 10 r1 j (by omega), g4 10 r1 j (by omega), g3 10 r1 j (by omega), g2 10 r1 j (by omega)]
theorem y_copy (hr : r0 ≠ r1) (hm : (ge S 1 r1 12).toInt = (m : Int)) (m200 : m ≤ 200) : pk (F_X0_copyFrom r0 r1 S) (fun _ T => CPb S T r0 r1 m) := by
  have l0 : (0 : Int32).toInt = 0 := by decide
  have l200 : (200 : Int32).toInt = 200 := by decide
  unfold F_X0_copyFrom
  refine pq_bd (y_copyH hr) (fun _ S11 q => ?_)
  obtain ⟨c1, c2, c3, c4, c5⟩ := q
  refine pq_iv fun x1 e1 => pq_sv fun U1 E1 => ?_
  refine pq_iv fun x2 e2 => pq_sv fun U2 E2 => ?_
  refine pq_iv fun x3 e3 => pq_sv fun U3 E3 => ?_
  refine pq_iv fun x4 e4 => pq_sv fun U4 E4 => ?_
  refine pq_iv fun x5 e5 => pq_sv fun U5 E5 => ?_
  refine pq_iv fun x6 e6 => pq_sv fun U6 E6 => ?_
  refine pq_iv fun x7 e7 => pq_sv fun U7 E7 => ?_
  refine pq_iv fun x8 e8 => pq_sv fun U8 E8 => ?_
  refine pq_iv fun x9 e9 => pq_sv fun U9 E9 => ?_
  refine pq_iv fun x10 e10 => pq_sv fun U10 E10 => ?_
  refine pq_iv fun x12 e12 => pq_sv fun U12 E12 => ?_
  have k11 : ∀ i j : Nat, ge S11 1 i j = ge S 1 i j := fun i j => c2 1 i j (by omega)
  have o1 : ∀ a i k : Nat, ¬ (a = 1 ∧ i = r0 ∧ k = 1) → ge U1 a i k = ge S11 a i k := fun a i k h => by rw [E1, ge_pu, if_neg h]
  have o2 : ∀ a i k : Nat, ¬ (a = 1 ∧ i = r0 ∧ k = 2) → ge U2 a i k = ge U1 a i k := fun a i k h => by rw [E2, ge_pu, if_neg h]
  have o3 : ∀ a i k : Nat, ¬ (a = 1 ∧ i = r0 ∧ k = 3) → ge U3 a i k = ge U2 a i k := fun a i k h => by rw [E3, ge_pu, if_neg h]
  have o4 : ∀ a i k : Nat, ¬ (a = 1 ∧ i = r0 ∧ k = 4) → ge U4 a i k = ge U3 a i k := fun a i k h => by rw [E4, ge_pu, if_neg h]
  have o5 : ∀ a i k : Nat, ¬ (a = 1 ∧ i = r0 ∧ k = 5) → ge U5 a i k = ge U4 a i k := fun a i k h => by rw [E5, ge_pu, if_neg h]
  have o6 : ∀ a i k : Nat, ¬ (a = 1 ∧ i = r0 ∧ k = 6) → ge U6 a i k = ge U5 a i k := fun a i k h => by rw [E6, ge_pu, if_neg h]
  have o7 : ∀ a i k : Nat, ¬ (a = 1 ∧ i = r0 ∧ k = 7) → ge U7 a i k = ge U6 a i k := fun a i k h => by rw [E7, ge_pu, if_neg h]
  have o8 : ∀ a i k : Nat, ¬ (a = 1 ∧ i = r0 ∧ k = 8) → ge U8 a i k = ge U7 a i k := fun a i k h => by rw [E8, ge_pu, if_neg h]
  have o9 : ∀ a i k : Nat, ¬ (a = 1 ∧ i = r0 ∧ k = 9) → ge U9 a i k = ge U8 a i k := fun a i k h => by rw [E9, ge_pu, if_neg h]
  have o10 : ∀ a i k : Nat, ¬ (a = 1 ∧ i = r0 ∧ k = 10) → ge U10 a i k = ge U9 a i k := fun a i k h => by rw [E10, ge_pu, if_neg h]
  have o12 : ∀ a i k : Nat, ¬ (a = 1 ∧ i = r0 ∧ k = 12) → ge U12 a i k = ge U10 a i k := fun a i k h => by rw [E12, ge_pu, if_neg h]
  have vv : ∀ j : Nat, 1 ≤ j → j ≤ 12 → j ≠ 11 → ge U12 1 r0 j = ge S 1 r1 j := by
    intro j h1 h2 h3
    have : j = 1 ∨ j = 2 ∨ j = 3 ∨ j = 4 ∨ j = 5 ∨ j = 6 ∨ j = 7 ∨ j = 8 ∨ j = 9 ∨ j = 10 ∨ j = 12 := by omega
    rcases this with rfl | rfl | rfl | rfl | rfl | rfl | rfl | rfl | rfl | rfl | rfl
    · rw [o12 1 r0 1 (by omega), o10 1 r0 1 (by omega), o9 1 r0 1 (by omega), o8 1 r0 1 (by omega), o7 1 r0 1 (by omega), o6 1 r0 1 (by omega), o5 1 r0 1 (by omega), o4 1 r0 1 (by omega), o3 1 r0 1 (by omega), o2 1 r0 1 (by omega), E1, ge_pus, e1, k11]
    · rw [o12 1 r0 2 (by omega), o10 1 r0 2 (by omega), o9 1 r0 2 (by omega), o8 1 r0 2 (by omega), o7 1 r0 2 (by omega), o6 1 r0 2 (by omega), o5 1 r0 2 (by omega), o4 1 r0 2 (by omega), o3 1 r0 2 (by omega), E2, ge_pus, e2, o1 1 r1 2 (by omega), k11]
    · rw [o12 1 r0 3 (by omega), o10 1 r0 3 (by omega), o9 1 r0 3 (by omega), o8 1 r0 3 (by omega), o7 1 r0 3 (by omega), o6 1 r0 3 (by omega), o5 1 r0 3 (by omega), o4 1 r0 3 (by omega), E3, ge_pus, e3, o2 1 r1 3 (by omega), o1 1 r1 3 (by omega), k11]
    · rw [o12 1 r0 4 (by omega), o10 1 r0 4 (by omega), o9 1 r0 4 (by omega), o8 1 r0 4 (by omega), o7 1 r0 4 (by omega), o6 1 r0 4 (by omega), o5 1 r0 4 (by omega), E4, ge_pus, e4, o3 1 r1 4 (by omega), o2 1 r1 4 (by omega), o1 1 r1 4 (by omega), k11]
    · rw [o12 1 r0 5 (by omega), o10 1 r0 5 (by omega), o9 1 r0 5 (by omega), o8 1 r0 5 (by omega), o7 1 r0 5 (by omega), o6 1 r0 5 (by omega), E5, ge_pus, e5, o4 1 r1 5 (by omega), o3 1 r1 5 (by omega), o2 1 r1 5 (by omega), o1 1 r1 5 (by omega), k11]
    · rw [o12 1 r0 6 (by omega), o10 1 r0 6 (by omega), o9 1 r0 6 (by omega), o8 1 r0 6 (by omega), o7 1 r0 6 (by omega), E6, ge_pus, e6, o5 1 r1 6 (by omega), o4 1 r1 6 (by omega), o3 1 r1 6 (by omega), o2 1 r1 6 (by omega), o1 1 r1 6 (by omega), k11]
    · rw [o12 1 r0 7 (by omega), o10 1 r0 7 (by omega), o9 1 r0 7 (by omega), o8 1 r0 7 (by omega), E7, ge_pus, e7, o6 1 r1 7 (by omega), o5 1 r1 7 (by omega), o4 1 r1 7 (by omega), o3 1 r1 7 (by omega), o2 1 r1 7 (by omega), o1 1 r1 7 (by omega), k11]
    · rw [o12 1 r0 8 (by omega), o10 1 r0 8 (by omega), o9 1 r0 8 (by omega), E8, ge_pus, e8, o7 1 r1 8 (by omega), o6 1 r1 8 (by omega), o5 1 r1 8 (by omega), o4 1 r1 8 (by omega), o3 1 r1 8 (by omega), o2 1 r1 8 (by omega), o1 1 r1 8 (by omega), k11]
    · rw [o12 1 r0 9 (by omega), o10 1 r0 9 (by omega), E9, ge_pus, e9, o8 1 r1 9 (by omega), o7 1 r1 9 (by omega), o6 1 r1 9 (by omega), o5 1 r1 9 (by omega), o4 1 r1 9 (by omega), o3 1 r1 9 (by omega), o2 1 r1 9 (by omega), o1 1 r1 9 (by omega), k11]
    · rw [o12 1 r0 10 (by omega), E10, ge_pus, e10, o9 1 r1 10 (by omega), o8 1 r1 10 (by omega), o7 1 r1 10 (by omega), o6 1 r1 10 (by omega), o5 1 r1 10 (by omega), o4 1 r1 10 (by omega), o3 1 r1 10 (by omega), o2 1 r1 10 (by omega), o1 1 r1 10 (by omega), k11]
    · rw [E12, ge_pus, e12, o10 1 r1 12 (by omega), o9 1 r1 12 (by omega), o8 1 r1 12 (by omega), o7 1 r1 12 (by omega), o6 1 r1 12 (by omega), o5 1 r1 12 (by omega), o4 1 r1 12 (by omega), o3 1 r1 12 (by omega), o2 1 r1 12 (by omega), o1 1 r1 12 (by omega), k11]
  have oo : ∀ a i k : Nat, ¬ (1 ≤ a ∧ a ≤ 10 ∧ i = r0) → ge U12 a i k = ge S a i k := fun a i k h => by
    rw [o12 a i k (fun q => h ⟨by omega, by omega, q.2.1⟩), o10 a i k (fun q => h ⟨by omega, by omega, q.2.1⟩), o9 a i k (fun q => h ⟨by omega, by omega, q.2.1⟩), o8 a i k (fun q => h ⟨by omega, by omega, q.2.1⟩), o7 a i k (fun q => h ⟨by omega, by omega, q.2.1⟩), o6 a i k (fun q => h ⟨by omega, by omega, q.2.1⟩), o5 a i k (fun q => h ⟨by omega, by omega, q.2.1⟩), o4 a i k (fun q => h ⟨by omega, by omega, q.2.1⟩), o3 a i k (fun q => h ⟨by omega, by omega, q.2.1⟩), o2 a i k (fun q => h ⟨by omega, by omega, q.2.1⟩), o1 a i k (fun q => h ⟨by omega, by omega, q.2.1⟩), c2 a i k (fun q => h ⟨by omega, q.2.1, q.2.2⟩)]
  have ot : ∀ a k : Nat, a ≠ 1 → ge U12 a r0 k = ge S11 a r0 k := fun a k h => by
    rw [o12 a r0 k (fun q => h q.1), o10 a r0 k (fun q => h q.1), o9 a r0 k (fun q => h q.1), o8 a r0 k (fun q => h q.1), o7 a r0 k (fun q => h q.1), o6 a r0 k (fun q => h q.1), o5 a r0 k (fun q => h q.1), o4 a r0 k (fun q => h q.1), o3 a r0 k (fun q => h q.1), o2 a r0 k (fun q => h q.1), o1 a r0 k (fun q => h q.1)]
  have u2 : U12.2 = S.2 := by rw [E12, E10, E9, E8, E7, E6, E5, E4, E3, E2, E1]; exact c1
  refine pq_lp (fun (y : Int32) V => (∀ a i j : Nat, ge V a i j = ge U12 a i j) ∧ V.2.2 = S.2.2 ∧ ∃ i : Nat, y.toInt = (i : Int) ∧ i ≤ m ∧ (∀ k : Nat, k < i → gr V 11 r0 k = gr S 11 r1 k) ∧ ∀ a i j : Nat, ¬ (a = 11 ∧ i = r0) → gr V a i j = gr S a i j) (fun _ _ (_ : Int32) T => CPb S T r0 r1 m) ?_ fuel 0 U12 ⟨fun _ _ _ => rfl, by rw [u2], 0, l0, by omega, fun k hk => absurd hk (Nat.not_lt_zero _), fun a i j _ => by unfold gr; rw [u2]⟩
  intro k hk a2 V hy
  obtain ⟨gV, nV, i, i1, i2, i3, i4⟩ := hy
  have done : i = m → CPb S V r0 r1 m := fun e => by
    rw [e] at i3
    refine ⟨fun a i j h => by rw [gV, oo a i j h], by rw [gV, ot 2 0 (by decide), c3], fun a j h1 h2 h3 => by rw [gV, ot a j (by omega), c4 a j h1 h2 h3], fun j h => by rw [gV, ot 10 j (by decide), c5 j h], fun j h1 h2 h3 => by rw [gV, vv j h1 h2 h3], i3, i4, nV⟩
  unfold B_X0_copyFrom_101
  refine pq_iv fun x1 e1' => ?_
  rw [gV, vv 12 (by decide) (by decide) (by decide)] at e1'
  refine pq_le (fun c0 => pq_some (done (by rw [e1', hm] at c0; omega))) (fun c0 => ?_)
  rw [e1', hm] at c0
  refine pq_le (fun c1 => absurd c1 (by omega)) (fun _ => ?_)
  rw [cnNq i1]
  refine pq_gd fun _ => pq_qv fun o5 e5 => pq_gd fun _ => pq_gd fun _ => pq_sv fun S8 E8 => pq_iv fun x9 e9 => ?_
  have g9 : x9.toInt = a2.toInt + 1 := by rw [e9]; exact ti_inc (by omega)
  rw [i4 11 r1 i (fun q => hr q.2.symm)] at e5
  have gr8 : ∀ a b j : Nat, gr S8 a b j = if a = 11 ∧ b = r0 ∧ j = i then o5 else gr V a b j := fun a b j => by rw [E8]; rfl
  refine hk x9 S8 ⟨fun a i j => by rw [E8]; exact gV a i j, by rw [E8]; exact nV, i + 1, by omega, by omega, fun l hl => ?_, fun a b j h => by rw [gr8, if_neg (fun q => h ⟨q.1, q.2.1⟩)]; exact i4 a b j h⟩
  rw [gr8]
  by_cases d : l = i
  · rw [if_pos ⟨rfl, rfl, d⟩, e5, d]
  · rw [if_neg (fun q => d q.2.2)]; exact i3 l (by omega)
end CPY
