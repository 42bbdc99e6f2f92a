/-! guards, step by step -/
def e0 (S : fS) : fS := pu S 40 0 0 0
theorem pu_id {S : fS} {a i j : Nat} {v : Int32} (h : ge S a i j = v) : pu S a i j v = S := by
  unfold pu
  refine Prod.ext (funext fun a' => funext fun i' => funext fun j' => ?_) rfl
  show (if a' = a ∧ i' = i ∧ j' = j then v else S.1 a' i' j') = S.1 a' i' j'
  by_cases q : a' = a ∧ i' = i ∧ j' = j
  · rw [if_pos q, q.1, q.2.1, q.2.2]; exact h.symm
  · rw [if_neg q]
theorem pu_pu {S : fS} {a i j : Nat} {v w : Int32} : pu (pu S a i j v) a i j w = pu S a i j w := by
  unfold pu
  refine Prod.ext (funext fun a' => funext fun i' => funext fun j' => ?_) rfl
  show (if a' = a ∧ i' = i ∧ j' = j then w else if a' = a ∧ i' = i ∧ j' = j then v else S.1 a' i' j') = if a' = a ∧ i' = i ∧ j' = j then w else S.1 a' i' j'
  by_cases q : a' = a ∧ i' = i ∧ j' = j
  · rw [if_pos q, if_pos q]
  · rw [if_neg q, if_neg q, if_neg q]
section GRD
variable {A : Type} {S : fS} {p lo hi c x n : Int32} {Q : A → fS → Prop}
theorem lt_iff {a b : Int32} : a < b ↔ a.toInt < b.toInt := Int32.lt_iff_toInt_lt
theorem e6_in (h : lo.toInt ≤ p.toInt ∧ p.toInt ≤ hi.toInt) : F_X6_within p lo hi S = some (1, S) := by
  unfold F_X6_within bb
  rw [if_neg (fun q => absurd (lt_iff.1 q) (by omega)), if_neg (fun q => absurd (lt_iff.1 q) (by omega))]
theorem e6_out (h : ¬ (lo.toInt ≤ p.toInt ∧ p.toInt ≤ hi.toInt)) : F_X6_within p lo hi S = some (0, S) := by
  unfold F_X6_within bb
  by_cases q : p < lo
  · rw [if_pos q]
  · have := Int.not_lt.1 (fun z => q (lt_iff.2 z))
    rw [if_neg q, if_pos (lt_iff.2 (by omega))]
theorem e7_in (h : lo.toInt ≤ p.toInt ∧ p.toInt ≤ hi.toInt) : F_X7_in p lo hi S = some (1, S) := by
  unfold F_X7_in bb
  rw [if_neg (fun q => absurd (lt_iff.1 q) (by omega)), if_neg (fun q => absurd (lt_iff.1 q) (by omega))]
theorem e7_out (h : ¬ (lo.toInt ≤ p.toInt ∧ p.toInt ≤ hi.toInt)) : F_X7_in p lo hi S = some (0, S) := by
  unfold F_X7_in bb
  by_cases q : p < lo
  · rw [if_pos q]
  · have := Int.not_lt.1 (fun z => q (lt_iff.2 z))
    rw [if_neg q, if_pos (lt_iff.2 (by omega))]
theorem sub1 (h : 0 ≤ n.toInt) : (n - (1 : Int32)).toInt = n.toInt - 1 := by
  have l1 : (1 : Int32).toInt = 1 := by decide
  have := ti_bd n
  rw [ti_sub (by omega) (by omega), l1]
def ic (p : Int32) : Prop := 0 ≤ p.toInt ∧ p.toInt ≤ 63
def ie (p n : Int32) : Prop := 0 ≤ p.toInt ∧ p.toInt < n.toInt
theorem pg_w {k : Int32 → fS → Option (A × fS)} (h1 : lo.toInt ≤ p.toInt ∧ p.toInt ≤ hi.toInt → pk (k 1 S) Q) (h0 : ¬ (lo.toInt ≤ p.toInt ∧ p.toInt ≤ hi.toInt) → pk (k 0 S) Q) : pk (bd (F_X6_within p lo hi S) k) Q := by
  by_cases q : lo.toInt ≤ p.toInt ∧ p.toInt ≤ hi.toInt
  · rw [e6_in q]; exact h1 q
  · rw [e6_out q]; exact h0 q
theorem pg_7 {k : Int32 → fS → Option (A × fS)} (h1 : lo.toInt ≤ p.toInt ∧ p.toInt ≤ hi.toInt → pk (k 1 S) Q) (h0 : ¬ (lo.toInt ≤ p.toInt ∧ p.toInt ≤ hi.toInt) → pk (k 0 S) Q) : pk (bd (F_X7_in p lo hi S) k) Q := by
  by_cases q : lo.toInt ≤ p.toInt ∧ p.toInt ≤ hi.toInt
  · rw [e7_in q]; exact h1 q
  · rw [e7_out q]; exact h0 q
/-- a branch on a guard's answer -/
theorem pg_b1 {x y : Option (A × fS)} (h : pk y Q) : pk (bb ((1 : Int32) = (0 : Int32)) x y) Q := pq_bb (fun q => absurd q (by decide)) (fun _ => h)
theorem pg_b0 {x y : Option (A × fS)} (h : pk x Q) : pk (bb ((0 : Int32) = (0 : Int32)) x y) Q := pq_bb (fun _ => h) (fun q => absurd rfl q)
theorem l63 : (63 : Int32).toInt = 63 := by decide
theorem l0' : (0 : Int32).toInt = 0 := by decide
theorem e6_cell (h : ic p) : F_X6_needCell p S = some ((0, 0), S) := by
  unfold F_X6_needCell
  rw [e6_in (by rw [l0', l63]; exact h)]
  rfl
theorem e6_cell0 (h : ¬ ic p) : F_X6_needCell p S = some ((2, 0), S) := by
  unfold F_X6_needCell
  rw [e6_out (by rw [l0', l63]; exact h)]
  rfl
theorem e6_el (hn : 0 ≤ n.toInt) (h : ie p n) : F_X6_needElement p n S = some ((0, 0), S) := by
  unfold F_X6_needElement iv
  dsimp only
  rw [e6_in (by rw [l0', sub1 hn]; exact ⟨h.1, by have := h.2; omega⟩)]
  rfl
theorem e6_el0 (hn : 0 ≤ n.toInt) (h : ¬ ie p n) : F_X6_needElement p n S = some ((3, 0), S) := by
  unfold F_X6_needElement iv
  dsimp only
  rw [e6_out (by rw [l0', sub1 hn]; exact fun q => h ⟨q.1, by omega⟩)]
  rfl
theorem e7_cell (h : ic p) : F_X7_isCell p S = some (1, S) := by
  unfold F_X7_isCell
  rw [e7_in (by rw [l0', l63]; exact h)]
  rfl
theorem e7_cell0 (h : ¬ ic p) : F_X7_isCell p S = some (0, S) := by
  unfold F_X7_isCell
  rw [e7_out (by rw [l0', l63]; exact h)]
  rfl
theorem e7_hand (hn : 0 ≤ (ge S 40 0 48).toInt) (h : ie p (ge S 40 0 48)) : F_X7_isHand p S = some (1, S) := by
  unfold F_X7_isHand iv
  dsimp only
  rw [e7_in (by rw [l0', sub1 hn]; exact ⟨h.1, by have := h.2; omega⟩)]
  rfl
theorem e7_hand0 (hn : 0 ≤ (ge S 40 0 48).toInt) (h : ¬ ie p (ge S 40 0 48)) : F_X7_isHand p S = some (0, S) := by
  unfold F_X7_isHand iv
  dsimp only
  rw [e7_out (by rw [l0', sub1 hn]; exact fun q => h ⟨q.1, by omega⟩)]
  rfl
theorem e7_bad (h : ge S 40 0 0 = 0) : F_X7_bad 0 c S = some (0, S) := by
  unfold F_X7_bad B_X7_bad_16 bb iv
  dsimp only
  rw [if_pos rfl, if_pos h]
theorem e7_bad1 (h : ge S 40 0 0 = 0) (hc : ¬ c = 0) : F_X7_bad 1 c S = some (1, pu S 40 0 0 c) := by
  unfold F_X7_bad B_X7_bad_16 bb iv sv
  dsimp only
  rw [if_neg (by decide), if_pos h, ge_pus, if_neg hc]
end GRD
section GRX
variable {S : fS} {p lo hi c n : Int32} {Q : Nat × Int32 → fS → Prop} {Q1 : Int32 → fS → Prop}
theorem pg_cell {k : Int32 → fS → Option ((Nat × Int32) × fS)} (h1 : ic p → pk (k 0 S) Q) (h0 : ¬ ic p → Q (2, 0) S) : pk (bx (F_X6_needCell p S) k) Q := by
  by_cases q : ic p
  · rw [e6_cell q]; exact h1 q
  · rw [e6_cell0 q]; exact pq_some (h0 q)
theorem pg_el {k : Int32 → fS → Option ((Nat × Int32) × fS)} (hn : 0 ≤ n.toInt) (h1 : ie p n → pk (k 0 S) Q) (h0 : ¬ ie p n → Q (3, 0) S) : pk (bx (F_X6_needElement p n S) k) Q := by
  by_cases q : ie p n
  · rw [e6_el hn q]; exact h1 q
  · rw [e6_el0 hn q]; exact pq_some (h0 q)
theorem pg_n1 {k : Int32 → fS → Option ((Nat × Int32) × fS)} (h : pk (k 0 S) Q) : pk (bx (F_X6_need 1 S) k) Q := by
  rw [show F_X6_need 1 S = some ((0, 0), S) by unfold F_X6_need bb; rw [if_neg (by decide)]]
  exact h
theorem pg_n0 {k : Int32 → fS → Option ((Nat × Int32) × fS)} (h : Q (1, 0) S) : pk (bx (F_X6_need 0 S) k) Q := by
  rw [show F_X6_need 0 S = some ((1, 0), S) by unfold F_X6_need bb; rw [if_pos rfl]]
  exact pq_some (v := ((1, 0) : Nat × Int32)) h
theorem pg7_cell {k : Int32 → fS → Option (Int32 × fS)} (h1 : ic p → pk (k 1 S) Q1) (h0 : ¬ ic p → pk (k 0 S) Q1) : pk (bd (F_X7_isCell p S) k) Q1 := by
  by_cases q : ic p
  · rw [e7_cell q]; exact h1 q
  · rw [e7_cell0 q]; exact h0 q
theorem pg7_hand {k : Int32 → fS → Option (Int32 × fS)} (hn : 0 ≤ (ge S 40 0 48).toInt) (h1 : ie p (ge S 40 0 48) → pk (k 1 S) Q1) (h0 : ¬ ie p (ge S 40 0 48) → pk (k 0 S) Q1) : pk (bd (F_X7_isHand p S) k) Q1 := by
  by_cases q : ie p (ge S 40 0 48)
  · rw [e7_hand hn q]; exact h1 q
  · rw [e7_hand0 hn q]; exact h0 q
theorem pg7_el {x : Int32} {k : Int32 → fS → Option (Int32 × fS)} (hn : 0 ≤ n.toInt) (e : x = n - 1) (h1 : ie p n → pk (k 1 S) Q1) (h0 : ¬ ie p n → pk (k 0 S) Q1) : pk (bd (F_X7_in p 0 x S) k) Q1 := by
  have g : x.toInt = n.toInt - 1 := by rw [e, sub1 hn]
  exact pg_7 (fun q => h1 ⟨by rw [l0'] at q; exact q.1, by omega⟩) (fun q => h0 (fun d => q ⟨by rw [l0']; exact d.1, by have := d.2; omega⟩))
theorem pg7_ok {x y : Int32 → fS → Option (Int32 × fS)} (h : ge S 40 0 0 = 0) (h1 : pk (x 0 S) Q1) : pk (bd (F_X7_bad 0 c S) (fun v T => bb (v = (0 : Int32)) (x v T) (y v T))) Q1 := by
  rw [e7_bad h]
  exact pg_b0 h1
theorem pg7_no {x y : Int32 → fS → Option (Int32 × fS)} (h : ge S 40 0 0 = 0) (hc : ¬ c = 0) (h1 : pk (y 1 (pu S 40 0 0 c)) Q1) : pk (bd (F_X7_bad 1 c S) (fun v T => bb (v = (0 : Int32)) (x v T) (y v T))) Q1 := by
  rw [e7_bad1 h hc]
  exact pg_b1 h1
theorem pg7_0 {k : fS → Option (Int32 × fS)} (h : ge S 40 0 0 = 0) (h1 : pk (k S) Q1) : pk (sv (pu S 40 0 0 0) k) Q1 := by
  rw [pu_id h]
  exact h1
end GRX
