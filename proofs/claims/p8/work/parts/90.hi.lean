/-! the invariant of the heaps, the images, the hands -/
theorem vnb (x : Int32) : 0 ≤ (vp_nar .boolean x).toInt ∧ (vp_nar .boolean x).toInt ≤ 1 := ti_and (n := 1) rfl (by decide)
theorem RI.wbf {S : fS} {a i : Nat} {g : Nat → Int32} (h : RI S) (hr : ∀ j : Nat, rg a j = rgF) : RI (pb S a i g) := by
  intro a' i' j'
  rw [ge_pb]
  by_cases q : a' = a ∧ i' = i
  · rw [if_pos q, q.1, hr]
    exact ti_bd _
  · rw [if_neg q]
    exact h a' i' j'
def HSm (S : fS) : Prop := HB (ge S 40 0 21).toInt (fun t => (ge S 50 0 t).toInt) (fun c k => (ge S 53 c k).toInt) (fun c => (ge S 54 0 c).toInt)
def KB (S : fS) (k : Nat) (n : Int) : Prop := HB n (fun t => (ge S 65 k t).toInt) (fun c i => (ge S 61 (64 * k + c) i).toInt) (fun c => (ge S 63 k c).toInt)
def KI (S : fS) (k : Nat) : Prop := ∃ r n : Int, 0 ≤ r ∧ r ≤ 200 ∧ 0 ≤ n ∧ n ≤ 24 ∧ (ge S 67 k 9).toInt = 100 * r + n ∧ KB S k n ∧ ∀ t : Nat, t < 24 → 0 ≤ (ge S 69 (5 * k + 3) t).toInt ∧ (ge S 69 (5 * k + 3) t).toInt ≤ 63
def hsum (S : fS) (h : Nat) : Nat → Int
  | 0 => 0
  | k + 1 => hsum S h k + (ge S 59 h k).toInt
def HI (S : fS) : Prop := HSm S ∧ (∀ k : Nat, (k : Int) < (ge S 40 0 56).toInt → KI S k) ∧ ∀ h : Nat, (h : Int) < (ge S 40 0 48).toInt → 0 < hsum S h 9
theorem HSm.of {S S' : fS} (h : HSm S) (e : ∀ a i j : Nat, rgn a j = 24 ∨ rgn a j = 26 → ge S' a i j = ge S a i j) : HSm S' := by
  have e1 : ge S' 40 0 21 = ge S 40 0 21 := e 40 0 21 (Or.inr rfl)
  have e2 : ∀ t : Nat, ge S' 50 0 t = ge S 50 0 t := fun t => e 50 0 t (Or.inl rfl)
  have e3 : ∀ c k : Nat, ge S' 53 c k = ge S 53 c k := fun c k => e 53 c k (Or.inl rfl)
  have e4 : ∀ c : Nat, ge S' 54 0 c = ge S 54 0 c := fun c => e 54 0 c (Or.inl rfl)
  unfold HSm
  simp only [e1, e2, e3, e4]
  exact h
theorem KB.of {S S' : fS} {k : Nat} {n : Int} (h : KB S k n) (e : ∀ a i j : Nat, rgn a j = 30 → ge S' a i j = ge S a i j) : KB S' k n := by
  have e2 : ∀ t : Nat, ge S' 65 k t = ge S 65 k t := fun t => e 65 k t rfl
  have e3 : ∀ c i : Nat, ge S' 61 c i = ge S 61 c i := fun c i => e 61 c i rfl
  have e4 : ∀ c : Nat, ge S' 63 k c = ge S 63 k c := fun c => e 63 k c rfl
  unfold KB
  simp only [e2, e3, e4]
  exact h
theorem KI.of {S S' : fS} {k : Nat} (h : KI S k) (e : ∀ a i j : Nat, rgn a j = 30 ∨ rgn a j = 35 → ge S' a i j = ge S a i j) : KI S' k := by
  obtain ⟨r, n, h1, h2, h3, h4, h5, h6, h7⟩ := h
  have e1 : ge S' 67 k 9 = ge S 67 k 9 := e 67 k 9 (Or.inr rfl)
  have e2 : ∀ t : Nat, ge S' 69 (5 * k + 3) t = ge S 69 (5 * k + 3) t := fun t => e 69 (5 * k + 3) t (Or.inr rfl)
  exact ⟨r, n, h1, h2, h3, h4, by rw [e1]; exact h5, h6.of (fun a i j q => e a i j (Or.inl q)), fun t ht => by rw [e2]; exact h7 t ht⟩
theorem hsum_of {S S' : fS} {h : Nat} (e : ∀ k : Nat, ge S' 59 h k = ge S 59 h k) : ∀ n : Nat, hsum S' h n = hsum S h n
  | 0 => rfl
  | n + 1 => by
    show hsum S' h n + (ge S' 59 h n).toInt = hsum S h n + (ge S 59 h n).toInt
    rw [hsum_of e n, e]
theorem HI.of {S S' : fS} (h : HI S) (e : ∀ a i j : Nat, (35518152704 : Nat).testBit (rgn a j) = true → ge S' a i j = ge S a i j) : HI S' := by
  have e1 : ge S' 40 0 56 = ge S 40 0 56 := e 40 0 56 rfl
  have e2 : ge S' 40 0 48 = ge S 40 0 48 := e 40 0 48 rfl
  refine ⟨h.1.of (fun a i j q => e a i j (by rcases q with q | q <;> rw [q] <;> rfl)), fun k q => (h.2.1 k (by rw [← e1]; exact q)).of (fun a i j q => e a i j (by rcases q with q | q <;> rw [q] <;> rfl)), fun x q => ?_⟩
  rw [hsum_of (fun k => e 59 x k (by rw [show rgn 59 k = 18 from rfl]; rfl))]
  exact h.2.2 x (by rw [← e2]; exact q)
theorem HI.fr {S S' : fS} {m : Nat} (h : HI S) (hF : Fr m S S') (hm : m &&& 35518152704 = 0) : HI S' := h.of (fun a i j q => hF.1 a i j (by
  have e : (m &&& 35518152704).testBit (rgn a j) = false := by rw [hm]; exact Nat.zero_testBit _
  rw [Nat.testBit_and, q, Bool.and_true] at e
  exact e))
theorem HI.wr {S : fS} {a i j k : Nat} {v : Int32} (h : HI S) (hk : rgn a j = k) (hm : (35518152704 : Nat).testBit k = false) : HI (pu S a i j v) := h.of (fun a' i' j' q => by
  rw [ge_pu, if_neg (fun e => by rw [e.1, e.2.2, hk, hm] at q; cases q)])
theorem HI.wb {S : fS} {a i : Nat} {g : Nat → Int32} (h : HI S) (hm : ∀ j : Nat, (35518152704 : Nat).testBit (rgn a j) = false) : HI (pb S a i g) := h.of (fun a' i' j' q => by
  rw [ge_pb, if_neg (fun e => by rw [e.1, hm] at q; cases q)])
