/-! refill -/
section RFL
variable {S T V : fS} {p : Int32} {n i c t : Nat}
abbrev H3q : Type := (Nat → Int) × (Nat → Nat → Int) × (Nat → Int)
def npq (S : fS) (i : Nat) : Int32 := if ge S 49 0 i = ge S 40 0 30 then -1 else ge S 49 0 i
/-- all lies anew, the first i things -/
def rfS (S : fS) : Nat → H3q
  | 0 => (hw S, hq S, fun _ => 0)
  | i + 1 => if ge S 49 0 i = ge S 40 0 30 then (wU (rfS S i).1 i (-1), (rfS S i).2.1, (rfS S i).2.2) else (wU (rfS S i).1 i ((ge S 49 0 i).toNatClampNeg : Int), hpP (rfS S i).2.1 (rfS S i).2.2 (ge S 49 0 i).toNatClampNeg i, htP (rfS S i).2.2 (ge S 49 0 i).toNatClampNeg)
theorem rfq_y (h : ge S 49 0 i = ge S 40 0 30) : rfS S (i + 1) = (wU (rfS S i).1 i (-1), (rfS S i).2.1, (rfS S i).2.2) := by
  show (if ge S 49 0 i = ge S 40 0 30 then _ else _) = _
  rw [if_pos h]
theorem rfq_n (h : ¬ ge S 49 0 i = ge S 40 0 30) : rfS S (i + 1) = (wU (rfS S i).1 i ((ge S 49 0 i).toNatClampNeg : Int), hpP (rfS S i).2.1 (rfS S i).2.2 (ge S 49 0 i).toNatClampNeg i, htP (rfS S i).2.2 (ge S 49 0 i).toNatClampNeg) := by
  show (if ge S 49 0 i = ge S 40 0 30 then _ else _) = _
  rw [if_neg h]
theorem r49q (R : RI S) (i : Nat) : (ge S 49 0 i).toInt = (((ge S 49 0 i).toNatClampNeg : Nat) : Int) ∧ (ge S 49 0 i).toNatClampNeg < 64 := by
  have b : 0 ≤ (ge S 49 0 i).toInt ∧ (ge S 49 0 i).toInt ≤ 63 := R 49 0 i
  have := cn_eq b.1
  omega
theorem rfq_w (R : RI S) : ∀ (i u : Nat), (rfS S i).1 u = if u < i then (npq S u).toInt else hw S u
  | 0, u => by rw [if_neg (Nat.not_lt_zero _)]; rfl
  | i + 1, u => by
    have lm1 : (-1 : Int32).toInt = -1 := by decide
    have ih := rfq_w R i u
    by_cases h : ge S 49 0 i = ge S 40 0 30
    · rw [rfq_y h]
      show wU (rfS S i).1 i (-1) u = _
      unfold wU
      by_cases d : u = i
      · rw [if_pos d, if_pos (by omega), d]
        unfold npq
        rw [if_pos h, lm1]
      · rw [if_neg d, ih]
        by_cases e : u < i
        · rw [if_pos e, if_pos (by omega)]
        · rw [if_neg e, if_neg (by omega)]
    · rw [rfq_n h]
      show wU (rfS S i).1 i ((ge S 49 0 i).toNatClampNeg : Int) u = _
      unfold wU
      by_cases d : u = i
      · rw [if_pos d, if_pos (by omega), d]
        unfold npq
        rw [if_neg h, (r49q R i).1]
      · rw [if_neg d, ih]
        by_cases e : u < i
        · rw [if_pos e, if_pos (by omega)]
        · rw [if_neg e, if_neg (by omega)]
theorem npqq_bd (R : RI S) (u : Nat) : -2 ≤ (npq S u).toInt ∧ (npq S u).toInt ≤ 63 := by
  have b : 0 ≤ (ge S 49 0 u).toInt ∧ (ge S 49 0 u).toInt ≤ 63 := R 49 0 u
  unfold npq
  by_cases h : ge S 49 0 u = ge S 40 0 30
  · rw [if_pos h]; decide
  · rw [if_neg h]; omega
theorem rfq_bd (R : RI S) (H : HVq S) {u : Nat} (hu : (u : Int) < nq S) : -2 ≤ (rfS S i).1 u ∧ (rfS S i).1 u ≤ 63 := by
  rw [rfq_w R]
  by_cases e : u < i
  · rw [if_pos e]; exact npqq_bd R u
  · rw [if_neg e]; exact (H.2.2.2 u hu).2
theorem rfq_HB (R : RI S) (H : HVq S) : ∀ i : Nat, (i : Int) ≤ nq S → HB (i : Int) (rfS S i).1 (rfS S i).2.1 (rfS S i).2.2 ∧ ∀ c : Nat, c < 64 → 0 ≤ (rfS S i).2.2 c
  | 0, _ => ⟨⟨fun c k _ hk => absurd hk (by show ¬ (k : Int) < 0; omega), fun c k k' _ hk _ _ => absurd hk (by show ¬ (k : Int) < 0; omega), fun t ht _ => absurd ht (by omega)⟩, fun c _ => Int.le_refl _⟩
  | i + 1, hi => by
    obtain ⟨h1, h2⟩ := rfq_HB R H i (by omega)
    obtain ⟨c1, c2⟩ := r49q R i
    by_cases h : ge S 49 0 i = ge S 40 0 30
    · rw [rfq_y h]
      refine ⟨?_, h2⟩
      have z := h1.inc (w' := wU (rfS S i).1 i (-1)) (by omega) (x := -1) (by decide) (fun u => by
        unfold wU
        by_cases d : u = i
        · rw [if_pos d, if_pos (by omega)]
        · rw [if_neg d, if_neg (by omega)])
      rw [show ((i + 1 : Nat) : Int) = (i : Int) + 1 by omega]
      exact z
    · rw [rfq_n h]
      refine ⟨?_, fun c hc => ?_⟩
      · exact h1.put (t := i) (c := (ge S 49 0 i).toNatClampNeg) (by omega) (fun u hu hne => Or.inl (by omega)) (by omega) (fun q => by omega) c2 (h2 _ c2) (fun u hu => (rfq_bd R H (by omega)).2) (fun _ => rfl) (fun _ => rfl) (fun _ _ => rfl)
      · show 0 ≤ htP (rfS S i).2.2 (ge S 49 0 i).toNatClampNeg c
        unfold htP
        by_cases d : c = (ge S 49 0 i).toNatClampNeg
        · rw [if_pos d]; have := h2 _ c2; omega
        · rw [if_neg d]; exact h2 c hc
def RFc (S : fS) (n : Nat) (v : Int32) : Prop := ACC (fun i => ¬ npq S i = ge S 50 0 i) (fun _ u => u + 1) n v
end RFL
