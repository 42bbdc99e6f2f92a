/-- exact values of some places, nothing of the others -/
def gof (l : List (Nat × Int32)) : tG := fun k _ x => match l.lookup k with
  | some v => x = v
  | none => True
theorem gof_at {l : List (Nat × Int32)} {k i : Nat} {v x : Int32} (h : l.lookup k = some v) (hx : gof l k i x) : x = v := by
  simp only [gof, h] at hx
  exact hx
theorem gof_is {l : List (Nat × Int32)} {k i : Nat} {v : Int32} (h : l.lookup k = some v) : gof l k i v := by simp only [gof, h]
theorem gof_no {l : List (Nat × Int32)} {k i : Nat} {x : Int32} (h : l.lookup k = none) : gof l k i x := by simp only [gof, h]
theorem gof_set {l : List (Nat × Int32)} {id : Nat} {v : Int32} : ∀ (k i : Nat) (x : Int32), gset (gof l) id v k i x → gof ((id, v) :: l) k i x := by
  intro k i x h
  unfold gset at h
  unfold gof
  rw [List.lookup_cons]
  by_cases e : k = id
  · rw [if_pos e] at h
    have hb : (k == id) = true := by rw [e]; exact beq_self_eq_true id
    simp only [hb]
    exact h
  · rw [if_neg e] at h
    have hb : (k == id) = false := beq_eq_false_iff_ne.mpr e
    simp only [hb]
    exact h
theorem gof_sub {l l2 : List (Nat × Int32)} (h : l2.all (fun q => decide (l.lookup q.1 = l2.lookup q.1)) = true) : ∀ (k i : Nat) (x : Int32), gof l k i x → gof l2 k i x := by
  intro k i x hx
  cases e : l2.lookup k with
  | none => exact gof_no e
  | some v =>
    have h1 := List.all_eq_true.mp h (k, v) (lk_mem l2 k v e)
    have h2 : l.lookup k = some v := (of_decide_eq_true h1).trans e
    rw [gof_at h2 hx]
    exact gof_is e
theorem ne_toInt {x y : Int32} (h : ¬ x = y) : ¬ x.toInt = y.toInt := fun q => h (Int32.toInt_inj.1 q)
theorem lt_toInt {x y : Int32} (h : x < y) : x.toInt < y.toInt := Int32.lt_iff_toInt_lt.1 h
theorem nlt_toInt {x y : Int32} (h : ¬ x < y) : y.toInt ≤ x.toInt := by
  have := mt Int32.lt_iff_toInt_lt.2 h
  omega
theorem le_toInt {x y : Int32} (h : x ≤ y) : x.toInt ≤ y.toInt := Int32.le_iff_toInt_le.1 h
theorem nle_toInt {x y : Int32} (h : ¬ x ≤ y) : y.toInt < x.toInt := by
  have := mt Int32.le_iff_toInt_le.2 h
  omega
theorem eq_toInt {x y : Int32} (h : x = y) : x.toInt = y.toInt := by rw [h]
theorem of_toInt {x y : Int32} (h : x.toInt = y.toInt) : x = y := Int32.toInt_inj.1 h
theorem ti_bd (x : Int32) : -2147483648 ≤ x.toInt ∧ x.toInt ≤ 2147483647 := ⟨Int32.le_toInt x, by have := Int32.toInt_lt x; omega⟩
theorem ti_add {a b : Int32} (h1 : -2147483648 ≤ a.toInt + b.toInt) (h2 : a.toInt + b.toInt ≤ 2147483647) : (a + b).toInt = a.toInt + b.toInt := by
  rw [Int32.toInt_add]
  exact Int.bmod_eq_of_le (by omega) (by omega)
theorem ti_sub {a b : Int32} (h1 : -2147483648 ≤ a.toInt - b.toInt) (h2 : a.toInt - b.toInt ≤ 2147483647) : (a - b).toInt = a.toInt - b.toInt := by
  rw [Int32.toInt_sub]
  exact Int.bmod_eq_of_le (by omega) (by omega)
theorem mm_min {a b y : Int32} (h : y = if b < a then b else a) : y.toInt ≤ a.toInt ∧ y.toInt ≤ b.toInt ∧ (y.toInt = a.toInt ∨ y.toInt = b.toInt) := by
  by_cases q : b < a
  · rw [if_pos q] at h
    have := lt_toInt q
    subst h
    omega
  · rw [if_neg q] at h
    have := nlt_toInt q
    subst h
    omega
theorem mm_max {a b y : Int32} (h : y = if a < b then b else a) : a.toInt ≤ y.toInt ∧ b.toInt ≤ y.toInt ∧ (y.toInt = a.toInt ∨ y.toInt = b.toInt) := by
  by_cases q : a < b
  · rw [if_pos q] at h
    have := lt_toInt q
    subst h
    omega
  · rw [if_neg q] at h
    have := nlt_toInt q
    subst h
    omega
