/-! heaps as chains: what the class keeps of the heaps that the reference keeps in rows -/
def CRl (hp : Nat → Nat → Int) (ht : Nat → Int) (tp bn : Nat → Int) : Prop :=
  ∀ c : Nat, c < 64 → (tp c = if ht c ≤ 0 then -1 else hp c (ht c - 1).toNat) ∧ ∀ k : Nat, (k : Int) < ht c → bn (hp c k).toNat = if k = 0 then -1 else hp c (k - 1)
section CRS
variable {n : Int} {w : Nat → Int} {hp hp' : Nat → Nat → Int} {ht ht' tp tp' bn bn' : Nat → Int} {c t j : Nat}
theorem CRl.put (h : CRl hp ht tp bn) (H : HB n w hp ht) (hc : c < 64) (hnn : 0 ≤ ht c) (hf : ∀ c' k : Nat, c' < 64 → (k : Int) < ht c' → (hp c' k).toNat ≠ t) (h1 : ∀ c' : Nat, c' ≠ c → ht' c' = ht c') (h2 : ht' c = ht c + 1) (h3 : ∀ c' k : Nat, c' < 64 → (k : Int) < ht c' → hp' c' k = hp c' k) (h4 : hp' c (ht c).toNat = (t : Int)) (t1 : ∀ c' : Nat, c' ≠ c → tp' c' = tp c') (t2 : tp' c = (t : Int)) (b1 : ∀ u : Nat, u ≠ t → bn' u = bn u) (b2 : bn' t = tp c) : CRl hp' ht' tp' bn' := by
  intro c' hc'
  obtain ⟨a1, a2⟩ := h c' hc'
  by_cases e : c' = c
  · subst e
    refine ⟨?_, fun k hk => ?_⟩
    · rw [t2, h2, if_neg (by omega), show ht c' + 1 - 1 = ht c' from by omega, h4]
    · by_cases d : k = (ht c').toNat
      · rw [d, h4, Int.toNat_natCast, b2, a1]
        by_cases z : ht c' ≤ 0
        · rw [if_pos z, if_pos (by omega)]
        · rw [if_neg z, if_neg (by omega), show (ht c' - 1).toNat = (ht c').toNat - 1 from by omega, h3 c' _ hc' (by omega)]
      · have hk2 : (k : Int) < ht c' := by omega
        rw [h3 c' k hc' hk2, b1 _ (hf c' k hc' hk2), a2 k hk2]
        by_cases z : k = 0
        · rw [if_pos z, if_pos z]
        · rw [if_neg z, if_neg z, h3 c' (k - 1) hc' (by omega)]
  · rw [h1 c' e] at *
    refine ⟨?_, fun k hk => ?_⟩
    · rw [t1 c' e, a1]
      by_cases z : ht c' ≤ 0
      · rw [if_pos z, if_pos z]
      · rw [if_neg z, if_neg z, h3 c' _ hc' (by omega)]
    · rw [h3 c' k hc' hk, b1 _ (hf c' k hc' hk), a2 k hk]
      by_cases z : k = 0
      · rw [if_pos z, if_pos z]
      · rw [if_neg z, if_neg z, h3 c' (k - 1) hc' (by omega)]
/-- the thing at level j of cell c is taken out -/
theorem CRl.take (h : CRl hp ht tp bn) (H : HB n w hp ht) (hc : c < 64) (hj : (j : Int) < ht c) (ht0 : hp c j = (t : Int)) (h1 : ∀ c' : Nat, c' ≠ c → ht' c' = ht c') (h2 : ht' c = ht c - 1) (h3 : ∀ c' k : Nat, c' ≠ c → c' < 64 → (k : Int) < ht c' → hp' c' k = hp c' k) (h4 : ∀ k : Nat, k < j → hp' c k = hp c k) (h5 : ∀ k : Nat, j ≤ k → (k : Int) < ht c - 1 → hp' c k = hp c (k + 1)) (t1 : ∀ c' : Nat, c' ≠ c → tp' c' = tp c') (t2 : tp' c = if (j : Int) + 1 = ht c then bn t else tp c) (b1 : ∀ u : Nat, u ≠ t → ((j : Int) + 1 < ht c → u ≠ (hp c (j + 1)).toNat) → bn' u = bn u) (b2 : (j : Int) + 1 < ht c → bn' (hp c (j + 1)).toNat = bn t) : CRl hp' ht' tp' bn' := by
  obtain ⟨H1, H2, H3⟩ := H
  obtain ⟨a1, a2⟩ := h c hc
  have at0 := a2 j hj
  rw [ht0, Int.toNat_natCast] at at0
  have dif : ∀ k k' : Nat, (k : Int) < ht c → (k' : Int) < ht c → k ≠ k' → (hp c k).toNat ≠ (hp c k').toNat := by
    intro k k' hk hk' hne e
    have x := H1 c k hc hk
    have y := H1 c k' hc hk'
    exact hne (H2 c k k' hc hk hk' (by omega))
  have nt : ∀ k : Nat, (k : Int) < ht c → k ≠ j → (hp c k).toNat ≠ t := by
    intro k hk hne e
    have := dif k j hk hj hne
    rw [ht0, Int.toNat_natCast] at this
    exact this e
  intro c' hc'
  by_cases e : c' = c
  · subst e
    refine ⟨?_, fun k hk => ?_⟩
    · rw [t2, h2]
      by_cases z : (j : Int) + 1 = ht c'
      · rw [if_pos z, at0]
        by_cases y : j = 0
        · rw [if_pos y, if_pos (by omega)]
        · rw [if_neg y, if_neg (by omega), show (ht c' - 1 - 1).toNat = j - 1 from by omega, h4 _ (by omega)]
      · rw [if_neg z, a1, if_neg (by omega), if_neg (by omega), show (ht c' - 1 - 1).toNat = (ht c' - 1).toNat - 1 from by omega, h5 _ (by omega) (by omega), show (ht c' - 1).toNat - 1 + 1 = (ht c' - 1).toNat from by omega]
    · rw [h2] at hk
      by_cases lt : k < j
      · rw [h4 k lt, b1 _ (nt k (by omega) (by omega)) (fun q => dif k (j + 1) (by omega) (by omega) (by omega)), a2 k (by omega)]
        by_cases z : k = 0
        · rw [if_pos z, if_pos z]
        · rw [if_neg z, if_neg z, h4 (k - 1) (by omega)]
      · rw [h5 k (by omega) hk]
        by_cases eq : k = j
        · subst eq
          rw [b2 (by omega), at0]
          by_cases z : k = 0
          · rw [if_pos z, if_pos z]
          · rw [if_neg z, if_neg z, h4 (k - 1) (by omega)]
        · rw [b1 _ (nt (k + 1) (by omega) (by omega)) (fun q => dif (k + 1) (j + 1) (by omega) (by omega) (by omega)), a2 (k + 1) (by omega), if_neg (by omega), if_neg (by omega), h5 (k - 1) (by omega) (by omega), show k - 1 + 1 = k + 1 - 1 from by omega]
  · obtain ⟨d1, d2⟩ := h c' hc'
    have oth : ∀ k : Nat, (k : Int) < ht c' → ∀ k' : Nat, (k' : Int) < ht c → (hp c' k).toNat ≠ (hp c k').toNat := by
      intro k hk k' hk' q
      have x := H1 c' k hc' hk
      have y := H1 c k' hc hk'
      rw [q] at x
      omega
    have nt2 : ∀ k : Nat, (k : Int) < ht c' → (hp c' k).toNat ≠ t := fun k hk q => by
      have := oth k hk j hj
      rw [ht0, Int.toNat_natCast] at this
      exact this q
    rw [h1 c' e]
    refine ⟨?_, fun k hk => ?_⟩
    · rw [t1 c' e, d1]
      by_cases z : ht c' ≤ 0
      · rw [if_pos z, if_pos z]
      · rw [if_neg z, if_neg z, h3 c' _ e hc' (by omega)]
    · rw [h3 c' k e hc' hk, b1 _ (nt2 k hk) (fun q => oth k hk (j + 1) (by omega)), d2 k hk]
      by_cases z : k = 0
      · rw [if_pos z, if_pos z]
      · rw [if_neg z, if_neg z, h3 c' (k - 1) e hc' (by omega)]
end CRS
