/-! the pure part: heaps. HB: every thing of a heap lies there and nowhere else, every thing that lies somewhere is in that heap -/
theorem pig : ∀ (n h : Nat) (f : Nat → Nat), (∀ k, k < h → f k < n) → (∀ k k', k < h → k' < h → f k = f k' → k = k') → h ≤ n
  | 0, h, f, h1, _ => by
    by_cases z : h = 0
    · omega
    · exact absurd (h1 0 (by omega)) (Nat.not_lt_zero _)
  | n + 1, 0, _, _, _ => Nat.zero_le _
  | n + 1, m + 1, f, h1, h2 => by
    have hv : f m < n + 1 := h1 m (Nat.lt_succ_self m)
    have hne : ∀ k, k < m → f k ≠ f m := fun k hk e => by
      have := h2 k m (by omega) (by omega) e
      omega
    have q := pig n m (fun k => if f k = n then f m else f k) (fun k hk => by
      have a := h1 k (by omega)
      have b := hne k hk
      by_cases z : f k = n
      · simp only [if_pos z]
        omega
      · simp only [if_neg z]
        omega) (fun k k' hk hk' e => by
      have b := hne k hk
      have b' := hne k' hk'
      have e : (if f k = n then f m else f k) = (if f k' = n then f m else f k') := e
      refine h2 k k' (by omega) (by omega) ?_
      by_cases z : f k = n <;> by_cases z' : f k' = n
      · omega
      · rw [if_pos z, if_neg z'] at e; exact absurd e.symm b'
      · rw [if_neg z, if_pos z'] at e; exact absurd e b
      · rw [if_neg z, if_neg z'] at e; exact e)
    omega
def HB (n : Int) (w : Nat → Int) (hp : Nat → Nat → Int) (ht : Nat → Int) : Prop :=
  (∀ c k : Nat, c < 64 → (k : Int) < ht c → 0 ≤ hp c k ∧ hp c k < n ∧ w (hp c k).toNat = c) ∧
  (∀ c k k' : Nat, c < 64 → (k : Int) < ht c → (k' : Int) < ht c → hp c k = hp c k' → k = k') ∧
  (∀ t : Nat, (t : Int) < n → 0 ≤ w t → ∃ k : Nat, (k : Int) < ht (w t).toNat ∧ hp (w t).toNat k = t)
section HBS
variable {n n' : Int} {w w' : Nat → Int} {hp hp' : Nat → Nat → Int} {ht ht' : Nat → Int} {t c : Nat}
theorem HB.le (h : HB n w hp ht) (hn : 0 ≤ n) (hc : c < 64) : ht c ≤ n := by
  by_cases z : ht c ≤ 0
  · omega
  · have q := pig n.toNat (ht c).toNat (fun k => (hp c k).toNat) (fun k hk => by
      have a := h.1 c k hc (by omega)
      show (hp c k).toNat < n.toNat
      omega) (fun k k' hk hk' e => by
      have a := h.1 c k hc (by omega)
      have a' := h.1 c k' hc (by omega)
      have e : (hp c k).toNat = (hp c k').toNat := e
      exact h.2.1 c k k' hc (by omega) (by omega) (by omega))
    omega
theorem HB.lt (h : HB n w hp ht) (hc : c < 64) (hw : w t < 0) (hn : (t : Int) < n) : ht c < n := by
  by_cases z : ht c ≤ 0
  · omega
  · have hne : ∀ k : Nat, (k : Int) < ht c → hp c k ≠ t := fun k hk e => by
      have a := h.1 c k hc hk
      have e2 : (hp c k).toNat = t := by omega
      rw [e2] at a
      omega
    have q := pig (n - 1).toNat (ht c).toNat (fun k => if hp c k < t then (hp c k).toNat else (hp c k - 1).toNat) (fun k hk => by
      have a := h.1 c k hc (by omega)
      have b := hne k (by omega)
      by_cases y : hp c k < t
      · simp only [if_pos y]; omega
      · simp only [if_neg y]; omega) (fun k k' hk hk' e => by
      have a := h.1 c k hc (by omega)
      have a' := h.1 c k' hc (by omega)
      have b := hne k (by omega)
      have b' := hne k' (by omega)
      have e : (if hp c k < t then (hp c k).toNat else (hp c k - 1).toNat) = (if hp c k' < t then (hp c k').toNat else (hp c k' - 1).toNat) := e
      refine h.2.1 c k k' hc (by omega) (by omega) ?_
      by_cases y : hp c k < t <;> by_cases y' : hp c k' < t
      · rw [if_pos y, if_pos y'] at e; omega
      · rw [if_pos y, if_neg y'] at e; omega
      · rw [if_neg y, if_pos y'] at e; omega
      · rw [if_neg y, if_neg y'] at e; omega)
    omega
theorem HB.cg (h : HB n w hp ht) (hw : ∀ i : Nat, (i : Int) < n → w' i = w i) (hwl : ∀ i : Nat, (i : Int) < n → w i ≤ 63) (hh : ∀ c : Nat, c < 64 → ht' c = ht c) (hhp : ∀ c k : Nat, c < 64 → (k : Int) < ht c → hp' c k = hp c k) : HB n w' hp' ht' := by
  refine ⟨fun c k hc hk => ?_, fun c k k' hc hk hk' e => ?_, fun t ht h0 => ?_⟩
  · rw [hh c hc] at hk
    have a := h.1 c k hc hk
    rw [hhp c k hc hk]
    exact ⟨a.1, a.2.1, by rw [hw _ (by omega)]; exact a.2.2⟩
  · rw [hh c hc] at hk hk'
    rw [hhp c k hc hk, hhp c k' hc hk'] at e
    exact h.2.1 c k k' hc hk hk' e
  · rw [hw t ht] at h0 ⊢
    have hl := hwl t ht
    obtain ⟨k, a, b⟩ := h.2.2 t ht h0
    have hc : (w t).toNat < 64 := by omega
    exact ⟨k, by rw [hh _ hc]; exact a, by rw [hhp _ k hc a]; exact b⟩
/-! a thing is put on top -/
theorem HB.put (h : HB n w hp ht) (hn : n ≤ n') (hns : ∀ i : Nat, (i : Int) < n' → i ≠ t → (i : Int) < n ∨ w i < 0) (htn : (t : Int) < n') (hnl : (t : Int) < n → w t < 0) (hc : c < 64) (h0 : 0 ≤ ht c) (hwl : ∀ i : Nat, (i : Int) < n → w i ≤ 63)
    (ew : ∀ i : Nat, w' i = if i = t then (c : Int) else w i) (eh : ∀ i : Nat, ht' i = if i = c then ht c + 1 else ht i) (ep : ∀ i k : Nat, hp' i k = if i = c ∧ (k : Int) = ht c then (t : Int) else hp i k) : HB n' w' hp' ht' := by
  have hne : ∀ i k : Nat, i < 64 → (k : Int) < ht i → (hp i k).toNat ≠ t := fun i k hi hk e => by
    have a := h.1 i k hi hk
    have := hnl (by omega)
    rw [e] at a
    omega
  have old : ∀ i k : Nat, (k : Int) < ht i → hp' i k = hp i k := fun i k hk => by
    rw [ep, if_neg (fun e => by have := e.2; rw [e.1] at hk; omega)]
  have top : ∀ k : Nat, (k : Int) = ht c → hp' c k = t := fun k hk => by rw [ep, if_pos ⟨rfl, hk⟩]
  have cs : ∀ i k : Nat, (k : Int) < ht' i → (k : Int) < ht i ∨ (i = c ∧ (k : Int) = ht c) := fun i k hk => by
    rw [eh] at hk
    by_cases e : i = c
    · rw [if_pos e] at hk
      by_cases z : (k : Int) = ht c
      · exact Or.inr ⟨e, z⟩
      · exact Or.inl (by rw [e]; omega)
    · rw [if_neg e] at hk
      exact Or.inl hk
  refine ⟨fun i k hi hk => ?_, fun i k k' hi hk hk' e => ?_, fun i hi h1 => ?_⟩
  · rcases cs i k hk with q | q
    · have a := h.1 i k hi q
      rw [old i k q, ew, if_neg (hne i k hi q)]
      exact ⟨a.1, by omega, a.2.2⟩
    · rw [q.1, top k q.2, ew]
      have e : ((t : Int)).toNat = t := rfl
      rw [e, if_pos rfl]
      exact ⟨by omega, htn, rfl⟩
  · rcases cs i k hk with q | q <;> rcases cs i k' hk' with q' | q'
    · rw [old i k q, old i k' q'] at e
      exact h.2.1 i k k' hi q q' e
    · have a := hne i k hi q
      rw [old i k q, q'.1, top k' q'.2] at e
      rw [q'.1] at a
      exact absurd (by rw [e]; rfl) a
    · have a := hne i k' hi q'
      rw [old i k' q', q.1, top k q.2] at e
      rw [q.1] at a
      exact absurd (by rw [← e]; rfl) a
    · have := q.2
      have := q'.2
      omega
  · rw [ew] at h1 ⊢
    by_cases e : i = t
    · rw [if_pos e]
      have ec : ((c : Int)).toNat = c := rfl
      refine ⟨(ht c).toNat, ?_, ?_⟩
      · rw [ec, eh, if_pos rfl]; omega
      · rw [ec, top _ (by omega), e]
    · rw [if_neg e] at h1 ⊢
      rcases hns i hi e with q | q
      · obtain ⟨k, a, b⟩ := h.2.2 i q h1
        refine ⟨k, ?_, by rw [old _ k a]; exact b⟩
        rw [eh]
        by_cases z : (w i).toNat = c
        · rw [if_pos z]; rw [z] at a; omega
        · rw [if_neg z]; exact a
      · omega
/-! a thing is taken out -/
theorem HB.take {k0 : Nat} (h : HB n w hp ht) (hc : c < 64) (hwt : w t = c) (htn : (t : Int) < n) (hk0 : (k0 : Int) < ht c) (hpk : hp c k0 = t) {x : Int} (hx : x < 0)
    (ew : ∀ i : Nat, w' i = if i = t then x else w i) (eh : ∀ i : Nat, ht' i = if i = c then ht c - 1 else ht i) (ep : ∀ i k : Nat, i ≠ c → hp' i k = hp i k) (eq : ∀ k : Nat, (k : Int) < ht c - 1 → hp' c k = if k < k0 then hp c k else hp c (k + 1)) (hwl : ∀ i : Nat, (i : Int) < n → w i ≤ 63) : HB n w' hp' ht' := by
  have cs : ∀ i k : Nat, i < 64 → (k : Int) < ht' i → ∃ k1 : Nat, (k1 : Int) < ht i ∧ hp' i k = hp i k1 ∧ (i = c → k1 ≠ k0) ∧ ((i = c ∧ k1 = if k < k0 then k else k + 1) ∨ (i ≠ c ∧ k1 = k)) := fun i k hi hk => by
    rw [eh] at hk
    by_cases e : i = c
    · rw [if_pos e] at hk
      rw [e, eq k hk]
      by_cases z : k < k0
      · rw [if_pos z, if_pos z]; exact ⟨k, by omega, rfl, fun _ => by omega, Or.inl ⟨rfl, rfl⟩⟩
      · rw [if_neg z, if_neg z]; exact ⟨k + 1, by omega, rfl, fun _ => by omega, Or.inl ⟨rfl, rfl⟩⟩
    · rw [if_neg e] at hk
      exact ⟨k, hk, ep i k e, fun q => absurd q e, Or.inr ⟨e, rfl⟩⟩
  have hne : ∀ i k : Nat, i < 64 → (k : Int) < ht i → (i = c → k ≠ k0) → (hp i k).toNat ≠ t := fun i k hi hk hk' e => by
    have a := h.1 i k hi hk
    have e2 := a.2.2
    rw [e, hwt] at e2
    have e3 : i = c := by omega
    have := h.2.1 c k k0 hc (by rw [← e3]; exact hk) hk0 (by rw [hpk, ← e3]; omega)
    exact hk' e3 this
  refine ⟨fun i k hi hk => ?_, fun i k k' hi hk hk' e => ?_, fun i hi h1 => ?_⟩
  · obtain ⟨k1, a, b, d, _⟩ := cs i k hi hk
    have q := h.1 i k1 hi a
    rw [b, ew, if_neg (hne i k1 hi a d)]
    exact q
  · obtain ⟨k1, a, b, d, f⟩ := cs i k hi hk
    obtain ⟨k1', a', b', d', f'⟩ := cs i k' hi hk'
    rw [b, b'] at e
    have q := h.2.1 i k1 k1' hi a a' e
    rcases f with f | f <;> rcases f' with f' | f'
    · obtain ⟨_, f⟩ := f
      obtain ⟨_, f'⟩ := f'
      by_cases z : k < k0 <;> by_cases z' : k' < k0
      · rw [if_pos z] at f; rw [if_pos z'] at f'; omega
      · rw [if_pos z] at f; rw [if_neg z'] at f'; omega
      · rw [if_neg z] at f; rw [if_pos z'] at f'; omega
      · rw [if_neg z] at f; rw [if_neg z'] at f'; omega
    · exact absurd f.1 f'.1
    · exact absurd f'.1 f.1
    · omega
  · rw [ew] at h1 ⊢
    by_cases e : i = t
    · rw [if_pos e] at h1; omega
    · rw [if_neg e] at h1 ⊢
      obtain ⟨k, a, b⟩ := h.2.2 i hi h1
      by_cases z : (w i).toNat = c
      · rw [z] at a b ⊢
        have hk : k ≠ k0 := fun q => by rw [q, hpk] at b; omega
        by_cases y : k < k0
        · refine ⟨k, by rw [eh, if_pos rfl]; omega, ?_⟩
          rw [eq k (by omega), if_pos y]; exact b
        · refine ⟨k - 1, by rw [eh, if_pos rfl]; omega, ?_⟩
          rw [eq (k - 1) (by omega), if_neg (by omega), show k - 1 + 1 = k from by omega]; exact b
      · exact ⟨k, by rw [eh, if_neg z]; exact a, by rw [ep _ k z]; exact b⟩
theorem HB.inc (h : HB n w hp ht) (hn : 0 ≤ n) {x : Int} (hx : x < 0) (ew : ∀ i : Nat, w' i = if (i : Int) = n then x else w i) : HB (n + 1) w' hp ht := by
  refine ⟨fun i k hi hk => ?_, h.2.1, fun i hi h1 => ?_⟩
  · have a := h.1 i k hi hk
    rw [ew, if_neg (by omega)]
    exact ⟨a.1, by omega, a.2.2⟩
  · rw [ew] at h1 ⊢
    by_cases e : (i : Int) = n
    · rw [if_pos e] at h1; omega
    · rw [if_neg e] at h1 ⊢
      exact h.2.2 i (by omega) h1
end HBS
