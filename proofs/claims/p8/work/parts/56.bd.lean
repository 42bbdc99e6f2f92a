/-! a constructor's walk: the world so far, the object that is being made -/
def Bd (K : Nat → ClassId) (S : fS) (X : Nat → Prop) (P0 : Nat → Nat → Prop) (ad0 : Nat → Nat → Nat) (L0 : List Nat) (f0 : Nat → va_E) (P : Nat → Nat → Prop) (ad : Nat → Nat → Nat) (L : List Nat) (f : Nat → va_E) (x t : Nat) (fs : List Value) : Prop :=
  PW K ad P S L f ∧ RC P S ∧ Gr X P0 ad0 L0 f0 P ad L f ∧ x ∈ L ∧ f x = .inr (t, fs) ∧ (∀ a i : Nat, P a i → ad a i ≠ x) ∧ (x ∈ L0 → X x)
/-- a cell that is no block yet -/
def Rw (P : Nat → Nat → Prop) (ad : Nat → Nat → Nat) (L0 L : List Nat) (f : Nat → va_E) (x q : Nat) (e : va_E) : Prop := q ∈ L ∧ f q = e ∧ (∀ a i : Nat, P a i → ad a i ≠ q) ∧ q ≠ x ∧ q ∉ L0
section BD
variable {K : Nat → ClassId} {S : fS} {X : Nat → Prop} {P0 P P1 P2 : Nat → Nat → Prop} {ad0 ad ad1 ad2 : Nat → Nat → Nat} {L0 L L1 L2 : List Nat} {f0 f f1 f2 : Nat → va_E} {x t : Nat} {fs fs2 : List Value}
theorem Bd.put (h : Bd K S X P0 ad0 L0 f0 P ad L f x t fs) : Bd K S X P0 ad0 L0 f0 P ad L (va_up f x (.inr (t, fs2))) x t fs2 := by
  obtain ⟨h1, h2, h3, h4, h5, h6, h7⟩ := h
  exact ⟨h1.rw_ h6, h2, h3.put h7 (fun b hb => va_up_ne _ _ hb), h4, va_up_self _ _ _, h6, h7⟩
theorem Rw.put {q : Nat} {e e2 : va_E} (h : Rw P ad L0 L f x q e) : Rw P ad L0 L (va_up f x e2) x q e := by
  obtain ⟨h1, h2, h3, h4, h5⟩ := h
  exact ⟨h1, by rw [va_up_ne _ _ h4]; exact h2, h3, h4, h5⟩
/-- an array of ints, of nulls: a block at once -/
theorem Bd.arr (h : Bd K S X P0 ad0 L0 f0 P ad L f x t fs) {a i q : Nat} {e : va_E} (hn : ¬ P a i) (hq : q ∉ L) (he : e = cellOf K (au ad a i q) S a i) (hr : ∀ b c : Nat, ¬ Rf S a i b c) : Bd K S X P0 ad0 L0 f0 (Pu P a i) (au ad a i q) (L ++ [q]) (va_up f q e) x t fs := by
  obtain ⟨h1, h2, h3, h4, h5, h6, h7⟩ := h
  have hxq : x ≠ q := fun e9 => hq (by rw [← e9]; exact h4)
  refine ⟨(h1.pool hq).add h2 hn (List.mem_append_right _ (List.mem_singleton.mpr rfl)) (h1.fr hq) (by rw [va_up_self]; exact he), h2.add (fun b c z => absurd z (hr b c)), (h3.new hq).add hn (fun z => absurd ((h3.2 q z).1) hq), List.mem_append_left _ h4, by rw [va_up_ne _ _ hxq]; exact h5, fun a' i' hp => ?_, h7⟩
  rcases hp with hp | ⟨e1, e2⟩
  · rw [au_ne (fun z => hn (by rw [← z.1, ← z.2]; exact hp))]
    exact h6 a' i' hp
  · rw [e1, e2, au_self]
    exact Ne.symm hxq
theorem Bd.raw (h : Bd K S X P0 ad0 L0 f0 P ad L f x t fs) {q : Nat} {e : va_E} (hq : q ∉ L) : Bd K S X P0 ad0 L0 f0 P ad (L ++ [q]) (va_up f q e) x t fs ∧ Rw P ad L0 (L ++ [q]) (va_up f q e) x q e := by
  obtain ⟨h1, h2, h3, h4, h5, h6, h7⟩ := h
  have hxq : x ≠ q := fun e9 => hq (by rw [← e9]; exact h4)
  exact ⟨⟨h1.pool hq, h2, h3.new hq, List.mem_append_left _ h4, by rw [va_up_ne _ _ hxq]; exact h5, h6, h7⟩, List.mem_append_right _ (List.mem_singleton.mpr rfl), va_up_self _ _ _, h1.fr hq, Ne.symm hxq, fun z => hq (h3.2 q z).1⟩
/-- another raw cell when an array becomes a block -/
theorem Rw.arr {q q2 a i : Nat} {e e2 : va_E} (h : Rw P ad L0 L f x q e) (hn : ¬ P a i) (hq : q2 ∉ L) : Rw (Pu P a i) (au ad a i q2) L0 (L ++ [q2]) (va_up f q2 e2) x q e := by
  obtain ⟨h1, h2, h3, h4, h5⟩ := h
  have hqq : q ≠ q2 := fun e9 => hq (by rw [← e9]; exact h1)
  refine ⟨List.mem_append_left _ h1, by rw [va_up_ne _ _ hqq]; exact h2, fun a' i' hp => ?_, h4, h5⟩
  rcases hp with hp | ⟨e1, e2⟩
  · rw [au_ne (fun z => hn (by rw [← z.1, ← z.2]; exact hp))]
    exact h3 a' i' hp
  · rw [e1, e2, au_self]
    exact Ne.symm hqq
theorem Rw.raw {q q2 : Nat} {e e2 : va_E} (h : Rw P ad L0 L f x q e) (hq : q2 ∉ L) : Rw P ad L0 (L ++ [q2]) (va_up f q2 e2) x q e := by
  obtain ⟨h1, h2, h3, h4, h5⟩ := h
  have hqq : q ≠ q2 := fun e9 => hq (by rw [← e9]; exact h1)
  exact ⟨List.mem_append_left _ h1, by rw [va_up_ne _ _ hqq]; exact h2, h3, h4, h5⟩
/-- the raw cell itself gets another content -/
theorem Bd.set (h : Bd K S X P0 ad0 L0 f0 P ad L f x t fs) {q : Nat} {e e2 : va_E} (hr : Rw P ad L0 L f x q e) (hk : ∀ b : Nat, b ≠ q → f2 b = f b) (he : f2 q = e2) : Bd K S X P0 ad0 L0 f0 P ad L f2 x t fs ∧ Rw P ad L0 L f2 x q e2 := by
  obtain ⟨h1, h2, h3, h4, h5, h6, h7⟩ := h
  obtain ⟨r1, r2, r3, r4, r5⟩ := hr
  exact ⟨⟨h1.kp (fun a i hp => hk _ (r3 a i hp)), h2, h3.put (fun z => absurd z r5) hk, h4, by rw [hk x (Ne.symm r4)]; exact h5, h6, h7⟩, r1, he, r3, r4, r5⟩
/-- a raw cell becomes a block -/
theorem Bd.addR (h : Bd K S X P0 ad0 L0 f0 P ad L f x t fs) {a i q : Nat} {e : va_E} (hr : Rw P ad L0 L f x q e) (hn : ¬ P a i) (he : e = cellOf K (au ad a i q) S a i) (hrf : ∀ b c : Nat, Rf S a i b c → P b c) : Bd K S X P0 ad0 L0 f0 (Pu P a i) (au ad a i q) L f x t fs := by
  obtain ⟨h1, h2, h3, h4, h5, h6, h7⟩ := h
  obtain ⟨r1, r2, r3, r4, r5⟩ := hr
  refine ⟨h1.add h2 hn r1 r3 (r2.trans he), h2.add (fun b c z => Or.inl (hrf b c z)), h3.add hn (fun z => absurd z r5), h4, h5, fun a' i' hp => ?_, h7⟩
  rcases hp with hp | ⟨e1, e2⟩
  · rw [au_ne (fun z => hn (by rw [← z.1, ← z.2]; exact hp))]
    exact h6 a' i' hp
  · rw [e1, e2, au_self]
    exact r4
/-- behind the constructor of another object, which was raw -/
theorem Bd.call (h : Bd K S X P0 ad0 L0 f0 P ad L f x t fs) {q : Nat} {e : va_E} (hr : Rw P ad L0 L f x q e) (g1 : PW K ad2 P2 S L2 f2) (g2 : RC P2 S) (g3 : Gr (fun b => b = q) P ad L f P2 ad2 L2 f2) : Bd K S X P0 ad0 L0 f0 P2 ad2 L2 f2 x t fs := by
  obtain ⟨h1, h2, h3, h4, h5, h6, h7⟩ := h
  obtain ⟨r1, r2, r3, r4, r5⟩ := hr
  obtain ⟨z1, z2⟩ := g3.2 x h4
  exact ⟨g1, g2, h3.tr g3 (fun b hb e9 => absurd (by rw [← (show b = q from e9)]; exact hb) r5), z1, ((z2 h6 (Ne.symm r4)).1).trans h5, (z2 h6 (Ne.symm r4)).2, h7⟩
theorem Rw.call {q q2 : Nat} {e : va_E} (h : Rw P ad L0 L f x q e) (hne : q ≠ q2) (g3 : Gr (fun b => b = q2) P ad L f P2 ad2 L2 f2) : Rw P2 ad2 L0 L2 f2 x q e := by
  obtain ⟨h1, h2, h3, h4, h5⟩ := h
  obtain ⟨z1, z2⟩ := g3.2 q h1
  exact ⟨z1, ((z2 h3 hne).1).trans h2, (z2 h3 hne).2, h4, h5⟩
theorem Rw.ne {q q2 : Nat} {e : va_E} (h : Rw P ad L0 L f x q e) (hq : q2 ∉ L) : q ≠ q2 := fun e9 => hq (by rw [← e9]; exact h.1)
/-- the object itself becomes a block -/
theorem Bd.fin (h : Bd K S X P0 ad0 L0 f0 P ad L f x t fs) {a i : Nat} (hn : ¬ P a i) (he : .inr (t, fs) = cellOf K (au ad a i x) S a i) (hrf : ∀ b c : Nat, Rf S a i b c → P b c) : PW K (au ad a i x) (Pu P a i) S L f ∧ RC (Pu P a i) S ∧ Gr X P0 ad0 L0 f0 (Pu P a i) (au ad a i x) L f := by
  obtain ⟨h1, h2, h3, h4, h5, h6, h7⟩ := h
  exact ⟨h1.add h2 hn h4 h6 (h5.trans he), h2.add (fun b c z => Or.inl (hrf b c z)), h3.add hn h7⟩
theorem Bd.of (h1 : PW K ad P S L f) (h2 : RC P S) (h4 : x ∈ L) (h5 : f x = .inr (t, fs)) (h6 : ∀ a i : Nat, P a i → ad a i ≠ x) : Bd K S (fun b => b = x) P ad L f P ad L f x t fs := ⟨h1, h2, Gr.rf, h4, h5, h6, fun _ => rfl⟩
theorem Pu_iff {l : List (Nat × Nat)} {c i : Nat} (h : ∀ a k : Nat, P a k ↔ P0 a k ∨ (a, k) ∈ l) : ∀ a k : Nat, Pu P c i a k ↔ P0 a k ∨ (a, k) ∈ (c, i) :: l := by
  intro a k
  unfold Pu
  rw [h a k, List.mem_cons, Prod.mk.injEq]
  constructor
  · rintro ((q | q) | q)
    · exact Or.inl q
    · exact Or.inr (Or.inr q)
    · exact Or.inr (Or.inl q)
  · rintro (q | q | q)
    · exact Or.inl (Or.inl q)
    · exact Or.inr q
    · exact Or.inl (Or.inr q)
theorem Pc_iff {l l2 : List (Nat × Nat)} (h : ∀ a k : Nat, P a k ↔ P0 a k ∨ (a, k) ∈ l) (h2 : ∀ a k : Nat, P2 a k ↔ P a k ∨ (a, k) ∈ l2) : ∀ a k : Nat, P2 a k ↔ P0 a k ∨ (a, k) ∈ l2 ++ l := by
  intro a k
  rw [h2 a k, h a k, List.mem_append]
  constructor
  · rintro ((q | q) | q)
    · exact Or.inl q
    · exact Or.inr (Or.inr q)
    · exact Or.inr (Or.inl q)
  · rintro (q | q | q)
    · exact Or.inl (Or.inl q)
    · exact Or.inr q
    · exact Or.inl (Or.inr q)
end BD
theorem rf_1 {S : fS} {a i b c : Nat} (h : fk a = 1) : ¬ Rf S a i b c := by
  rintro (⟨h1, -⟩ | ⟨h1, -⟩ | ⟨h1, -⟩ | ⟨h1, -⟩)
  · rw [h] at h1; cases h1
  · rw [h] at h1; cases h1
  · rw [h] at h1; cases h1
  · rw [h] at h1; omega
theorem rf_3 {S : fS} {a i b c : Nat} (h : fk a = 3 ∨ fk a = 4) (hg : ∀ j : Nat, gr S a i j = none) : ¬ Rf S a i b c := by
  rintro (⟨h1, -⟩ | ⟨h1, -⟩ | ⟨h1, -, j, hj⟩ | ⟨h1, -, j, hj⟩)
  · rw [h1] at h; rcases h with h | h <;> cases h
  · rw [h1] at h; rcases h with h | h <;> cases h
  · rw [hg j] at hj; cases hj
  · rw [hg j] at hj; cases hj
theorem rf_0 {S : fS} {a i b c : Nat} (h : fk a = 0) (hr : Rf S a i b c) : ∃ j : Nat, j < fN a ∧ fd a j ≠ 0 ∧ fq a i j = (b, c) := by
  rcases hr with ⟨-, h1⟩ | ⟨h1, -⟩ | ⟨h1, -⟩ | ⟨h1, -⟩
  · exact h1
  · rw [h] at h1; cases h1
  · rw [h] at h1; cases h1
  · rw [h] at h1; omega
theorem rf_2 {S : fS} {a i b c : Nat} (h : fk a = 2) (hr : Rf S a i b c) : ∃ j : Nat, j < fx a ∧ fq a i j = (b, c) := by
  rcases hr with ⟨h1, -⟩ | ⟨-, h1⟩ | ⟨h1, -⟩ | ⟨h1, -⟩
  · rw [h] at h1; cases h1
  · exact h1
  · rw [h] at h1; cases h1
  · rw [h] at h1; omega
