/-! what an image keeps, alike on both sides; it hangs on these cells alone -/
def RLb (S : fS) : Prop := 0 ≤ nq S ∧ HVq S ∧ HOq S ∧ BVq S 0 ∧ NBq S 0 ∧ IFq S ∧ ge S 1 0 5 = ge S 40 0 34 ∧ RCq S 0
def AR (S T : fS) (m : Nat) : Prop :=
  (∀ t : Nat, (t : Int) < nq S → ge T 46 0 t = ge S 46 0 t ∧ ge T 47 0 t = ge S 47 0 t ∧ ge T 48 0 t = ge S 48 0 t ∧ ge T 49 0 t = ge S 49 0 t ∧ ge T 50 0 t = ge S 50 0 t ∧ ge T 51 0 t = ge S 51 0 t) ∧
  (∀ c k : Nat, c < 64 → k < 24 → ge T 53 c k = ge S 53 c k) ∧ (∀ c : Nat, c < 64 → ge T 54 0 c = ge S 54 0 c) ∧
  (ge T 40 0 21 = ge S 40 0 21 ∧ ge T 40 0 30 = ge S 40 0 30 ∧ ge T 40 0 31 = ge S 40 0 31 ∧ ge T 40 0 32 = ge S 40 0 32 ∧ ge T 40 0 33 = ge S 40 0 33 ∧ ge T 40 0 34 = ge S 40 0 34 ∧ ge T 40 0 35 = ge S 40 0 35 ∧ ge T 40 0 36 = ge S 40 0 36 ∧ ge T 40 0 37 = ge S 40 0 37 ∧ ge T 40 0 38 = ge S 40 0 38 ∧ ge T 40 0 15 = ge S 40 0 15 ∧ ge T 40 0 46 = ge S 40 0 46) ∧
  (ge S 40 0 13).toInt ≤ (ge T 40 0 13).toInt ∧ ∀ k j : Nat, k < m → j < 14 → ge T 57 k j = ge S 57 k j
def AC (S T : fS) (m : Nat) : Prop :=
  (∀ j : Nat, 1 ≤ j → j ≤ 12 → j ≠ 11 → ge T 1 0 j = ge S 1 0 j) ∧ ge T 2 0 0 = ge S 2 0 0 ∧ (∀ a j : Nat, 3 ≤ a → a ≤ 9 → j < 24 → ge T a 0 j = ge S a 0 j) ∧ (∀ j : Nat, j < 64 → ge T 10 0 j = ge S 10 0 j) ∧
  (∀ k : Nat, k < m → gr T 11 0 k = gr S 11 0 k) ∧ (∀ t j : Nat, 1 ≤ t → t < nT S → ge T 25 t j = ge S 25 t j) ∧ nT S ≤ nT T
section RLS
variable {S T U : fS} {m : Nat}
theorem AR.rf : AR S S m := ⟨fun _ _ => ⟨rfl, rfl, rfl, rfl, rfl, rfl⟩, fun _ _ _ _ => rfl, fun _ _ => rfl, ⟨rfl, rfl, rfl, rfl, rfl, rfl, rfl, rfl, rfl, rfl, rfl, rfl⟩, Int.le_refl _, fun _ _ _ _ => rfl⟩
theorem AC.rf : AC S S m := ⟨fun _ _ _ _ => rfl, rfl, fun _ _ _ _ _ => rfl, fun _ _ => rfl, fun _ _ => rfl, fun _ _ _ _ => rfl, Nat.le_refl _⟩
theorem AR.tr (h : AR S T m) (g : AR T U m) : AR S U m := by
  obtain ⟨a1, a2, a3, ⟨a4, a5, a6, a7, a8, a9, a10, a11, a12, a13, a14, a15⟩, a16, a17⟩ := h
  obtain ⟨b1, b2, b3, ⟨b4, b5, b6, b7, b8, b9, b10, b11, b12, b13, b14, b15⟩, b16, b17⟩ := g
  refine ⟨fun t ht => ?_, fun c k hc hk => (b2 c k hc hk).trans (a2 c k hc hk), fun c hc => (b3 c hc).trans (a3 c hc), ⟨b4.trans a4, b5.trans a5, b6.trans a6, b7.trans a7, b8.trans a8, b9.trans a9, b10.trans a10, b11.trans a11, b12.trans a12, b13.trans a13, b14.trans a14, b15.trans a15⟩, Int.le_trans a16 b16, fun k j hk hj => (b17 k j hk hj).trans (a17 k j hk hj)⟩
  obtain ⟨x1, x2, x3, x4, x5, x6⟩ := a1 t ht
  obtain ⟨y1, y2, y3, y4, y5, y6⟩ := b1 t (by show (t : Int) < (ge T 40 0 21).toInt; rw [a4]; exact ht)
  exact ⟨y1.trans x1, y2.trans x2, y3.trans x3, y4.trans x4, y5.trans x5, y6.trans x6⟩
theorem AC.tr (h : AC S T m) (g : AC T U m) : AC S U m := by
  obtain ⟨a1, a2, a3, a4, a5, a6, a7⟩ := h
  obtain ⟨b1, b2, b3, b4, b5, b6, b7⟩ := g
  exact ⟨fun j h1 h2 h3 => (b1 j h1 h2 h3).trans (a1 j h1 h2 h3), b2.trans a2, fun a j h1 h2 h3 => (b3 a j h1 h2 h3).trans (a3 a j h1 h2 h3), fun j hj => (b4 j hj).trans (a4 j hj), fun k hk => (b5 k hk).trans (a5 k hk), fun t j h1 h2 => (b6 t j h1 (Nat.lt_of_lt_of_le h2 a7)).trans (a6 t j h1 h2), Nat.le_trans a7 b7⟩
theorem AR.nqE (a : AR S T m) : nq T = nq S := by unfold nq; rw [a.2.2.2.1.1]
theorem AR.HB (a : AR S T m) (h0 : 0 ≤ nq S) (H : HVq S) : (∀ t : Nat, (t : Int) < nq S → hw T t = hw S t) ∧ (∀ c : Nat, c < 64 → hh T c = hh S c) ∧ (∀ c k : Nat, c < 64 → (k : Int) < hh S c → hq T c k = hq S c k) ∧ ∀ c : Nat, c < 64 → hh S c ≤ 24 := by
  obtain ⟨h1, h2, h3, h4⟩ := H
  have le : ∀ c : Nat, c < 64 → hh S c ≤ 24 := fun c hc => by
    have := h1.le h0 hc
    omega
  refine ⟨fun t ht => ?_, fun c hc => ?_, fun c k hc hk => ?_, le⟩
  · unfold hw
    rw [(a.1 t ht).2.2.2.2.1]
  · unfold hh
    rw [a.2.2.1 c hc]
  · have := le c hc
    unfold hq
    rw [a.2.1 c k hc (by omega)]
theorem AR.HV (a : AR S T m) (h0 : 0 ≤ nq S) (H : HVq S) : HVq T := by
  obtain ⟨e1, e2, e3, _⟩ := a.HB h0 H
  obtain ⟨h1, h2, h3, h4⟩ := H
  refine ⟨?_, fun c hc => by rw [e2 c hc]; exact h2 c hc, by rw [a.nqE]; exact h3, fun t ht => ?_⟩
  · rw [a.nqE]
    exact h1.cg e1 (fun i hi => (h4 i hi).2.2) e2 e3
  · rw [a.nqE] at ht
    obtain ⟨x1, x2, x3, x4, x5, x6⟩ := a.1 t ht
    rw [e1 t ht, x2, x6]
    exact h4 t ht
theorem CVq.ac {w : Nat → Int} {hp : Nat → Nat → Int} {ht : Nat → Int} {n : Int} (h : CVq S 0 n w hp ht) (b : AC S T m) (hn : n ≤ 24) : CVq T 0 n w hp ht := by
  obtain ⟨h1, h2, h3, h4, h5, h6⟩ := h
  obtain ⟨b1, b2, b3, b4, _⟩ := b
  refine ⟨h1, h2.cg (fun _ _ => rfl) (fun _ _ _ _ => rfl) (fun c hc => by rw [b4 c hc]) (fun c k hc hk => ?_), by rw [b2]; exact h3, h4, fun t ht => by rw [b3 8 t (by decide) (by decide) (by omega)]; exact h5 t ht, h6⟩
  have := h1.1 c k hc hk
  rw [b3 9 _ (by decide) (by decide) (by omega)]
theorem RLb.cg (h : RLb S) (hm : (ge S 40 0 46).toInt = (m : Int)) (a : AR S T m) (b : AC S T m) : RLb T := by
  obtain ⟨h0, H, hO, B, N, hI, hs, hR⟩ := h
  obtain ⟨e1, e2, e3, e4⟩ := a.HB h0 H
  have hT := a.HV h0 H
  have en := a.nqE
  have n24 := H.2.2.1
  obtain ⟨b1, b2, b4, b5⟩ := B
  obtain ⟨a1, a2, a3, ⟨c21, c30, c31, c32, c33, c34, c35, c36, c37, c38, c15, c46⟩, a13, a57⟩ := a
  have k1 : ∀ j : Nat, 1 ≤ j → j ≤ 12 → j ≠ 11 → ge T 1 0 j = ge S 1 0 j := b.1
  refine ⟨by rw [en]; exact h0, hT, ?_, ⟨?_, fun t ht => ?_, ?_, ?_⟩, ?_, ?_, ?_, ?_⟩
  · unfold HOq
    rw [c30]
    exact hO
  · rw [en]
    exact (b1.cg e1 e2 e3).ac b n24
  · rw [en] at ht
    obtain ⟨x1, x2, x3, x4, x5, x6⟩ := a1 t ht
    rw [b.2.2.1 3 t (by decide) (by decide) (by omega), b.2.2.1 4 t (by decide) (by decide) (by omega), b.2.2.1 5 t (by decide) (by decide) (by omega), b.2.2.1 6 t (by decide) (by decide) (by omega), b.2.2.1 7 t (by decide) (by decide) (by omega), x1, x2, x3, x4, x6]
    exact b2 t ht
  · rw [k1 1 (by decide) (by decide) (by decide), c30]
    exact b4
  · rw [k1 2 (by decide) (by decide) (by decide), c31]
    exact b5
  · unfold NBq at *
    rw [k1 3 (by decide) (by decide) (by decide), k1 4 (by decide) (by decide) (by decide), k1 7 (by decide) (by decide) (by decide), k1 8 (by decide) (by decide) (by decide), k1 9 (by decide) (by decide) (by decide), k1 10 (by decide) (by decide) (by decide), c32, c33, c35, c36, c37, c38]
    exact N
  · unfold IFq at *
    rw [k1 6 (by decide) (by decide) (by decide), c15]
    exact ⟨hI.1, hI.2.1, by have := hI.2.2; omega⟩
  · rw [k1 5 (by decide) (by decide) (by decide), c34]
    exact hs
  · obtain ⟨m', m2, r1, r2, r3⟩ := hR
    have em : m' = m := by omega
    rw [em] at r1 r2 r3
    refine ⟨m, by omega, by rw [k1 12 (by decide) (by decide) (by decide)]; exact r1, by rw [c46]; exact r2, fun k hk => ?_⟩
    obtain ⟨t, g1, g2, g3, g4⟩ := r3 k hk
    obtain ⟨_, _, _, _, b11, b25, bn⟩ := b
    refine ⟨t, by rw [b11 k hk]; exact g1, ?_, g3, Nat.lt_of_lt_of_le g4 bn⟩
    obtain ⟨u1, u2, u3⟩ := g2
    have en : ∀ j : Nat, j < 14 → rcN T k j = rcN S k j := fun j hj => by unfold rcN; rw [a57 k j hk hj]
    refine ⟨fun j hj => by rw [b25 t j g3 g4, a57 k j hk (by omega)]; exact u1 j hj, ?_, fun q => ?_⟩
    · unfold RKq at u2 ⊢
      rw [a57 k 0 hk (by decide), a57 k 1 hk (by decide), a57 k 2 hk (by decide), a57 k 11 hk (by decide), a57 k 12 hk (by decide), en 0 (by decide), en 11 (by decide), en 12 (by decide)]
      exact u2
    · rw [a57 k 1 hk (by decide)] at q
      have z := u3 q
      rw [en 0 (by decide), en 11 (by decide), en 12 (by decide), a57 k 10 hk (by decide)]
      unfold TYq at z ⊢
      rw [b25 t 0 g3 g4, b25 t 10 g3 g4, b25 t 11 g3 g4, b25 t 12 g3 g4, b25 t 13 g3 g4, b25 t 14 g3 g4]
      exact z
/-- cells that are not written -/
theorem AR.fx {V : Nat → Nat → Nat → Bool} (F : FX V S T) (h1 : ∀ a j : Nat, 46 ≤ a → a ≤ 54 → V a 0 j = false) (h53 : ∀ c j : Nat, V 53 c j = false) (h40 : ∀ j : Nat, j = 13 ∨ j = 15 ∨ j = 21 ∨ (30 ≤ j ∧ j ≤ 38) ∨ j = 46 → V 40 0 j = false) (h57 : ∀ k j : Nat, V 57 k j = false) : AR S T m := by
  have c : ∀ j : Nat, j = 13 ∨ j = 15 ∨ j = 21 ∨ (30 ≤ j ∧ j ≤ 38) ∨ j = 46 → ge T 40 0 j = ge S 40 0 j := fun j hj => F.1 40 0 j (h40 j hj)
  refine ⟨fun t _ => ⟨F.1 46 0 t (h1 _ _ (by decide) (by decide)), F.1 47 0 t (h1 _ _ (by decide) (by decide)), F.1 48 0 t (h1 _ _ (by decide) (by decide)), F.1 49 0 t (h1 _ _ (by decide) (by decide)), F.1 50 0 t (h1 _ _ (by decide) (by decide)), F.1 51 0 t (h1 _ _ (by decide) (by decide))⟩, fun c k _ _ => F.1 53 c k (h53 c k), fun c _ => F.1 54 0 c (h1 _ _ (by decide) (by decide)), ⟨c 21 (by decide), c 30 (by decide), c 31 (by decide), c 32 (by decide), c 33 (by decide), c 34 (by decide), c 35 (by decide), c 36 (by decide), c 37 (by decide), c 38 (by decide), c 15 (by decide), c 46 (by decide)⟩, by rw [c 13 (by decide)]; exact Int.le_refl _, fun k j _ _ => F.1 57 k j (h57 k j)⟩
theorem AR.sr (h : SRq S T) : AR S T m := by
  have c : ∀ j : Nat, ge T 40 0 j = ge S 40 0 j := fun j => h 40 0 j (by decide)
  refine ⟨fun t _ => ⟨h 46 0 t (by decide), h 47 0 t (by decide), h 48 0 t (by decide), h 49 0 t (by decide), h 50 0 t (by decide), h 51 0 t (by decide)⟩, fun c k _ _ => h 53 c k (by decide), fun c _ => h 54 0 c (by decide), ⟨c 21, c 30, c 31, c 32, c 33, c 34, c 35, c 36, c 37, c 38, c 15, c 46⟩, by rw [c 13]; exact Int.le_refl _, fun k j _ _ => h 57 k j (by decide)⟩
theorem AC.fx {V : Nat → Nat → Nat → Bool} (F : FX V S T) (h1 : ∀ a j : Nat, 1 ≤ a → a ≤ 10 → V a 0 j = false) (h25 : ∀ t j : Nat, 1 ≤ t → V 25 t j = false) : AC S T m := by
  refine ⟨fun j _ _ _ => F.1 1 0 j (h1 _ _ (by decide) (by decide)), F.1 2 0 0 (h1 _ _ (by decide) (by decide)), fun a j h3 h9 _ => F.1 a 0 j (h1 _ _ (by omega) (by omega)), fun j _ => F.1 10 0 j (h1 _ _ (by decide) (by decide)), fun k _ => gr_fx F _ _ _, fun t j ht _ => F.1 25 t j (h25 t j ht), ?_⟩
  rw [show nT T = nT S from congrArg (fun z => z.2.1.1) F.2]
  exact Nat.le_refl _
end RLS
