/-! the class's tokens, exactly -/
def TB (S : fS) (b : Nat → Int) (n : Nat) : Prop := n ≤ 300 ∧ (∀ p : Nat, p < n → b p = (ge S 16 0 p).toInt ∧ 0 ≤ b p ∧ b p ≤ 255) ∧ ∀ p : Nat, n ≤ p → b p = -1
theorem TB.tx {S : fS} {b : Nat → Int} {n : Nat} (h : TB S b n) : TXT b := fun i hi => h.2.2 i (by have := h.1; omega)
theorem TB.le {S : fS} {b : Nat → Int} {n : Nat} (h : TB S b n) (p : Nat) : -1 ≤ b p ∧ b p ≤ 255 := by
  by_cases c : p < n
  · have := h.2.1 p c
    omega
  · rw [h.2.2 p (by omega)]
    decide
theorem TB.lt {S : fS} {b : Nat → Int} {n : Nat} (h : TB S b n) {p : Nat} (hp : ¬ b p = -1) : p < n := by
  by_cases c : p < n
  · exact c
  · exact absurd (h.2.2 p (by omega)) hp
theorem w_in (p0 p1 p2 : Int32) (S : fS) : zk (F_X6_within p0 p1 p2 S) (fun v T => S = T ∧ ((v.toInt = 0 ∧ ¬ (p1.toInt ≤ p0.toInt ∧ p0.toInt ≤ p2.toInt)) ∨ (v.toInt = 1 ∧ p1.toInt ≤ p0.toInt ∧ p0.toInt ≤ p2.toInt))) := by
  have l0 : (0 : Int32).toInt = 0 := by decide
  have l1 : (1 : Int32).toInt = 1 := by decide
  unfold F_X6_within
  exact zk_lt (fun c => zk_some ⟨rfl, by omega⟩) (fun c => zk_lt (fun c2 => zk_some ⟨rfl, by omega⟩) (fun c2 => zk_some ⟨rfl, by omega⟩))
theorem x_runEnd {S : fS} {b : Nat → Int} {n p : Nat} {p2 p3 p4 : Int32} (hT : TB S b n) (hn : (ge S 17 0 5).toInt = (n : Int)) (hp : p2.toInt = (p : Int)) (hpn : p ≤ n) (hl : 0 ≤ p3.toInt) : zk (F_X4_runEnd p2 p3 p4 S) (fun v T => S = T ∧ v.toInt = (rn b p3.toInt p4.toInt p : Int)) := by
  have h300 := hT.1
  have htx := hT.tx
  unfold F_X4_runEnd
  refine zk_lp (fun (z : Int32 × Int32 × Int32) T => S = T ∧ z.1 = p3 ∧ z.2.1 = p4 ∧ ∃ r : Nat, z.2.2.toInt = (r : Int) ∧ r ≤ n ∧ rn b p3.toInt p4.toInt r = rn b p3.toInt p4.toInt p) (fun (z : Int32 × Int32 × Int32) _ => (302 - z.2.2.toInt).toNat) (fun _ _ (v : Int32) T => S = T ∧ v.toInt = (rn b p3.toInt p4.toInt p : Int)) ?_ (p3, p4, p2) S ⟨rfl, rfl, rfl, p, hp, hpn, rfl⟩ (by show (302 - p2.toInt).toNat < 4294967296; omega)
  intro k z T hI hk
  obtain ⟨a3, a4, a5⟩ := z
  obtain ⟨rfl, h1, h2, r, h3, h4, h5⟩ := hI
  dsimp only at h1 h2 h3
  subst h1
  subst h2
  unfold B_X4_runEnd_3
  dsimp only
  refine zk_iv fun x1 e1 => ?_
  have g1 : x1.toInt = (n : Int) := by rw [e1]; exact hn
  have hr0 : a5.toNatClampNeg = r := by have := cn_eq (x := a5) (by omega); omega
  refine zk_le (fun c => ?_) (fun c => ?_)
  · have e : r = n := by omega
    refine zk_some ⟨rfl, ?_⟩
    rw [← h5, rn_no htx hl (by rw [e, hT.2.2 n (Nat.le_refl _)]; omega)]
    exact h3
  · refine zk_gd ⟨by omega, by omega⟩ ?_
    refine zk_iv fun x4 e4 => ?_
    rw [hr0] at e4
    have hb := hT.2.1 r (by omega)
    rw [← e4] at hb
    refine zk_bd (w_in x4 a3 a4 S) (fun v5 U h => ?_)
    obtain ⟨rfl, h6⟩ := h
    have l0 : (0 : Int32).toInt = 0 := by decide
    refine zk_eq (fun c2 => ?_) (fun c2 => ?_)
    · refine zk_some ⟨rfl, ?_⟩
      rw [← h5, rn_no htx hl (by omega)]
      exact h3
    · refine zk_iv fun x9 e9 => ?_
      have g9 : x9.toInt = a5.toInt + 1 := by rw [e9]; exact ti_inc (by omega)
      refine hk (a3, a4, x9) S ⟨rfl, rfl, rfl, r + 1, by dsimp only; omega, by omega, ?_⟩ (by show (302 - x9.toInt).toNat < (302 - a5.toInt).toNat; omega)
      rw [rn_up htx hl (by omega)]
      exact h5
theorem c1k_st {a d : Int} (ha : 0 ≤ a) (hd : 0 ≤ d) : c1k (10 * c1k a + d) = c1k (10 * a + d) := by
  unfold c1k
  omega
theorem x_numberIn {S : fS} {b : Nat → Int} {n p q : Nat} {p1 p2 : Int32} (hT : TB S b n) (hp : p1.toInt = (p : Int)) (hq : p2.toInt = (q : Int)) (hpq : p ≤ q) (hqn : q ≤ n) (hd : ∀ i : Nat, p ≤ i → i < q → 48 ≤ b i ∧ b i ≤ 57) : zk (F_X4_numberIn p1 p2 S) (fun v T => S = T ∧ v.toInt = c1k (nuv b p (q - p))) := by
  have h300 := hT.1
  have l0 : (0 : Int32).toInt = 0 := by decide
  have l10 : (10 : Int32).toInt = 10 := by decide
  have l48 : (48 : Int32).toInt = 48 := by decide
  have l1000 : (1000 : Int32).toInt = 1000 := by decide
  have nn : ∀ k : Nat, p + k ≤ q → 0 ≤ nuv b p k := by
    intro k
    induction k with
    | zero => intro _; exact Int.le_refl _
    | succ k ih =>
      intro hk
      have a := ih (by omega)
      have c := hd (p + k) (by omega) (by omega)
      show 0 ≤ 10 * nuv b p k + (b (p + k) - 48)
      omega
  unfold F_X4_numberIn
  refine zk_lp (fun (z : Int32 × Int32 × Int32) T => S = T ∧ z.1 = p2 ∧ ∃ r : Nat, z.2.2.toInt = (r : Int) ∧ p ≤ r ∧ r ≤ q ∧ z.2.1.toInt = c1k (nuv b p (r - p))) (fun (z : Int32 × Int32 × Int32) _ => (302 - z.2.2.toInt).toNat) (fun _ _ (v : Int32) T => S = T ∧ v.toInt = c1k (nuv b p (q - p))) ?_ (p2, 0, p1) S ⟨rfl, rfl, p, hp, Nat.le_refl _, hpq, by rw [Nat.sub_self]; exact l0⟩ (by show (302 - p1.toInt).toNat < 4294967296; omega)
  intro k z T hI hk
  obtain ⟨a2, a3, a4⟩ := z
  obtain ⟨rfl, h1, r, h3, h4, h5, h6⟩ := hI
  dsimp only at h1 h3 h6
  subst h1
  unfold B_X4_numberIn_5
  dsimp only
  have hr0 : a4.toNatClampNeg = r := by have := cn_eq (x := a4) (by omega); omega
  have ca : 0 ≤ a3.toInt ∧ a3.toInt ≤ 1000 := by
    have := nn (r - p) (by omega)
    rw [h6]
    unfold c1k
    omega
  refine zk_le (fun c => ?_) (fun c => ?_)
  · have e : r = q := by omega
    rw [e] at h6
    exact zk_some ⟨rfl, h6⟩
  · have dg := hd r h4 (by omega)
    refine zk_iv fun x2 e2 => ?_
    have g2 : x2.toInt = 10 * a3.toInt := by rw [e2, ti_mul (by rw [l10]; omega) (by rw [l10]; omega), l10]; omega
    refine zk_gd ⟨by omega, by omega⟩ ?_
    refine zk_iv fun x4 e4 => ?_
    rw [hr0] at e4
    have hb := hT.2.1 r (by omega)
    rw [← e4] at hb
    refine zk_iv fun x5 e5 => ?_
    have g5 : x5.toInt = x2.toInt + x4.toInt := by rw [e5]; exact ti_add (by omega) (by omega)
    refine zk_iv fun x6 e6 => ?_
    have g6 : x6.toInt = x5.toInt - 48 := by rw [e6, ti_sub (by omega) (by omega), l48]
    refine zk_iv fun x7 e7 => ?_
    have g7 := zi_min e7
    refine zk_iv fun x8 e8 => ?_
    have g8 : x8.toInt = a4.toInt + 1 := by rw [e8]; exact ti_inc (by omega)
    refine hk (a2, x7, x8) S ⟨rfl, rfl, r + 1, by dsimp only; omega, by omega, by omega, ?_⟩ (by show (302 - x8.toInt).toNat < (302 - a4.toInt).toNat; omega)
    dsimp only
    have nx : nuv b p (r + 1 - p) = 10 * nuv b p (r - p) + (b r - 48) := by
      rw [show r + 1 - p = (r - p) + 1 from by omega]
      show 10 * nuv b p (r - p) + (b (p + (r - p)) - 48) = _
      rw [show p + (r - p) = r from by omega]
    rw [nx, ← c1k_st (nn (r - p) (by omega)) (by omega), ← h6]
    unfold c1k
    omega
/-- one of the sixteen words -/
theorem x_spells {S : fS} {b : Nat → Int} {n p : Nat} {p1 p2 : Int32} {r : Nat} (hT : TB S b n) (hr : r < 16) (hp : p1.toInt = (p : Int)) (hq : p2.toInt = (rn b 97 122 p : Int)) (hqn : rn b 97 122 p ≤ n) : zk (F_X4_spells p1 p2 r S) (fun v T => S = T ∧ ((v.toInt = 0 ∧ ¬ wc b p = cd r) ∨ (v.toInt = 1 ∧ wc b p = cd r))) := by
  have h300 := hT.1
  have l0 : (0 : Int32).toInt = 0 := by decide
  have l1 : (1 : Int32).toInt = 1 := by decide
  have hrl := rn_le (b := b) (lo := 97) (hi := 122) p
  have hcd := wc_cd (b := b) (q := p) hr
  have hN : ∀ r : Nat, r < 16 → rsN.getD r 0 ≤ 5 := by decide
  have hN := hN r hr
  unfold F_X4_spells
  refine zk_iv fun x9 e9 => ?_
  have g9 : x9.toInt = ((rn b 97 122 p - p : Nat) : Int) := by rw [e9, ti_sub (by omega) (by omega)]; omega
  refine zk_iv fun x10 e10 => ?_
  have g10 : x10.toInt = ((rsN.getD r 0 : Nat) : Int) := by rw [e10]; exact nI_toInt (by omega)
  refine zk_eq (fun c => ?_) (fun c => zk_some ⟨rfl, Or.inl ⟨l0, fun h => by have := (hcd.1 h).1; omega⟩⟩)
  have hlen : rn b 97 122 p - p = rsN.getD r 0 := by omega
  refine zk_lp (fun (z : Int32 × Int32 × Int32) T => S = T ∧ z.1 = p1 ∧ z.2.1 = p2 ∧ ∃ i : Nat, z.2.2.toInt = ((p + i : Nat) : Int) ∧ i ≤ rsN.getD r 0 ∧ ∀ k : Nat, k < i → b (p + k) = ((rsB.getD r []).getD k 0).toInt) (fun (z : Int32 × Int32 × Int32) _ => (302 - z.2.2.toInt).toNat) (fun _ _ (v : Int32) T => S = T ∧ ((v.toInt = 0 ∧ ¬ wc b p = cd r) ∨ (v.toInt = 1 ∧ wc b p = cd r))) ?_ (p1, p2, p1) S ⟨rfl, rfl, rfl, 0, by rw [Nat.add_zero]; exact hp, Nat.zero_le _, fun k h => absurd h (Nat.not_lt_zero _)⟩ (by show (302 - p1.toInt).toNat < 4294967296; omega)
  intro k z T hI hk
  obtain ⟨a1, a2, a4⟩ := z
  obtain ⟨rfl, h1, h2, i, h3, h4, h5⟩ := hI
  dsimp only at h1 h2 h3
  subst h1
  subst h2
  unfold B_X4_spells_15
  dsimp only
  have hr0 : a4.toNatClampNeg = p + i := by have := cn_eq (x := a4) (by omega); omega
  refine zk_le (fun c2 => ?_) (fun c2 => ?_)
  · have e : i = rsN.getD r 0 := by omega
    rw [e] at h5
    exact zk_some ⟨rfl, Or.inr ⟨l1, hcd.2 ⟨hlen, h5⟩⟩⟩
  · refine zk_gd ⟨by omega, by omega⟩ ?_
    refine zk_iv fun x3 e3 => ?_
    rw [hr0] at e3
    have hb := hT.2.1 (p + i) (by omega)
    rw [← e3] at hb
    refine zk_iv fun x4 e4 => ?_
    have g4 : x4.toInt = (i : Int) := by rw [e4, ti_sub (by omega) (by omega)]; omega
    have hr4 : x4.toNatClampNeg = i := by have := cn_eq (x := x4) (by omega); omega
    refine zk_gd ⟨by omega, by omega⟩ ?_
    refine zk_iv fun x6 e6 => ?_
    rw [hr4] at e6
    refine zk_eq (fun c3 => ?_) (fun c3 => ?_)
    · refine zk_iv fun x8 e8 => ?_
      have g8 : x8.toInt = a4.toInt + 1 := by rw [e8]; exact ti_inc (by omega)
      refine hk (a1, a2, x8) S ⟨rfl, rfl, rfl, i + 1, by dsimp only; omega, by omega, fun k9 h9 => ?_⟩ (by show (302 - x8.toInt).toNat < (302 - a4.toInt).toNat; omega)
      by_cases d : k9 = i
      · rw [d, hb.1, c3, e6]
      · exact h5 k9 (by omega)
    · refine zk_some ⟨rfl, Or.inl ⟨l0, fun h => c3 ?_⟩⟩
      rw [← hb.1, e6]
      exact (hcd.1 h).2 i (by omega)
theorem wkd_no {c : Int} (h : ∀ r : Nat, r < 16 → ¬ c = cd r) : wkd c = 258 := by
  have h0 : ¬ c = 151162 := h 0 (by decide)
  have h1 : ¬ c = 382984 := h 1 (by decide)
  have h2 : ¬ c = 247690 := h 2 (by decide)
  have h3 : ¬ c = 249 := h 3 (by decide)
  have h4 : ¬ c = 423 := h 4 (by decide)
  have h5 : ¬ c = 1111 := h 5 (by decide)
  have h6 : ¬ c = 10631 := h 6 (by decide)
  have h7 : ¬ c = 6476969 := h 7 (by decide)
  have h8 : ¬ c = 267347 := h 8 (by decide)
  have h9 : ¬ c = 10989829 := h 9 (by decide)
  have h10 : ¬ c = 10284818 := h 10 (by decide)
  have h11 : ¬ c = 1896526 := h 11 (by decide)
  have h12 : ¬ c = 315904 := h 12 (by decide)
  have h13 : ¬ c = 168984 := h 13 (by decide)
  have h14 : ¬ c = 9173 := h 14 (by decide)
  have h15 : ¬ c = 2228 := h 15 (by decide)
  unfold wkd
  omega
theorem x_nameIn {S : fS} {b : Nat → Int} {n p : Nat} {p1 p2 : Int32} (hT : TB S b n) (hp : p1.toInt = (p : Int)) (hq : p2.toInt = (rn b 97 122 p : Int)) (hqn : rn b 97 122 p ≤ n) (h9 : ∀ r : Nat, r < 9 → ¬ wc b p = cd r) : zk (F_X4_nameIn p1 p2 S) (fun v T => S = T ∧ v.toInt = wkd (wc b p)) := by
  have l0 : (0 : Int32).toInt = 0 := by decide
  have W : ∀ (r : Nat) (_ : r < 16), zk (F_X4_spells p1 p2 r S) (fun v T => S = T ∧ ((v.toInt = 0 ∧ ¬ wc b p = cd r) ∨ (v.toInt = 1 ∧ wc b p = cd r))) := fun r hr => x_spells hT hr hp hq hqn
  unfold F_X4_nameIn
  refine zk_bd (W 9 (by decide)) (fun v1 T h => ?_)
  obtain ⟨rfl, g0⟩ := h
  refine zk_eq (fun c0 => ?_) (fun c0 => zk_some ⟨rfl, by rw [show wc b p = cd 9 from by omega]; decide⟩)
  refine zk_bd (W 10 (by decide)) (fun v2 T h => ?_)
  obtain ⟨rfl, g1⟩ := h
  refine zk_eq (fun c1 => ?_) (fun c1 => zk_some ⟨rfl, by rw [show wc b p = cd 10 from by omega]; decide⟩)
  refine zk_bd (W 11 (by decide)) (fun v3 T h => ?_)
  obtain ⟨rfl, g2⟩ := h
  refine zk_eq (fun c2 => ?_) (fun c2 => zk_some ⟨rfl, by rw [show wc b p = cd 11 from by omega]; decide⟩)
  refine zk_bd (W 12 (by decide)) (fun v4 T h => ?_)
  obtain ⟨rfl, g3⟩ := h
  refine zk_eq (fun c3 => ?_) (fun c3 => zk_some ⟨rfl, by rw [show wc b p = cd 12 from by omega]; decide⟩)
  refine zk_bd (W 13 (by decide)) (fun v5 T h => ?_)
  obtain ⟨rfl, g4⟩ := h
  refine zk_eq (fun c4 => ?_) (fun c4 => zk_some ⟨rfl, by rw [show wc b p = cd 13 from by omega]; decide⟩)
  refine zk_bd (W 14 (by decide)) (fun v6 T h => ?_)
  obtain ⟨rfl, g5⟩ := h
  refine zk_eq (fun c5 => ?_) (fun c5 => zk_some ⟨rfl, by rw [show wc b p = cd 14 from by omega]; decide⟩)
  refine zk_bd (W 15 (by decide)) (fun v7 T h => ?_)
  obtain ⟨rfl, g6⟩ := h
  refine zk_eq (fun c6 => ?_) (fun c6 => zk_some ⟨rfl, by rw [show wc b p = cd 15 from by omega]; decide⟩)
  refine zk_some ⟨rfl, ?_⟩
  rw [wkd_no (fun r hr => ?_)]
  · decide
  · by_cases d : r < 9
    · exact h9 r d
    · have : r = 9 ∨ r = 10 ∨ r = 11 ∨ r = 12 ∨ r = 13 ∨ r = 14 ∨ r = 15 := by omega
      rcases this with rfl | rfl | rfl | rfl | rfl | rfl | rfl <;> omega
theorem x_wordIn {S : fS} {b : Nat → Int} {n p : Nat} {p1 p2 : Int32} (hT : TB S b n) (hp : p1.toInt = (p : Int)) (hq : p2.toInt = (rn b 97 122 p : Int)) (hqn : rn b 97 122 p ≤ n) : zk (F_X4_wordIn p1 p2 S) (fun v T => S = T ∧ v.toInt = wkd (wc b p)) := by
  have l0 : (0 : Int32).toInt = 0 := by decide
  have W : ∀ (r : Nat) (_ : r < 16), zk (F_X4_spells p1 p2 r S) (fun v T => S = T ∧ ((v.toInt = 0 ∧ ¬ wc b p = cd r) ∨ (v.toInt = 1 ∧ wc b p = cd r))) := fun r hr => x_spells hT hr hp hq hqn
  unfold F_X4_wordIn
  refine zk_bd (W 0 (by decide)) (fun v1 T h => ?_)
  obtain ⟨rfl, g0⟩ := h
  refine zk_eq (fun c0 => ?_) (fun c0 => zk_some ⟨rfl, by rw [show wc b p = cd 0 from by omega]; decide⟩)
  refine zk_bd (W 1 (by decide)) (fun v2 T h => ?_)
  obtain ⟨rfl, g1⟩ := h
  refine zk_eq (fun c1 => ?_) (fun c1 => zk_some ⟨rfl, by rw [show wc b p = cd 1 from by omega]; decide⟩)
  refine zk_bd (W 2 (by decide)) (fun v3 T h => ?_)
  obtain ⟨rfl, g2⟩ := h
  refine zk_eq (fun c2 => ?_) (fun c2 => zk_some ⟨rfl, by rw [show wc b p = cd 2 from by omega]; decide⟩)
  refine zk_bd (W 3 (by decide)) (fun v4 T h => ?_)
  obtain ⟨rfl, g3⟩ := h
  refine zk_eq (fun c3 => ?_) (fun c3 => zk_some ⟨rfl, by rw [show wc b p = cd 3 from by omega]; decide⟩)
  refine zk_bd (W 4 (by decide)) (fun v5 T h => ?_)
  obtain ⟨rfl, g4⟩ := h
  refine zk_eq (fun c4 => ?_) (fun c4 => zk_some ⟨rfl, by rw [show wc b p = cd 4 from by omega]; decide⟩)
  refine zk_bd (W 5 (by decide)) (fun v6 T h => ?_)
  obtain ⟨rfl, g5⟩ := h
  refine zk_eq (fun c5 => ?_) (fun c5 => zk_some ⟨rfl, by rw [show wc b p = cd 5 from by omega]; decide⟩)
  refine zk_bd (W 6 (by decide)) (fun v7 T h => ?_)
  obtain ⟨rfl, g6⟩ := h
  refine zk_eq (fun c6 => ?_) (fun c6 => zk_some ⟨rfl, by rw [show wc b p = cd 6 from by omega]; decide⟩)
  refine zk_bd (W 7 (by decide)) (fun v8 T h => ?_)
  obtain ⟨rfl, g7⟩ := h
  refine zk_eq (fun c7 => ?_) (fun c7 => zk_some ⟨rfl, by rw [show wc b p = cd 7 from by omega]; decide⟩)
  refine zk_bd (W 8 (by decide)) (fun v9 T h => ?_)
  obtain ⟨rfl, g8⟩ := h
  refine zk_eq (fun c8 => ?_) (fun c8 => zk_some ⟨rfl, by rw [show wc b p = cd 8 from by omega]; decide⟩)
  refine zk_bd (x_nameIn hT hp hq hqn (fun r hr => ?_)) (fun v T h => zk_some h)
  have : r = 0 ∨ r = 1 ∨ r = 2 ∨ r = 3 ∨ r = 4 ∨ r = 5 ∨ r = 6 ∨ r = 7 ∨ r = 8 := by omega
  rcases this with rfl | rfl | rfl | rfl | rfl | rfl | rfl | rfl | rfl <;> omega
