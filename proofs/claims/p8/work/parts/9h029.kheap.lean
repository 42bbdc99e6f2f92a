/-! the class's heaps, exactly -/
section KHP
variable {S T : fS} {r : Nat} {n : Int} {w w' : Nat → Int} {hp hp' : Nat → Nat → Int} {ht ht' : Nat → Int} {c t j : Nat} {p x : Int32}
theorem Whq_8 (r j : Nat) : Whq r 8 r j = true := Nat.beq_refl r
theorem Whq_9 (r j : Nat) : Whq r 9 r j = true := Nat.beq_refl r
theorem Whq_10 (r j : Nat) : Whq r 10 r j = true := Nat.beq_refl r
theorem CRl.cg {tp bn tp' bn' : Nat → Int} (h : CRl hp ht tp bn) (hH : ∀ c : Nat, c < 64 → ht' c = ht c) (hP : ∀ c k : Nat, c < 64 → (k : Int) < ht c → hp' c k = hp c k) (h1 : ∀ c : Nat, c < 64 → tp' c = tp c) (h2 : ∀ c k : Nat, c < 64 → (k : Int) < ht c → bn' (hp c k).toNat = bn (hp c k).toNat) : CRl hp' ht' tp' bn' := by
  intro c hc
  obtain ⟨a1, a2⟩ := h c hc
  rw [hH c hc, h1 c hc, a1]
  refine ⟨?_, fun k hk => ?_⟩
  · by_cases z : ht c ≤ 0
    · rw [if_pos z, if_pos z]
    · rw [if_neg z, if_neg z, hP c _ hc (by omega)]
  · rw [hP c k hc hk, h2 c k hc hk, a2 k hk]
    by_cases z : k = 0
    · rw [if_pos z, if_pos z]
    · rw [if_neg z, if_neg z, hP c (k - 1) hc (by omega)]
/-- the same heaps, told otherwise -/
theorem CVq.cg (h : CVq S r n w hp ht) (hW : ∀ t : Nat, (t : Int) < n → w' t = w t) (hH : ∀ c : Nat, c < 64 → ht' c = ht c) (hP : ∀ c k : Nat, c < 64 → (k : Int) < ht c → hp' c k = hp c k) : CVq S r n w' hp' ht' := by
  obtain ⟨h1, h2, h3, h4, h5, h6⟩ := h
  exact ⟨h1.cg hW (fun i hi => (h5 i hi).2.2) hH hP, h2.cg hH hP (fun _ _ => rfl) (fun _ _ _ _ => rfl), h3, h4, fun t ht => by rw [hW t ht]; exact h5 t ht, fun c hc => by rw [hH c hc]; exact h6 c hc⟩
theorem CVq.fx {W : Nat → Nat → Nat → Bool} (h : CVq S r n w hp ht) (F : FX W S T) (w2 : ∀ j : Nat, W 2 r j = false) (w8 : ∀ j : Nat, W 8 r j = false) (w9 : ∀ j : Nat, W 9 r j = false) (w10 : ∀ j : Nat, W 10 r j = false) : CVq T r n w hp ht := by
  obtain ⟨h1, h2, h3, h4, h5, h6⟩ := h
  exact ⟨h1, h2.cg (fun _ _ => rfl) (fun _ _ _ _ => rfl) (fun c _ => by rw [F.1 10 r c (w10 c)]) (fun c k _ _ => by rw [F.1 9 r _ (w9 _)]), by rw [F.1 2 r 0 (w2 0)]; exact h3, h4, fun t ht => by rw [F.1 8 r t (w8 t)]; exact h5 t ht, h6⟩
theorem y_known (r : Nat) (p : Int32) : pk (F_X2_known r p S) (fun v T => S = T ∧ ((v.toInt = 0 ∧ ¬ (0 ≤ p.toInt ∧ p.toInt < (ge S 2 r 0).toInt ∧ p.toInt < 24)) ∨ (v.toInt = 1 ∧ 0 ≤ p.toInt ∧ p.toInt < (ge S 2 r 0).toInt ∧ p.toInt < 24))) := by
  have l0 : (0 : Int32).toInt = 0 := by decide
  have l1 : (1 : Int32).toInt = 1 := by decide
  have l24 : (24 : Int32).toInt = 24 := by decide
  unfold F_X2_known
  refine pq_lt (fun c => pq_some ⟨rfl, by omega⟩) (fun c => ?_)
  refine pq_iv fun x2 e2 => ?_
  rw [← e2]
  exact pq_le (fun c2 => pq_some ⟨rfl, by omega⟩) (fun c2 => pq_le (fun c3 => pq_some ⟨rfl, by omega⟩) (fun c3 => pq_some ⟨rfl, by omega⟩))
theorem y_known1 (h : CVq S r n w hp ht) (hp : p.toInt = (t : Int)) (htn : (t : Int) < n) : pk (F_X2_known r p S) (fun v T => S = T ∧ v.toInt = 1) := by
  refine pq_imp (y_known r p) (fun v T q => ⟨q.1, ?_⟩)
  have h3 := h.2.2.1
  have h4 := h.2.2.2.1
  have q2 := q.2
  omega
/-- the level of a thing; none if it lies nowhere -/
theorem y_levelOf (h : CVq S r n w hp ht) (hpt : p.toInt = (t : Int)) (htn : (t : Int) < n) : pk (F_X2_levelOf r p S) (fun v T => S = T ∧ (w t < 0 → v.toInt = -1) ∧ ∀ c j : Nat, c < 64 → (j : Int) < ht c → hp c j = (t : Int) → v.toInt = (j : Int)) := by
  have l0 : (0 : Int32).toInt = 0 := by decide
  have lm1 : (-1 : Int32).toInt = -1 := by decide
  have l24 : (24 : Int32).toInt = 24 := by decide
  obtain ⟨h1, h2, h3, h4, h5, h6⟩ := h
  have h := (show CVq S r n w hp ht from ⟨h1, h2, h3, h4, h5, h6⟩)
  have ht24 : ∀ c : Nat, c < 64 → ht c ≤ 24 := fun c hc => Int.le_trans (h1.le (by omega) hc) h4
  unfold F_X2_levelOf
  rw [cnNq hpt]
  refine pq_bd (y_known1 h hpt htn) (fun v10 T q => ?_)
  obtain ⟨rfl, q1⟩ := q
  refine pq_eq (fun c => absurd c (by omega)) (fun _ => ?_)
  refine pq_gd fun _ => ?_
  refine pq_iv fun x15 e15 => ?_
  have g15 : x15.toInt = w t := by rw [e15]; exact (h5 t htn).1
  refine pq_le (fun c => ?_) (fun c => ?_)
  · refine pq_gd fun _ => ?_
    refine pq_iv fun x18 e18 => ?_
    have g18 : x18.toInt = (ge S 9 r t).toInt := by rw [e18]
    -- where it lies
    obtain ⟨k, hk, hkt⟩ := h1.2.2 t htn (by omega)
    obtain ⟨c0, hc0⟩ : ∃ c0 : Nat, (w t).toNat = c0 := ⟨_, rfl⟩
    rw [hc0] at hk hkt
    have hc64 : c0 < 64 := by have := (h5 t htn).2.2; omega
    have un : ∀ c j : Nat, c < 64 → (j : Int) < ht c → hp c j = (t : Int) → c = c0 ∧ j = k := by
      intro c j hc hj e
      have a := (h1.1 c j hc hj).2.2
      rw [e, Int.toNat_natCast] at a
      have hcc : c = c0 := by omega
      subst hcc
      exact ⟨rfl, h1.2.1 c j k hc hj hk (by omega)⟩
    obtain ⟨_, b2⟩ := h2 c0 hc64
    have bk := b2 k hk
    rw [hkt, Int.toNat_natCast] at bk
    refine pq_imp (Q := fun v T => S = T ∧ v.toInt = (k : Int)) ?_ (fun v T q => ⟨q.1, fun z => by omega, fun c j hc hj e => by obtain ⟨e1, e2⟩ := un c j hc hj e; rw [e2]; exact q.2⟩)
    have hk24 := ht24 c0 hc64
    refine pq_lp (fun (z : Int32 × Int32 × Int32) T => S = T ∧ ∃ i : Nat, i ≤ k ∧ z.1.toInt = ((k - i : Nat) : Int) ∧ z.2.2.toInt = ((k - i : Nat) : Int) ∧ z.2.1.toInt = if i = 0 then -1 else hp c0 (i - 1)) (fun _ _ (v : Int32) T => S = T ∧ v.toInt = (k : Int)) ?_ fuel (0, x18, 0) S ⟨rfl, k, Nat.le_refl _, by rw [Nat.sub_self]; exact l0, by rw [Nat.sub_self]; exact l0, by dsimp only; rw [g18]; exact bk⟩
    intro kk hkk z T hI
    obtain ⟨a2, a3, a4⟩ := z
    obtain ⟨rfl, i, i1, i2, i3, i4⟩ := hI
    dsimp only at i2 i3 i4
    unfold B_X2_levelOf_31
    dsimp only
    refine pq_le (fun c => absurd c (by omega)) (fun _ => ?_)
    refine pq_bd (y_known r a3) (fun v2 T q => ?_)
    obtain ⟨rfl, q2⟩ := q
    refine pq_eq (fun c => ?_) (fun c => ?_)
    · by_cases z : i = 0
      · rw [z] at i2
        exact pq_some ⟨rfl, by rw [i2]; omega⟩
      · rw [if_neg z] at i4
        have a := h1.1 c0 (i - 1) hc64 (by omega)
        exfalso
        omega
    · have z : i ≠ 0 := by
        intro z
        rw [if_pos z] at i4
        omega
      rw [if_neg z] at i4
      refine pq_iv fun x6 e6 => ?_
      have g6 : x6.toInt = a2.toInt + 1 := by rw [e6]; exact ti_inc (by omega)
      refine pq_gd fun _ => ?_
      refine pq_iv fun x8 e8 => ?_
      refine pq_iv fun x9 e9 => ?_
      have g9 : x9.toInt = a4.toInt + 1 := by rw [e9]; exact ti_inc (by omega)
      have bi := b2 (i - 1) (by omega)
      refine hkk (x6, x8, x9) S ⟨rfl, i - 1, by omega, by dsimp only; omega, by dsimp only; omega, ?_⟩
      dsimp only
      rw [e8, show a3.toNatClampNeg = (hp c0 (i - 1)).toNat from by have := h1.1 c0 (i - 1) hc64 (by omega); exact cnNq (by omega)]
      exact bi
  · refine pq_some ⟨rfl, fun _ => lm1, fun c j hc hj e => ?_⟩
    have a := (h1.1 c j hc hj).2.2
    rw [e, Int.toNat_natCast] at a
    omega
def hpP (hp : Nat → Nat → Int) (ht : Nat → Int) (c t : Nat) (c' k : Nat) : Int := if c' = c ∧ (k : Int) = ht c then (t : Int) else hp c' k
def htP (ht : Nat → Int) (c c' : Nat) : Int := if c' = c then ht c + 1 else ht c'
def hpT (hp : Nat → Nat → Int) (ht : Nat → Int) (c j : Nat) (c' k : Nat) : Int := if c' = c ∧ j ≤ k ∧ (k : Int) < ht c - 1 then hp c (k + 1) else hp c' k
def htT (ht : Nat → Int) (c c' : Nat) : Int := if c' = c then ht c - 1 else ht c'
def wU (w : Nat → Int) (t : Nat) (v : Int) (u : Nat) : Int := if u = t then v else w u
/-- a thing that lies nowhere is put on top -/
theorem y_put (h : CVq S r n w hp ht) (hpt : p.toInt = (t : Int)) (htn : (t : Int) < n) (hx : x.toInt = (c : Int)) (hc : c < 64) (hwt : w t < 0) : pk (F_X2_put r p x S) (fun _ T => FX (Whq r) S T ∧ CVq T r n (wU w t c) (hpP hp ht c t) (htP ht c)) := by
  have l0 : (0 : Int32).toInt = 0 := by decide
  have l63 : (63 : Int32).toInt = 63 := by decide
  obtain ⟨h1, h2, h3, h4, h5, h6⟩ := h
  have h := (show CVq S r n w hp ht from ⟨h1, h2, h3, h4, h5, h6⟩)
  unfold F_X2_put
  rw [cnNq hpt, cnNq hx]
  refine pq_bd (y_known1 h hpt htn) (fun v1 T q => ?_)
  obtain ⟨rfl, q1⟩ := q
  refine pq_eq (fun c => absurd c (by omega)) (fun _ => ?_)
  refine pq_bd (w_in x 0 63 S).pk (fun v5 T q => ?_)
  obtain ⟨rfl, q5⟩ := q
  refine pq_eq (fun c => absurd c (by omega)) (fun _ => ?_)
  refine pq_gd fun _ => pq_sv fun S10 E10 => ?_
  refine pq_gd fun _ => ?_
  refine pq_iv fun x12 e12 => ?_
  rw [E10, ge_pua (by decide)] at e12
  refine pq_gd fun _ => pq_sv fun S14 E14 => ?_
  refine pq_gd fun _ => pq_sv fun S16 E16 => pq_some ?_
  have F10 : FX (Whq r) S S10 := by rw [E10]; exact FX.rf.wr (Whq_8 r t)
  have F14 : FX (Whq r) S S14 := by rw [E14]; exact F10.wr (Whq_9 r t)
  have F16 : FX (Whq r) S S16 := by rw [E16]; exact F14.wr (Whq_10 r c)
  have fresh : ∀ c' k : Nat, c' < 64 → (k : Int) < ht c' → (hp c' k).toNat ≠ t := by
    intro c' k hc' hk e
    have a := h1.1 c' k hc' hk
    rw [e] at a
    omega
  have e8 : ∀ u : Nat, ge S16 8 r u = if u = t then x else ge S 8 r u := by
    intro u
    rw [E16, ge_pua (by decide), E14, ge_pua (by decide), E10, ge_pu]
    by_cases d : u = t
    · rw [if_pos ⟨rfl, rfl, d⟩, if_pos d]
    · rw [if_neg (fun q => d q.2.2), if_neg d]
  have e9 : ∀ u : Nat, ge S16 9 r u = if u = t then ge S 10 r c else ge S 9 r u := by
    intro u
    rw [E16, ge_pua (by decide), E14, ge_pu]
    by_cases d : u = t
    · rw [if_pos ⟨rfl, rfl, d⟩, if_pos d, e12]
    · rw [if_neg (fun q => d q.2.2), if_neg d, E10, ge_pua (by decide)]
  have e10 : ∀ u : Nat, ge S16 10 r u = if u = c then p else ge S 10 r u := by
    intro u
    rw [E16, ge_pu]
    by_cases d : u = c
    · rw [if_pos ⟨rfl, rfl, d⟩, if_pos d]
    · rw [if_neg (fun q => d q.2.2), if_neg d, E14, ge_pua (by decide), E10, ge_pua (by decide)]
  refine ⟨F16, ?_, ?_, by rw [F16.1 2 r 0 rfl]; exact h3, h4, fun u hu => ?_, fun c' hc' => ?_⟩
  · exact h1.put (t := t) (c := c) (Int.le_refl n) (fun i hi _ => Or.inl hi) htn (fun _ => hwt) hc (h6 c hc) (fun i hi => (h5 i hi).2.2) (fun _ => rfl) (fun _ => rfl) (fun _ _ => rfl)
  · refine h2.put h1 hc (h6 c hc) fresh (fun c' hne => by unfold htP; rw [if_neg hne]) (by unfold htP; rw [if_pos rfl]) (fun c' k hc' hk => by unfold hpP; rw [if_neg (fun q => by rw [q.1] at hk; omega)]) (by unfold hpP; rw [if_pos ⟨rfl, by have := h6 c hc; omega⟩]) (fun c' hne => by rw [e10, if_neg hne]) (by rw [e10, if_pos rfl]; exact hpt) (fun u hne => by rw [e9, if_neg hne]) (by rw [e9, if_pos rfl])
  · unfold wU
    rw [e8]
    by_cases d : u = t
    · rw [if_pos d, if_pos d]
      exact ⟨hx, by omega, by omega⟩
    · rw [if_neg d, if_neg d]
      exact h5 u hu
  · unfold htP
    by_cases d : c' = c
    · rw [if_pos d]
      have := h6 c hc
      omega
    · rw [if_neg d]
      exact h6 c' hc'
/-- the chain is closed behind what is taken out of it -/
theorem y_unhook (h : CVq S r n w hp ht) (hpt : p.toInt = (t : Int)) (hc : c < 64) (hj : (j : Int) + 1 < ht c) (htj : hp c j = (t : Int)) (hx : x.toInt = hp c (ht c - 1).toNat) : pk (F_X2_unhook r p x S) (fun _ T => T = pu S 9 r (hp c (j + 1)).toNat (ge S 9 r t)) := by
  have l0 : (0 : Int32).toInt = 0 := by decide
  have l24 : (24 : Int32).toInt = 24 := by decide
  obtain ⟨h1, h2, h3, h4, h5, h6⟩ := h
  have ht24 : ht c ≤ 24 := Int.le_trans (h1.le (by have := h6 c hc; have := h1.1 c j hc (by omega); omega) hc) h4
  obtain ⟨_, b2⟩ := h2 c hc
  unfold F_X2_unhook
  refine pq_lp (fun (z : Int32 × Int32 × Int32) T => S = T ∧ z.1 = p ∧ ∃ i : Nat, j < i ∧ (i : Int) < ht c ∧ z.2.2.toInt = ht c - 1 - (i : Int) ∧ z.2.1.toInt = hp c i) (fun _ _ (_ : Int32) T => T = pu S 9 r (hp c (j + 1)).toNat (ge S 9 r t)) ?_ fuel (p, x, 0) S ⟨rfl, rfl, (ht c - 1).toNat, by omega, by omega, by dsimp only; omega, hx⟩
  intro k hk z T hI
  obtain ⟨a1, a3, a4⟩ := z
  obtain ⟨rfl, e1, i, i1, i2, i3, i4⟩ := hI
  dsimp only at e1 i3 i4
  subst e1
  have ai := h1.1 c i hc i2
  have r3 : a3.toNatClampNeg = (hp c i).toNat := cnNq (by omega)
  have bi := b2 i i2
  rw [if_neg (by omega)] at bi
  unfold B_X2_unhook_5
  dsimp only
  rw [cnNq hpt, r3]
  refine pq_le (fun c => absurd c (by omega)) (fun _ => ?_)
  refine pq_bd (y_known r a3) (fun v2 T q => ?_)
  obtain ⟨rfl, q2⟩ := q
  refine pq_eq (fun c => absurd c (by omega)) (fun _ => ?_)
  refine pq_gd fun _ => ?_
  refine pq_iv fun x7 e7 => ?_
  have g7 : x7.toInt = hp c (i - 1) := by rw [e7]; exact bi
  refine pq_eq (fun c7 => ?_) (fun c7 => ?_)
  · have e : i - 1 = j := h1.2.1 c (i - 1) j hc (by omega) (by omega) (by omega)
    refine pq_gd fun _ => ?_
    refine pq_iv fun x13 e13 => ?_
    refine pq_gd fun _ => ?_
    refine pq_sv fun S15 E15 => pq_some ?_
    rw [E15, e13, show j + 1 = i from by omega]
  · refine pq_gd fun _ => ?_
    refine pq_iv fun x10 e10 => ?_
    refine pq_iv fun x11 e11 => ?_
    have g11 : x11.toInt = a4.toInt + 1 := by rw [e11]; exact ti_inc (by omega)
    have hne : i - 1 ≠ j := fun e => c7 (by rw [g7, e, htj, hpt])
    exact hk (a1, x10, x11) S ⟨rfl, rfl, i - 1, by omega, by omega, by dsimp only; omega, by dsimp only; rw [e10]; exact bi⟩
/-- a thing is taken out of its heap -/
theorem y_takeOut (h : CVq S r n w hp ht) (hpt : p.toInt = (t : Int)) (htn : (t : Int) < n) (hwt : w t = (c : Int)) (hc : c < 64) (hj : (j : Int) < ht c) (htj : hp c j = (t : Int)) (hx : x.toInt < 0 ∧ -2 ≤ x.toInt) : pk (F_X2_takeOut r p x S) (fun _ T => FX (Whq r) S T ∧ CVq T r n (wU w t x.toInt) (hpT hp ht c j) (htT ht c)) := by
  have l0 : (0 : Int32).toInt = 0 := by decide
  have lm1 : (-1 : Int32).toInt = -1 := by decide
  have l63 : (63 : Int32).toInt = 63 := by decide
  obtain ⟨h1, h2, h3, h4, h5, h6⟩ := h
  have h := (show CVq S r n w hp ht from ⟨h1, h2, h3, h4, h5, h6⟩)
  obtain ⟨b1, b2⟩ := h2 c hc
  have bj := b2 j hj
  rw [htj, Int.toNat_natCast] at bj
  have dif : ∀ k k' : Nat, (k : Int) < ht c → (k' : Int) < ht c → k ≠ k' → (hp c k).toNat ≠ (hp c k').toNat := by
    intro k k' hk hk' hne e
    have x := h1.1 c k hc hk
    have y := h1.1 c k' hc hk'
    exact hne (h1.2.1 c k k' hc hk hk' (by omega))
  -- the end: its place and what lies beneath it
  have fin : ∀ U : fS, FX (Whq r) S U → (∀ u : Nat, ge U 8 r u = ge S 8 r u) → (∀ c' : Nat, c' ≠ c → ge U 10 r c' = ge S 10 r c') → ((ge U 10 r c).toInt = if (j : Int) + 1 = ht c then (ge S 9 r t).toInt else (ge S 10 r c).toInt) → (∀ u : Nat, ((j : Int) + 1 < ht c → u ≠ (hp c (j + 1)).toNat) → ge U 9 r u = ge S 9 r u) → ((j : Int) + 1 < ht c → ge U 9 r (hp c (j + 1)).toNat = ge S 9 r t) → pk (B_X2_takeOut_67 r p x U) (fun _ T => FX (Whq r) S T ∧ CVq T r n (wU w t x.toInt) (hpT hp ht c j) (htT ht c)) := by
    intro U FU u8 u10 u10c u9 u9j
    unfold B_X2_takeOut_67
    rw [cnNq hpt]
    refine pq_gd fun _ => pq_sv fun S2 E2 => ?_
    refine pq_gd fun _ => pq_sv fun S4 E4 => pq_some ?_
    have F2 : FX (Whq r) S S2 := by rw [E2]; exact FU.wr (Whq_8 r t)
    have F4 : FX (Whq r) S S4 := by rw [E4]; exact F2.wr (Whq_9 r t)
    refine ⟨F4, ?_, ?_, by rw [F4.1 2 r 0 rfl]; exact h3, h4, fun u hu => ?_, fun c' hc' => ?_⟩
    · refine h1.take (k0 := j) hc hwt htn hj htj hx.1 (fun _ => rfl) (fun _ => rfl) (fun i k hne => by unfold hpT; rw [if_neg (fun q => hne q.1)]) (fun k hk => ?_) (fun i hi => (h5 i hi).2.2)
      unfold hpT
      by_cases d : k < j
      · rw [if_pos d, if_neg (by omega)]
      · rw [if_neg d, if_pos ⟨rfl, by omega, hk⟩]
    · refine h2.take (t := t) (j := j) h1 hc hj htj (fun c' hne => by unfold htT; rw [if_neg hne]) (by unfold htT; rw [if_pos rfl]) (fun c' k hne _ _ => by unfold hpT; rw [if_neg (fun q => hne q.1)]) (fun k hk => by unfold hpT; rw [if_neg (by omega)]) (fun k hk hk2 => by unfold hpT; rw [if_pos ⟨rfl, hk, hk2⟩]) (fun c' hne => ?_) ?_ (fun u hne hne2 => ?_) (fun q => ?_)
      · rw [E4, ge_pua (by decide), E2, ge_pua (by decide), u10 c' hne]
      · rw [E4, ge_pua (by decide), E2, ge_pua (by decide)]
        exact u10c
      · rw [E4, ge_puj hne, E2, ge_pua (by decide), u9 u hne2]
      · have hne : (hp c (j + 1)).toNat ≠ t := by
          have := dif (j + 1) j (by omega) hj (by omega)
          rw [htj, Int.toNat_natCast] at this
          exact this
        rw [E4, ge_puj hne, E2, ge_pua (by decide), u9j q]
    · unfold wU
      rw [E4, ge_pua (by decide), E2, ge_pu]
      by_cases d : u = t
      · rw [if_pos ⟨rfl, rfl, d⟩, if_pos d]
        exact ⟨rfl, by omega, by omega⟩
      · rw [if_neg (fun q => d q.2.2), if_neg d, u8 u]
        exact h5 u hu
    · unfold htT
      by_cases d : c' = c
      · rw [if_pos d]
        omega
      · rw [if_neg d]
        exact h6 c' hc'
  unfold F_X2_takeOut
  rw [cnNq hpt]
  refine pq_bd (y_known1 h hpt htn) (fun v5 T q => ?_)
  obtain ⟨rfl, q5⟩ := q
  refine pq_eq (fun c => absurd c (by omega)) (fun _ => ?_)
  refine pq_gd fun _ => ?_
  refine pq_iv fun x10 e10 => ?_
  have g10 : x10.toInt = (c : Int) := by rw [e10, (h5 t htn).1, hwt]
  refine pq_bd (w_in x10 0 63 S).pk (fun v11 T q => ?_)
  obtain ⟨rfl, q11⟩ := q
  refine pq_eq (fun c => absurd c (by omega)) (fun _ => ?_)
  refine pq_gd fun _ => ?_
  refine pq_iv fun x16 e16 => ?_
  have g16 : x16.toInt = (c : Int) := by rw [e16, (h5 t htn).1, hwt]
  rw [cnNq g16]
  refine pq_gd fun _ => ?_
  refine pq_iv fun x18 e18 => ?_
  have g18 : x18.toInt = hp c (ht c - 1).toNat := by
    rw [e18]
    rw [if_neg (by omega)] at b1
    exact b1
  refine pq_eq (fun c18 => ?_) (fun c18 => ?_)
  · have ej : (j : Int) + 1 = ht c := by
      have := h1.2.1 c (ht c - 1).toNat j hc (by omega) hj (by omega)
      omega
    refine pq_gd fun _ => ?_
    refine pq_iv fun x26 e26 => ?_
    refine pq_gd fun _ => ?_
    refine pq_sv fun S28 E28 => ?_
    refine fin S28 (by rw [E28]; exact FX.rf.wr (Whq_10 r c)) (fun u => by rw [E28, ge_pua (by decide)]) (fun c' hne => by rw [E28, ge_puj hne]) (by rw [E28, ge_pus, if_pos ej, e26]) (fun u _ => by rw [E28, ge_pua (by decide)]) (fun q => by omega)
  · have ej : (j : Int) + 1 < ht c := by
      have hne : (ht c - 1).toNat ≠ j := fun e => c18 (by rw [g18, e, htj, hpt])
      omega
    refine pq_gd fun _ => ?_
    refine pq_iv fun x21 e21 => ?_
    refine pq_bd (y_unhook h hpt hc ej htj (by rw [e21, ← e18]; exact g18)) (fun _ S23 E23 => ?_)
    refine fin S23 (by rw [E23]; exact FX.rf.wr (Whq_9 r _)) (fun u => by rw [E23, ge_pua (by decide)]) (fun c' hne => by rw [E23, ge_pua (by decide)]) (by rw [E23, ge_pua (by decide), if_neg (by omega)]) (fun u hne => by rw [E23, ge_puj (hne ej)]) (fun _ => by rw [E23, ge_pus])
end KHP
