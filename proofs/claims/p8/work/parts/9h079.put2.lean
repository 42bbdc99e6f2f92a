/-! a thing is laid, told anew: its place does not matter before -/
section PT2
variable {S T : fS} {r : Nat} {n n' : Int} {w : Nat → Int} {hp : Nat → Nat → Int} {ht : Nat → Int} {c t : Nat} {p x : Int32}
theorem y_put2 (h1 : HB n w hp ht) (h2 : CRl hp ht (fun c => (ge S 10 r c).toInt) (fun t => (ge S 9 r t).toInt)) (hs : (t : Int) < (ge S 2 r 0).toInt) (hs2 : (ge S 2 r 0).toInt ≤ 24) (hb : ∀ i : Nat, (i : Int) < n → w i ≤ 63) (h6 : ∀ c : Nat, c < 64 → 0 ≤ ht c) (hn : n ≤ n') (htn : (t : Int) < n') (hwt : (t : Int) < n → w t < 0) (hns : ∀ i : Nat, (i : Int) < n' → i ≠ t → (i : Int) < n) (hpt : p.toInt = (t : Int)) (hx : x.toInt = (c : Int)) (hc : c < 64) : pk (F_X2_put r p x S) (fun _ T => FX (Whq r) S T ∧ HB n' (wU w t c) (hpP hp ht c t) (htP ht c) ∧ CRl (hpP hp ht c t) (htP ht c) (fun c => (ge T 10 r c).toInt) (fun t => (ge T 9 r t).toInt) ∧ (∀ u : Nat, ge T 8 r u = if u = t then x else ge S 8 r u) ∧ ∀ c' : Nat, c' < 64 → 0 ≤ htP ht c c') := by
  have l0 : (0 : Int32).toInt = 0 := by decide
  have l63 : (63 : Int32).toInt = 63 := by decide
  unfold F_X2_put
  rw [cnNq hpt, cnNq hx]
  refine pq_bd (y_known r p) (fun v1 T q => ?_)
  obtain ⟨rfl, q1⟩ := q
  refine pq_eq (fun c => absurd c (by omega)) (fun _ => ?_)
  refine pq_bd (w_in x 0 63 S).pk (fun v5 T q => ?_)
  obtain ⟨rfl, q5⟩ := q
  refine pq_eq (fun c => absurd c (by omega)) (fun _ => ?_)
  refine pq_gd fun _ => pq_sv fun S10 E10 => ?_
  refine pq_gd fun _ => ?_
  refine pq_iv fun x12 e12 => ?_
  rw [E10, ge_pua (by decide)] at e12
  refine pq_gd fun _ => pq_sv fun S14 E14 => ?_
  refine pq_gd fun _ => pq_sv fun S16 E16 => pq_some ?_
  have F10 : FX (Whq r) S S10 := by rw [E10]; exact FX.rf.wr (Whq_8 r t)
  have F14 : FX (Whq r) S S14 := by rw [E14]; exact F10.wr (Whq_9 r t)
  have F16 : FX (Whq r) S S16 := by rw [E16]; exact F14.wr (Whq_10 r c)
  have fresh : ∀ c' k : Nat, c' < 64 → (k : Int) < ht c' → (hp c' k).toNat ≠ t := by
    intro c' k hc' hk e
    have a := h1.1 c' k hc' hk
    rw [e] at a
    have := hwt (by omega)
    omega
  have e8 : ∀ u : Nat, ge S16 8 r u = if u = t then x else ge S 8 r u := by
    intro u
    rw [E16, ge_pua (by decide), E14, ge_pua (by decide), E10, ge_pu]
    by_cases d : u = t
    · rw [if_pos ⟨rfl, rfl, d⟩, if_pos d]
    · rw [if_neg (fun q => d q.2.2), if_neg d]
  have e9 : ∀ u : Nat, ge S16 9 r u = if u = t then ge S 10 r c else ge S 9 r u := by
    intro u
    rw [E16, ge_pua (by decide), E14, ge_pu]
    by_cases d : u = t
    · rw [if_pos ⟨rfl, rfl, d⟩, if_pos d, e12]
    · rw [if_neg (fun q => d q.2.2), if_neg d, E10, ge_pua (by decide)]
  have e10 : ∀ u : Nat, ge S16 10 r u = if u = c then p else ge S 10 r u := by
    intro u
    rw [E16, ge_pu]
    by_cases d : u = c
    · rw [if_pos ⟨rfl, rfl, d⟩, if_pos d]
    · rw [if_neg (fun q => d q.2.2), if_neg d, E14, ge_pua (by decide), E10, ge_pua (by decide)]
  refine ⟨F16, ?_, ?_, e8, fun c' hc' => ?_⟩
  · exact h1.put (t := t) (c := c) hn (fun i hi hne => Or.inl (hns i hi hne)) htn hwt hc (h6 c hc) hb (fun _ => rfl) (fun _ => rfl) (fun _ _ => rfl)
  · refine h2.put h1 hc (h6 c hc) fresh (fun c' hne => by unfold htP; rw [if_neg hne]) (by unfold htP; rw [if_pos rfl]) (fun c' k hc' hk => by unfold hpP; rw [if_neg (fun q => by rw [q.1] at hk; omega)]) (by unfold hpP; rw [if_pos ⟨rfl, by have := h6 c hc; omega⟩]) (fun c' hne => by rw [e10, if_neg hne]) (by rw [e10, if_pos rfl]; exact hpt) (fun u hne => by rw [e9, if_neg hne]) (by rw [e9, if_pos rfl])
  · unfold htP
    by_cases d : c' = c
    · rw [if_pos d]
      have := h6 c hc
      omega
    · rw [if_neg d]
      exact h6 c' hc'
end PT2
/-! key, lay -/
section LAYS
variable {S : fS} {p p2 p3 p4 : Int32}
theorem Whq_out {r a i j : Nat} (h : a ≠ 8) (h2 : a ≠ 9) (h3 : a ≠ 10) : Whq r a i j = false := by unfold Whq; rw [beq_out h, beq_out h2, beq_out h3]; rfl
theorem Wg_out {a i j : Nat} (h : a ≠ 53) (h2 : a ≠ 54) (h3 : a ≠ 50) : Wg a i j = false := by unfold Wg; rw [beq_out h, beq_out h2, beq_out h3]; rfl
theorem Whq_B : ∀ a i j : Nat, WBx a i j = false → Whq 0 a i j = false := by
  intro a i j h
  unfold WBx at h
  rw [Bool.or_eq_false_iff] at h
  have h1 := h.1
  unfold Whq
  by_cases e : i = 0
  · subst e
    rw [show Nat.beq 0 0 = true from rfl, Bool.and_true] at h1 ⊢
    have o : ¬ (1 ≤ a ∧ a ≤ 10) := fun q => by rw [ble_yes q.1, ble_yes q.2] at h1; cases h1
    rw [beq_out (by omega : a ≠ 8), beq_out (by omega : a ≠ 9), beq_out (by omega : a ≠ 10)]
    rfl
  · rw [beq_out e, Bool.and_false]
theorem Wg_B : ∀ a i j : Nat, WBx a i j = false → Wg a i j = false := by
  intro a i j h
  unfold WBx at h
  rw [Bool.or_eq_false_iff, Bool.or_eq_false_iff] at h
  have h1 := h.2.1
  have o : ¬ (46 ≤ a ∧ a ≤ 54) := fun q => by rw [ble_yes q.1, ble_yes q.2] at h1; cases h1
  unfold Wg
  rw [beq_out (by omega : a ≠ 53), beq_out (by omega : a ≠ 54), beq_out (by omega : a ≠ 50)]
  rfl
/-- behind a move of things: the heaps alike again -/
theorem heap_RL {T : fS} (h : IV S) (F : FX WBx S T) (g : ∀ a i j : Nat, a ≠ 8 → a ≠ 9 → a ≠ 10 → a ≠ 50 → a ≠ 53 → a ≠ 54 → ¬ (a = 40 ∧ j = 0) → ge T a i j = ge S a i j) (C : CVq T 0 (nq S) (hw T) (hq T) (hh T)) : RLv T := by
  obtain ⟨H, hO, B, N, hP, hI, hs, hR, _⟩ := h.2.2.2.1
  have en : nq T = nq S := by unfold nq; rw [g _ _ _ (by decide) (by decide) (by decide) (by decide) (by decide) (by decide) (by decide)]
  have g1 : ∀ j : Nat, ge T 1 0 j = ge S 1 0 j := fun j => g _ _ _ (by decide) (by decide) (by decide) (by decide) (by decide) (by decide) (by omega)
  have g40 : ∀ j : Nat, j ≠ 0 → ge T 40 0 j = ge S 40 0 j := fun j hj => g _ _ _ (by decide) (by decide) (by decide) (by decide) (by decide) (by decide) (by omega)
  have gt : ∀ a u : Nat, a = 3 ∨ a = 4 ∨ a = 5 ∨ a = 6 ∨ a = 7 ∨ a = 46 ∨ a = 47 ∨ a = 48 ∨ a = 49 ∨ a = 51 → ge T a 0 u = ge S a 0 u := fun a u ha => g _ _ _ (by omega) (by omega) (by omega) (by omega) (by omega) (by omega) (by omega)
  have n24 := H.2.2.1
  refine h.2.2.2.bx F ⟨by rw [en]; exact C.1, C.2.2.2.2.2, by rw [en]; exact n24, fun t ht => ?_⟩ ?_ ⟨by rw [en]; exact C, fun t ht => ?_, ?_, ?_⟩ ?_ ?_ ?_ (hR.bx F (g1 12) (g40 46 (by decide)))
  · rw [en] at ht
    rw [gt 47 t (by decide), gt 51 t (by decide)]
    exact ⟨(H.2.2.2 t ht).1, (C.2.2.2.2.1 t ht).2⟩
  · unfold HOq
    rw [g40 30 (by decide)]; exact hO
  · rw [en] at ht
    rw [gt 3 t (by decide), gt 4 t (by decide), gt 5 t (by decide), gt 6 t (by decide), gt 7 t (by decide), gt 46 t (by decide), gt 47 t (by decide), gt 48 t (by decide), gt 49 t (by decide), gt 51 t (by decide)]
    exact B.2.1 t ht
  · rw [g1, g40 30 (by decide)]; exact B.2.2.1
  · rw [g1, g40 31 (by decide)]; exact B.2.2.2
  · unfold NBq at *
    rw [g1, g1, g1, g1, g1, g1, g40 32 (by decide), g40 33 (by decide), g40 35 (by decide), g40 36 (by decide), g40 37 (by decide), g40 38 (by decide)]
    exact N
  · unfold IFq at *
    rw [g1, g40 15 (by decide), g40 13 (by decide)]; exact hI
  · rw [g1, g40 34 (by decide)]; exact hs
theorem rk_key (h : IV S) (z : ge S 40 0 0 = 0) : RK (fun ec => if ec = 0 then 0 else 1) (F_X6_key p S) (F_X7_key p) := by
  have lm2 : (-2 : Int32).toInt = -2 := by decide
  obtain ⟨H, hO, B, _⟩ := h.2.2.2.1
  have en : (ge S 2 0 0).toInt = nq S := B.1.2.2.1
  have h0 := h.nq
  unfold RK F_X6_key
  refine pq_iv fun x1 e1 => pg_el (by rw [e1, en]; exact h0) (fun hc => ?_) (fun hc => ?_)
  · have hc' : ie p (ge S 40 0 21) := ⟨hc.1, by have := hc.2; rw [e1, en] at this; exact this⟩
    obtain ⟨t, hp⟩ : ∃ t : Nat, p.toInt = (t : Int) := ⟨p.toInt.toNat, by have := hc.1; omega⟩
    have ht : (t : Int) < nq S := by have := hc'.2; rw [hp] at this; exact this
    refine pq_gd fun _ => pq_iv fun x e => ?_
    rw [cnNq hp] at e
    have ex : x.toInt = hw S t := by rw [e]; exact (B.1.2.2.2.2.1 t ht).1
    refine pq_le (fun c => ?_) (fun c => pq_some ?_)
    · rw [l0', ex] at c
      obtain ⟨c0, j, hc0, c1, c2, c3⟩ := lies H ht c
      refine pq_bd (y_takeOut B.1 hp ht hc0 c1 c2 c3 ⟨by omega, by omega⟩) (fun v T1 q => ?_)
      obtain ⟨F1, C1⟩ := q
      refine pq_some ?_
      have s1 : SRq S T1 := F1.sr (fun a i j ha => Whq_out (by omega) (by omega) (by omega))
      have z1 : ge T1 40 0 0 = 0 := by rw [s1 40 0 0 (by decide)]; exact z
      have hc1 : ie p (ge T1 40 0 21) := by rw [s1 40 0 21 (by decide)]; exact hc'
      unfold F_X7_key
      refine pg7_0 z1 (pq_iv fun x e => pq_iv fun y ey => pg7_el (n := x) (by rw [e, s1 40 0 21 (by decide)]; exact h0) ey (fun _ => pg_b1 ?_) (fun q => absurd (by rw [e]; exact hc1) q))
      unfold B_X7_key_25
      refine pg7_ok z1 (pq_gd fun _ => pq_iv fun x6 e6 => ?_)
      rw [cnNq hp] at e6
      have g6 : x6.toInt = hw S t := by rw [e6, s1 50 0 t (by decide)]; rfl
      refine pq_le (fun _ => ?_) (fun q => absurd q (by rw [g6, l0']; omega))
      have H1 : HB (nq S) (hw S) (hq T1) (hh T1) := by rw [s1.hqE, s1.hhE]; exact H.1
      refine pq_bd (q_goes H1 hp (by rw [s1.hwE]; exact hc0) c1 (by rw [s1.hhE]; exact c2) (by rw [s1.hqE]; exact c3)) (fun v2 T2 q => ?_)
      obtain ⟨F2, q1, q2, q3⟩ := q
      rw [s1.hhE] at q1 q2
      rw [s1.hqE] at q2
      rw [s1.hwE] at q3
      refine pq_some ⟨heap_RL h ((F1.sub Whq_B).tr (F2.sub Wg_B)) (fun a i j h8 h9 h10 h50 h53 h54 _ => by rw [F2.1 a i j (Wg_out h53 h54 h50), F1.1 a i j (Whq_out h8 h9 h10)]) ?_, ?_, fun _ => rfl⟩
      · refine (C1.fx F2 (fun _ => rfl) (fun _ => rfl) (fun _ => rfl) (fun _ => rfl)).cg (fun u _ => ?_) (fun c' _ => q1 c') (fun c' k _ _ => q2 c' k)
        rw [q3]
        rfl
      · rw [F2.1 40 0 0 rfl]; exact z1
    · rw [l0', ex] at c
      unfold F_X7_key
      refine pg7_0 z (pq_iv fun x e => pq_iv fun y ey => pg7_el (n := x) (by rw [e]; exact h0) ey (fun _ => pg_b1 ?_) (fun q => absurd (by rw [e]; exact hc') q))
      unfold B_X7_key_25
      refine pg7_ok z (pq_gd fun _ => pq_iv fun x6 e6 => ?_)
      have g6 : x6.toInt = hw S t := by rw [e6, cnNq hp]; rfl
      exact pq_le (fun q => absurd q (by rw [g6, l0']; omega)) (fun _ => pq_some ⟨h.2.2.2, z, fun _ => rfl⟩)
  · have hc' : ¬ ie p (ge S 40 0 21) := fun q => hc ⟨q.1, by have := q.2; rw [e1, en]; exact this⟩
    unfold F_X7_key
    refine pg7_0 z (pq_iv fun x e => pq_iv fun y ey => pg7_el (n := x) (by rw [e]; exact h0) ey (fun q => absurd (by rw [e] at q; exact q) hc') (fun _ => pg_b0 ?_))
    unfold B_X7_key_25
    exact pg7_no z (by decide) (pq_some (rk_no (x := (0, 0)) h (by decide) rfl))
end LAYS
