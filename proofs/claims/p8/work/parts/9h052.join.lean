/-! both sides of a recorded try: what stays -/
section JOI
variable {S T1 T2 T : fS} {c m t : Nat} {p v v2 : Int32}
theorem SRq.lotE (h : SRq S T) : lotq T = lotq S := by unfold lotq; rw [h.loE, h 40 0 34 (by decide)]
theorem SRq.glE (h : SRq S T) : glS T = glS S := by
  unfold glS
  rw [show (fun g => TLq T (lotq T) g) = (fun g => TLq S (lotq S) g) from funext fun g => by rw [h.lotE]; exact propext ⟨h.sy.TL, h.TL⟩]
theorem SRq.MWE (h : SRq S T) {g s : Int32} {w : Nat → Int} {X : Nat → List Nat} : MWq T c g s w X = MWq S c g s w X := by
  unfold MWq lcq
  rw [h.oqE, h.glqE, h.lgqE, h.hwE, h.HSE, h.nqE]
theorem SRq.feE (h : SRq S T) (g s : Int32) : feq T c g s = feq S c g s := by unfold feq; rw [h.oqE, h.glqE, h.vsmE]
theorem W78_r : ∀ a i j : Nat, 40 ≤ a → W78 t a i j = false := fun a i j h => by
  unfold W78 Wmv
  rw [Ws_r a i j h, beq_out (by omega : a ≠ 8), beq_out (by omega : a ≠ 9), beq_out (by omega : a ≠ 10), beq_out (by omega : a ≠ 1)]
  rfl
/-- the reference stays while the class tries -/
theorem QK_SR (h : QKq S m c t v T1) : SRq S T1 := by
  obtain ⟨X, U, F, K, e, _⟩ := h
  have s1 : SRq S X := nw_SR.tr (F.sr Wpr_r)
  have s2 : SRq X U := K.1.sr W78_r
  refine (s1.tr s2).tr (fun a i j h => ?_)
  rw [e]
  show ge (pu (pr U 11 0 m (some t)) 1 0 12 _) a i j = _
  rw [ge_pua (by omega)]
  rfl
/-- what else the class writes -/
theorem QK_ge (h : QKq S m c t v T1) {a i j : Nat} (h25 : a ≠ 25) (h26 : a ≠ 26) (h1 : Wpr t a i j = false) (h2 : W78 t a i j = false) (h3 : ¬ (a = 1 ∧ i = 0 ∧ j = 12)) : ge T1 a i j = ge S a i j := by
  obtain ⟨X, U, F, K, e, _⟩ := h
  rw [e]
  show ge (pu (pr U 11 0 m (some t)) 1 0 12 _) a i j = _
  rw [ge_pu, if_neg h3]
  show ge U a i j = _
  rw [K.1.1 a i j h2, F.1 a i j h1, nw_ge h25 h26]
/-- an older try stays -/
theorem QK_25 (h : QKq S m c (nT S) v T1) {r j : Nat} (h1 : 1 ≤ r) (h2 : r < nT S) : ge T1 25 r j = ge S 25 r j := by
  obtain ⟨X, U, F, K, e, _⟩ := h
  have o0 : Nat.beq r 0 = false := beq_out (by omega)
  have ot : Nat.beq r (nT S) = false := beq_out (by omega)
  rw [e]
  show ge (pu (pr U 11 0 m (some (nT S))) 1 0 12 _) 25 r j = _
  rw [ge_pua (by decide)]
  show ge U 25 r j = _
  have w1 : WscR 0 25 r j = false := by show (true && Nat.beq r 0 || false) = false; rw [o0]; rfl
  have w2 : WscR (nT S) 25 r j = false := by show (true && Nat.beq r (nT S) || false) = false; rw [ot]; rfl
  rw [K.1.1 25 r j (by show (WscR (nT S) 25 r j || false) = false; rw [w2]; rfl), F.1 25 r j (by show (WscR 0 25 r j || (WscR (nT S) 25 r j || false)) = false; rw [w1, w2]; rfl)]
  show (if 25 = 25 ∧ r = nT S then tI j else if 25 = 26 ∧ r = nT S then 0 else S.1 25 r j) = S.1 25 r j
  rw [if_neg (fun q => absurd q.2 (by omega)), if_neg (fun q => absurd q.1 (by decide))]
/-- the record's list and the number of tries -/
theorem QK_gr (h : QKq S m c (nT S) v T1) : nT T1 = nT S + 1 ∧ ∀ a i j : Nat, gr T1 a i j = if a = 11 ∧ i = 0 ∧ j = m then some (nT S) else gr S a i j := by
  obtain ⟨X, U, F, K, e, _⟩ := h
  have e2 : U.2 = (newT S).2 := K.1.2.trans F.2
  refine ⟨?_, fun a i j => ?_⟩
  · rw [e]
    show U.2.2.1.1 = nT S + 1
    rw [e2]
    rfl
  · rw [e]
    show (if a = 11 ∧ i = 0 ∧ j = m then some (nT S) else U.2.1 a i j) = _
    rw [e2]
    rfl
/-- the same answer -/
theorem QQ_v (hK : QKq S m c t v T1) (hQ : QAq T1 m c p v2 T2) : v2 = v := by
  have s := QK_SR hK
  obtain ⟨X, U, F, K, e, ev, _⟩ := hK
  obtain ⟨_, _, _, e2, _⟩ := hQ
  rw [e2, ev, s.glE, s.oqE]
/-- the reference's heaps -/
theorem QA_HV (H : HVq T1) (hQ : QAq T1 m c p v2 T2) : HVq T2 ∧ nq T2 = nq T1 := by
  obtain ⟨F, R, _⟩ := hQ
  have en : nq T2 = nq T1 := by unfold nq; rw [F.1 40 0 21 rfl]
  obtain ⟨h1, h2, h3, h4⟩ := H
  obtain ⟨r1, r2, r3⟩ := R
  refine ⟨⟨by rw [en]; exact r1, r2, by rw [en]; exact h3, fun u hu => ?_⟩, en⟩
  rw [en] at hu
  rw [F.1 47 0 u rfl, F.1 51 0 u rfl]
  exact ⟨(h4 u hu).1, r3 u hu⟩
end JOI
