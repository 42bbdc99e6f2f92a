/-! both sides of a recorded try: the relation behind it -/
section JO2
variable {S T1 T2 T : fS} {c m t : Nat} {p v v2 : Int32}
theorem Wat_lo {a i j : Nat} (h : a < 40) : Wat m a i j = false := by
  unfold Wat Wpt Wpu Wa8 Wts Wtr Wg
  rw [Wcn_out (by omega) (by omega) (by omega) (by omega) (by omega), w57_out (by omega), Wt7_out (by omega) (by omega), Wgr_out (by omega) (by omega), beq_out (by omega : a ≠ 40), beq_out (by omega : a ≠ 53), beq_out (by omega : a ≠ 54), beq_out (by omega : a ≠ 50)]
  rfl
theorem Q_lo (hQ : QAq T1 m c p v2 T2) {a i j : Nat} (h : a < 40) : ge T2 a i j = ge T1 a i j := hQ.1.1 a i j (Wat_lo h)
theorem Q_BV (H : HVq S) (B : BVq S 0) (hK : QKq S m c t v T1) (hQ : QAq T1 m c p v2 T2) : BVq T2 0 := by
  have s := QK_SR hK
  obtain ⟨H2, en⟩ := QA_HV (s.HV H) hQ
  have lo : ∀ a i j : Nat, a < 40 → ge T2 a i j = ge T1 a i j := fun a i j h => Q_lo hQ h
  obtain ⟨F2, R2, M2, _⟩ := hQ
  rw [s.glE, s.MWE] at M2
  rw [s.nqE] at R2
  have k0 : ∀ a j : Nat, (2 ≤ a ∧ a ≤ 7) → ge T2 a 0 j = ge S a 0 j := fun a j h => by
    rw [lo a 0 j (by omega)]
    refine QK_ge hK (by omega) (by omega) ?_ ?_ (by omega)
    · unfold Wpr
      rw [Ws_l a 0 j (by omega), Ws_l a 0 j (by omega), beq_out (by omega : a ≠ 1)]
      rfl
    · unfold W78 Wmv
      rw [Ws_l a 0 j (by omega), beq_out (by omega : a ≠ 8), beq_out (by omega : a ≠ 9), beq_out (by omega : a ≠ 10), beq_out (by omega : a ≠ 1)]
      rfl
  have k1 : ge T2 1 0 1 = ge S 1 0 1 := by rw [lo 1 0 1 (by decide)]; exact QK_ge hK (by decide) (by decide) rfl rfl (by decide)
  have k2 : ge T2 1 0 2 = ge S 1 0 2 := by rw [lo 1 0 2 (by decide)]; exact QK_ge hK (by decide) (by decide) rfl rfl (by decide)
  obtain ⟨X, U, F1, K, e, _⟩ := hK
  have sX : SRq S X := nw_SR.tr (F1.sr Wpr_r)
  have eU : ∀ a i j : Nat, a ≠ 1 → ge T1 a i j = ge U a i j := fun a i j h => by
    rw [e]
    show ge (pu (pr U 11 0 m (some t)) 1 0 12 _) a i j = _
    rw [ge_pua h]
    rfl
  obtain ⟨w, hp, ht, q1, q2⟩ := K.2.1
  rw [sX.nqE] at q1
  rw [sX.MWE] at q2
  have q1' : CVq T1 0 (nq S) w hp ht := by
    obtain ⟨h1, h2, h3, h4, h5, h6⟩ := q1
    exact ⟨h1, h2.cg (fun _ _ => rfl) (fun _ _ _ _ => rfl) (fun c _ => by rw [eU 10 0 c (by decide)]) (fun c k _ _ => by rw [eU 9 0 _ (by decide)]), by rw [eU 2 0 0 (by decide)]; exact h3, h4, fun t ht => by rw [eU 8 0 t (by decide)]; exact h5 t ht, h6⟩
  have CV := CV_step ⟨w, hp, ht, q1', q2⟩ R2 M2 (fun a j h => lo a 0 j (by omega))
  refine ⟨by rw [en, s.nqE]; exact CV, fun u hu => ?_, ?_, ?_⟩
  · rw [en, s.nqE] at hu
    rw [k0 3 u (by decide), k0 4 u (by decide), k0 5 u (by decide), k0 6 u (by decide), k0 7 u (by decide), F2.1 46 0 u rfl, F2.1 47 0 u rfl, F2.1 48 0 u rfl, F2.1 49 0 u rfl, F2.1 51 0 u rfl, s 46 0 u (by decide), s 47 0 u (by decide), s 48 0 u (by decide), s 49 0 u (by decide), s 51 0 u (by decide)]
    exact B.2.1 u hu
  · rw [k1, F2.1 40 0 30 rfl, s 40 0 30 (by decide)]
    exact B.2.2.1
  · rw [k2, F2.1 40 0 31 rfl, s 40 0 31 (by decide)]
    exact B.2.2.2
theorem Q_NB (N : NBq S 0) (hK : QKq S m c t v T1) (hQ : QAq T1 m c p v2 T2) : NBq T2 0 := by
  have s := QK_SR hK
  have lo : ∀ a i j : Nat, a < 40 → ge T2 a i j = ge T1 a i j := fun a i j h => Q_lo hQ h
  obtain ⟨F2, _, _, _, C2, _⟩ := hQ
  rw [s.glE, s.oqE, s.feE] at C2
  have h3 : ge T1 1 0 3 = ge S 1 0 3 := QK_ge hK (by decide) (by decide) rfl rfl (by decide)
  have h4 : ge T1 1 0 4 = ge S 1 0 4 := QK_ge hK (by decide) (by decide) rfl rfl (by decide)
  have C2' : CNq S T2 (oq S c (clm (glS S)).1 (clm (glS S)).2.1) (feq S c (clm (glS S)).1 (clm (glS S)).2.1) := by
    obtain ⟨c1, c2, c3, c4, c5⟩ := C2
    rw [s 40 0 35 (by decide)] at c2
    rw [s 40 0 36 (by decide)] at c3
    rw [s 40 0 37 (by decide), s 40 0 32 (by decide)] at c4
    rw [s 40 0 38 (by decide)] at c5
    exact ⟨c1, c2, c3, c4, c5⟩
  obtain ⟨X, U, F1, K, e, _⟩ := hK
  have sX : SRq S X := nw_SR.tr (F1.sr Wpr_r)
  have eU : ∀ j : Nat, j ≠ 12 → ge T1 1 0 j = ge U 1 0 j := fun j h => by
    rw [e]
    show ge (pu (pr U 11 0 m (some t)) 1 0 12 _) 1 0 j = _
    rw [ge_puj h]
    rfl
  have eX : ∀ j : Nat, j ≠ 5 → ge X 1 0 j = ge S 1 0 j := fun j h => by
    rw [F1.1 1 0 j (by show (_ || (_ || Nat.beq j 5)) = false; rw [beq_out h]; rfl)]
    exact nw_ge (by decide) (by decide)
  obtain ⟨c7, c8, c9, c10⟩ := K.2.2.1
  rw [sX.oqE] at c8
  rw [sX.feE] at c10
  refine CN_step N ⟨?_, ?_, ?_, ?_⟩ C2' (fun j => lo 1 0 j (by decide)) ⟨h3, h4⟩ ⟨by rw [F2.1 40 0 32 rfl, s 40 0 32 (by decide)], by rw [F2.1 40 0 33 rfl, s 40 0 33 (by decide)]⟩
  · rw [eU 7 (by decide), c7, eX 7 (by decide)]
  · rw [eU 8 (by decide), c8, eX 8 (by decide)]
  · rw [eU 9 (by decide), c9, eX 9 (by decide), eX 3 (by decide)]
  · rw [eU 10 (by decide), c10, eX 10 (by decide)]
theorem Q_sown (hK : QKq S m c t v T1) (hQ : QAq T1 m c p v2 T2) : ge T2 1 0 5 = ge T2 40 0 34 := by
  have s := QK_SR hK
  have lo := Q_lo hQ (a := 1) (i := 0) (j := 5) (by decide)
  obtain ⟨_, _, _, _, _, _, _, h34⟩ := hQ
  rw [s.loE, s 40 0 34 (by decide)] at h34
  obtain ⟨X, U, F1, K, e, _, _, _, h5⟩ := hK
  rw [lo, h34, ← h5, e]
  show ge (pu (pr U 11 0 m (some t)) 1 0 12 _) 1 0 5 = _
  rw [ge_puj (by decide)]
  show ge U 1 0 5 = _
  rw [K.1.1 1 0 5 rfl]
theorem Q_PG (hP : PGq S) (hK : QKq S m c (nT S) v T1) (hQ : QAq T1 m c p v2 T2) : PGq T2 := by
  have s := QK_SR hK
  obtain ⟨_, gg⟩ := QK_gr hK
  have l1 : ∀ c : Nat, ln T1 c = ln S c := by
    obtain ⟨X, U, F, K, e, _⟩ := hK
    intro c
    rw [e]
    show U.2.2.2 c = S.2.2.2 c
    rw [K.1.2.trans F.2]
    rfl
  have e30 : ∀ c k : Nat, ge T1 30 c k = ge S 30 c k := fun c k => QK_ge hK (by decide) (by decide) rfl rfl (by omega)
  have P1 : PGq T1 := by
    obtain ⟨⟨m, m6, a1, a2, a3⟩, ⟨n, n3, b1, b2, b3⟩⟩ := hP
    refine ⟨⟨m, m6, by rw [QK_ge hK (by decide) (by decide) rfl rfl (by decide)]; exact a1, by rw [s 40 0 13 (by decide)]; exact a2, fun t ht => ?_⟩, ⟨n, n3, by rw [QK_ge hK (by decide) (by decide) rfl rfl (by decide)]; exact b1, by rw [s 40 0 14 (by decide)]; exact b2, fun t ht => ?_⟩⟩
    · obtain ⟨c, c1, P, c2, c3⟩ := a3 t ht
      refine ⟨c, by rw [gg, if_neg (by omega)]; exact c1, P, ?_, by rw [s.btxE]; exact c3⟩
      unfold CP at c2 ⊢
      simp only [e30, l1]
      exact c2
    · obtain ⟨c, c1, P, c2, c3⟩ := b3 t ht
      refine ⟨c, by rw [gg, if_neg (by omega)]; exact c1, P, ?_, by rw [s.btxE]; exact c3⟩
      unfold CP at c2 ⊢
      simp only [e30, l1]
      exact c2
  exact P1.fx hQ.1 (Wat_lo (by decide)) (Wat_lo (by decide)) rfl rfl (fun _ => rfl) (fun _ _ => rfl) (fun _ _ => Wat_lo (by decide))
theorem Q_IF (hI : IFq S) (hK : QKq S m c t v T1) (hQ : QAq T1 m c p v2 T2) : IFq T2 := by
  have s := QK_SR hK
  have h6 : ge T2 1 0 6 = ge S 1 0 6 := by rw [Q_lo hQ (by decide)]; exact QK_ge hK (by decide) (by decide) rfl rfl (by decide)
  have h15 : ge T2 40 0 15 = ge S 40 0 15 := by rw [hQ.1.1 40 0 15 rfl, s 40 0 15 (by decide)]
  have h13 : ge T2 40 0 13 = ge S 40 0 13 := by rw [hQ.1.1 40 0 13 rfl, s 40 0 13 (by decide)]
  unfold IFq at *
  rw [h6, h15, h13]
  exact hI
end JO2
