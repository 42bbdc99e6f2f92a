/-! what both keep alike, but for images and the tape -/
def RLa (S : fS) : Prop := HVq S ∧ HOq S ∧ BVq S 0 ∧ NBq S 0 ∧ PGq S ∧ IFq S ∧ ge S 1 0 5 = ge S 40 0 34 ∧ RCq S 0 ∧ 1 ≤ nT S ∧ HNq S
section RLA
variable {S T1 T2 T : fS} {c m : Nat} {p v v2 : Int32}
theorem RLa_try (h : RLa S) (hm : (ge S 1 0 12).toInt = (m : Int)) (hm2 : m < 200) (hp : p.toInt = (c : Int)) (hc : c < 64) (hK : QKq S m c (nT S) v T1) (hQ : QAq T1 m c p v2 T2) : v2 = v ∧ RLa T2 := by
  obtain ⟨H, hO, B, N, hP, hI, hs, hR, hn, hH⟩ := h
  have s := QK_SR hK
  obtain ⟨H2, _⟩ := QA_HV (s.HV H) hQ
  have nT2 : nT T2 = nT S + 1 := by rw [← (QK_gr hK).1]; exact congrArg (fun z => z.2.1.1) hQ.1.2
  refine ⟨QQ_v hK hQ, H2, ?_, Q_BV H B hK hQ, Q_NB N hK hQ, Q_PG hP hK hQ, Q_IF hI hK hQ, Q_sown hK hQ, Q_RC hm hm2 hR hn hp hc hK hQ, by omega, ?_⟩
  · unfold HOq
    rw [hQ.1.1 40 0 30 rfl, s 40 0 30 (by decide)]
    exact hO
  · have e9 : ge T2 0 0 9 = ge S 0 0 9 := by rw [Q_lo hQ (by decide)]; exact QK_ge hK (by decide) (by decide) rfl rfl (by decide)
    have e15 : ∀ k : Nat, ge T2 15 0 k = ge S 15 0 k := fun k => by rw [Q_lo hQ (by decide)]; exact QK_ge hK (by decide) (by decide) rfl rfl (by omega)
    have e48 : ge T2 40 0 48 = ge S 40 0 48 := by rw [hQ.1.1 40 0 48 rfl, s 40 0 48 (by decide)]
    have e59 : ∀ k j : Nat, ge T2 59 k j = ge S 59 k j := fun k j => by rw [hQ.1.1 59 k j rfl, s 59 k j (by decide)]
    unfold HNq
    rw [e9, e48]
    exact ⟨hH.1, fun x k hx hk => by rw [e59, e15]; exact hH.2 x k hx hk⟩
/-- a recorded try on both sides, one behind the other -/
theorem RLa_both (h : RLa S) (hm : (ge S 1 0 12).toInt = (m : Int)) (hm2 : m < 200) (hp : p.toInt = (c : Int)) (hc : c < 64) : pk (F_X6_tryAt p S) (fun v T1 => SRq S T1 ∧ (RI T1 → pk (F_X7_attemptAt p T1) (fun v2 T2 => v2 = v ∧ RLa T2))) := by
  obtain ⟨H, hO, B, N, hP, hI, hs, hR, hn, hH⟩ := h
  have h' : RLa S := ⟨H, hO, B, N, hP, hI, hs, hR, hn, hH⟩
  refine pq_imp (y_tryAt H hO B N hP hI hs hn hp hc hm hm2) (fun v T1 hK => ?_)
  have s := QK_SR hK
  refine ⟨s, fun R1 => ?_⟩
  have e30 : ∀ c k : Nat, ge T1 30 c k = ge S 30 c k := fun c k => QK_ge hK (by decide) (by decide) rfl rfl (by omega)
  have l1 : ∀ c : Nat, ln T1 c = ln S c := by
    obtain ⟨X, U, F, K, e, _⟩ := hK
    intro c
    rw [e]
    show U.2.2.2 c = S.2.2.2 c
    rw [K.1.2.trans F.2]
    rfl
  have P1 : PGq T1 := by
    obtain ⟨⟨m, m6, a1, a2, a3⟩, ⟨n, n3, b1, b2, b3⟩⟩ := hP
    refine ⟨⟨m, m6, by rw [QK_ge hK (by decide) (by decide) rfl rfl (by decide)]; exact a1, by rw [s 40 0 13 (by decide)]; exact a2, fun t ht => ?_⟩, ⟨n, n3, by rw [QK_ge hK (by decide) (by decide) rfl rfl (by decide)]; exact b1, by rw [s 40 0 14 (by decide)]; exact b2, fun t ht => ?_⟩⟩
    · obtain ⟨c, c1, P, c2, c3⟩ := a3 t ht
      refine ⟨c, by rw [(QK_gr hK).2, if_neg (by omega)]; exact c1, P, ?_, by rw [s.btxE]; exact c3⟩
      unfold CP at c2 ⊢
      simp only [e30, l1]
      exact c2
    · obtain ⟨c, c1, P, c2, c3⟩ := b3 t ht
      refine ⟨c, by rw [(QK_gr hK).2, if_neg (by omega)]; exact c1, P, ?_, by rw [s.btxE]; exact c3⟩
      unfold CP at c2 ⊢
      simp only [e30, l1]
      exact c2
  have I1 : IFq T1 := s.IF (QK_ge hK (by decide) (by decide) rfl rfl (by decide)) hI
  obtain ⟨m', m200, r1, r2, r3⟩ := hR
  have h46 : (ge T1 40 0 46).toInt = (m : Int) := by rw [s 40 0 46 (by decide)]; omega
  exact pq_imp (q_attemptAt R1 (s.HV H) (s.HO hO) P1 I1 hp hc h46) (fun v2 T2 hQ => RLa_try h' hm hm2 hp hc hK hQ)
end RLA
