/-! attempt, play -/
section TRYS
variable {S T1 T2 : fS} {c m : Nat} {p p2 v v2 : Int32}
theorem Wpr_b {t a i j : Nat} (h : (2 ≤ a ∧ a ≤ 21) ∨ (a = 1 ∧ 1 ≤ i) ∨ (29 ≤ a ∧ a ≤ 39) ∨ a = 0) : Wpr t a i j = false := by
  unfold Wpr WscR
  rw [beq_out (by omega : a ≠ 25), beq_out (by omega : a ≠ 26), beq_out (by omega : a ≠ 22), beq_out (by omega : a ≠ 23), beq_out (by omega : a ≠ 24), beq_out (by omega : a ≠ 27), beq_out (by omega : a ≠ 28)]
  rcases h with h | h | h | h
  · rw [beq_out (by omega : a ≠ 1)]; rfl
  · rw [beq_out (by omega : i ≠ 0)]
    cases Nat.beq a 1 <;> cases Nat.beq i t <;> cases Nat.beq j 5 <;> rfl
  · rw [beq_out (by omega : a ≠ 1)]; rfl
  · rw [beq_out (by omega : a ≠ 1)]; rfl
theorem W78_b {t a i j : Nat} (h : (a < 22 ∧ 1 ≤ i) ∨ (11 ≤ a ∧ a ≤ 21) ∨ (29 ≤ a ∧ a ≤ 39) ∨ a = 0) : W78 t a i j = false := by
  unfold W78 WscR Wmv
  rw [beq_out (by omega : a ≠ 25), beq_out (by omega : a ≠ 26), beq_out (by omega : a ≠ 22), beq_out (by omega : a ≠ 23), beq_out (by omega : a ≠ 24), beq_out (by omega : a ≠ 27), beq_out (by omega : a ≠ 28)]
  by_cases d : i = 0
  · rw [beq_out (by omega : a ≠ 8), beq_out (by omega : a ≠ 9), beq_out (by omega : a ≠ 10), beq_out (by omega : a ≠ 1)]; rfl
  · rw [beq_out d, Bool.and_false]; rfl
theorem Wat_hi {a i j : Nat} (h : (58 ≤ a ∧ a ≤ 89) ∨ (41 ≤ a ∧ a ≤ 44)) : Wat m a i j = false := by
  unfold Wat Wpt Wpu Wa8 Wts Wtr Wg
  rw [Wcn_out (by omega) (by omega) (by omega) (by omega) (by omega), w57_out (by omega), Wt7_out (by omega) (by omega), Wgr_out (by omega) (by omega), beq_out (by omega : a ≠ 40), beq_out (by omega : a ≠ 53), beq_out (by omega : a ≠ 54), beq_out (by omega : a ≠ 50)]
  rfl
theorem QK_im (hK : QKq S m c (nT S) v T1) : IMf S T1 := by
  refine IMf.cl (QK_SR hK) (fun a i j h1 h2 h3 => QK_ge hK (by omega) (by omega) (Wpr_b (by omega)) (W78_b (by omega)) (by omega)) (fun i j h => ?_) (fun t j h1 h2 => QK_25 hK h1 h2) (by rw [(QK_gr hK).1]; omega)
  rw [(QK_gr hK).2, if_neg (by omega)]
/-- the reference's try behind the class's -/
theorem try_main (h : RLv S) (hm : (ge S 1 0 12).toInt = (m : Int)) (hm2 : m < 200) (hp : p.toInt = (c : Int)) (hc : c < 64) (hK : QKq S m c (nT S) v T1) (R1 : RI T1) (z1 : ge T1 40 0 0 = 0) : pk (F_X7_attemptAt p T1) (fun v2 T2 => v2 = v ∧ RLv T2 ∧ ge T2 40 0 0 = 0) := by
  obtain ⟨ha, ht, hi⟩ := h
  have ha' := ha
  obtain ⟨H, hO, B, N, hP, hI, hs, hR, hn, hH⟩ := ha
  have s := QK_SR hK
  have e30 : ∀ c k : Nat, ge T1 30 c k = ge S 30 c k := fun c k => QK_ge hK (by decide) (by decide) rfl rfl (by omega)
  have l1 : ∀ c : Nat, ln T1 c = ln S c := by
    obtain ⟨X, U, F, K, e, _⟩ := hK
    intro c
    rw [e]
    show U.2.2.2 c = S.2.2.2 c
    rw [K.1.2.trans F.2]
    rfl
  have P1 : PGq T1 := by
    obtain ⟨⟨m, m6, a1, a2, a3⟩, ⟨n, n3, b1, b2, b3⟩⟩ := hP
    refine ⟨⟨m, m6, by rw [QK_ge hK (by decide) (by decide) rfl rfl (by decide)]; exact a1, by rw [s 40 0 13 (by decide)]; exact a2, fun t ht => ?_⟩, ⟨n, n3, by rw [QK_ge hK (by decide) (by decide) rfl rfl (by decide)]; exact b1, by rw [s 40 0 14 (by decide)]; exact b2, fun t ht => ?_⟩⟩
    · obtain ⟨c, c1, P, c2, c3⟩ := a3 t ht
      refine ⟨c, by rw [(QK_gr hK).2, if_neg (by omega)]; exact c1, P, ?_, by rw [s.btxE]; exact c3⟩
      unfold CP at c2 ⊢
      simp only [e30, l1]
      exact c2
    · obtain ⟨c, c1, P, c2, c3⟩ := b3 t ht
      refine ⟨c, by rw [(QK_gr hK).2, if_neg (by omega)]; exact c1, P, ?_, by rw [s.btxE]; exact c3⟩
      unfold CP at c2 ⊢
      simp only [e30, l1]
      exact c2
  have I1 : IFq T1 := s.IF (QK_ge hK (by decide) (by decide) rfl rfl (by decide)) hI
  have h46 : (ge T1 40 0 46).toInt = (m : Int) := by
    obtain ⟨m', m200, r1, r2, r3⟩ := hR
    rw [s 40 0 46 (by decide)]
    omega
  refine pq_imp (q_attemptAt R1 (s.HV H) (s.HO hO) P1 I1 hp hc h46) (fun v2 T2 hQ => ?_)
  obtain ⟨ev, hA⟩ := RLa_try ha' hm hm2 hp hc hK hQ
  have k0 : ∀ j : Nat, ge T2 0 0 j = ge S 0 0 j := fun j => by rw [Q_lo hQ (by decide)]; exact QK_ge hK (by decide) (by decide) (Wpr_b (by omega)) (W78_b (by omega)) (by omega)
  have im : IMf S T2 := (QK_im hK).tr (IMf.fx hQ.1 (fun a i j h1 h2 => Wat_hi (by omega)) (fun a i j h1 h2 h3 => Wat_lo (by omega)) (fun t j _ => Wat_lo (by decide)) rfl)
  refine ⟨ev, ⟨hA, ht.mv (k0 11) ?_ (fun k => ?_) (fun k => ?_), hi.mv im (k0 3) ?_⟩, ?_⟩
  · rw [hQ.1.1 40 0 1 rfl, s 40 0 1 (by decide)]
  · rw [Q_lo hQ (by decide)]; exact QK_ge hK (by decide) (by decide) (Wpr_b (by omega)) (W78_b (by omega)) (by omega)
  · rw [hQ.1.1 41 0 k (Wat_hi (by omega)), s 41 0 k (by decide)]
  · rw [hQ.1.1 40 0 56 rfl, s 40 0 56 (by decide)]
  · rw [hQ.1.1 40 0 0 rfl]; exact z1
theorem rk_attempt (h : IV S) (z : ge S 40 0 0 = 0) : RK (fun ec => if ec = 0 then 0 else 1) (F_X6_attempt p S) (F_X7_attempt p) := by
  have l200 : (200 : Int32).toInt = 200 := by decide
  obtain ⟨H, hO, B, N, hP, hI, hs, hR, hn, hH⟩ := h.2.2.2.1
  obtain ⟨m, m200, r1, r2, r3⟩ := hR
  unfold RK
  have c6 : pk (F_X6_attempt p S) (fun r T => (r.1 = 2 ∧ ¬ ic p ∧ T = S) ∨ (r = (0, -1) ∧ ic p ∧ m = 200 ∧ T = S) ∨ (r.1 = 0 ∧ m < 200 ∧ ∃ c : Nat, p.toInt = (c : Int) ∧ c < 64 ∧ QKq S m c (nT S) r.2 T)) := by
    unfold F_X6_attempt
    refine pg_cell (fun hc => ?_) (fun hc => Or.inl ⟨rfl, hc, rfl⟩)
    obtain ⟨c, hp, hc64⟩ := ic_nat hc
    refine pq_iv fun x5 e5 => pq_lt (fun q => ?_) (fun q => pq_some (Or.inr (Or.inl ⟨rfl, hc, by rw [e5, r1, l200] at q; omega, rfl⟩)))
    rw [e5, r1, l200] at q
    exact pq_bd (y_tryAt H hO B N hP hI hs hn hp hc64 r1 (by omega)) (fun v T hK => pq_some (Or.inr (Or.inr ⟨rfl, by omega, c, hp, hc64, hK⟩)))
  refine pq_imp (pq_and (s_F_X6_attempt p S h.1 h.2.1).pk c6) (fun r T1 q => ?_)
  obtain ⟨⟨R1, _⟩, q⟩ := q
  rcases q with ⟨q1, q2, q3⟩ | ⟨q1, q2, q3, q4⟩ | ⟨q1, q2, c, hp, hc64, hK⟩
  · rw [q3]
    unfold F_X7_attempt
    refine pg7_0 z (pg7_cell (fun c => absurd c q2) (fun _ => pg_b0 ?_))
    unfold B_X7_attempt_18
    exact pg7_no z (by decide) (pq_some ⟨(h.wr 1).2.2.2, by rw [ge_pus, q1]; rfl, fun d => by omega⟩)
  · rw [q4, q1]
    unfold F_X7_attempt
    refine pg7_0 z (pg7_cell (fun _ => pg_b1 ?_) (fun q => absurd q2 q))
    unfold B_X7_attempt_18
    exact pg7_ok z (pq_iv fun x e => pq_bb (fun _ => pq_some ⟨h.2.2.2, z, fun _ => rfl⟩) (fun d => absurd (of_toInt (by rw [e, r2, l200, q3]; rfl)) d))
  · have s1 := QK_SR hK
    have z1 := RI_z z s1
    have ic1 : ic p := ⟨by omega, by omega⟩
    unfold F_X7_attempt
    refine pg7_0 z1 (pg7_cell (fun _ => pg_b1 ?_) (fun q => absurd ic1 q))
    unfold B_X7_attempt_18
    refine pg7_ok z1 (pq_iv fun x e => pq_bb (fun d => absurd (congrArg Int32.toInt d) (by rw [e, s1 40 0 46 (by decide), r2, l200]; omega)) (fun _ => ?_))
    refine pq_bd (try_main h.2.2.2 r1 q2 hp hc64 hK R1 z1) (fun v2 T2 q => pq_some ⟨q.2.1, by rw [q.2.2, q1]; rfl, fun _ => q.1.symm⟩)
/-- both seeds drawn -/
def dw (S : fS) : fS := pu (pu S 1 0 5 (drS (ge S 40 0 34))) 40 0 34 (drS (ge S 40 0 34))
theorem RLv.dwE (h : RLv S) : RLv (dw S) := by
  obtain ⟨H, hO, B, N, hP, hI, hs, _⟩ := h.1
  have F : FX WS S (dw S) := (FX.rf.wr rfl : FX WS S (pu S 1 0 5 (drS (ge S 40 0 34)))).wr rfl
  have k1 : ∀ j : Nat, j ≠ 5 → ge (dw S) 1 0 j = ge S 1 0 j := fun j hj => by unfold dw; rw [ge_pua (by decide), ge_puj hj]
  have k2 : ∀ j : Nat, j ≠ 34 → ge (dw S) 40 0 j = ge S 40 0 j := fun j hj => by unfold dw; rw [ge_puj hj, ge_pua (by decide)]
  refine h.set F ?_ ?_ ?_ ?_ ?_ ?_ ?_
  · unfold HOq
    rw [k2 30 (by decide)]; exact hO
  · rw [k1 1 (by decide), k2 30 (by decide)]; exact B.2.2.1
  · rw [k1 2 (by decide), k2 31 (by decide)]; exact B.2.2.2
  · rw [k1 3 (by decide), k2 32 (by decide)]; exact N.1
  · rw [k1 4 (by decide), k2 33 (by decide)]; exact N.2.1
  · unfold dw
    rw [ge_pus, ge_pua (by decide), ge_pus]
  · unfold IFq
    rw [k1 6 (by decide), k2 15 (by decide), k2 13 (by decide)]; exact hI
theorem rcq_bd (a i : Int32) : ∃ c : Nat, (rcq a i).toInt = (c : Int) ∧ c < 64 := by
  have l0 : (0 : Int32).toInt = 0 := by decide
  have l7 : (7 : Int32).toInt = 7 := by decide
  have l8 : (8 : Int32).toInt = 8 := by decide
  have b1 := cw_bd (v := a / 8 + i / 3 - 1) (lo := 0) (hi := 7) (by decide)
  have b2 := cw_bd (v := a - a / 8 * 8 + (i - i / 3 * 3) - 1) (lo := 0) (hi := 7) (by decide)
  rw [l0, l7] at b1 b2
  have m : ((8 : Int32) * cwq (a / 8 + i / 3 - 1) 0 7).toInt = 8 * (cwq (a / 8 + i / 3 - 1) 0 7).toInt := by
    rw [ti_mul (by rw [l8]; omega) (by rw [l8]; omega), l8]
  have e : (rcq a i).toInt = 8 * (cwq (a / 8 + i / 3 - 1) 0 7).toInt + (cwq (a - a / 8 * 8 + (i - i / 3 * 3) - 1) 0 7).toInt := by
    unfold rcq
    rw [ti_add (by rw [m]; omega) (by rw [m]; omega), m]
  exact ⟨(rcq a i).toInt.toNat, by omega, by omega⟩
theorem mx_dw {T : fS} (s : SRq S T) : mx T (dw S) = pu T 40 0 34 (drS (ge S 40 0 34)) := by
  unfold mx dw pu
  refine Prod.ext (funext fun a => funext fun i => funext fun j => ?_) rfl
  show (if a < 40 then T.1 a i j else if a = 40 ∧ i = 0 ∧ j = 34 then drS (ge S 40 0 34) else if a = 1 ∧ i = 0 ∧ j = 5 then drS (ge S 40 0 34) else S.1 a i j) = if a = 40 ∧ i = 0 ∧ j = 34 then drS (ge S 40 0 34) else T.1 a i j
  by_cases q : a < 40
  · rw [if_pos q, if_neg (by omega)]
  · rw [if_neg q]
    by_cases d : a = 40 ∧ i = 0 ∧ j = 34
    · rw [if_pos d, if_pos d]
    · rw [if_neg d, if_neg d, if_neg (by omega)]
      exact (s a i j (by omega)).symm
theorem rk_play (h : IV S) (z : ge S 40 0 0 = 0) : RK (fun ec => if ec = 0 then 0 else if ec = 2 then 2 else 1) (F_X6_play p p2 S) (F_X7_play p p2) := by
  have l200 : (200 : Int32).toInt = 200 := by decide
  have hL := h.2.2.2
  obtain ⟨H, hO, B, N, hP, hI, hs, hR, hn, hH, hW⟩ := h.2.2.2.1
  obtain ⟨m, m200, r1, r2, r3⟩ := hR
  have h48 : 0 ≤ (ge S 40 0 48).toInt ∧ (ge S 40 0 48).toInt ≤ 6 := h.1 40 0 48
  have hD := hL.dwE
  obtain ⟨dH, dO, dB, dN, dP, dI, ds, dR, dn, _⟩ := hD.1
  have d12 : (ge (dw S) 1 0 12).toInt = (m : Int) := by unfold dw; rw [ge_pua (by decide), ge_puj (by decide)]; exact r1
  have dT : nT (dw S) = nT S := rfl
  unfold RK
  have c6 : pk (F_X6_play p p2 S) (fun r T => (r.1 = 3 ∧ ¬ ie p (ge S 40 0 48) ∧ T = S) ∨ (r.1 = 2 ∧ ie p (ge S 40 0 48) ∧ ¬ ic p2 ∧ T = S) ∨ (r = (0, -1) ∧ ie p (ge S 40 0 48) ∧ ic p2 ∧ m = 200 ∧ T = S) ∨ (r.1 = 0 ∧ ie p (ge S 40 0 48) ∧ ic p2 ∧ m < 200 ∧ SRq S T ∧ ∃ k c : Nat, p.toInt = (k : Int) ∧ (rcq p2 (Int32.ofNat (hwk (fun j => ge S 59 k j) 8 0 (drV (ge S 40 0 34) (sumw (fun j => ge S 59 k j) 9))))).toInt = (c : Int) ∧ c < 64 ∧ QKq (dw S) m c (nT (dw S)) r.2 (mx T (dw S)))) := by
    unfold F_X6_play
    refine pq_iv fun x21 e21 => pg_el (by rw [e21, hH]; exact h48.1) (fun hc => ?_) (fun hc => Or.inl ⟨rfl, fun q => hc ⟨q.1, by rw [e21, hH]; exact q.2⟩, rfl⟩)
    have hc' : ie p (ge S 40 0 48) := ⟨hc.1, by have := hc.2; rw [e21, hH] at this; exact this⟩
    refine pg_cell (fun hc2 => ?_) (fun hc2 => Or.inr (Or.inl ⟨rfl, hc', hc2, rfl⟩))
    refine pq_iv fun x30 e30 => pq_lt (fun q => ?_) (fun q => pq_some (Or.inr (Or.inr (Or.inl ⟨rfl, hc', hc2, by rw [e30, r1, l200] at q; omega, rfl⟩))))
    rw [e30, r1, l200] at q
    obtain ⟨k, hp⟩ : ∃ k : Nat, p.toInt = (k : Int) := ⟨p.toInt.toNat, by have := hc.1; omega⟩
    have hk : (k : Int) < (ge S 40 0 48).toInt := by rw [← hp]; exact hc'.2
    refine pq_gd fun _ => pq_iv fun x33 e33 => ?_
    rw [cnNq hp] at e33
    refine pq_bd y_allWeights (fun v34 T q => ?_)
    obtain ⟨rfl, q34⟩ := q
    have w34 : v34 = sumw (fun j => ge S 59 k j) 9 := by
      rw [q34, e33]
      exact (sumw_cg 9 (fun i hi => hW k i hk hi)).symm
    have pos : 1 ≤ v34.toInt := by
      obtain ⟨v9, T9, e9, f1, f2⟩ := t7_weightsOf p S h.1 ⟨by omega, by omega⟩
      have g := q_weightsOf hp v9 T9 e9
      rw [cnNq hp] at f2
      have := h.2.2.1.2.2 k hk
      rw [w34, ← g.2, f2]
      omega
    refine pq_bd (y_draw pos) (fun v37 V q => ?_)
    obtain ⟨q37, qV⟩ := q
    rw [hs] at q37 qV
    have m15 : ∀ u : Nat, ge V 15 0 u = ge S 15 0 u := fun u => by rw [qV, ge_pua (by decide)]
    obtain ⟨c, hcc, hc64⟩ := rcq_bd p2 (Int32.ofNat (hwk (fun j => ge S 59 k j) 8 0 (drV (ge S 40 0 34) (sumw (fun j => ge S 59 k j) 9))))
    have s1 : SRq S V := fun a i j ha => by rw [qV, ge_pua (by omega)]
    have mV : mx V (dw S) = dw S := by
      rw [mx_dw s1, qV]
      rfl
    refine y_playL (h := k) hp (i0 := hwk (fun j => ge S 59 k j) 8 0 (drV (ge S 40 0 34) (sumw (fun j => ge S 59 k j) 9))) ?_ ?_
    · intro v T e
      have sT : SRq V T := sm_SR (fun G S => m_F_X6_tryAt (G := G) (S := S) _) v T e
      have q := m_F_X6_tryAt (G := dw S) (S := V) (rcq p2 (Int32.ofNat (hwk (fun j => ge S 59 k j) 8 0 (drV (ge S 40 0 34) (sumw (fun j => ge S 59 k j) 9)))))
      unfold sm at q
      rw [e, mV] at q
      have hK := y_tryAt dH dO dB dN dP dI ds dn hcc hc64 d12 (by omega) v (mx T (dw S)) q
      exact Or.inr (Or.inr (Or.inr ⟨rfl, hc', hc2, by omega, s1.tr sT, k, c, hp, hcc, hc64, hK⟩))
    · rw [q37, w34]
      refine hwk_cg 8 0 _ (fun j hj => ?_)
      rw [m15]
      exact (hW k j hk (by omega)).symm
  refine pq_imp (pq_and (s_F_X6_play p p2 S h.1 h.2.1).pk c6) (fun r T1 q => ?_)
  obtain ⟨⟨R1, _⟩, q⟩ := q
  rcases q with ⟨q1, q2, q3⟩ | ⟨q1, q2, q3, q4⟩ | ⟨q1, q2, q3, q4, q5⟩ | ⟨q1, q2, q3, q4, s1, k, c, hp, hcc, hc64, hK⟩
  · rw [q3]
    unfold F_X7_play
    refine pg7_0 z (pg7_hand h48.1 (fun c => absurd c q2) (fun _ => pg_b0 ?_))
    unfold B_X7_play_19
    exact pg7_no z (by decide) (pq_some ⟨(h.wr 1).2.2.2, by rw [ge_pus, q1]; rfl, fun d => by omega⟩)
  · rw [q4]
    unfold F_X7_play
    refine pg7_0 z (pg7_hand h48.1 (fun _ => pg_b1 ?_) (fun q => absurd q2 q))
    unfold B_X7_play_19
    refine pg7_ok z (pg7_cell (fun q => absurd q q3) (fun _ => pg_b0 ?_))
    unfold B_X7_play_39
    exact pg7_no z (by decide) (pq_some ⟨(h.wr 2).2.2.2, by rw [ge_pus, q1]; rfl, fun d => by omega⟩)
  · rw [q5, q1]
    unfold F_X7_play
    refine pg7_0 z (pg7_hand h48.1 (fun _ => pg_b1 ?_) (fun q => absurd q2 q))
    unfold B_X7_play_19
    refine pg7_ok z (pg7_cell (fun _ => pg_b1 ?_) (fun q => absurd q3 q))
    unfold B_X7_play_39
    exact pg7_ok z (pq_iv fun x e => pq_bb (fun _ => pq_some ⟨h.2.2.2, z, fun _ => rfl⟩) (fun d => absurd (of_toInt (by rw [e, r2, l200, q4]; rfl)) d))
  · have z1 := RI_z z s1
    unfold F_X7_play
    refine pg7_0 z1 (pg7_hand (by rw [s1 40 0 48 (by decide)]; exact h48.1) (fun _ => pg_b1 ?_) (fun q => absurd (by rw [s1 40 0 48 (by decide)]; exact q2) q))
    unfold B_X7_play_19
    refine pg7_ok z1 (pg7_cell (fun _ => pg_b1 ?_) (fun q => absurd q3 q))
    unfold B_X7_play_39
    refine pg7_ok z1 (pq_iv fun x e => pq_bb (fun d => absurd (congrArg Int32.toInt d) (by rw [e, s1 40 0 46 (by decide), r2, l200]; omega)) (fun _ => ?_))
    refine pq_bd (q_weightsOf hp) (fun v22 T q => ?_)
    obtain ⟨rfl, q22⟩ := q
    have e59 : (fun j => ge T1 59 k j) = fun j => ge S 59 k j := funext fun j => s1 59 k j (by decide)
    rw [e59] at q22
    refine pq_bd q_draw (fun v25 V q => ?_)
    obtain ⟨q25, qV⟩ := q
    rw [s1 40 0 34 (by decide)] at q25 qV
    rw [mx_dw s1, ← qV] at hK
    have RV : RI V := by rw [qV]; exact R1.wf rfl
    have zV : ge V 40 0 0 = 0 := by rw [qV, ge_puj (by decide)]; exact z1
    refine q_playL (h := k) hp (i0 := hwk (fun j => ge S 59 k j) 8 0 (drV (ge S 40 0 34) (sumw (fun j => ge S 59 k j) 9))) ?_ ?_
    · exact pq_imp (try_main hD d12 q4 hcc hc64 hK RV zV) (fun v2 T2 q => ⟨q.2.1, by rw [q.2.2, q1]; rfl, fun _ => q.1.symm⟩)
    · rw [q25, q22]
      refine hwk_cg 8 0 _ (fun j hj => ?_)
      rw [qV, ge_pua (by decide), s1 59 k j (by decide)]
end TRYS
