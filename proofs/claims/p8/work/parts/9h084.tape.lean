/-! records, hands, the tape -/
def WO (a _ j : Nat) : Bool := (Nat.beq a 0 && (Nat.beq j 9 || Nat.beq j 11)) || ((Nat.beq a 15 || (Nat.beq a 16 || (Nat.beq a 41 || Nat.beq a 59))) || (Nat.beq a 40 && (Nat.beq j 0 || (Nat.beq j 1 || Nat.beq j 48))))
section WOS
variable {S T : fS}
theorem WO_out {a i j : Nat} (h : a ≠ 0) (h2 : a ≠ 15) (h3 : a ≠ 16) (h4 : a ≠ 41) (h5 : a ≠ 59) (h6 : a ≠ 40) : WO a i j = false := by unfold WO; rw [beq_out h, beq_out h2, beq_out h3, beq_out h4, beq_out h5, beq_out h6]; rfl
theorem RLv.ot (h : RLv S) (h0 : 0 ≤ nq S) (F : FX WO S T) (hH : HNq T) (ht : TPE T) : RLv T := by
  obtain ⟨ha, _, hi⟩ := h
  have hb := ha.b h0
  obtain ⟨m, m2, r1, r2, r3⟩ := hb.2.2.2.2.2.2.2
  obtain ⟨H, hO, B, N, hP, hI, hs, hR, hn, _⟩ := ha
  have o : ∀ a i j : Nat, a ≠ 0 → a ≠ 15 → a ≠ 16 → a ≠ 41 → a ≠ 59 → a ≠ 40 → WO a i j = false := fun a i j => WO_out
  have ar : AR S T m := AR.fx F (fun a j h1 h2 => o _ _ _ (by omega) (by omega) (by omega) (by omega) (by omega) (by omega)) (fun _ _ => o _ _ _ (by decide) (by decide) (by decide) (by decide) (by decide) (by decide)) (fun j hj => by
    show (false || (false || (true && (Nat.beq j 0 || (Nat.beq j 1 || Nat.beq j 48))))) = false
    rw [beq_out (by omega : j ≠ 0), beq_out (by omega : j ≠ 1), beq_out (by omega : j ≠ 48)]
    rfl) (fun _ _ => o _ _ _ (by decide) (by decide) (by decide) (by decide) (by decide) (by decide))
  have ac : AC S T m := AC.fx F (fun a j h1 h2 => o _ _ _ (by omega) (by omega) (by omega) (by omega) (by omega) (by omega)) (fun t j ht => o _ _ _ (by decide) (by decide) (by decide) (by decide) (by decide) (by decide))
  refine ⟨(hb.cg r2 ar ac).a (hP.fx F rfl rfl rfl rfl (fun _ => rfl) (fun _ _ => rfl) (fun _ _ => rfl)) ?_ hH, ht, hi.mv (IMf.fx F (fun a i j h1 h2 => o _ _ _ (by omega) (by omega) (by omega) (by omega) (by omega) (by omega)) (fun a i j h1 h2 _ => o _ _ _ (by omega) (by omega) (by omega) (by omega) (by omega) (by omega)) (fun t j ht => rfl) rfl) (F.1 0 0 3 rfl) (F.1 40 0 56 rfl)⟩
  rw [show nT T = nT S from congrArg (fun z => z.2.1.1) F.2]
  exact hn
end WOS
section REC
variable {S : fS} {p p2 : Int32} {r : Nat}
theorem y_tryTold {j : Nat} (hj : p.toInt = (j : Int)) (h : j < 10) : pk (F_X5_told r p S) (fun v T => S = T ∧ v = ge S 25 r j) := by
  unfold F_X5_told
  have k : ∀ n : Nat, p.toInt = (n : Int) → j = n := fun n e => by omega
  refine pq_bb (fun d => pq_iv fun x e => pq_some ⟨rfl, by rw [k 0 d, e]⟩) (fun d0 => ?_)
  refine pq_bb (fun d => pq_iv fun x e => pq_some ⟨rfl, by rw [k 1 d, e]⟩) (fun d1 => ?_)
  refine pq_bb (fun d => pq_iv fun x e => pq_some ⟨rfl, by rw [k 2 d, e]⟩) (fun d2 => ?_)
  refine pq_bb (fun d => pq_iv fun x e => pq_some ⟨rfl, by rw [k 3 d, e]⟩) (fun d3 => ?_)
  refine pq_bb (fun d => pq_iv fun x e => pq_some ⟨rfl, by rw [k 4 d, e]⟩) (fun d4 => ?_)
  refine pq_bb (fun d => pq_iv fun x e => pq_some ⟨rfl, by rw [k 5 d, e]⟩) (fun d5 => ?_)
  refine pq_bb (fun d => pq_iv fun x e => pq_some ⟨rfl, by rw [k 6 d, e]⟩) (fun d6 => ?_)
  refine pq_bb (fun d => pq_iv fun x e => pq_some ⟨rfl, by rw [k 7 d, e]⟩) (fun d7 => ?_)
  refine pq_bb (fun d => pq_iv fun x e => pq_some ⟨rfl, by rw [k 8 d, e]⟩) (fun d8 => ?_)
  exact pq_iv fun x e => pq_some ⟨rfl, by rw [show j = 9 by omega, e]⟩
theorem rk_record (h : IV S) (z : ge S 40 0 0 = 0) : RK (fun ec => if ec = 0 then 0 else if ec = 1 then 2 else 1) (F_X6_record p p2 S) (F_X7_record p p2) := by
  obtain ⟨H, hO, B, N, hP, hI, hs, ⟨m, m2, r1, r2, r3⟩, _⟩ := h.2.2.2.1
  have l9 : (9 : Int32).toInt = 9 := by decide
  unfold RK F_X6_record
  refine pq_iv fun x1 e1 => pg_el (by rw [e1, r1]; omega) (fun hc => ?_) (fun hc => ?_)
  · have hc' : ie p (ge S 40 0 46) := ⟨hc.1, by have := hc.2; rw [e1, r1] at this; rw [r2]; exact this⟩
    obtain ⟨k, hp⟩ : ∃ k : Nat, p.toInt = (k : Int) := ⟨p.toInt.toNat, by have := hc.1; omega⟩
    have hk : k < m := by have := hc'.2; rw [hp, r2] at this; omega
    obtain ⟨t, g1, ⟨u1, _⟩, _⟩ := r3 k hk
    refine pg_w (fun h2 => pg_n1 ?_) (fun h2 => pg_n0 ?_)
    · obtain ⟨j, hj⟩ : ∃ j : Nat, p2.toInt = (j : Int) := ⟨p2.toInt.toNat, by have := h2.1; rw [l0'] at this; omega⟩
      have j10 : j < 10 := by have := h2.2; rw [l9] at this; omega
      refine pq_bd (y_recordAt hp (by omega) g1) (fun v T q => ?_)
      obtain ⟨rfl, rfl⟩ := q
      refine pq_gd fun _ => pq_bd (y_tryTold hj j10) (fun v2 T q => ?_)
      obtain ⟨rfl, q⟩ := q
      refine pq_some ?_
      unfold F_X7_record
      refine pg7_0 z (pq_iv fun x e => pq_iv fun y ey => pg7_el (n := x) (by rw [e, r2]; omega) ey (fun _ => pg_b1 ?_) (fun q => absurd (by rw [e]; exact hc') q))
      unfold B_X7_record_25
      refine pg7_ok z (pg_7 (fun _ => pg_b1 ?_) (fun q => absurd h2 q))
      unfold B_X7_record_48
      refine pg7_ok z (pq_gd fun _ => pq_gd fun _ => pq_iv fun x7 e7 => pq_some ⟨h.2.2.2, z, fun _ => ?_⟩)
      rw [q, e7, cnNq hp, cnNq hj]
      exact u1 j j10
    · unfold F_X7_record
      refine pg7_0 z (pq_iv fun x e => pq_iv fun y ey => pg7_el (n := x) (by rw [e, r2]; omega) ey (fun _ => pg_b1 ?_) (fun q => absurd (by rw [e]; exact hc') q))
      unfold B_X7_record_25
      refine pg7_ok z (pg_7 (fun q => absurd q h2) (fun _ => pg_b0 ?_))
      unfold B_X7_record_48
      exact pg7_no z (by decide) (pq_some (rk_no (x := (0, 0)) h (by decide) rfl))
  · have hc' : ¬ ie p (ge S 40 0 46) := fun q => hc ⟨q.1, by have := q.2; rw [e1, r1]; rw [r2] at this; exact this⟩
    unfold F_X7_record
    refine pg7_0 z (pq_iv fun x e => pq_iv fun y ey => pg7_el (n := x) (by rw [e, r2]; omega) ey (fun q => absurd (by rw [e] at q; exact q) hc') (fun _ => pg_b0 ?_))
    unfold B_X7_record_25
    exact pg7_no z (by decide) (pq_some (rk_no (x := (0, 0)) h (by decide) rfl))
theorem rk_weights (h : IV S) (z : ge S 40 0 0 = 0) : RK (fun ec => if ec = 0 then 0 else 1) (F_X6_weights p S) (F_X7_weights p) := by
  obtain ⟨_, _, _, _, _, _, _, _, _, hH, hW⟩ := h.2.2.2.1
  have h48 : 0 ≤ (ge S 40 0 48).toInt := (h.1 40 0 48).1
  unfold RK F_X6_weights
  refine pq_iv fun x1 e1 => pg_el (by rw [e1, hH]; exact h48) (fun hc => ?_) (fun hc => ?_)
  · have hc' : ie p (ge S 40 0 48) := ⟨hc.1, by have := hc.2; rw [e1, hH] at this; exact this⟩
    obtain ⟨k, hp⟩ : ∃ k : Nat, p.toInt = (k : Int) := ⟨p.toInt.toNat, by have := hc.1; omega⟩
    refine pq_gd fun _ => pq_iv fun x7 e7 => pq_bd y_allWeights (fun v T q => ?_)
    obtain ⟨rfl, q⟩ := q
    refine pq_some ?_
    unfold F_X7_weights
    refine pg7_0 z (pg7_hand h48 (fun _ => pg_b1 ?_) (fun q => absurd hc' q))
    unfold B_X7_weights_19
    refine pg7_ok z (pq_bd (q_weightsOf hp) (fun v2 T q2 => ?_))
    obtain ⟨rfl, q2⟩ := q2
    refine pq_some ⟨h.2.2.2, z, fun _ => ?_⟩
    rw [q, q2, e7, cnNq hp]
    exact (sumw_cg 9 (fun i hi => hW k i (by rw [← hp]; exact hc'.2) hi)).symm
  · have hc' : ¬ ie p (ge S 40 0 48) := fun q => hc ⟨q.1, by have := q.2; rw [e1, hH]; exact this⟩
    unfold F_X7_weights
    refine pg7_0 z (pg7_hand h48 (fun q => absurd q hc') (fun _ => pg_b0 ?_))
    unfold B_X7_weights_19
    exact pg7_no z (by decide) (pq_some (rk_no (x := (0, 0)) h (by decide) rfl))
theorem rk_hand (h : IV S) (z : ge S 40 0 0 = 0) : RK (fun ec => if ec = 0 then 0 else 1) (F_X6_hand p S) (F_X7_hand p) := by
  have l0 : (0 : Int32).toInt = 0 := by decide
  have l1 : (1 : Int32).toInt = 1 := by decide
  have l6 : (6 : Int32).toInt = 6 := by decide
  have l9 : (9 : Int32).toInt = 9 := by decide
  obtain ⟨ha, ht, hi⟩ := h.2.2.2
  obtain ⟨_, _, _, _, _, _, _, _, _, hH, hW⟩ := ha
  have h48 : 0 ≤ (ge S 40 0 48).toInt ∧ (ge S 40 0 48).toInt ≤ 6 := h.1 40 0 48
  obtain ⟨n, hn⟩ : ∃ n : Nat, (ge S 40 0 48).toInt = (n : Int) := ⟨(ge S 40 0 48).toInt.toNat, by omega⟩
  have h9 : (ge S 0 0 9).toInt = (n : Int) := by rw [hH, hn]
  unfold RK F_X6_hand
  refine pg_w (fun hc => pg_n1 ?_) (fun hc => pg_n0 ?_)
  · refine pq_iv fun x8 e8 => pq_lt (fun c => ?_) (fun c => ?_)
    · rw [e8, h9, l6] at c
      refine pq_iv fun x10 e10 => pq_gd fun _ => pq_sv fun S12 E12 => ?_
      have g10 : x10.toInt = (n : Int) := by rw [e10, h9]
      rw [cnNq g10] at E12
      refine pq_iv fun x13 e13 => pq_iv fun x14 e14 => pq_sv fun T1 E1 => pq_iv fun x16 e16 => pq_iv fun x17 e17 => pq_some ?_
      have g13 : x13.toInt = (n : Int) := by rw [e13, E12, ge_pua (by decide), h9]
      have g14 : x14.toInt = (n : Int) + 1 := by rw [e14, ti_add (by rw [g13, l1]; omega) (by rw [g13, l1]; omega), g13, l1]
      have g16 : x16.toInt = (n : Int) + 1 := by rw [e16, E1, ge_pus, g14]
      have g17 : x17.toInt = (n : Int) := by rw [e17, ti_sub (by rw [g16, l1]; omega) (by rw [g16, l1]; omega), g16, l1]; omega
      have F1 : FX WO S T1 := by
        have f : FX WO S S12 := by rw [E12]; exact FX.rf.wr rfl
        rw [E1]
        exact f.wr rfl
      have s1 : SRq S T1 := fun a i j ha => by rw [E1, ge_pua (by omega), E12, ge_pua (by omega)]
      have z1 := RI_z z s1
      have n1 : (ge T1 40 0 48).toInt = (n : Int) := by rw [s1 40 0 48 (by decide)]; exact hn
      have a9 : (ge T1 0 0 9).toInt = (n : Int) + 1 := by rw [E1, ge_pus, g14]
      have a15 : ∀ u : Nat, ge T1 15 0 u = if u = n then p else ge S 15 0 u := fun u => by
        rw [E1, ge_pua (by decide), E12, ge_pu]
        by_cases d : u = n
        · rw [if_pos ⟨rfl, rfl, d⟩, if_pos d]
        · rw [if_neg (fun q => d q.2.2), if_neg d]
      unfold F_X7_hand
      refine pg7_0 z1 (pg_7 (fun _ => pg_b1 ?_) (fun q => absurd hc q))
      unfold B_X7_hand_22
      refine pg7_ok z1 (pq_iv fun x20 e20 => pq_bb (fun d => absurd (congrArg Int32.toInt d) (by rw [e20, n1, l6]; omega)) (fun _ => ?_))
      refine pq_lp (fun (y : Int32 × Int32) V => FX WO T1 V ∧ y.1 = p ∧ ge V 40 0 48 = ge T1 40 0 48 ∧ (∀ a j : Nat, a < 40 → ge V a 0 j = ge T1 a 0 j) ∧ (∀ k : Nat, ge V 41 0 k = ge T1 41 0 k) ∧ ge V 40 0 1 = ge T1 40 0 1 ∧ ge V 40 0 0 = 0 ∧ (∀ x k : Nat, x ≠ n → ge V 59 x k = ge T1 59 x k) ∧ ∃ i : Nat, y.2.toInt = (i : Int) ∧ i ≤ 9 ∧ ∀ k : Nat, k < i → ge V 59 n k = dg p (Int32.ofNat k)) (fun _ _ (v2 : Int32) T2 => RLv T2 ∧ ge T2 40 0 0 = 0 ∧ (0 = 0 → x17 = v2)) ?_ fuel (p, 0) T1 ⟨FX.rf, rfl, rfl, fun _ _ _ => rfl, fun _ => rfl, rfl, z1, fun _ _ _ => rfl, 0, l0, by omega, fun k hk => absurd hk (Nat.not_lt_zero _)⟩
      intro k hk y V hy
      obtain ⟨y1, y2⟩ := y
      obtain ⟨FV, rfl, v48, vlo, v41, v1, v0, v59, i, i1, i2, i3⟩ := hy
      dsimp only at i1 hk
      unfold B_X7_hand_44
      refine pq_le (fun c9 => ?_) (fun c9 => ?_)
      · refine pq_iv fun x2 e2 => pq_iv fun x3 e3 => pq_sv fun T2 E2 => pq_iv fun x5 e5 => pq_iv fun x6 e6 => pq_some ⟨?_, ?_, fun _ => of_toInt ?_⟩
        · have g3 : x3.toInt = (n : Int) + 1 := by rw [e3, e2, v48, ti_add (by rw [n1, l1]; omega) (by rw [n1, l1]; omega), n1, l1]
          have F2 : FX WO S T2 := by rw [E2]; exact (F1.tr FV).wr rfl
          have k2 : ∀ a i j : Nat, ¬ (a = 40 ∧ j = 48) → ge T2 a i j = ge V a i j := fun a i j hh => by rw [E2, ge_pu, if_neg (fun q => hh ⟨q.1, q.2.2⟩)]
          refine RLv.ot h.2.2.2 h.nq F2 ⟨?_, fun x k hx hk9 => ?_⟩ (ht.mv ?_ ?_ (fun u => ?_) (fun u => ?_))
          · rw [k2 0 0 9 (by omega), vlo 0 9 (by decide), a9, E2, ge_pus, g3]
          · rw [E2, ge_pus, g3] at hx
            rw [k2 59 x k (by omega), k2 15 0 x (by omega), vlo 15 x (by decide), a15]
            by_cases d : x = n
            · rw [d, if_pos rfl]
              exact i3 k (by omega)
            · rw [if_neg d, v59 x k d, s1 59 x k (by decide)]
              exact hW x k (by omega) hk9
          · rw [k2 0 0 11 (by omega), vlo 0 11 (by decide), E1, ge_puj (by decide), E12, ge_pua (by decide)]
          · rw [k2 40 0 1 (by omega), v1, s1 40 0 1 (by decide)]
          · rw [k2 16 0 u (by omega), vlo 16 u (by decide), E1, ge_pua (by decide), E12, ge_pua (by decide)]
          · rw [k2 41 0 u (by omega), v41, s1 41 0 u (by decide)]
        · rw [E2, ge_puj (by decide)]; exact v0
        · have g3 : x3.toInt = (n : Int) + 1 := by rw [e3, e2, v48, ti_add (by rw [n1, l1]; omega) (by rw [n1, l1]; omega), n1, l1]
          rw [g17, e6, ti_sub (by rw [e5, E2, ge_pus, g3, l1]; omega) (by rw [e5, E2, ge_pus, g3, l1]; omega), e5, E2, ge_pus, g3, l1]
          omega
      · refine pq_iv fun x7 e7 => pq_gd fun _ => pq_iv fun x9 e9 => pq_iv fun x10 e10 => pq_iv fun x11 e11 => pq_iv fun x12 e12 => pq_gd fun _ => pq_sv fun S14 E14 => pq_iv fun x15 e15 => ?_
        rw [cnNq (y := x7) (m := n) (by rw [e7, v48, n1]), cnNq i1] at E14
        refine hk (y1, x15) S14 ⟨by rw [E14]; exact FV.wr rfl, rfl, by rw [E14, ge_pua (by decide)]; exact v48, fun a j ha => by rw [E14, ge_pua (by omega)]; exact vlo a j ha, fun u => by rw [E14, ge_pua (by decide)]; exact v41 u, by rw [E14, ge_pua (by decide)]; exact v1, by rw [E14, ge_pua (by decide)]; exact v0, fun x u hx => by rw [E14, ge_pui hx]; exact v59 x u hx, i + 1, by dsimp only; rw [e15, ti_inc (by omega), i1]; omega, by omega, fun u hu => ?_⟩
        by_cases d : u = i
        · rw [E14, d, ge_pus, e12, e11, e10, e9, isN9 i1 (by omega)]
          rfl
        · rw [E14, ge_puj d]
          exact i3 u (by omega)
    · rw [e8, h9, l6] at c
      refine pq_some ?_
      unfold F_X7_hand
      refine pg7_0 z (pg_7 (fun _ => pg_b1 ?_) (fun q => absurd hc q))
      unfold B_X7_hand_22
      exact pg7_ok z (pq_iv fun x20 e20 => pq_bb (fun _ => pq_some ⟨h.2.2.2, z, fun _ => rfl⟩) (fun d => absurd (of_toInt (by rw [e20, hn, l6]; omega)) d))
  · unfold F_X7_hand
    refine pg7_0 z (pg_7 (fun q => absurd q hc) (fun _ => pg_b0 ?_))
    unfold B_X7_hand_22
    exact pg7_no z (by decide) (pq_some (rk_no (x := (0, 0)) h (by decide) rfl))
end REC
