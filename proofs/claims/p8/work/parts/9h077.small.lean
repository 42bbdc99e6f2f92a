/-! hole, set, seed, force, wire -/
section SML
variable {S : fS} {p p2 : Int32}
theorem ic_nat (h : ic p) : ∃ c : Nat, p.toInt = (c : Int) ∧ c < 64 := ⟨p.toInt.toNat, by have := h.1; omega, by have := h.1; have := h.2; omega⟩
theorem tq_m1 (H : HVq S) {c : Nat} (hc : c < 64) : tq S c = -1 ↔ hh S c ≤ 0 := by
  unfold tq
  by_cases q : hh S c ≤ 0
  · rw [if_pos q]; exact ⟨fun _ => q, fun _ => rfl⟩
  · rw [if_neg q]
    have := H.1.1 c (hh S c - 1).toNat hc (by omega)
    exact ⟨fun e => by omega, fun e => absurd e q⟩
theorem rk_hole (h : IV S) (z : ge S 40 0 0 = 0) : RK (fun ec => if ec = 0 then 0 else if ec = 1 then 2 else 1) (F_X6_hole p S) (F_X7_hole p) := by
  have lm1 : (-1 : Int32).toInt = -1 := by decide
  obtain ⟨H, hO, B, N, hP, hI, hs, _⟩ := h.2.2.2.1
  unfold RK F_X6_hole
  refine pg_cell (fun hc => ?_) (fun hc => ?_)
  · obtain ⟨c, hp, hc64⟩ := ic_nat hc
    have ht := tops_tq B hc64
    refine pq_gd fun _ => pq_iv fun x12 e12 => ?_
    rw [cnNq hp] at e12
    rw [← e12] at ht
    refine pq_bb (fun d => ?_) (fun d => ?_)
    · have hz : hh S c ≤ 0 := (tq_m1 H hc64).1 (by rw [← ht, d, lm1])
      unfold B_X6_hole_25
      refine pg_n1 (pq_iv fun x5 e5 => pq_sv fun T1 E1 => pq_some ?_)
      have z1 : ge T1 40 0 0 = 0 := by rw [E1, ge_pua (by decide)]; exact z
      unfold F_X7_hole
      refine pg7_0 z1 (pg7_cell (fun _ => pg_b1 ?_) (fun q => absurd hc q))
      unfold B_X7_hole_18
      refine pg7_ok z1 (pq_gd fun _ => pq_iv fun x e => pq_le (fun _ => ?_) (fun q => ?_))
      · unfold B_X7_hole_40
        refine pg7_ok z1 (pq_iv fun x6 e6 => pq_sv fun T2 E2 => pq_some ⟨?_, ?_, fun _ => ?_⟩)
        · have F1 : FX WS S T1 := by rw [E1]; exact FX.rf.wr rfl
          have F2 : FX WS S T2 := by rw [E2]; exact F1.wr rfl
          have g1 : ge T2 1 0 1 = p := by rw [E2, ge_pua (by decide), E1, ge_pus]
          have g2 : ge T2 40 0 30 = p := by rw [E2, ge_pus]
          have k1 : ∀ j : Nat, j ≠ 1 → ge T2 1 0 j = ge S 1 0 j := fun j hj => by rw [E2, ge_pua (by decide), E1, ge_puj hj]
          have k2 : ∀ j : Nat, j ≠ 30 → ge T2 40 0 j = ge S 40 0 j := fun j hj => by rw [E2, ge_puj hj, E1, ge_pua (by decide)]
          refine h.2.2.2.set F2 ?_ (by rw [g1, g2]) ?_ ?_ ?_ ?_ ?_
          · unfold HOq
            rw [g2]
            exact hc
          · rw [k1 2 (by decide), k2 31 (by decide)]; exact B.2.2.2
          · rw [k1 3 (by decide), k2 32 (by decide)]; exact N.1
          · rw [k1 4 (by decide), k2 33 (by decide)]; exact N.2.1
          · rw [k1 5 (by decide), k2 34 (by decide)]; exact hs
          · unfold IFq
            rw [k1 6 (by decide), k2 15 (by decide), k2 13 (by decide)]; exact hI
        · rw [E2, ge_puj (by decide)]; exact z1
        · rw [e5, e6, E1, ge_pua (by decide)]; exact B.2.2.1
      · rw [e, E1, ge_pua (by decide), cnNq hp] at q
        exact absurd q (by have : (ge S 54 0 c).toInt = hh S c := rfl; rw [this, l0']; omega)
    · have hz : ¬ hh S c ≤ 0 := fun q => d (of_toInt (by rw [ht, lm1]; exact (tq_m1 H hc64).2 q))
      unfold B_X6_hole_25
      refine pg_n0 ?_
      unfold F_X7_hole
      refine pg7_0 z (pg7_cell (fun _ => pg_b1 ?_) (fun q => absurd hc q))
      unfold B_X7_hole_18
      refine pg7_ok z (pq_gd fun _ => pq_iv fun x e => pq_le (fun q => ?_) (fun q => ?_))
      · rw [e, cnNq hp] at q
        exact absurd q (by have : (ge S 54 0 c).toInt = hh S c := rfl; rw [this, l0']; omega)
      · unfold B_X7_hole_40
        exact pg7_no z (by decide) (pq_some (rk_no (x := (0, 0)) h (by decide) rfl))
  · unfold F_X7_hole
    refine pg7_0 z (pg7_cell (fun c => absurd c hc) (fun _ => pg_b0 ?_))
    unfold B_X7_hole_18
    exact pg7_no z (by decide) (pq_some (rk_no (x := (0, 0)) h (by decide) rfl))
theorem rk_seed (h : IV S) (z : ge S 40 0 0 = 0) : RK0 (F_X6_seed p S) (F_X7_seed p) := by
  obtain ⟨H, hO, B, N, hP, hI, hs, _⟩ := h.2.2.2.1
  unfold RK0 F_X6_seed
  refine pq_iv fun x1 e1 => pq_sv fun T1 E1 => pq_some ?_
  have z1 : ge T1 40 0 0 = 0 := by rw [E1, ge_pua (by decide)]; exact z
  unfold F_X7_seed
  refine pg7_0 z1 (pq_iv fun x2 e2 => pq_sv fun T2 E2 => pq_some ⟨?_, ?_⟩)
  · have F1 : FX WS S T1 := by rw [E1]; exact FX.rf.wr rfl
    have F2 : FX WS S T2 := by rw [E2]; exact F1.wr rfl
    have k1 : ∀ j : Nat, j ≠ 5 → ge T2 1 0 j = ge S 1 0 j := fun j hj => by rw [E2, ge_pua (by decide), E1, ge_puj hj]
    have k2 : ∀ j : Nat, j ≠ 34 → ge T2 40 0 j = ge S 40 0 j := fun j hj => by rw [E2, ge_puj hj, E1, ge_pua (by decide)]
    refine h.2.2.2.set F2 ?_ ?_ ?_ ?_ ?_ ?_ ?_
    · unfold HOq
      rw [k2 30 (by decide)]; exact hO
    · rw [k1 1 (by decide), k2 30 (by decide)]; exact B.2.2.1
    · rw [k1 2 (by decide), k2 31 (by decide)]; exact B.2.2.2
    · rw [k1 3 (by decide), k2 32 (by decide)]; exact N.1
    · rw [k1 4 (by decide), k2 33 (by decide)]; exact N.2.1
    · rw [E2, ge_pus, ge_pua (by decide), E1, ge_pus]
    · unfold IFq
      rw [k1 6 (by decide), k2 15 (by decide), k2 13 (by decide)]; exact hI
  · rw [e1, e2, E1, ge_pua (by decide)]; exact hs
theorem rk_force (h : IV S) (z : ge S 40 0 0 = 0) : RK (fun ec => if ec = 0 then 0 else 1) (F_X6_force p S) (F_X7_force p) := by
  have lm1 : (-1 : Int32).toInt = -1 := by decide
  obtain ⟨H, hO, B, N, hP, hI, hs, _⟩ := h.2.2.2.1
  obtain ⟨⟨m, m6, hm5, hm13, _⟩, _⟩ := hP
  unfold RK F_X6_force
  refine pq_iv fun x1 e1 => pq_iv fun x2 e2 => ?_
  have g2 : x2.toInt = (m : Int) - 1 := by rw [e2, sub1 (by rw [e1, hm5]; omega), e1, hm5]
  refine pg_w (fun hc => pg_n1 ?_) (fun hc => pg_n0 ?_)
  · refine pq_iv fun x10 e10 => pq_sv fun T1 E1 => pq_some ?_
    have z1 : ge T1 40 0 0 = 0 := by rw [E1, ge_pua (by decide)]; exact z
    unfold F_X7_force
    refine pg7_0 z1 (pq_iv fun x8 e8 => pq_iv fun x9 e9 => ?_)
    have g9 : x9.toInt = (m : Int) - 1 := by
      have : ge T1 40 0 13 = ge S 40 0 13 := by rw [E1, ge_pua (by decide)]
      rw [e9, sub1 (by rw [e8, this, hm13]; omega), e8, this, hm13]
    refine pg_7 (fun _ => pg_b1 ?_) (fun q => absurd hc (by rw [g2]; rw [g9] at q; exact q))
    unfold B_X7_force_25
    refine pg7_ok z1 (pq_iv fun x5 e5 => pq_sv fun T2 E2 => pq_some ⟨?_, ?_, fun _ => ?_⟩)
    · have F1 : FX WS S T1 := by rw [E1]; exact FX.rf.wr rfl
      have F2 : FX WS S T2 := by rw [E2]; exact F1.wr rfl
      have k1 : ∀ j : Nat, j ≠ 6 → ge T2 1 0 j = ge S 1 0 j := fun j hj => by rw [E2, ge_pua (by decide), E1, ge_puj hj]
      have k2 : ∀ j : Nat, j ≠ 15 → ge T2 40 0 j = ge S 40 0 j := fun j hj => by rw [E2, ge_puj hj, E1, ge_pua (by decide)]
      refine h.2.2.2.set F2 ?_ ?_ ?_ ?_ ?_ ?_ ?_
      · unfold HOq
        rw [k2 30 (by decide)]; exact hO
      · rw [k1 1 (by decide), k2 30 (by decide)]; exact B.2.2.1
      · rw [k1 2 (by decide), k2 31 (by decide)]; exact B.2.2.2
      · rw [k1 3 (by decide), k2 32 (by decide)]; exact N.1
      · rw [k1 4 (by decide), k2 33 (by decide)]; exact N.2.1
      · rw [k1 5 (by decide), k2 34 (by decide)]; exact hs
      · have a6 : ge T2 1 0 6 = p := by rw [E2, ge_pua (by decide), E1, ge_pus]
        have a15 : ge T2 40 0 15 = p := by rw [E2, ge_pus]
        unfold IFq
        rw [a6, a15, k2 13 (by decide), hm13]
        exact ⟨rfl, by omega, by omega⟩
    · rw [E2, ge_puj (by decide)]; exact z1
    · rw [e10, e5, E1, ge_pua (by decide)]; exact hI.1
  · unfold F_X7_force
    refine pg7_0 z (pq_iv fun x8 e8 => pq_iv fun x9 e9 => ?_)
    have g9 : x9.toInt = (m : Int) - 1 := by rw [e9, sub1 (by rw [e8, hm13]; omega), e8, hm13]
    refine pg_7 (fun q => absurd (by rw [g2]; rw [g9] at q; exact q) hc) (fun _ => pg_b0 ?_)
    unfold B_X7_force_25
    exact pg7_no z (by decide) (pq_some (rk_no (x := (0, 0)) h (by decide) rfl))
/-- a setting that is not the claw's place -/
theorem set_cell {T1 T2 : fS} {j1 j2 : Nat} {v : Int32} (h : IV S) (hj : (j1 = 2 ∧ j2 = 31) ∨ (j1 = 3 ∧ j2 = 32) ∨ (j1 = 4 ∧ j2 = 33)) (E1 : T1 = pu S 1 0 j1 v) (E2 : T2 = pu T1 40 0 j2 v) : RLv T2 := by
  obtain ⟨H, hO, B, N, hP, hI, hs, _⟩ := h.2.2.2.1
  have F1 : FX WS S T1 := by rw [E1]; refine FX.rf.wr ?_; rcases hj with ⟨rfl, rfl⟩ | ⟨rfl, rfl⟩ | ⟨rfl, rfl⟩ <;> rfl
  have F2 : FX WS S T2 := by rw [E2]; refine F1.wr ?_; rcases hj with ⟨rfl, rfl⟩ | ⟨rfl, rfl⟩ | ⟨rfl, rfl⟩ <;> rfl
  have k1 : ∀ j : Nat, j ≠ j1 → ge T2 1 0 j = ge S 1 0 j := fun j hj => by rw [E2, ge_pua (by decide), E1, ge_puj hj]
  have k2 : ∀ j : Nat, j ≠ j2 → ge T2 40 0 j = ge S 40 0 j := fun j hj => by rw [E2, ge_puj hj, E1, ge_pua (by decide)]
  have a1 : ge T2 1 0 j1 = v := by rw [E2, ge_pua (by decide), E1, ge_pus]
  have a2 : ge T2 40 0 j2 = v := by rw [E2, ge_pus]
  refine h.2.2.2.set F2 ?_ ?_ ?_ ?_ ?_ ?_ ?_
  · unfold HOq
    rw [k2 30 (by omega)]; exact hO
  · rw [k1 1 (by omega), k2 30 (by omega)]; exact B.2.2.1
  · rcases hj with ⟨rfl, rfl⟩ | ⟨rfl, rfl⟩ | ⟨rfl, rfl⟩
    · rw [a1, a2]
    · rw [k1 2 (by omega), k2 31 (by omega)]; exact B.2.2.2
    · rw [k1 2 (by omega), k2 31 (by omega)]; exact B.2.2.2
  · rcases hj with ⟨rfl, rfl⟩ | ⟨rfl, rfl⟩ | ⟨rfl, rfl⟩
    · rw [k1 3 (by omega), k2 32 (by omega)]; exact N.1
    · rw [a1, a2]
    · rw [k1 3 (by omega), k2 32 (by omega)]; exact N.1
  · rcases hj with ⟨rfl, rfl⟩ | ⟨rfl, rfl⟩ | ⟨rfl, rfl⟩
    · rw [k1 4 (by omega), k2 33 (by omega)]; exact N.2.1
    · rw [k1 4 (by omega), k2 33 (by omega)]; exact N.2.1
    · rw [a1, a2]
  · rw [k1 5 (by omega), k2 34 (by omega)]; exact hs
  · unfold IFq
    rw [k1 6 (by omega), k2 15 (by omega), k2 13 (by omega)]; exact hI
theorem set_no (h : IV S) (z : ge S 40 0 0 = 0) {r : Nat × Int32} (hr : r.1 = 1) : pk (B_X7_set_44 p p2 S) (fun v2 T2 => RLv T2 ∧ ge T2 40 0 0 = (if r.1 = 0 then 0 else 1) ∧ (r.1 = 0 → r.2 = v2)) := by
  unfold B_X7_set_44 B_X7_set_49
  exact pg7_no z (by decide) (pq_some ⟨(h.wr 1).2.2.2, by rw [hr]; exact ge_pus, fun q => absurd q (by omega)⟩)
theorem rk_set0 (h : IV S) (z : ge S 40 0 0 = 0) : RK (fun ec => if ec = 0 then 0 else 1) (F_X6_set 0 p2 S) (F_X7_set 0 p2) := by
  obtain ⟨H, hO, B, N, hP, hI, hs, _⟩ := h.2.2.2.1
  unfold RK F_X6_set
  refine pg_w (fun _ => pg_n1 ?_) (fun q => absurd (by decide) q)
  refine pq_bb (fun _ => ?_) (fun q => absurd rfl q)
  unfold B_X6_set_32
  refine pg_w (fun hc => pg_n1 ?_) (fun hc => pg_n0 ?_)
  · refine pq_bb (fun _ => ?_) (fun q => absurd rfl q)
    refine pq_iv fun x e => pq_sv fun T1 E1 => pq_some ?_
    have z1 : ge T1 40 0 0 = 0 := by rw [E1, ge_pua (by decide)]; exact z
    unfold F_X7_set
    refine pg7_0 z1 (pg_7 (fun _ => pg_b1 ?_) (fun q => absurd (by decide) q))
    refine pq_bb (fun _ => ?_) (fun q => absurd rfl q)
    unfold B_X7_set_38
    refine pg_7 (fun _ => pg_b1 ?_) (fun q => absurd hc q)
    unfold B_X7_set_49
    refine pg7_ok z1 ?_
    refine pq_bb (fun _ => ?_) (fun q => absurd rfl q)
    refine pq_iv fun y ey => ?_
    unfold B_X7_set_85
    refine pq_bb (fun _ => ?_) (fun q => absurd rfl q)
    refine pq_sv fun T2 E2 => pq_some ⟨set_cell h (by decide) E1 E2, ?_, fun _ => ?_⟩
    · rw [E2, ge_puj (by decide)]; exact z1
    · rw [e, ey, E1, ge_pua (by decide)]; exact B.2.2.2
  · unfold F_X7_set
    refine pg7_0 z (pg_7 (fun _ => pg_b1 ?_) (fun q => absurd (by decide) q))
    refine pq_bb (fun _ => ?_) (fun q => absurd rfl q)
    unfold B_X7_set_38
    exact pg_7 (fun q => absurd q hc) (fun _ => pg_b0 (set_no h z rfl))
theorem rk_set1 (h : IV S) (z : ge S 40 0 0 = 0) : RK (fun ec => if ec = 0 then 0 else 1) (F_X6_set 1 p2 S) (F_X7_set 1 p2) := by
  obtain ⟨H, hO, B, N, hP, hI, hs, _⟩ := h.2.2.2.1
  unfold RK F_X6_set
  refine pg_w (fun _ => pg_n1 ?_) (fun q => absurd (by decide) q)
  refine pq_bb (fun q => absurd q (by decide)) (fun _ => pq_bb (fun _ => ?_) (fun q => absurd rfl q))
  unfold B_X6_set_32
  refine pg_w (fun hc => pg_n1 ?_) (fun hc => pg_n0 ?_)
  · refine pq_bb (fun q => absurd q (by decide)) (fun _ => pq_bb (fun _ => ?_) (fun q => absurd rfl q))
    refine pq_iv fun x e => pq_sv fun T1 E1 => pq_some ?_
    have z1 : ge T1 40 0 0 = 0 := by rw [E1, ge_pua (by decide)]; exact z
    unfold F_X7_set
    refine pg7_0 z1 (pg_7 (fun _ => pg_b1 ?_) (fun q => absurd (by decide) q))
    refine pq_bb (fun q => absurd q (by decide)) (fun _ => pq_bb (fun _ => ?_) (fun q => absurd rfl q))
    unfold B_X7_set_38
    refine pg_7 (fun _ => pg_b1 ?_) (fun q => absurd hc q)
    unfold B_X7_set_49
    refine pg7_ok z1 ?_
    refine pq_bb (fun q => absurd q (by decide)) (fun _ => pq_bb (fun _ => ?_) (fun q => absurd rfl q))
    refine pq_iv fun y ey => ?_
    unfold B_X7_set_85
    refine pq_bb (fun q => absurd q (by decide)) (fun _ => pq_bb (fun _ => ?_) (fun q => absurd rfl q))
    refine pq_sv fun T2 E2 => pq_some ⟨set_cell h (by decide) E1 E2, ?_, fun _ => ?_⟩
    · rw [E2, ge_puj (by decide)]; exact z1
    · rw [e, ey, E1, ge_pua (by decide)]; exact N.1
  · unfold F_X7_set
    refine pg7_0 z (pg_7 (fun _ => pg_b1 ?_) (fun q => absurd (by decide) q))
    refine pq_bb (fun q => absurd q (by decide)) (fun _ => pq_bb (fun _ => ?_) (fun q => absurd rfl q))
    unfold B_X7_set_38
    exact pg_7 (fun q => absurd q hc) (fun _ => pg_b0 (set_no h z rfl))
theorem rk_set2 (h : IV S) (z : ge S 40 0 0 = 0) : RK (fun ec => if ec = 0 then 0 else 1) (F_X6_set 2 p2 S) (F_X7_set 2 p2) := by
  obtain ⟨H, hO, B, N, hP, hI, hs, _⟩ := h.2.2.2.1
  unfold RK F_X6_set
  refine pg_w (fun _ => pg_n1 ?_) (fun q => absurd (by decide) q)
  refine pq_bb (fun q => absurd q (by decide)) (fun _ => pq_bb (fun q => absurd q (by decide)) (fun _ => ?_))
  unfold B_X6_set_32
  refine pg_w (fun hc => pg_n1 ?_) (fun hc => pg_n0 ?_)
  · refine pq_bb (fun q => absurd q (by decide)) (fun _ => pq_bb (fun q => absurd q (by decide)) (fun _ => ?_))
    refine pq_iv fun x e => pq_sv fun T1 E1 => pq_some ?_
    have z1 : ge T1 40 0 0 = 0 := by rw [E1, ge_pua (by decide)]; exact z
    unfold F_X7_set
    refine pg7_0 z1 (pg_7 (fun _ => pg_b1 ?_) (fun q => absurd (by decide) q))
    refine pq_bb (fun q => absurd q (by decide)) (fun _ => pq_bb (fun q => absurd q (by decide)) (fun _ => ?_))
    unfold B_X7_set_38
    refine pg_7 (fun _ => pg_b1 ?_) (fun q => absurd hc q)
    unfold B_X7_set_49
    refine pg7_ok z1 ?_
    refine pq_bb (fun q => absurd q (by decide)) (fun _ => pq_bb (fun q => absurd q (by decide)) (fun _ => ?_))
    refine pq_iv fun y ey => ?_
    unfold B_X7_set_85
    refine pq_bb (fun q => absurd q (by decide)) (fun _ => pq_bb (fun q => absurd q (by decide)) (fun _ => ?_))
    refine pq_sv fun T2 E2 => pq_some ⟨set_cell h (by decide) E1 E2, ?_, fun _ => ?_⟩
    · rw [E2, ge_puj (by decide)]; exact z1
    · rw [e, ey, E1, ge_pua (by decide)]; exact N.2.1
  · unfold F_X7_set
    refine pg7_0 z (pg_7 (fun _ => pg_b1 ?_) (fun q => absurd (by decide) q))
    refine pq_bb (fun q => absurd q (by decide)) (fun _ => pq_bb (fun q => absurd q (by decide)) (fun _ => ?_))
    unfold B_X7_set_38
    exact pg_7 (fun q => absurd q hc) (fun _ => pg_b0 (set_no h z rfl))
theorem rk_set (h : IV S) (z : ge S 40 0 0 = 0) : RK (fun ec => if ec = 0 then 0 else 1) (F_X6_set p p2 S) (F_X7_set p p2) := by
  have l0 : (0 : Int32).toInt = 0 := by decide
  have l1 : (1 : Int32).toInt = 1 := by decide
  have l2 : (2 : Int32).toInt = 2 := by decide
  by_cases hc : (0 : Int32).toInt ≤ p.toInt ∧ p.toInt ≤ (2 : Int32).toInt
  · by_cases d0 : p = 0
    · rw [d0]; exact rk_set0 h z
    · by_cases d1 : p = 1
      · rw [d1]; exact rk_set1 h z
      · have : p = 2 := of_toInt (by
          have a0 : ¬ p.toInt = 0 := fun q => d0 (of_toInt (by rw [q, l0]))
          have a1 : ¬ p.toInt = 1 := fun q => d1 (of_toInt (by rw [q, l1]))
          omega)
        rw [this]; exact rk_set2 h z
  · unfold RK F_X6_set
    refine pg_w (fun q => absurd q hc) (fun _ => pg_n0 ?_)
    unfold F_X7_set
    exact pg7_0 z (pg_7 (fun q => absurd q hc) (fun _ => pg_b0 (set_no h z rfl)))
end SML
