/-! the reader, exactly: brackets, least and most, a unit -/
section RUB
variable {b : Nat → Int} {law : Bool} {n N i o d : Nat} {l : List Int32} {S T : fS} {R : Nat → Int32 → fS → Option (Int32 × fS)}
theorem nmv_no {q : Nat} (h : ¬ (270 ≤ wkd (wc b q) ∧ wkd (wc b q) ≤ (if law = true then 276 else 275))) : nmv b law q = -1 := by rw [nmv_wkd, if_neg h]
theorem nU_sign {env : Nat → Int32} {r : Nat → Nat → Nat → RS7} {p : Nat} (h : TXT b) (hd : ¬ (48 ≤ b (sk b p) ∧ b (sk b p) ≤ 57)) (hl : ¬ (97 ≤ b (sk b p) ∧ b (sk b p) ≤ 122)) : nU b law env r p o = nB b r false false (sk b p) o := by
  have hw := wc_no h hl
  unfold nU
  rw [if_neg hd, nmv_no (by rw [hw]; intro q; have := q.1; revert this; decide), if_neg (by decide), hw, if_neg (by decide), if_neg (by decide)]
theorem nB_f {r : Nat → Nat → Nat → RS7} {q : Nat} {lm ls : Bool} (h : ¬ b q = 40) : nB b r lm ls q o = .error (1, q) := by unfold nB; rw [if_pos h]
theorem nB_6 {r : Nat → Nat → Nat → RS7} {q : Nat} {lm ls : Bool} (h : b q = 40) (h6 : o = 6) : nB b r lm ls q o = .error (3, q) := by unfold nB; rw [if_neg (by rw [h]; decide), if_pos h6]
theorem nB_e {r : Nat → Nat → Nat → RS7} {q : Nat} {lm ls : Bool} {e : Int × Nat} (h : b q = 40) (h6 : ¬ o = 6) (he : r 2 (q + 1) (o + 1) = .error e) : nB b r lm ls q o = .error e := by unfold nB; rw [if_neg (by rw [h]; decide), if_neg h6, he]
theorem nB_k {r : Nat → Nat → Nat → RS7} {q : Nat} {lm ls : Bool} {z : Nat × Int32} (h : b q = 40) (h6 : ¬ o = 6) (he : r 2 (q + 1) (o + 1) = .ok z) : nB b r lm ls q o = nE b r lm ls z.1 z.2 (o + 1) := by unfold nB; rw [if_neg (by rw [h]; decide), if_neg h6, he]
theorem u_paren (H : HC b law n N R d) (h : RD S b law n N i o l) (hk : kd b (tpos b i) = 40) (hd : 3 * (6 - o) ≤ d) : zk (bd (F_X4_opened 40 S) (fun v17 S18 => bb (v17 = (0 : Int32)) (some (0, S18)) (bd (R 3 0 S18) (fun v21 S22 => bb (v21 = (0 : Int32)) (some (0, S22)) (bd (F_X4_closed 41 S22) (fun v25 S26 => bb (v25 = (0 : Int32)) (some (0, S26)) (some (1, S26)))))))) (fun v T => FX Wr S T ∧ PQ b law n N i o l 0 1 V1 v T) := by
  have l0 : (0 : Int32).toInt = 0 := by decide
  have l1 : (1 : Int32).toInt = 1 := by decide
  have l3 : (3 : Int32).toInt = 3 := by decide
  have l40 : (40 : Int32).toInt = 40 := by decide
  have l41 : (41 : Int32).toInt = 41 := by decide
  have htx := h.tx
  obtain ⟨s1, s2⟩ := h.sg hk (by decide) (by decide) (by decide) (by decide)
  have U : ∀ (env : Nat → Int32) (r : Nat → Nat → Nat → RS7) (q : Nat), sk b q = tpos b i → nU b law env r q o = nB b r false false (tpos b i) o := fun env r q hq => by rw [← hq]; exact nU_sign htx (by rw [hq]; omega) (by rw [hq]; omega)
  refine zk_bd (x_opened 40 (by decide) h) (fun v17 S1 q => ?_)
  rcases q with ⟨q1, q2⟩ | ⟨q1, q2, q3, q4, q5, q6⟩
  · refine zk_bbt (of_toInt (by rw [q1]; exact l0.symm)) ?_
    rcases q2 with ⟨q2, _⟩ | ⟨_, q3, q4⟩
    · exact absurd hk (by rw [l40] at q2; exact q2)
    · refine zk_some ⟨q4.1, PO.ft l0 q4 (fun x hx => ?_)⟩
      obtain ⟨env, D, q⟩ := x
      obtain ⟨hD, hq⟩ := hx
      dsimp only at hD hq
      match D, hD with
      | D + 1, _ =>
        show nU b law env (Wk b law env D) q o = _
        rw [U env _ q hq, nB_6 s1 q3, l3]
  · refine zk_bbf (fun e => by rw [e] at q1; omega) ?_
    refine zk_bd (H.2.2.2.1 0 S1 (i + 1) (o + 1) l q6 (by omega)) (fun v21 S2 u => ?_)
    obtain ⟨F2, P2⟩ := u
    refine zk_eq (fun c => ?_) (fun c => ?_)
    · refine zk_some ⟨q5.tr F2, PO.fw (by omega) P2 (fun x hx => ?_) l0⟩
      obtain ⟨env, D, q⟩ := x
      obtain ⟨hD, hq⟩ := hx
      dsimp only at hD hq
      match D, hD with
      | D + 1, hD =>
        refine ⟨(env, D, tpos b i + 1), ⟨by dsimp only; omega, s2.symm⟩, fun e he => ?_⟩
        show nU b law env (Wk b law env D) q o = _
        rw [U env _ q hq]
        exact nB_e s1 (by omega) he
    · obtain ⟨i', m, t1, t2, t3, t4⟩ := P2.t (by omega)
      refine zk_bd (x_closed 41 (by decide) t1) (fun v25 S3 u => ?_)
      rcases u with ⟨u1, u2, u3⟩ | ⟨u1, u2, u3, u4, u5⟩
      · refine zk_bbt (of_toInt (by rw [u1]; exact l0.symm)) ?_
        refine zk_some ⟨(q5.tr F2).tr u3.1, PO.ft l0 u3 (fun x hx => ?_)⟩
        rw [l41] at u2
        have nb := t1.ns u2 (by decide) (by decide) (by decide) (by decide)
        obtain ⟨env, D, q⟩ := x
        obtain ⟨hD, hq⟩ := hx
        dsimp only at hD hq
        match D, hD with
        | D + 1, hD =>
          obtain ⟨p2, y, w1, w2, _, _⟩ := t4 (env, D, tpos b i + 1) ⟨by dsimp only; omega, s2.symm⟩
          show nU b law env (Wk b law env D) q o = _
          rw [U env _ q hq, nB_k s1 (by omega) w1]
          unfold nE
          rw [if_neg (by decide), w2, if_pos nb, l1]
      · refine zk_bbf (fun e => by rw [e] at u1; omega) ?_
        rw [l41] at u2
        obtain ⟨c1, c2⟩ := t1.sg u2 (by decide) (by decide) (by decide) (by decide)
        refine zk_some ⟨(q5.tr F2).tr u4, Or.inr ⟨l1, i' + 1, m, u5, by omega, by omega, fun x hx => ?_⟩⟩
        obtain ⟨env, D, q⟩ := x
        obtain ⟨hD, hq⟩ := hx
        dsimp only at hD hq
        match D, hD with
        | D + 1, hD =>
          obtain ⟨p2, y, w1, w2, _, w4⟩ := t4 (env, D, tpos b i + 1) ⟨by dsimp only; omega, s2.symm⟩
          refine ⟨tpos b i' + 1, y, ?_, c2.symm, trivial, w4⟩
          show nU b law env (Wk b law env D) q o = _
          rw [U env _ q hq, nB_k s1 (by omega) w1]
          unfold nE
          rw [if_neg (by decide), w2, if_neg (by rw [c1]; decide)]
/-- least and most: the word stands at token i -/
theorem u_choice (H : HC b law n N R d) (p1 : Int32) (h : RD S b law n N i o l) (hk : (kd b (tpos b i) = 267 ∧ p1 = 2004) ∨ (kd b (tpos b i) = 268 ∧ p1 = 2005)) (hd : 3 * (6 - o) ≤ d) : zk (N_X4_choice R p1 S) (fun v T => FX Wr S T ∧ PQ b law n N i o l 0 1 V1 v T) := by
  have l0 : (0 : Int32).toInt = 0 := by decide
  have l1 : (1 : Int32).toInt = 1 := by decide
  have l3 : (3 : Int32).toInt = 3 := by decide
  have l40 : (40 : Int32).toInt = 40 := by decide
  have l41 : (41 : Int32).toInt = 41 := by decide
  have l44 : (44 : Int32).toInt = 44 := by decide
  have htx := h.tx
  have hN := h.N300
  have hi : i < N := h.lt (fun q => by rw [kd_end q] at hk; omega)
  obtain ⟨c0, hc0⟩ : ∃ c0 : Int, kd b (tpos b i) = c0 := ⟨_, rfl⟩
  obtain ⟨wk1, yl, nx⟩ := h.wd (c := c0) hc0 (by omega)
  have wkc := wkd_in wk1
  obtain ⟨ls, hls⟩ : ∃ ls : Bool, (ls = true ∧ wc b (tpos b i) = 6476969 ∧ p1 = 2004) ∨ (ls = false ∧ wc b (tpos b i) = 267347 ∧ p1 = 2005) := by
    rcases hk with ⟨k1, k2⟩ | ⟨k1, k2⟩
    · exact ⟨true, Or.inl ⟨rfl, wkc.2.2.2.2.2.2.2.1 (by omega), k2⟩⟩
    · exact ⟨false, Or.inr ⟨rfl, wkc.2.2.2.2.2.2.2.2 (by omega), k2⟩⟩
  have U : ∀ (env : Nat → Int32) (r : Nat → Nat → Nat → RS7) (q : Nat), sk b q = tpos b i → nU b law env r q o = nB b r true ls (tpos b (i + 1)) o := fun env r q hq => by
    unfold nU
    rw [hq, if_neg (by omega), nmv_no (by split <;> omega), if_neg (by decide)]
    rcases hls with ⟨z1, z2, z3⟩ | ⟨z1, z2, z3⟩
    · rw [if_pos z2, z1, ← nx]
    · rw [if_neg (by omega), if_pos z2, z1, ← nx]
  have J : ∀ x y : Int32, (if ls then (if y < x then y else x) else (if y < x then x else y)) = jn p1 x y := by
    intro x y
    rcases hls with ⟨z1, z2, z3⟩ | ⟨z1, z2, z3⟩
    · rw [z1, z3, if_pos rfl]
      rfl
    · rw [z1, z3, if_neg (by decide)]
      show _ = if x < y then y else x
      by_cases c : y < x
      · rw [if_pos c, if_neg (fun c2 => by have := lt_toInt c; have := lt_toInt c2; omega)]
      · rw [if_neg c]
        by_cases c2 : x < y
        · rw [if_pos c2]
        · rw [if_neg c2]
          have := nlt_toInt c
          have := nlt_toInt c2
          exact of_toInt (by omega)
  have hp1 : 2000 ≤ p1.toInt ∧ p1.toInt < 2011 := by
    rcases hls with ⟨_, _, z3⟩ | ⟨_, _, z3⟩ <;> rw [z3] <;> decide
  unfold N_X4_choice
  refine zk_iv fun x1 e1 => ?_
  refine zk_iv fun x2 e2 => ?_
  have g1 : x1.toInt = (i : Int) := by rw [e1]; exact h.2.2.1
  have g2 : x2.toInt = ((i + 1 : Nat) : Int) := by rw [e2, ti_add (by omega) (by omega), l1]; omega
  refine zk_sv fun S3 E3 => ?_
  have m3 := h.mv g2 (by omega) (by omega)
  rw [← E3] at m3
  obtain ⟨F3, h3⟩ := m3
  refine zk_bd (x_opened 40 (by decide) h3) (fun v4 S5 q => ?_)
  rcases q with ⟨q1, q2⟩ | ⟨q1, q2, q3, q4, q5, q6⟩
  · refine zk_bbt (of_toInt (by rw [q1]; exact l0.symm)) ?_
    rcases q2 with ⟨q2, q4⟩ | ⟨q2, q3, q4⟩
    · rw [l40] at q2
      have nb := h3.ns q2 (by decide) (by decide) (by decide) (by decide)
      refine zk_some ⟨F3.tr q4.1, PO.ft l0 q4 (fun x hx => ?_)⟩
      obtain ⟨env, D, q⟩ := x
      obtain ⟨hD, hq⟩ := hx
      dsimp only at hD hq
      match D, hD with
      | D + 1, _ =>
        show nU b law env (Wk b law env D) q o = _
        rw [U env _ q hq, nB_f nb, l1]
    · rw [l40] at q2
      have sb := (h3.sg q2 (by decide) (by decide) (by decide) (by decide)).1
      refine zk_some ⟨F3.tr q4.1, PO.ft l0 q4 (fun x hx => ?_)⟩
      obtain ⟨env, D, q⟩ := x
      obtain ⟨hD, hq⟩ := hx
      dsimp only at hD hq
      match D, hD with
      | D + 1, _ =>
        show nU b law env (Wk b law env D) q o = _
        rw [U env _ q hq, nB_6 sb q3, l3]
  · refine zk_bbf (fun e => by rw [e] at q1; omega) ?_
    rw [l40] at q2
    obtain ⟨s1, s2⟩ := h3.sg q2 (by decide) (by decide) (by decide) (by decide)
    refine zk_bd (H.2.2.2.1 0 S5 (i + 1 + 1) (o + 1) l q6 (by omega)) (fun v8 S9 u => ?_)
    obtain ⟨F9, P9⟩ := u
    have FF := (F3.tr q5).tr F9
    refine zk_eq (fun c => ?_) (fun c => ?_)
    · refine zk_some ⟨FF, PO.fw (by omega) P9 (fun x hx => ?_) l0⟩
      obtain ⟨env, D, q⟩ := x
      obtain ⟨hD, hq⟩ := hx
      dsimp only at hD hq
      match D, hD with
      | D + 1, hD =>
        refine ⟨(env, D, tpos b (i + 1) + 1), ⟨by dsimp only; omega, s2.symm⟩, fun e he => ?_⟩
        show nU b law env (Wk b law env D) q o = _
        rw [U env _ q hq]
        exact nB_e s1 (by omega) he
    · obtain ⟨i', m, t1, t2, t3, t4⟩ := P9.t (by omega)
      refine zk_bd (x_passed 44 (by decide) t1) (fun v12 S13 u => ?_)
      rcases u with ⟨u1, rfl, u3⟩ | ⟨u1, u2, u3, u4, u5⟩
      · refine zk_bbt (of_toInt (by rw [u1]; exact l0.symm)) ?_
        rw [l44] at u3
        have nb := t1.ns u3 (by decide) (by decide) (by decide) (by decide)
        refine zk_imp (x_failg 1 t1) (fun v T u => ⟨FF.tr u.2.1, PO.ft u.1 u.2 (fun x hx => ?_)⟩)
        obtain ⟨env, D, q⟩ := x
        obtain ⟨hD, hq⟩ := hx
        dsimp only at hD hq
        match D, hD with
        | D + 1, hD =>
          obtain ⟨p2, y, w1, w2, _, _⟩ := t4 (env, D, tpos b (i + 1) + 1) ⟨by dsimp only; omega, s2.symm⟩
          show nU b law env (Wk b law env D) q o = _
          rw [U env _ q hq, nB_k s1 (by omega) w1]
          unfold nE nCm
          rw [if_pos rfl, w2, if_pos nb, l1]
      · refine zk_bbf (fun e => by rw [e] at u1; omega) ?_
        rw [l44] at u2
        obtain ⟨c1, c2⟩ := t1.sg u2 (by decide) (by decide) (by decide) (by decide)
        refine zk_bd (H.2.2.2.1 0 S13 (i' + 1) (o + 1) (l ++ m) u5 (by omega)) (fun v16 S17 u => ?_)
        obtain ⟨F17, P17⟩ := u
        have FG := (FF.tr u4).tr F17
        have W : ∀ (env : Nat → Int32) (D q : Nat), 3 * (6 - o) + 1 ≤ D + 1 → sk b q = tpos b i → ∃ y : Int32, nU b law env (Wk b law env D) q o = (match Wk b law env D 2 (tpos b i' + 1) (o + 1) with | .error e => .error e | .ok z => if b (sk b z.1) ≠ 41 then .error (1, sk b z.1) else .ok (sk b z.1 + 1, jn p1 y z.2)) ∧ ∀ (st : List Int32) (g : Int32 × Int32 × Int32), xs env m (st, g) = (y :: st, g) := by
          intro env D q hD hq
          obtain ⟨p2, y, w1, w2, _, w4⟩ := t4 (env, D, tpos b (i + 1) + 1) ⟨by dsimp only; omega, s2.symm⟩
          refine ⟨y, ?_, w4⟩
          rw [U env _ q hq, nB_k s1 (by omega) w1]
          unfold nE nCm
          rw [if_pos rfl, w2, if_neg (by rw [c1]; decide)]
          cases Wk b law env D 2 (tpos b i' + 1) (o + 1) with
          | error e => rfl
          | ok z =>
            dsimp only
            rw [J]
        refine zk_eq (fun c => ?_) (fun c => ?_)
        · refine zk_some ⟨FG, PO.fw (by omega) P17 (fun x hx => ?_) l0⟩
          obtain ⟨env, D, q⟩ := x
          obtain ⟨hD, hq⟩ := hx
          dsimp only at hD hq
          match D, hD with
          | D + 1, hD =>
            refine ⟨(env, D, tpos b i' + 1), ⟨by dsimp only; omega, c2.symm⟩, fun e he => ?_⟩
            obtain ⟨y, w1, w2⟩ := W env D q hD hq
            show nU b law env (Wk b law env D) q o = _
            have he : Wk b law env D 2 (tpos b i' + 1) (o + 1) = .error e := he
            rw [w1, he]
        · obtain ⟨j, m2, r1, r2, r3, r4⟩ := P17.t (by omega)
          refine zk_bd (x_closed 41 (by decide) r1) (fun v20 S21 u => ?_)
          rcases u with ⟨v1, v2, v3⟩ | ⟨v1, v2, v3, v4, v5⟩
          · refine zk_bbt (of_toInt (by rw [v1]; exact l0.symm)) ?_
            rw [l41] at v2
            have nb := r1.ns v2 (by decide) (by decide) (by decide) (by decide)
            refine zk_some ⟨FG.tr v3.1, PO.ft l0 v3 (fun x hx => ?_)⟩
            obtain ⟨env, D, q⟩ := x
            obtain ⟨hD, hq⟩ := hx
            dsimp only at hD hq
            match D, hD with
            | D + 1, hD =>
              obtain ⟨y, w1, w2⟩ := W env D q hD hq
              obtain ⟨p3, y3, k1, k2, _, _⟩ := r4 (env, D, tpos b i' + 1) ⟨by dsimp only; omega, c2.symm⟩
              have k1 : Wk b law env D 2 (tpos b i' + 1) (o + 1) = .ok (p3, y3) := k1
              show nU b law env (Wk b law env D) q o = _
              rw [w1, k1]
              dsimp only
              rw [k2, if_pos nb, l1]
          · refine zk_bbf (fun e => by rw [e] at v1; omega) ?_
            rw [l41] at v2
            obtain ⟨d1, d2⟩ := r1.sg v2 (by decide) (by decide) (by decide) (by decide)
            have hlen : (l ++ m ++ m2).length + 1 ≤ j + 1 := by
              have := r1.2.2.2.2.2.2.2
              omega
            refine zk_bd (x_emit p1 v5 hlen) (fun _ S25 u => ?_)
            obtain ⟨F25, h25⟩ := u
            rw [List.append_assoc, List.append_assoc] at h25
            refine zk_some ⟨(FG.tr v4).tr F25, Or.inr ⟨l1, j + 1, m ++ (m2 ++ [p1]), h25, by omega, ?_, fun x hx => ?_⟩⟩
            · rw [List.length_append, List.length_append]
              show m.length + (m2.length + 1) + i ≤ j + 1 + 0
              omega
            · obtain ⟨env, D, q⟩ := x
              obtain ⟨hD, hq⟩ := hx
              dsimp only at hD hq
              match D, hD with
              | D + 1, hD =>
                obtain ⟨y, w1, w2⟩ := W env D q hD hq
                obtain ⟨p3, y3, k1, k2, _, k4⟩ := r4 (env, D, tpos b i' + 1) ⟨by dsimp only; omega, c2.symm⟩
                have k1 : Wk b law env D 2 (tpos b i' + 1) (o + 1) = .ok (p3, y3) := k1
                have k4 : ∀ (st : List Int32) (g : Int32 × Int32 × Int32), xs env m2 (st, g) = (y3 :: st, g) := k4
                refine ⟨tpos b j + 1, jn p1 y y3, ?_, d2.symm, trivial, fun st g => ?_⟩
                · show nU b law env (Wk b law env D) q o = _
                  rw [w1, k1]
                  dsimp only
                  rw [k2, if_neg (by rw [d1]; decide)]
                · show xs env (m ++ (m2 ++ [p1])) (st, g) = _
                  rw [xs_app, w2, xs_app, k4, xs_one, xw_jn hp1.1 hp1.2]
/-- a unit -/
theorem u_unit (H : HC b law n N R d) (h : RD S b law n N i o l) (hd : 3 * (6 - o) + 1 ≤ d) : zk (N_X4_unit R S) (fun v T => FX Wr S T ∧ PQ b law n N i o l 0 1 V1 v T) := by
  have l0 : (0 : Int32).toInt = 0 := by decide
  have l1 : (1 : Int32).toInt = 1 := by decide
  have l40 : (40 : Int32).toInt = 40 := by decide
  have l257 : (257 : Int32).toInt = 257 := by decide
  have l267 : (267 : Int32).toInt = 267 := by decide
  have l268 : (268 : Int32).toInt = 268 := by decide
  have l1000 : (1000 : Int32).toInt = 1000 := by decide
  have htx := h.tx
  have hb := h.bd
  unfold N_X4_unit
  refine zk_bd (x_here h) (fun v36 S37 q => ?_)
  obtain ⟨rfl, hv⟩ := q
  refine zk_eq (fun c => u_number h (by omega)) (fun c => ?_)
  have nd : ¬ (48 ≤ b (tpos b i) ∧ b (tpos b i) ≤ 57) := fun q => by rw [kd_dg q] at hv; omega
  refine zk_iv fun x40 e40 => ?_
  have hlaw := h.2.1
  rw [← e40] at hlaw
  have J : ∀ t : Int32, t.toInt = (if law = true then 276 else 275) → zk (B_X4_unit_37 R v36 t 270 v36 S) (fun v T => FX Wr S T ∧ PQ b law n N i o l 0 1 V1 v T) := by
    intro t ht
    unfold B_X4_unit_37
    refine zk_bd (w_in v36 270 t S) (fun v6 T q => ?_)
    obtain ⟨rfl, h6⟩ := q
    rw [show (270 : Int32).toInt = 270 from by decide] at h6
    refine zk_eq (fun c6 => ?_) (fun c6 => ?_)
    · have hno : ¬ (270 ≤ v36.toInt ∧ v36.toInt ≤ t.toInt) := by omega
      have bad : zk (bb (v36 = (267 : Int32)) (B_X4_unit_115 R v36 S) (bb (v36 = (268 : Int32)) (B_X4_unit_115 R v36 S) (bd (F_X4_fail 1 S) (fun v13 S14 => gd (v13 = 0 ∨ v13 = 1) (some (v13, S14)))))) (fun v T => ¬ kd b (tpos b i) = 40 → FX Wr S T ∧ PQ b law n N i o l 0 1 V1 v T) := by
        refine zk_eq (fun c7 => ?_) (fun c7 => zk_eq (fun c8 => ?_) (fun c8 => ?_))
        · unfold B_X4_unit_115
          refine zk_bbt (of_toInt (by omega)) ?_
          unfold B_X4_unit_132
          refine zk_bd (H.2.2.2.2.2 2004 S i o l h (Or.inl ⟨by omega, rfl⟩) (by omega)) (fun v T q => ?_)
          exact zk_gd q.2.v01 (zk_some (fun _ => q))
        · unfold B_X4_unit_115
          refine zk_bbf (fun e => c7 (by rw [e])) ?_
          unfold B_X4_unit_132
          refine zk_bd (H.2.2.2.2.2 2005 S i o l h (Or.inr ⟨by omega, rfl⟩) (by omega)) (fun v T q => ?_)
          exact zk_gd q.2.v01 (zk_some (fun _ => q))
        · refine zk_imp (x_failg 1 h) (fun v T q => fun h40 => ⟨q.2.1, PO.ft q.1 q.2 (fun x hx => ?_)⟩)
          have n40 := h.ns h40 (by decide) (by decide) (by decide) (by decide)
          obtain ⟨env, D, q⟩ := x
          obtain ⟨hD, hq⟩ := hx
          dsimp only at hD hq
          match D, hD with
          | D + 1, _ =>
            show nU b law env (Wk b law env D) q o = _
            by_cases yl : 97 ≤ b (tpos b i) ∧ b (tpos b i) ≤ 122
            · rw [kd_lt yl] at hv
              unfold nU
              rw [hq, if_neg nd, nmv_no (by rw [← hv]; rw [ht] at hno; exact hno), if_neg (by decide), if_neg (fun e => c7 (by rw [hv, e, l267]; decide)), if_neg (fun e => c8 (by rw [hv, e, l268]; decide)), nB_f n40, l1]
            · rw [nU_sign htx (by rw [hq]; exact nd) (by rw [hq]; exact yl), hq, nB_f n40, l1]
      refine zk_eq (fun c7 => u_paren H h (by omega) (by omega)) (fun c7 => zk_imp bad (fun v T q => q (by omega)))
    · have hin : 270 ≤ v36.toInt ∧ v36.toInt ≤ t.toInt := by omega
      have h276 : t.toInt ≤ 276 := by rw [ht]; split <;> decide
      obtain ⟨wk1, yl, nx⟩ := h.wd (c := v36.toInt) (by omega) (by omega)
      have hi : i < N := h.lt (by omega)
      refine zk_iv fun x29 e29 => ?_
      have g29 : x29.toInt = 1000 + v36.toInt := by rw [e29, ti_add (by omega) (by omega), l1000]
      refine zk_imp (x_emitat x29 h hi) (fun v T q => ?_)
      obtain ⟨q1, F, hR⟩ := q
      refine ⟨F, Or.inr ⟨q1, i + 1, [x29], hR, by omega, by show 1 + i ≤ i + 1 + 0; omega, fun x hx => ?_⟩⟩
      obtain ⟨env, D, q⟩ := x
      obtain ⟨hD, hq⟩ := hx
      dsimp only at hD hq
      refine ⟨rn b 97 122 (tpos b i), nme env v36.toInt, ?_, nx.symm, trivial, fun st g => ?_⟩
      · match D, hD with
        | D + 1, _ =>
          show nU b law env (Wk b law env D) q o = _
          have hm : nmv b law (tpos b i) = v36.toInt - 270 := by rw [nmv_wkd, wk1, if_pos (by rw [← ht]; exact hin)]
          unfold nU
          rw [hq, if_neg nd, hm, if_pos (by omega), nme_env hin.1 (by omega)]
      · show xs env [x29] (st, g) = _
        rw [xs_one, xw_nam g29 (by omega) (by omega)]
  refine zk_bb (fun c2 => J 275 ?_) (fun c2 => J 276 ?_)
  · rw [hlaw, c2]; decide
  · rw [hlaw, if_pos (decide_eq_true c2)]; decide
end RUB
