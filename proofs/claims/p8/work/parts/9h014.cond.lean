/-! the reader, exactly: tests and conditions -/
section CON
variable {b : Nat → Int} {law : Bool} {n N i o d : Nat} {l : List Int32} {S T : fS} {R : Nat → Int32 → fS → Option (Int32 × fS)}
theorem nT_not {r : Nat → Nat → Nat → RS7} {p : Nat} (h : wc b (sk b p) = 10631) (h6 : ¬ o = 6) : nT7 b r p o = eb (r 3 (sk b p + 3) (o + 1)) (fun q v => .ok (q, if v = 0 then 1 else 0)) := by
  unfold nT7
  rw [if_pos h, if_neg h6]
  cases r 3 (sk b p + 3) (o + 1) <;> rfl
theorem nT_not6 {r : Nat → Nat → Nat → RS7} {p : Nat} (h : wc b (sk b p) = 10631) (h6 : o = 6) : nT7 b r p o = .error (3, sk b p) := by
  unfold nT7
  rw [if_pos h, if_pos h6]
theorem nT_br {r : Nat → Nat → Nat → RS7} {p : Nat} (h : ¬ wc b (sk b p) = 10631) (h2 : b (sk b p) = 91) (h6 : ¬ o = 6) : nT7 b r p o = eb (r 5 (sk b p + 1) (o + 1)) (fun q v => if b (sk b q) ≠ 93 then .error (1, sk b q) else .ok (sk b q + 1, v)) := by
  unfold nT7
  rw [if_neg h, if_pos h2, if_neg h6]
  cases r 5 (sk b p + 1) (o + 1) <;> rfl
theorem nT_br6 {r : Nat → Nat → Nat → RS7} {p : Nat} (h : ¬ wc b (sk b p) = 10631) (h2 : b (sk b p) = 91) (h6 : o = 6) : nT7 b r p o = .error (3, sk b p) := by
  unfold nT7
  rw [if_neg h, if_pos h2, if_pos h6]
theorem nT_el {r : Nat → Nat → Nat → RS7} {p : Nat} (h : ¬ wc b (sk b p) = 10631) (h2 : ¬ b (sk b p) = 91) : nT7 b r p o = eb (r 2 (sk b p) o) (fun q v => nQ b r (sk b q) o v) := by
  unfold nT7
  rw [if_neg h, if_neg h2]
  cases r 2 (sk b p) o <;> rfl
theorem nQ_ok {r : Nat → Nat → Nat → RS7} {q : Nat} {a : Int32} (h : b q = 60 ∨ b q = 62 ∨ b q = 61) : nQ b r q o a = eb (r 2 (q + 1) o) (fun p v => .ok (p, cmp7 (b q) a v)) := by
  unfold nQ
  rw [if_pos h]
  cases r 2 (q + 1) o <;> rfl
theorem nQ_no {r : Nat → Nat → Nat → RS7} {q : Nat} {a : Int32} (h : ¬ (b q = 60 ∨ b q = 62 ∨ b q = 61)) : nQ b r q o a = .error (1, q) := by
  unfold nQ
  rw [if_neg h]
theorem V2n (v : Int32) : V2 (if v = 0 then 1 else 0) := by
  by_cases c : v = 0
  · rw [if_pos c]; exact Or.inr rfl
  · rw [if_neg c]; exact Or.inl rfl
/-- not: the word stands at token i -/
theorem u_denial (H : HC b law n N R d) (h : RD S b law n N i o l) (hk : kd b (tpos b i) = 266) (hd : 3 * (6 - o) + 1 ≤ d) : zk (N_X4_denial R S) (fun v T => FX Wr S T ∧ PQ b law n N i o l 3 4 V2 v T) := by
  have l0 : (0 : Int32).toInt = 0 := by decide
  have l1 : (1 : Int32).toInt = 1 := by decide
  have l3 : (3 : Int32).toInt = 3 := by decide
  have l266 : (266 : Int32).toInt = 266 := by decide
  have htx := h.tx
  obtain ⟨wk1, yl, nx⟩ := h.wd hk (by decide)
  have hw := (wkd_in wk1).2.2.2.2.2.2.1 rfl
  have h3 : rn b 97 122 (tpos b i) = tpos b i + 3 := by
    have a := ((wc_cd (b := b) (q := tpos b i) (r := 6) (by decide)).1 hw).1
    have c := rn_le (b := b) (lo := 97) (hi := 122) (tpos b i)
    have e : rsN.getD 6 0 = 3 := rfl
    omega
  rw [h3] at nx
  unfold N_X4_denial
  refine zk_bd (x_opened 266 (by decide) h) (fun v1 S2 q => ?_)
  rcases q with ⟨q1, q2⟩ | ⟨q1, q2, q3, q4, q5, q6⟩
  · refine zk_bbt (of_toInt (by rw [q1]; exact l0.symm)) ?_
    rcases q2 with ⟨q2, _⟩ | ⟨_, q3, q4⟩
    · exact absurd hk (by rw [l266] at q2; exact q2)
    · refine zk_some ⟨q4.1, PO.ft l0 q4 (fun x hx => ?_)⟩
      obtain ⟨env, D, q⟩ := x
      obtain ⟨hD, hq⟩ := hx
      dsimp only at hD hq
      match D, hD with
      | D + 1, _ =>
        show nT7 b (Wk b law env D) q o = _
        rw [nT_not6 (by rw [hq]; exact hw) q3, hq, l3]
  · refine zk_bbf (fun e => by rw [e] at q1; omega) ?_
    refine zk_bd (H.2.1 0 S2 (i + 1) (o + 1) l q6 (by omega)) (fun v5 S6 u => ?_)
    obtain ⟨F6, P6⟩ := u
    refine zk_eq (fun c => ?_) (fun c => ?_)
    · refine zk_some ⟨q5.tr F6, PO.fw (by omega) P6 (fun x hx => ?_) l0⟩
      obtain ⟨env, D, q⟩ := x
      obtain ⟨hD, hq⟩ := hx
      dsimp only at hD hq
      match D, hD with
      | D + 1, hD =>
        refine ⟨(env, D, tpos b i + 3), ⟨by dsimp only; omega, nx.symm⟩, fun e he => ?_⟩
        show nT7 b (Wk b law env D) q o = _
        rw [nT_not (by rw [hq]; exact hw) (by omega), hq]
        exact eb_e he
    · obtain ⟨i', m, t1, t2, t3, t4⟩ := P6.t (by omega)
      refine zk_iv fun x9 e9 => ?_
      have g9 : x9.toInt = ((o + 1 : Nat) : Int) := by rw [e9]; exact t1.2.2.2.2.1
      refine zk_iv fun x10 e10 => ?_
      have g10 : x10.toInt = (o : Int) := by rw [e10, ti_sub (by omega) (by omega), l1]; omega
      refine zk_sv fun S11 E11 => ?_
      have m11 := t1.op g10 (by omega)
      rw [← E11] at m11
      have hl8 := h.2.2.2.2.2.2.2
      refine zk_bd (x_emit 2011 m11.2 (by rw [List.length_append]; omega)) (fun _ S13 u => ?_)
      obtain ⟨F13, h13⟩ := u
      rw [List.append_assoc] at h13
      refine zk_some ⟨((q5.tr F6).tr m11.1).tr F13, Or.inr ⟨l1, i', m ++ [2011], h13, by omega, by rw [List.length_append]; show m.length + 1 + i ≤ i' + 0; omega, fun x hx => ?_⟩⟩
      obtain ⟨env, D, q⟩ := x
      obtain ⟨hD, hq⟩ := hx
      dsimp only at hD hq
      match D, hD with
      | D + 1, hD =>
        obtain ⟨p2, y, w1, w2, _, w4⟩ := t4 (env, D, tpos b i + 3) ⟨by dsimp only; omega, nx.symm⟩
        have w4 : ∀ (st : List Int32) (g : Int32 × Int32 × Int32), xs env m (st, g) = (y :: st, g) := w4
        refine ⟨p2, if y = 0 then 1 else 0, ?_, w2, V2n y, fun st g => ?_⟩
        · show nT7 b (Wk b law env D) q o = _
          rw [nT_not (by rw [hq]; exact hw) (by omega), hq]
          exact eb_k w1
        · show xs env (m ++ [2011]) (st, g) = _
          rw [xs_app, w4, xs_one, xw_not]
theorem cmp_V2 (s : Int) (x y : Int32) : V2 (cmp7 s x y) := by
  unfold cmp7
  by_cases c1 : s = 60
  · rw [if_pos c1]
    by_cases c : x < y
    · rw [if_pos c]; exact Or.inr rfl
    · rw [if_neg c]; exact Or.inl rfl
  · rw [if_neg c1]
    by_cases c2 : s = 62
    · rw [if_pos c2]
      by_cases c : y < x
      · rw [if_pos c]; exact Or.inr rfl
      · rw [if_neg c]; exact Or.inl rfl
    · rw [if_neg c2]
      by_cases c : x = y
      · rw [if_pos c]; exact Or.inr rfl
      · rw [if_neg c]; exact Or.inl rfl
theorem cmp_jn (c : Int32) (s : Int) (x y : Int32) (h : (s = 60 ∧ c = 2006) ∨ (s = 61 ∧ c = 2008) ∨ (s = 62 ∧ c = 2007)) : jn c x y = cmp7 s x y := by
  rcases h with ⟨rfl, rfl⟩ | ⟨rfl, rfl⟩ | ⟨rfl, rfl⟩
  · show (if y ≤ x then (0 : Int32) else 1) = if x < y then 1 else 0
    by_cases c : x < y
    · rw [if_pos c, if_neg (fun c2 => by have := lt_toInt c; have := le_toInt c2; omega)]
    · rw [if_neg c, if_pos (Int32.le_iff_toInt_le.2 (nlt_toInt c))]
  · rfl
  · show (if x ≤ y then (0 : Int32) else 1) = if y < x then 1 else 0
    by_cases c : y < x
    · rw [if_pos c, if_neg (fun c2 => by have := lt_toInt c; have := le_toInt c2; omega)]
    · rw [if_neg c, if_pos (Int32.le_iff_toInt_le.2 (nlt_toInt c))]
theorem u_claim (H : HC b law n N R d) (h : RD S b law n N i o l) (hd : 3 * (6 - o) + 3 ≤ d) : zk (N_X4_claim R S) (fun v T => FX Wr S T ∧ PQ b law n N i o l 3 4 V2 v T) := by
  have l0 : (0 : Int32).toInt = 0 := by decide
  have l1 : (1 : Int32).toInt = 1 := by decide
  have l3 : (3 : Int32).toInt = 3 := by decide
  have l91 : (91 : Int32).toInt = 91 := by decide
  have l93 : (93 : Int32).toInt = 93 := by decide
  have l266 : (266 : Int32).toInt = 266 := by decide
  have htx := h.tx
  have hN := h.N300
  unfold N_X4_claim
  refine zk_bd (x_here h) (fun v1 S2 q => ?_)
  obtain ⟨rfl, hv⟩ := q
  refine zk_eq (fun c => ?_) (fun c => ?_)
  · refine zk_bd (H.2.2.1 0 S i o l h (by omega) (by omega)) (fun v T q => ?_)
    exact zk_gd q.2.v01 (zk_some q)
  · have nw : ¬ wc b (tpos b i) = 10631 := h.nw (k := 266) (by omega) (by decide) (by decide)
    refine zk_bd (x_here h) (fun v5 S6 q => ?_)
    obtain ⟨rfl, hv5⟩ := q
    refine zk_eq (fun c5 => ?_) (fun c5 => ?_)
    · have hk : kd b (tpos b i) = 91 := by omega
      obtain ⟨s1, s2⟩ := h.sg hk (by decide) (by decide) (by decide) (by decide)
      refine zk_bd (x_opened 91 (by decide) h) (fun v31 S32 q => ?_)
      rcases q with ⟨q1, q2⟩ | ⟨q1, q2, q3, q4, q5, q6⟩
      · refine zk_bbt (of_toInt (by rw [q1]; exact l0.symm)) ?_
        rcases q2 with ⟨q2, _⟩ | ⟨_, q3, q4⟩
        · exact absurd hk (by rw [l91] at q2; exact q2)
        · refine zk_some ⟨q4.1, PO.ft l0 q4 (fun x hx => ?_)⟩
          obtain ⟨env, D, q⟩ := x
          obtain ⟨hD, hq⟩ := hx
          dsimp only at hD hq
          match D, hD with
          | D + 1, _ =>
            show nT7 b (Wk b law env D) q o = _
            rw [nT_br6 (by rw [hq]; exact nw) (by rw [hq]; exact s1) q3, hq, l3]
      · refine zk_bbf (fun e => by rw [e] at q1; omega) ?_
        refine zk_bd (H.1 0 S32 (i + 1) (o + 1) l q6 (by omega)) (fun v35 S36 u => ?_)
        obtain ⟨F36, P36⟩ := u
        refine zk_eq (fun c => ?_) (fun c => ?_)
        · refine zk_some ⟨q5.tr F36, PO.fw (by omega) P36 (fun x hx => ?_) l0⟩
          obtain ⟨env, D, q⟩ := x
          obtain ⟨hD, hq⟩ := hx
          dsimp only at hD hq
          match D, hD with
          | D + 1, hD =>
            refine ⟨(env, D, tpos b i + 1), ⟨by dsimp only; omega, s2.symm⟩, fun e he => ?_⟩
            show nT7 b (Wk b law env D) q o = _
            rw [nT_br (by rw [hq]; exact nw) (by rw [hq]; exact s1) (by omega), hq]
            exact eb_e he
        · obtain ⟨i', m, t1, t2, t3, t4⟩ := P36.t (by omega)
          refine zk_bd (x_closed 93 (by decide) t1) (fun v39 S40 u => ?_)
          rcases u with ⟨u1, u2, u3⟩ | ⟨u1, u2, u3, u4, u5⟩
          · refine zk_bbt (of_toInt (by rw [u1]; exact l0.symm)) ?_
            rw [l93] at u2
            have nb := t1.ns u2 (by decide) (by decide) (by decide) (by decide)
            refine zk_some ⟨(q5.tr F36).tr u3.1, PO.ft l0 u3 (fun x hx => ?_)⟩
            obtain ⟨env, D, q⟩ := x
            obtain ⟨hD, hq⟩ := hx
            dsimp only at hD hq
            match D, hD with
            | D + 1, hD =>
              obtain ⟨p2, y, w1, w2, _, _⟩ := t4 (env, D, tpos b i + 1) ⟨by dsimp only; omega, s2.symm⟩
              show nT7 b (Wk b law env D) q o = _
              rw [nT_br (by rw [hq]; exact nw) (by rw [hq]; exact s1) (by omega), hq, eb_k w1, w2, if_pos nb, l1]
          · refine zk_bbf (fun e => by rw [e] at u1; omega) ?_
            rw [l93] at u2
            obtain ⟨c1, c2⟩ := t1.sg u2 (by decide) (by decide) (by decide) (by decide)
            refine zk_some ⟨(q5.tr F36).tr u4, Or.inr ⟨l1, i' + 1, m, u5, by omega, by omega, fun x hx => ?_⟩⟩
            obtain ⟨env, D, q⟩ := x
            obtain ⟨hD, hq⟩ := hx
            dsimp only at hD hq
            match D, hD with
            | D + 1, hD =>
              obtain ⟨p2, y, w1, w2, w3, w4⟩ := t4 (env, D, tpos b i + 1) ⟨by dsimp only; omega, s2.symm⟩
              refine ⟨tpos b i' + 1, y, ?_, c2.symm, w3, w4⟩
              show nT7 b (Wk b law env D) q o = _
              rw [nT_br (by rw [hq]; exact nw) (by rw [hq]; exact s1) (by omega), hq, eb_k w1, w2, if_neg (by rw [c1]; decide)]
    · have n91 : ¬ b (tpos b i) = 91 := h.ns (c := 91) (by omega) (by decide) (by decide) (by decide) (by decide)
      refine zk_bd (H.2.2.2.1 0 S i o l h (by omega)) (fun v9 S10 u => ?_)
      obtain ⟨F10, P10⟩ := u
      have skq : sk b (tpos b i) = tpos b i := tp_sk htx i
      refine zk_eq (fun c9 => ?_) (fun c9 => ?_)
      · refine zk_some ⟨F10, PO.fw (by omega) P10 (fun x hx => ?_) l0⟩
        obtain ⟨env, D, q⟩ := x
        obtain ⟨hD, hq⟩ := hx
        dsimp only at hD hq
        match D, hD with
        | D + 1, hD =>
          refine ⟨(env, D, tpos b i), ⟨by dsimp only; omega, skq⟩, fun e he => ?_⟩
          show nT7 b (Wk b law env D) q o = _
          rw [nT_el (by rw [hq]; exact nw) (by rw [hq]; exact n91), hq]
          exact eb_e he
      · obtain ⟨i', m, t1, t2, t3, t4⟩ := P10.t (by omega)
        refine zk_bd (x_comparison t1) (fun v13 S14 u => ?_)
        obtain ⟨rfl, u⟩ := u
        by_cases hc : kd b (tpos b i') = 60 ∨ kd b (tpos b i') = 61 ∨ kd b (tpos b i') = 62
        · obtain ⟨s0, hs0⟩ : ∃ s0 : Int, kd b (tpos b i') = s0 := ⟨_, rfl⟩
          obtain ⟨c1, c2⟩ := t1.sg (c := s0) hs0 (by omega) (by omega) (by omega) (by omega)
          have hj : (b (tpos b i') = 60 ∧ v13 = 2006) ∨ (b (tpos b i') = 61 ∧ v13 = 2008) ∨ (b (tpos b i') = 62 ∧ v13 = 2007) := by
            rw [c1, ← hs0]
            rcases u with u | u | u | u
            · exact Or.inl u
            · exact Or.inr (Or.inl u)
            · exact Or.inr (Or.inr u)
            · omega
          have hp : 2000 ≤ v13.toInt ∧ v13.toInt < 2011 := by
            rcases hj with ⟨_, e⟩ | ⟨_, e⟩ | ⟨_, e⟩ <;> rw [e] <;> decide
          have lm1 : (-1 : Int32).toInt = -1 := by decide
          refine zk_eq (fun e => absurd e (by omega)) (fun _ => ?_)
          have hi' : i' < N := t1.lt (by omega)
          refine zk_iv fun x17 e17 => ?_
          have g17 : x17.toInt = (i' : Int) := by rw [e17]; exact t1.2.2.1
          refine zk_iv fun x18 e18 => ?_
          have g18 : x18.toInt = ((i' + 1 : Nat) : Int) := by rw [e18, ti_add (by omega) (by omega), l1]; omega
          refine zk_sv fun S19 E19 => ?_
          have m19 := t1.mv g18 (by omega) (by omega)
          rw [← E19] at m19
          refine zk_bd (H.2.2.2.1 0 S19 (i' + 1) o (l ++ m) m19.2 (by omega)) (fun v20 S21 u => ?_)
          obtain ⟨F21, P21⟩ := u
          have FG := (F10.tr m19.1).tr F21
          have W : ∀ (env : Nat → Int32) (D q : Nat), 3 * (6 - o) + 4 ≤ D + 1 → sk b q = tpos b i → ∃ y : Int32, nT7 b (Wk b law env D) q o = eb (Wk b law env D 2 (tpos b i' + 1) o) (fun p v => .ok (p, cmp7 (b (tpos b i')) y v)) ∧ ∀ (st : List Int32) (g : Int32 × Int32 × Int32), xs env m (st, g) = (y :: st, g) := by
            intro env D q hD hq
            obtain ⟨p2, y, w1, w2, _, w4⟩ := t4 (env, D, tpos b i) ⟨by dsimp only; omega, skq⟩
            refine ⟨y, ?_, w4⟩
            rw [nT_el (by rw [hq]; exact nw) (by rw [hq]; exact n91), hq, eb_k w1, w2, nQ_ok (by omega)]
          refine zk_eq (fun c => ?_) (fun c => ?_)
          · refine zk_some ⟨FG, PO.fw (by omega) P21 (fun x hx => ?_) l0⟩
            obtain ⟨env, D, q⟩ := x
            obtain ⟨hD, hq⟩ := hx
            dsimp only at hD hq
            match D, hD with
            | D + 1, hD =>
              refine ⟨(env, D, tpos b i' + 1), ⟨by dsimp only; omega, c2.symm⟩, fun e he => ?_⟩
              obtain ⟨y, w1, w2⟩ := W env D q hD hq
              show nT7 b (Wk b law env D) q o = _
              rw [w1]
              exact eb_e he
          · obtain ⟨j, m2, r1, r2, r3, r4⟩ := P21.t (by omega)
            have hl8 := h.2.2.2.2.2.2.2
            refine zk_bd (x_emit v13 r1 (by rw [List.length_append, List.length_append]; omega)) (fun _ S25 u => ?_)
            obtain ⟨F25, h25⟩ := u
            rw [List.append_assoc, List.append_assoc] at h25
            refine zk_some ⟨FG.tr F25, Or.inr ⟨l1, j, m ++ (m2 ++ [v13]), h25, by omega, ?_, fun x hx => ?_⟩⟩
            · rw [List.length_append, List.length_append]
              show m.length + (m2.length + 1) + i ≤ j + 0
              omega
            · obtain ⟨env, D, q⟩ := x
              obtain ⟨hD, hq⟩ := hx
              dsimp only at hD hq
              match D, hD with
              | D + 1, hD =>
                obtain ⟨y, w1, w2⟩ := W env D q hD hq
                obtain ⟨p3, y3, k1, k2, _, k4⟩ := r4 (env, D, tpos b i' + 1) ⟨by dsimp only; omega, c2.symm⟩
                have k4 : ∀ (st : List Int32) (g : Int32 × Int32 × Int32), xs env m2 (st, g) = (y3 :: st, g) := k4
                refine ⟨p3, cmp7 (b (tpos b i')) y y3, ?_, k2, cmp_V2 _ _ _, fun st g => ?_⟩
                · show nT7 b (Wk b law env D) q o = _
                  rw [w1]
                  exact eb_k k1
                · show xs env (m ++ (m2 ++ [v13])) (st, g) = _
                  rw [xs_app, w2, xs_app, k4, xs_one, xw_jn hp.1 hp.2, cmp_jn v13 (b (tpos b i')) y y3 hj]
        · have hv13 : v13 = -1 := by
            rcases u with u | u | u | u
            · exact absurd (Or.inl u.1) hc
            · exact absurd (Or.inr (Or.inl u.1)) hc
            · exact absurd (Or.inr (Or.inr u.1)) hc
            · exact u.2.2.2
          refine zk_bbt hv13 ?_
          have n60 := t1.ns (c := 60) (fun q => hc (Or.inl q)) (by decide) (by decide) (by decide) (by decide)
          have n61 := t1.ns (c := 61) (fun q => hc (Or.inr (Or.inl q))) (by decide) (by decide) (by decide) (by decide)
          have n62 := t1.ns (c := 62) (fun q => hc (Or.inr (Or.inr q))) (by decide) (by decide) (by decide) (by decide)
          refine zk_imp (x_failg 1 t1) (fun v T u => ⟨F10.tr u.2.1, PO.ft u.1 u.2 (fun x hx => ?_)⟩)
          obtain ⟨env, D, q⟩ := x
          obtain ⟨hD, hq⟩ := hx
          dsimp only at hD hq
          match D, hD with
          | D + 1, hD =>
            obtain ⟨p2, y, w1, w2, _, _⟩ := t4 (env, D, tpos b i) ⟨by dsimp only; omega, skq⟩
            show nT7 b (Wk b law env D) q o = _
            rw [nT_el (by rw [hq]; exact nw) (by rw [hq]; exact n91), hq, eb_k w1, w2, nQ_no (by omega), l1]
end CON
