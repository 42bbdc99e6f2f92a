/-! when -/
section WHN
variable {S T V : fS} {p p2 : Int32} {c t n : Nat}
theorem oN1 {n : Nat} (h : n ≤ 300) : Int32.ofNat n + 1 = Int32.ofNat (n + 1) := by
  have l1 : (1 : Int32).toInt = 1 := by decide
  have a : (Int32.ofNat n).toInt = (n : Int) := Int32.toInt_ofNat_of_lt (by omega)
  have b : (Int32.ofNat (n + 1)).toInt = ((n + 1 : Nat) : Int) := Int32.toInt_ofNat_of_lt (by omega)
  refine of_toInt ?_
  rw [ti_add (by rw [a, l1]; omega) (by rw [a, l1]; omega), a, b, l1]
  omega
/-- the names n tries ahead -/
def envn (S : fS) (n : Int32) (i : Nat) : Int32 := if i = 0 then ge S 40 0 35 + n else if i = 1 then ge S 40 0 36 + n else if i = 2 then ge S 40 0 37 + n * ge S 40 0 32 else if i = 3 then ge S 40 0 38 else if i = 4 then ge S 40 0 33 else 0
def PWq (S : fS) (c t n : Nat) : Prop := ∃ g : G3, TPq S (t : Int) (envn S (Int32.ofNat n)) g ∧ oq S c (clm g).1 (clm g).2.1 = 5
theorem PWq.no {g : G3} (h : TPq S (t : Int) (envn S (Int32.ofNat n)) g) (ho : ¬ oq S c (clm g).1 (clm g).2.1 = 5) : ¬ PWq S c t n := fun ⟨g', h', ho'⟩ => ho (by rw [h.un h']; exact ho')
theorem SRq.envnE (h : SRq S T) (n : Int32) : envn T n = envn S n := funext fun i => by unfold envn; rw [h 40 0 35 (by decide), h 40 0 36 (by decide), h 40 0 37 (by decide), h 40 0 32 (by decide), h 40 0 38 (by decide), h 40 0 33 (by decide)]
theorem SRq.PWE (h : SRq S T) : PWq T c t n = PWq S c t n := by
  refine propext ⟨fun ⟨g, a, b⟩ => ⟨g, ?_, ?_⟩, fun ⟨g, a, b⟩ => ⟨g, ?_, ?_⟩⟩
  · rw [h.envnE] at a; exact h.TPr a
  · rw [h.oqE] at b; exact b
  · rw [h.envnE]; exact h.TP a
  · rw [h.oqE]; exact b
/-- the names of the probe, n tries ahead -/
def NN (S V : fS) (n : Nat) : Prop := ge V 25 0 4 = ge S 40 0 35 + Int32.ofNat n ∧ ge V 25 0 5 = ge S 40 0 36 + Int32.ofNat n ∧ ge V 25 0 6 = ge S 40 0 37 + Int32.ofNat n * ge S 40 0 32 ∧ ge V 25 0 7 = ge S 40 0 38 ∧ ge V 25 0 8 = ge S 40 0 33
theorem NN.env (h : NN S V n) : ∀ i : Nat, i < 6 → envT V 0 0 i = envn S (Int32.ofNat n) i := by
  obtain ⟨h0, h1, h2, h3, h4⟩ := h
  intro i hi
  have : i = 0 ∨ i = 1 ∨ i = 2 ∨ i = 3 ∨ i = 4 ∨ i = 5 := by omega
  rcases this with rfl | rfl | rfl | rfl | rfl | rfl
  · exact h0
  · exact h1
  · exact h2
  · exact h3
  · exact h4
  · rfl
theorem NN.fx {W : Nat → Nat → Nat → Bool} (h : NN S V n) (F : FX W V T) (hw : ∀ j : Nat, W 25 0 j = false) : NN S T n := by
  unfold NN
  rw [F.1 25 0 4 (hw _), F.1 25 0 5 (hw _), F.1 25 0 6 (hw _), F.1 25 0 7 (hw _), F.1 25 0 8 (hw _)]
  exact h
theorem NX.nn (h : NX S V) (N : NBq S 0) : NN S V 1 := by
  obtain ⟨h0, h1, h2, h3, h4⟩ := h
  obtain ⟨n3, n4, n7, n8, n9, n10⟩ := N
  refine ⟨by rw [h0, n7]; rfl, by rw [h1, n8]; rfl, ?_, by rw [h3, n10], by rw [h4, n4]⟩
  rw [h2, n9, n3]
  show _ = _ + (1 : Int32) * _
  rw [Int32.one_mul]
/-- a program's code on scratch -/
theorem CO_at {W : Nat → Nat → Nat → Bool} (hP : PGq S) (F : FX W S V) (ht : (t : Int) < (ge S 40 0 13).toInt) (h44 : ∀ t : Nat, W 44 0 t = false) (h43 : ∀ t k : Nat, W 43 t k = false) (h30 : ∀ c j : Nat, W 30 c j = false) : COq V (t : Int) (gr V 13 0 t) := by
  obtain ⟨m, m6, _, m13, pg⟩ := hP.1
  obtain ⟨c, gc, hR⟩ := pg t (by omega)
  exact Or.inr ⟨t, c, rfl, by omega, by rw [gr_fx F]; exact gc, hR.fx F (h44 t) (h43 t) (h30 c)⟩
theorem y_ahead (hP : PGq S) (F : FX (WscR 0) S V) (ht : (t : Int) < (ge S 40 0 13).toInt) (hN : NN S V n) : pk (F_X3_run (gr V 13 0 t) 0 0 V) (fun _ T => FX Wmq V T ∧ ∃ (st : List Int32) (g : G3), MR T st g ∧ TPq S (t : Int) (envn S (Int32.ofNat n)) g) := by
  have sV : SRq S V := F.sr Ws_r
  refine pq_imp (y_runq (CO_at hP F ht (fun _ => rfl) (fun _ _ => rfl) (fun _ _ => rfl)) 0) (fun _ T q => ?_)
  obtain ⟨F1, st, g, m, tp⟩ := q
  exact ⟨F1, st, g, m, sV.TPr (tp.cg hN.env)⟩
theorem y6_when (h : IV S) : pk (F_X6_when p p2 S) (fun r T => FX (WscR 0) S T ∧ ((r.1 = 2 ∧ ¬ ic p) ∨ (r.1 = 1 ∧ ic p ∧ ¬ ie p2 (ge S 40 0 13)) ∨ (r.1 = 0 ∧ ic p ∧ ie p2 (ge S 40 0 13) ∧ ∃ c t : Nat, p.toInt = (c : Int) ∧ p2.toInt = (t : Int) ∧ FST (PWq S c t) 60 r.2))) := by
  have l60 : (60 : Int32).toInt = 60 := by decide
  have l1 : (1 : Int32).toInt = 1 := by decide
  obtain ⟨H, hO, B, N, hP, hI, hs, _⟩ := h.2.2.2.1
  have hP' := hP
  obtain ⟨⟨m, m6, m5, m13, _⟩, _⟩ := hP'
  unfold F_X6_when
  refine pg_cell (fun hc => ?_) (fun hc => ⟨FX.rf, Or.inl ⟨rfl, hc⟩⟩)
  refine pq_iv fun x35 e35 => pq_iv fun x36 e36 => ?_
  have g36 : x36.toInt = (m : Int) - 1 := by rw [e36, sub1 (by rw [e35, m5]; omega), e35, m5]
  have ee : ((0 : Int32).toInt ≤ p2.toInt ∧ p2.toInt ≤ x36.toInt) ↔ ie p2 (ge S 40 0 13) := by
    unfold ie
    rw [l0', g36, m13]
    omega
  refine pg_w (fun hc2 => pg_n1 ?_) (fun hc2 => pg_n0 ⟨FX.rf, Or.inr (Or.inl ⟨rfl, hc, fun q => hc2 (ee.2 q)⟩)⟩)
  have h2 := ee.1 hc2
  obtain ⟨c, hp, hc64⟩ := ic_nat hc
  obtain ⟨t, hp2⟩ : ∃ t : Nat, p2.toInt = (t : Int) := ⟨p2.toInt.toNat, by have := h2.1; omega⟩
  have ht : (t : Int) < (ge S 40 0 13).toInt := by rw [← hp2]; exact h2.2
  refine pq_bd y_next (fun _ V q => ?_)
  obtain ⟨F1, n1⟩ := q
  have s1 := F1.sr Ws_r
  have B1 : BVq V 0 := s1.BV B (fun a j ha => F1.1 a 0 j (Ws_l a 0 j ha))
  refine pq_bd (y_look (s1.HV H) B1 hp hc64 (by rw [s1 40 0 30 (by decide)]; exact hO)) (fun _ X q => ?_)
  obtain ⟨FL, LX⟩ := q
  have nX : NN S X 1 := by
    have z := n1.nn N
    unfold NN
    rw [FL.1 25 0 4 rfl, FL.1 25 0 5 rfl, FL.1 25 0 6 rfl, FL.1 25 0 7 rfl, FL.1 25 0 8 rfl]
    exact z
  refine pq_lp (fun (y : Int32 × Int32) V => y.1 = p2 ∧ FX (WscR 0) S V ∧ LOq S V 0 c ∧ ∃ n : Nat, y.2.toInt = (n : Int) ∧ 1 ≤ n ∧ n ≤ 61 ∧ NN S V n ∧ ∀ n' : Nat, 1 ≤ n' → n' < n → ¬ PWq S c t n') (fun _ _ (r : Nat × Int32) T => FX (WscR 0) S T ∧ ((r.1 = 2 ∧ ¬ ic p) ∨ (r.1 = 1 ∧ ic p ∧ ¬ ie p2 (ge S 40 0 13)) ∨ (r.1 = 0 ∧ ic p ∧ ie p2 (ge S 40 0 13) ∧ ∃ c t : Nat, p.toInt = (c : Int) ∧ p2.toInt = (t : Int) ∧ FST (PWq S c t) 60 r.2))) ?_ fuel (p2, 1) X ⟨rfl, F1.tr (FL.sub Wl_s), s1.LO LX, 1, l1, by omega, by omega, nX, fun n' h1 h2 => absurd h1 (by omega)⟩
  intro k hk y V hy
  obtain ⟨a2, a3⟩ := y
  obtain ⟨f1, FV, LV, n, i1, i2, i3, nV, i4⟩ := hy
  dsimp only at f1 i1
  subst f1
  unfold B_X6_when_43
  dsimp only
  refine pq_lt (fun c0 => pq_some ⟨FV, Or.inr (Or.inr ⟨rfl, hc, h2, c, t, hp, hp2, Or.inl ⟨rfl, fun n' h1 h2 => i4 n' h1 (by omega)⟩⟩)⟩) (fun c0 => ?_)
  rw [cnNq hp2]
  refine pq_gd fun _ => pq_qv fun o3 e3 => ?_
  rw [e3]
  refine pq_bd (y_ahead hP FV ht nV) (fun _ U q => ?_)
  obtain ⟨FU, st, g, mU, tp⟩ := q
  have GU : FX (WscR 0) S U := FV.tr (FU.sub Wm_s)
  have LU : LOq S U 0 c := LV.fx FU (fun _ _ => rfl) (fun _ => rfl)
  have nU : NN S U n := nV.fx FU (fun _ => rfl)
  refine pq_bd (y_grip mU) (fun v7 X q => ?_)
  obtain ⟨rfl, q7⟩ := q
  refine pq_bd (y_slip mU) (fun v10 X q => ?_)
  obtain ⟨rfl, q10⟩ := q
  have f7 : v7 = (clm g).1 := q7
  have f10 : v10 = (clm g).2.1 := q10
  rw [f7, f10]
  refine y_judge2 LU (fun v q => ?_)
  refine pq_bb (fun d => pq_some ⟨GU, Or.inr (Or.inr ⟨rfl, hc, h2, c, t, hp, hp2, Or.inr ⟨n, i2, by omega, i1, ⟨g, tp, q.symm.trans d⟩, i4⟩⟩)⟩) (fun d => ?_)
  have nP : ¬ PWq S c t n := PWq.no tp (fun e => d (q.trans e))
  refine pq_iv fun x20 e20 => pq_iv fun x21 e21 => pq_sv fun S22 E22 => ?_
  refine pq_iv fun x23 e23 => pq_iv fun x24 e24 => pq_sv fun S25 E25 => ?_
  refine pq_iv fun x26 e26 => pq_iv fun x27 e27 => pq_iv fun x28 e28 => pq_sv fun S29 E29 => pq_iv fun x30 e30 => ?_
  have F22 : FX (WscR 0) S S22 := by rw [E22]; exact GU.wr rfl
  have F25 : FX (WscR 0) S S25 := by rw [E25]; exact F22.wr rfl
  have F29 : FX (WscR 0) S S29 := by rw [E29]; exact F25.wr rfl
  have g30 : x30.toInt = a3.toInt + 1 := by rw [e30]; exact ti_inc (by omega)
  have k9 : ∀ a i j : Nat, ¬ (a = 25 ∧ i = 0 ∧ (j = 4 ∨ j = 5 ∨ j = 6)) → ge S29 a i j = ge U a i j := fun a i j hh => by
    rw [E29, ge_pu, if_neg (fun q => hh ⟨q.1, q.2.1, Or.inr (Or.inr q.2.2)⟩), E25, ge_pu, if_neg (fun q => hh ⟨q.1, q.2.1, Or.inr (Or.inl q.2.2)⟩), E22, ge_pu, if_neg (fun q => hh ⟨q.1, q.2.1, Or.inl q.2.2⟩)]
  obtain ⟨u0, u1, u2, u3, u4⟩ := nU
  have oo := oN1 (n := n) (by omega)
  refine hk (a2, x30) S29 ⟨rfl, F29, ?_, n + 1, by dsimp only; omega, by omega, by omega, ⟨?_, ?_, ?_, ?_, ?_⟩, fun n' h1 h2 => ?_⟩
  · have FZ : FX (fun a i j => Nat.beq a 25 && (Nat.beq i 0 && (Nat.beq j 4 || (Nat.beq j 5 || Nat.beq j 6)))) U S29 := by
      rw [E29]
      refine FX.wr ?_ rfl
      rw [E25]
      refine FX.wr ?_ rfl
      rw [E22]
      exact FX.rf.wr rfl
    refine LU.fx FZ (fun j hj => ?_) (fun _ => rfl)
    show (true && (true && (Nat.beq j 4 || (Nat.beq j 5 || Nat.beq j 6)))) = false
    rw [beq_out (by omega : j ≠ 4), beq_out (by omega : j ≠ 5), beq_out (by omega : j ≠ 6)]
    rfl
  · rw [E29, ge_puj (by decide), E25, ge_puj (by decide), E22, ge_pus, e21, e20, u0, Int32.add_assoc, oo]
  · rw [E29, ge_puj (by decide), E25, ge_pus, e24, e23, E22, ge_puj (by decide), u1, Int32.add_assoc, oo]
  · rw [E29, ge_pus, e28, e26, e27, E25, ge_puj (by decide), E22, ge_puj (by decide), ge_pua (by decide), ge_pua (by decide), u2, GU.1 1 0 3 rfl, N.1, ← oo, Int32.add_mul, Int32.one_mul, Int32.add_assoc]
  · rw [k9 25 0 7 (by decide)]; exact u3
  · rw [k9 25 0 8 (by decide)]; exact u4
  · by_cases d : n' = n
    · rw [d]; exact nP
    · exact i4 n' h1 (by omega)
theorem q7_when (RT : RI T) (hL : RLv T) (z : ge T 40 0 0 = 0) : pk (F_X7_when p p2 T) (fun v U => FX WX T U ∧ ((ge U 40 0 0 = 1 ∧ ¬ ic p) ∨ (ge U 40 0 0 = 2 ∧ ic p ∧ ¬ ie p2 (ge T 40 0 13)) ∨ (ge U 40 0 0 = 0 ∧ ic p ∧ ie p2 (ge T 40 0 13) ∧ ∃ c t : Nat, p.toInt = (c : Int) ∧ p2.toInt = (t : Int) ∧ FST (PWq T c t) 60 v))) := by
  have l60 : (60 : Int32).toInt = 60 := by decide
  have l1 : (1 : Int32).toInt = 1 := by decide
  obtain ⟨H, hO, B, N, hP, hI, hs, _⟩ := hL.1
  have h13 : 0 ≤ (ge T 40 0 13).toInt ∧ (ge T 40 0 13).toInt ≤ 6 := RT 40 0 13
  unfold F_X7_when
  refine pg7_0 z (pg7_cell (fun c1 => pg_b1 ?_) (fun c1 => pg_b0 ?_))
  · unfold B_X7_when_18
    refine pg7_ok z (pq_iv fun x18 e18 => pq_iv fun x19 e19 => pg7_el (n := x18) (by rw [e18]; exact h13.1) e19 (fun c2 => pg_b1 ?_) (fun c2 => pg_b0 ?_))
    · rw [e18] at c2
      unfold B_X7_when_45
      refine pg7_ok z ?_
      obtain ⟨c, hp, hc64⟩ := ic_nat c1
      obtain ⟨t, hp2⟩ : ∃ t : Nat, p2.toInt = (t : Int) := ⟨p2.toInt.toNat, by have := c2.1; omega⟩
      have ht : (t : Int) < (ge T 40 0 13).toInt := by rw [← hp2]; exact c2.2
      refine pq_lp (fun (y : Int32 × Int32 × Int32) V => y.1 = p ∧ y.2.1 = p2 ∧ RI V ∧ FX Wcn T V ∧ ∃ n : Nat, y.2.2.toInt = (n : Int) ∧ 1 ≤ n ∧ n ≤ 61 ∧ ∀ n' : Nat, 1 ≤ n' → n' < n → ¬ PWq T c t n') (fun _ _ (v : Int32) U => FX WX T U ∧ ((ge U 40 0 0 = 1 ∧ ¬ ic p) ∨ (ge U 40 0 0 = 2 ∧ ic p ∧ ¬ ie p2 (ge T 40 0 13)) ∨ (ge U 40 0 0 = 0 ∧ ic p ∧ ie p2 (ge T 40 0 13) ∧ ∃ c t : Nat, p.toInt = (c : Int) ∧ p2.toInt = (t : Int) ∧ FST (PWq T c t) 60 v))) ?_ fuel (p, p2, 1) T ⟨rfl, rfl, RT, FX.rf, 1, l1, by omega, by omega, fun n' h1 h2 => absurd h1 (by omega)⟩
      intro k hk y V hy
      obtain ⟨a1, a2, a3⟩ := y
      obtain ⟨f1, f2, RV, GV, n, i1, i2, i3, i4⟩ := hy
      dsimp only at f1 f2 i1
      subst f1
      subst f2
      unfold B_X7_when_56
      dsimp only
      refine pq_lt (fun c0 => pq_some ⟨GV.sub WX_cn, Or.inr (Or.inr ⟨by rw [GV.1 40 0 0 rfl]; exact z, c1, c2, c, t, hp, hp2, Or.inl ⟨rfl, fun n' h1 h2 => i4 n' h1 (by omega)⟩⟩)⟩) (fun c0 => ?_)
      refine pq_bd (pq_and (s_F_X7_namesOf a3 V RV).pk (q_namesOf a3)) (fun _ X q => ?_)
      obtain ⟨⟨RX, _⟩, FX0, n0, n1, n2, n3, n4, _⟩ := q
      have GX : FX Wcn T X := GV.tr (FX0.sub (fun a i j h => W45_t a i j (Wt7_c a i j h)))
      have ea : a3 = Int32.ofNat n := ofN i1 (by omega)
      rw [GV.1 40 0 35 rfl] at n0
      rw [GV.1 40 0 36 rfl] at n1
      rw [GV.1 40 0 37 rfl, GV.1 40 0 32 rfl] at n2
      rw [GV.1 40 0 38 rfl] at n3
      rw [GV.1 40 0 33 rfl] at n4
      have en : ∀ i : Nat, i < 6 → envN X 0 i = envn T (Int32.ofNat n) i := by
        intro i hi
        rw [← ea]
        have : i = 0 ∨ i = 1 ∨ i = 2 ∨ i = 3 ∨ i = 4 ∨ i = 5 := by omega
        rcases this with rfl | rfl | rfl | rfl | rfl | rfl
        · exact n0
        · exact n1
        · exact n2
        · exact n3
        · exact n4
        · rfl
      obtain ⟨g, tp⟩ := TPq.ex hP (o := (t : Int)) (by omega) (by omega) (envn T (Int32.ofNat n))
      have tX : TPq X a2.toInt (envN X 0) g := by
        rw [hp2]
        exact (tp.fx GX (fun _ => rfl) (fun _ _ => rfl)).cg (fun i hi => (en i hi).symm)
      refine pq_bd (pq_and (s_F_X7_isPaidBy a1 a2 0 X RX ⟨by omega, by omega, by omega, by omega⟩).pk (q_paid RX GX H hO tX hp hc64)) (fun v5 U q => ?_)
      obtain ⟨⟨RU, _⟩, FU, _, q⟩ := q
      have GU := GX.tr FU
      rcases q with ⟨q1, q2⟩ | ⟨q1, q2⟩
      · exact pq_bb (fun e => absurd (q1.symm.trans e) (by decide)) (fun _ => pq_some ⟨GU.sub WX_cn, Or.inr (Or.inr ⟨by rw [GU.1 40 0 0 rfl]; exact z, c1, c2, c, t, hp, hp2, Or.inr ⟨n, i2, by omega, i1, ⟨g, tp, q2⟩, i4⟩⟩)⟩)
      · refine pq_bb (fun _ => pq_iv fun x9 e9 => ?_) (fun e => absurd q1 e)
        have g9 : x9.toInt = a3.toInt + 1 := by rw [e9]; exact ti_inc (by omega)
        refine hk (a1, a2, x9) U ⟨rfl, rfl, RU, GU, n + 1, by dsimp only; omega, by omega, by omega, fun n' h1 h2 => ?_⟩
        by_cases d : n' = n
        · rw [d]; exact PWq.no tp q2
        · exact i4 n' h1 (by omega)
    · rw [e18] at c2
      unfold B_X7_when_45
      exact pg7_no z (by decide) (pq_some ⟨FX.rf.wr rfl, Or.inr (Or.inl ⟨ge_pus, c1, c2⟩)⟩)
  · unfold B_X7_when_18
    exact pg7_no z (by decide) (pq_some ⟨FX.rf.wr rfl, Or.inl ⟨ge_pus, c1⟩⟩)
theorem rk_when (h : IV S) (z : ge S 40 0 0 = 0) : RK (fun ec => if ec = 0 then 0 else if ec = 1 then 2 else 1) (F_X6_when p p2 S) (F_X7_when p p2) := by
  refine rk_mk (A := fun ec v => (ec = 2 ∧ ¬ ic p) ∨ (ec = 1 ∧ ic p ∧ ¬ ie p2 (ge S 40 0 13)) ∨ (ec = 0 ∧ ic p ∧ ie p2 (ge S 40 0 13) ∧ ∃ c t : Nat, p.toInt = (c : Int) ∧ p2.toInt = (t : Int) ∧ FST (PWq S c t) 60 v)) (C := fun t' v => (t' = 1 ∧ ¬ ic p) ∨ (t' = 2 ∧ ic p ∧ ¬ ie p2 (ge S 40 0 13)) ∨ (t' = 0 ∧ ic p ∧ ie p2 (ge S 40 0 13) ∧ ∃ c t : Nat, p.toInt = (c : Int) ∧ p2.toInt = (t : Int) ∧ FST (PWq S c t) 60 v)) h z (s_F_X6_when p p2 S h.1 h.2.1) (fun _ _ q => q.1) (y6_when h) (fun T RT F hL zT => ?_) (fun ec v t' v2 a c => ?_)
  · have s1 : SRq S T := F.sr Ws_r
    refine pq_imp (q7_when RT hL zT) (fun v U q => ⟨q.1, ?_⟩)
    have q2 := q.2
    have eo : ∀ c t : Nat, PWq T c t = PWq S c t := fun c t => funext fun n => s1.PWE
    rw [s1 40 0 13 (by decide)] at q2
    simp only [eo] at q2
    exact q2
  · rcases a with ⟨a1, a2⟩ | ⟨a1, a2, a3⟩ | ⟨a1, a2, a3, k, l, a4, a5, a6⟩ <;> rcases c with ⟨c1, c2⟩ | ⟨c1, c2, c3⟩ | ⟨c1, c2, c3, k', l', c4, c5, c6⟩
    · exact ⟨by rw [a1, c1]; rfl, fun q => by omega⟩
    · exact absurd c2 a2
    · exact absurd c2 a2
    · exact absurd a2 c2
    · exact ⟨by rw [a1, c1]; rfl, fun q => by omega⟩
    · exact absurd c3 a3
    · exact absurd a2 c2
    · exact absurd a3 c3
    · have ek : k' = k := by omega
      have el : l' = l := by omega
      rw [ek, el] at c6
      exact ⟨by rw [a1, c1]; rfl, fun _ => a6.un c6⟩
end WHN
