/-! the reference, exactly: a clause, a whole text -/
section QWK
variable {S T U : fS} {b : Nat → Int} {law : Bool} {env : Nat → Int32}
theorem wix_k {c k : Int} (h : (k = 0 ∧ c = 151162) ∨ (k = 1 ∧ c = 382984) ∨ (k = 2 ∧ c = 247690)) : wixq c = k := by
  unfold wixq
  omega
theorem wix_n {c : Int} (h1 : ¬ c = 151162) (h2 : ¬ c = 382984) (h3 : ¬ c = 247690) : wixq c = -1 := by
  unfold wixq
  omega
theorem XT.mv (RS : RI S) (hA : AK S) {p : Nat} (h : MV S T p) (x : XS S T) : XT S T := x.xt hA
theorem q_clause {cl : Nat} (RS : RI S) (hA : AK S) (ho : (ge S 40 0 5).toInt = 0) (hg : GD S b law env) (hc : (ge S 40 0 9).toInt = (cl : Int)) (h12 : cl ≤ 300) : pk (F_X7_clause S) (fun _ V => CLO V cl (nCk b law env (at7 S) cl (tg S))) := by
  have l0 : (0 : Int32).toInt = 0 := by decide
  have l1 : (1 : Int32).toInt = 1 := by decide
  have l3 : (3 : Int32).toInt = 3 := by decide
  have l12 : (12 : Int32).toInt = 12 := by decide
  have htx : TXT b := hg.1 ▸ bt_txt RS
  obtain ⟨p, hp⟩ : ∃ p : Nat, p = sk b (at7 S) := ⟨_, rfl⟩
  have W : ∀ (T : fS) (a1 a2 a3 a4 a5 : Int32), (MV S T p ∨ T = S) → pk (F_X7_isWord a1 a2 a3 a4 a5 T) (fun v U => MV S U p ∧ ((v.toInt = 1 ∧ wc b p = (wd a1 a2 a3 a4 a5).toInt) ∨ (v.toInt = 0 ∧ ¬ wc b p = (wd a1 a2 a3 a4 a5).toInt))) := by
    intro T a1 a2 a3 a4 a5 h
    rcases h with h | h
    · refine pq_imp (e_isWord a1 a2 a3 a4 a5 h.1).pk (fun v U q => ?_)
      rw [h.tx, hg.1, h.2.2, show sk b p = p from by rw [hp]; exact sk_sk htx _] at q
      exact ⟨h.tr q.1, q.2⟩
    · rw [h]
      refine pq_imp (e_isWord a1 a2 a3 a4 a5 RS).pk (fun v U q => ?_)
      rw [hg.1, ← hp] at q
      exact q
  unfold F_X7_clause
  refine pq_bd (W S _ _ _ _ _ (Or.inr rfl)) (fun v44 T1 q => ?_)
  obtain ⟨m1, q1⟩ := q
  refine pq_bd (W T1 _ _ _ _ _ (Or.inl m1)) (fun v47 T2 q => ?_)
  obtain ⟨m2, q2⟩ := q
  refine pq_bd (W T2 _ _ _ _ _ (Or.inl m2)) (fun v50 T q => ?_)
  obtain ⟨m, q3⟩ := q
  rw [show (wd 7 18 9 16 0).toInt = 151162 from by decide] at q1
  rw [show (wd 19 12 9 16 0).toInt = 382984 from by decide] at q2
  rw [show (wd 12 15 20 19 0).toInt = 247690 from by decide] at q3
  have x : XS S T := m.xs RS (by rw [hp]; exact sk_le _) (by rw [hp, ← hg.1]; exact sk_in RS _)
  have g := hg.mv RS m x
  have kt := KT9.mv m
  have ha := at7_eq m.1
  have z : ∀ v : Int32, v = 0 ↔ v.toInt = 0 := fun v => ⟨fun e => by rw [e]; exact l0, fun e => of_toInt (by rw [e, l0])⟩
  -- the word stands; not more than twelve
  have J : ∀ k : Int, FL v44 v47 v50 k → wixq (wc b p) = k → ¬ k = -1 → pk (B_X7_clause_66 v44 v47 v50 T) (fun _ V => CLO V cl (nCk b law env (at7 S) cl (tg S))) := by
    intro k hf hw hk
    unfold B_X7_clause_66 nCk
    rw [← hp, if_neg (by rw [hw]; exact hk), hw]
    refine pq_iv fun x38 e38 => ?_
    refine pq_eq (fun c => ?_) (fun c => ?_)
    · rw [if_pos (by rw [e38, kt.2, hc, l12] at c; omega)]
      refine pq_iv fun x40 e40 => ?_
      refine pq_bd (x_wrong 3 x40 m.1 (by decide)).pk (fun _ V q => ?_)
      have q9 := q.2.2.2 g.2.2
      exact q_84e ⟨by rw [q9.1]; exact l3, by rw [q9.2, e40, ← ha, m.2.2], n3z⟩
    · rw [if_neg (by rw [e38, kt.2, hc, l12] at c; omega)]
      exact q_84 hf RS (x.xt hA) ho g m.2.2 kt.1 (by rw [kt.2]; exact hc) h12
  have zz : ∀ v : Int32, v.toInt = 1 → ¬ v = 0 := fun v h e => by rw [e, l0] at h; omega
  refine pq_eq (fun c44 => ?_) (fun c44 => ?_)
  · refine pq_eq (fun c47 => ?_) (fun c47 => ?_)
    · refine pq_eq (fun c50 => ?_) (fun c50 => ?_)
      · refine pq_iv fun x56 e56 => ?_
        refine pq_bd (x_wrong 1 x56 m.1 (by decide)).pk (fun _ V q => ?_)
        have q9 := q.2.2.2 g.2.2
        unfold nCk
        rw [← hp, if_pos (wix_n (by omega) (by omega) (by omega))]
        exact q_84e ⟨by rw [q9.1]; exact l1, by rw [q9.2, e56, ← ha, m.2.2], n1z⟩
      · exact J 2 (Or.inr (Or.inr ⟨rfl, (z _).2 (by omega), (z _).2 (by omega), fun e => c50 (by rw [e])⟩)) (wix_k (by omega)) (by decide)
    · exact J 1 (Or.inr (Or.inl ⟨rfl, (z _).2 (by omega), fun e => c47 (by rw [e]), (z _).2 (by omega)⟩)) (wix_k (by omega)) (by decide)
  · exact J 0 (Or.inl ⟨rfl, fun e => c44 (by rw [e]), (z _).2 (by omega), (z _).2 (by omega)⟩) (wix_k (by omega)) (by decide)
theorem bt_ge (R : RI S) {p : Nat} (h : (p : Int) < (ge S 40 0 2).toInt) : 0 ≤ bt S p := by
  have gs := R.sz
  have hp : p ≤ 301 := by omega
  unfold bt
  rw [if_pos hp]
  unfold byv
  rw [on_toInt hp, if_pos h]
  by_cases c : (ge S 40 0 8).toInt = -1
  · rw [if_pos c]
    exact (R 41 0 _).1
  · rw [if_neg c]
    exact (R 43 _ _).1
def NMq (S : fS) (b : Nat → Int) (law : Bool) (env : Nat → Int32) : Prop := bt S = b ∧ NM S law env
theorem q_lwalks {w : Except (Int × Nat) G3} : ∀ (z : Unit) (S : fS), (RI S ∧ AK S ∧ (ge S 40 0 5).toInt = 0 ∧ ((∃ e : Int × Nat, w = .error e ∧ EFq S e) ∨ (GD S b law env ∧ ∃ (p cl f : Nat), w = nW b law env f p cl (tg S) ∧ 302 ≤ f + at7 S ∧ at7 S = sk b p ∧ (ge S 40 0 9).toInt = (cl : Int) ∧ cl ≤ at7 S ∧ at7 S ≤ 300))) → pk (lp (B_X7_walks_44) fuel z S) (fun _ T => WLO T w) := by
  have l0 : (0 : Int32).toInt = 0 := by decide
  intro z S hI
  refine pq_lp (fun _ S => RI S ∧ AK S ∧ (ge S 40 0 5).toInt = 0 ∧ ((∃ e : Int × Nat, w = .error e ∧ EFq S e) ∨ (GD S b law env ∧ ∃ (p cl f : Nat), w = nW b law env f p cl (tg S) ∧ 302 ≤ f + at7 S ∧ at7 S = sk b p ∧ (ge S 40 0 9).toInt = (cl : Int) ∧ cl ≤ at7 S ∧ at7 S ≤ 300))) (fun _ _ (_ : Int32) T => WLO T w) ?_ fuel z S hI
  clear hI
  intro k hk z S hI
  obtain ⟨RS, hA, ho, hI⟩ := hI
  have ha := at7_eq RS
  unfold B_X7_walks_44
  refine pq_iv fun x1 e1 => ?_
  rcases hI with ⟨e, hw, ef⟩ | ⟨hg, p, cl, f, hw, hf, hp, hc, hcl, h300⟩
  · refine pq_eq (fun c => ?_) (fun _ => pq_some (by rw [hw]; exact ef))
    rw [e1, ef.1] at c
    exact absurd c (by rw [l0]; exact ef.2.2)
  · have htx : TXT b := hg.1 ▸ bt_txt RS
    refine pq_eq (fun _ => ?_) (fun c => absurd (show x1.toInt = (0 : Int32).toInt by rw [e1, hg.2.2, l0]) c)
    refine pq_iv fun x3 e3 => ?_
    refine pq_iv fun x4 e4 => ?_
    obtain ⟨f', rfl⟩ : ∃ f' : Nat, f = f' + 1 := ⟨f - 1, by omega⟩
    refine pq_le (fun c => ?_) (fun c => ?_)
    · refine pq_some ?_
      rw [e3, e4] at c
      have hb : b (sk b p) = -1 := by
        rw [← hp, ← hg.1]
        by_cases d : bt S (at7 S) = -1
        · exact d
        · have := bt_lt RS (bt_sz RS d)
          omega
      rw [hw]
      unfold nW
      rw [if_pos hb]
      exact ⟨hg.2.2, rfl⟩
    · rw [e3, e4] at c
      have hb : ¬ b (sk b p) = -1 := by
        have := bt_ge RS (p := at7 S) (by omega)
        rw [← hp, ← hg.1]
        omega
      have hw2 : w = (match nCk b law env (at7 S) cl (tg S) with | .error e => .error e | .ok z => nW b law env f' z.1 (cl + 1) z.2) := by
        rw [hw]
        conv => lhs; unfold nW
        rw [if_neg hb]
        have e9 : nCk b law env p cl (tg S) = nCk b law env (at7 S) cl (tg S) := by
          unfold nCk
          rw [hp, sk_sk htx]
        rw [e9]
        cases nCk b law env (at7 S) cl (tg S) <;> rfl
      refine pq_bd (pq_and (s_F_X7_clause S RS hA (by omega)).pk (pq_and (q_clause RS hA ho hg hc (by omega)) (w_F_X7_clause (W := W8) rfl rfl rfl rfl rfl rfl rfl rfl FX.rf).go)) (fun _ T q => ?_)
      obtain ⟨cs, q, F⟩ := q
      have RT := cs.1.1
      refine pq_bd (e_blanks RT).pk (fun _ U m => ?_)
      have xm : XS T U := m.xs RT (sk_le _) (sk_in RT _)
      have ts : TS S U := cs.1.ps xm.1
      have oU : (ge U 40 0 5).toInt = 0 := by rw [ts.2.2.2.2.1]; exact ho
      refine hk () U ⟨ts.1, ts.2.2.2.1, oU, ?_⟩
      cases hn : nCk b law env (at7 S) cl (tg S) with
      | error e =>
        rw [hn] at hw2 q
        have q : EFq T e := q
        exact Or.inl ⟨e, hw2, q.of (m.2.1.1 40 0 6 rfl) (m.2.1.1 40 0 7 rfl)⟩
      | ok y =>
        rw [hn] at hw2 q
        obtain ⟨qf, qa, qt, qc⟩ := q
        have prog := cs.2 qf
        have ht := at7_eq RT
        have bT : bt T = b := (bt_fr cs.1.2.1 rfl).trans hg.1
        have gT : GD T b law env := ⟨bT, hg.2.1.nf ⟨fun i => F.1 45 0 i rfl, F.1 40 0 16 rfl⟩, qf⟩
        have gU := gT.mv RT m xm
        have kU := KT9.mv m
        rw [bT, qa] at m
        have hsz : (ge T 40 0 2).toInt = (ge S 40 0 2).toInt := by rw [cs.1.2.1.1 40 0 2 rfl]
        have hAT := cs.1.2.2.2.1.2 qf
        have gsz := RS.sz
        have y3 : y.1 ≤ 300 := by omega
        have s3 := sk_300 htx y3
        have s4 := sk_le (b := b) y.1
        refine Or.inr ⟨gU, y.1, cl + 1, f', ?_, ?_, m.2.2, by rw [kU.2]; exact qc, ?_, ?_⟩
        · rw [hw2, kU.1, qt]
        · rw [m.2.2]; omega
        · rw [m.2.2]; omega
        · rw [m.2.2]; exact s3
theorem q_walks (RS : RI S) (hN : NMq S b law env) : pk (F_X7_walks S) (fun _ T => WLO T (nW b law env 302 0 0 (0, 0, 0))) := by
  have l0 : (0 : Int32).toInt = 0 := by decide
  unfold F_X7_walks
  refine pq_sv fun S1 E1 => ?_
  refine pq_sv fun S2 E2 => ?_
  refine pq_sv fun S3 E3 => ?_
  refine pq_sv fun S4 E4 => ?_
  refine pq_sv fun S5 E5 => ?_
  refine pq_sv fun S6 E6 => ?_
  refine pq_sv fun S7 E7 => ?_
  refine pq_sv fun S8 E8 => ?_
  have R1 : RI S1 := by rw [E1]; exact RS.wr (show (0 : Int) ≤ (0 : Int32).toInt by decide) (show (0 : Int32).toInt ≤ 301 by decide)
  have R2 : RI S2 := by rw [E2]; exact R1.wr (show (0 : Int) ≤ (0 : Int32).toInt by decide) (show (0 : Int32).toInt ≤ 7 by decide)
  have R3 : RI S3 := by rw [E3]; exact R2.wf rfl
  have R4 : RI S4 := by rw [E4]; exact R3.wf rfl
  have R5 : RI S5 := by rw [E5]; exact R4.wf rfl
  have R6 : RI S6 := by rw [E6]; exact R5.wf rfl
  have R7 : RI S7 := by rw [E7]; exact R6.wf rfl
  have R8 : RI S8 := by rw [E8]; exact R7.wf rfl
  have F1 : FX W8 S S1 := by rw [E1]; exact FX.rf.wr rfl
  have F2 : FX W8 S S2 := by rw [E2]; exact F1.wr rfl
  have F3 : FX W8 S S3 := by rw [E3]; exact F2.wr rfl
  have F4 : FX W8 S S4 := by rw [E4]; exact F3.wr rfl
  have F5 : FX W8 S S5 := by rw [E5]; exact F4.wr rfl
  have F6 : FX W8 S S6 := by rw [E6]; exact F5.wr rfl
  have F7 : FX W8 S S7 := by rw [E7]; exact F6.wr rfl
  have F8 : FX W8 S S8 := by rw [E8]; exact F7.wr rfl
  have a4 : ge S8 40 0 4 = 0 := by rw [E8, ge_puj (by decide), E7, ge_puj (by decide), E6, ge_puj (by decide), E5, ge_puj (by decide), E4, ge_puj (by decide), E3, ge_puj (by decide), E2, ge_puj (by decide), E1, ge_pus]
  have a5 : ge S8 40 0 5 = 0 := by rw [E8, ge_puj (by decide), E7, ge_puj (by decide), E6, ge_puj (by decide), E5, ge_puj (by decide), E4, ge_puj (by decide), E3, ge_puj (by decide), E2, ge_pus]
  have a6 : ge S8 40 0 6 = 0 := by rw [E8, ge_puj (by decide), E7, ge_puj (by decide), E6, ge_puj (by decide), E5, ge_puj (by decide), E4, ge_puj (by decide), E3, ge_pus]
  have a9 : ge S8 40 0 9 = 0 := by rw [E8, ge_puj (by decide), E7, ge_puj (by decide), E6, ge_puj (by decide), E5, ge_pus]
  have t8 : tg S8 = (0, 0, 0) := by
    unfold tg
    rw [E8, ge_puj (by decide), ge_puj (by decide), ge_pus, E7, ge_puj (by decide), ge_pus, E6, ge_pus]
  have gs := R8.sz
  have A8 : AK S8 := ⟨by rw [a4]; omega, fun _ => by rw [a4]; omega⟩
  have b8 : bt S8 = b := by
    rw [← hN.1]
    funext p
    unfold bt byv
    rw [F8.1 40 0 2 rfl, F8.1 40 0 8 rfl, F8.1 41 0 _ rfl, F8.1 43 _ _ rfl]
  have g8 : GD S8 b law env := ⟨b8, hN.2.nf ⟨fun i => F8.1 45 0 i rfl, F8.1 40 0 16 rfl⟩, by rw [a6]; exact l0⟩
  have htx : TXT b := b8 ▸ bt_txt R8
  have p8 : at7 S8 = 0 := at7_un R8 (by rw [a4]; exact l0)
  refine pq_bd (e_blanks R8).pk (fun _ T m => ?_)
  have xm : XS S8 T := m.xs R8 (sk_le _) (sk_in R8 _)
  have gT := g8.mv R8 m xm
  have kT := KT9.mv m
  have ts := xm.1.ts A8
  rw [b8, p8] at m
  have s3 := sk_300 htx (Nat.zero_le 300)
  refine q_lwalks () T ⟨ts.1, ts.2.2.2.1, by rw [ts.2.2.2.2.1, a5]; exact l0, Or.inr ⟨gT, 0, 0, 302, ?_, by omega, m.2.2, by rw [kT.2, a9]; exact l0, Nat.zero_le _, by rw [m.2.2]; exact s3⟩⟩
  rw [kT.1, t8]
theorem q_law38 {v : Int32} {w : Except (Int × Nat) Int32} (RT : RI T) (h : (∃ e : Int × Nat, w = .error e ∧ EFq T e) ∨ (GD T b law env ∧ w = (if b (sk b (at7 T)) = -1 then .ok v else .error (1, sk b (at7 T))))) : pk (B_X7_walksLaw_38 v T) (fun u U => LLO U u w) := by
  have l0 : (0 : Int32).toInt = 0 := by decide
  have l1 : (1 : Int32).toInt = 1 := by decide
  unfold B_X7_walksLaw_38
  refine pq_bd (e_blanks RT).pk (fun _ U m => ?_)
  refine pq_iv fun x4 e4 => ?_
  rcases h with ⟨e, hw, ef⟩ | ⟨hg, hw⟩
  · have eU : EFq U e := ef.of (m.2.1.1 40 0 6 rfl) (m.2.1.1 40 0 7 rfl)
    refine pq_eq (fun c => ?_) (fun _ => pq_gd fun _ => pq_some (by rw [hw]; exact eU))
    rw [e4, eU.1] at c
    exact absurd c (by rw [l0]; exact eU.2.2)
  · have xm : XS T U := m.xs RT (sk_le _) (sk_in RT _)
    have gU := hg.mv RT m xm
    rw [hg.1] at m
    have ha := at7_eq m.1
    refine pq_eq (fun _ => ?_) (fun c => absurd (show x4.toInt = (0 : Int32).toInt by rw [e4, gU.2.2, l0]) c)
    refine pq_iv fun x7 e7 => ?_
    refine pq_iv fun x8 e8 => ?_
    refine pq_le (fun c => ?_) (fun c => ?_)
    · rw [e7, e8] at c
      have hb : b (sk b (at7 T)) = -1 := by
        rw [← m.2.2, ← gU.1]
        by_cases d : bt U (at7 U) = -1
        · exact d
        · have := bt_lt m.1 (bt_sz m.1 d)
          omega
      rw [if_pos hb] at hw
      exact pq_gd fun _ => pq_some (by rw [hw]; exact ⟨gU.2.2, rfl⟩)
    · rw [e7, e8] at c
      have hb : ¬ b (sk b (at7 T)) = -1 := by
        have := bt_ge m.1 (p := at7 U) (by omega)
        rw [← m.2.2, ← gU.1]
        omega
      rw [if_neg hb] at hw
      refine pq_iv fun x11 e11 => ?_
      refine pq_bd (x_wrong 1 x11 m.1 (by decide)).pk (fun _ V q => ?_)
      have q9 := q.2.2.2 gU.2.2
      exact pq_gd fun _ => pq_some (by rw [hw]; exact ⟨by rw [q9.1]; exact l1, by rw [q9.2, e11, ← ha, m.2.2], n1z⟩)
theorem q_walksLaw (RS : RI S) (hN : NMq S b law env) : pk (F_X7_walksLaw S) (fun v T => LLO T v (nL b law env)) := by
  have l0 : (0 : Int32).toInt = 0 := by decide
  have l59 : (59 : Int32).toInt = 59 := by decide
  unfold F_X7_walksLaw
  refine pq_sv fun S1 E1 => ?_
  refine pq_sv fun S2 E2 => ?_
  refine pq_sv fun S3 E3 => ?_
  refine pq_sv fun S4 E4 => ?_
  have R1 : RI S1 := by rw [E1]; exact RS.wr (show (0 : Int) ≤ (0 : Int32).toInt by decide) (show (0 : Int32).toInt ≤ 301 by decide)
  have R2 : RI S2 := by rw [E2]; exact R1.wr (show (0 : Int) ≤ (0 : Int32).toInt by decide) (show (0 : Int32).toInt ≤ 7 by decide)
  have R3 : RI S3 := by rw [E3]; exact R2.wf rfl
  have R4 : RI S4 := by rw [E4]; exact R3.wf rfl
  have F1 : FX W8 S S1 := by rw [E1]; exact FX.rf.wr rfl
  have F2 : FX W8 S S2 := by rw [E2]; exact F1.wr rfl
  have F3 : FX W8 S S3 := by rw [E3]; exact F2.wr rfl
  have F4 : FX W8 S S4 := by rw [E4]; exact F3.wr rfl
  have a4 : ge S4 40 0 4 = 0 := by rw [E4, ge_puj (by decide), E3, ge_puj (by decide), E2, ge_puj (by decide), E1, ge_pus]
  have a5 : ge S4 40 0 5 = 0 := by rw [E4, ge_puj (by decide), E3, ge_puj (by decide), E2, ge_pus]
  have a6 : ge S4 40 0 6 = 0 := by rw [E4, ge_puj (by decide), E3, ge_pus]
  have gs := R4.sz
  have A4 : AK S4 := ⟨by rw [a4]; omega, fun _ => by rw [a4]; omega⟩
  have b4 : bt S4 = b := by
    rw [← hN.1]
    funext p
    unfold bt byv
    rw [F4.1 40 0 2 rfl, F4.1 40 0 8 rfl, F4.1 41 0 _ rfl, F4.1 43 _ _ rfl]
  have g4 : GD S4 b law env := ⟨b4, hN.2.nf ⟨fun i => F4.1 45 0 i rfl, F4.1 40 0 16 rfl⟩, by rw [a6]; exact l0⟩
  have p4 : at7 S4 = 0 := at7_un R4 (by rw [a4]; exact l0)
  refine pq_bd (g_F_X7_ors (b := b) (law := law) (env := env) R4 A4 (by rw [a5]; exact l0)).pk (fun v20 T q => ?_)
  obtain ⟨⟨xt, v0, v1⟩, q⟩ := q
  have q := q g4
  rw [p4] at q
  have RT := xt.1.1
  refine pq_iv fun x23 e23 => ?_
  unfold nL
  cases hw : wO b law env 0 with
  | error e =>
    rw [hw] at q
    have q : EFq T e := q
    refine pq_eq (fun c => ?_) (fun _ => q_law38 (b := b) (law := law) (env := env) RT (Or.inl ⟨e, rfl, q⟩))
    rw [e23, q.1] at c
    exact absurd c (by rw [l0]; exact q.2.2)
  | ok z =>
    rw [hw] at q
    obtain ⟨qf, qa, qv⟩ := q
    have gT := g4.xt xt qf
    refine pq_eq (fun _ => ?_) (fun c => absurd (show x23.toInt = (0 : Int32).toInt by rw [e23, qf, l0]) c)
    refine pq_bd (g_sign (b := b) (law := law) (env := env) 59 RT (by decide)).pk (fun _ U r => ?_)
    obtain ⟨xs, r⟩ := r
    rw [l59, qa] at r
    rcases r gT with ⟨r1, r2, r3⟩ | ⟨r1, r2⟩
    · refine q_law38 (b := b) (law := law) (env := env) xs.1.1 (Or.inr ⟨r2, ?_⟩)
      dsimp only
      rw [if_pos r1, r3, qv]
    · refine q_law38 (b := b) (law := law) (env := env) xs.1.1 (Or.inl ⟨(1, sk b z.1), ?_, r2 0⟩)
      dsimp only
      rw [if_neg r1]
end QWK
