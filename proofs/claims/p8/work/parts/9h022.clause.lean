/-! the reference, exactly: clauses, programs, laws -/
abbrev G3 : Type := Int32 × Int32 × Int32
def wixq (c : Int) : Int := if c = 151162 then 0 else if c = 382984 then 1 else if c = 247690 then 2 else -1
def nZ (b : Nat → Int) (q : Nat) (g : G3) : Except (Int × Nat) (Nat × G3) := if b (sk b q) = 59 then .ok (sk b q + 1, g) else .error (1, sk b q)
def nI9 (b : Nat → Int) (law : Bool) (env : Nat → Int32) (k : Int) (g : G3) (p : Nat) (v : Int32) : Except (Int × Nat) (Nat × G3) :=
  if wc b (sk b p) = 249 then
    (match wO b law env (rn b 97 122 (sk b p)) with
    | .error e => .error e
    | .ok y => nZ b y.1 (if y.2 = 0 then g else tl3 k v g))
  else nZ b p (tl3 k v g)
def nCk (b : Nat → Int) (law : Bool) (env : Nat → Int32) (p cl : Nat) (g : G3) : Except (Int × Nat) (Nat × G3) :=
  if wixq (wc b (sk b p)) = -1 then .error (1, sk b p) else
  if cl = 12 then .error (3, sk b p) else
  match wS b law env (rn b 97 122 (sk b p)) with
  | .error e => .error e
  | .ok z => nI9 b law env (wixq (wc b (sk b p))) g z.1 z.2
def nW (b : Nat → Int) (law : Bool) (env : Nat → Int32) : Nat → Nat → Nat → G3 → Except (Int × Nat) G3
  | 0, _, _, g => .ok g
  | f + 1, p, cl, g => if b (sk b p) = -1 then .ok g else
    match nCk b law env p cl g with
    | .error e => .error e
    | .ok z => nW b law env f z.1 (cl + 1) z.2
def nL (b : Nat → Int) (law : Bool) (env : Nat → Int32) : Except (Int × Nat) Int32 :=
  match wO b law env 0 with
  | .error e => .error e
  | .ok z => if b (sk b z.1) = 59 then (if b (sk b (sk b z.1 + 1)) = -1 then .ok z.2 else .error (1, sk b (sk b z.1 + 1))) else .error (1, sk b z.1)
def W7 (a _ j : Nat) : Bool := Nat.beq a 40 && (Nat.beq j 4 || (Nat.beq j 5 || (Nat.beq j 6 || Nat.beq j 7)))
def W8 (a _ j : Nat) : Bool := Nat.beq a 40 && (Nat.beq j 4 || (Nat.beq j 5 || (Nat.beq j 6 || (Nat.beq j 7 || (Nat.beq j 9 || (Nat.beq j 18 || (Nat.beq j 19 || Nat.beq j 20)))))))
def tg (S : fS) : G3 := (ge S 40 0 18, ge S 40 0 19, ge S 40 0 20)
def KT9 (S T : fS) : Prop := tg T = tg S ∧ ge T 40 0 9 = ge S 40 0 9
def EFq (T : fS) (e : Int × Nat) : Prop := (ge T 40 0 6).toInt = e.1 ∧ (ge T 40 0 7).toInt = (e.2 : Int) ∧ ¬ e.1 = 0
def CLO (T : fS) (cl : Nat) (w : Except (Int × Nat) (Nat × G3)) : Prop := match w with
  | .error e => EFq T e
  | .ok z => (ge T 40 0 6).toInt = 0 ∧ at7 T = z.1 ∧ tg T = z.2 ∧ (ge T 40 0 9).toInt = ((cl + 1 : Nat) : Int)
def WLO (T : fS) (w : Except (Int × Nat) G3) : Prop := match w with
  | .error e => EFq T e
  | .ok g => (ge T 40 0 6).toInt = 0 ∧ tg T = g
def LLO (T : fS) (v : Int32) (w : Except (Int × Nat) Int32) : Prop := match w with
  | .error e => EFq T e
  | .ok y => (ge T 40 0 6).toInt = 0 ∧ v = y
/-- which of the three words is here -/
def FL (a1 a2 a3 : Int32) (k : Int) : Prop := (k = 0 ∧ ¬ a1 = 0 ∧ a2 = 0 ∧ a3 = 0) ∨ (k = 1 ∧ a1 = 0 ∧ ¬ a2 = 0 ∧ a3 = 0) ∨ (k = 2 ∧ a1 = 0 ∧ a2 = 0 ∧ ¬ a3 = 0)
section QCL
variable {S T U : fS} {b : Nat → Int} {law : Bool} {env : Nat → Int32}
theorem KT9.rf : KT9 S S := ⟨rfl, rfl⟩
theorem KT9.tr (h : KT9 S T) (h2 : KT9 T U) : KT9 S U := ⟨h2.1.trans h.1, h2.2.trans h.2⟩
theorem KT9.w7 (F : FX W7 S T) : KT9 S T := ⟨by unfold tg; rw [F.1 40 0 18 rfl, F.1 40 0 19 rfl, F.1 40 0 20 rfl], F.1 40 0 9 rfl⟩
theorem KT9.mv {p : Nat} (h : MV S T p) : KT9 S T := ⟨by unfold tg; rw [h.2.1.1 40 0 18 rfl, h.2.1.1 40 0 19 rfl, h.2.1.1 40 0 20 rfl], h.2.1.1 40 0 9 rfl⟩
theorem GD.mv {p : Nat} (g : GD S b law env) (R : RI S) (h : MV S T p) (x : XS S T) : GD T b law env := g.xs x (by rw [h.2.1.1 40 0 6 rfl]; exact g.2.2)
theorem q_194 : pk (B_X7_clause_194 U) (fun _ V => V = pu U 40 0 9 (ge U 40 0 9 + 1)) := by
  unfold B_X7_clause_194
  refine pq_iv fun x ex => pq_iv fun y ey => pq_sv fun V E => pq_some ?_
  rw [E, ey, ex]
theorem tgs {a : Int32} {j : Nat} (hj : j ≠ 18 ∧ j ≠ 19 ∧ j ≠ 20) : tg (pu U 40 0 j a) = tg U := by
  unfold tg
  rw [ge_puj (Ne.symm hj.1), ge_puj (Ne.symm hj.2.1), ge_puj (Ne.symm hj.2.2)]
theorem q_149 {a1 a2 a3 a4 a5 : Int32} {k : Int} (hf : FL a1 a2 a3 k) : pk (B_X7_clause_149 a1 a2 a3 a4 a5 U) (fun _ V => ge V 40 0 6 = ge U 40 0 6 ∧ ge V 40 0 7 = ge U 40 0 7 ∧ ge V 40 0 4 = ge U 40 0 4 ∧ tg V = (if a5 = 0 then tg U else tl3 k a4 (tg U)) ∧ ge V 40 0 9 = ge U 40 0 9 + 1) := by
  have fin : ∀ (T : fS) (g : G3), ge T 40 0 6 = ge U 40 0 6 → ge T 40 0 7 = ge U 40 0 7 → ge T 40 0 4 = ge U 40 0 4 → tg T = g → ge T 40 0 9 = ge U 40 0 9 → pk (B_X7_clause_194 T) (fun _ V => ge V 40 0 6 = ge U 40 0 6 ∧ ge V 40 0 7 = ge U 40 0 7 ∧ ge V 40 0 4 = ge U 40 0 4 ∧ tg V = g ∧ ge V 40 0 9 = ge U 40 0 9 + 1) := by
    intro T g h6 h7 h4 hg h9
    refine pq_imp q_194 (fun _ V E => ?_)
    rw [E]
    exact ⟨by rw [ge_puj (by decide)]; exact h6, by rw [ge_puj (by decide)]; exact h7, by rw [ge_puj (by decide)]; exact h4, by rw [tgs (by decide)]; exact hg, by rw [ge_pus, h9]⟩
  by_cases c5 : a5 = 0
  · rw [if_pos c5]
    unfold B_X7_clause_149
    refine pq_bb (fun _ => ?_) (fun c => absurd c5 c)
    unfold B_X7_clause_164
    refine pq_bb (fun _ => ?_) (fun c => absurd c5 c)
    unfold B_X7_clause_179
    exact pq_bb (fun _ => fin U _ rfl rfl rfl rfl rfl) (fun c => absurd c5 c)
  · rw [if_neg c5]
    have P164 : ∀ T : fS, pk (B_X7_clause_164 a2 a3 a4 a5 T) (fun _ V => (a2 = 0 → a3 = 0 → ∃ T2 : fS, T2 = T ∧ V = pu T2 40 0 9 (ge T2 40 0 9 + 1)) ∧ (¬ a2 = 0 → a3 = 0 → ∃ T2 : fS, T2 = pu T 40 0 19 a4 ∧ V = pu T2 40 0 9 (ge T2 40 0 9 + 1)) ∧ (a2 = 0 → ¬ a3 = 0 → ∃ T2 : fS, T2 = pu T 40 0 20 a4 ∧ V = pu T2 40 0 9 (ge T2 40 0 9 + 1))) := by
      intro T
      have P179 : ∀ T : fS, pk (B_X7_clause_179 a3 a4 a5 T) (fun _ V => (a3 = 0 → V = pu T 40 0 9 (ge T 40 0 9 + 1)) ∧ (¬ a3 = 0 → ∃ T2 : fS, T2 = pu T 40 0 20 a4 ∧ V = pu T2 40 0 9 (ge T2 40 0 9 + 1))) := by
        intro T
        unfold B_X7_clause_179
        refine pq_bb (fun c => absurd c c5) (fun _ => ?_)
        refine pq_bb (fun c => pq_imp q_194 (fun _ V E => ⟨fun _ => E, fun n => absurd c n⟩)) (fun c => ?_)
        refine pq_sv fun T2 E2 => pq_imp q_194 (fun _ V E => ⟨fun n => absurd n c, fun _ => ⟨T2, E2, E⟩⟩)
      unfold B_X7_clause_164
      refine pq_bb (fun c => absurd c c5) (fun _ => ?_)
      refine pq_bb (fun c => pq_imp (P179 T) (fun _ V E => ⟨fun _ n => ⟨T, rfl, E.1 n⟩, fun n => absurd c n, fun _ n => E.2 n⟩)) (fun c => ?_)
      refine pq_sv fun T2 E2 => pq_imp (P179 T2) (fun _ V E => ⟨fun n => absurd n c, fun _ n => ⟨T2, E2, E.1 n⟩, fun n => absurd n c⟩)
    have done : ∀ (T2 V : fS) (g : G3), ge T2 40 0 6 = ge U 40 0 6 → ge T2 40 0 7 = ge U 40 0 7 → ge T2 40 0 4 = ge U 40 0 4 → tg T2 = g → ge T2 40 0 9 = ge U 40 0 9 → V = pu T2 40 0 9 (ge T2 40 0 9 + 1) → ge V 40 0 6 = ge U 40 0 6 ∧ ge V 40 0 7 = ge U 40 0 7 ∧ ge V 40 0 4 = ge U 40 0 4 ∧ tg V = g ∧ ge V 40 0 9 = ge U 40 0 9 + 1 := by
      intro T2 V g h6 h7 h4 hg h9 E
      rw [E]
      exact ⟨by rw [ge_puj (by decide)]; exact h6, by rw [ge_puj (by decide)]; exact h7, by rw [ge_puj (by decide)]; exact h4, by rw [tgs (by decide)]; exact hg, by rw [ge_pus, h9]⟩
    unfold B_X7_clause_149
    refine pq_bb (fun c => absurd c c5) (fun _ => ?_)
    rcases hf with ⟨hk, f1, f2, f3⟩ | ⟨hk, f1, f2, f3⟩ | ⟨hk, f1, f2, f3⟩
    · refine pq_bb (fun c => absurd c f1) (fun _ => ?_)
      refine pq_sv fun T E => pq_imp (P164 T) (fun _ V q => ?_)
      obtain ⟨T2, E2, E3⟩ := q.1 f2 f3
      rw [E2] at E3
      refine done T V _ ?_ ?_ ?_ ?_ ?_ E3
      · rw [E, ge_puj (by decide)]
      · rw [E, ge_puj (by decide)]
      · rw [E, ge_puj (by decide)]
      · rw [E, hk]
        unfold tg
        rw [ge_pus, ge_puj (by decide), ge_puj (by decide)]
        rfl
      · rw [E, ge_puj (by decide)]
    · refine pq_bb (fun _ => ?_) (fun c => absurd f1 c)
      refine pq_imp (P164 U) (fun _ V q => ?_)
      obtain ⟨T2, E2, E3⟩ := q.2.1 f2 f3
      refine done T2 V _ ?_ ?_ ?_ ?_ ?_ E3
      · rw [E2, ge_puj (by decide)]
      · rw [E2, ge_puj (by decide)]
      · rw [E2, ge_puj (by decide)]
      · rw [E2, hk]
        unfold tg
        rw [ge_puj (by decide), ge_pus, ge_puj (by decide)]
        rfl
      · rw [E2, ge_puj (by decide)]
    · refine pq_bb (fun _ => ?_) (fun c => absurd f1 c)
      refine pq_imp (P164 U) (fun _ V q => ?_)
      obtain ⟨T2, E2, E3⟩ := q.2.2 f2 f3
      refine done T2 V _ ?_ ?_ ?_ ?_ ?_ E3
      · rw [E2, ge_puj (by decide)]
      · rw [E2, ge_puj (by decide)]
      · rw [E2, ge_puj (by decide)]
      · rw [E2, hk]
        unfold tg
        rw [ge_puj (by decide), ge_puj (by decide), ge_pus]
        rfl
      · rw [E2, ge_puj (by decide)]
theorem EFq.of {e : Int × Nat} {V : fS} (h : EFq U e) (h6 : ge V 40 0 6 = ge U 40 0 6) (h7 : ge V 40 0 7 = ge U 40 0 7) : EFq V e := by
  unfold EFq
  rw [h6, h7]
  exact h
theorem q_136e {a1 a2 a3 a4 a5 : Int32} {k : Int} {e : Int × Nat} {cl : Nat} (hf : FL a1 a2 a3 k) (h : EFq U e) : pk (B_X7_clause_136 a1 a2 a3 a4 a5 U) (fun _ V => CLO V cl (.error e)) := by
  have l0 : (0 : Int32).toInt = 0 := by decide
  unfold B_X7_clause_136
  refine pq_iv fun x ex => ?_
  refine pq_eq (fun c => ?_) (fun _ => pq_imp (q_149 hf) (fun _ V q => h.of q.1 q.2.1))
  rw [ex, h.1] at c
  exact absurd c (by rw [l0]; exact h.2.2)
theorem q_136g {a1 a2 a3 a4 a5 : Int32} {k : Int} {cl p : Nat} {g : G3} (hf : FL a1 a2 a3 k) (RU : RI U) (hg : GD U b law env) (hp : at7 U = p) (htg : tg U = g) (hc : (ge U 40 0 9).toInt = (cl : Int)) (h12 : cl ≤ 300) : pk (B_X7_clause_136 a1 a2 a3 a4 a5 U) (fun _ V => CLO V cl (nZ b p (if a5 = 0 then g else tl3 k a4 g))) := by
  have l0 : (0 : Int32).toInt = 0 := by decide
  have l1 : (1 : Int32).toInt = 1 := by decide
  have l59 : (59 : Int32).toInt = 59 := by decide
  unfold B_X7_clause_136
  refine pq_iv fun x ex => ?_
  refine pq_eq (fun _ => ?_) (fun c => absurd (show x.toInt = (0 : Int32).toInt by rw [ex, hg.2.2, l0]) c)
  refine pq_bd (pq_and (g_sign (b := b) (law := law) (env := env) 59 RU (by decide)).pk (w_F_X7_sign (W := W7) rfl rfl rfl 59 FX.rf).go) (fun _ V q => ?_)
  obtain ⟨⟨xs, q⟩, F⟩ := q
  have kt := KT9.w7 F
  rw [l59, hp] at q
  rcases q hg with ⟨q1, q2, q3⟩ | ⟨q1, q2⟩
  · refine pq_imp (q_149 hf) (fun _ X r => ?_)
    obtain ⟨r6, r7, r4, rt, r9⟩ := r
    unfold nZ
    rw [if_pos q1]
    refine ⟨by rw [r6]; exact q2.2.2, ?_, by rw [rt, kt.1, htg], ?_⟩
    · show at7 X = sk b p + 1
      rw [← q3]
      unfold at7
      rw [r4]
    · rw [r9, kt.2, ti_add (by omega) (by omega), hc, l1]
      omega
  · refine pq_imp (q_149 hf) (fun _ X r => ?_)
    unfold nZ
    rw [if_neg q1]
    have z := q2 0
    exact EFq.of (U := V) z r.1 r.2.1
theorem q_84e {a1 a2 a3 : Int32} {e : Int × Nat} {cl : Nat} (h : EFq T e) : pk (B_X7_clause_84 a1 a2 a3 T) (fun _ V => CLO V cl (.error e)) := by
  have l0 : (0 : Int32).toInt = 0 := by decide
  unfold B_X7_clause_84
  refine pq_iv fun x ex => ?_
  refine pq_eq (fun c => ?_) (fun _ => pq_some h)
  rw [ex, h.1] at c
  exact absurd c (by rw [l0]; exact h.2.2)
theorem q_84 {a1 a2 a3 : Int32} {k : Int} {cl q : Nat} {g : G3} (hf : FL a1 a2 a3 k) (RS : RI S) (hx : XT S T) (ho : (ge S 40 0 5).toInt = 0) (hg : GD T b law env) (hq : at7 T = q) (htg : tg T = g) (hc : (ge T 40 0 9).toInt = (cl : Int)) (h12 : cl ≤ 300) : pk (B_X7_clause_84 a1 a2 a3 T) (fun _ V => CLO V cl (match wS b law env (rn b 97 122 q) with | .error e => .error e | .ok z => nI9 b law env k g z.1 z.2)) := by
  have l0 : (0 : Int32).toInt = 0 := by decide
  have RT := hx.1.1
  unfold B_X7_clause_84
  refine pq_iv fun x ex => ?_
  refine pq_eq (fun _ => ?_) (fun c => absurd (show x.toInt = (0 : Int32).toInt by rw [ex, hg.2.2, l0]) c)
  refine pq_bd (e_skipWord RT).pk (fun _ T1 m1 => ?_)
  rw [hg.1, hq] at m1
  have x1 : XS T T1 := m1.xs RT (by rw [hq]; exact rn_le q) (by rw [hq, ← hg.1]; exact rn_inT RT (by decide) q)
  have g1 := hg.mv RT m1 x1
  have xt1 := hx.xs x1
  have o1 : (ge T1 40 0 5).toInt = 0 := by rw [xt1.1.2.2.2.2.1]; exact ho
  refine pq_bd (pq_and (g_F_X7_sum (b := b) (law := law) (env := env) x1.1.1 xt1.1.2.2.2.1 o1).pk (w_F_X7_sum (W := W7) rfl rfl rfl rfl FX.rf).go) (fun v23 T2 q2 => ?_)
  obtain ⟨⟨x2, q2⟩, F2⟩ := q2
  have k2 := (KT9.mv m1).tr (KT9.w7 F2)
  have q2 := q2 g1
  rw [m1.2.2] at q2
  have xt2 := xt1.xs x2
  refine pq_iv fun x26 e26 => ?_
  cases hw : wS b law env (rn b 97 122 q) with
  | error e =>
    rw [hw] at q2
    have ef : EFq T2 e := q2
    refine pq_eq (fun c => ?_) (fun _ => q_136e hf ef)
    rw [e26, ef.1] at c
    exact absurd c (by rw [l0]; exact ef.2.2)
  | ok z =>
    rw [hw] at q2
    obtain ⟨f2, a2', v2⟩ := q2
    have g2 := g1.xs x2 f2
    refine pq_eq (fun _ => ?_) (fun c => absurd (show x26.toInt = (0 : Int32).toInt by rw [e26, f2, l0]) c)
    refine pq_bd (e_isWord 9 6 0 0 0 x2.1.1).pk (fun v28 T3 q3 => ?_)
    obtain ⟨m3, q3⟩ := q3
    rw [show (wd 9 6 0 0 0).toInt = 249 from by decide, g2.1, a2'] at q3
    rw [g2.1, a2'] at m3
    have x3 : XS T2 T3 := m3.xs x2.1.1 (by rw [a2']; exact sk_le _) (by rw [a2', ← g2.1]; exact sk_in x2.1.1 _)
    have g3 := g2.mv x2.1.1 m3 x3
    have k3 := k2.tr (KT9.mv m3)
    have xt3 := xt2.xs x3
    show pk _ (fun _ V => CLO V cl (nI9 b law env k g z.1 z.2))
    unfold nI9
    refine pq_eq (fun c => ?_) (fun c => ?_)
    · rw [if_neg (by omega)]
      have h9 := q_136g (a4 := v23) (a5 := 1) (p := sk b z.1) (g := g) (cl := cl) hf x3.1.1 g3 m3.2.2 (k3.1.trans htg) (by rw [k3.2]; exact hc) h12
      rw [if_neg (by decide)] at h9
      have e9 : nZ b (sk b z.1) (tl3 k v23 g) = nZ b z.1 (tl3 k v23 g) := by unfold nZ; rw [sk_sk (hg.1 ▸ bt_txt RT)]
      rw [e9, v2] at h9
      rw [v2]
      exact h9
    · rw [if_pos (by omega)]
      refine pq_bd (e_skipWord x3.1.1).pk (fun _ T4 m4 => ?_)
      rw [g3.1, m3.2.2] at m4
      have x4 : XS T3 T4 := m4.xs x3.1.1 (by rw [m3.2.2]; exact rn_le _) (by rw [m3.2.2, ← g3.1]; exact rn_inT x3.1.1 (by decide) _)
      have g4 := g3.mv x3.1.1 m4 x4
      have xt4 := xt3.xs x4
      have o4 : (ge T4 40 0 5).toInt = 0 := by rw [xt4.1.2.2.2.2.1]; exact ho
      refine pq_bd (pq_and (g_F_X7_ors (b := b) (law := law) (env := env) x4.1.1 xt4.1.2.2.2.1 o4).pk (w_F_X7_ors (W := W7) rfl rfl rfl rfl FX.rf).go) (fun v35 T5 q5 => ?_)
      obtain ⟨⟨x5, q5⟩, F5⟩ := q5
      have k5 := (k3.tr (KT9.mv m4)).tr (KT9.w7 F5)
      have q5 := q5 g4
      rw [m4.2.2] at q5
      cases hw2 : wO b law env (rn b 97 122 (sk b z.1)) with
      | error e =>
        rw [hw2] at q5
        exact q_136e hf q5
      | ok y =>
        rw [hw2] at q5
        obtain ⟨f5, a5', v5⟩ := q5
        have g5 := g4.xt x5.1 f5
        have h9 := q_136g (a4 := v23) (a5 := v35) (p := y.1) (g := g) (cl := cl) hf x5.1.1.1 g5 a5' (k5.1.trans htg) (by rw [k5.2]; exact hc) h12
        rw [v5, v2] at h9
        rw [v5, v2]
        exact h9
end QCL
