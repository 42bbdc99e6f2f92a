/-! what pays, both sides; a value made step by step -/
def ACC (P : Nat → Prop) (f : Nat → Int32 → Int32) : Nat → Int32 → Prop
  | 0, v => v = 0
  | i + 1, v => ∃ u : Int32, ACC P f i u ∧ ((P i ∧ v = f i u) ∨ (¬ P i ∧ v = u))
theorem ACC.un {P : Nat → Prop} {f : Nat → Int32 → Int32} : ∀ {n : Nat} {v w : Int32}, ACC P f n v → ACC P f n w → v = w
  | 0, _, _, h, g => Eq.trans h (Eq.symm g)
  | n + 1, v, w, ⟨u, h, h2⟩, ⟨u', g, g2⟩ => by
    have e := ACC.un h g
    rw [← e] at g2
    rcases h2 with ⟨a, b⟩ | ⟨a, b⟩ <;> rcases g2 with ⟨c, d⟩ | ⟨c, d⟩
    · exact b.trans d.symm
    · exact absurd a c
    · exact absurd c a
    · exact b.trans d.symm
theorem ACC.yes {P : Nat → Prop} {f : Nat → Int32 → Int32} {i : Nat} {u v : Int32} (h : ACC P f i u) (p : P i) (e : v = f i u) : ACC P f (i + 1) v := ⟨u, h, Or.inl ⟨p, e⟩⟩
theorem ACC.no {P : Nat → Prop} {f : Nat → Int32 → Int32} {i : Nat} {u v : Int32} (h : ACC P f i u) (p : ¬ P i) (e : v = u) : ACC P f (i + 1) v := ⟨u, h, Or.inr ⟨p, e⟩⟩
/-- the first of some steps -/
def FST (P : Nat → Prop) (n : Nat) (v : Int32) : Prop := (v = -1 ∧ ∀ k : Nat, 1 ≤ k → k ≤ n → ¬ P k) ∨ ∃ k : Nat, 1 ≤ k ∧ k ≤ n ∧ v.toInt = (k : Int) ∧ P k ∧ ∀ k' : Nat, 1 ≤ k' → k' < k → ¬ P k'
theorem FST.un {P : Nat → Prop} {n : Nat} {v u : Int32} (h : FST P n v) (h' : FST P n u) : v = u := by
  rcases h with ⟨a, b⟩ | ⟨k, a, b, c, d, e⟩ <;> rcases h' with ⟨a', b'⟩ | ⟨k', a', b', c', d', e'⟩
  · rw [a, a']
  · exact absurd d' (b k' a' b')
  · exact absurd d (b' k a b)
  · have : k = k' := by
      by_cases z : k < k'
      · exact absurd d (e' k a z)
      · by_cases y : k' < k
        · exact absurd d' (e k' a' y)
        · omega
    exact of_toInt (by rw [c, c', this])
section PAY
variable {S V T : fS} {p g s x lot : Int32} {c : Nat} {gg : G3}
theorem LOq.fx {U : fS} {W : Nat → Nat → Nat → Bool} (h : LOq S V 0 c) (F : FX W V U) (h25 : ∀ j : Nat, j = 0 ∨ j = 1 ∨ j = 2 ∨ (10 ≤ j ∧ j ≤ 16) → W 25 0 j = false) (h26 : ∀ j : Nat, W 26 0 j = false) : LOq S U 0 c := by
  have e : ∀ j : Nat, j = 0 ∨ j = 1 ∨ j = 2 ∨ (10 ≤ j ∧ j ≤ 16) → ge U 25 0 j = ge V 25 0 j := fun j hj => F.1 25 0 j (h25 j hj)
  obtain ⟨h0, h10, h2, h⟩ := h
  refine ⟨by rw [e 0 (by decide)]; exact h0, by rw [e 10 (by decide)]; exact h10, by rw [e 2 (by decide)]; exact h2, ?_⟩
  rcases h with ⟨hm, h1, h16, h14⟩ | ⟨hm, gt, ty⟩
  · exact Or.inl ⟨hm, by rw [e 1 (by decide)]; exact h1, by rw [e 16 (by decide)]; exact h16, by rw [e 14 (by decide)]; exact h14⟩
  · obtain ⟨g1, g2, g3, g4⟩ := gt
    refine Or.inr ⟨hm, ⟨by rw [e 16 (by decide)]; exact g1, fun k hk => by rw [F.1 26 0 k (h26 k)]; exact g2 k hk, by rw [e 14 (by decide)]; exact g3, by rw [e 1 (by decide)]; exact g4⟩, ty.fx F (h25 0 (by decide)) (h25 10 (by decide)) (h25 11 (by decide)) (h25 12 (by decide)) (h25 13 (by decide)) (h25 14 (by decide))⟩
theorem y_judge2 {A : Type} {k2 : Int32 → fS → Option (A × fS)} {Q : A → fS → Prop} (hL : LOq S V 0 c) (h : ∀ v : Int32, v = oq S c g s → pk (k2 v V) Q) : pk (bd (F_X5_failingStep 0 g s V) (fun v12 S13 => bd (F_X5_outcomeAt 0 v12 S13) (fun v15 S16 => k2 v15 S16))) Q := by
  intro v U e
  obtain ⟨v12, S13, f1, f2⟩ := bd_some e
  obtain ⟨v15, S16, f3, f4⟩ := bd_some f2
  have z := y_judge (g := g) (s := s) hL y_fs0 v15 S16 (by rw [f1]; exact f3)
  obtain ⟨z1, z2⟩ := z
  subst z1
  exact h v15 z2 v U f4
theorem y_pays (H : HVq S) (hO : HOq S) (B : BVq S 0) (F : FX (WscR 0) S V) (hp : p.toInt = (c : Int)) (hc : c < 64) : pk (F_X6_pays 0 p g s V) (fun v T => FX (WscR 0) S T ∧ FX (Wlk 0) V T ∧ ((v = 1 ∧ oq S c g s = 5) ∨ (v = 0 ∧ ¬ oq S c g s = 5))) := by
  have sV : SRq S V := F.sr Ws_r
  have BV : BVq V 0 := sV.BV B (fun a j ha => F.1 a 0 j (Ws_l a 0 j ha))
  unfold F_X6_pays
  refine pq_bd (y_look (sV.HV H) BV hp hc (by rw [sV 40 0 30 (by decide)]; exact hO)) (fun _ T q => ?_)
  obtain ⟨FT, L⟩ := q
  refine y_judge2 (sV.LO L) (fun v q => ?_)
  refine pq_bb (fun d => pq_some ⟨F.tr (FT.sub Wl_s), FT, Or.inl ⟨rfl, q.symm.trans d⟩⟩) (fun d => pq_some ⟨F.tr (FT.sub Wl_s), FT, Or.inr ⟨rfl, fun e => d (q.trans e)⟩⟩)
/-- the reference asks whether it pays -/
theorem q_paid (RV : RI V) (F : FX Wcn S V) (H : HVq S) (hO : HOq S) (hT : TPq V x.toInt (envN V lot) gg) (hp : p.toInt = (c : Int)) (hc : c < 64) : pk (F_X7_isPaidBy p x lot V) (fun v T => FX Wcn V T ∧ (∀ i : Nat, i ≠ 5 → ge T 45 0 i = ge V 45 0 i) ∧ ((v = 1 ∧ oq S c (clm gg).1 (clm gg).2.1 = 5) ∨ (v = 0 ∧ ¬ oq S c (clm gg).1 (clm gg).2.1 = 5))) := by
  unfold F_X7_isPaidBy
  refine pq_bd (q_tellsq RV hT) (fun _ T q => ?_)
  obtain ⟨FT, n, _, t⟩ := q
  refine pq_iv fun x4 e4 => pq_iv fun x5 e5 => ?_
  have f4 : x4 = (clm gg).1 := by rw [e4]; exact congrArg (fun z => z.1) t
  have f5 : x5 = (clm gg).2.1 := by rw [e5]; exact congrArg (fun z => z.2.1) t
  have GT : FX Wcn S T := F.tr (FT.sub Wt7_c)
  obtain ⟨o1, H1, O1, _⟩ := SRc GT (clm gg).1 (clm gg).2.1 c
  rw [f4, f5]
  refine pq_bd (q_wouldBe (H1 H) hp hc (O1 hO)) (fun v6 Y q => ?_)
  obtain ⟨FY, o6, _⟩ := q
  rw [o1] at o6
  have GY : FX Wcn V Y := (FT.sub Wt7_c).tr (FY.sub Wgr_c)
  have n' : ∀ i : Nat, i ≠ 5 → ge Y 45 0 i = ge V 45 0 i := fun i hi => (FY.1 45 0 i rfl).trans (n i hi)
  exact pq_bb (fun d => pq_some ⟨GY, n', Or.inl ⟨rfl, o6.symm.trans d⟩⟩) (fun d => pq_some ⟨GY, n', Or.inr ⟨rfl, fun e => d (o6.trans e)⟩⟩)
theorem TP_now (s : FX Wcn S V) (hO : TOK S) (hn : ∀ i : Nat, i < 5 → ge V 45 0 i = env1 S lot i) (hp : p = ge S 40 0 15) : TPq V p.toInt (envN V lot) (tlW S lot) := by
  rw [hp]
  refine TPq.fx (TPq.cg (tlW_ok (lot := lot) hO) (fun i hi => ?_)) s (fun _ => rfl) (fun _ _ => rfl)
  unfold envN
  by_cases d : i = 5
  · rw [if_pos d, d]
    rfl
  · rw [if_neg d, hn i (by omega)]
end PAY
/-! odds -/
section ODD
variable {S T : fS} {p p2 p3 : Int32}
/-- where a hand's k-th weight falls -/
def fel (a : Int32) (i : Nat) : Nat := (rcq a (Int32.ofNat i)).toNatClampNeg
def lotk (x : Int32) : Prop := (0 : Int32).toInt ≤ x.toInt ∧ x.toInt ≤ (35 : Int32).toInt
def ODq (S : fS) (k : Nat) (a lot : Int32) (n : Nat) (v : Int32) : Prop := ACC (fun i => oq S (fel a i) (clm (tlW S lot)).1 (clm (tlW S lot)).2.1 = 5) (fun i u => u + ge S 59 k i) n v
theorem fel_bd (a : Int32) (i : Nat) : (rcq a (Int32.ofNat i)).toInt = ((fel a i : Nat) : Int) ∧ fel a i < 64 := by
  obtain ⟨c, h1, h2⟩ := rcq_bd a (Int32.ofNat i)
  unfold fel
  rw [cnNq h1]
  exact ⟨h1, h2⟩
theorem y6_odds (h : IV S) : pk (F_X6_odds p p2 p3 S) (fun r T => FX (WscR 0) S T ∧ ((r.1 = 3 ∧ ¬ ie p (ge S 40 0 48)) ∨ (r.1 = 2 ∧ ie p (ge S 40 0 48) ∧ ¬ ic p2) ∨ (r.1 = 1 ∧ ie p (ge S 40 0 48) ∧ ic p2 ∧ ¬ lotk p3) ∨ (r.1 = 0 ∧ ie p (ge S 40 0 48) ∧ ic p2 ∧ lotk p3 ∧ ∃ k : Nat, p.toInt = (k : Int) ∧ ODq S k p2 p3 9 r.2))) := by
  have l9 : (9 : Int32).toInt = 9 := by decide
  have l0 : (0 : Int32).toInt = 0 := by decide
  obtain ⟨H, hO, B, N, hP, hI, hs, _, _, hH, hW⟩ := h.2.2.2.1
  have h48 : 0 ≤ (ge S 40 0 48).toInt ∧ (ge S 40 0 48).toInt ≤ 6 := h.1 40 0 48
  unfold F_X6_odds
  refine pq_iv fun x23 e23 => pg_el (by rw [e23, hH]; exact h48.1) (fun hc => ?_) (fun hc => ⟨FX.rf, Or.inl ⟨rfl, fun q => hc ⟨q.1, by rw [e23, hH]; exact q.2⟩⟩⟩)
  have hc' : ie p (ge S 40 0 48) := ⟨hc.1, by have := hc.2; rw [e23, hH] at this; exact this⟩
  refine pg_cell (fun hc2 => ?_) (fun hc2 => ⟨FX.rf, Or.inr (Or.inl ⟨rfl, hc', hc2⟩)⟩)
  refine pg_w (fun hc3 => pg_n1 ?_) (fun hc3 => pg_n0 ⟨FX.rf, Or.inr (Or.inr (Or.inl ⟨rfl, hc', hc2, hc3⟩))⟩)
  obtain ⟨k, hp⟩ : ∃ k : Nat, p.toInt = (k : Int) := ⟨p.toInt.toNat, by have := hc.1; omega⟩
  have hk : (k : Int) < (ge S 40 0 48).toInt := by rw [← hp]; exact hc'.2
  refine pq_bd y_next (fun _ V q => ?_)
  obtain ⟨F1, n⟩ := q
  have s1 := F1.sr Ws_r
  have e6 : ge V 1 0 6 = ge S 1 0 6 := F1.1 1 0 6 rfl
  have hP1 : PGq V := hP.fx F1 rfl rfl rfl rfl (fun _ => rfl) (fun _ _ => rfl) (fun _ _ => rfl)
  refine pq_bd (y_codeInForce hP1 (s1.IF e6 hI)) (fun x U q => ?_)
  obtain ⟨rfl, cx⟩ := q
  have cS : COq S (ge S 40 0 15).toInt x := by
    rw [s1 40 0 15 (by decide)] at cx
    rcases cx with c | ⟨t, c, a1, a2, a3, a4⟩
    · exact Or.inl c
    · refine Or.inr ⟨t, c, a1, a2, a3, ?_⟩
      have F1' : FX (WscR 0) V S := ⟨fun a i j q => (F1.1 a i j q).symm, F1.2.symm⟩
      exact a4.fx F1' rfl (fun _ => rfl) (fun _ => rfl)
  refine pq_bd (y_told N cS F1 n) (fun _ X q => ?_)
  obtain ⟨FX0, _, st, m⟩ := q
  refine pq_lp (fun (y : Int32 × Int32 × Int32 × Int32) V => y.1 = p ∧ y.2.1 = p2 ∧ FX (WscR 0) S V ∧ MR V st (tlW S p3) ∧ ∃ i : Nat, y.2.2.2.toInt = (i : Int) ∧ i ≤ 9 ∧ ODq S k p2 p3 i y.2.2.1) (fun _ _ (r : Nat × Int32) T => FX (WscR 0) S T ∧ ((r.1 = 3 ∧ ¬ ie p (ge S 40 0 48)) ∨ (r.1 = 2 ∧ ie p (ge S 40 0 48) ∧ ¬ ic p2) ∨ (r.1 = 1 ∧ ie p (ge S 40 0 48) ∧ ic p2 ∧ ¬ lotk p3) ∨ (r.1 = 0 ∧ ie p (ge S 40 0 48) ∧ ic p2 ∧ lotk p3 ∧ ∃ k : Nat, p.toInt = (k : Int) ∧ ODq S k p2 p3 9 r.2))) ?_ fuel (p, p2, 0, 0) X ⟨rfl, rfl, FX0, m, 0, l0, Nat.zero_le _, rfl⟩
  intro k2 hk2 y V hy
  obtain ⟨a1, a2, a4, a5⟩ := y
  obtain ⟨f1, f2, FV, mV, i, i1, i2, i3⟩ := hy
  dsimp only at f1 f2 i1 i3
  subst f1
  subst f2
  unfold B_X6_odds_55
  dsimp only
  refine pq_le (fun c9 => pq_some ⟨FV, Or.inr (Or.inr (Or.inr ⟨rfl, hc', hc2, hc3, k, hp, ?_⟩))⟩) (fun c9 => ?_)
  · have : i = 9 := by omega
    rw [this] at i3
    exact i3
  have i9 : i < 9 := by omega
  refine pq_gd fun _ => pq_iv fun x4 e4 => pq_bd y_weightAt (fun v5 U q => ?_)
  obtain ⟨rfl, q5⟩ := q
  rw [cnNq hp, FV.1 15 0 k rfl] at e4
  have w5 : v5 = ge S 59 k i := by rw [q5, e4, isN9 i1 (by omega)]; exact (hW k i hk i9).symm
  have nx : ∀ (U : fS) (x : Int32), FX (WscR 0) S U → MR U st (tlW S p3) → ODq S k a2 p3 (i + 1) x → pk (B_X6_odds_118 k2 a1 a2 x a5 U) (fun r T => FX (WscR 0) S T ∧ ((r.1 = 3 ∧ ¬ ie a1 (ge S 40 0 48)) ∨ (r.1 = 2 ∧ ie a1 (ge S 40 0 48) ∧ ¬ ic a2) ∨ (r.1 = 1 ∧ ie a1 (ge S 40 0 48) ∧ ic a2 ∧ ¬ lotk p3) ∨ (r.1 = 0 ∧ ie a1 (ge S 40 0 48) ∧ ic a2 ∧ lotk p3 ∧ ∃ k : Nat, a1.toInt = (k : Int) ∧ ODq S k a2 p3 9 r.2))) := by
    intro U x FU mU hx
    unfold B_X6_odds_118
    refine pq_iv fun x1 e1 => ?_
    have g1 : x1.toInt = a5.toInt + 1 := by rw [e1]; exact ti_inc (by omega)
    exact hk2 (a1, a2, x, x1) U ⟨rfl, rfl, FU, mU, i + 1, by dsimp only; omega, by omega, hx⟩
  obtain ⟨d1, d2⟩ := fel_bd a2 i
  have paid : v5.toInt ≤ 0 → v5 = 0 := fun q => of_toInt (by
    have := dg_bd x4 a5
    rw [← q5] at this
    rw [l0]
    omega)
  refine pq_le (fun c5 => nx V a4 FV mV ?_) (fun c5 => ?_)
  · by_cases d : oq S (fel a2 i) (clm (tlW S p3)).1 (clm (tlW S p3)).2.1 = 5
    · exact i3.yes d (by rw [← w5, paid (by omega), Int32.add_zero])
    · exact i3.no d rfl
  refine pq_bd y_cellReached (fun v9 U q => ?_)
  obtain ⟨rfl, q9⟩ := q
  rw [isN9 i1 (by omega)] at q9
  refine pq_bd (y_grip mV) (fun v12 U q => ?_)
  obtain ⟨rfl, q12⟩ := q
  refine pq_bd (y_slip mV) (fun v15 U q => ?_)
  obtain ⟨rfl, q15⟩ := q
  refine pq_bd (y_pays H hO B FV (by rw [q9]; exact d1) d2) (fun v18 U q => ?_)
  obtain ⟨FU, FW, q⟩ := q
  have mU : MR U st (tlW S p3) := mV.fx FW rfl (fun _ => rfl) (fun _ => rfl)
  rw [q12, q15] at q
  rcases q with ⟨q1, q2⟩ | ⟨q1, q2⟩
  · exact pq_bb (fun e => absurd (q1.symm.trans e) (by decide)) (fun _ => pq_iv fun x22 e22 => nx U x22 FU mU (i3.yes q2 (by rw [e22, w5])))
  · exact pq_bb (fun _ => nx U a4 FU mU (i3.no q2 rfl)) (fun e => absurd q1 e)
theorem q7_odds (RT : RI T) (hL : RLv T) (z : ge T 40 0 0 = 0) : pk (F_X7_odds p p2 p3 T) (fun v U => FX WX T U ∧ ((ge U 40 0 0 = 1 ∧ ¬ ie p (ge T 40 0 48)) ∨ (ge U 40 0 0 = 2 ∧ ie p (ge T 40 0 48) ∧ ¬ ic p2) ∨ (ge U 40 0 0 = 3 ∧ ie p (ge T 40 0 48) ∧ ic p2 ∧ ¬ lotk p3) ∨ (ge U 40 0 0 = 0 ∧ ie p (ge T 40 0 48) ∧ ic p2 ∧ lotk p3 ∧ ∃ k : Nat, p.toInt = (k : Int) ∧ ODq T k p2 p3 9 v))) := by
  have l9 : (9 : Int32).toInt = 9 := by decide
  have l0 : (0 : Int32).toInt = 0 := by decide
  obtain ⟨H, hO, B, N, hP, hI, hs, _⟩ := hL.1
  have tO := TOK_of hP hI
  have h48 : 0 ≤ (ge T 40 0 48).toInt := (RT 40 0 48).1
  have if5 : -1 ≤ (ge T 40 0 15).toInt ∧ (ge T 40 0 15).toInt ≤ 5 := by
    obtain ⟨m, m6, _, m40, _⟩ := hP.1
    obtain ⟨_, i2, i3⟩ := hI
    omega
  unfold F_X7_odds
  refine pg7_0 z (pg7_hand h48 (fun c1 => pg_b1 ?_) (fun c1 => pg_b0 ?_))
  · unfold B_X7_odds_19
    refine pg7_ok z (pg7_cell (fun c2 => pg_b1 ?_) (fun c2 => pg_b0 ?_))
    · unfold B_X7_odds_39
      refine pg7_ok z (pg_7 (fun c3 => pg_b1 ?_) (fun c3 => pg_b0 ?_))
      · unfold B_X7_odds_62
        refine pg7_ok z (pq_bd (pq_and (s_F_X7_namesOf 1 T RT).pk q_next) (fun _ V q => ?_))
        obtain ⟨⟨RV, _⟩, FV, nV⟩ := q
        have GV : FX Wcn T V := FV.sub (fun a i j h => W45_t a i j (Wt7_c a i j h))
        obtain ⟨k, hp⟩ : ∃ k : Nat, p.toInt = (k : Int) := ⟨p.toInt.toNat, by have := c1.1; omega⟩
        refine pq_lp (fun (y : Int32 × Int32 × Int32 × Int32 × Int32) V => y.1 = p ∧ y.2.1 = p2 ∧ y.2.2.1 = p3 ∧ RI V ∧ FX Wcn T V ∧ (∀ i : Nat, i < 5 → ge V 45 0 i = env1 T p3 i) ∧ ∃ i : Nat, y.2.2.2.2.toInt = (i : Int) ∧ i ≤ 9 ∧ ODq T k p2 p3 i y.2.2.2.1) (fun _ _ (v : Int32) U => FX WX T U ∧ ((ge U 40 0 0 = 1 ∧ ¬ ie p (ge T 40 0 48)) ∨ (ge U 40 0 0 = 2 ∧ ie p (ge T 40 0 48) ∧ ¬ ic p2) ∨ (ge U 40 0 0 = 3 ∧ ie p (ge T 40 0 48) ∧ ic p2 ∧ ¬ lotk p3) ∨ (ge U 40 0 0 = 0 ∧ ie p (ge T 40 0 48) ∧ ic p2 ∧ lotk p3 ∧ ∃ k : Nat, p.toInt = (k : Int) ∧ ODq T k p2 p3 9 v))) ?_ fuel (p, p2, p3, 0, 0) V ⟨rfl, rfl, rfl, RV, GV, fun i hi => (nV i hi).trans (env1_lt hi 0 p3), 0, l0, Nat.zero_le _, rfl⟩
        intro k2 hk2 y V hy
        obtain ⟨a1, a2, a3, a4, a5⟩ := y
        obtain ⟨f1, f2, f3, RV, GV, nV, i, i1, i2, i3⟩ := hy
        dsimp only at f1 f2 f3 i1 i3
        subst f1
        subst f2
        subst f3
        unfold B_X7_odds_82
        dsimp only
        refine pq_le (fun c9 => pq_some ⟨GV.sub WX_cn, Or.inr (Or.inr (Or.inr ⟨?_, c1, c2, c3, k, hp, ?_⟩))⟩) (fun c9 => ?_)
        · rw [GV.1 40 0 0 rfl]; exact z
        · have : i = 9 := by omega
          rw [this] at i3
          exact i3
        have i9 : i < 9 := by omega
        refine pq_bd q_comesTo (fun v4 U q => ?_)
        obtain ⟨rfl, q4⟩ := q
        rw [isN9 i1 (by omega)] at q4
        obtain ⟨d1, d2⟩ := fel_bd a2 i
        have g4 : v4.toInt = ((fel a2 i : Nat) : Int) := by rw [q4]; exact d1
        refine pq_iv fun x7 e7 => ?_
        rw [GV.1 40 0 15 rfl] at e7
        refine pq_bd (pq_and (s_F_X7_isPaidBy v4 x7 a3 V RV ⟨by omega, by omega, by rw [e7]; exact if5.1, by rw [e7]; exact if5.2⟩).pk (q_paid RV GV H hO (TP_now GV tO nV e7) g4 d2)) (fun v8 U q => ?_)
        obtain ⟨⟨RU, _⟩, FU, nU, q⟩ := q
        have GU := GV.tr FU
        have nU' : ∀ i : Nat, i < 5 → ge U 45 0 i = env1 T a3 i := fun i hi => (nU i (by omega)).trans (nV i hi)
        have nx : ∀ t : Int32, ODq T k a2 a3 (i + 1) (a4 + t) → pk (B_X7_odds_122 k2 a1 a2 a3 a5 t a4 U) (fun v U => FX WX T U ∧ ((ge U 40 0 0 = 1 ∧ ¬ ie a1 (ge T 40 0 48)) ∨ (ge U 40 0 0 = 2 ∧ ie a1 (ge T 40 0 48) ∧ ¬ ic a2) ∨ (ge U 40 0 0 = 3 ∧ ie a1 (ge T 40 0 48) ∧ ic a2 ∧ ¬ lotk a3) ∨ (ge U 40 0 0 = 0 ∧ ie a1 (ge T 40 0 48) ∧ ic a2 ∧ lotk a3 ∧ ∃ k : Nat, a1.toInt = (k : Int) ∧ ODq T k a2 a3 9 v))) := by
          intro t ht
          unfold B_X7_odds_122
          refine pq_iv fun x1 e1 => pq_iv fun x2 e2 => ?_
          have g2 : x2.toInt = a5.toInt + 1 := by rw [e2]; exact ti_inc (by omega)
          exact hk2 (a1, a2, a3, x1, x2) U ⟨rfl, rfl, rfl, RU, GU, nU', i + 1, by dsimp only; omega, by omega, by dsimp only; rw [e1]; exact ht⟩
        rcases q with ⟨q1, q2⟩ | ⟨q1, q2⟩
        · refine pq_bb (fun e => absurd (q1.symm.trans e) (by decide)) (fun _ => pq_gd fun _ => pq_gd fun _ => pq_iv fun x14 e14 => nx x14 (i3.yes q2 ?_))
          rw [e14, cnNq hp, cnNq i1, GU.1 59 k i rfl]
        · exact pq_bb (fun _ => nx 0 (i3.no q2 (Int32.add_zero _))) (fun e => absurd q1 e)
      · unfold B_X7_odds_62
        exact pg7_no z (by decide) (pq_some ⟨FX.rf.wr rfl, Or.inr (Or.inr (Or.inl ⟨ge_pus, c1, c2, c3⟩))⟩)
    · unfold B_X7_odds_39
      exact pg7_no z (by decide) (pq_some ⟨FX.rf.wr rfl, Or.inr (Or.inl ⟨ge_pus, c1, c2⟩)⟩)
  · unfold B_X7_odds_19
    exact pg7_no z (by decide) (pq_some ⟨FX.rf.wr rfl, Or.inl ⟨ge_pus, c1⟩⟩)
theorem rk_odds (h : IV S) (z : ge S 40 0 0 = 0) : RK (fun ec => if ec = 0 then 0 else if ec = 1 then 3 else if ec = 2 then 2 else 1) (F_X6_odds p p2 p3 S) (F_X7_odds p p2 p3) := by
  refine rk_mk (A := fun ec v => (ec = 3 ∧ ¬ ie p (ge S 40 0 48)) ∨ (ec = 2 ∧ ie p (ge S 40 0 48) ∧ ¬ ic p2) ∨ (ec = 1 ∧ ie p (ge S 40 0 48) ∧ ic p2 ∧ ¬ lotk p3) ∨ (ec = 0 ∧ ie p (ge S 40 0 48) ∧ ic p2 ∧ lotk p3 ∧ ∃ k : Nat, p.toInt = (k : Int) ∧ ODq S k p2 p3 9 v)) (C := fun t v => (t = 1 ∧ ¬ ie p (ge S 40 0 48)) ∨ (t = 2 ∧ ie p (ge S 40 0 48) ∧ ¬ ic p2) ∨ (t = 3 ∧ ie p (ge S 40 0 48) ∧ ic p2 ∧ ¬ lotk p3) ∨ (t = 0 ∧ ie p (ge S 40 0 48) ∧ ic p2 ∧ lotk p3 ∧ ∃ k : Nat, p.toInt = (k : Int) ∧ ODq S k p2 p3 9 v)) h z (s_F_X6_odds p p2 p3 S h.1 h.2.1) (fun _ _ q => q.1) (y6_odds h) (fun T RT F hL zT => ?_) (fun ec v t v2 a c => ?_)
  · have s1 : SRq S T := F.sr Ws_r
    refine pq_imp (q7_odds RT hL zT) (fun v U q => ⟨q.1, ?_⟩)
    have q2 := q.2
    have eo : ∀ k : Nat, ODq T k p2 p3 9 = ODq S k p2 p3 9 := fun k => by
      unfold ODq
      have e1 : (fun i => oq T (fel p2 i) (clm (tlW T p3)).1 (clm (tlW T p3)).2.1 = 5) = fun i => oq S (fel p2 i) (clm (tlW S p3)).1 (clm (tlW S p3)).2.1 = 5 := funext fun i => by rw [s1.tlwE, s1.oqE]
      have e2 : (fun (i : Nat) (u : Int32) => u + ge T 59 k i) = fun i u => u + ge S 59 k i := funext fun i => funext fun u => by rw [s1 59 k i (by decide)]
      rw [e1, e2]
    rw [s1 40 0 48 (by decide)] at q2
    simp only [eo] at q2
    exact q2
  · rcases a with ⟨a1, a2⟩ | ⟨a1, a2, a3⟩ | ⟨a1, a2, a3, a4⟩ | ⟨a1, a2, a3, a4, k, a5, a6⟩ <;> rcases c with ⟨c1, c2⟩ | ⟨c1, c2, c3⟩ | ⟨c1, c2, c3, c4⟩ | ⟨c1, c2, c3, c4, k', c5, c6⟩
    · exact ⟨by rw [a1, c1]; rfl, fun q => by omega⟩
    · exact absurd c2 a2
    · exact absurd c2 a2
    · exact absurd c2 a2
    · exact absurd a2 c2
    · exact ⟨by rw [a1, c1]; rfl, fun q => by omega⟩
    · exact absurd c3 a3
    · exact absurd c3 a3
    · exact absurd a2 c2
    · exact absurd a3 c3
    · exact ⟨by rw [a1, c1]; rfl, fun q => by omega⟩
    · exact absurd c4 a4
    · exact absurd a2 c2
    · exact absurd a3 c3
    · exact absurd a4 c4
    · have ek : k' = k := by omega
      rw [ek] at c6
      exact ⟨by rw [a1, c1]; rfl, fun _ => ACC.un a6 c6⟩
end ODD
