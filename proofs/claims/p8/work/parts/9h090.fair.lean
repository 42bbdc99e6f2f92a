/-! fair -/
section FAI
variable {S T V : fS} {p g s : Int32}
def PCq (S : fS) (g s : Int32) (n : Nat) (v : Int32) : Prop := ACC (fun c => oq S c g s = 5) (fun _ u => u + 1) n v
def gAt (j : Nat) (g : Int32) : Prop := g.toInt = 10 + 10 * ((j % 9 : Nat) : Int)
def sAt (j : Nat) (s : Int32) : Prop := s.toInt = 8 - 2 * ((j / 9 : Nat) : Int)
/-- at this step too few cells pay -/
def LOWq (S : fS) (p : Int32) (j : Nat) : Prop := ∃ g s n : Int32, gAt j g ∧ sAt j s ∧ PCq S g s 64 n ∧ n.toInt < p.toInt
def FAq (S : fS) (p v : Int32) : Prop := (v = -1 ∧ ∀ j : Nat, j < 45 → LOWq S p j) ∨ ∃ (j : Nat) (g s : Int32), j < 45 ∧ gAt j g ∧ sAt j s ∧ v = (100 : Int32) * g + s ∧ ¬ LOWq S p j ∧ ∀ j' : Nat, j' < j → LOWq S p j'
theorem FAq.un {v u : Int32} (h : FAq S p v) (h' : FAq S p u) : v = u := by
  rcases h with ⟨a, b⟩ | ⟨j, g, s, a, b, c, d, e, f⟩ <;> rcases h' with ⟨a', b'⟩ | ⟨j', g', s', a', b', c', d', e', f'⟩
  · rw [a, a']
  · exact absurd (b j' a') e'
  · exact absurd (b' j a) e
  · have ej : j = j' := by
      by_cases z : j < j'
      · exact absurd (f' j z) e
      · by_cases y : j' < j
        · exact absurd (f j' y) e'
        · omega
    rw [← ej] at b' c'
    unfold gAt sAt at *
    have eg : g = g' := of_toInt (b.trans b'.symm)
    have es : s = s' := of_toInt (c.trans c'.symm)
    rw [d, d', eg, es]
theorem LOWq.no {j : Nat} {n : Int32} (hg : gAt j g) (hs : sAt j s) (hn : PCq S g s 64 n) (h : p.toInt ≤ n.toInt) : ¬ LOWq S p j := by
  rintro ⟨g', s', n', a, b, c, d⟩
  unfold gAt sAt at *
  have eg : g' = g := of_toInt (a.trans hg.symm)
  have es : s' = s := of_toInt (b.trans hs.symm)
  rw [eg, es] at c
  have en := ACC.un c hn
  rw [en] at d
  omega
theorem m2_ti {x : Int32} (h : -2147483646 ≤ x.toInt) : (x + Int32.ofInt (-2)).toInt = x.toInt - 2 := by
  have l : (Int32.ofInt (-2)).toInt = -2 := by decide
  have := ti_bd x
  rw [ti_add (by rw [l]; omega) (by rw [l]; omega), l]
  omega
theorem p10_ti {x : Int32} (h : x.toInt ≤ 2147483637) : (x + Int32.ofInt 10).toInt = x.toInt + 10 := by
  have l : (Int32.ofInt 10).toInt = 10 := by decide
  have := ti_bd x
  rw [ti_add (by rw [l]; omega) (by rw [l]; omega), l]
theorem y_cellsPaying (H : HVq S) (hO : HOq S) (B : BVq S 0) (F : FX (WscR 0) S V) : pk (F_X6_cellsPaying g s V) (fun v T => FX (WscR 0) S T ∧ PCq S g s 64 v) := by
  have l0 : (0 : Int32).toInt = 0 := by decide
  have l64 : (64 : Int32).toInt = 64 := by decide
  unfold F_X6_cellsPaying
  refine pq_lp (fun (y : Int32 × Int32 × Int32 × Int32) V => y.1 = g ∧ y.2.1 = s ∧ FX (WscR 0) S V ∧ ∃ i : Nat, y.2.2.2.toInt = (i : Int) ∧ i ≤ 64 ∧ PCq S g s i y.2.2.1) (fun _ _ (v : Int32) T => FX (WscR 0) S T ∧ PCq S g s 64 v) ?_ fuel (g, s, 0, 0) V ⟨rfl, rfl, F, 0, l0, Nat.zero_le _, rfl⟩
  intro k hk y V hy
  obtain ⟨a1, a2, a3, a4⟩ := y
  obtain ⟨f1, f2, FV, i, i1, i2, i3⟩ := hy
  dsimp only at f1 f2 i1 i3
  subst f1
  subst f2
  unfold B_X6_cellsPaying_5
  dsimp only
  refine pq_le (fun c0 => pq_some ⟨FV, ?_⟩) (fun c0 => ?_)
  · have : i = 64 := by omega
    rw [this] at i3
    exact i3
  refine pq_bd (y_pays H hO B FV i1 (by omega)) (fun v U q => ?_)
  obtain ⟨FU, _, q⟩ := q
  have nx : ∀ t : Int32, PCq S a1 a2 (i + 1) (a3 + t) → pk (B_X6_cellsPaying_33 k a1 a2 a4 t a3 U) (fun v T => FX (WscR 0) S T ∧ PCq S a1 a2 64 v) := by
    intro t ht
    unfold B_X6_cellsPaying_33
    refine pq_iv fun x1 e1 => pq_iv fun x2 e2 => ?_
    have g2 : x2.toInt = a4.toInt + 1 := by rw [e2]; exact ti_inc (by omega)
    exact hk (a1, a2, x1, x2) U ⟨rfl, rfl, FU, i + 1, by dsimp only; omega, by omega, by dsimp only; rw [e1]; exact ht⟩
  rcases q with ⟨q1, q2⟩ | ⟨q1, q2⟩
  · exact pq_bb (fun e => absurd (q1.symm.trans e) (by decide)) (fun _ => nx 1 (i3.yes q2 rfl))
  · exact pq_bb (fun _ => nx 0 (i3.no q2 (Int32.add_zero _))) (fun e => absurd q1 e)
def many (p : Int32) : Prop := (0 : Int32).toInt ≤ p.toInt ∧ p.toInt ≤ (64 : Int32).toInt
theorem y6_fair (h : IV S) : pk (F_X6_fair p S) (fun r T => FX (WscR 0) S T ∧ ((r.1 = 1 ∧ ¬ many p) ∨ (r.1 = 0 ∧ many p ∧ FAq S p r.2))) := by
  have l0 : (0 : Int32).toInt = 0 := by decide
  have l8 : (8 : Int32).toInt = 8 := by decide
  have l10 : (10 : Int32).toInt = 10 := by decide
  have l90 : (90 : Int32).toInt = 90 := by decide
  obtain ⟨H, hO, B, _⟩ := h.2.2.2.1
  unfold F_X6_fair
  refine pg_w (fun hc => pg_n1 ?_) (fun hc => pg_n0 ⟨FX.rf, Or.inl ⟨rfl, hc⟩⟩)
  refine pq_lp (fun (y : Int32 × Int32) V => y.1 = p ∧ FX (WscR 0) S V ∧ ∃ a : Nat, y.2.toInt = 8 - 2 * (a : Int) ∧ a ≤ 5 ∧ ∀ j : Nat, j < 9 * a → LOWq S p j) (fun _ _ (r : Nat × Int32) T => FX (WscR 0) S T ∧ ((r.1 = 1 ∧ ¬ many p) ∨ (r.1 = 0 ∧ many p ∧ FAq S p r.2))) ?_ fuel (p, 8) S ⟨rfl, FX.rf, 0, l8, by omega, fun j hj => absurd hj (by omega)⟩
  intro k13 hk13 y V hy
  obtain ⟨a1, a2⟩ := y
  obtain ⟨f1, FV, a, i1, i2, i3⟩ := hy
  dsimp only at f1 i1
  subst f1
  unfold B_X6_fair_13
  dsimp only
  refine pq_lt (fun c0 => pq_some ⟨FV, Or.inr ⟨rfl, hc, Or.inl ⟨rfl, fun j hj => i3 j (by omega)⟩⟩⟩) (fun c0 => ?_)
  refine pq_lp (fun (w : Int32 × Int32 × Int32) V => w.1 = a1 ∧ w.2.1 = a2 ∧ FX (WscR 0) S V ∧ ∃ b : Nat, w.2.2.toInt = 10 + 10 * (b : Int) ∧ b ≤ 9 ∧ ∀ j : Nat, j < 9 * a + b → LOWq S a1 j) (fun _ _ (r : Nat × Int32) T => FX (WscR 0) S T ∧ ((r.1 = 1 ∧ ¬ many a1) ∨ (r.1 = 0 ∧ many a1 ∧ FAq S a1 r.2))) ?_ fuel (a1, a2, 10) V ⟨rfl, rfl, FV, 0, l10, by omega, fun j hj => i3 j (by omega)⟩
  intro k20 hk20 w V hw
  obtain ⟨b1, b2, b3⟩ := w
  obtain ⟨g1, g2, FV, b, j1, j2, j3⟩ := hw
  dsimp only at g1 g2 j1
  subst g1
  subst g2
  unfold B_X6_fair_20
  dsimp only
  refine pq_lt (fun c1 => pq_iv fun x2 e2 => ?_) (fun c1 => ?_)
  · have g2 : x2.toInt = b2.toInt - 2 := by rw [e2]; exact m2_ti (by omega)
    exact hk13 (b1, x2) V ⟨rfl, FV, a + 1, by dsimp only; omega, by omega, fun j hj => j3 j (by omega)⟩
  have ga : gAt (9 * a + b) b3 := by unfold gAt; omega
  have sa : sAt (9 * a + b) b2 := by unfold sAt; omega
  refine pq_bd (y_cellsPaying H hO B FV) (fun v U q => ?_)
  obtain ⟨FU, q⟩ := q
  refine pq_lt (fun c2 => pq_iv fun x7 e7 => ?_) (fun c2 => pq_iv fun x8 e8 => pq_iv fun x9 e9 => pq_some ⟨FU, Or.inr ⟨rfl, hc, Or.inr ⟨9 * a + b, b3, b2, by omega, ga, sa, by rw [e9, e8], LOWq.no ga sa q c2, j3⟩⟩⟩)
  have g7 : x7.toInt = b3.toInt + 10 := by rw [e7]; exact p10_ti (by omega)
  refine hk20 (b1, b2, x7) U ⟨rfl, rfl, FU, b + 1, by dsimp only; omega, by omega, fun j hj => ?_⟩
  by_cases d : j = 9 * a + b
  · rw [d]; exact ⟨b3, b2, v, ga, sa, q, c2⟩
  · exact j3 j (by omega)
theorem q7_fair (hL : RLv T) (z : ge T 40 0 0 = 0) : pk (F_X7_fair p T) (fun v U => FX WX T U ∧ ((ge U 40 0 0 = 1 ∧ ¬ many p) ∨ (ge U 40 0 0 = 0 ∧ many p ∧ FAq T p v))) := by
  have l0 : (0 : Int32).toInt = 0 := by decide
  have l8 : (8 : Int32).toInt = 8 := by decide
  have l10 : (10 : Int32).toInt = 10 := by decide
  have l90 : (90 : Int32).toInt = 90 := by decide
  have l64 : (64 : Int32).toInt = 64 := by decide
  obtain ⟨H, hO, _⟩ := hL.1
  unfold F_X7_fair
  refine pg7_0 z (pg_7 (fun hc => pg_b1 ?_) (fun hc => pg_b0 ?_))
  · unfold B_X7_fair_21
    refine pg7_ok z ?_
    have zz : ∀ V : fS, FX Wcn T V → ge V 40 0 0 = 0 := fun V FV => by rw [FV.1 40 0 0 rfl]; exact z
    refine pq_lp (fun (y : Int32 × Int32) V => y.1 = p ∧ FX Wcn T V ∧ ∃ a : Nat, y.2.toInt = 8 - 2 * (a : Int) ∧ a ≤ 5 ∧ ∀ j : Nat, j < 9 * a → LOWq T p j) (fun _ _ (v : Int32) U => FX WX T U ∧ ((ge U 40 0 0 = 1 ∧ ¬ many p) ∨ (ge U 40 0 0 = 0 ∧ many p ∧ FAq T p v))) ?_ fuel (p, 8) T ⟨rfl, FX.rf, 0, l8, by omega, fun j hj => absurd hj (by omega)⟩
    intro k13 hk13 y V hy
    obtain ⟨a1, a2⟩ := y
    obtain ⟨f1, FV, a, i1, i2, i3⟩ := hy
    dsimp only at f1 i1
    subst f1
    unfold B_X7_fair_33
    dsimp only
    refine pq_lt (fun c0 => pq_some ⟨FV.sub WX_cn, Or.inr ⟨zz V FV, hc, Or.inl ⟨rfl, fun j hj => i3 j (by omega)⟩⟩⟩) (fun c0 => ?_)
    refine pq_lp (fun (w : Int32 × Int32 × Int32) V => w.1 = a1 ∧ w.2.1 = a2 ∧ FX Wcn T V ∧ ∃ b : Nat, w.2.2.toInt = 10 + 10 * (b : Int) ∧ b ≤ 9 ∧ ∀ j : Nat, j < 9 * a + b → LOWq T a1 j) (fun _ _ (v : Int32) U => FX WX T U ∧ ((ge U 40 0 0 = 1 ∧ ¬ many a1) ∨ (ge U 40 0 0 = 0 ∧ many a1 ∧ FAq T a1 v))) ?_ fuel (a1, a2, 10) V ⟨rfl, rfl, FV, 0, l10, by omega, fun j hj => i3 j (by omega)⟩
    intro k20 hk20 w V hw
    obtain ⟨b1, b2, b3⟩ := w
    obtain ⟨g1, g2, FV, b, j1, j2, j3⟩ := hw
    dsimp only at g1 g2 j1
    subst g1
    subst g2
    unfold B_X7_fair_40
    dsimp only
    refine pq_lt (fun c1 => pq_iv fun x2 e2 => ?_) (fun c1 => ?_)
    · have g2 : x2.toInt = b2.toInt - 2 := by rw [e2]; exact m2_ti (by omega)
      exact hk13 (b1, x2) V ⟨rfl, FV, a + 1, by dsimp only; omega, by omega, fun j hj => j3 j (by omega)⟩
    have ga : gAt (9 * a + b) b3 := by unfold gAt; omega
    have sa : sAt (9 * a + b) b2 := by unfold sAt; omega
    refine pq_lp (fun (w : Int32 × Int32 × Int32 × Int32 × Int32) V => w.1 = b1 ∧ w.2.1 = b2 ∧ w.2.2.1 = b3 ∧ FX Wcn T V ∧ ∃ i : Nat, w.2.2.2.2.toInt = (i : Int) ∧ i ≤ 64 ∧ PCq T b3 b2 i w.2.2.2.1) (fun _ _ (v : Int32) U => FX WX T U ∧ ((ge U 40 0 0 = 1 ∧ ¬ many b1) ∨ (ge U 40 0 0 = 0 ∧ many b1 ∧ FAq T b1 v))) ?_ fuel (b1, b2, b3, 0, 0) V ⟨rfl, rfl, rfl, FV, 0, l0, Nat.zero_le _, rfl⟩
    intro k52 hk52 x V hx
    obtain ⟨d1, d2, d3, d4, d5⟩ := x
    obtain ⟨u1, u2, u3, FV, i, n1, n2, n3⟩ := hx
    dsimp only at u1 u2 u3 n1 n3
    subst u1
    subst u2
    subst u3
    unfold B_X7_fair_52
    dsimp only
    refine pq_le (fun c3 => ?_) (fun c3 => ?_)
    · have e64 : i = 64 := by omega
      rw [e64] at n3
      refine pq_lt (fun c2 => pq_iv fun x7 e7 => ?_) (fun c2 => pq_iv fun x8 e8 => pq_iv fun x9 e9 => pq_some ⟨FV.sub WX_cn, Or.inr ⟨zz V FV, hc, Or.inr ⟨9 * a + b, d3, d2, by omega, ga, sa, by rw [e9, e8], LOWq.no ga sa n3 c2, j3⟩⟩⟩)
      have g7 : x7.toInt = d3.toInt + 10 := by rw [e7]; exact p10_ti (by omega)
      refine hk20 (d1, d2, x7) V ⟨rfl, rfl, FV, b + 1, by dsimp only; omega, by omega, fun j hj => ?_⟩
      by_cases d : j = 9 * a + b
      · rw [d]; exact ⟨d3, d2, d4, ga, sa, n3, c2⟩
      · exact j3 j (by omega)
    obtain ⟨o1, H1, O1, _⟩ := SRc FV d3 d2 i
    refine pq_bd (q_wouldBe (H1 H) n1 (by omega) (O1 hO)) (fun v U q => ?_)
    obtain ⟨FU, o, _⟩ := q
    rw [o1] at o
    have GU : FX Wcn T U := FV.tr (FU.sub Wgr_c)
    have nx : ∀ t : Int32, PCq T d3 d2 (i + 1) (d4 + t) → pk (B_X7_fair_78 k13 k20 k52 d1 d2 d3 d5 t d4 U) (fun v U => FX WX T U ∧ ((ge U 40 0 0 = 1 ∧ ¬ many d1) ∨ (ge U 40 0 0 = 0 ∧ many d1 ∧ FAq T d1 v))) := by
      intro t ht
      unfold B_X7_fair_78
      refine pq_iv fun x1 e1 => pq_iv fun x2 e2 => ?_
      have g2 : x2.toInt = d5.toInt + 1 := by rw [e2]; exact ti_inc (by omega)
      exact hk52 (d1, d2, d3, x1, x2) U ⟨rfl, rfl, rfl, GU, i + 1, by dsimp only; omega, by omega, by dsimp only; rw [e1]; exact ht⟩
    exact pq_bb (fun c2 => nx 1 (n3.yes (o.symm.trans c2) rfl)) (fun c2 => nx 0 (n3.no (fun q => c2 (o.trans q)) (Int32.add_zero _)))
  · unfold B_X7_fair_21
    exact pg7_no z (by decide) (pq_some ⟨FX.rf.wr rfl, Or.inl ⟨ge_pus, hc⟩⟩)
theorem rk_fair (h : IV S) (z : ge S 40 0 0 = 0) : RK (fun ec => if ec = 0 then 0 else 1) (F_X6_fair p S) (F_X7_fair p) := by
  refine rk_mk (A := fun ec v => (ec = 1 ∧ ¬ many p) ∨ (ec = 0 ∧ many p ∧ FAq S p v)) (C := fun ec v => (ec = 1 ∧ ¬ many p) ∨ (ec = 0 ∧ many p ∧ FAq S p v)) h z (s_F_X6_fair p S h.1) (fun _ _ q => q.1) (y6_fair h) (fun T RT F hL zT => ?_) (fun ec v t' v2 a c => ?_)
  · have s1 : SRq S T := F.sr Ws_r
    refine pq_imp (q7_fair hL zT) (fun v U q => ⟨q.1, ?_⟩)
    have q2 := q.2
    have ep : ∀ g s : Int32, PCq T g s = PCq S g s := fun g s => by
      unfold PCq
      rw [show (fun c => oq T c g s = 5) = fun c => oq S c g s = 5 from funext fun c => by rw [s1.oqE]]
    have el : LOWq T p = LOWq S p := by
      unfold LOWq
      simp only [ep]
    have ef : FAq T p = FAq S p := by
      unfold FAq
      rw [el]
    rw [ef] at q2
    exact q2
  · rcases a with ⟨a1, a2⟩ | ⟨a1, a2, a4⟩ <;> rcases c with ⟨c1, c2⟩ | ⟨c1, c2, c4⟩
    · exact ⟨by rw [a1, c1]; rfl, fun q => by omega⟩
    · exact absurd c2 a2
    · exact absurd a2 c2
    · exact ⟨by rw [a1, c1]; rfl, fun _ => a4.un c4⟩
end FAI
