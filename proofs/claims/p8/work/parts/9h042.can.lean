/-! can: whether a try could be paid, on both sides alike -/
noncomputable def tlS (S : fS) (lot : Nat) : G3 := Classical.epsilon (fun g => TLq S (Int32.ofNat lot) g)
noncomputable def grS (S : fS) (lot : Nat) : Int32 := (clm (tlS S lot)).1
noncomputable def slS (S : fS) (lot : Nat) : Int32 := (clm (tlS S lot)).2.1
noncomputable def loS (S : fS) : Nat := (clm (tlS S 0)).2.2.toNatClampNeg
def TOK (S : fS) : Prop := ∀ lot : Int32, ∃ g : G3, TLq S lot g
theorem tlS_ok {S : fS} (h : TOK S) (lot : Nat) : TLq S (Int32.ofNat lot) (tlS S lot) := Classical.epsilon_spec (h (Int32.ofNat lot))
theorem tlS_un {S : fS} {lot : Nat} {g : G3} (h : TLq S (Int32.ofNat lot) g) : g = tlS S lot := TPq.un h (Classical.epsilon_spec (p := fun g => TLq S (Int32.ofNat lot) g) ⟨g, h⟩)
theorem TOK_of {S : fS} (hP : PGq S) (hI : IFq S) : TOK S := fun lot => TPq.ex hP hI.2.1 hI.2.2 (env1 S lot)
theorem cw_bd {v lo hi : Int32} (h : lo.toInt ≤ hi.toInt) : lo.toInt ≤ (cwq v lo hi).toInt ∧ (cwq v lo hi).toInt ≤ hi.toInt := by
  unfold cwq
  by_cases c : v < lo
  · rw [if_pos c]; omega
  · rw [if_neg c]
    have := nlt_toInt c
    by_cases c2 : hi < v
    · rw [if_pos c2]; omega
    · rw [if_neg c2]
      have := nlt_toInt c2
      omega
theorem loS_bd (S : fS) : 1 ≤ loS S ∧ loS S ≤ 36 ∧ (clm (tlS S 0)).2.2.toInt = (loS S : Int) := by
  have l1 : (1 : Int32).toInt = 1 := by decide
  have l36 : (36 : Int32).toInt = 36 := by decide
  have b : (1 : Int32).toInt ≤ (clm (tlS S 0)).2.2.toInt ∧ (clm (tlS S 0)).2.2.toInt ≤ (36 : Int32).toInt := cw_bd (v := (tlS S 0).2.2) (lo := 1) (hi := 36) (by decide)
  have e := cn_eq (x := (clm (tlS S 0)).2.2) (by omega)
  unfold loS
  omega
/-- paid at c by a lot -/
def PYq (S : fS) (c lot : Nat) : Prop := oq S c (grS S lot) (slS S lot) = 5
def PAq (S : fS) (all : Bool) (c : Nat) : Prop := if all then ∀ lot : Nat, lot < loS S → PYq S c lot else ∃ lot : Nat, lot < loS S ∧ PYq S c lot
/-- the least such cell -/
def CAN (P : Nat → Prop) (v : Int32) : Prop := (v = -1 ∧ ∀ c : Nat, c < 64 → ¬ P c) ∨ ∃ c : Nat, c < 64 ∧ v.toInt = (c : Int) ∧ P c ∧ ∀ c' : Nat, c' < c → ¬ P c'
theorem CAN.un {P : Nat → Prop} {v u : Int32} (h : CAN P v) (h' : CAN P u) : v = u := by
  rcases h with ⟨a, b⟩ | ⟨c, c1, c2, c3, c4⟩ <;> rcases h' with ⟨a', b'⟩ | ⟨d, d1, d2, d3, d4⟩
  · rw [a, a']
  · exact absurd d3 (b d d1)
  · exact absurd c3 (b' c c1)
  · refine of_toInt ?_
    by_cases z : c < d
    · exact absurd c3 (d4 c z)
    · by_cases z2 : d < c
      · exact absurd d3 (c4 d z2)
      · omega
section CAS
variable {S T : fS} {c : Nat} {all : Bool} {p : Int32}
theorem oNi {lot : Nat} {x : Int32} (h : x.toInt = (lot : Int)) (hl : lot ≤ 300) : x = Int32.ofNat lot := ofN h hl
theorem y_tellLots (N : NBq S 0) (hP : PGq S) (hI : IFq S) : pk (F_X6_tellLots S) (fun v T => FX (WscR 0) S T ∧ v.toInt = (loS S : Int) ∧ ∀ lot : Nat, lot < loS S → ge T 27 0 lot = grS S lot ∧ ge T 28 0 lot = slS S lot) := by
  have l0 : (0 : Int32).toInt = 0 := by decide
  have l36 : (36 : Int32).toInt = 36 := by decide
  have TO := TOK_of hP hI
  have lb := loS_bd S
  unfold F_X6_tellLots
  refine pq_bd (y_codeInForce hP hI) (fun x U q => ?_)
  obtain ⟨rfl, qx⟩ := q
  refine pq_bd y_nameNext (fun _ S2 q => ?_)
  obtain ⟨F2, n4, n5, n6, n7, n8⟩ := q
  have G2 : FX (WscR 0) S S2 := F2.sub Wn_s
  -- a run at any lot
  have run : ∀ (V : fS) (lot : Nat), lot ≤ 300 → FX (WscR 0) S2 V → (∀ j : Nat, ge V 25 0 j = ge S2 25 0 j) → pk (F_X3_run x 0 (Int32.ofNat lot) V) (fun _ X => FX Wmq V X ∧ ∃ st : List Int32, MR X st (tlS S lot)) := by
    intro V lot hlot FV e25
    have GV : FX (WscR 0) S V := G2.tr FV
    have sV : SRq S V := GV.sr Ws_r
    have cV : COq V (ge S 40 0 15).toInt x := by
      rcases qx with h | ⟨t, c, a1, a2, a3, a4⟩
      · exact Or.inl h
      · exact Or.inr ⟨t, c, a1, a2, a3, a4.fx GV rfl (fun _ => rfl) (fun _ => rfl)⟩
    refine pq_imp (y_runq cV (Int32.ofNat lot)) (fun _ X q => ?_)
    obtain ⟨FX1, st, g, m, t⟩ := q
    refine ⟨FX1, st, ?_⟩
    have tg : TLq S (Int32.ofNat lot) g := by
      refine sV.TPr (t.cg (fun i hi => ?_))
      refine envT_1 (S := S) N (by rw [e25]; exact n4) (by rw [e25]; exact n5) (by rw [e25]; exact n6) (by rw [e25]; exact n7) (by rw [e25]; exact n8) i hi
    rw [← tlS_un tg]
    exact m
  refine pq_bd (run S2 0 (by decide) FX.rf (fun _ => rfl)) (fun _ S3 q => ?_)
  obtain ⟨F3, st, m3⟩ := q
  have e25 : ∀ j : Nat, ge S3 25 0 j = ge S2 25 0 j := fun j => F3.1 25 0 j rfl
  refine pq_bd (y_lots m3) (fun v U q => ?_)
  obtain ⟨rfl, qv⟩ := q
  have gv : v.toInt = (loS S : Int) := by rw [qv]; exact lb.2.2
  refine pq_lp (fun (z : Option Nat × Int32 × Int32) V => z.1 = x ∧ z.2.1 = v ∧ FX (WscR 0) S2 V ∧ (∀ j : Nat, ge V 25 0 j = ge S2 25 0 j) ∧ ∃ i : Nat, z.2.2.toInt = (i : Int) ∧ i ≤ loS S ∧ ∀ lot : Nat, lot < i → ge V 27 0 lot = grS S lot ∧ ge V 28 0 lot = slS S lot) (fun _ _ (v : Int32) T => FX (WscR 0) S T ∧ v.toInt = (loS S : Int) ∧ ∀ lot : Nat, lot < loS S → ge T 27 0 lot = grS S lot ∧ ge T 28 0 lot = slS S lot) ?_ fuel (x, v, 0) S3 ⟨rfl, rfl, F3.sub Wm_s, e25, 0, l0, Nat.zero_le _, fun lot h => absurd h (Nat.not_lt_zero _)⟩
  intro k hk z V hz
  obtain ⟨a1, a2, a3⟩ := z
  obtain ⟨e1, e2, FV, eV, i, i1, i2, i3⟩ := hz
  dsimp only at e1 e2 i1
  subst e1
  subst e2
  unfold B_X6_tellLots_39
  dsimp only
  refine pq_le (fun c0 => pq_some ⟨G2.tr FV, gv, fun lot hl => i3 lot (by omega)⟩) (fun c0 => ?_)
  refine pq_le (fun c1 => absurd c1 (by omega)) (fun _ => ?_)
  rw [oNi i1 (by omega)]
  refine pq_bd (run V i (by omega) FV eV) (fun _ S4 q => ?_)
  obtain ⟨F4, st4, m4⟩ := q
  refine pq_bd (y_grip m4) (fun v6 U q => ?_)
  obtain ⟨rfl, q6⟩ := q
  have gi : (Int32.ofNat i).toInt = (i : Int) := by rw [← oNi i1 (by omega)]; exact i1
  rw [cnNq gi]
  refine pq_gd fun _ => ?_
  refine pq_sv fun S10 E10 => ?_
  have m10 : MR S10 st4 (tlS S i) := by
    have FA : FX (fun a i j => Nat.beq a 27) S4 S10 := by rw [E10]; exact FX.rf.wr rfl
    exact m4.fx FA rfl (fun _ => rfl) (fun _ => rfl)
  refine pq_bd (y_slip m10) (fun v11 U q => ?_)
  obtain ⟨rfl, q11⟩ := q
  refine pq_gd fun _ => ?_
  refine pq_sv fun S15 E15 => ?_
  refine pq_iv fun x16 e16 => ?_
  have g16 : x16.toInt = (i : Int) + 1 := by rw [e16, ti_inc (by omega), gi]
  have F4' : FX (WscR 0) S2 S4 := FV.tr (F4.sub Wm_s)
  have F10 : FX (WscR 0) S2 S10 := by rw [E10]; exact F4'.wr rfl
  have F15 : FX (WscR 0) S2 S15 := by rw [E15]; exact F10.wr rfl
  refine hk (a1, a2, x16) S15 ⟨rfl, rfl, F15, fun j => ?_, i + 1, by dsimp only; omega, by omega, fun lot hl => ?_⟩
  · rw [E15, ge_pua (by decide), E10, ge_pua (by decide), F4.1 25 0 j rfl]; exact eV j
  · by_cases d : lot = i
    · refine ⟨?_, ?_⟩
      · rw [d, E15, ge_pua (by decide), E10, ge_pus, q6]; rfl
      · rw [d, E15, ge_pus, q11]; rfl
    · obtain ⟨u1, u2⟩ := i3 lot (by omega)
      refine ⟨?_, ?_⟩
      · rw [E15, ge_pua (by decide), E10, ge_puj d, F4.1 27 0 lot rfl]; exact u1
      · rw [E15, ge_puj d, E10, ge_pua (by decide), F4.1 28 0 lot rfl]; exact u2
/-- the probe looks at c and judges at each lot's force -/
theorem y_paysByLots {a2 : Int32} {V : fS} (hL : LOq S V 0 c) (h6 : ge V 25 0 1 = 6) (hp : p.toInt = (loS S : Int)) (ha : a2 = if all then 1 else 0) (hT : ∀ lot : Nat, lot < loS S → ge V 27 0 lot = grS S lot ∧ ge V 28 0 lot = slS S lot) : pk (F_X6_paysByLots p a2 V) (fun v U => V = U ∧ ((v = 0 ∧ ¬ PAq S all c) ∨ (¬ v = 0 ∧ PAq S all c))) := by
  have l0 : (0 : Int32).toInt = 0 := by decide
  have l36 : (36 : Int32).toInt = 36 := by decide
  have lb := loS_bd S
  unfold F_X6_paysByLots
  refine pq_lp (fun (z : Int32 × Int32 × Int32) T => V = T ∧ z.1 = p ∧ z.2.1 = a2 ∧ ∃ i : Nat, z.2.2.toInt = (i : Int) ∧ i ≤ loS S ∧ ∀ lot : Nat, lot < i → (PYq S c lot ↔ all = true)) (fun _ _ (v : Int32) U => V = U ∧ ((v = 0 ∧ ¬ PAq S all c) ∨ (¬ v = 0 ∧ PAq S all c))) ?_ fuel (p, a2, 0) V ⟨rfl, rfl, rfl, 0, l0, Nat.zero_le _, fun lot h => absurd h (Nat.not_lt_zero _)⟩
  intro k hk z T hz
  obtain ⟨b1, b2, b3⟩ := z
  obtain ⟨rfl, e1, e2, i, i1, i2, i3⟩ := hz
  dsimp only at e1 e2 i1
  subst e1
  subst e2
  have stop : i = loS S → V = V ∧ ((b2 = 0 ∧ ¬ PAq S all c) ∨ (¬ b2 = 0 ∧ PAq S all c)) := by
    intro e
    rw [e] at i3
    refine ⟨rfl, ?_⟩
    unfold PAq
    cases all with
    | true =>
      refine Or.inr ⟨by rw [ha]; decide, ?_⟩
      rw [if_pos rfl]
      exact fun lot hl => (i3 lot hl).2 rfl
    | false =>
      refine Or.inl ⟨by rw [ha]; decide, ?_⟩
      rw [if_neg (by decide)]
      rintro ⟨lot, hl, q⟩
      exact absurd ((i3 lot hl).1 q) (by decide)
  unfold B_X6_paysByLots_2
  dsimp only
  refine pq_le (fun c0 => pq_gd fun _ => pq_some (stop (by omega))) (fun c0 => ?_)
  refine pq_le (fun c1 => absurd c1 (by omega)) (fun _ => ?_)
  rw [cnNq i1]
  have hil : i < loS S := by omega
  obtain ⟨t1, t2⟩ := hT i hil
  refine pq_gd fun _ => ?_
  refine pq_iv fun x9 e9 => ?_
  refine pq_gd fun _ => ?_
  refine pq_iv fun x11 e11 => ?_
  rw [t1] at e9
  rw [t2] at e11
  rw [e9, e11]
  have J := y_judge (g := grS S i) (s := slS S i) hL y_fs0
  -- the two calls as one
  have K : ∀ (k2 : Int32 → fS → Option (Int32 × fS)) (Q : Int32 → fS → Prop), (∀ v : Int32, v = oq S c (grS S i) (slS S i) → pk (k2 v V) Q) → pk (bd (F_X5_failingStep 0 (grS S i) (slS S i) V) (fun v12 S13 => bd (F_X5_outcomeAt 0 v12 S13) (fun v15 S16 => k2 v15 S16))) Q := by
    intro k2 Q h
    intro v U e
    obtain ⟨v12, S13, f1, f2⟩ := bd_some e
    obtain ⟨v15, S16, f3, f4⟩ := bd_some f2
    have z := J v15 S16 (by rw [f1]; exact f3)
    obtain ⟨z1, z2⟩ := z
    subst z1
    exact h v15 z2 v U f4
  refine K _ _ (fun v15 q15 => ?_)
  have nx : ∀ t : Int32, ((t = 1 ∧ PYq S c i) ∨ (t = 0 ∧ ¬ PYq S c i)) → pk (B_X6_paysByLots_52 k b1 b2 b3 t V) (fun v U => V = U ∧ ((v = 0 ∧ ¬ PAq S all c) ∨ (¬ v = 0 ∧ PAq S all c))) := by
    intro t ht
    unfold B_X6_paysByLots_52
    refine pq_bb (fun c2 => ?_) (fun c2 => ?_)
    · refine pq_iv fun x2 e2 => ?_
      have g2 : x2.toInt = b3.toInt + 1 := by rw [e2]; exact ti_inc (by omega)
      refine hk (b1, b2, x2) V ⟨rfl, rfl, rfl, i + 1, by dsimp only; omega, by omega, fun lot hl => ?_⟩
      by_cases d : lot = i
      · rw [d]
        rw [c2, ha] at ht
        cases all with
        | true => exact ⟨fun _ => rfl, fun _ => ht.elim (fun q => q.2) (fun q => absurd q.1 (by decide))⟩
        | false => exact ⟨fun q => (ht.elim (fun q => absurd q.1 (by decide)) (fun q2 => absurd q q2.2)), fun q => absurd q (by decide)⟩
      · exact i3 lot (by omega)
    · refine pq_bb (fun c3 => ?_) (fun c3 => ?_)
      · refine pq_some ⟨rfl, Or.inr ⟨by decide, ?_⟩⟩
        have hall : all = false := by
          cases all with
          | true => rw [ha] at c3; exact absurd c3 (by decide)
          | false => rfl
        unfold PAq
        rw [hall, if_neg (by decide)]
        exact ⟨i, hil, ht.elim (fun q => q.2) (fun q => absurd (q.1.trans c3.symm) c2)⟩
      · refine pq_some ⟨rfl, Or.inl ⟨rfl, ?_⟩⟩
        have hall : all = true := by
          cases all with
          | true => rfl
          | false => exact absurd ha c3
        unfold PAq
        rw [hall, if_pos rfl]
        rw [hall, if_pos rfl] at ha
        intro q
        exact ht.elim (fun q2 => c2 (q2.1.trans ha.symm)) (fun q2 => q2.2 (q i hil))
  refine pq_bb (fun c2 => nx 1 (Or.inl ⟨rfl, q15.symm.trans c2⟩)) (fun c2 => nx 0 (Or.inr ⟨rfl, fun q => c2 (q15.trans q)⟩))
/-- nothing that is missed or wired is paid -/
theorem PA_no {V : fS} (hL : LOq S V 0 c) (h6 : ¬ ge V 25 0 1 = 6) : ¬ PAq S all c := by
  have lb := loS_bd S
  have no : ∀ lot : Nat, ¬ PYq S c lot := by
    intro lot q
    unfold PYq at q
    obtain ⟨_, _, _, h⟩ := hL
    rcases h with ⟨hm, _⟩ | ⟨hm, gt, _⟩
    · rw [oq_m hm] at q
      exact absurd q (by decide)
    · have o := gt.2.2.2
      by_cases w : wrd S (gL S c) = true
      · rw [oq_n hm, if_pos w] at q
        exact absurd q (by decide)
      · rw [if_neg w] at o
        exact h6 o
  unfold PAq
  cases all with
  | true => rw [if_pos rfl]; exact fun q => no 0 (q 0 (by omega))
  | false => rw [if_neg (by decide)]; exact fun ⟨lot, _, q⟩ => no lot q
theorem y_leastPaying (H : HVq S) (hO : HOq S) (B : BVq S 0) (N : NBq S 0) (hP : PGq S) (hI : IFq S) (ha : p = if all then 1 else 0) : pk (F_X6_leastPaying p S) (fun v T => FX (WscR 0) S T ∧ CAN (PAq S all) v) := by
  have l0 : (0 : Int32).toInt = 0 := by decide
  have l64 : (64 : Int32).toInt = 64 := by decide
  have lb := loS_bd S
  unfold F_X6_leastPaying
  refine pq_bd (y_tellLots N hP hI) (fun v12 S13 q => ?_)
  obtain ⟨F13, q12, qt⟩ := q
  refine pq_lp (fun (z : Int32 × Int32 × Int32) V => z.1 = p ∧ z.2.1 = v12 ∧ FX (WscR 0) S V ∧ (∀ lot : Nat, lot < loS S → ge V 27 0 lot = grS S lot ∧ ge V 28 0 lot = slS S lot) ∧ ∃ i : Nat, z.2.2.toInt = (i : Int) ∧ i ≤ 64 ∧ ∀ c : Nat, c < i → ¬ PAq S all c) (fun _ _ (v : Int32) T => FX (WscR 0) S T ∧ CAN (PAq S all) v) ?_ fuel (p, v12, 0) S13 ⟨rfl, rfl, F13, qt, 0, l0, Nat.zero_le _, fun c h => absurd h (Nat.not_lt_zero _)⟩
  intro k hk z V hz
  obtain ⟨b1, b2, b3⟩ := z
  obtain ⟨e1, e2, FV, tV, i, i1, i2, i3⟩ := hz
  dsimp only at e1 e2 i1
  subst e1
  subst e2
  have sV : SRq S V := FV.sr Ws_r
  unfold B_X6_leastPaying_7
  dsimp only
  refine pq_le (fun c0 => pq_some ⟨FV, Or.inl ⟨rfl, fun c hc => i3 c (by omega)⟩⟩) (fun c0 => ?_)
  have BV' : BVq V 0 := sV.BV B (fun a j ha => FV.1 a 0 j (Ws_l a 0 j ha))
  refine pq_bd (y_look (sV.HV H) BV' i1 (by omega) (by rw [sV 40 0 30 (by decide)]; exact hO)) (fun _ U q => ?_)
  obtain ⟨FU, LU⟩ := q
  have LU : LOq S U 0 i := sV.LO LU
  have GU : FX (WscR 0) S U := FV.tr (FU.sub Wl_s)
  have tU : ∀ lot : Nat, lot < loS S → ge U 27 0 lot = grS S lot ∧ ge U 28 0 lot = slS S lot := fun lot hl => by rw [FU.1 27 0 lot rfl, FU.1 28 0 lot rfl]; exact tV lot hl
  have nx : ¬ PAq S all i → pk (B_X6_leastPaying_48 k b1 b2 b3 U) (fun v T => FX (WscR 0) S T ∧ CAN (PAq S all) v) := by
    intro hn
    unfold B_X6_leastPaying_48
    refine pq_iv fun x1 e1 => ?_
    have g1 : x1.toInt = b3.toInt + 1 := by rw [e1]; exact ti_inc (by omega)
    refine hk (b1, b2, x1) U ⟨rfl, rfl, GU, tU, i + 1, by dsimp only; omega, by omega, fun c hc => ?_⟩
    by_cases d : c = i
    · rw [d]; exact hn
    · exact i3 c (by omega)
  refine pq_iv fun x6 e6 => ?_
  refine pq_bb (fun c6 => ?_) (fun c6 => nx (PA_no LU (fun q => c6 (e6.trans q))))
  refine pq_bd (y_paysByLots (all := all) LU (e6.symm.trans c6) q12 ha tU) (fun v8 X q => ?_)
  obtain ⟨rfl, q8⟩ := q
  refine pq_bb (fun c8 => nx ?_) (fun c8 => pq_some ⟨GU, Or.inr ⟨i, by omega, i1, ?_, i3⟩⟩)
  · rcases q8 with q | q
    · exact q.2
    · exact absurd c8 q.1
  · rcases q8 with q | q
    · exact absurd q.1 c8
    · exact q.2
end CAS
