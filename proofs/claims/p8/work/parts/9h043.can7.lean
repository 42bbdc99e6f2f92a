/-! can: the reference -/
noncomputable def cnP (S : fS) (c : Nat) : Nat → Nat
  | 0 => 0
  | i + 1 => cnP S c i + (if oq S c (grS S i) (slS S i) = 5 then 1 else 0)
def Wcn (a i j : Nat) : Bool := Wt7 a i j || (Wgr a i j || (Nat.beq a 90 || Nat.beq a 91))
theorem Wt7_c : ∀ a i j : Nat, Wcn a i j = false → Wt7 a i j = false := fun a i j h => (Bool.or_eq_false_iff.1 h).1
theorem Wgr_c : ∀ a i j : Nat, Wcn a i j = false → Wgr a i j = false := fun a i j h => (Bool.or_eq_false_iff.1 (Bool.or_eq_false_iff.1 h).2).1
theorem Wgr_out {a i j : Nat} (h : a ≠ 40) (h2 : a ≠ 55) : Wgr a i j = false := by unfold Wgr; rw [beq_out h, beq_out h2]; rfl
theorem Wcn_out {a i j : Nat} (h : a ≠ 40) (h2 : a ≠ 55) (h3 : a ≠ 45) (h4 : a ≠ 90) (h5 : a ≠ 91) : Wcn a i j = false := by unfold Wcn; rw [Wt7_out h h3, Wgr_out h h2, beq_out h4, beq_out h5]; rfl
section CN7
variable {S T U : fS} {c : Nat} {all : Bool} {p : Int32}
theorem cnP_le : ∀ i : Nat, cnP S c i ≤ i
  | 0 => Nat.le_refl _
  | i + 1 => by
    have a := cnP_le i
    show cnP S c i + (if oq S c (grS S i) (slS S i) = 5 then 1 else 0) ≤ i + 1
    split <;> omega
theorem cnP_pos : ∀ i : Nat, 0 < cnP S c i ↔ ∃ lot : Nat, lot < i ∧ PYq S c lot
  | 0 => ⟨fun h => absurd h (Nat.lt_irrefl _), fun ⟨_, h, _⟩ => absurd h (Nat.not_lt_zero _)⟩
  | i + 1 => by
    have ih := cnP_pos i
    by_cases h : oq S c (grS S i) (slS S i) = 5
    · have e : cnP S c (i + 1) = cnP S c i + 1 := by show _ + (if _ then 1 else 0) = _; rw [if_pos h]
      exact ⟨fun _ => ⟨i, by omega, h⟩, fun _ => by omega⟩
    · have e : cnP S c (i + 1) = cnP S c i := by show _ + (if _ then 1 else 0) = _; rw [if_neg h]; rfl
      rw [e, ih]
      constructor
      · rintro ⟨l, a, b⟩
        exact ⟨l, by omega, b⟩
      · rintro ⟨l, a, b⟩
        refine ⟨l, ?_, b⟩
        by_cases d : l = i
        · rw [d] at b; exact absurd b h
        · omega
theorem cnP_all : ∀ i : Nat, cnP S c i = i ↔ ∀ lot : Nat, lot < i → PYq S c lot
  | 0 => ⟨fun _ _ h => absurd h (Nat.not_lt_zero _), fun _ => rfl⟩
  | i + 1 => by
    have ih := cnP_all i
    have le := cnP_le (S := S) (c := c) i
    by_cases h : oq S c (grS S i) (slS S i) = 5
    · have e : cnP S c (i + 1) = cnP S c i + 1 := by show _ + (if _ then 1 else 0) = _; rw [if_pos h]
      constructor
      · intro q lot hl
        by_cases d : lot = i
        · rw [d]; exact h
        · exact ih.1 (by omega) lot (by omega)
      · intro q
        have := ih.2 (fun lot hl => q lot (by omega))
        omega
    · have e : cnP S c (i + 1) = cnP S c i := by show _ + (if _ then 1 else 0) = _; rw [if_neg h]; rfl
      constructor
      · intro q
        omega
      · intro q
        exact absurd (q i (by omega)) h
theorem PA_cn : PAq S all c ↔ (if all then cnP S c (loS S) = loS S else 0 < cnP S c (loS S)) := by
  unfold PAq
  cases all with
  | true => rw [if_pos rfl, if_pos rfl, cnP_all]
  | false => rw [if_neg (by decide), if_neg (by decide), cnP_pos]
/-- what canNow reads stays -/
theorem SRc (F : FX Wcn S T) (g s : Int32) (c : Nat) : oq T c g s = oq S c g s ∧ (HVq S → HVq T) ∧ (HOq S → HOq T) ∧ ge T 40 0 15 = ge S 40 0 15 := by
  obtain ⟨_, _, _, _, a5, _, _, a8, _⟩ := SRt F (fun a j h => Wcn_out (by omega) (by omega) (by omega) (by omega) (by omega)) (fun _ _ => rfl) rfl rfl rfl g s c
  exact ⟨a5, a8, fun h => by unfold HOq; rw [F.1 40 0 30 rfl]; exact h, F.1 40 0 15 rfl⟩
theorem env1_5 {i : Nat} (x y : Int32) (hi : i < 6) (d : ¬ i = 5) : env1 S x i = env1 S y i := by
  have h : i = 0 ∨ i = 1 ∨ i = 2 ∨ i = 3 ∨ i = 4 := by omega
  rcases h with rfl | rfl | rfl | rfl | rfl <;> rfl
theorem q_canNow (RS : RI S) (H : HVq S) (hO : HOq S) (hP : PGq S) (hI : IFq S) (ha : p = if all then 1 else 0) : pk (F_X7_canNow p S) (fun v T => FX Wcn S T ∧ CAN (PAq S all) v) := by
  have l0 : (0 : Int32).toInt = 0 := by decide
  have l64 : (64 : Int32).toInt = 64 := by decide
  have TO := TOK_of hP hI
  have lb := loS_bd S
  have if5 : -1 ≤ (ge S 40 0 15).toInt ∧ (ge S 40 0 15).toInt ≤ 5 := by
    obtain ⟨m, m6, _, m40, _⟩ := hP.1
    obtain ⟨_, i2, i3⟩ := hI
    omega
  unfold F_X7_canNow
  refine pq_bd (pq_and (s_F_X7_namesOf 1 S RS).pk (q_names1 0)) (fun _ S30 q => ?_)
  obtain ⟨⟨R30, _⟩, F30, n30, _⟩ := q
  have G30 : FX Wcn S S30 := (F30.sub W45_t).sub Wt7_c
  refine pq_iv fun x32 e32 => ?_
  rw [F30.1 40 0 15 rfl] at e32
  -- a telling at any lot
  have tell : ∀ (V : fS) (lot : Nat) (x : Int32), x = ge S 40 0 15 → RI V → FX Wcn S V → (∀ i : Nat, i ≠ 5 → ge V 45 0 i = ge S30 45 0 i) → pk (F_X7_tellsBy x (Int32.ofNat lot) V) (fun _ X => RI X ∧ FX Wcn S X ∧ FX Wt7 V X ∧ (∀ i : Nat, i ≠ 5 → ge X 45 0 i = ge S30 45 0 i) ∧ tg X = clm (tlS S lot)) := by
    intro V lot x hx RV FV eV
    refine pq_imp (pq_and (s_F_X7_tellsBy x (Int32.ofNat lot) V RV (by rw [hx]; exact if5)).pk (q_tellsq (g := tlS S lot) RV ?_)) (fun _ X q => ?_)
    · rw [hx]
      refine TPq.fx ?_ FV (fun t => rfl) (fun t k => rfl)
      refine (tlS_ok TO lot).cg (fun i hi => ?_)
      have e := n30 i hi
      by_cases d : i = 5
      · rw [d]; rfl
      · rw [← env1_5 (S := S) 0 (Int32.ofNat lot) hi d, ← e]
        unfold envN
        rw [if_neg d, if_neg d, eV i d]
    · obtain ⟨⟨RX, _⟩, FX1, e1, _, t1⟩ := q
      exact ⟨RX, FV.tr (FX1.sub Wt7_c), FX1, fun i hi => (e1 i hi).trans (eV i hi), t1⟩
  unfold F_X7_lotsBy
  refine pq_bd (pq_bd (Q := fun v X => RI X ∧ FX Wcn S X ∧ (∀ i : Nat, i ≠ 5 → ge X 45 0 i = ge S30 45 0 i) ∧ v.toInt = (loS S : Int)) (tell S30 0 x32 e32 R30 G30 (fun _ _ => rfl)) (fun _ X q => ?_)) (fun v33 S34 q => ?_)
  · obtain ⟨q1, q2, _, q3, q4⟩ := q
    refine pq_iv fun x4 e4 => pq_some ⟨q1, q2, q3, ?_⟩
    rw [e4, ← lb.2.2]
    exact congrArg (fun z => z.2.2.toInt) q4
  obtain ⟨R34, G34, e34, g33⟩ := q
  refine pq_sv fun S36 E36 => pq_sv fun S37 E37 => ?_
  have R36 : RI S36 := by rw [E36]; exact R34.wbf (fun _ => rfl)
  have R37 : RI S37 := by rw [E37]; exact R36.wbf (fun _ => rfl)
  have G36 : FX Wcn S S36 := by rw [E36]; exact G34.wb (fun _ => rfl)
  have G37 : FX Wcn S S37 := by rw [E37]; exact G36.wb (fun _ => rfl)
  have e37 : ∀ i : Nat, i ≠ 5 → ge S37 45 0 i = ge S30 45 0 i := fun i hi => by
    rw [E37, ge_pb, if_neg (fun q => absurd q.1 (by decide)), E36, ge_pb, if_neg (fun q => absurd q.1 (by decide))]
    exact e34 i hi
  -- the cells
  have cells : ∀ V : fS, FX Wcn S V → (∀ lot : Nat, lot < loS S → ge V 90 0 lot = grS S lot ∧ ge V 91 0 lot = slS S lot) → pk (lp (B_X7_canNow_70) fuel (p, v33, 0) V) (fun v T => FX Wcn S T ∧ CAN (PAq S all) v) := by
    intro V FV tV
    refine pq_lp (fun (z : Int32 × Int32 × Int32) V => z.1 = p ∧ z.2.1 = v33 ∧ FX Wcn S V ∧ (∀ lot : Nat, lot < loS S → ge V 90 0 lot = grS S lot ∧ ge V 91 0 lot = slS S lot) ∧ ∃ i : Nat, z.2.2.toInt = (i : Int) ∧ i ≤ 64 ∧ ∀ c : Nat, c < i → ¬ PAq S all c) (fun _ _ (v : Int32) T => FX Wcn S T ∧ CAN (PAq S all) v) ?_ fuel (p, v33, 0) V ⟨rfl, rfl, FV, tV, 0, l0, Nat.zero_le _, fun c h => absurd h (Nat.not_lt_zero _)⟩
    intro k hk z V hz
    obtain ⟨b1, b2, b3⟩ := z
    obtain ⟨e1, e2, FV, tV, i, i1, i2, i3⟩ := hz
    dsimp only at e1 e2 i1
    subst e1
    subst e2
    unfold B_X7_canNow_70
    dsimp only
    refine pq_le (fun c0 => pq_some ⟨FV, Or.inl ⟨rfl, fun c hc => i3 c (by omega)⟩⟩) (fun c0 => ?_)
    refine pq_lp (fun (z : Int32 × Int32 × Int32 × Int32 × Int32) V => z.1 = b1 ∧ z.2.1 = b2 ∧ z.2.2.1 = b3 ∧ FX Wcn S V ∧ (∀ lot : Nat, lot < loS S → ge V 90 0 lot = grS S lot ∧ ge V 91 0 lot = slS S lot) ∧ ∃ l : Nat, z.2.2.2.2.toInt = (l : Int) ∧ l ≤ loS S ∧ z.2.2.2.1.toInt = (cnP S i l : Int)) (fun _ _ (v : Int32) T => FX Wcn S T ∧ CAN (PAq S all) v) ?_ fuel (b1, b2, b3, 0, 0) V ⟨rfl, rfl, rfl, FV, tV, 0, l0, Nat.zero_le _, l0⟩
    intro k2 hk2 z2 X hx
    obtain ⟨d1, d2, d5, d6, d7⟩ := z2
    obtain ⟨f1, f2, f3, FX2, tX, l, l1, l2, l3⟩ := hx
    dsimp only at f1 f2 f3 l1 l3
    subst f1
    subst f2
    subst f3
    have nxc : ¬ PAq S all i → pk (B_X7_canNow_145 k d1 d2 d5 X) (fun v T => FX Wcn S T ∧ CAN (PAq S all) v) := by
      intro hn
      unfold B_X7_canNow_145
      refine pq_iv fun x3 e3 => ?_
      have g3 : x3.toInt = d5.toInt + 1 := by rw [e3]; exact ti_inc (by omega)
      refine hk (d1, d2, x3) X ⟨rfl, rfl, FX2, tX, i + 1, by dsimp only; omega, by omega, fun c hc => ?_⟩
      by_cases d : c = i
      · rw [d]; exact hn
      · exact i3 c (by omega)
    have yes : PAq S all i → pk (some (d5, X)) (fun v T => FX Wcn S T ∧ CAN (PAq S all) v) := fun hy => pq_some ⟨FX2, Or.inr ⟨i, by omega, i1, hy, i3⟩⟩
    unfold B_X7_canNow_83
    dsimp only
    refine pq_le (fun c1 => ?_) (fun c1 => ?_)
    · have e : l = loS S := by omega
      rw [e] at l3
      have pc := PA_cn (S := S) (all := all) (c := i)
      refine pq_eq (fun c2 => ?_) (fun c2 => ?_)
      · have hall : all = false := by
          cases all with
          | true => rw [ha] at c2; exact absurd c2 (by decide)
          | false => rfl
        rw [hall, if_neg (by decide)] at pc
        refine pq_le (fun c3 => nxc (fun q => ?_)) (fun c3 => yes ?_)
        · rw [hall] at q
          have := pc.1 q
          omega
        · rw [hall]
          exact pc.2 (by omega)
      · have hall : all = true := by
          cases all with
          | true => rfl
          | false => exact absurd (by rw [ha]; rfl) c2
        rw [hall, if_pos rfl] at pc
        refine pq_eq (fun c3 => yes ?_) (fun c3 => nxc (fun q => ?_))
        · rw [hall]
          exact pc.2 (by omega)
        · rw [hall] at q
          have := pc.1 q
          omega
    · have hll : l < loS S := by omega
      rw [cnNq l1]
      refine pq_gd fun _ => ?_
      refine pq_iv fun x9 e9 => ?_
      refine pq_gd fun _ => ?_
      refine pq_iv fun x11 e11 => ?_
      rw [(tX l hll).1] at e9
      rw [(tX l hll).2] at e11
      rw [e9, e11]
      obtain ⟨o1, H1, O1, _⟩ := SRc FX2 (grS S l) (slS S l) i
      refine pq_bd (q_wouldBe (H1 H) i1 (by omega) (O1 hO)) (fun v12 Y q => ?_)
      obtain ⟨FY, o12, _⟩ := q
      rw [o1] at o12
      have GY : FX Wcn S Y := FX2.tr (FY.sub Wgr_c)
      have tY : ∀ lot : Nat, lot < loS S → ge Y 90 0 lot = grS S lot ∧ ge Y 91 0 lot = slS S lot := fun lot hl => by rw [FY.1 90 0 lot rfl, FY.1 91 0 lot rfl]; exact tX lot hl
      have le := cnP_le (S := S) (c := i) l
      have nx : ∀ t : Int32, t.toInt = (if oq S i (grS S l) (slS S l) = 5 then 1 else 0) → pk (B_X7_canNow_115 k k2 d1 d2 d5 d7 t d6 Y) (fun v T => FX Wcn S T ∧ CAN (PAq S all) v) := by
        intro t ht
        unfold B_X7_canNow_115
        refine pq_iv fun x1 e1 => pq_iv fun x2 e2 => ?_
        have g2 : x2.toInt = d7.toInt + 1 := by rw [e2]; exact ti_inc (by omega)
        have tb : 0 ≤ t.toInt ∧ t.toInt ≤ 1 := by rw [ht]; split <;> decide
        have g1 : x1.toInt = (cnP S i (l + 1) : Int) := by
          rw [e1, ti_add (by omega) (by omega), l3, ht]
          show _ = ((cnP S i l + (if oq S i (grS S l) (slS S l) = 5 then 1 else 0) : Nat) : Int)
          split <;> omega
        exact hk2 (d1, d2, d5, x1, x2) Y ⟨rfl, rfl, rfl, GY, tY, l + 1, by dsimp only; omega, by omega, g1⟩
      refine pq_bb (fun c2 => nx 1 (by rw [if_pos (o12.symm.trans c2)]; decide)) (fun c2 => nx 0 (by rw [if_neg (fun q => c2 (o12.trans q))]; exact l0))
  refine pq_lp (fun (z : Int32 × Int32 × Int32) V => z.1 = p ∧ z.2.1 = v33 ∧ RI V ∧ FX Wcn S V ∧ (∀ i : Nat, i ≠ 5 → ge V 45 0 i = ge S30 45 0 i) ∧ ∃ i : Nat, z.2.2.toInt = (i : Int) ∧ i ≤ loS S ∧ ∀ lot : Nat, lot < i → ge V 90 0 lot = grS S lot ∧ ge V 91 0 lot = slS S lot) (fun _ _ (v : Int32) T => FX Wcn S T ∧ CAN (PAq S all) v) ?_ fuel (p, v33, 0) S37 ⟨rfl, rfl, R37, G37, e37, 0, l0, Nat.zero_le _, fun lot h => absurd h (Nat.not_lt_zero _)⟩
  intro k hk z V hz
  obtain ⟨b1, b2, b3⟩ := z
  obtain ⟨e1, e2, RV, FV, eV, i, i1, i2, i3⟩ := hz
  dsimp only at e1 e2 i1
  subst e1
  subst e2
  unfold B_X7_canNow_28
  dsimp only
  refine pq_le (fun c0 => cells V FV (fun lot hl => i3 lot (by omega))) (fun c0 => ?_)
  refine pq_iv fun x18 e18 => ?_
  rw [FV.1 40 0 15 rfl] at e18
  rw [oNi i1 (by omega)]
  refine pq_bd (tell V i x18 e18 RV FV eV) (fun _ S20 q => ?_)
  obtain ⟨R20, G20, F20, e20, t20⟩ := q
  refine pq_iv fun x22 e22 => ?_
  have gi : (Int32.ofNat i).toInt = (i : Int) := by rw [← oNi i1 (by omega)]; exact i1
  rw [cnNq gi]
  refine pq_gd fun _ => ?_
  refine pq_sv fun S24 E24 => ?_
  refine pq_iv fun x25 e25 => ?_
  rw [E24, ge_pua (by decide)] at e25
  refine pq_gd fun _ => ?_
  refine pq_sv fun S27 E27 => ?_
  refine pq_iv fun x28 e28 => ?_
  have g28 : x28.toInt = (i : Int) + 1 := by rw [e28, ti_inc (by omega), gi]
  have g22 : x22 = grS S i := by rw [e22]; exact congrArg Prod.fst t20
  have g25 : x25 = slS S i := by rw [e25]; exact congrArg (fun z => z.2.1) t20
  have F24 : FX Wcn S S24 := by rw [E24]; exact G20.wr rfl
  have F27 : FX Wcn S S27 := by rw [E27]; exact F24.wr rfl
  have R24 : RI S24 := by rw [E24]; exact R20.wf rfl
  have R27 : RI S27 := by rw [E27]; exact R24.wf rfl
  refine hk (b1, b2, x28) S27 ⟨rfl, rfl, R27, F27, fun i hi => by rw [E27, ge_pua (by decide), E24, ge_pua (by decide)]; exact e20 i hi, i + 1, by dsimp only; omega, by omega, fun lot hl => ?_⟩
  by_cases d : lot = i
  · rw [d]
    refine ⟨?_, ?_⟩
    · rw [E27, ge_pua (by decide), E24, ge_pus, g22]
    · rw [E27, ge_pus, g25]
  · obtain ⟨u1, u2⟩ := i3 lot (by omega)
    refine ⟨?_, ?_⟩
    · rw [E27, ge_pua (by decide), E24, ge_puj d, F20.1 90 0 lot rfl]; exact u1
    · rw [E27, ge_puj d, E24, ge_pua (by decide), F20.1 91 0 lot rfl]; exact u2
end CN7
