/-! lay -/
section LAY
variable {S : fS} {p p2 p3 p4 : Int32}
def layok (S : fS) (p p2 p3 p4 : Int32) : Prop := ¬ p = ge S 40 0 30 ∧ ((1 : Int32).toInt ≤ p2.toInt ∧ p2.toInt ≤ (99 : Int32).toInt) ∧ ((0 : Int32).toInt ≤ p3.toInt ∧ p3.toInt ≤ (7 : Int32).toInt) ∧ ((0 : Int32).toInt ≤ p4.toInt ∧ p4.toInt ≤ (999 : Int32).toInt)
theorem lay6 {Q : Nat × Int32 → fS → Prop} (hh : ge S 1 0 1 = ge S 40 0 30) (h0 : ¬ ic p → Q (2, 0) S) (h1 : ic p → ¬ layok S p p2 p3 p4 → Q (1, 0) S) (h2 : ic p → layok S p p2 p3 p4 → pk (bd (F_X2_add 0 p p2 p3 p4 S) (fun v5 S6 => some ((0, v5), S6))) Q) : pk (F_X6_lay p p2 p3 p4 S) Q := by
  unfold F_X6_lay
  refine pg_cell (fun hc => ?_) h0
  have no : ¬ layok S p p2 p3 p4 → pk (B_X6_lay_51 p p2 p3 p4 S) Q := fun q => by
    unfold B_X6_lay_51 B_X6_lay_52
    exact pg_n0 (h1 hc q)
  refine pq_iv fun x12 e12 => ?_
  rw [hh] at e12
  refine pq_bb (fun d => no (fun q => q.1 (d.trans e12))) (fun d => ?_)
  refine pg_w (fun c2 => pg_b1 ?_) (fun q => pg_b0 (no (fun z => q z.2.1)))
  refine pg_w (fun c3 => pg_b1 ?_) (fun q => pg_b0 (no (fun z => q z.2.2.1)))
  refine pg_w (fun c4 => pg_b1 ?_) (fun q => pg_b0 (no (fun z => q z.2.2.2)))
  unfold B_X6_lay_52
  exact pg_n1 (h2 hc ⟨fun q => d (q.trans e12.symm), c2, c3, c4⟩)
theorem lay7_no {Q : Int32 → fS → Prop} (z : ge S 40 0 0 = 0) (hc : ic p) (hb : ¬ layok S p p2 p3 p4) (hQ : Q 0 (pu S 40 0 0 2)) : pk (F_X7_lay p p2 p3 p4 S) Q := by
  unfold F_X7_lay
  refine pg7_0 z (pg7_cell (fun _ => pg_b1 ?_) (fun q => absurd hc q))
  unfold B_X7_lay_18
  have no : pk (B_X7_lay_66 p p2 p3 p4 S) Q := by
    unfold B_X7_lay_66 B_X7_lay_71
    exact pg7_no z (by decide) (pq_some hQ)
  refine pg7_ok z (pq_iv fun x e => pq_bb (fun _ => no) (fun d => ?_))
  refine pg_7 (fun c2 => pg_b1 ?_) (fun _ => pg_b0 no)
  refine pg_7 (fun c3 => pg_b1 ?_) (fun _ => pg_b0 no)
  exact pg_7 (fun c4 => absurd ⟨fun q => d (q.trans e.symm), c2, c3, c4⟩ hb) (fun _ => pg_b0 no)
theorem lay7 {Q : Int32 → fS → Prop} (z : ge S 40 0 0 = 0) (hc : ic p) (hb : layok S p p2 p3 p4) (hQ : pk (B_X7_lay_71 p p2 p3 p4 0 S) Q) : pk (F_X7_lay p p2 p3 p4 S) Q := by
  unfold F_X7_lay
  refine pg7_0 z (pg7_cell (fun _ => pg_b1 ?_) (fun q => absurd hc q))
  unfold B_X7_lay_18
  refine pg7_ok z (pq_iv fun x e => pq_bb (fun d => absurd (d.trans e) hb.1) (fun d => ?_))
  exact pg_7 (fun _ => pg_b1 (pg_7 (fun _ => pg_b1 (pg_7 (fun _ => pg_b1 hQ) (fun q => absurd hb.2.2.2 q))) (fun q => absurd hb.2.2.1 q))) (fun q => absurd hb.2.1 q)
/-- a thing more: the class -/
def A6 (S T : fS) (c n : Nat) (p p2 p3 p4 : Int32) : Prop := FX WBx S T ∧ SRq S T ∧ (∀ j : Nat, ge T 1 0 j = ge S 1 0 j) ∧ (ge T 2 0 0).toInt = (n : Int) + 1 ∧ HB ((n : Int) + 1) (wU (hw S) n c) (hpP (hq S) (hh S) c n) (htP (hh S) c) ∧ CRl (hpP (hq S) (hh S) c n) (htP (hh S) c) (fun c => (ge T 10 0 c).toInt) (fun t => (ge T 9 0 t).toInt) ∧ (∀ u : Nat, ge T 8 0 u = if u = n then p else ge S 8 0 u) ∧ (∀ c' : Nat, c' < 64 → 0 ≤ htP (hh S) c c') ∧ ∀ u : Nat, ge T 3 0 u = (if u = n then p2 else ge S 3 0 u) ∧ ge T 4 0 u = (if u = n then p3 else ge S 4 0 u) ∧ ge T 5 0 u = (if u = n then p4 else ge S 5 0 u) ∧ ge T 6 0 u = (if u = n then 0 else ge S 6 0 u) ∧ ge T 7 0 u = (if u = n then p else ge S 7 0 u)
theorem y_add {c n : Nat} (h : IV S) (hn : nq S = (n : Int)) (hn2 : n < 24) (hp : p.toInt = (c : Int)) (hc : c < 64) : pk (F_X2_add 0 p p2 p3 p4 S) (fun v T => v.toInt = (n : Int) ∧ A6 S T c n p p2 p3 p4) := by
  have l24 : (24 : Int32).toInt = 24 := by decide
  have l1 : (1 : Int32).toInt = 1 := by decide
  obtain ⟨H, hO, B, _⟩ := h.2.2.2.1
  have en : (ge S 2 0 0).toInt = (n : Int) := by rw [B.1.2.2.1, hn]
  unfold F_X2_add
  refine pq_iv fun x1 e1 => pq_lt (fun _ => ?_) (fun q => absurd q (by rw [e1, en, l24]; omega))
  refine pq_iv fun x3 e3 => pq_iv fun x4 e4 => pq_iv fun x5 e5 => pq_sv fun S6 E6 => ?_
  have g3 : x3.toInt = (n : Int) := by rw [e3, en]
  have g5 : x5.toInt = (n : Int) + 1 := by rw [e5, e4, ti_add (by rw [en, l1]; omega) (by rw [en, l1]; omega), en, l1]
  rw [cnNq g3]
  refine pq_gd fun _ => pq_sv fun S8 E8 => pq_gd fun _ => pq_sv fun S10 E10 => pq_gd fun _ => pq_sv fun S12 E12 => pq_gd fun _ => pq_sv fun S14 E14 => pq_gd fun _ => pq_sv fun S16 E16 => ?_
  have F6 : FX WBx S S6 := by rw [E6]; exact FX.rf.wr rfl
  have F8 : FX WBx S S8 := by rw [E8]; exact F6.wr rfl
  have F10 : FX WBx S S10 := by rw [E10]; exact F8.wr rfl
  have F12 : FX WBx S S12 := by rw [E12]; exact F10.wr rfl
  have F14 : FX WBx S S14 := by rw [E14]; exact F12.wr rfl
  have F16 : FX WBx S S16 := by rw [E16]; exact F14.wr rfl
  have k : ∀ a i j : Nat, a ≠ 2 → a ≠ 3 → a ≠ 4 → a ≠ 5 → a ≠ 6 → a ≠ 7 → ge S16 a i j = ge S a i j := fun a i j h2 h3 h4 h5 h6 h7 => by
    rw [E16, ge_pua h7, E14, ge_pua h6, E12, ge_pua h5, E10, ge_pua h4, E8, ge_pua h3, E6, ge_pua h2]
  have k2 : ge S16 2 0 0 = x5 := by
    rw [E16, ge_pua (by decide), E14, ge_pua (by decide), E12, ge_pua (by decide), E10, ge_pua (by decide), E8, ge_pua (by decide), E6, ge_pus]
  have up : ∀ (X : fS) (a u : Nat) (v : Int32), ge (pu X a 0 n v) a 0 u = if u = n then v else ge X a 0 u := fun X a u v => by
    rw [ge_pu]
    by_cases d : u = n
    · rw [if_pos ⟨rfl, rfl, d⟩, if_pos d]
    · rw [if_neg (fun q => d q.2.2), if_neg d]
  have k3 : ∀ u : Nat, ge S16 3 0 u = if u = n then p2 else ge S 3 0 u := fun u => by
    rw [E16, ge_pua (by decide), E14, ge_pua (by decide), E12, ge_pua (by decide), E10, ge_pua (by decide), E8, up, E6, ge_pua (by decide)]
  have k4 : ∀ u : Nat, ge S16 4 0 u = if u = n then p3 else ge S 4 0 u := fun u => by
    rw [E16, ge_pua (by decide), E14, ge_pua (by decide), E12, ge_pua (by decide), E10, up, E8, ge_pua (by decide), E6, ge_pua (by decide)]
  have k5 : ∀ u : Nat, ge S16 5 0 u = if u = n then p4 else ge S 5 0 u := fun u => by
    rw [E16, ge_pua (by decide), E14, ge_pua (by decide), E12, up, E10, ge_pua (by decide), E8, ge_pua (by decide), E6, ge_pua (by decide)]
  have k6 : ∀ u : Nat, ge S16 6 0 u = if u = n then 0 else ge S 6 0 u := fun u => by
    rw [E16, ge_pua (by decide), E14, up, E12, ge_pua (by decide), E10, ge_pua (by decide), E8, ge_pua (by decide), E6, ge_pua (by decide)]
  have k7 : ∀ u : Nat, ge S16 7 0 u = if u = n then p else ge S 7 0 u := fun u => by
    rw [E16, up, E14, ge_pua (by decide), E12, ge_pua (by decide), E10, ge_pua (by decide), E8, ge_pua (by decide), E6, ge_pua (by decide)]
  obtain ⟨b1, b2, b3, b4, b5, b6⟩ := B.1
  rw [hn] at b1 b5
  have cr : CRl (hq S) (hh S) (fun c => (ge S16 10 0 c).toInt) (fun t => (ge S16 9 0 t).toInt) := b2.cg (fun _ _ => rfl) (fun _ _ _ _ => rfl) (fun c _ => by rw [k 10 0 c (by decide) (by decide) (by decide) (by decide) (by decide) (by decide)]) (fun c k0 _ _ => by rw [k 9 0 _ (by decide) (by decide) (by decide) (by decide) (by decide) (by decide)])
  refine pq_bd (y_put2 (n' := (n : Int) + 1) b1 cr (by rw [k2, g5]; omega) (by rw [k2, g5]; omega) (fun i hi => (b5 i hi).2.2) b6 (by omega) (by omega) (fun q => by omega) (fun i hi hne => by omega) g3 hp hc) (fun v T q => ?_)
  obtain ⟨F, q1, q2, q3, q4⟩ := q
  have fo : ∀ a j : Nat, a ≠ 8 → a ≠ 9 → a ≠ 10 → ge T a 0 j = ge S16 a 0 j := fun a j h8 h9 h10 => F.1 a 0 j (Whq_out h8 h9 h10)
  refine pq_some ⟨g3, F16.tr (F.sub Whq_B), fun a i j ha => ?_, fun j => ?_, ?_, q1, q2, fun u => ?_, q4, fun u => ⟨?_, ?_, ?_, ?_, ?_⟩⟩
  · rw [F.1 a i j (Whq_out (by omega) (by omega) (by omega)), k a i j (by omega) (by omega) (by omega) (by omega) (by omega) (by omega)]
  · rw [fo 1 j (by decide) (by decide) (by decide), k 1 0 j (by decide) (by decide) (by decide) (by decide) (by decide) (by decide)]
  · rw [fo 2 0 (by decide) (by decide) (by decide), k2, g5]
  · rw [q3, k 8 0 u (by decide) (by decide) (by decide) (by decide) (by decide) (by decide)]
  · rw [fo 3 u (by decide) (by decide) (by decide), k3]
  · rw [fo 4 u (by decide) (by decide) (by decide), k4]
  · rw [fo 5 u (by decide) (by decide) (by decide), k5]
  · rw [fo 6 u (by decide) (by decide) (by decide), k6]
  · rw [fo 7 u (by decide) (by decide) (by decide), k7]
/-- the reference -/
theorem q_add {T1 : fS} {c n : Nat} (h : IV S) (z1 : ge T1 40 0 0 = 0) (hn : nq S = (n : Int)) (hn2 : n < 24) (hp : p.toInt = (c : Int)) (hc : c < 64) (ho : layok S p p2 p3 p4) (A : A6 S T1 c n p p2 p3 p4) : pk (B_X7_lay_71 p p2 p3 p4 0 T1) (fun v T => v.toInt = (n : Int) ∧ RLv T ∧ ge T 40 0 0 = 0) := by
  have l24 : (24 : Int32).toInt = 24 := by decide
  have l1 : (1 : Int32).toInt = 1 := by decide
  obtain ⟨F1, s1, a1, a2, a3, a4, a5, a6, a7⟩ := A
  obtain ⟨H, hO, B, N, hP, hI, hs, hR, _⟩ := h.2.2.2.1
  have en : (ge T1 40 0 21).toInt = (n : Int) := by rw [s1 40 0 21 (by decide)]; exact hn
  unfold B_X7_lay_71
  refine pg7_ok z1 (pq_iv fun x5 e5 => pq_bb (fun d => absurd (congrArg Int32.toInt d) (by rw [e5, en, l24]; omega)) (fun _ => ?_))
  refine pq_iv fun x7 e7 => ?_
  have g7 : x7.toInt = (n : Int) := by rw [e7, en]
  rw [cnNq g7]
  refine pq_gd fun _ => pq_sv fun S9 E9 => pq_iv fun x10 e10 => ?_
  have g10 : x10.toInt = (n : Int) := by rw [e10, E9, ge_pua (by decide), en]
  rw [cnNq g10]
  refine pq_gd fun _ => pq_sv fun S12 E12 => pq_iv fun x13 e13 => ?_
  have g13 : x13.toInt = (n : Int) := by rw [e13, E12, ge_pua (by decide), E9, ge_pua (by decide), en]
  rw [cnNq g13]
  refine pq_gd fun _ => pq_sv fun S15 E15 => pq_iv fun x16 e16 => ?_
  have g16 : x16.toInt = (n : Int) := by rw [e16, E15, ge_pua (by decide), E12, ge_pua (by decide), E9, ge_pua (by decide), en]
  rw [cnNq g16]
  refine pq_gd fun _ => pq_sv fun S18 E18 => pq_iv fun x19 e19 => ?_
  have g19 : x19.toInt = (n : Int) := by rw [e19, E18, ge_pua (by decide), E15, ge_pua (by decide), E12, ge_pua (by decide), E9, ge_pua (by decide), en]
  rw [cnNq g19]
  refine pq_gd fun _ => pq_sv fun S21 E21 => ?_
  have k : ∀ a i j : Nat, a ≠ 46 → a ≠ 47 → a ≠ 48 → a ≠ 49 → a ≠ 51 → ge S21 a i j = ge T1 a i j := fun a i j h1 h2 h3 h4 h5 => by
    rw [E21, ge_pua h5, E18, ge_pua h4, E15, ge_pua h3, E12, ge_pua h2, E9, ge_pua h1]
  have G21 : FX WBx T1 S21 := by
    have f9 : FX WBx T1 S9 := by rw [E9]; exact FX.rf.wr rfl
    have f12 : FX WBx T1 S12 := by rw [E12]; exact f9.wr rfl
    have f15 : FX WBx T1 S15 := by rw [E15]; exact f12.wr rfl
    have f18 : FX WBx T1 S18 := by rw [E18]; exact f15.wr rfl
    rw [E21]
    exact f18.wr rfl
  have up : ∀ (X : fS) (a u : Nat) (v : Int32), ge (pu X a 0 n v) a 0 u = if u = n then v else ge X a 0 u := fun X a u v => by
    rw [ge_pu]
    by_cases d : u = n
    · rw [if_pos ⟨rfl, rfl, d⟩, if_pos d]
    · rw [if_neg (fun q => d q.2.2), if_neg d]
  have k46 : ∀ u : Nat, ge S21 46 0 u = if u = n then p2 else ge S 46 0 u := fun u => by
    rw [E21, ge_pua (by decide), E18, ge_pua (by decide), E15, ge_pua (by decide), E12, ge_pua (by decide), E9, up, s1 46 0 u (by decide)]
  have k47 : ∀ u : Nat, ge S21 47 0 u = if u = n then p3 else ge S 47 0 u := fun u => by
    rw [E21, ge_pua (by decide), E18, ge_pua (by decide), E15, ge_pua (by decide), E12, up, E9, ge_pua (by decide), s1 47 0 u (by decide)]
  have k48 : ∀ u : Nat, ge S21 48 0 u = if u = n then p4 else ge S 48 0 u := fun u => by
    rw [E21, ge_pua (by decide), E18, ge_pua (by decide), E15, up, E12, ge_pua (by decide), E9, ge_pua (by decide), s1 48 0 u (by decide)]
  have k49 : ∀ u : Nat, ge S21 49 0 u = if u = n then p else ge S 49 0 u := fun u => by
    rw [E21, ge_pua (by decide), E18, up, E15, ge_pua (by decide), E12, ge_pua (by decide), E9, ge_pua (by decide), s1 49 0 u (by decide)]
  have k51 : ∀ u : Nat, ge S21 51 0 u = if u = n then 0 else ge S 51 0 u := fun u => by
    rw [E21, up, nab 0 (Or.inl rfl), E18, ge_pua (by decide), E15, ge_pua (by decide), E12, ge_pua (by decide), E9, ge_pua (by decide), s1 51 0 u (by decide)]
  refine pq_iv fun x22 e22 => ?_
  have g22 : x22.toInt = (n : Int) := by rw [e22, k 40 0 21 (by decide) (by decide) (by decide) (by decide) (by decide), en]
  have hhE : hh S21 = hh S := by
    funext u
    unfold hh
    rw [k 54 0 u (by decide) (by decide) (by decide) (by decide) (by decide), s1 54 0 u (by decide)]
  have hqE : hq S21 = hq S := by
    funext u w
    unfold hq
    rw [k 53 u w (by decide) (by decide) (by decide) (by decide) (by decide), s1 53 u w (by decide)]
  have hwE : hw S21 = hw S := by
    funext u
    unfold hw
    rw [k 50 0 u (by decide) (by decide) (by decide) (by decide) (by decide), s1 50 0 u (by decide)]
  refine pq_bd (q_puts g22 hp (by rw [hhE]; exact H.2.1 c hc)) (fun v23 S24 q => ?_)
  obtain ⟨F24, q1, q2, q3⟩ := q
  rw [hhE] at q1 q2
  rw [hqE] at q2
  rw [hwE] at q3
  refine pq_iv fun x26 e26 => pq_iv fun x27 e27 => pq_sv fun S28 E28 => pq_iv fun x29 e29 => pq_iv fun x30 e30 => ?_
  have e21 : ge S24 40 0 21 = ge T1 40 0 21 := by rw [F24.1 40 0 21 rfl, k 40 0 21 (by decide) (by decide) (by decide) (by decide) (by decide)]
  have g27 : x27.toInt = (n : Int) + 1 := by rw [e27, e26, e21, ti_add (by rw [en, l1]; omega) (by rw [en, l1]; omega), en, l1]
  have g29 : x29.toInt = (n : Int) + 1 := by rw [e29, E28, ge_pus]; exact g27
  have g30 : x30.toInt = (n : Int) := by rw [e30, ti_sub (by rw [g29, l1]; omega) (by rw [g29, l1]; omega), g29, l1]; omega
  have m : ∀ a i j : Nat, a ≠ 46 → a ≠ 47 → a ≠ 48 → a ≠ 49 → a ≠ 51 → a ≠ 50 → a ≠ 53 → a ≠ 54 → ¬ (a = 40 ∧ j = 21) → ge S28 a i j = ge T1 a i j := fun a i j h1 h2 h3 h4 h5 h6 h7 h8 h9 => by
    rw [E28, ge_pu, if_neg (fun q => h9 ⟨q.1, q.2.2⟩), F24.1 a i j (Wg_out h7 h8 h6), k a i j h1 h2 h3 h4 h5]
  have mi : ∀ a u : Nat, (a = 46 ∨ a = 47 ∨ a = 48 ∨ a = 49 ∨ a = 51) → ge S28 a 0 u = ge S21 a 0 u := fun a u ha => by
    rw [E28, ge_pua (by omega), F24.1 a 0 u (Wg_out (by omega) (by omega) (by omega))]
  have m1 : ∀ a j : Nat, a < 40 → ge S28 a 0 j = ge T1 a 0 j := fun a j ha => m a 0 j (by omega) (by omega) (by omega) (by omega) (by omega) (by omega) (by omega) (by omega) (by omega)
  have m40 : ∀ j : Nat, j ≠ 21 → ge S28 40 0 j = ge S 40 0 j := fun j hj => by
    rw [m 40 0 j (by decide) (by decide) (by decide) (by decide) (by decide) (by decide) (by decide) (by decide) (by omega), s1 40 0 j (by decide)]
  have n28 : nq S28 = (n : Int) + 1 := by unfold nq; rw [← g29, e29]
  have hh28 : hh S28 = htP (hh S) c := by
    funext u
    show (ge S28 54 0 u).toInt = _
    rw [E28, ge_pua (by decide)]
    exact q1 u
  have hq28 : hq S28 = hpP (hq S) (hh S) c n := by
    funext u w
    have c0 := H.2.1 c hc
    show (ge S28 53 u w).toInt = _
    rw [E28, ge_pua (by decide)]
    refine (q2 u w).trans ?_
    unfold hpP
    by_cases d : u = c ∧ w = (hh S c).toNat
    · rw [if_pos d, if_pos ⟨d.1, by omega⟩]
    · rw [if_neg d, if_neg (fun q => d ⟨q.1, by omega⟩)]
  have hw28 : hw S28 = wU (hw S) n c := by
    funext u
    show (ge S28 50 0 u).toInt = _
    rw [E28, ge_pua (by decide)]
    exact q3 u
  have F28 : FX WBx S S28 := by
    have f24 : FX WBx S S24 := (F1.tr G21).tr (F24.sub Wg_B)
    rw [E28]
    exact f24.wr rfl
  have sp : ∀ u : Nat, (u : Int) < (n : Int) + 1 → u = n ∨ (u : Int) < nq S := fun u hu => by omega
  have CV : CVq S28 0 (nq S28) (hw S28) (hq S28) (hh S28) := by
    rw [n28, hh28, hq28, hw28]
    refine ⟨a3, a4.cg (fun _ _ => rfl) (fun _ _ _ _ => rfl) (fun x _ => by rw [m1 10 x (by decide)]) (fun x y _ _ => by rw [m1 9 _ (by decide)]), by rw [m1 2 0 (by decide)]; exact a2, by omega, fun u hu => ?_, a6⟩
    rw [m1 8 u (by decide), a5]
    unfold wU
    by_cases d : u = n
    · rw [if_pos d, if_pos d]
      exact ⟨hp, by omega, by omega⟩
    · rw [if_neg d, if_neg d]
      exact B.1.2.2.2.2.1 u ((sp u hu).resolve_left d)
  refine pq_some ⟨g30, h.2.2.2.bx F28 ⟨CV.1, CV.2.2.2.2.2, CV.2.2.2.1, fun u hu => ⟨?_, (CV.2.2.2.2.1 u hu).2⟩⟩ ?_ ⟨CV, fun u hu => ?_, ?_, ?_⟩ ?_ ?_ ?_ (hR.bx F28 ?_ ?_), ?_⟩
  · rw [n28] at hu
    rw [mi 47 u (by decide), mi 51 u (by decide), k47, k51]
    by_cases d : u = n
    · rw [if_pos d, if_pos d]
      have := ho.2.2.1.1
      rw [l0'] at this
      exact ⟨this, Or.inl rfl⟩
    · rw [if_neg d, if_neg d]
      exact (H.2.2.2 u ((sp u hu).resolve_left d)).1
  · unfold HOq
    rw [m40 30 (by decide)]; exact hO
  · rw [n28] at hu
    obtain ⟨x3, x4, x5, x6, x7⟩ := a7 u
    rw [m1 3 u (by decide), m1 4 u (by decide), m1 5 u (by decide), m1 6 u (by decide), m1 7 u (by decide), x3, x4, x5, x6, x7, mi 46 u (by decide), mi 47 u (by decide), mi 48 u (by decide), mi 49 u (by decide), mi 51 u (by decide), k46, k47, k48, k49, k51]
    by_cases d : u = n
    · simp only [if_pos d]
      exact ⟨trivial, trivial, trivial, trivial, by first | trivial | rfl⟩
    · simp only [if_neg d]
      exact B.2.1 u ((sp u hu).resolve_left d)
  · rw [m1 1 1 (by decide), a1, m40 30 (by decide)]; exact B.2.2.1
  · rw [m1 1 2 (by decide), a1, m40 31 (by decide)]; exact B.2.2.2
  · unfold NBq at *
    rw [m1 1 3 (by decide), m1 1 4 (by decide), m1 1 7 (by decide), m1 1 8 (by decide), m1 1 9 (by decide), m1 1 10 (by decide), a1, a1, a1, a1, a1, a1, m40 32 (by decide), m40 33 (by decide), m40 35 (by decide), m40 36 (by decide), m40 37 (by decide), m40 38 (by decide)]
    exact N
  · unfold IFq at *
    rw [m1 1 6 (by decide), a1, m40 15 (by decide), m40 13 (by decide)]; exact hI
  · rw [m1 1 5 (by decide), a1, m40 34 (by decide)]; exact hs
  · rw [m1 1 12 (by decide), a1]
  · rw [m40 46 (by decide)]
  · rw [m 40 0 0 (by decide) (by decide) (by decide) (by decide) (by decide) (by decide) (by decide) (by decide) (by decide)]
    exact z1
theorem rk_lay (h : IV S) (z : ge S 40 0 0 = 0) : RK (fun ec => if ec = 0 then 0 else if ec = 1 then 2 else 1) (F_X6_lay p p2 p3 p4 S) (F_X7_lay p p2 p3 p4) := by
  have l24 : (24 : Int32).toInt = 24 := by decide
  obtain ⟨H, hO, B, _⟩ := h.2.2.2.1
  have h0 := h.nq
  obtain ⟨n, hn⟩ : ∃ n : Nat, nq S = (n : Int) := ⟨(nq S).toNat, by omega⟩
  have en : (ge S 2 0 0).toInt = (n : Int) := by rw [B.1.2.2.1, hn]
  have n24 := H.2.2.1
  unfold RK
  refine lay6 B.2.2.1 (fun hc => ?_) (fun hc hb => ?_) (fun hc hb => ?_)
  · unfold F_X7_lay
    refine pg7_0 z (pg7_cell (fun c => absurd c hc) (fun _ => pg_b0 ?_))
    unfold B_X7_lay_18
    exact pg7_no z (by decide) (pq_some (rk_no (x := (0, 0)) h (by decide) rfl))
  · exact lay7_no z hc hb (rk_no (x := (0, 0)) h (by decide) rfl)
  · obtain ⟨c, hp, hc64⟩ := ic_nat hc
    by_cases n2 : n < 24
    · refine pq_bd (y_add h hn n2 hp hc64) (fun v T1 q => ?_)
      obtain ⟨v1, A⟩ := q
      have s1 : SRq S T1 := A.2.1
      have z1 : ge T1 40 0 0 = 0 := by rw [s1 40 0 0 (by decide)]; exact z
      refine pq_some (lay7 z1 hc (by unfold layok at *; rw [s1 40 0 30 (by decide)]; exact hb) ?_)
      exact pq_imp (q_add h z1 hn n2 hp hc64 hb A) (fun v2 T2 q => ⟨q.2.1, q.2.2, fun _ => of_toInt (v1.trans q.1.symm)⟩)
    · unfold F_X2_add
      refine pq_bd (Q1 := fun v T => v = -1 ∧ S = T) (pq_iv fun x1 e1 => pq_lt (fun q => absurd q (by rw [e1, en, l24]; omega)) (fun _ => pq_some ⟨rfl, rfl⟩)) (fun v T q => ?_)
      obtain ⟨rfl, rfl⟩ := q
      refine pq_some (lay7 z hc hb ?_)
      unfold B_X7_lay_71
      refine pg7_ok z (pq_iv fun x5 e5 => pq_bb (fun _ => pq_some ⟨h.2.2.2, z, fun _ => rfl⟩) (fun d => absurd (of_toInt ?_) d))
      have : (ge S 40 0 21).toInt = nq S := rfl
      rw [e5, l24, this]
      omega
end LAY
