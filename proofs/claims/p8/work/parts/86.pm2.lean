/-! the pure part: the reference, expressions and conditions -/
def PRE (S : fS) (c k d : Int) : Prop := RI S ∧ AK S ∧ ((¬ (ge S 40 0 6).toInt = 0 ∧ c ≤ d) ∨ ((ge S 40 0 5).toInt ≤ 6 ∧ 3 * (7 - (ge S 40 0 5).toInt) + k ≤ d))
def HR (R : Nat → Int32 → fS → Option (Int32 × fS)) (d : Int) : Prop :=
  (∀ (q : Int32) (S : fS), PRE S 1 1 d → zk (R 0 q S) (fun _ T => PS S T)) ∧
  (∀ (q : Int32) (S : fS), PRE S 2 2 d → zk (R 1 q S) (fun _ T => PS S T)) ∧
  (∀ (q : Int32) (S : fS), PRE S 3 3 d → zk (R 2 q S) (fun _ T => PS S T)) ∧
  (∀ (q : Int32) (S : fS), PRE S 1 4 d → zk (R 3 q S) (fun v T => TS S T ∧ 0 ≤ v.toInt ∧ v.toInt ≤ 1)) ∧
  (∀ (q : Int32) (S : fS), PRE S 2 5 d → zk (R 4 q S) (fun v T => TS S T ∧ 0 ≤ v.toInt ∧ v.toInt ≤ 1)) ∧
  (∀ (q : Int32) (S : fS), PRE S 3 6 d → zk (R 5 q S) (fun v T => TS S T ∧ 0 ≤ v.toInt ∧ v.toInt ≤ 1))
section PRS
variable {S T U : fS} {c k d c' k' d' : Int}
theorem PRE.ps (h : PRE S c k d) (p : PS S T) (hc : c' + d ≤ c + d') (hk : k' + d ≤ k + d') (h3 : c' ≤ 3 + k') : PRE T c' k' d' := by
  obtain ⟨R, hA, hd⟩ := h
  refine ⟨p.1, p.ak hA, ?_⟩
  obtain ⟨_, _, _, _, hop, hf⟩ := p
  by_cases z : (ge T 40 0 6).toInt = 0
  · refine Or.inr ?_
    rcases hd with q | q
    · exact absurd z (hf q.1)
    · exact ⟨by omega, by omega⟩
  · refine Or.inl ⟨z, ?_⟩
    rcases hd with q | q
    · omega
    · omega
theorem PRE.ts (h : PRE S c k d) (p : TS S T) (hc : c' + d ≤ c + d') (hk : k' + d ≤ k + d') (h3 : c' ≤ 3 + k') : PRE T c' k' d' := by
  obtain ⟨R, hA, hd⟩ := h
  obtain ⟨r, _, _, hA2, hop, hf⟩ := p
  refine ⟨r, hA2, ?_⟩
  by_cases z : (ge T 40 0 6).toInt = 0
  · refine Or.inr ?_
    rcases hd with q | q
    · exact absurd z (hf q.1)
    · exact ⟨by omega, by omega⟩
  · refine Or.inl ⟨z, ?_⟩
    rcases hd with q | q
    · omega
    · omega
theorem PRE.z (h : PRE S c k d) (hf : (ge S 40 0 6).toInt = 0) : (ge S 40 0 5).toInt ≤ 6 ∧ 3 * (7 - (ge S 40 0 5).toInt) + k ≤ d := h.2.2.elim (fun q => absurd hf q.1) id
theorem PRE.zz (h : PRE S c k d) (hf : (ge S 40 0 6).toInt = 0) (hk : k' + d ≤ k + d') (h3 : c' ≤ 3 + k') : PRE S c' k' d' := by
  have q := h.z hf
  exact ⟨h.1, h.2.1, Or.inr ⟨q.1, by omega⟩⟩
end PRS
theorem s_F_X7_opens (p1 : Int32) (S : fS) (RS : RI S) (h1 : 0 ≤ p1.toInt) (h2 : (ge S 40 0 4).toInt + p1.toInt ≤ (ge S 40 0 2).toInt) (h3 : (ge S 40 0 5).toInt ≤ 6) : zk (F_X7_opens p1 S) (fun _ T => RI T ∧ Fr 13421838336 S T ∧ (ge S 40 0 4).toInt ≤ (ge T 40 0 4).toInt ∧ (ge T 40 0 4).toInt ≤ (ge S 40 0 2).toInt ∧ (ge T 40 0 5).toInt = (ge S 40 0 5).toInt + 1 ∧ (¬ (ge S 40 0 6).toInt = 0 → ¬ (ge T 40 0 6).toInt = 0) ∧ (¬ (ge T 40 0 6).toInt = 0 ∨ (ge T 40 0 5).toInt ≤ 6)) := by
  have l1 : (1 : Int32).toInt = 1 := by decide
  have l6 : (6 : Int32).toInt = 6 := by decide
  have J : ∀ T : fS, PS S T → (ge T 40 0 4).toInt = (ge S 40 0 4).toInt → (¬ (ge T 40 0 6).toInt = 0 ∨ (ge S 40 0 5).toInt ≤ 5) → zk (B_X7_opens_18 p1 T) (fun _ T => RI T ∧ Fr 13421838336 S T ∧ (ge S 40 0 4).toInt ≤ (ge T 40 0 4).toInt ∧ (ge T 40 0 4).toInt ≤ (ge S 40 0 2).toInt ∧ (ge T 40 0 5).toInt = (ge S 40 0 5).toInt + 1 ∧ (¬ (ge S 40 0 6).toInt = 0 → ¬ (ge T 40 0 6).toInt = 0) ∧ (¬ (ge T 40 0 6).toInt = 0 ∨ (ge T 40 0 5).toInt ≤ 6)) := by
    intro T p hat hz
    have e := p.sz
    have g := RS.op
    have ga := RS.at
    have gs := RS.sz
    obtain ⟨RT, FT, _, _, hop, hf⟩ := p
    unfold B_X7_opens_18
    refine zk_iv fun x1 e1 => ?_
    subst e1
    refine zk_iv fun x2 e2 => ?_
    have g2 : x2.toInt = (ge S 40 0 5).toInt + 1 := by rw [e2, ti_add (by omega) (by omega), l1, hop]
    refine zk_sv fun S3 E3 => ?_
    refine zk_iv fun x4 e4 => ?_
    have e4 : x4 = ge T 40 0 4 := by rw [e4, E3, ge_puj (by decide)]
    refine zk_iv fun x5 e5 => ?_
    have g5 : x5.toInt = (ge S 40 0 4).toInt + p1.toInt := by rw [e5, e4, ti_add (by omega) (by omega), hat]
    refine zk_sv fun S6 E6 => ?_
    have R3 : RI S3 := by rw [E3]; exact RT.wr (show (0 : Int) ≤ x2.toInt by omega) (show x2.toInt ≤ 7 by omega)
    have R6 : RI S6 := by rw [E6]; exact R3.wr (show (0 : Int) ≤ x5.toInt by omega) (show x5.toInt ≤ 301 by omega)
    have F3 : Fr 13421838336 S S3 := by rw [E3]; exact FT.wr (k := 32) rfl rfl
    have F6 : Fr 13421838336 S S6 := by rw [E6]; exact F3.wr (k := 29) rfl rfl
    have a4 : ge S6 40 0 4 = x5 := by rw [E6]; exact ge_pus
    have a5 : ge S6 40 0 5 = x2 := by rw [E6, ge_puj (by decide), E3]; exact ge_pus
    have a6 : ge S6 40 0 6 = ge T 40 0 6 := by rw [E6, ge_puj (by decide), E3, ge_puj (by decide)]
    exact zk_some ⟨R6, F6, by rw [a4]; omega, by rw [a4]; omega, by rw [a5]; exact g2, fun q => by rw [a6]; exact hf q, by rw [a5, a6]; exact hz.imp id (fun q => by omega)⟩
  unfold F_X7_opens
  refine zk_iv fun x e => ?_
  refine zk_eq (fun c => ?_) (fun c => ?_)
  · refine zk_iv fun x2 e2 => ?_
    refine zk_bd (s_F_X7_wrong _ _ S RS (by decide)) (fun v T h => ?_)
    exact J T h.1 (congrArg Int32.toInt h.2.2) (Or.inl h.2.1)
  · rw [e] at c
    exact J S (PS.rf RS) rfl (Or.inr (by omega))
section NX7
variable {R : Nat → Int32 → fS → Option (Int32 × fS)} {d : Int}
/-! one more is open than at S -/
def MS (S T : fS) : Prop := RI T ∧ Fr 13421838336 S T ∧ (ge S 40 0 4).toInt ≤ (ge T 40 0 4).toInt ∧ (ge T 40 0 4).toInt ≤ (ge S 40 0 2).toInt ∧ (ge T 40 0 5).toInt = (ge S 40 0 5).toInt + 1 ∧ (¬ (ge S 40 0 6).toInt = 0 → ¬ (ge T 40 0 6).toInt = 0)
theorem MS.ps {S T U : fS} (h : MS S T) (p : PS T U) : MS S U := by
  have e : (ge T 40 0 2).toInt = (ge S 40 0 2).toInt := congrArg Int32.toInt (h.2.1.1 40 0 2 rfl)
  obtain ⟨_, f1, a1, b1, c1, d1⟩ := h
  obtain ⟨r2, f2, a2, b2, c2, d2⟩ := p
  exact ⟨r2, f1.tr f2, by omega, by omega, by omega, fun q => d2 (d1 q)⟩
def MT (S T : fS) : Prop := RI T ∧ Fr 13421838336 S T ∧ (ge S 40 0 4).toInt ≤ (ge T 40 0 4).toInt ∧ AK T ∧ (ge T 40 0 5).toInt = (ge S 40 0 5).toInt + 1 ∧ (¬ (ge S 40 0 6).toInt = 0 → ¬ (ge T 40 0 6).toInt = 0)
theorem MT.ts {S T U : fS} (h : MT S T) (p : TS T U) : MT S U := by
  obtain ⟨_, f1, a1, b1, c1, d1⟩ := h
  obtain ⟨r2, f2, a2, b2, c2, d2⟩ := p
  exact ⟨r2, f1.tr f2, by omega, b2, by omega, fun q => d2 (d1 q)⟩
theorem MS.dn {S T : fS} {x y : Int32} (h : MS S T) (RS : RI S) (e1 : x = ge T 40 0 5) (e2 : y = x - 1) : PS S (pu T 40 0 5 y) := by
  have l1 : (1 : Int32).toInt = 1 := by decide
  obtain ⟨RT, f1, a1, b1, c1, d1⟩ := h
  have g := RS.op
  have g2 := RT.op
  have gy : y.toInt = (ge S 40 0 5).toInt := by rw [e2, e1, ti_sub (by omega) (by omega), l1, c1]; omega
  have a4 : ge (pu T 40 0 5 y) 40 0 4 = ge T 40 0 4 := ge_puj (by decide)
  have a5 : ge (pu T 40 0 5 y) 40 0 5 = y := ge_pus
  have a6 : ge (pu T 40 0 5 y) 40 0 6 = ge T 40 0 6 := ge_puj (by decide)
  exact ⟨RT.wr (show (0 : Int) ≤ y.toInt by omega) (show y.toInt ≤ 7 by omega), f1.wr (k := 32) rfl rfl, by rw [a4]; exact a1, by rw [a4]; exact Or.inl b1, by rw [a5]; exact gy, fun q => by rw [a6]; exact d1 q⟩
theorem MT.dn {S T : fS} {x y : Int32} (h : MT S T) (RS : RI S) (e1 : x = ge T 40 0 5) (e2 : y = x - 1) : TS S (pu T 40 0 5 y) := by
  have l1 : (1 : Int32).toInt = 1 := by decide
  obtain ⟨RT, f1, a1, b1, c1, d1⟩ := h
  have g := RS.op
  have g2 := RT.op
  have gy : y.toInt = (ge S 40 0 5).toInt := by rw [e2, e1, ti_sub (by omega) (by omega), l1, c1]; omega
  have a4 : ge (pu T 40 0 5 y) 40 0 4 = ge T 40 0 4 := ge_puj (by decide)
  have a5 : ge (pu T 40 0 5 y) 40 0 5 = y := ge_pus
  have a6 : ge (pu T 40 0 5 y) 40 0 6 = ge T 40 0 6 := ge_puj (by decide)
  have a2 : ge (pu T 40 0 5 y) 40 0 2 = ge T 40 0 2 := ge_puj (by decide)
  exact ⟨RT.wr (show (0 : Int) ≤ y.toInt by omega) (show y.toInt ≤ 7 by omega), f1.wr (k := 32) rfl rfl, by rw [a4]; exact a1, ⟨by rw [a4, a2]; exact b1.1, fun q => by rw [a4, a2]; exact b1.2 (by rw [← a6]; exact q)⟩, by rw [a5]; exact gy, fun q => by rw [a6]; exact d1 q⟩
theorem n7_176 {S T : fS} {a : Int32} (RS : RI S) (h : MS S T) : zk (B_X7_unit_176 R a T) (fun _ U => PS S U) := by
  unfold B_X7_unit_176
  refine zk_bd (s_F_X7_sign _ _ h.1 (by decide)) (fun v U p => ?_)
  have h2 := h.ps p.1
  refine zk_iv fun x e => ?_
  refine zk_iv fun y ey => ?_
  exact zk_sv fun V E => zk_some (by rw [E]; exact h2.dn RS e ey)
theorem n7_139 (H : HR R d) {S T : fS} {a b : Int32} (RS : RI S) (h : MS S T) (hp : PRE T 3 3 d) : zk (B_X7_unit_139 R a b T) (fun _ U => PS S U) := by
  unfold B_X7_unit_139
  refine zk_bd (s_F_X7_sign _ _ h.1 (by decide)) (fun v U p => ?_)
  refine zk_bd (H.2.2.1 _ _ (hp.ps p.1 (by omega) (by omega) (by omega))) (fun v2 V p2 => ?_)
  have h2 := (h.ps p.1).ps p2
  have K : ∀ (c : Int32), zk (B_X7_unit_164 R b v2 c a V) (fun _ U => PS S U) := by
    intro c
    unfold B_X7_unit_164 B_X7_unit_174
    exact zk_eq (fun _ => n7_176 RS h2) (fun _ => n7_176 RS h2)
  exact zk_le (fun _ => K _) (fun _ => K _)
theorem n7_92 (H : HR R d) {S T : fS} {a b : Int32} (h : PRE S 1 1 (d + 1)) (hf : (ge S 40 0 6).toInt = 0) (p : BS S T) : zk (B_X7_unit_92 R a b T) (fun _ U => PS S U) := by
  have l0 : (0 : Int32).toInt = 0 := by decide
  have l1 : (1 : Int32).toInt = 1 := by decide
  have l40 : (40 : Int32).toInt = 40 := by decide
  have hz := h.z hf
  have RS := h.1
  unfold B_X7_unit_92
  refine zk_bd (s_F_X7_blanks _ p.1) (fun v T1 p1 => ?_)
  have q1 := p.tr p1
  have R1 := q1.1
  have ga := R1.at
  have gs := R1.sz
  have hop := q1.op
  have hsz := q1.sz
  refine zk_iv fun x e => ?_
  subst e
  refine zk_bd (s_F_X7_byteAt _ T1 R1 (by omega)) (fun v2 _ q => ?_)
  obtain ⟨rfl, hv⟩ := q
  have hb := byv_bd R1 (ge T1 40 0 4)
  refine zk_eq (fun c => ?_) (fun c => ?_)
  · refine zk_bd (s_F_X7_opens 1 T1 R1 (by omega) (by omega) (by omega)) (fun v3 T2 p2 => ?_)
    obtain ⟨R2, f2, a2, b2, c2, d2, e2⟩ := p2
    have hs2 : (ge T2 40 0 2).toInt = (ge T1 40 0 2).toInt := congrArg Int32.toInt (f2.1 40 0 2 rfl)
    have hsS := q1.2.2.1
    have m2 : MS S T2 := ⟨R2, (q1.ps.2.1).tr f2, by omega, by omega, by omega, fun z => absurd hf z⟩
    have pr2 : PRE T2 3 3 d := ⟨R2, ⟨by omega, fun _ => by omega⟩, by
      rcases e2 with q | q
      · exact Or.inl ⟨q, by omega⟩
      · exact Or.inr ⟨q, by omega⟩⟩
    refine zk_bd (H.2.2.1 _ _ pr2) (fun v4 T3 p3 => ?_)
    have m3 := m2.ps p3
    have pr3 : PRE T3 3 3 d := pr2.ps p3 (by omega) (by omega) (by omega)
    exact zk_eq (fun _ => zk_eq (fun _ => n7_176 RS m3) (fun _ => n7_139 H RS m3 pr3)) (fun _ => n7_139 H RS m3 pr3)
  · refine zk_iv fun x e => ?_
    exact zk_bd (s_F_X7_wrong _ _ T1 R1 (by decide)) (fun v T h => zk_some (q1.ps.tr h.1))
theorem n7_unit (H : HR R d) {S : fS} (h : PRE S 1 1 (d + 1)) : zk (N_X7_unit R S) (fun _ T => PS S T) := by
  have l0 : (0 : Int32).toInt = 0 := by decide
  have lm1 : (-1 : Int32).toInt = -1 := by decide
  have RS := h.1
  unfold N_X7_unit
  refine zk_iv fun x e => ?_
  refine zk_eq (fun c => ?_) (fun c => zk_some (PS.rf RS))
  have hf : (ge S 40 0 6).toInt = 0 := by rw [← e]; omega
  refine zk_bd (s_F_X7_blanks S RS) (fun _ T1 h1 => ?_)
  have R1 := h1.1
  have ga := R1.at
  refine zk_iv fun x1 e1 => ?_
  subst e1
  refine zk_bd (s_F_X7_byteAt _ T1 R1 (by omega)) (fun v _ q => ?_)
  obtain ⟨rfl, hv⟩ := q
  refine zk_bd (s_F_X7_isDigit _ T1 R1) (fun v2 _ q => ?_)
  obtain ⟨rfl, hd2⟩ := q
  refine zk_eq (fun c2 => ?_) (fun c2 => ?_)
  · refine zk_bd (s_F_X7_nameHere T1 R1) (fun nm T2 q => ?_)
    obtain ⟨h2, hn⟩ := q
    refine zk_eq (fun c3 => ?_) (fun c3 => ?_)
    · refine zk_bd (s_F_X7_isWord _ _ _ _ _ T2 h2.1) (fun w1 T3 q => ?_)
      have h3 := q.1
      refine zk_bd (s_F_X7_isWord _ _ _ _ _ T3 h3.1) (fun w2 T4 q => ?_)
      have h4 : BS S T4 := ((h1.tr h2).tr h3).tr q.1
      have K : zk (B_X7_unit_88 R w1 w2 T4) (fun _ U => PS S U) := by
        unfold B_X7_unit_88
        exact zk_bd (s_F_X7_skipWord T4 h4.1) (fun v T5 q => n7_92 H h hf (h4.tr q.1))
      exact zk_eq (fun _ => zk_eq (fun _ => n7_92 H h hf h4) (fun _ => K)) (fun _ => K)
    · refine zk_bd (s_F_X7_skipWord T2 h2.1) (fun v T3 q => ?_)
      refine zk_gd ⟨by omega, by omega⟩ ?_
      exact zk_iv fun x e => zk_some ((h1.tr h2).tr q.1).ps
  · exact zk_bd (s_F_X7_number T1 R1) (fun v T q => zk_some (h1.ps.tr q))
end NX7
