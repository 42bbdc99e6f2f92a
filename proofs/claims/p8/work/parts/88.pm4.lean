/-! the pure part: the reference, clauses and whole texts -/
def CS (S T : fS) : Prop := TS S T ∧ ((ge T 40 0 6).toInt = 0 → (ge S 40 0 4).toInt < (ge T 40 0 4).toInt)
section CLS
variable {S T : fS}
theorem TS.w16 {j : Nat} {v : Int32} (h : TS S T) (hj : j = 9 ∨ j = 18 ∨ j = 19 ∨ j = 20) : TS S (pu T 40 0 j v) := by
  obtain ⟨r, f, a, b, c, e⟩ := h
  have hr : rgn 40 j = 16 := by rcases hj with rfl | rfl | rfl | rfl <;> rfl
  have hg : rg 40 j = rgF := by rcases hj with rfl | rfl | rfl | rfl <;> rfl
  have g : ∀ i : Nat, i ≠ j → ge (pu T 40 0 j v) 40 0 i = ge T 40 0 i := fun i hi => ge_puj hi
  have n4 := g 4 (by omega)
  have n5 := g 5 (by omega)
  have n6 := g 6 (by omega)
  have n2 := g 2 (by omega)
  unfold TS AK
  rw [n4, n5, n6, n2]
  exact ⟨r.wf hg, f.wr hr rfl, a, b, c, e⟩
theorem CS.w16 {j : Nat} {v : Int32} (h : CS S T) (hj : j = 9 ∨ j = 18 ∨ j = 19 ∨ j = 20) : CS S (pu T 40 0 j v) := by
  have g : ∀ i : Nat, i ≠ j → ge (pu T 40 0 j v) 40 0 i = ge T 40 0 i := fun i hi => ge_puj hi
  have n4 := g 4 (by omega)
  have n6 := g 6 (by omega)
  refine ⟨h.1.w16 hj, ?_⟩
  rw [n4, n6]
  exact h.2
theorem c7_194 (h : CS S T) : zk (B_X7_clause_194 T) (fun _ U => CS S U) := by
  unfold B_X7_clause_194
  refine zk_iv fun x e => zk_iv fun y ey => zk_sv fun V E => zk_some ?_
  rw [E]
  exact h.w16 (by decide)
theorem c7_179 {a b c : Int32} (h : CS S T) : zk (B_X7_clause_179 a b c T) (fun _ U => CS S U) := by
  unfold B_X7_clause_179
  refine zk_eq (fun _ => c7_194 h) (fun _ => zk_eq (fun _ => c7_194 h) (fun _ => zk_sv fun V E => c7_194 ?_))
  rw [E]
  exact h.w16 (by decide)
theorem c7_164 {a b c d : Int32} (h : CS S T) : zk (B_X7_clause_164 a b c d T) (fun _ U => CS S U) := by
  unfold B_X7_clause_164
  refine zk_eq (fun _ => c7_179 h) (fun _ => zk_eq (fun _ => c7_179 h) (fun _ => zk_sv fun V E => c7_179 ?_))
  rw [E]
  exact h.w16 (by decide)
theorem c7_149 {a b c d e : Int32} (h : CS S T) : zk (B_X7_clause_149 a b c d e T) (fun _ U => CS S U) := by
  unfold B_X7_clause_149
  refine zk_eq (fun _ => c7_164 h) (fun _ => zk_eq (fun _ => c7_164 h) (fun _ => zk_sv fun V E => c7_164 ?_))
  rw [E]
  exact h.w16 (by decide)
theorem c7_136 {a b c d e : Int32} (h : TS S T) : zk (B_X7_clause_136 a b c d e T) (fun _ U => CS S U) := by
  have l0 : (0 : Int32).toInt = 0 := by decide
  unfold B_X7_clause_136
  refine zk_iv fun x ex => ?_
  refine zk_eq (fun _ => ?_) (fun c => ?_)
  · refine zk_bd (s_F_X7_sign 59 T h.1 (by decide)) (fun v U q => c7_149 ⟨h.ps q.1, fun z => ?_⟩)
    have h1 := q.2 z
    have h2 := h.2.2.1
    omega
  · exact c7_149 ⟨h, fun z => absurd (show x.toInt = (0 : Int32).toInt by rw [ex, l0]; exact z) c⟩
theorem c7_84 {a b c : Int32} (h : TS S T) (hop : (ge S 40 0 5).toInt ≤ 6) : zk (B_X7_clause_84 a b c T) (fun _ U => CS S U) := by
  have l0 : (0 : Int32).toInt = 0 := by decide
  unfold B_X7_clause_84
  refine zk_iv fun x e => ?_
  refine zk_eq (fun _ => ?_) (fun c => zk_some ⟨h, fun z => absurd (show x.toInt = (0 : Int32).toInt by rw [e, l0]; exact z) c⟩)
  refine zk_bd (s_F_X7_skipWord T h.1) (fun _ T1 q => ?_)
  have h1 := h.ps q.1.ps
  have o1 := h1.2.2.2.2.1
  refine zk_bd (s_F_X7_sum T1 h1.1 h1.2.2.2.1 (by omega)) (fun v T2 q2 => ?_)
  have h2 := h1.ps q2
  refine zk_iv fun x e => ?_
  refine zk_eq (fun _ => ?_) (fun _ => c7_136 h2)
  refine zk_bd (s_F_X7_isWord _ _ _ _ _ T2 h2.1) (fun w T3 q3 => ?_)
  have h3 := h2.ps q3.1.ps
  refine zk_eq (fun _ => c7_136 h3) (fun _ => ?_)
  refine zk_bd (s_F_X7_skipWord T3 h3.1) (fun _ T4 q4 => ?_)
  have h4 := h3.ps q4.1.ps
  have o4 := h4.2.2.2.2.1
  exact zk_bd (s_F_X7_ors T4 h4.1 h4.2.2.2.1 (by omega)) (fun v T5 q5 => c7_136 (h4.tr q5.1))
theorem c7_66 {a b c : Int32} (h : TS S T) (hop : (ge S 40 0 5).toInt ≤ 6) : zk (B_X7_clause_66 a b c T) (fun _ U => CS S U) := by
  unfold B_X7_clause_66
  refine zk_iv fun x e => ?_
  refine zk_eq (fun _ => ?_) (fun _ => c7_84 h hop)
  refine zk_iv fun x e => ?_
  exact zk_bd (s_F_X7_wrong _ _ T h.1 (by decide)) (fun v U q => c7_84 (h.ps q.1) hop)
theorem s_F_X7_clause (S : fS) (RS : RI S) (hA : AK S) (hop : (ge S 40 0 5).toInt ≤ 6) : zk (F_X7_clause S) (fun _ U => CS S U) := by
  unfold F_X7_clause
  refine zk_bd (s_F_X7_isWord _ _ _ _ _ S RS) (fun w1 T1 q1 => ?_)
  refine zk_bd (s_F_X7_isWord _ _ _ _ _ T1 q1.1.1) (fun w2 T2 q2 => ?_)
  refine zk_bd (s_F_X7_isWord _ _ _ _ _ T2 q2.1.1) (fun w3 T3 q3 => ?_)
  have h : TS S T3 := ((q1.1.tr q2.1).tr q3.1).ps.ts hA
  refine zk_eq (fun _ => zk_eq (fun _ => zk_eq (fun _ => ?_) (fun _ => c7_66 h hop)) (fun _ => c7_66 h hop)) (fun _ => c7_66 h hop)
  refine zk_iv fun x e => ?_
  exact zk_bd (s_F_X7_wrong _ _ T3 h.1 (by decide)) (fun v U q => c7_84 (h.ps q.1) hop)
theorem s_B_X7_walks_44 (S : fS) (RS : RI S) (hA : AK S) (hop : (ge S 40 0 5).toInt ≤ 6) : zk (lp (B_X7_walks_44) fuel () S) (fun _ T => TS S T) := by
  have l0 : (0 : Int32).toInt = 0 := by decide
  refine zk_lp (fun _ S => RI S ∧ AK S ∧ (ge S 40 0 5).toInt ≤ 6) (fun _ S => if (ge S 40 0 6).toInt = 0 then (303 - (ge S 40 0 4).toInt).toNat else 0) (fun _ S (_ : Int32) T => TS S T) ?_ () S ⟨RS, hA, hop⟩ ?_
  · clear RS hA hop
    intro k z S hI hk
    obtain ⟨RS, hA, hop⟩ := hI
    have ga := RS.at
    unfold B_X7_walks_44
    refine zk_iv fun x e => ?_
    refine zk_eq (fun c => ?_) (fun c => zk_some (TS.rf RS hA))
    have hf : (ge S 40 0 6).toInt = 0 := by rw [← e]; omega
    refine zk_iv fun x3 e3 => ?_
    refine zk_iv fun x4 e4 => ?_
    refine zk_le (fun _ => zk_some (TS.rf RS hA)) (fun _ => ?_)
    refine zk_bd (s_F_X7_clause S RS hA hop) (fun _ T1 q1 => ?_)
    refine zk_bd (s_F_X7_blanks T1 q1.1.1) (fun _ T2 q2 => ?_)
    have t := q1.1.ps q2.ps
    have ho := t.2.2.2.2.1
    refine zk_imp (hk () T2 ⟨t.1, t.2.2.2.1, by omega⟩ ?_) (fun v U q => t.tr q)
    show (if (ge T2 40 0 6).toInt = 0 then (303 - (ge T2 40 0 4).toInt).toNat else 0) < (if (ge S 40 0 6).toInt = 0 then (303 - (ge S 40 0 4).toInt).toNat else 0)
    rw [if_pos hf]
    by_cases z : (ge T2 40 0 6).toInt = 0
    · rw [if_pos z]
      have h1 := q1.2 (by rw [← q2.fl]; exact z)
      have h2 := q2.2.2.1
      omega
    · rw [if_neg z]
      omega
  · have ga := RS.at
    show (if (ge S 40 0 6).toInt = 0 then (303 - (ge S 40 0 4).toInt).toNat else 0) < 4294967296
    by_cases z : (ge S 40 0 6).toInt = 0
    · rw [if_pos z]; omega
    · rw [if_neg z]; omega
theorem s_F_X7_walks (S0 : fS) (RS0 : RI S0) : zk (F_X7_walks S0) (fun _ S9 => RI S9 ∧ Fr 13421838336 S0 S9 ∧ True) := by
  have l0 : (0 : Int32).toInt = 0 := by decide
  unfold F_X7_walks
  refine zk_sv fun S1 E1 => ?_
  refine zk_sv fun S2 E2 => ?_
  refine zk_sv fun S3 E3 => ?_
  refine zk_sv fun S4 E4 => ?_
  refine zk_sv fun S5 E5 => ?_
  refine zk_sv fun S6 E6 => ?_
  refine zk_sv fun S7 E7 => ?_
  refine zk_sv fun S8 E8 => ?_
  have R1 : RI S1 := by rw [E1]; exact RS0.wr (show (0 : Int) ≤ (0 : Int32).toInt by decide) (show (0 : Int32).toInt ≤ 301 by decide)
  have R2 : RI S2 := by rw [E2]; exact R1.wr (show (0 : Int) ≤ (0 : Int32).toInt by decide) (show (0 : Int32).toInt ≤ 7 by decide)
  have R3 : RI S3 := by rw [E3]; exact R2.wf rfl
  have R4 : RI S4 := by rw [E4]; exact R3.wf rfl
  have R5 : RI S5 := by rw [E5]; exact R4.wf rfl
  have R6 : RI S6 := by rw [E6]; exact R5.wf rfl
  have R7 : RI S7 := by rw [E7]; exact R6.wf rfl
  have R8 : RI S8 := by rw [E8]; exact R7.wf rfl
  have F1 : Fr 13421838336 S0 S1 := by rw [E1]; exact Fr.rf.wr (k := 29) rfl rfl
  have F2 : Fr 13421838336 S0 S2 := by rw [E2]; exact F1.wr (k := 32) rfl rfl
  have F3 : Fr 13421838336 S0 S3 := by rw [E3]; exact F2.wr (k := 33) rfl rfl
  have F4 : Fr 13421838336 S0 S4 := by rw [E4]; exact F3.wr (k := 16) rfl rfl
  have F5 : Fr 13421838336 S0 S5 := by rw [E5]; exact F4.wr (k := 16) rfl rfl
  have F6 : Fr 13421838336 S0 S6 := by rw [E6]; exact F5.wr (k := 16) rfl rfl
  have F7 : Fr 13421838336 S0 S7 := by rw [E7]; exact F6.wr (k := 16) rfl rfl
  have F8 : Fr 13421838336 S0 S8 := by rw [E8]; exact F7.wr (k := 16) rfl rfl
  have a4 : ge S8 40 0 4 = 0 := by rw [E8, ge_puj (by decide), E7, ge_puj (by decide), E6, ge_puj (by decide), E5, ge_puj (by decide), E4, ge_puj (by decide), E3, ge_puj (by decide), E2, ge_puj (by decide), E1, ge_pus]
  have a5 : ge S8 40 0 5 = 0 := by rw [E8, ge_puj (by decide), E7, ge_puj (by decide), E6, ge_puj (by decide), E5, ge_puj (by decide), E4, ge_puj (by decide), E3, ge_puj (by decide), E2, ge_pus]
  have gs := R8.sz
  have A8 : AK S8 := ⟨by rw [a4]; omega, fun _ => by rw [a4]; omega⟩
  refine zk_bd (s_F_X7_blanks S8 R8) (fun _ T q => ?_)
  have t := q.ps.ts A8
  have ho := t.2.2.2.2.1
  refine zk_imp (s_B_X7_walks_44 T t.1 t.2.2.2.1 (by rw [ho, a5]; decide)) (fun v U q2 => ⟨q2.1, F8.tr ((t.tr q2).2.1), trivial⟩)
theorem c7_law {a : Int32} (h : TS S T) (ha : 0 ≤ a.toInt ∧ a.toInt ≤ 1) : zk (B_X7_walksLaw_38 a T) (fun v U => TS S U ∧ 0 ≤ v.toInt ∧ v.toInt ≤ 1) := by
  have l0 : (0 : Int32).toInt = 0 := by decide
  have l1 : (1 : Int32).toInt = 1 := by decide
  unfold B_X7_walksLaw_38
  refine zk_bd (s_F_X7_blanks T h.1) (fun _ T1 q1 => ?_)
  have h1 := h.ps q1.ps
  refine zk_iv fun x e => ?_
  refine zk_eq (fun _ => ?_) (fun _ => zk_gd (z01 (by omega)) (zk_some ⟨h1, ha⟩))
  refine zk_iv fun x e => ?_
  refine zk_iv fun x e => ?_
  refine zk_le (fun _ => zk_gd (z01 (by omega)) (zk_some ⟨h1, ha⟩)) (fun _ => ?_)
  refine zk_iv fun x e => ?_
  exact zk_bd (s_F_X7_wrong _ _ T1 h1.1 (by decide)) (fun v U q => zk_gd (z01 (by omega)) (zk_some ⟨h1.ps q.1, ha⟩))
theorem s_F_X7_walksLaw (S0 : fS) (RS0 : RI S0) : zk (F_X7_walksLaw S0) (fun v S9 => RI S9 ∧ Fr 13421838336 S0 S9 ∧ 0 ≤ v.toInt ∧ v.toInt ≤ 1) := by
  have l0 : (0 : Int32).toInt = 0 := by decide
  unfold F_X7_walksLaw
  refine zk_sv fun S1 E1 => ?_
  refine zk_sv fun S2 E2 => ?_
  refine zk_sv fun S3 E3 => ?_
  refine zk_sv fun S4 E4 => ?_
  have R1 : RI S1 := by rw [E1]; exact RS0.wr (show (0 : Int) ≤ (0 : Int32).toInt by decide) (show (0 : Int32).toInt ≤ 301 by decide)
  have R2 : RI S2 := by rw [E2]; exact R1.wr (show (0 : Int) ≤ (0 : Int32).toInt by decide) (show (0 : Int32).toInt ≤ 7 by decide)
  have R3 : RI S3 := by rw [E3]; exact R2.wf rfl
  have R4 : RI S4 := by rw [E4]; exact R3.wf rfl
  have F1 : Fr 13421838336 S0 S1 := by rw [E1]; exact Fr.rf.wr (k := 29) rfl rfl
  have F2 : Fr 13421838336 S0 S2 := by rw [E2]; exact F1.wr (k := 32) rfl rfl
  have F3 : Fr 13421838336 S0 S3 := by rw [E3]; exact F2.wr (k := 33) rfl rfl
  have F4 : Fr 13421838336 S0 S4 := by rw [E4]; exact F3.wr (k := 16) rfl rfl
  have a4 : ge S4 40 0 4 = 0 := by rw [E4, ge_puj (by decide), E3, ge_puj (by decide), E2, ge_puj (by decide), E1, ge_pus]
  have a5 : ge S4 40 0 5 = 0 := by rw [E4, ge_puj (by decide), E3, ge_puj (by decide), E2, ge_pus]
  have gs := R4.sz
  have A4 : AK S4 := ⟨by rw [a4]; omega, fun _ => by rw [a4]; omega⟩
  refine zk_bd (s_F_X7_ors S4 R4 A4 (by rw [a5]; decide)) (fun v T q => ?_)
  have Z : ∀ {U : fS}, TS S4 U → zk (B_X7_walksLaw_38 v U) (fun v S9 => RI S9 ∧ Fr 13421838336 S0 S9 ∧ 0 ≤ v.toInt ∧ v.toInt ≤ 1) := fun hU => zk_imp (c7_law hU q.2) (fun v V q3 => ⟨q3.1.1, F4.tr q3.1.2.1, q3.2⟩)
  refine zk_iv fun x e => ?_
  refine zk_eq (fun _ => ?_) (fun _ => Z q.1)
  exact zk_bd (s_F_X7_sign 59 T q.1.1 (by decide)) (fun _ U q2 => Z (q.1.ps q2.1))
end CLS
