/-! the outcome as a value, on both sides -/
theorem FS_ex (g s W : Int32) (last : Nat) : ∃ st : Nat, FS g s W last st := by
  have A : ∀ m k : Nat, k + m = last → (∀ i : Nat, i < k → ¬ lowF g s W i) → ∃ st : Nat, FS g s W last st := by
    intro m
    induction m with
    | zero =>
      intro k hk h
      exact ⟨k, by omega, h, fun q => by omega⟩
    | succ m ih =>
      intro k hk h
      by_cases c : lowF g s W k
      · exact ⟨k, by omega, h, fun _ => c⟩
      · refine ih (k + 1) (by omega) (fun i hi => ?_)
        by_cases d : i = k
        · rw [d]; exact c
        · exact h i (by omega)
  exact A last 0 (by omega) (fun i hi => absurd hi (Nat.not_lt_zero _))
noncomputable def stq (g s W : Int32) (last : Nat) : Nat := Classical.choose (FS_ex g s W last)
theorem stq_FS (g s W : Int32) (last : Nat) : FS g s W last (stq g s W last) := Classical.choose_spec (FS_ex g s W last)
/-- the step, the outcome, where it falls, what is gripped: a try at c with this force -/
noncomputable def stS (S : fS) (c : Nat) (g s : Int32) : Nat := stq g s (wsm S (gL S c)) (lst c (hoN S) (upq S c))
def misB (S : fS) (c : Nat) : Bool := decide ((ge S 40 0 30).toInt = (c : Int) ∨ tq S c = -1 ∨ (ge S 40 0 31).toInt < ((c % 8 + c / 8 : Nat) : Int))
noncomputable def oq (S : fS) (c : Nat) (g s : Int32) : Int32 := if misB S c then 0 else if wrd S (gL S c) then 4 else ocm (stS S c g s) (lst c (hoN S) (upq S c)) (upq S c)
noncomputable def lgq (S : fS) (c : Nat) (g s : Int32) : Int := if oq S c g s = 3 then lg c (hoN S) (stS S c g s - upq S c) else -1
def glq (S : fS) (c : Nat) : List Nat := if misB S c then [] else gL S c
section OUQ
variable {S T U : fS} {r r1 c : Nat} {p g s : Int32}
theorem mis_B (h : mis S c) : misB S c = true := decide_eq_true h
theorem mis_n (h : ¬ mis S c) : ¬ misB S c = true := fun q => by
  unfold misB at q
  have q2 := of_decide_eq_true q
  exact h q2
theorem oq_m (h : mis S c) : oq S c g s = 0 := by unfold oq; rw [if_pos (mis_B h)]
theorem oq_n (h : ¬ mis S c) : oq S c g s = if wrd S (gL S c) then 4 else ocm (stS S c g s) (lst c (hoN S) (upq S c)) (upq S c) := by unfold oq; rw [if_neg (mis_n h)]
theorem glq_m (h : mis S c) : glq S c = [] := by unfold glq; rw [if_pos (mis_B h)]
theorem glq_n (h : ¬ mis S c) : glq S c = gL S c := by unfold glq; rw [if_neg (mis_n h)]
theorem lgq_n3 (h : ¬ oq S c g s = 3) : lgq S c g s = -1 := by unfold lgq; rw [if_neg h]
/-- what an outcome is read off -/
theorem oAt_q {o : Int32} (ho : o = (if wrd S (gL S c) then 4 else 6)) (hm : ¬ mis S c) : oAt o (stS S c g s) (lst c (hoN S) (upq S c)) (upq S c) = oq S c g s := by
  rw [oq_n hm]
  unfold oAt
  by_cases w : wrd S (gL S c) = true
  · rw [if_pos w] at ho
    rw [if_pos w, ho, if_pos (Or.inr rfl)]
  · rw [if_neg w] at ho
    rw [if_neg w, ho, if_neg (by decide)]
def Wwb (a i j : Nat) : Bool := Wgr a i j
theorem q_wouldBe (H : HVq S) (hp : p.toInt = (c : Int)) (hc : c < 64) (hho : 0 ≤ (ge S 40 0 30).toInt ∧ (ge S 40 0 30).toInt ≤ 63) : pk (F_X7_wouldBe p g s S) (fun v T => FX Wgr S T ∧ v = oq S c g s ∧ (ge T 40 0 42).toInt = lgq S c g s ∧ (ge T 40 0 40).toInt = ((glq S c).length : Int) ∧ (∀ k : Nat, k < (glq S c).length → (ge T 55 0 k).toInt = (((glq S c).getD k 0 : Nat) : Int)) ∧ ge T 40 0 44 = (if misB S c then 0 else wsm S (gL S c)) ∧ (ge T 40 0 45).toInt = (if misB S c then 0 else (upq S c : Int))) := by
  have l0 : (0 : Int32).toInt = 0 := by decide
  have lm1 : (-1 : Int32).toInt = -1 := by decide
  have hhN := cn_eq hho.1
  unfold F_X7_wouldBe
  refine pq_bd (q_grips H hp hc) (fun _ S2 q => ?_)
  obtain ⟨F2, h42, q⟩ := q
  refine pq_iv fun x4 e4 => ?_
  rcases q with ⟨hm, q41, q40, q44, q45⟩ | ⟨hm, rg, q41, q45⟩
  · refine pq_bb (fun c0 => absurd (e4.symm.trans c0) (by rw [q41]; decide)) (fun _ => ?_)
    refine pq_iv fun x6 e6 => pq_some ⟨F2, by rw [e6, q41, oq_m hm], ?_, ?_, ?_, ?_, ?_⟩
    · rw [h42, lgq_n3 (by rw [oq_m hm]; decide)]; exact lm1
    · rw [q40, glq_m hm]; exact l0
    · rw [glq_m hm]
      intro k hk
      exact absurd hk (Nat.not_lt_zero _)
    · rw [q44, if_pos (mis_B hm)]
    · rw [q45, if_pos (mis_B hm)]; exact l0
  · have hne : c ≠ hoN S := fun e => hm (Or.inl (by rw [← hhN, e]; rfl))
    have nm := mis_n hm
    have hup : upq S c ≤ 9 := by
      have hh0 := H.2.1 c hc
      have ht1 : ¬ tq S c = -1 := fun e => hm (Or.inr (Or.inl e))
      unfold tq at ht1
      unfold upq
      by_cases z : hh S c ≤ 0
      · rw [if_pos z] at ht1; exact absurd rfl ht1
      · omega
    by_cases w : wrd S (gL S c) = true
    · rw [if_pos w] at q41
      have o4 : oq S c g s = 4 := by rw [oq_n hm, if_pos w]
      refine pq_bb (fun c0 => absurd (e4.symm.trans c0) (by rw [q41]; decide)) (fun _ => ?_)
      refine pq_iv fun x6 e6 => pq_some ⟨F2, by rw [e6, q41, o4], ?_, by rw [glq_n hm]; exact rg.1, by rw [glq_n hm]; exact rg.2.1, by rw [if_neg nm]; exact rg.2.2, by rw [if_neg nm]; exact q45⟩
      rw [h42, lgq_n3 (by rw [o4]; decide)]; exact lm1
    · rw [if_neg w] at q41
      refine pq_bb (fun _ => ?_) (fun c0 => absurd (e4.trans q41) c0)
      refine pq_iv fun x7 e7 => pq_iv fun x8 e8 => pq_iv fun x9 e9 => ?_
      rw [F2.1 40 0 30 rfl] at e9
      rw [rg.2.2] at e7
      rw [e7]
      refine pq_bd (q_judged (c := c) (h := hoN S) (up := upq S c) (st := stS S c g s) hp (by rw [e9]; exact hhN.symm) (by rw [e8]; exact q45) hc (by unfold hoN; omega) hne hup (stq_FS _ _ _ _)) (fun v10 T q => pq_some ?_)
      obtain ⟨FT, q1, q2⟩ := q
      have o10 : v10 = oq S c g s := by rw [q1, oq_n hm, if_neg w]
      have FW : FX Wgr S T := F2.tr (FT.sub (fun a i j h => by
        unfold Wgr at h
        unfold W42
        cases h1 : Nat.beq a 40
        · rfl
        · cases h2 : Nat.beq j 42
          · rfl
          · rw [h1, h2] at h
            cases h3 : Nat.beq a 55 <;> cases h4 : Nat.beq j 40 <;> cases h5 : Nat.beq j 41 <;> rw [h3, h4, h5] at h <;> cases h))
      refine ⟨FW, o10, ?_, by rw [FT.1 40 0 40 rfl, glq_n hm]; exact rg.1, by rw [glq_n hm]; exact fun k hk => by rw [FT.1 55 0 k rfl]; exact rg.2.1 k hk, by rw [FT.1 40 0 44 rfl, if_neg nm]; exact rg.2.2, by rw [FT.1 40 0 45 rfl, if_neg nm]; exact q45⟩
      rw [q2]
      unfold lgq
      rw [o10]
theorem y_outcome0 (h : ge S 25 r 1 = 0) : pk (F_X5_outcomeAt r p S) (fun v T => S = T ∧ v = 0) := by
  unfold F_X5_outcomeAt
  refine pq_iv fun x2 e2 => ?_
  refine pq_bb (fun _ => ?_) (fun c => absurd (e2.trans h) c)
  unfold B_X5_outcomeAt_15
  exact pq_iv fun x1 e1 => pq_some ⟨rfl, by rw [e1, h]⟩
/-- the class looks, then judges at a force -/
theorem y_judge (hL : LOq S T r c) (hp : pk (F_X5_failingStep r g s T) (fun _ U => T = U)) : pk (bd (F_X5_failingStep r g s T) (fun v U => F_X5_outcomeAt r v U)) (fun v U => T = U ∧ v = oq S c g s) := by
  obtain ⟨h0, h10, h2, h⟩ := hL
  rcases h with ⟨hm, h1, h16, h14⟩ | ⟨hm, gt, ty⟩
  · refine pq_bd hp (fun v U q => ?_)
    obtain rfl := q
    exact pq_imp (y_outcome0 h1) (fun v U q => ⟨q.1, by rw [q.2, oq_m hm]⟩)
  · refine pq_bd (y_failingStep ty) (fun v U q => ?_)
    obtain ⟨rfl, st, q1, q2⟩ := q
    refine pq_imp (y_outcomeAt ty q1) (fun v U q => ⟨q.1, ?_⟩)
    have e : st = stS S c g s := q2.un (stq_FS _ _ _ _)
    rw [q.2, e]
    exact oAt_q gt.2.2.2 hm
theorem y_fs0 : pk (F_X5_failingStep r g s S) (fun _ U => S = U) := by
  unfold F_X5_failingStep
  refine pq_lp (fun (_ : Int32 × Int32 × Int32) T => S = T) (fun _ _ (_ : Int32) T => S = T) ?_ fuel (g, s, 0) S rfl
  intro k hk z T hI
  obtain ⟨a1, a2, a3⟩ := z
  obtain rfl := hI
  unfold B_X5_failingStep_2
  dsimp only
  refine pq_iv fun x1 e1 => ?_
  refine pq_le (fun c0 => pq_iv fun x3 e3 => pq_some rfl) (fun c0 => ?_)
  refine pq_iv fun x4 e4 => pq_iv fun x5 e5 => pq_iv fun x6 e6 => pq_iv fun x7 e7 => ?_
  refine pq_le (fun c1 => ?_) (fun c1 => pq_some rfl)
  exact pq_iv fun x9 e9 => hk _ S rfl
/-- what the class's try says of itself once it is carried -/
def CAq (S T : fS) (r c : Nat) (g s : Int32) : Prop := (ge T 25 r 0).toInt = (c : Int) ∧ ge T 25 r 10 = ge S 40 0 30 ∧ ge T 25 r 1 = oq S c g s ∧ (ge T 25 r 2).toInt = lgq S c g s ∧ (ge T 25 r 16).toInt = ((glq S c).length : Int) ∧ (∀ k : Nat, k < (glq S c).length → (ge T 26 r k).toInt = (((glq S c).getD k 0 : Nat) : Int)) ∧ (mis S c ∨ TYq T r c (hoN S) (upq S c) (wsm S (gL S c)))
theorem y_carryq (hL : LOq S T r c) : pk (F_X5_carry r g s T) (fun _ U => FX (Wc25 r) T U ∧ CAq S U r c g s) := by
  have lm1 : (-1 : Int32).toInt = -1 := by decide
  have l0 : (0 : Int32).toInt = 0 := by decide
  have hL' := hL
  obtain ⟨h0, h10, h2, h⟩ := hL
  rcases h with ⟨hm, h1, h16, h14⟩ | ⟨hm, gt, ty⟩
  · unfold F_X5_carry
    refine pq_bd y_fs0 (fun v1 U q => ?_)
    obtain rfl := q
    have lz : pk (F_X5_letGoAt r v1 T) (fun v U => T = U ∧ v = -1) := by
      unfold F_X5_letGoAt
      refine pq_bd (y_outcome0 h1) (fun v U q => ?_)
      obtain ⟨rfl, q⟩ := q
      exact pq_bb (fun c => absurd (q.symm.trans c) (by decide)) (fun _ => pq_some ⟨rfl, rfl⟩)
    refine pq_bd lz (fun v4 U q => ?_)
    obtain ⟨rfl, q4⟩ := q
    refine pq_sv fun S7 E7 => ?_
    have F7 : FX (Wc25 r) T S7 := by rw [E7]; exact FX.rf.wr (Nat.beq_refl r)
    refine pq_bd (y_outcome0 (by rw [E7, ge_puj (by decide)]; exact h1)) (fun v8 U q => ?_)
    obtain ⟨rfl, q8⟩ := q
    refine pq_sv fun S11 E11 => pq_some ?_
    have F11 : FX (Wc25 r) T S11 := by rw [E11]; exact F7.wr (Nat.beq_refl r)
    refine ⟨F11, by rw [F11.1 25 r 0 rfl]; exact h0, by rw [F11.1 25 r 10 rfl]; exact h10, by rw [E11, ge_pus, q8, oq_m hm], ?_, by rw [F11.1 25 r 16 rfl, h16, glq_m hm]; exact l0, by rw [glq_m hm]; exact fun k hk => absurd hk (Nat.not_lt_zero _), Or.inl hm⟩
    rw [E11, ge_puj (by decide), E7, ge_pus, q4, lgq_n3 (by rw [oq_m hm]; decide)]
    exact lm1
  · refine pq_imp (y_carry ty) (fun _ U q => ?_)
    obtain ⟨F, st, q1, q2, q3⟩ := q
    have e : st = stS S c g s := q1.un (stq_FS _ _ _ _)
    have eo := oAt_q (g := g) (s := s) gt.2.2.2 hm
    refine ⟨F, by rw [F.1 25 r 0 rfl]; exact h0, by rw [F.1 25 r 10 rfl]; exact h10, by rw [q2, e]; exact eo, ?_, by rw [F.1 25 r 16 rfl, glq_n hm]; exact gt.1, by rw [glq_n hm]; exact fun k hk => by rw [F.1 26 r k rfl]; exact gt.2.1 k hk, Or.inr (ty.fx F rfl rfl rfl rfl rfl rfl)⟩
    rw [q3, e]
    unfold lAt lgq
    rw [eo]
end OUQ
