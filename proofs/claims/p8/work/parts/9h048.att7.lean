/-! the reference's try that is recorded: behind the lot -/
def W57 (m a i _ : Nat) : Bool := Nat.beq a 57 && Nat.beq i m
def Wb8 (m a i j : Nat) : Bool := Wgr a i j || W57 m a i j
def Wa8 (m a i j : Nat) : Bool := Wts a i j || (W57 m a i j || (Nat.beq a 40 && Nat.beq j 46))
section AT7
variable {S : fS} {c m : Nat} {p lot : Int32} {g : G3}
theorem w57_t {j : Nat} : W57 m 57 m j = true := Nat.beq_refl m
theorem w57_out {a i j : Nat} (h : a ≠ 57) : W57 m a i j = false := by unfold W57; rw [beq_out h]; rfl
theorem Wb8_t {j : Nat} : Wb8 m 57 m j = true := by unfold Wb8; rw [w57_t]; exact Bool.or_true _
theorem Wa8_t {j : Nat} : Wa8 m 57 m j = true := by unfold Wa8; rw [w57_t, Bool.true_or]; exact Bool.or_true _
theorem Wb8_g : ∀ a i j : Nat, Wb8 m a i j = false → Wgr a i j = false := fun a i j h => (Bool.or_eq_false_iff.1 h).1
theorem Wa8_s : ∀ a i j : Nat, Wa8 m a i j = false → Wts a i j = false := fun a i j h => (Bool.or_eq_false_iff.1 h).1
theorem Wa8_b : ∀ a i j : Nat, Wa8 m a i j = false → Wb8 m a i j = false := fun a i j h => Bool.or_eq_false_iff.2 ⟨Wgr_s a i j (Wa8_s a i j h), (Bool.or_eq_false_iff.1 (Bool.or_eq_false_iff.1 h).2).1⟩
/-- the row of the record -/
def RWq (S T : fS) (m c : Nat) (p lot : Int32) (g : G3) : Prop := ge T 57 m 0 = p ∧ ge T 57 m 1 = oq S c (clm g).1 (clm g).2.1 ∧ (ge T 57 m 2).toInt = (if oq S c (clm g).1 (clm g).2.1 = 3 then lgq S c (clm g).1 (clm g).2.1 else -1) ∧ ge T 57 m 3 = lot ∧ (∀ j : Nat, 4 ≤ j → j < 10 → ge T 57 m j = ge S 57 m j) ∧ ge T 57 m 12 = ge S 40 0 30 ∧ ∃ V : fS, GOq S V c ∧ ge T 57 m 10 = ge V 40 0 44 ∧ ge T 57 m 11 = ge V 40 0 45
theorem q_at80 (RS : RI S) (H : HVq S) (hO : HOq S) (hT : TLq S lot g) (hp : p.toInt = (c : Int)) (hc : c < 64) : pk (B_X7_attemptAt_80L p m lot S) (fun v T => FX (Wa8 m) S T ∧ RVq T (nq S) ∧ MWq S c (clm g).1 (clm g).2.1 (hw T) (HS T) ∧ v = oq S c (clm g).1 (clm g).2.1 ∧ CNq S T (oq S c (clm g).1 (clm g).2.1) (feq S c (clm g).1 (clm g).2.1) ∧ RWq S T m c p lot g ∧ ge T 40 0 46 = ge S 40 0 46 + 1) := by
  have l3 : (3 : Int32).toInt = 3 := by decide
  have lm1 : (-1 : Int32).toInt = -1 := by decide
  unfold B_X7_attemptAt_80L
  refine pq_iv fun x8 e8 => ?_
  refine pq_bd (pq_and (s_F_X7_grips p S RS ⟨by omega, by omega⟩).pk (q_grips H hp hc)) (fun v9 S10 q => ?_)
  obtain ⟨⟨R10, _⟩, F10, G10⟩ := q
  refine pq_iv fun x12 e12 => pq_sv fun S13 E13 => pq_iv fun x14 e14 => ?_
  rw [E13, ge_pua (by decide)] at e14
  refine pq_sv fun S15 E15 => pq_sv fun S16 E16 => ?_
  have R13 : RI S13 := by rw [E13]; exact R10.wf rfl
  have R15 : RI S15 := by rw [E15]; exact R13.wf rfl
  have R16 : RI S16 := by rw [E16]; exact R15.wf rfl
  have F13 : FX (Wb8 m) S S13 := by rw [E13]; exact (F10.sub Wb8_g).wr Wb8_t
  have F15 : FX (Wb8 m) S S15 := by rw [E15]; exact F13.wr Wb8_t
  have F16 : FX (Wb8 m) S S16 := by rw [E16]; exact F15.wr Wb8_t
  have r16 : ge S16 57 m 10 = ge S10 40 0 44 ∧ ge S16 57 m 11 = ge S10 40 0 45 ∧ ge S16 57 m 12 = ge S 40 0 30 ∧ ∀ j : Nat, j < 10 → ge S16 57 m j = ge S 57 m j := by
    have n10 : (10 : Int32).toNatClampNeg = 10 := by decide
    have n11 : (11 : Int32).toNatClampNeg = 11 := by decide
    have n12 : (12 : Int32).toNatClampNeg = 12 := by decide
    rw [n10] at E13
    rw [n11] at E15
    rw [n12] at E16
    refine ⟨?_, ?_, ?_, fun j hj => ?_⟩
    · rw [E16, ge_puj (by decide), E15, ge_puj (by decide), E13, ge_pus, e12]
    · rw [E16, ge_puj (by decide), E15, ge_pus, e14]
    · rw [E16, ge_pus, e8]
    · rw [E16, ge_puj (by omega), E15, ge_puj (by omega), E13, ge_puj (by omega), F10.1 57 m j rfl]
  obtain ⟨hhE, hqE, hwE, nE, oE, lE, gE, HVE, vE⟩ := SRt F16 (fun a j h => by unfold Wb8; rw [Wgr_out (by omega) (by omega), w57_out (by omega)]; rfl) (fun c j => rfl) rfl rfl rfl (clm g).1 (clm g).2.1 c
  have HSE : HS S16 = HS S := by funext c; unfold HS; rw [hqE, hhE]
  have lcE : lcq S16 c (clm g).1 (clm g).2.1 = lcq S c (clm g).1 (clm g).2.1 := by unfold lcq; rw [oE, lE]
  have feE : feq S16 c (clm g).1 (clm g).2.1 = feq S c (clm g).1 (clm g).2.1 := by unfold feq; rw [oE, gE, vE]
  have t16 : TLq S16 lot g := by
    show TPq S16 (ge S16 40 0 15).toInt (env1 S16 lot) g
    rw [F16.1 40 0 15 rfl]
    refine TPq.fx (TPq.cg hT (fun i hi => ?_)) F16 (fun _ => rfl) (fun _ _ => rfl)
    unfold env1
    rw [F16.1 40 0 35 rfl, F16.1 40 0 36 rfl, F16.1 40 0 37 rfl, F16.1 40 0 32 rfl, F16.1 40 0 38 rfl, F16.1 40 0 33 rfl]
  refine pq_bd (r_triesAt R16 (HVE H) (by unfold HOq; rw [F16.1 40 0 30 rfl]; exact hO) t16 hp hc) (fun v17 S18 q => ?_)
  obtain ⟨F18, RV, MW, o18, l18, CN⟩ := q
  rw [nE] at RV
  rw [oE] at o18 CN
  rw [lE] at l18
  rw [feE] at CN
  unfold MWq at MW
  rw [oE, gE, lcE, hwE, HSE, nE] at MW
  have G18 : FX (Wa8 m) S S18 := (F16.sub Wa8_b).tr (F18.sub Wa8_s)
  refine pq_sv fun S20 E20 => pq_iv fun x21 e21 => pq_sv fun S22 E22 => pq_iv fun x23 e23 => ?_
  have F20 : FX (Wa8 m) S S20 := by rw [E20]; exact G18.wr Wa8_t
  have F22 : FX (Wa8 m) S S22 := by rw [E22]; exact F20.wr Wa8_t
  have k22 : ∀ a i j : Nat, a ≠ 57 → ge S22 a i j = ge S18 a i j := fun a i j h => by rw [E22, ge_pua h, E20, ge_pua h]
  have g21 : x21 = oq S c (clm g).1 (clm g).2.1 := by rw [e21, E20, ge_pua (by decide)]; exact o18
  have g23 : x23 = oq S c (clm g).1 (clm g).2.1 := by rw [e23, k22 _ _ _ (by decide)]; exact o18
  have n0 : (0 : Int32).toNatClampNeg = 0 := by decide
  have n1 : (1 : Int32).toNatClampNeg = 1 := by decide
  rw [n0] at E20
  rw [n1] at E22
  have fin : ∀ x25 : Int32, x25.toInt = (if oq S c (clm g).1 (clm g).2.1 = 3 then lgq S c (clm g).1 (clm g).2.1 else -1) → pk (B_X7_attemptAt_151L m lot x25 2 m S22) (fun v T => FX (Wa8 m) S T ∧ RVq T (nq S) ∧ MWq S c (clm g).1 (clm g).2.1 (hw T) (HS T) ∧ v = oq S c (clm g).1 (clm g).2.1 ∧ CNq S T (oq S c (clm g).1 (clm g).2.1) (feq S c (clm g).1 (clm g).2.1) ∧ RWq S T m c p lot g ∧ ge T 40 0 46 = ge S 40 0 46 + 1) := by
    intro x25 h25
    unfold B_X7_attemptAt_151L
    refine pq_gd fun _ => pq_sv fun T2 D2 => pq_sv fun T3 D3 => pq_iv fun x4 e4 => pq_iv fun x5 e5 => pq_sv fun T6 D6 => pq_iv fun x7 e7 => ?_
    have n2 : (2 : Int32).toNatClampNeg = 2 := by decide
    have n3 : (3 : Int32).toNatClampNeg = 3 := by decide
    rw [n2] at D2
    rw [n3] at D3
    have k3 : ∀ a i j : Nat, a ≠ 57 → ge T3 a i j = ge S18 a i j := fun a i j h => by rw [D3, ge_pua h, D2, ge_pua h, k22 a i j h]
    have k6 : ∀ a i j : Nat, a ≠ 57 → ¬ (a = 40 ∧ j = 46) → ge T6 a i j = ge S18 a i j := fun a i j h h2 => by
      rw [D6, ge_pu, if_neg (fun q => h2 ⟨q.1, q.2.2⟩)]
      exact k3 a i j h
    have r6 : ∀ j : Nat, ge T6 57 m j = ge T3 57 m j := fun j => by rw [D6, ge_pua (by decide)]
    have FT2 : FX (Wa8 m) S T2 := by rw [D2]; exact F22.wr Wa8_t
    have FT3 : FX (Wa8 m) S T3 := by rw [D3]; exact FT2.wr Wa8_t
    have FT6 : FX (Wa8 m) S T6 := by rw [D6]; exact FT3.wr (by show (_ || (_ || true)) = true; rw [Bool.or_true, Bool.or_true])
    have hh6 : hh T6 = hh S18 := by funext c; unfold hh; rw [k6 54 0 c (by decide) (by omega)]
    have hq6 : hq T6 = hq S18 := by funext c k; unfold hq; rw [k6 53 c k (by decide) (by omega)]
    have hw6 : hw T6 = hw S18 := by funext c; unfold hw; rw [k6 50 0 c (by decide) (by omega)]
    have HS6 : HS T6 = HS S18 := by funext c; unfold HS; rw [hq6, hh6]
    have q18 : ∀ j : Nat, ge S18 57 m j = ge S16 57 m j := fun j => F18.1 57 m j rfl
    refine pq_some ⟨FT6, ?_, ?_, ?_, ?_, ⟨?_, ?_, ?_, ?_, fun j h4 h10 => ?_, ?_, S10, G10, ?_, ?_⟩, ?_⟩
    · unfold RVq
      rw [hh6, hq6, hw6]
      exact RV
    · unfold MWq
      rw [hw6, HS6]
      exact MW
    · rw [e7, k6 40 0 41 (by decide) (by omega)]
      exact o18
    · obtain ⟨c1, c2, c3, c4, c5⟩ := CN
      unfold CNq
      rw [k6 40 0 43 (by decide) (by omega), k6 40 0 35 (by decide) (by omega), k6 40 0 36 (by decide) (by omega), k6 40 0 37 (by decide) (by omega), k6 40 0 38 (by decide) (by omega)]
      rw [F16.1 40 0 35 rfl] at c2
      rw [F16.1 40 0 36 rfl] at c3
      rw [F16.1 40 0 37 rfl, F16.1 40 0 32 rfl] at c4
      rw [F16.1 40 0 38 rfl] at c5
      exact ⟨c1, c2, c3, c4, c5⟩
    · rw [r6, D3, ge_puj (by decide), D2, ge_puj (by decide), E22, ge_puj (by decide), E20, ge_pus]
    · rw [r6, D3, ge_puj (by decide), D2, ge_puj (by decide), E22, ge_pus]
      exact g21
    · rw [r6, D3, ge_puj (by decide), D2, ge_pus]
      exact h25
    · rw [r6, D3, ge_pus]
    · rw [r6, D3, ge_puj (by omega), D2, ge_puj (by omega), E22, ge_puj (by omega), E20, ge_puj (by omega), q18, r16.2.2.2 j h10]
    · rw [r6, D3, ge_puj (by decide), D2, ge_puj (by decide), E22, ge_puj (by decide), E20, ge_puj (by decide), q18, r16.2.2.1]
    · rw [r6, D3, ge_puj (by decide), D2, ge_puj (by decide), E22, ge_puj (by decide), E20, ge_puj (by decide), q18, r16.1]
    · rw [r6, D3, ge_puj (by decide), D2, ge_puj (by decide), E22, ge_puj (by decide), E20, ge_puj (by decide), q18, r16.2.1]
    · rw [D6, ge_pus, e5, e4, k3 40 0 46 (by decide), F18.1 40 0 46 rfl, F16.1 40 0 46 rfl]
  refine pq_bb (fun d => ?_) (fun d => ?_)
  · refine pq_iv fun x25 e25 => fin x25 ?_
    rw [if_pos (by rw [← g23]; exact d), e25, k22 _ _ _ (by decide)]
    exact l18
  · exact fin (-1) (by rw [if_neg (by rw [← g23]; exact d)]; exact lm1)
end AT7
