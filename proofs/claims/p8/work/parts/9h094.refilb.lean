section RFLB
variable {S T V : fS} {p : Int32} {n i c t : Nat}
theorem y_fl10q : pk (F_fill10 0 (-1) S) (fun _ T => FX (Whq 0) S T ∧ (∀ u : Nat, ge T 8 0 u = ge S 8 0 u) ∧ ∀ c : Nat, c < 64 → ge T 10 0 c = -1) := by
  have l0 : (0 : Int32).toInt = 0 := by decide
  have l64 : (64 : Int32).toInt = 64 := by decide
  unfold F_fill10
  refine pq_lp (fun (y : Int32 × Int32 × Int32) V => y.1 = -1 ∧ y.2.2 = 64 ∧ FX (Whq 0) S V ∧ (∀ u : Nat, ge V 8 0 u = ge S 8 0 u) ∧ ∃ i : Nat, y.2.1.toInt = (i : Int) ∧ i ≤ 64 ∧ ∀ c : Nat, c < i → ge V 10 0 c = -1) (fun _ _ (_ : Int32) T => FX (Whq 0) S T ∧ (∀ u : Nat, ge T 8 0 u = ge S 8 0 u) ∧ ∀ c : Nat, c < 64 → ge T 10 0 c = -1) ?_ fuel (-1, 0, 64) S ⟨rfl, rfl, FX.rf, fun _ => rfl, 0, l0, by omega, fun c hc => absurd hc (Nat.not_lt_zero _)⟩
  intro k hk y V hy
  obtain ⟨a1, a2, a3⟩ := y
  obtain ⟨f1, f2, FV, e8, i, i1, i2, i3⟩ := hy
  dsimp only at f1 f2 i1
  subst f1
  subst f2
  unfold B_fill10_5
  dsimp only
  refine pq_le (fun c0 => pq_some ⟨FV, e8, fun c hc => i3 c (by omega)⟩) (fun c0 => pq_gd fun _ => pq_sv fun S3 E3 => pq_iv fun x4 e4 => ?_)
  rw [cnNq i1] at E3
  have g4 : x4.toInt = a2.toInt + 1 := by rw [e4]; exact ti_inc (by omega)
  refine hk (-1, x4, 64) S3 ⟨rfl, rfl, by rw [E3]; exact FV.wr (Whq_10 0 i), fun u => by rw [E3, ge_pua (by decide)]; exact e8 u, i + 1, by dsimp only; omega, by omega, fun c hc => ?_⟩
  by_cases d : c = i
  · rw [E3, d, ge_pus]
  · rw [E3, ge_puj d]; exact i3 c (by omega)
/-- the class -/
def RF6 (S T : fS) (n : Nat) : Prop := FX (Whq 0) S T ∧ CRl (rfS S n).2.1 (rfS S n).2.2 (fun c => (ge T 10 0 c).toInt) (fun t => (ge T 9 0 t).toInt) ∧ ∀ u : Nat, u < n → ge T 8 0 u = npq S u
theorem y_layAgain (h : IV S) (hn : nq S = (n : Int)) (hp : p = ge S 1 0 1) : pk (F_X2_layAgain 0 p S) (fun v T => RF6 S T n ∧ RFc S n v) := by
  have l0 : (0 : Int32).toInt = 0 := by decide
  obtain ⟨H, hO, B, N, _⟩ := h.2.2.2.1
  have R := h.1
  have n24 := H.2.2.1
  have en : (ge S 2 0 0).toInt = (n : Int) := by rw [B.1.2.2.1, hn]
  unfold F_X2_layAgain
  refine pq_bd y_fl10q (fun _ V0 q => ?_)
  obtain ⟨F0, q8, q10⟩ := q
  have e10 : ∀ c : Nat, c < 64 → (ge V0 10 0 c).toInt = if (rfS S 0).2.2 c ≤ 0 then -1 else (rfS S 0).2.1 c ((rfS S 0).2.2 c - 1).toNat := fun c hc => by
    show (ge V0 10 0 c).toInt = if (0 : Int) ≤ 0 then -1 else _
    rw [if_pos (by decide), q10 c hc]
    decide
  refine pq_lp (fun (y : Int32 × Int32 × Int32) V => y.1 = p ∧ FX (Whq 0) S V ∧ ∃ i : Nat, y.2.2.toInt = (i : Int) ∧ i ≤ n ∧ RFc S i y.2.1 ∧ CRl (rfS S i).2.1 (rfS S i).2.2 (fun c => (ge V 10 0 c).toInt) (fun t => (ge V 9 0 t).toInt) ∧ ∀ u : Nat, ge V 8 0 u = if u < i then npq S u else ge S 8 0 u) (fun _ _ (v : Int32) T => RF6 S T n ∧ RFc S n v) ?_ fuel (p, 0, 0) V0 ⟨rfl, F0, 0, l0, by omega, rfl, fun c hc => ⟨e10 c hc, fun k hk => absurd hk (by show ¬ (k : Int) < 0; omega)⟩, fun u => by rw [q8 u, if_neg (Nat.not_lt_zero _)]⟩
  intro k hk y V hy
  obtain ⟨a1, a2, a3⟩ := y
  obtain ⟨f1, FV, i, i1, i2, i3, i4, i5⟩ := hy
  dsimp only at f1 i1 i3
  subst f1
  unfold B_X2_layAgain_12
  dsimp only
  refine pq_iv fun x6 e6 => ?_
  rw [FV.1 2 0 0 rfl] at e6
  refine pq_le (fun c0 => pq_some ?_) (fun c0 => ?_)
  · have : i = n := by rw [e6, en] at c0; omega
    rw [this] at i3 i4 i5
    exact ⟨⟨FV, i4, fun u hu => by rw [i5, if_pos hu]⟩, i3⟩
  rw [e6, en] at c0
  have hin : i < n := by omega
  have hiq : (i : Int) < nq S := by omega
  obtain ⟨c1, c2⟩ := r49q R i
  have b7 := (B.2.1 i hiq).2.2.2.2
  rw [cnNq i1]
  refine pq_gd fun _ => pq_iv fun x9 e9 => pq_gd fun _ => pq_iv fun x11 e11 => ?_
  rw [i5 i, if_neg (Nat.lt_irrefl _)] at e9
  have f9 : x9 = ge S 50 0 i := by
    rw [e9]
    exact of_toInt (B.1.2.2.2.2.1 i hiq).1
  rw [FV.1 7 0 i rfl, b7] at e11
  have nx : ∀ (U : fS), FX (Whq 0) S U → ge U 8 0 i = npq S i → CRl (rfS S (i + 1)).2.1 (rfS S (i + 1)).2.2 (fun c => (ge U 10 0 c).toInt) (fun t => (ge U 9 0 t).toInt) → (∀ u : Nat, u ≠ i → ge U 8 0 u = ge V 8 0 u) → pk (B_X2_layAgain_66 0 k a1 a2 a3 x9 U) (fun v T => RF6 S T n ∧ RFc S n v) := by
    intro U FU e8 cr eo
    have g5 : ∀ u : Nat, ge U 8 0 u = if u < i + 1 then npq S u else ge S 8 0 u := fun u => by
      by_cases d : u = i
      · rw [d, e8, if_pos (by omega)]
      · rw [eo u d, i5 u]
        by_cases e : u < i
        · rw [if_pos e, if_pos (by omega)]
        · rw [if_neg e, if_neg (by omega)]
    have go : ∀ t : Int32, RFc S (i + 1) (a2 + t) → pk (B_X2_layAgain_83 0 k a1 a3 t a2 U) (fun v T => RF6 S T n ∧ RFc S n v) := by
      intro t ht
      unfold B_X2_layAgain_83
      refine pq_iv fun x1 e1 => pq_iv fun x2 e2 => ?_
      have g2 : x2.toInt = a3.toInt + 1 := by rw [e2]; exact ti_inc (by omega)
      exact hk (a1, x1, x2) U ⟨rfl, FU, i + 1, by dsimp only; omega, by omega, by dsimp only; rw [e1]; exact ht, cr, g5⟩
    unfold B_X2_layAgain_66
    rw [cnNq i1]
    refine pq_gd fun _ => pq_iv fun x4 e4 => ?_
    rw [e8] at e4
    exact pq_bb (fun d => go 0 (i3.no (fun q => q (by rw [← e4, d, f9])) (Int32.add_zero _))) (fun d => go 1 (i3.yes (fun q => d (by rw [e4, f9]; exact q)) rfl))
  refine pq_bb (fun d => ?_) (fun d => ?_)
  · have hh : ge S 49 0 i = ge S 40 0 30 := by rw [← e11, d, hp]; exact B.2.2.1
    refine pq_gd fun _ => pq_sv fun S19 E19 => pq_gd fun _ => pq_sv fun S21 E21 => ?_
    have F19 : FX (Whq 0) S S19 := by rw [E19]; exact FV.wr (Whq_8 0 i)
    have F21 : FX (Whq 0) S S21 := by rw [E21]; exact F19.wr (Whq_9 0 i)
    have HBi := (rfq_HB R H i (by omega)).1
    refine nx S21 F21 ?_ ?_ (fun u hu => by rw [E21, ge_pua (by decide), E19, ge_puj hu])
    · rw [E21, ge_pua (by decide), E19, ge_pus]
      unfold npq
      rw [if_pos hh]
    · rw [rfq_y hh]
      refine i4.cg (fun _ _ => rfl) (fun _ _ _ _ => rfl) (fun c _ => by rw [E21, ge_pua (by decide), E19, ge_pua (by decide)]) (fun c k hc hk => ?_)
      have a := HBi.1 c k hc hk
      rw [E21, ge_puj (by omega), E19, ge_pua (by decide)]
  · have hh : ¬ ge S 49 0 i = ge S 40 0 30 := fun q => d (by rw [e11, hp, q]; exact B.2.2.1.symm)
    have HBi := rfq_HB R H i (by omega)
    refine pq_gd fun _ => pq_iv fun x14 e14 => ?_
    rw [FV.1 7 0 i rfl, b7] at e14
    refine pq_bd (y_put2 (n := (i : Int)) (n' := (i : Int) + 1) (w := (rfS S i).1) (t := i) (c := (ge S 49 0 i).toNatClampNeg) HBi.1 i4 (by rw [FV.1 2 0 0 rfl, en]; omega) (by rw [FV.1 2 0 0 rfl, en]; omega) (fun u hu => (rfq_bd R H (by omega)).2) HBi.2 (by omega) (by omega) (fun q => by omega) (fun u hu hne => by omega) i1 (by rw [e14]; exact c1) c2) (fun _ U q => ?_)
    obtain ⟨FU, _, q2, q3, _⟩ := q
    refine nx U (FV.tr FU) ?_ ?_ (fun u hu => by rw [q3, if_neg hu])
    · rw [q3, if_pos rfl, e14]
      unfold npq
      rw [if_neg hh]
    · rw [rfq_n hh]
      exact q2
end RFLB
