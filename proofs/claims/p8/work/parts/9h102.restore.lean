/-! restore -/
section RST
variable {S T U V : fS} {p : Int32} {n m k r : Nat}
def Wrs (a _ j : Nat) : Bool := (Nat.beq a 46 || (Nat.beq a 47 || (Nat.beq a 48 || (Nat.beq a 49 || (Nat.beq a 50 || (Nat.beq a 51 || (Nat.beq a 53 || (Nat.beq a 54 || Nat.beq a 57)))))))) || (Nat.beq a 40 && (Nat.beq j 15 || (Nat.beq j 21 || (Nat.beq j 46 || (Nat.beq j 56 || (Nat.ble 30 j && Nat.ble j 38))))))
theorem Wlb_r : ∀ a i j : Nat, Wrs a i j = false → Wlb a i j = false := by
  intro a i j h
  have n53 : a ≠ 53 := fun q => by rw [q] at h; exact tf h rfl
  have n54 : a ≠ 54 := fun q => by rw [q] at h; exact tf h rfl
  have n50 : a ≠ 50 := fun q => by rw [q] at h; exact tf h rfl
  unfold Wlb
  rw [beq_out n53, beq_out n54, beq_out n50]
  by_cases d : a = 40
  · rw [d] at h
    have m35 : j ≠ 35 := fun q => by rw [q] at h; exact tf h rfl
    have m36 : j ≠ 36 := fun q => by rw [q] at h; exact tf h rfl
    have m37 : j ≠ 37 := fun q => by rw [q] at h; exact tf h rfl
    have m38 : j ≠ 38 := fun q => by rw [q] at h; exact tf h rfl
    rw [beq_out m35, beq_out m36, beq_out m37, beq_out m38]
    cases Nat.beq a 40 <;> rfl
  · rw [beq_out d]
    rfl
def b1q (x : Int32) : Int32 := if x = 1 then 1 else 0
def RS9 (S T : fS) (n i : Nat) : Prop := ∀ t : Nat, t < i → ge T 46 0 t = ge S 69 (5 * n) t ∧ ge T 47 0 t = ge S 69 (5 * n + 1) t ∧ ge T 48 0 t = ge S 69 (5 * n + 2) t ∧ ge T 49 0 t = ge S 69 (5 * n + 3) t ∧ ge T 51 0 t = b1q (ge S 69 (5 * n + 4) t)
def RS4 (S T : fS) (n : Nat) : Prop := ge T 40 0 35 = ge S 67 n 0 ∧ ge T 40 0 36 = ge S 67 n 1 ∧ ge T 40 0 37 = ge S 67 n 2 ∧ ge T 40 0 38 = ge S 67 n 3 ∧ ge T 40 0 30 = ge S 67 n 4 ∧ ge T 40 0 31 = ge S 67 n 5 ∧ ge T 40 0 32 = ge S 67 n 6 ∧ ge T 40 0 33 = ge S 67 n 7 ∧ ge T 40 0 34 = ge S 67 n 8 ∧ ge T 40 0 46 = ge S 67 n 9 / 100 ∧ ge T 40 0 21 = ge S 67 n 9 - ge S 67 n 9 / 100 * 100 ∧ ge T 40 0 15 = ge S 67 n 10
def RS1 (S T : fS) (n i : Nat) : Prop := ∀ k j : Nat, k < i → j < 14 → ge T 57 k j = ge S 71 (200 * n + k) j
def QRS (S T : fS) (n r : Nat) : Prop := FX Wrs S T ∧ BK S T n ∧ RS9 S T n 24 ∧ RS4 S T n ∧ RS1 S T n r ∧ (ge T 40 0 56).toInt = (n : Int)
theorem q_rs222 {a1 : Int32} (h1 : a1.toInt = (n : Int)) (hn : n < 3) (hr : (ge V 40 0 46).toInt = (r : Int)) (r200 : r ≤ 200) (FV : FX Wrs S V) (l : BK S V n) (q9 : RS9 S V n 24) (q4 : RS4 S V n) (h56 : (ge V 40 0 56).toInt = (n : Int)) : pk (lp (B_X7_restore_222) fuel (a1, 0) V) (fun v T => v.toInt = (n : Int) ∧ QRS S T n r) := by
  have l0 : (0 : Int32).toInt = 0 := by decide
  have l14 : (14 : Int32).toInt = 14 := by decide
  have l200 : (200 : Int32).toInt = 200 := by decide
  refine pq_lp (fun (y : Int32 × Int32) U => y.1 = a1 ∧ FX Wrs S U ∧ (∀ a i j : Nat, a ≠ 57 → ge U a i j = ge V a i j) ∧ ∃ i : Nat, y.2.toInt = (i : Int) ∧ i ≤ r ∧ RS1 S U n i) (fun _ _ (v : Int32) T => v.toInt = (n : Int) ∧ QRS S T n r) ?_ fuel (a1, 0) V ⟨rfl, FV, fun _ _ _ _ => rfl, 0, l0, by omega, fun k j hk => absurd hk (Nat.not_lt_zero _)⟩
  intro k2 hk2 y U hy
  obtain ⟨b1, b2⟩ := y
  obtain ⟨f1, FU, eU, i, i1, i2, i3⟩ := hy
  dsimp only at f1 i1
  subst f1
  unfold B_X7_restore_222
  dsimp only
  refine pq_iv fun x15 e15 => ?_
  rw [eU 40 0 46 (by decide)] at e15
  refine pq_le (fun c0 => pq_iv fun x17 e17 => pq_some ?_) (fun c0 => ?_)
  · have ei : i = r := by rw [e15, hr] at c0; omega
    rw [ei] at i3
    rw [eU 40 0 56 (by decide)] at e17
    refine ⟨by rw [e17]; exact h56, FU, ⟨fun c i hc hi => by rw [eU _ _ _ (by decide)]; exact l.1 c i hc hi, fun c hc => by rw [eU _ _ _ (by decide)]; exact l.2.1 c hc, fun t ht => by rw [eU _ _ _ (by decide)]; exact l.2.2 t ht⟩, fun t ht => ?_, ?_, i3, by rw [eU 40 0 56 (by decide)]; exact h56⟩
    · rw [eU 46 _ _ (by decide), eU 47 _ _ (by decide), eU 48 _ _ (by decide), eU 49 _ _ (by decide), eU 51 _ _ (by decide)]
      exact q9 t ht
    · unfold RS4
      rw [eU 40 0 35 (by decide), eU 40 0 36 (by decide), eU 40 0 37 (by decide), eU 40 0 38 (by decide), eU 40 0 30 (by decide), eU 40 0 31 (by decide), eU 40 0 32 (by decide), eU 40 0 33 (by decide), eU 40 0 34 (by decide), eU 40 0 46 (by decide), eU 40 0 21 (by decide), eU 40 0 15 (by decide)]
      exact q4
  rw [e15, hr] at c0
  have hir : i < r := by omega
  refine pq_lp (fun (y : Int32 × Int32 × Int32) U => y.1 = b1 ∧ y.2.1 = b2 ∧ FX Wrs S U ∧ (∀ a i j : Nat, a ≠ 57 → ge U a i j = ge V a i j) ∧ RS1 S U n i ∧ ∃ l : Nat, y.2.2.toInt = (l : Int) ∧ l ≤ 14 ∧ ∀ j : Nat, j < l → ge U 57 i j = ge S 71 (200 * n + i) j) (fun _ _ (v : Int32) T => v.toInt = (n : Int) ∧ QRS S T n r) ?_ fuel (b1, b2, 0) U ⟨rfl, rfl, FU, eU, i3, 0, l0, by omega, fun j hj => absurd hj (Nat.not_lt_zero _)⟩
  intro k3 hk3 y U hy
  obtain ⟨d1, d2, d3⟩ := y
  obtain ⟨f1, f2, FU, eU, i3, l, l1, l2, l3⟩ := hy
  dsimp only at f1 f2 l1
  subst f1
  subst f2
  unfold B_X7_restore_233
  dsimp only
  refine pq_le (fun c1 => pq_iv fun x5 e5 => ?_) (fun c1 => ?_)
  · have el : l = 14 := by omega
    rw [el] at l3
    have g5 : x5.toInt = d2.toInt + 1 := by rw [e5]; exact ti_inc (by omega)
    refine hk2 (d1, x5) U ⟨rfl, FU, eU, i + 1, by dsimp only; omega, by omega, fun k j hk hj => ?_⟩
    by_cases d : k = i
    · rw [d]; exact l3 j hj
    · exact i3 k j (by omega) hj
  · refine pq_gd fun _ => pq_iv fun x7 e7 => pq_iv fun x8 e8 => ?_
    have g7 : x7.toInt = 200 * (n : Int) := by rw [e7, ti_mul (by rw [l200, h1]; omega) (by rw [l200, h1]; omega), l200, h1]
    have g8 : x8.toInt = ((200 * n + i : Nat) : Int) := by rw [e8, ti_add (by omega) (by omega), g7, i1]; omega
    rw [cnNq g8, cnNq i1, cnNq l1]
    refine pq_gd fun _ => pq_gd fun _ => pq_iv fun x11 e11 => pq_gd fun _ => pq_sv fun S13 E13 => pq_iv fun x14 e14 => ?_
    rw [FU.1 71 _ l rfl] at e11
    have g14 : x14.toInt = d3.toInt + 1 := by rw [e14]; exact ti_inc (by omega)
    refine hk3 (d1, d2, x14) S13 ⟨rfl, rfl, by rw [E13]; exact FU.wr rfl, fun a i' j h => by rw [E13, ge_pua h]; exact eU a i' j h, fun k j hk hj => by rw [E13, ge_pui (by omega)]; exact i3 k j hk hj, l + 1, by dsimp only; omega, by omega, fun j hj => ?_⟩
    by_cases d : j = l
    · rw [E13, d, ge_pus, e11]
    · rw [E13, ge_puj d]; exact l3 j (by omega)
theorem q_rs111 {a1 : Int32} (h1 : a1.toInt = (n : Int)) (hn : n < 3) (hr : (ge V 40 0 46).toInt = (r : Int)) (r200 : r ≤ 200) (FV : FX Wrs S V) (l : BK S V n) (q4 : RS4 S V n) (h56 : (ge V 40 0 56).toInt = (n : Int)) : pk (lp (B_X7_restore_111) fuel (a1, 0) V) (fun v T => v.toInt = (n : Int) ∧ QRS S T n r) := by
  have l0 : (0 : Int32).toInt = 0 := by decide
  have li1 : (1 : Int32).toInt = 1 := by decide
  have li2 : (2 : Int32).toInt = 2 := by decide
  have li3 : (3 : Int32).toInt = 3 := by decide
  have li4 : (4 : Int32).toInt = 4 := by decide
  have li5 : (5 : Int32).toInt = 5 := by decide
  have l24 : (24 : Int32).toInt = 24 := by decide
  refine pq_lp (fun (y : Int32 × Int32) U => y.1 = a1 ∧ FX Wrs S U ∧ (∀ a i j : Nat, ¬ (46 ≤ a ∧ a ≤ 49) → a ≠ 51 → ge U a i j = ge V a i j) ∧ ∃ i : Nat, y.2.toInt = (i : Int) ∧ i ≤ 24 ∧ RS9 S U n i) (fun _ _ (v : Int32) T => v.toInt = (n : Int) ∧ QRS S T n r) ?_ fuel (a1, 0) V ⟨rfl, FV, fun _ _ _ _ _ => rfl, 0, l0, by omega, fun t ht => absurd ht (Nat.not_lt_zero _)⟩
  intro k2 hk2 y U hy
  obtain ⟨b1, b2⟩ := y
  obtain ⟨f1, FU, eU, i, i1, i2, i3⟩ := hy
  dsimp only at f1 i1
  subst f1
  unfold B_X7_restore_111
  dsimp only
  refine pq_le (fun c0 => ?_) (fun c0 => ?_)
  · have ei : i = 24 := by omega
    rw [ei] at i3
    have e4 : ∀ j : Nat, ge U 40 0 j = ge V 40 0 j := fun j => eU 40 0 j (by omega) (by decide)
    refine q_rs222 h1 hn (by rw [e4]; exact hr) r200 FU ⟨fun c i hc hi => by rw [eU _ _ _ (by omega) (by decide)]; exact l.1 c i hc hi, fun c hc => by rw [eU _ _ _ (by omega) (by decide)]; exact l.2.1 c hc, fun t ht => by rw [eU _ _ _ (by omega) (by decide)]; exact l.2.2 t ht⟩ i3 ?_ (by rw [e4]; exact h56)
    unfold RS4
    simp only [e4]
    exact q4
  have hi : i < 24 := by omega
  have m5 : ∀ x : Int32, x = (5 : Int32) * b1 → x.toInt = ((5 * n : Nat) : Int) := fun x e => by rw [e, ti_mul (by rw [li5, h1]; omega) (by rw [li5, h1]; omega), li5, h1]; omega
  have m5a : ∀ (x y z : Int32) (d : Nat), x = (5 : Int32) * b1 → z.toInt = (d : Int) → d < 5 → y = x + z → y.toInt = ((5 * n + d : Nat) : Int) := fun x y z d e ez hd ey => by
    have := m5 x e
    rw [ey, ti_add (by omega) (by omega), this, ez]
    omega
  refine pq_iv fun x19 e19 => pq_gd fun _ => pq_gd fun _ => pq_iv fun x22 e22 => pq_gd fun _ => pq_sv fun S24 E24 => ?_
  refine pq_iv fun x25 e25 => pq_iv fun x26 e26 => pq_gd fun _ => pq_gd fun _ => pq_iv fun x29 e29 => pq_gd fun _ => pq_sv fun S31 E31 => ?_
  refine pq_iv fun x32 e32 => pq_iv fun x33 e33 => pq_gd fun _ => pq_gd fun _ => pq_iv fun x36 e36 => pq_gd fun _ => pq_sv fun S38 E38 => ?_
  refine pq_iv fun x39 e39 => pq_iv fun x40 e40 => pq_gd fun _ => pq_gd fun _ => pq_iv fun x43 e43 => pq_gd fun _ => pq_sv fun S45 E45 => ?_
  refine pq_iv fun x46 e46 => pq_iv fun x47 e47 => pq_gd fun _ => pq_gd fun _ => pq_iv fun x50 e50 => ?_
  have g19 := m5 x19 e19
  have g26 := m5a x25 x26 1 1 e25 li1 (by decide) e26
  have g33 := m5a x32 x33 2 2 e32 li2 (by decide) e33
  have g40 := m5a x39 x40 3 3 e39 li3 (by decide) e40
  have g47 := m5a x46 x47 4 4 e46 li4 (by decide) e47
  rw [cnNq i1] at E24 E31 E38 E45
  rw [cnNq g19, cnNq i1] at e22
  rw [cnNq g26, cnNq i1] at e29
  rw [cnNq g33, cnNq i1] at e36
  rw [cnNq g40, cnNq i1] at e43
  rw [cnNq g47, cnNq i1] at e50
  have F24 : FX Wrs S S24 := by rw [E24]; exact FU.wr rfl
  have F31 : FX Wrs S S31 := by rw [E31]; exact F24.wr rfl
  have F38 : FX Wrs S S38 := by rw [E38]; exact F31.wr rfl
  have F45 : FX Wrs S S45 := by rw [E45]; exact F38.wr rfl
  rw [FU.1 69 _ i rfl] at e22
  rw [F24.1 69 _ i rfl] at e29
  rw [F31.1 69 _ i rfl] at e36
  rw [F38.1 69 _ i rfl] at e43
  rw [F45.1 69 _ i rfl] at e50
  have e48 : ∀ a i j : Nat, ¬ (46 ≤ a ∧ a ≤ 49) → a ≠ 51 → ge S45 a i j = ge V a i j := fun a i j h h2 => by rw [E45, ge_pua (by omega), E38, ge_pua (by omega), E31, ge_pua (by omega), E24, ge_pua (by omega), eU a i j h h2]
  have r48 : ∀ a t : Nat, t ≠ i → ge S45 a 0 t = ge U a 0 t := fun a t h => by rw [E45, ge_puj h, E38, ge_puj h, E31, ge_puj h, E24, ge_puj h]
  have go : ∀ v : Int32, v = b1q (ge S 69 (5 * n + 4) i) → pk (B_X7_restore_213 k2 b1 b2 v b2 S45) (fun v T => v.toInt = (n : Int) ∧ QRS S T n r) := by
    intro v hv
    have v01 : v = 0 ∨ v = 1 := by
      rw [hv]
      unfold b1q
      by_cases d : ge S 69 (5 * n + 4) i = 1
      · rw [if_pos d]; exact Or.inr rfl
      · rw [if_neg d]; exact Or.inl rfl
    unfold B_X7_restore_213
    rw [cnNq i1, nab v v01]
    refine pq_gd fun _ => pq_sv fun S2 E2 => pq_iv fun x3 e3 => ?_
    have g3 : x3.toInt = b2.toInt + 1 := by rw [e3]; exact ti_inc (by omega)
    refine hk2 (b1, x3) S2 ⟨rfl, by rw [E2]; exact F45.wr rfl, fun a i' j h h2 => by rw [E2, ge_pua h2]; exact e48 a i' j h h2, i + 1, by dsimp only; omega, by omega, fun t ht => ?_⟩
    by_cases d : t = i
    · rw [d]
      refine ⟨?_, ?_, ?_, ?_, ?_⟩
      · rw [E2, ge_pua (by decide), E45, ge_pua (by decide), E38, ge_pua (by decide), E31, ge_pua (by decide), E24, ge_pus, e22]
      · rw [E2, ge_pua (by decide), E45, ge_pua (by decide), E38, ge_pua (by decide), E31, ge_pus, e29]
      · rw [E2, ge_pua (by decide), E45, ge_pua (by decide), E38, ge_pus, e36]
      · rw [E2, ge_pua (by decide), E45, ge_pus, e43]
      · rw [E2, ge_pus, hv]
    · have a := i3 t (by omega)
      rw [E2, ge_puj d, ge_puj d, ge_puj d, ge_puj d, ge_puj d, r48 _ t d, r48 _ t d, r48 _ t d, r48 _ t d, r48 _ t d]
      exact a
  refine pq_bb (fun d => go 1 ?_) (fun d => go 0 ?_)
  · unfold b1q; rw [if_pos (by rw [← e50]; exact d)]
  · unfold b1q; rw [if_neg (by rw [← e50]; exact d)]
theorem q_restore (RT : RI T) (z : ge T 40 0 0 = 0) (hn : (ge T 40 0 56).toInt = (n : Int) + 1) (n3 : n < 3) (hr : (ge T 67 n 9 / 100).toInt = (r : Int)) (r200 : r ≤ 200) : pk (F_X7_restore T) (fun v U => v.toInt = (n : Int) ∧ QRS T U n r) := by
  have l0 : (0 : Int32).toInt = 0 := by decide
  have l1 : (1 : Int32).toInt = 1 := by decide
  have k4 : (4 : Int32).toNatClampNeg = 4 := by decide
  have k5 : (5 : Int32).toNatClampNeg = 5 := by decide
  have k6 : (6 : Int32).toNatClampNeg = 6 := by decide
  have k7 : (7 : Int32).toNatClampNeg = 7 := by decide
  have k8 : (8 : Int32).toNatClampNeg = 8 := by decide
  have k9 : (9 : Int32).toNatClampNeg = 9 := by decide
  have k10 : (10 : Int32).toNatClampNeg = 10 := by decide
  unfold F_X7_restore
  refine pg7_0 z (pq_iv fun x53 e53 => pq_bb (fun d => absurd (congrArg Int32.toInt d) (by rw [e53, hn, l0]; omega)) (fun _ => pq_iv fun x55 e55 => pq_iv fun x56 e56 => pq_sv fun S57 E57 => pq_iv fun x58 e58 => ?_))
  have g56 : x56.toInt = (n : Int) := by rw [e56, e55, ti_sub (by omega) (by omega), hn, l1]; omega
  have g58 : x58.toInt = (n : Int) := by rw [e58, E57, ge_pus]; exact g56
  have R57 : RI S57 := by rw [E57]; exact RT.wr (show (0 : Int) ≤ x56.toInt by omega) (show x56.toInt ≤ 3 by omega)
  have F57 : FX Wrs T S57 := by rw [E57]; exact FX.rf.wr rfl
  refine pq_bd (q_laysBack R57 g58 (by omega)) (fun _ S60 q => ?_)
  obtain ⟨_, F60, bk, c0, c1, c2, c3⟩ := q
  rw [F57.1 67 n 0 rfl] at c0
  rw [F57.1 67 n 1 rfl] at c1
  rw [F57.1 67 n 2 rfl] at c2
  rw [F57.1 67 n 3 rfl] at c3
  rw [k4, k5, k6, k7, k8, k9, k10, cnNq g58]
  refine pq_gd fun _ => pq_iv fun x63 e63 => pq_sv fun S64 E64 => pq_iv fun x65 e65 => pq_sv fun S66 E66 => pq_iv fun x67 e67 => pq_sv fun S68 E68 => pq_iv fun x69 e69 => pq_sv fun S70 E70 => pq_iv fun x71 e71 => pq_sv fun S72 E72 => pq_iv fun x73 e73 => pq_iv fun x74 e74 => pq_sv fun S75 E75 => pq_iv fun x76 e76 => pq_iv fun x77 e77 => pq_sv fun S78 E78 => pq_iv fun x79 e79 => pq_sv fun S80 E80 => ?_
  have G60 : FX Wrs T S60 := F57.tr (F60.sub Wlb_r)
  have G64 : FX Wrs T S64 := by rw [E64]; exact G60.wr rfl
  have G66 : FX Wrs T S66 := by rw [E66]; exact G64.wr rfl
  have G68 : FX Wrs T S68 := by rw [E68]; exact G66.wr rfl
  have G70 : FX Wrs T S70 := by rw [E70]; exact G68.wr rfl
  have G72 : FX Wrs T S72 := by rw [E72]; exact G70.wr rfl
  have G75 : FX Wrs T S75 := by rw [E75]; exact G72.wr rfl
  have G78 : FX Wrs T S78 := by rw [E78]; exact G75.wr rfl
  have G80 : FX Wrs T S80 := by rw [E80]; exact G78.wr rfl
  have e9 : ∀ a i j : Nat, a ≠ 40 → ge S80 a i j = ge S60 a i j := fun a i j h => by rw [E80, ge_pua h, E78, ge_pua h, E75, ge_pua h, E72, ge_pua h, E70, ge_pua h, E68, ge_pua h, E66, ge_pua h, E64, ge_pua h]
  have lw : ∀ j : Nat, j ≠ 15 → j ≠ 21 → j ≠ 46 → ¬ (30 ≤ j ∧ j ≤ 34) → ge S80 40 0 j = ge S60 40 0 j := fun j h1 h2 h3 h4 => by rw [E80, ge_puj h1, E78, ge_puj h2, E75, ge_puj h3, E72, ge_puj (by omega), E70, ge_puj (by omega), E68, ge_puj (by omega), E66, ge_puj (by omega), E64, ge_puj (by omega)]
  have q4 : RS4 T S80 n := by
    refine ⟨by rw [lw 35 (by decide) (by decide) (by decide) (by decide), c0], by rw [lw 36 (by decide) (by decide) (by decide) (by decide), c1], by rw [lw 37 (by decide) (by decide) (by decide) (by decide), c2], by rw [lw 38 (by decide) (by decide) (by decide) (by decide), c3], ?_, ?_, ?_, ?_, ?_, ?_, ?_, ?_⟩
    · rw [E80, ge_puj (by decide), E78, ge_puj (by decide), E75, ge_puj (by decide), E72, ge_puj (by decide), E70, ge_puj (by decide), E68, ge_puj (by decide), E66, ge_puj (by decide), E64, ge_pus, e63, G60.1 67 n 4 rfl]
    · rw [E80, ge_puj (by decide), E78, ge_puj (by decide), E75, ge_puj (by decide), E72, ge_puj (by decide), E70, ge_puj (by decide), E68, ge_puj (by decide), E66, ge_pus, e65, G64.1 67 n 5 rfl]
    · rw [E80, ge_puj (by decide), E78, ge_puj (by decide), E75, ge_puj (by decide), E72, ge_puj (by decide), E70, ge_puj (by decide), E68, ge_pus, e67, G66.1 67 n 6 rfl]
    · rw [E80, ge_puj (by decide), E78, ge_puj (by decide), E75, ge_puj (by decide), E72, ge_puj (by decide), E70, ge_pus, e69, G68.1 67 n 7 rfl]
    · rw [E80, ge_puj (by decide), E78, ge_puj (by decide), E75, ge_puj (by decide), E72, ge_pus, e71, G70.1 67 n 8 rfl]
    · rw [E80, ge_puj (by decide), E78, ge_puj (by decide), E75, ge_pus, e74, e73, G72.1 67 n 9 rfl]
    · rw [E80, ge_puj (by decide), E78, ge_pus, e77, e76, G75.1 67 n 9 rfl]
    · rw [E80, ge_pus, e79, G78.1 67 n 10 rfl]
  have b61 : ∀ c i : Nat, ge S57 61 c i = ge T 61 c i := fun c i => F57.1 61 c i rfl
  refine q_rs111 g58 n3 (by rw [q4.2.2.2.2.2.2.2.2.2.1]; exact hr) r200 G80 ⟨fun c i hc hi => by rw [e9 _ _ _ (by decide), bk.1 c i hc hi, F57.1 61 _ _ rfl], fun c hc => by rw [e9 _ _ _ (by decide), bk.2.1 c hc, F57.1 63 _ _ rfl], fun t ht => by rw [e9 _ _ _ (by decide), bk.2.2 t ht, F57.1 65 _ _ rfl]⟩ q4 ?_
  rw [lw 56 (by decide) (by decide) (by decide) (by decide), F60.1 40 0 56 rfl, E57, ge_pus]
  exact g56
/-- the class -/
def CRS (S T : fS) (n m : Nat) : Prop := ∃ S5 : fS, (∀ a i j : Nat, ¬ (a = 0 ∧ i = 0 ∧ j = 3) → ge S5 a i j = ge S a i j) ∧ (ge S5 0 0 3).toInt = (n : Int) ∧ S5.2 = S.2 ∧ CPb S5 T 0 (2 + n) m
theorem y_restore (hn : (ge S 0 0 3).toInt = (n : Int) + 1) (hm : (ge S 1 (2 + n) 12).toInt = (m : Int)) (m200 : m ≤ 200) : pk (F_X6_restore S) (fun v T => v.toInt = (n : Int) ∧ CRS S T n m) := by
  have l0 : (0 : Int32).toInt = 0 := by decide
  have l1 : (1 : Int32).toInt = 1 := by decide
  have b3 := ti_bd (ge S 0 0 3)
  unfold F_X6_restore
  refine pq_iv fun x1 e1 => pq_lt (fun _ => ?_) (fun c => absurd c (by rw [e1, hn, l0]; omega))
  refine pq_iv fun x3 e3 => pq_iv fun x4 e4 => pq_sv fun S5 E5 => pq_iv fun x6 e6 => pq_gd fun _ => ?_
  have g4 : x4.toInt = (n : Int) := by rw [e4, e3, ti_sub (by omega) (by omega), hn, l1]; omega
  have g6 : x6.toInt = (n : Int) := by rw [e6, E5, ge_pus]; exact g4
  rw [cnNq g6]
  refine pq_bd (y_copy (m := m) (by omega) (by rw [E5, ge_pua (by decide)]; exact hm) m200) (fun _ U q => ?_)
  refine pq_iv fun x11 e11 => pq_some ⟨?_, S5, fun a i j h => by rw [E5, ge_pu, if_neg h], by rw [E5, ge_pus]; exact g4, by rw [E5]; rfl, q⟩
  rw [e11, q.1 0 0 3 (by omega), E5, ge_pus]
  exact g4
theorem rk_restore (h : IV S) (z : ge S 40 0 0 = 0) : RK0 (F_X6_restore S) (F_X7_restore) := by
  have l0 : (0 : Int32).toInt = 0 := by decide
  obtain ⟨ha, ht, hi⟩ := h.2.2.2
  obtain ⟨H, hO, B, N, hP, hI, hs, _, hn1, hH⟩ := ha
  have b56 : 0 ≤ (ge S 40 0 56).toInt ∧ (ge S 40 0 56).toInt ≤ 3 := h.1 40 0 56
  have h3 : (ge S 0 0 3).toInt = (ge S 40 0 56).toInt := by rw [hi.1]
  unfold RK0
  by_cases z56 : (ge S 40 0 56).toInt = 0
  · unfold F_X6_restore
    refine pq_iv fun x1 e1 => pq_lt (fun c => absurd c (by rw [e1, h3, z56, l0]; omega)) (fun _ => pq_some ?_)
    unfold F_X7_restore
    exact pg7_0 z (pq_iv fun x53 e53 => pq_bb (fun _ => pq_some ⟨h.2.2.2, rfl⟩) (fun d => absurd (of_toInt (by rw [e53, z56, l0])) d))
  · obtain ⟨n, hn⟩ : ∃ n : Nat, (ge S 40 0 56).toInt = (n : Int) + 1 := ⟨((ge S 40 0 56).toInt - 1).toNat, by omega⟩
    have n3 : n < 3 := by omega
    have im : RLb (VW S n) := hi.2 n (by rw [h3, hn]; omega) n3
    obtain ⟨m, m200, r1, r2, r3⟩ := im.2.2.2.2.2.2.2
    have r1' : (ge S 1 (2 + n) 12).toInt = (m : Int) := by rw [← vw_box (T := S) (k := n) (a := 1) (j := 12) (by decide) (by decide)]; exact r1
    have r2' : (ge S 67 n 9 / 100).toInt = (m : Int) := r2
    refine pq_imp (pq_and (s_F_X6_restore S h.1 h.2.1).pk (y_restore (n := n) (by rw [h3, hn]) r1' m200)) (fun v T1 q => ?_)
    obtain ⟨⟨R1, _⟩, q1, S5, e5, g5, s5, p1, p2, p3, p4, p5, p6, p7, p8⟩ := q
    have eT : ∀ a i j : Nat, ¬ (1 ≤ a ∧ a ≤ 10 ∧ i = 0) → ¬ (a = 0 ∧ i = 0 ∧ j = 3) → ge T1 a i j = ge S a i j := fun a i j h1 h2 => by rw [p1 a i j h1, e5 a i j h2]
    have s1 : SRq S T1 := fun a i j hh => eT a i j (by omega) (by omega)
    have z1 := RI_z z s1
    refine pq_imp (q_restore (n := n) (r := m) R1 z1 (by rw [s1 40 0 56 (by decide)]; exact hn) n3 (by rw [s1 67 n 9 (by decide)]; exact r2') m200) (fun v2 W q => ?_)
    obtain ⟨w1, FW, bk, q9, q4, qr, w56⟩ := q
    refine ⟨?_, of_toInt (by rw [q1, w1])⟩
    have lo : ∀ a i j : Nat, (a < 40 ∨ (41 ≤ a ∧ a ≤ 45) ∨ 58 ≤ a) → ge W a i j = ge T1 a i j := fun a i j hh => FW.1 a i j (by unfold Wrs; rw [beq_out (by omega : a ≠ 46), beq_out (by omega : a ≠ 47), beq_out (by omega : a ≠ 48), beq_out (by omega : a ≠ 49), beq_out (by omega : a ≠ 50), beq_out (by omega : a ≠ 51), beq_out (by omega : a ≠ 53), beq_out (by omega : a ≠ 54), beq_out (by omega : a ≠ 57), beq_out (by omega : a ≠ 40)]; rfl)
    have w2 : W.2 = T1.2 := FW.2
    have gW : ∀ a i j : Nat, gr W a i j = gr T1 a i j := fun a i j => by unfold gr; rw [w2]
    have nW : nT W = nT S := by
      have e1 : nT W = nT T1 := congrArg (fun z => z.2.1.1) w2
      have e2 : nT T1 = nT S5 := congrArg (fun z => z.1.1) p8
      have e3 : nT S5 = nT S := congrArg (fun z => z.2.1.1) s5
      rw [e1, e2, e3]
    have g5 : ∀ a i j : Nat, gr S5 a i j = gr S a i j := fun a i j => by unfold gr; rw [s5]
    have c25 : ∀ t j : Nat, ge W 25 t j = ge S 25 t j := fun t j => by rw [lo 25 t j (by omega), eT 25 t j (by omega) (by omega)]
    have c13 : ge W 40 0 13 = ge S 40 0 13 := by rw [FW.1 40 0 13 rfl, s1 40 0 13 (by decide)]
    have c14 : ge W 40 0 14 = ge S 40 0 14 := by rw [FW.1 40 0 14 rfl, s1 40 0 14 (by decide)]
    have c48 : ge W 40 0 48 = ge S 40 0 48 := by rw [FW.1 40 0 48 rfl, s1 40 0 48 (by decide)]
    have c01 : ge W 40 0 1 = ge S 40 0 1 := by rw [FW.1 40 0 1 rfl, s1 40 0 1 (by decide)]
    have hPW : PGq W := by
      obtain ⟨⟨mp, mp6, a5, a13, pg⟩, ⟨ml, ml3, a7, a14, lg⟩⟩ := hP
      have e0 : ∀ j : Nat, j ≠ 3 → ge W 0 0 j = ge S 0 0 j := fun j hj => by rw [lo 0 0 j (by omega), eT 0 0 j (by omega) (by omega)]
      have e30 : ∀ c j : Nat, ge W 30 c j = ge S 30 c j := fun c j => by rw [lo 30 c j (by omega), eT 30 c j (by omega) (by omega)]
      have eln : ∀ c : Nat, ln W c = ln S c := fun c => by
        have e1 : ln W c = ln T1 c := congrFun (congrArg (fun z => z.2.2) w2) c
        have e2 : ln T1 c = ln S5 c := congrFun (congrArg (fun z => z.2) p8) c
        have e3 : ln S5 c = ln S c := congrFun (congrArg (fun z => z.2.2) s5) c
        rw [e1, e2, e3]
      have ebt : ∀ t : Nat, btx W t = btx S t := fun t => funext fun k => by unfold btx; rw [lo 44 0 t (by omega), lo 43 t k (by omega), s1 44 0 t (by decide), s1 43 t k (by decide)]
      refine ⟨⟨mp, mp6, by rw [e0 5 (by decide)]; exact a5, by rw [c13]; exact a13, fun t ht => ?_⟩, ⟨ml, ml3, by rw [e0 7 (by decide)]; exact a7, by rw [c14]; exact a14, fun t ht => ?_⟩⟩
      · obtain ⟨c, c1, P, hc, hE⟩ := pg t ht
        exact ⟨c, by rw [gW, p7 13 0 t (by omega), g5]; exact c1, P, CP_up hc ⟨eln c, e30 c⟩, by rw [ebt]; exact hE⟩
      · obtain ⟨c, c1, P, hc, hE⟩ := lg t ht
        exact ⟨c, by rw [gW, p7 14 0 t (by omega), g5]; exact c1, P, CP_up hc ⟨eln c, e30 c⟩, by rw [ebt]; exact hE⟩
    have l0' : ∀ j : Nat, j ≠ 3 → ge W 0 0 j = ge S 0 0 j := fun j hj => by rw [lo 0 0 j (by omega), eT 0 0 j (by omega) (by omega)]
    have ew3 : (ge W 0 0 3).toInt = (n : Int) := by rw [lo 0 0 3 (by omega), p1 0 0 3 (by omega)]; rename_i gg; exact gg
    have nq24 : nq (VW S n) ≤ 24 := im.2.1.2.2.1
    have mainb : RLb W := by
      have c7 : ∀ j : Nat, ge T1 67 n j = ge S 67 n j := fun j => s1 67 n j (by decide)
      unfold RS4 at q4
      simp only [c7] at q4
      obtain ⟨a0, a1, a2, a3, a4, a5, a6, a7, a8, a46, a21, a15⟩ := q4
      refine im.cg r2 (T := W) ⟨fun t ht2 => ?_, fun c k hc hk => ?_, fun c hc => ?_, ⟨a21, a4, a5, a6, a7, a8, a0, a1, a2, a3, a15, a46⟩, by rw [vw_13, c13]; exact Int.le_refl _, fun k j hk hj => ?_⟩ ⟨fun j h1 h2 h3 => ?_, ?_, fun a j h1 h2 h3 => ?_, fun j hj => ?_, fun k hk => ?_, fun t j _ _ => c25 t j, by rw [show nT (VW S n) = nT S from rfl, nW]; exact Nat.le_refl _⟩
      · have h24 : t < 24 := by omega
        obtain ⟨b0, b1, b2, b3, b4⟩ := q9 t h24
        rw [s1 69 _ t (by decide)] at b0 b1 b2 b3 b4
        have b5 := bk.2.2 t h24
        rw [s1 65 n t (by decide)] at b5
        refine ⟨b0, b1, b2, b3, b5, b4.trans ?_⟩
        have w : ge S 69 (5 * n + 4) t = 0 ∨ ge S 69 (5 * n + 4) t = 1 := (im.2.1.2.2.2 t ht2).1.2
        show b1q (ge S 69 (5 * n + 4) t) = ge S 69 (5 * n + 4) t
        unfold b1q
        rcases w with w | w
        · rw [w]; decide
        · rw [w, if_pos rfl]
      · have := bk.1 c k hc hk
        rw [s1 61 _ k (by decide)] at this
        exact this
      · have := bk.2.1 c hc
        rw [s1 63 n c (by decide)] at this
        exact this
      · have := qr k j hk hj
        rw [s1 71 _ j (by decide)] at this
        exact this
      · rw [vw_box (by decide) (by decide), lo 1 _ j (by omega), p5 j h1 h2 h3, e5 1 _ j (by omega)]
      · rw [vw_box (by decide) (by decide), lo 2 _ 0 (by omega), p2, e5 2 _ 0 (by omega)]
      · rw [vw_box (by omega) (by omega), lo a _ j (by omega), p3 a j h1 h2 h3, e5 a _ j (by omega)]
      · rw [vw_box (by decide) (by decide), lo 10 _ j (by omega), p4 j hj, e5 10 _ j (by omega)]
      · rw [vw_11, gW, p6 k hk, g5]
    refine ⟨mainb.a hPW (by rw [nW]; exact hn1) (hH.mv (l0' 9 (by decide)) c48 (fun k => by rw [lo 15 0 k (by omega), eT 15 0 k (by omega) (by omega)]) (fun k j => by rw [lo 59 k j (by omega), s1 59 k j (by decide)])), ht.mv (l0' 11 (by decide)) c01 (fun k => by rw [lo 16 0 k (by omega), eT 16 0 k (by omega) (by omega)]) (fun k => by rw [lo 41 0 k (by omega), s1 41 0 k (by decide)]), of_toInt (by rw [ew3, w56]), fun k hk k3 => ?_⟩
    rw [ew3] at hk
    refine (hi.2 k (by rw [h3, hn]; omega) k3).mv1 ⟨⟨fun c j hc => ?_, fun j => ?_, fun j => ?_, fun j => ?_, fun q j hq => ?_, fun r j hr => ?_, fun a j h1 h2 => ?_, fun j => ?_⟩, fun t j _ _ => c25 t j, by rw [nW]; exact Nat.le_refl _, by rw [c13]; exact Int.le_refl _⟩
    · rw [lo 61 _ j (by omega), s1 61 _ j (by decide)]
    · rw [lo 63 _ j (by omega), s1 63 k j (by decide)]
    · rw [lo 65 _ j (by omega), s1 65 k j (by decide)]
    · rw [lo 67 _ j (by omega), s1 67 k j (by decide)]
    · rw [lo 69 _ j (by omega), s1 69 _ j (by decide)]
    · rw [lo 71 _ j (by omega), s1 71 _ j (by decide)]
    · rw [lo a _ j (by omega), eT a _ j (by omega) (by omega)]
    · rw [gW, p7 11 _ j (by omega), g5]
end RST
