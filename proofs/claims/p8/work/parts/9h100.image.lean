/-! image -/
section IMA
variable {S T U V : fS} {p : Int32} {n m k r : Nat}
/-- an image's rows, one alone -/
def IMf1 (S T : fS) (k : Nat) : Prop := ((∀ c j : Nat, c < 64 → ge T 61 (64 * k + c) j = ge S 61 (64 * k + c) j) ∧ (∀ j : Nat, ge T 63 k j = ge S 63 k j) ∧ (∀ j : Nat, ge T 65 k j = ge S 65 k j) ∧ (∀ j : Nat, ge T 67 k j = ge S 67 k j) ∧ (∀ q j : Nat, q < 5 → ge T 69 (5 * k + q) j = ge S 69 (5 * k + q) j) ∧ (∀ r j : Nat, r < 200 → ge T 71 (200 * k + r) j = ge S 71 (200 * k + r) j) ∧ (∀ a j : Nat, 1 ≤ a → a ≤ 10 → ge T a (2 + k) j = ge S a (2 + k) j) ∧ ∀ j : Nat, gr T 11 (2 + k) j = gr S 11 (2 + k) j) ∧ (∀ t j : Nat, 1 ≤ t → t < nT S → ge T 25 t j = ge S 25 t j) ∧ nT S ≤ nT T ∧ (ge S 40 0 13).toInt ≤ (ge T 40 0 13).toInt
theorem vw_AR1 (h : IMf1 S T k) (hm : m ≤ 200) (hn : nq (VW S k) ≤ 24) : AR (VW S k) (VW T k) m := by
  obtain ⟨⟨k61, k63, k65, k67, k69, k71, _, _⟩, h2, h3, h4⟩ := h
  refine ⟨fun t ht => ⟨k69 0 t (by decide), k69 1 t (by decide), k69 2 t (by decide), k69 3 t (by decide), k65 t, k69 4 t (by decide)⟩, fun c j hc _ => k61 c j hc, fun c _ => k63 c, ⟨?_, k67 4, k67 5, k67 6, k67 7, k67 8, k67 0, k67 1, k67 2, k67 3, k67 10, ?_⟩, h4, fun r j hr _ => k71 r j (by omega)⟩
  · show ge T 67 k 9 - ge T 67 k 9 / 100 * 100 = ge S 67 k 9 - ge S 67 k 9 / 100 * 100
    rw [k67 9]
  · show ge T 67 k 9 / 100 = ge S 67 k 9 / 100
    rw [k67 9]
theorem vw_AC1 (h : IMf1 S T k) : AC (VW S k) (VW T k) m := by
  obtain ⟨⟨_, _, _, _, _, _, kb, k11⟩, h2, h3, h4⟩ := h
  refine ⟨fun j _ _ _ => ?_, ?_, fun a j h3 h9 _ => ?_, fun j _ => ?_, fun j _ => k11 j, fun t j ht h => h2 t j ht h, h3⟩
  · rw [vw_box (by decide) (by decide), vw_box (by decide) (by decide)]
    exact kb 1 j (by decide) (by decide)
  · rw [vw_box (by decide) (by decide), vw_box (by decide) (by decide)]
    exact kb 2 0 (by decide) (by decide)
  · rw [vw_box (by omega) (by omega), vw_box (by omega) (by omega)]
    exact kb a j (by omega) (by omega)
  · rw [vw_box (by decide) (by decide), vw_box (by decide) (by decide)]
    exact kb 10 j (by decide) (by decide)
theorem IMq.mv1 (h : IMq S k) (f : IMf1 S T k) : IMq T k := by
  have h' : RLb (VW S k) := h
  obtain ⟨m, m2, r1, r2, r3⟩ := h'.2.2.2.2.2.2.2
  exact h'.cg r2 (vw_AR1 f m2 h'.2.1.2.2.1) (vw_AC1 f)
/-- the class -/
def CIM (S T : fS) (n m : Nat) : Prop := ∃ U : fS, CPb S U (2 + n) 0 m ∧ (∀ a i j : Nat, ¬ (a = 0 ∧ i = 0 ∧ j = 3) → ge T a i j = ge U a i j) ∧ (ge T 0 0 3).toInt = (n : Int) + 1 ∧ T.2 = U.2
theorem y_image (hm : (ge S 1 0 12).toInt = (m : Int)) (m200 : m ≤ 200) (hn : (ge S 0 0 3).toInt = (n : Int)) : pk (F_X6_image S) (fun v T => (3 ≤ n ∧ v = -1 ∧ T = S) ∨ (n < 3 ∧ v.toInt = (n : Int) + 1 ∧ CIM S T n m)) := by
  have l1 : (1 : Int32).toInt = 1 := by decide
  have l3 : (3 : Int32).toInt = 3 := by decide
  unfold F_X6_image
  refine pq_iv fun x1 e1 => pq_lt (fun c => ?_) (fun c => pq_some (Or.inl ⟨by rw [e1, hn, l3] at c; omega, rfl, rfl⟩))
  rw [e1, hn, l3] at c
  refine pq_iv fun x3 e3 => pq_gd fun _ => ?_
  have g3 : x3.toInt = (n : Int) := by rw [e3]; exact hn
  rw [cnNq g3]
  refine pq_bd (y_copy (by omega) hm m200) (fun _ U q => ?_)
  refine pq_iv fun x8 e8 => pq_iv fun x9 e9 => pq_sv fun T E => pq_iv fun x11 e11 => pq_some (Or.inr ⟨by omega, ?_, U, q, fun a i j h => by rw [E, ge_pu, if_neg h], ?_, by rw [E]; rfl⟩)
  · rw [e11, E, ge_pus, e9, e8, q.1 0 0 3 (by omega), ti_add (by omega) (by omega), hn, l1]
  · rw [E, ge_pus, e9, e8, q.1 0 0 3 (by omega), ti_add (by omega) (by omega), hn, l1]
/-- the reference -/
def Wim (a _ j : Nat) : Bool := (Nat.beq a 61 || (Nat.beq a 63 || (Nat.beq a 65 || (Nat.beq a 67 || (Nat.beq a 69 || Nat.beq a 71))))) || (Nat.beq a 40 && Nat.beq j 56)
def Wi0 (a _ _ : Nat) : Bool := Nat.beq a 61 || (Nat.beq a 63 || (Nat.beq a 65 || (Nat.beq a 67 || (Nat.beq a 69 || Nat.beq a 71))))
theorem Wly_i : ∀ a i j : Nat, Wi0 a i j = false → Wly a i j = false := by
  intro a i j h
  have n61 : a ≠ 61 := fun q => by rw [q] at h; exact tf h rfl
  have n63 : a ≠ 63 := fun q => by rw [q] at h; exact tf h rfl
  have n65 : a ≠ 65 := fun q => by rw [q] at h; exact tf h rfl
  have n67 : a ≠ 67 := fun q => by rw [q] at h; exact tf h rfl
  unfold Wly
  rw [beq_out n61, beq_out n63, beq_out n65, beq_out n67]
  rfl
theorem Wi0_m : ∀ a i j : Nat, Wim a i j = false → Wi0 a i j = false := fun a i j h => (Bool.or_eq_false_iff.1 h).1
/-- rows of images but the n-th stay -/
def OT2 (S T : fS) (n : Nat) : Prop := (∀ r i : Nat, r < 64 * n ∨ 64 * n + 64 ≤ r → ge T 61 r i = ge S 61 r i) ∧ (∀ k c : Nat, k ≠ n → ge T 63 k c = ge S 63 k c) ∧ (∀ k t : Nat, k ≠ n → ge T 65 k t = ge S 65 k t) ∧ (∀ k j : Nat, k ≠ n → ge T 67 k j = ge S 67 k j) ∧ (∀ q j : Nat, q < 5 * n ∨ 5 * n + 5 ≤ q → ge T 69 q j = ge S 69 q j) ∧ ∀ q j : Nat, q < 200 * n ∨ 200 * n + 200 ≤ q → ge T 71 q j = ge S 71 q j
theorem OT2.rf : OT2 S S n := ⟨fun _ _ _ => rfl, fun _ _ _ => rfl, fun _ _ _ => rfl, fun _ _ _ => rfl, fun _ _ _ => rfl, fun _ _ _ => rfl⟩
theorem OT2.tr (h : OT2 S T n) (g : OT2 T U n) : OT2 S U n := ⟨fun r i q => (g.1 r i q).trans (h.1 r i q), fun k c q => (g.2.1 k c q).trans (h.2.1 k c q), fun k c q => (g.2.2.1 k c q).trans (h.2.2.1 k c q), fun k c q => (g.2.2.2.1 k c q).trans (h.2.2.2.1 k c q), fun k c q => (g.2.2.2.2.1 k c q).trans (h.2.2.2.2.1 k c q), fun k c q => (g.2.2.2.2.2 k c q).trans (h.2.2.2.2.2 k c q)⟩
theorem OT2.w67 {j : Nat} {v : Int32} (h : OT2 S T n) : OT2 S (pu T 67 n j v) n := ⟨fun r i q => by rw [ge_pua (by decide)]; exact h.1 r i q, fun k c q => by rw [ge_pua (by decide)]; exact h.2.1 k c q, fun k c q => by rw [ge_pua (by decide)]; exact h.2.2.1 k c q, fun k c q => by rw [ge_pui q]; exact h.2.2.2.1 k c q, fun k c q => by rw [ge_pua (by decide)]; exact h.2.2.2.2.1 k c q, fun k c q => by rw [ge_pua (by decide)]; exact h.2.2.2.2.2 k c q⟩
theorem OT2.w69 {q j : Nat} {v : Int32} (h : OT2 S T n) (hq : 5 * n ≤ q ∧ q < 5 * n + 5) : OT2 S (pu T 69 q j v) n := ⟨fun r i w => by rw [ge_pua (by decide)]; exact h.1 r i w, fun k c w => by rw [ge_pua (by decide)]; exact h.2.1 k c w, fun k c w => by rw [ge_pua (by decide)]; exact h.2.2.1 k c w, fun k c w => by rw [ge_pua (by decide)]; exact h.2.2.2.1 k c w, fun k c w => by rw [ge_pui (by omega)]; exact h.2.2.2.2.1 k c w, fun k c w => by rw [ge_pua (by decide)]; exact h.2.2.2.2.2 k c w⟩
theorem OT2.w71 {q j : Nat} {v : Int32} (h : OT2 S T n) (hq : 200 * n ≤ q ∧ q < 200 * n + 200) : OT2 S (pu T 71 q j v) n := ⟨fun r i w => by rw [ge_pua (by decide)]; exact h.1 r i w, fun k c w => by rw [ge_pua (by decide)]; exact h.2.1 k c w, fun k c w => by rw [ge_pua (by decide)]; exact h.2.2.1 k c w, fun k c w => by rw [ge_pua (by decide)]; exact h.2.2.2.1 k c w, fun k c w => by rw [ge_pua (by decide)]; exact h.2.2.2.2.1 k c w, fun k c w => by rw [ge_pui (by omega)]; exact h.2.2.2.2.2 k c w⟩
def b01q (x : Int32) : Int32 := if x = 0 then 0 else 1
/-- what the n-th image's rows hold -/
def QR9 (S T : fS) (n i : Nat) : Prop := ∀ t : Nat, t < i → ge T 69 (5 * n) t = ge S 46 0 t ∧ ge T 69 (5 * n + 1) t = ge S 47 0 t ∧ ge T 69 (5 * n + 2) t = ge S 48 0 t ∧ ge T 69 (5 * n + 3) t = ge S 49 0 t ∧ ge T 69 (5 * n + 4) t = b01q (ge S 51 0 t)
def QR7 (S T : fS) (n : Nat) : Prop := ge T 67 n 0 = ge S 40 0 35 ∧ ge T 67 n 1 = ge S 40 0 36 ∧ ge T 67 n 2 = ge S 40 0 37 ∧ ge T 67 n 3 = ge S 40 0 38 ∧ ge T 67 n 4 = ge S 40 0 30 ∧ ge T 67 n 5 = ge S 40 0 31 ∧ ge T 67 n 6 = ge S 40 0 32 ∧ ge T 67 n 7 = ge S 40 0 33 ∧ ge T 67 n 8 = ge S 40 0 34 ∧ ge T 67 n 9 = (100 : Int32) * ge S 40 0 46 + ge S 40 0 21 ∧ ge T 67 n 10 = ge S 40 0 15
def QR1 (S T : fS) (n i : Nat) : Prop := ∀ k j : Nat, k < i → j < 14 → ge T 71 (200 * n + k) j = ge S 57 k j
def QIM (S T : fS) (n r : Nat) : Prop := LAY S T n ∧ QR9 S T n 24 ∧ QR7 S T n ∧ QR1 S T n r
/-- the rows of tries -/
theorem q_im206 {a1 : Int32} (h1 : a1.toInt = (n : Int)) (hn : n < 3) (hr : (ge S 40 0 46).toInt = (r : Int)) (r200 : r ≤ 200) (FV : FX Wi0 S V) (OV : OT2 S V n) (l : LAY S V n) (q9 : QR9 S V n 24) (q7 : QR7 S V n) (h56 : (ge S 40 0 56).toInt = (n : Int)) : pk (lp (B_X7_image_206) fuel (a1, 0) V) (fun v T => v.toInt = (n : Int) + 1 ∧ FX Wim S T ∧ (ge T 40 0 56).toInt = (n : Int) + 1 ∧ OT2 S T n ∧ QIM S T n r) := by
  have l0 : (0 : Int32).toInt = 0 := by decide
  have li1 : (1 : Int32).toInt = 1 := by decide
  have l14 : (14 : Int32).toInt = 14 := by decide
  have l200 : (200 : Int32).toInt = 200 := by decide
  have st : ∀ (T : fS), (∀ a i j : Nat, a ≠ 71 → ge T a i j = ge V a i j) → LAY S T n ∧ QR9 S T n 24 ∧ QR7 S T n := fun T e => by
    refine ⟨⟨fun c i hc hi => by rw [e _ _ _ (by decide)]; exact l.1 c i hc hi, fun c hc => by rw [e _ _ _ (by decide)]; exact l.2.1 c hc, fun t ht => by rw [e _ _ _ (by decide)]; exact l.2.2 t ht⟩, fun t ht => ?_, ?_⟩
    · rw [e _ _ _ (by decide), e _ _ _ (by decide), e _ _ _ (by decide), e _ _ _ (by decide), e _ _ _ (by decide)]
      exact q9 t ht
    · unfold QR7
      rw [e 67 _ 0 (by decide), e 67 _ 1 (by decide), e 67 _ 2 (by decide), e 67 _ 3 (by decide), e 67 _ 4 (by decide), e 67 _ 5 (by decide), e 67 _ 6 (by decide), e 67 _ 7 (by decide), e 67 _ 8 (by decide), e 67 _ 9 (by decide), e 67 _ 10 (by decide)]
      exact q7
  refine pq_lp (fun (y : Int32 × Int32) U => y.1 = a1 ∧ FX Wi0 S U ∧ OT2 S U n ∧ (∀ a i j : Nat, a ≠ 71 → ge U a i j = ge V a i j) ∧ ∃ i : Nat, y.2.toInt = (i : Int) ∧ i ≤ r ∧ QR1 S U n i) (fun _ _ (v : Int32) T => v.toInt = (n : Int) + 1 ∧ FX Wim S T ∧ (ge T 40 0 56).toInt = (n : Int) + 1 ∧ OT2 S T n ∧ QIM S T n r) ?_ fuel (a1, 0) V ⟨rfl, FV, OV, fun _ _ _ _ => rfl, 0, l0, by omega, fun k j hk => absurd hk (Nat.not_lt_zero _)⟩
  intro k2 hk2 y U hy
  obtain ⟨b1, b2⟩ := y
  obtain ⟨f1, FU, OU, eU, i, i1, i2, i3⟩ := hy
  dsimp only at f1 i1
  subst f1
  unfold B_X7_image_206
  dsimp only
  refine pq_iv fun x15 e15 => ?_
  rw [FU.1 40 0 46 rfl] at e15
  refine pq_le (fun c0 => pq_iv fun x17 e17 => pq_iv fun x18 e18 => pq_sv fun T E => pq_iv fun x20 e20 => pq_some ?_) (fun c0 => ?_)
  · have ei : i = r := by rw [e15, hr] at c0; omega
    rw [ei] at i3
    rw [FU.1 40 0 56 rfl] at e17
    have g18 : x18.toInt = (n : Int) + 1 := by rw [e18, e17, ti_add (by omega) (by omega), h56, li1]
    have t56 : (ge T 40 0 56).toInt = (n : Int) + 1 := by rw [E, ge_pus]; exact g18
    have eT : ∀ a i j : Nat, a ≠ 40 → ge T a i j = ge U a i j := fun a i j h => by rw [E, ge_pua h]
    refine ⟨by rw [e20]; exact t56, by rw [E]; exact (FU.sub Wi0_m).wr rfl, t56, ?_, ?_⟩
    · exact ⟨fun r i q => by rw [eT _ _ _ (by decide)]; exact OU.1 r i q, fun k c q => by rw [eT _ _ _ (by decide)]; exact OU.2.1 k c q, fun k c q => by rw [eT _ _ _ (by decide)]; exact OU.2.2.1 k c q, fun k c q => by rw [eT _ _ _ (by decide)]; exact OU.2.2.2.1 k c q, fun k c q => by rw [eT _ _ _ (by decide)]; exact OU.2.2.2.2.1 k c q, fun k c q => by rw [eT _ _ _ (by decide)]; exact OU.2.2.2.2.2 k c q⟩
    · obtain ⟨a1, a2, a3⟩ := st U eU
      refine ⟨⟨fun c i hc hi => by rw [eT _ _ _ (by decide)]; exact a1.1 c i hc hi, fun c hc => by rw [eT _ _ _ (by decide)]; exact a1.2.1 c hc, fun t ht => by rw [eT _ _ _ (by decide)]; exact a1.2.2 t ht⟩, fun t ht => ?_, ?_, fun k j hk hj => by rw [eT _ _ _ (by decide)]; exact i3 k j hk hj⟩
      · rw [eT 69 _ _ (by decide), eT 69 _ _ (by decide), eT 69 _ _ (by decide), eT 69 _ _ (by decide), eT 69 _ _ (by decide)]
        exact a2 t ht
      · unfold QR7
        rw [eT 67 _ 0 (by decide), eT 67 _ 1 (by decide), eT 67 _ 2 (by decide), eT 67 _ 3 (by decide), eT 67 _ 4 (by decide), eT 67 _ 5 (by decide), eT 67 _ 6 (by decide), eT 67 _ 7 (by decide), eT 67 _ 8 (by decide), eT 67 _ 9 (by decide), eT 67 _ 10 (by decide)]
        exact a3
  rw [e15, hr] at c0
  have hir : i < r := by omega
  refine pq_lp (fun (y : Int32 × Int32 × Int32) U => y.1 = b1 ∧ y.2.1 = b2 ∧ FX Wi0 S U ∧ OT2 S U n ∧ (∀ a i j : Nat, a ≠ 71 → ge U a i j = ge V a i j) ∧ QR1 S U n i ∧ ∃ l : Nat, y.2.2.toInt = (l : Int) ∧ l ≤ 14 ∧ ∀ j : Nat, j < l → ge U 71 (200 * n + i) j = ge S 57 i j) (fun _ _ (v : Int32) T => v.toInt = (n : Int) + 1 ∧ FX Wim S T ∧ (ge T 40 0 56).toInt = (n : Int) + 1 ∧ OT2 S T n ∧ QIM S T n r) ?_ fuel (b1, b2, 0) U ⟨rfl, rfl, FU, OU, eU, i3, 0, l0, by omega, fun j hj => absurd hj (Nat.not_lt_zero _)⟩
  intro k3 hk3 y U hy
  obtain ⟨d1, d2, d3⟩ := y
  obtain ⟨f1, f2, FU, OU, eU, i3, l, l1, l2, l3⟩ := hy
  dsimp only at f1 f2 l1
  subst f1
  subst f2
  unfold B_X7_image_217
  dsimp only
  refine pq_le (fun c1 => pq_iv fun x5 e5 => ?_) (fun c1 => ?_)
  · have el : l = 14 := by omega
    rw [el] at l3
    have g5 : x5.toInt = d2.toInt + 1 := by rw [e5]; exact ti_inc (by omega)
    refine hk2 (d1, x5) U ⟨rfl, FU, OU, eU, i + 1, by dsimp only; omega, by omega, fun k j hk hj => ?_⟩
    by_cases d : k = i
    · rw [d]; exact l3 j hj
    · exact i3 k j (by omega) hj
  · refine pq_iv fun x6 e6 => pq_iv fun x7 e7 => ?_
    have g6 : x6.toInt = 200 * (n : Int) := by rw [e6, ti_mul (by rw [l200, h1]; omega) (by rw [l200, h1]; omega), l200, h1]
    have g7 : x7.toInt = ((200 * n + i : Nat) : Int) := by rw [e7, ti_add (by omega) (by omega), g6, i1]; omega
    rw [cnNq g7, cnNq i1, cnNq l1]
    refine pq_gd fun _ => pq_gd fun _ => pq_gd fun _ => pq_iv fun x11 e11 => pq_gd fun _ => pq_sv fun S13 E13 => pq_iv fun x14 e14 => ?_
    rw [FU.1 57 i l rfl] at e11
    have g14 : x14.toInt = d3.toInt + 1 := by rw [e14]; exact ti_inc (by omega)
    refine hk3 (d1, d2, x14) S13 ⟨rfl, rfl, by rw [E13]; exact FU.wr rfl, by rw [E13]; exact OU.w71 ⟨by omega, by omega⟩, fun a i' j h => by rw [E13, ge_pua h]; exact eU a i' j h, fun k j hk hj => by rw [E13, ge_pui (by omega)]; exact i3 k j hk hj, l + 1, by dsimp only; omega, by omega, fun j hj => ?_⟩
    by_cases d : j = l
    · rw [E13, d, ge_pus, e11]
    · rw [E13, ge_puj d]; exact l3 j (by omega)
end IMA
