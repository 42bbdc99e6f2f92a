/-! image: the things' rows, the whole -/
section IMB
variable {S T U V : fS} {p : Int32} {n m k r : Nat}
theorem q_im96 {a1 : Int32} (h1 : a1.toInt = (n : Int)) (hn : n < 3) (hr : (ge S 40 0 46).toInt = (r : Int)) (r200 : r ≤ 200) (h51 : ∀ t : Nat, 0 ≤ (ge S 51 0 t).toInt) (FV : FX Wi0 S V) (OV : OT2 S V n) (l : LAY S V n) (q7 : QR7 S V n) (h56 : (ge S 40 0 56).toInt = (n : Int)) : pk (lp (B_X7_image_96) fuel (a1, 0) V) (fun v T => v.toInt = (n : Int) + 1 ∧ FX Wim S T ∧ (ge T 40 0 56).toInt = (n : Int) + 1 ∧ OT2 S T n ∧ QIM S T n r) := by
  have l0 : (0 : Int32).toInt = 0 := by decide
  have li1 : (1 : Int32).toInt = 1 := by decide
  have li2 : (2 : Int32).toInt = 2 := by decide
  have li3 : (3 : Int32).toInt = 3 := by decide
  have li4 : (4 : Int32).toInt = 4 := by decide
  have li5 : (5 : Int32).toInt = 5 := by decide
  have l24 : (24 : Int32).toInt = 24 := by decide
  refine pq_lp (fun (y : Int32 × Int32) U => y.1 = a1 ∧ FX Wi0 S U ∧ OT2 S U n ∧ (∀ a i j : Nat, a ≠ 69 → ge U a i j = ge V a i j) ∧ ∃ i : Nat, y.2.toInt = (i : Int) ∧ i ≤ 24 ∧ QR9 S U n i) (fun _ _ (v : Int32) T => v.toInt = (n : Int) + 1 ∧ FX Wim S T ∧ (ge T 40 0 56).toInt = (n : Int) + 1 ∧ OT2 S T n ∧ QIM S T n r) ?_ fuel (a1, 0) V ⟨rfl, FV, OV, fun _ _ _ _ => rfl, 0, l0, by omega, fun t ht => absurd ht (Nat.not_lt_zero _)⟩
  intro k2 hk2 y U hy
  obtain ⟨b1, b2⟩ := y
  obtain ⟨f1, FU, OU, eU, i, i1, i2, i3⟩ := hy
  dsimp only at f1 i1
  subst f1
  unfold B_X7_image_96
  dsimp only
  refine pq_le (fun c0 => ?_) (fun c0 => ?_)
  · have ei : i = 24 := by omega
    rw [ei] at i3
    refine q_im206 h1 hn hr r200 FU OU ⟨fun c i hc hi => by rw [eU _ _ _ (by decide)]; exact l.1 c i hc hi, fun c hc => by rw [eU _ _ _ (by decide)]; exact l.2.1 c hc, fun t ht => by rw [eU _ _ _ (by decide)]; exact l.2.2 t ht⟩ i3 ?_ h56
    unfold QR7
    rw [eU 67 _ 0 (by decide), eU 67 _ 1 (by decide), eU 67 _ 2 (by decide), eU 67 _ 3 (by decide), eU 67 _ 4 (by decide), eU 67 _ 5 (by decide), eU 67 _ 6 (by decide), eU 67 _ 7 (by decide), eU 67 _ 8 (by decide), eU 67 _ 9 (by decide), eU 67 _ 10 (by decide)]
    exact q7
  have hi : i < 24 := by omega
  have m5 : ∀ x : Int32, x = (5 : Int32) * b1 → x.toInt = ((5 * n : Nat) : Int) := fun x e => by rw [e, ti_mul (by rw [li5, h1]; omega) (by rw [li5, h1]; omega), li5, h1]; omega
  have m5a : ∀ (x y z : Int32) (d : Nat), x = (5 : Int32) * b1 → z.toInt = (d : Int) → d < 5 → y = x + z → y.toInt = ((5 * n + d : Nat) : Int) := fun x y z d e ez hd ey => by
    have := m5 x e
    rw [ey, ti_add (by omega) (by omega), this, ez]
    omega
  refine pq_iv fun x22 e22 => pq_gd fun _ => pq_gd fun _ => pq_iv fun x25 e25 => pq_gd fun _ => pq_sv fun S27 E27 => ?_
  refine pq_iv fun x28 e28 => pq_iv fun x29 e29 => pq_gd fun _ => pq_gd fun _ => pq_iv fun x32 e32 => pq_gd fun _ => pq_sv fun S34 E34 => ?_
  refine pq_iv fun x35 e35 => pq_iv fun x36 e36 => pq_gd fun _ => pq_gd fun _ => pq_iv fun x39 e39 => pq_gd fun _ => pq_sv fun S41 E41 => ?_
  refine pq_iv fun x42 e42 => pq_iv fun x43 e43 => pq_gd fun _ => pq_gd fun _ => pq_iv fun x46 e46 => pq_gd fun _ => pq_sv fun S48 E48 => ?_
  refine pq_iv fun x49 e49 => pq_iv fun x50 e50 => pq_gd fun _ => pq_gd fun _ => pq_iv fun x53 e53 => ?_
  have g22 := m5 x22 e22
  have g29 := m5a x28 x29 1 1 e28 li1 (by decide) e29
  have g36 := m5a x35 x36 2 2 e35 li2 (by decide) e36
  have g43 := m5a x42 x43 3 3 e42 li3 (by decide) e43
  have g50 := m5a x49 x50 4 4 e49 li4 (by decide) e50
  rw [cnNq g22, cnNq i1] at E27
  rw [cnNq g29, cnNq i1] at E34
  rw [cnNq g36, cnNq i1] at E41
  rw [cnNq g43, cnNq i1] at E48
  rw [cnNq i1] at e25 e32 e39 e46 e53
  have F27 : FX Wi0 S S27 := by rw [E27]; exact FU.wr rfl
  have F34 : FX Wi0 S S34 := by rw [E34]; exact F27.wr rfl
  have F41 : FX Wi0 S S41 := by rw [E41]; exact F34.wr rfl
  have F48 : FX Wi0 S S48 := by rw [E48]; exact F41.wr rfl
  have O27 : OT2 S S27 n := by rw [E27]; exact OU.w69 ⟨by omega, by omega⟩
  have O34 : OT2 S S34 n := by rw [E34]; exact O27.w69 ⟨by omega, by omega⟩
  have O41 : OT2 S S41 n := by rw [E41]; exact O34.w69 ⟨by omega, by omega⟩
  have O48 : OT2 S S48 n := by rw [E48]; exact O41.w69 ⟨by omega, by omega⟩
  rw [FU.1 46 0 i rfl] at e25
  rw [F27.1 47 0 i rfl] at e32
  rw [F34.1 48 0 i rfl] at e39
  rw [F41.1 49 0 i rfl] at e46
  rw [F48.1 51 0 i rfl] at e53
  have e48 : ∀ a i j : Nat, a ≠ 69 → ge S48 a i j = ge V a i j := fun a i j h => by rw [E48, ge_pua h, E41, ge_pua h, E34, ge_pua h, E27, ge_pua h, eU a i j h]
  have r48 : ∀ q t : Nat, t ≠ i → ge S48 69 q t = ge U 69 q t := fun q t h => by rw [E48, ge_puj h, E41, ge_puj h, E34, ge_puj h, E27, ge_puj h]
  have go : ∀ v : Int32, v = b01q (ge S 51 0 i) → pk (B_X7_image_197 k2 b1 b2 v b2 (x50.toNatClampNeg) S48) (fun v T => v.toInt = (n : Int) + 1 ∧ FX Wim S T ∧ (ge T 40 0 56).toInt = (n : Int) + 1 ∧ OT2 S T n ∧ QIM S T n r) := by
    intro v hv
    unfold B_X7_image_197
    rw [cnNq g50, cnNq i1]
    refine pq_gd fun _ => pq_sv fun S2 E2 => pq_iv fun x3 e3 => ?_
    have g3 : x3.toInt = b2.toInt + 1 := by rw [e3]; exact ti_inc (by omega)
    refine hk2 (b1, x3) S2 ⟨rfl, by rw [E2]; exact F48.wr rfl, by rw [E2]; exact O48.w69 ⟨by omega, by omega⟩, fun a i' j h => by rw [E2, ge_pua h]; exact e48 a i' j h, i + 1, by dsimp only; omega, by omega, fun t ht => ?_⟩
    by_cases d : t = i
    · rw [d]
      refine ⟨?_, ?_, ?_, ?_, ?_⟩
      · rw [E2, ge_pui (by omega), E48, ge_pui (by omega), E41, ge_pui (by omega), E34, ge_pui (by omega), E27, ge_pus, e25]
      · rw [E2, ge_pui (by omega), E48, ge_pui (by omega), E41, ge_pui (by omega), E34, ge_pus, e32]
      · rw [E2, ge_pui (by omega), E48, ge_pui (by omega), E41, ge_pus, e39]
      · rw [E2, ge_pui (by omega), E48, ge_pus, e46]
      · rw [E2, ge_pus, hv]
    · have a := i3 t (by omega)
      rw [E2, ge_puj d, ge_puj d, ge_puj d, ge_puj d, ge_puj d, r48 _ t d, r48 _ t d, r48 _ t d, r48 _ t d, r48 _ t d]
      exact a
  refine pq_bb (fun d => go 0 ?_) (fun d => go 1 ?_)
  · unfold b01q; rw [if_pos (by rw [← e53]; exact d)]
  · unfold b01q; rw [if_neg (by rw [← e53]; exact d)]
theorem q_image (RT : RI T) (z : ge T 40 0 0 = 0) (hn : (ge T 40 0 56).toInt = (n : Int)) (n3 : n < 3) (hr : (ge T 40 0 46).toInt = (r : Int)) (r200 : r ≤ 200) : pk (F_X7_image T) (fun v U => v.toInt = (n : Int) + 1 ∧ FX Wim T U ∧ (ge U 40 0 56).toInt = (n : Int) + 1 ∧ OT2 T U n ∧ QIM T U n r) := by
  have l3 : (3 : Int32).toInt = 3 := by decide
  have k4 : (4 : Int32).toNatClampNeg = 4 := by decide
  have k5 : (5 : Int32).toNatClampNeg = 5 := by decide
  have k6 : (6 : Int32).toNatClampNeg = 6 := by decide
  have k7 : (7 : Int32).toNatClampNeg = 7 := by decide
  have k8 : (8 : Int32).toNatClampNeg = 8 := by decide
  have k9 : (9 : Int32).toNatClampNeg = 9 := by decide
  have k10 : (10 : Int32).toNatClampNeg = 10 := by decide
  unfold F_X7_image
  refine pg7_0 z (pq_iv fun x56 e56 => pq_bb (fun d => absurd (congrArg Int32.toInt d) (by rw [e56, hn, l3]; omega)) (fun _ => pq_iv fun x58 e58 => ?_))
  have g58 : x58.toInt = (n : Int) := by rw [e58]; exact hn
  refine pq_bd (q_lays RT g58 (by omega)) (fun _ S60 q => ?_)
  obtain ⟨_, F60, la, ot, c0, c1, c2, c3⟩ := q
  rw [k4, k5, k6, k7, k8, k9, k10, cnNq g58]
  refine pq_gd fun _ => pq_iv fun x63 e63 => pq_sv fun S64 E64 => pq_iv fun x65 e65 => pq_sv fun S66 E66 => pq_iv fun x67 e67 => pq_sv fun S68 E68 => pq_iv fun x69 e69 => pq_sv fun S70 E70 => pq_iv fun x71 e71 => pq_sv fun S72 E72 => pq_iv fun x73 e73 => pq_iv fun x74 e74 => pq_iv fun x75 e75 => pq_iv fun x76 e76 => pq_sv fun S77 E77 => pq_iv fun x78 e78 => pq_sv fun S79 E79 => ?_
  have G60 : FX Wi0 T S60 := F60.sub Wly_i
  have G64 : FX Wi0 T S64 := by rw [E64]; exact G60.wr rfl
  have G66 : FX Wi0 T S66 := by rw [E66]; exact G64.wr rfl
  have G68 : FX Wi0 T S68 := by rw [E68]; exact G66.wr rfl
  have G70 : FX Wi0 T S70 := by rw [E70]; exact G68.wr rfl
  have G72 : FX Wi0 T S72 := by rw [E72]; exact G70.wr rfl
  have G77 : FX Wi0 T S77 := by rw [E77]; exact G72.wr rfl
  have G79 : FX Wi0 T S79 := by rw [E79]; exact G77.wr rfl
  have O60 : OT2 T S60 n := ⟨ot.1, ot.2.1, ot.2.2.1, ot.2.2.2.1, fun q j _ => ot.2.2.2.2 q j, fun q j _ => F60.1 71 q j rfl⟩
  have O64 : OT2 T S64 n := by rw [E64]; exact O60.w67
  have O66 : OT2 T S66 n := by rw [E66]; exact O64.w67
  have O68 : OT2 T S68 n := by rw [E68]; exact O66.w67
  have O70 : OT2 T S70 n := by rw [E70]; exact O68.w67
  have O72 : OT2 T S72 n := by rw [E72]; exact O70.w67
  have O77 : OT2 T S77 n := by rw [E77]; exact O72.w67
  have O79 : OT2 T S79 n := by rw [E79]; exact O77.w67
  have e9 : ∀ a i j : Nat, a ≠ 67 → ge S79 a i j = ge S60 a i j := fun a i j h => by rw [E79, ge_pua h, E77, ge_pua h, E72, ge_pua h, E70, ge_pua h, E68, ge_pua h, E66, ge_pua h, E64, ge_pua h]
  refine q_im96 g58 n3 hr r200 (fun t => (RT 51 0 t).1) G79 O79 ⟨fun c i hc hi => by rw [e9 _ _ _ (by decide)]; exact la.1 c i hc hi, fun c hc => by rw [e9 _ _ _ (by decide)]; exact la.2.1 c hc, fun t ht => by rw [e9 _ _ _ (by decide)]; exact la.2.2 t ht⟩ ?_ hn
  have lw : ∀ j : Nat, j < 4 → ge S79 67 n j = ge S60 67 n j := fun j h => by rw [E79, ge_puj (by omega), E77, ge_puj (by omega), E72, ge_puj (by omega), E70, ge_puj (by omega), E68, ge_puj (by omega), E66, ge_puj (by omega), E64, ge_puj (by omega)]
  refine ⟨by rw [lw 0 (by decide), c0], by rw [lw 1 (by decide), c1], by rw [lw 2 (by decide), c2], by rw [lw 3 (by decide), c3], ?_, ?_, ?_, ?_, ?_, ?_, ?_⟩
  · rw [E79, ge_puj (by decide), E77, ge_puj (by decide), E72, ge_puj (by decide), E70, ge_puj (by decide), E68, ge_puj (by decide), E66, ge_puj (by decide), E64, ge_pus, e63, G60.1 40 0 30 rfl]
  · rw [E79, ge_puj (by decide), E77, ge_puj (by decide), E72, ge_puj (by decide), E70, ge_puj (by decide), E68, ge_puj (by decide), E66, ge_pus, e65, G64.1 40 0 31 rfl]
  · rw [E79, ge_puj (by decide), E77, ge_puj (by decide), E72, ge_puj (by decide), E70, ge_puj (by decide), E68, ge_pus, e67, G66.1 40 0 32 rfl]
  · rw [E79, ge_puj (by decide), E77, ge_puj (by decide), E72, ge_puj (by decide), E70, ge_pus, e69, G68.1 40 0 33 rfl]
  · rw [E79, ge_puj (by decide), E77, ge_puj (by decide), E72, ge_pus, e71, G70.1 40 0 34 rfl]
  · rw [E79, ge_puj (by decide), E77, ge_pus, e76, e74, e73, e75, G72.1 40 0 46 rfl, G72.1 40 0 21 rfl]
  · rw [E79, ge_pus, e78, G77.1 40 0 15 rfl]
theorem rk_image (h : IV S) (z : ge S 40 0 0 = 0) : RK0 (F_X6_image S) (F_X7_image) := by
  have l3 : (3 : Int32).toInt = 3 := by decide
  have lm1 : (-1 : Int32).toInt = -1 := by decide
  have l100 : (100 : Int32).toInt = 100 := by decide
  have h0 := h.nq
  obtain ⟨ha, ht, hi⟩ := h.2.2.2
  have hb := ha.b h0
  have ha' := ha
  obtain ⟨H, hO, B, N, hP, hI, hs, ⟨m, m200, r1, r2, r3⟩, hn1, hH⟩ := ha
  have b56 : 0 ≤ (ge S 40 0 56).toInt ∧ (ge S 40 0 56).toInt ≤ 3 := h.1 40 0 56
  obtain ⟨n, hn⟩ : ∃ n : Nat, (ge S 40 0 56).toInt = (n : Int) := ⟨(ge S 40 0 56).toInt.toNat, by omega⟩
  unfold RK0
  refine pq_imp (pq_and (s_F_X6_image S h.1 h.2.1).pk (y_image (n := n) r1 m200 (by rw [hi.1]; exact hn))) (fun v T1 q => ?_)
  obtain ⟨⟨R1, _⟩, q⟩ := q
  rcases q with ⟨q1, q2, q3⟩ | ⟨q1, q2, U, cp, eU, u3, u2⟩
  · rw [q3]
    unfold F_X7_image
    refine pg7_0 z (pq_iv fun x56 e56 => pq_bb (fun _ => pq_some ⟨h.2.2.2, q2⟩) (fun d => absurd (of_toInt (by rw [e56, hn, l3]; omega)) d))
  · obtain ⟨p1, p2, p3, p4, p5, p6, p7, p8⟩ := cp
    have eT : ∀ a i j : Nat, ¬ (1 ≤ a ∧ a ≤ 10 ∧ i = 2 + n) → ¬ (a = 0 ∧ i = 0 ∧ j = 3) → ge T1 a i j = ge S a i j := fun a i j h1 h2 => by rw [eU a i j h2, p1 a i j h1]
    have s1 : SRq S T1 := fun a i j hh => eT a i j (by omega) (by omega)
    have z1 := RI_z z s1
    refine pq_imp (q_image (n := n) (r := m) R1 z1 (by rw [s1 40 0 56 (by decide)]; exact hn) q1 (by rw [s1 40 0 46 (by decide)]; exact r2) m200) (fun v2 W q => ?_)
    obtain ⟨w1, FW, w56, ow, la, q9, q7, qr⟩ := q
    refine ⟨?_, of_toInt (by rw [q2, w1])⟩
    have lo : ∀ a i j : Nat, a < 40 → ge W a i j = ge T1 a i j := fun a i j hh => FW.1 a i j (by unfold Wim; rw [beq_out (by omega : a ≠ 61), beq_out (by omega : a ≠ 63), beq_out (by omega : a ≠ 65), beq_out (by omega : a ≠ 67), beq_out (by omega : a ≠ 69), beq_out (by omega : a ≠ 71), beq_out (by omega : a ≠ 40)]; rfl)
    have hiW : ∀ a i j : Nat, 41 ≤ a → a ≤ 60 → ge W a i j = ge S a i j := fun a i j h1 h2 => by rw [FW.1 a i j (by unfold Wim; rw [beq_out (by omega : a ≠ 61), beq_out (by omega : a ≠ 63), beq_out (by omega : a ≠ 65), beq_out (by omega : a ≠ 67), beq_out (by omega : a ≠ 69), beq_out (by omega : a ≠ 71), beq_out (by omega : a ≠ 40)]; rfl), s1 a i j (by omega)]
    have c40 : ∀ j : Nat, j ≠ 56 → ge W 40 0 j = ge S 40 0 j := fun j hj => by rw [FW.1 40 0 j (by unfold Wim; rw [beq_out hj]; rfl), s1 40 0 j (by decide)]
    have gW : ∀ a i j : Nat, gr W a i j = gr U a i j := fun a i j => by
      have : W.2 = U.2 := FW.2.trans u2
      unfold gr
      rw [this]
    have nW : nT W = nT S := by
      have : W.2 = U.2 := FW.2.trans u2
      have e1 : nT W = nT U := congrArg (fun z => z.2.1.1) this
      have e2 : nT U = nT S := congrArg (fun z => z.1.1) p8
      rw [e1, e2]
    have bx0 : ∀ a j : Nat, 1 ≤ a → a ≤ 10 → ge W a 0 j = ge S a 0 j := fun a j h1 h2 => by rw [lo a 0 j (by omega), eT a 0 j (by omega) (by omega)]
    have c25 : ∀ t j : Nat, ge W 25 t j = ge S 25 t j := fun t j => by rw [lo 25 t j (by decide), eT 25 t j (by omega) (by omega)]
    have ar : AR S W m := ⟨fun t _ => ⟨hiW _ _ _ (by decide) (by decide), hiW _ _ _ (by decide) (by decide), hiW _ _ _ (by decide) (by decide), hiW _ _ _ (by decide) (by decide), hiW _ _ _ (by decide) (by decide), hiW _ _ _ (by decide) (by decide)⟩, fun c k _ _ => hiW _ _ _ (by decide) (by decide), fun c _ => hiW _ _ _ (by decide) (by decide), ⟨c40 _ (by decide), c40 _ (by decide), c40 _ (by decide), c40 _ (by decide), c40 _ (by decide), c40 _ (by decide), c40 _ (by decide), c40 _ (by decide), c40 _ (by decide), c40 _ (by decide), c40 _ (by decide), c40 _ (by decide)⟩, by rw [c40 13 (by decide)]; exact Int.le_refl _, fun k j _ _ => hiW _ _ _ (by decide) (by decide)⟩
    have ac : AC S W m := ⟨fun j _ _ _ => bx0 1 j (by decide) (by decide), bx0 2 0 (by decide) (by decide), fun a j h1 h2 _ => bx0 a j (by omega) (by omega), fun j _ => bx0 10 j (by decide) (by decide), fun k _ => by rw [gW, p7 11 0 k (by omega)], fun t j _ _ => c25 t j, by rw [nW]; exact Nat.le_refl _⟩
    have hPW : PGq W := by
      obtain ⟨⟨mp, mp6, a5, a13, pg⟩, ⟨ml, ml3, a7, a14, lg⟩⟩ := hP
      have e0 : ∀ j : Nat, j ≠ 3 → ge W 0 0 j = ge S 0 0 j := fun j hj => by rw [lo 0 0 j (by decide), eT 0 0 j (by omega) (by omega)]
      have e30 : ∀ c j : Nat, ge W 30 c j = ge S 30 c j := fun c j => by rw [lo 30 c j (by decide), eT 30 c j (by omega) (by omega)]
      have eln : ∀ c : Nat, ln W c = ln S c := fun c => by
        have : W.2 = U.2 := FW.2.trans u2
        have e1 : ln W c = ln U c := congrFun (congrArg (fun z => z.2.2) this) c
        have e2 : ln U c = ln S c := congrFun (congrArg (fun z => z.2) p8) c
        rw [e1, e2]
      have ebt : ∀ t : Nat, btx W t = btx S t := fun t => funext fun k => by unfold btx; rw [hiW 44 0 t (by decide) (by decide), hiW 43 t k (by decide) (by decide)]
      refine ⟨⟨mp, mp6, by rw [e0 5 (by decide)]; exact a5, by rw [c40 13 (by decide)]; exact a13, fun t ht => ?_⟩, ⟨ml, ml3, by rw [e0 7 (by decide)]; exact a7, by rw [c40 14 (by decide)]; exact a14, fun t ht => ?_⟩⟩
      · obtain ⟨c, c1, P, hc, hE⟩ := pg t ht
        exact ⟨c, by rw [gW, p7 13 0 t (by omega)]; exact c1, P, CP_up hc ⟨eln c, e30 c⟩, by rw [ebt]; exact hE⟩
      · obtain ⟨c, c1, P, hc, hE⟩ := lg t ht
        exact ⟨c, by rw [gW, p7 14 0 t (by omega)]; exact c1, P, CP_up hc ⟨eln c, e30 c⟩, by rw [ebt]; exact hE⟩
    have l0' : ∀ j : Nat, j ≠ 3 → ge W 0 0 j = ge S 0 0 j := fun j hj => by rw [lo 0 0 j (by decide), eT 0 0 j (by omega) (by omega)]
    have ew3 : (ge W 0 0 3).toInt = (n : Int) + 1 := by rw [lo 0 0 3 (by decide)]; exact u3
    refine ⟨(hb.cg r2 ar ac).a hPW (by rw [nW]; exact hn1) (hH.mv (l0' 9 (by decide)) (c40 48 (by decide)) (fun k => by rw [lo 15 0 k (by decide), eT 15 0 k (by omega) (by omega)]) (fun k j => hiW _ _ _ (by decide) (by decide))), ht.mv (l0' 11 (by decide)) (c40 1 (by decide)) (fun k => by rw [lo 16 0 k (by decide), eT 16 0 k (by omega) (by omega)]) (fun k => hiW _ _ _ (by decide) (by decide)), of_toInt (by rw [ew3, w56]), fun k hk k3 => ?_⟩
    rw [ew3] at hk
    by_cases d : k = n
    · rw [d]
      have n24 := H.2.2.1
      have g46 := r2
      have e9w : ge W 67 n 9 = (100 : Int32) * ge S 40 0 46 + ge S 40 0 21 := by rw [q7.2.2.2.2.2.2.2.2.2.1, s1 40 0 46 (by decide), s1 40 0 21 (by decide)]
      have v9 : (ge W 67 n 9).toInt = 100 * (m : Int) + nq S := by
        have b0 : (ge S 40 0 21).toInt = nq S := rfl
        have m1 : ((100 : Int32) * ge S 40 0 46).toInt = 100 * (m : Int) := by rw [ti_mul (by rw [l100, r2]; omega) (by rw [l100, r2]; omega), l100, r2]
        rw [e9w, ti_add (by rw [m1, b0]; omega) (by rw [m1, b0]; omega), m1, b0]
      have d9 : (ge W 67 n 9 / 100).toInt = (m : Int) := by rw [ti_dv (by omega) (by omega), l100, v9]; omega
      have m9 : (ge W 67 n 9 / 100 * 100).toInt = (m : Int) * 100 := by rw [ti_mul (by rw [d9, l100]; omega) (by rw [d9, l100]; omega), d9, l100]
      have t9 : ge W 67 n 9 - ge W 67 n 9 / 100 * 100 = ge S 40 0 21 := of_toInt (by
        have b0 : (ge S 40 0 21).toInt = nq S := rfl
        rw [ti_sub (by rw [m9, v9]; omega) (by rw [m9, v9]; omega), m9, v9, b0]
        omega)
      have d9' : ge W 67 n 9 / 100 = ge S 40 0 46 := of_toInt (by rw [d9, r2])
      have c7 : ∀ j : Nat, ge T1 40 0 j = ge S 40 0 j := fun j => s1 40 0 j (by decide)
      unfold QR7 at q7
      simp only [c7] at q7
      obtain ⟨a0, a1, a2, a3, a4, a5, a6, a7, a8, _, a10⟩ := q7
      show RLb (VW W n)
      refine hb.cg r2 (T := VW W n) ⟨fun t ht2 => ?_, fun c k hc hk => ?_, fun c hc => ?_, ⟨t9, a4, a5, a6, a7, a8, a0, a1, a2, a3, a10, d9'⟩, by rw [vw_13, c40 13 (by decide)]; exact Int.le_refl _, fun k j hk hj => ?_⟩ ⟨fun j h1 h2 h3 => ?_, ?_, fun a j h1 h2 h3 => ?_, fun j hj => ?_, fun k hk => ?_, fun t j _ _ => c25 t j, by rw [show nT (VW W n) = nT W from rfl, nW]; exact Nat.le_refl _⟩
      · have h24 : t < 24 := by omega
        obtain ⟨b0, b1, b2, b3, b4⟩ := q9 t h24
        rw [s1 46 0 t (by decide)] at b0
        rw [s1 47 0 t (by decide)] at b1
        rw [s1 48 0 t (by decide)] at b2
        rw [s1 49 0 t (by decide)] at b3
        rw [s1 51 0 t (by decide)] at b4
        have b5 := la.2.2 t h24
        rw [s1 50 0 t (by decide)] at b5
        refine ⟨b0, b1, b2, b3, b5, b4.trans ?_⟩
        unfold b01q
        rcases (H.2.2.2 t ht2).1.2 with w | w
        · rw [w, if_pos rfl]
        · rw [w]; decide
      · have := la.1 c k hc hk
        rw [s1 53 c k (by decide)] at this
        exact this
      · have := la.2.1 c hc
        rw [s1 54 0 c (by decide)] at this
        exact this
      · have := qr k j hk hj
        rw [s1 57 k j (by decide)] at this
        exact this
      · rw [vw_box (by decide) (by decide), lo 1 _ j (by decide), eU 1 _ j (by omega), p5 j h1 h2 h3]
      · rw [vw_box (by decide) (by decide), lo 2 _ 0 (by decide), eU 2 _ 0 (by omega), p2]
      · rw [vw_box (by omega) (by omega), lo a _ j (by omega), eU a _ j (by omega), p3 a j h1 h2 h3]
      · rw [vw_box (by decide) (by decide), lo 10 _ j (by decide), eU 10 _ j (by omega), p4 j hj]
      · rw [vw_11, gW, p6 k hk]
    · have hkn : k < n := by omega
      have o := ow
      refine (hi.2 k (by rw [hi.1, hn]; omega) k3).mv1 ⟨⟨fun c j hc => ?_, fun j => ?_, fun j => ?_, fun j => ?_, fun q j hq => ?_, fun r j hr => ?_, fun a j h1 h2 => ?_, fun j => ?_⟩, fun t j _ _ => c25 t j, by rw [nW]; exact Nat.le_refl _, by rw [c40 13 (by decide)]; exact Int.le_refl _⟩
      · rw [o.1 _ j (by omega), s1 61 _ j (by decide)]
      · rw [o.2.1 k j d, s1 63 k j (by decide)]
      · rw [o.2.2.1 k j d, s1 65 k j (by decide)]
      · rw [o.2.2.2.1 k j d, s1 67 k j (by decide)]
      · rw [o.2.2.2.2.1 _ j (by omega), s1 69 _ j (by decide)]
      · rw [o.2.2.2.2.2 _ j (by omega), s1 71 _ j (by decide)]
      · rw [lo a _ j (by omega), eT a _ j (by omega) (by omega)]
      · rw [gW, p7 11 _ j (by omega)]
end IMB
