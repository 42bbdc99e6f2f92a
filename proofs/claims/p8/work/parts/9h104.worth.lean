/-! worth, bide -/
section WOR
variable {S T T1 T' R R' M M' U V V' W : fS} {c c1 c2 n m N : Nat} {p p1 p2 p3 v w : Int32} {st : fS → fS → Prop}
/-- the class's cells behind tries on the copy -/
def CEl (U V : fS) : Prop := (∀ a i j : Nat, a < 40 → Wtc a i j = false → ge V a i j = ge U a i j) ∧ V.2 = U.2
theorem CEl.rf : CEl U U := ⟨fun _ _ _ _ _ => rfl, rfl⟩
theorem CEl.tr (h : CEl U V) (g : CEl V W) : CEl U W := ⟨fun a i j h1 h2 => (g.1 a i j h1 h2).trans (h.1 a i j h1 h2), g.2.trans h.2⟩
theorem CEl.mxx (F : FX Wtc (mx U R) (mx V R)) : CEl U V := by
  refine ⟨fun a i j h h2 => ?_, F.2⟩
  have z := F.1 a i j h2
  rw [mx_lo h, mx_lo h] at z
  exact z
theorem sc_tc : ∀ a i j : Nat, Wtc a i j = false → WscR 0 a i j = false := fun a i j h => (Bool.or_eq_false_iff.1 h).1
theorem RI.nqR (h : RI R) : 0 ≤ nq (mx T R) := by
  have e : nq (mx T R) = nq R := by unfold nq; rw [mx_hi (by decide)]
  rw [e]
  exact (h 40 0 21).1
/-- the reference's part as it was, but for scratch and what was laid away -/
def Wwf (a i j : Nat) : Bool := Wts a i j || Wly a i j
def EQw (S R : fS) : Prop := R.2 = S.2 ∧ (∀ a i j : Nat, Wwf a i j = false → ge R a i j = ge S a i j) ∧ (∀ c k : Nat, c < 64 → k < 24 → ge R 53 c k = ge S 53 c k) ∧ (∀ c : Nat, c < 64 → ge R 54 0 c = ge S 54 0 c) ∧ (∀ t : Nat, t < 24 → ge R 50 0 t = ge S 50 0 t) ∧ (ge R 40 0 35 = ge S 40 0 35 ∧ ge R 40 0 36 = ge S 40 0 36 ∧ ge R 40 0 37 = ge S 40 0 37 ∧ ge R 40 0 38 = ge S 40 0 38) ∧ (∀ r j : Nat, r < 192 → ge R 61 r j = ge S 61 r j) ∧ (∀ k j : Nat, k < 3 → ge R 63 k j = ge S 63 k j) ∧ (∀ k j : Nat, k < 3 → ge R 65 k j = ge S 65 k j) ∧ ∀ k j : Nat, k < 3 → ge R 67 k j = ge S 67 k j
theorem EQw.rf : EQw S S := ⟨rfl, fun _ _ _ _ => rfl, fun _ _ _ _ => rfl, fun _ _ => rfl, fun _ _ => rfl, ⟨rfl, rfl, rfl, rfl⟩, fun _ _ _ => rfl, fun _ _ _ => rfl, fun _ _ _ => rfl, fun _ _ _ => rfl⟩
theorem EQw.tr (h : EQw S R) (g : EQw R W) : EQw S W := by
  obtain ⟨a1, a2, a3, a4, a5, ⟨a6, a7, a8, a9⟩, b1, b2, b3, b4⟩ := h
  obtain ⟨x1, x2, x3, x4, x5, ⟨x6, x7, x8, x9⟩, y1, y2, y3, y4⟩ := g
  exact ⟨x1.trans a1, fun a i j q => (x2 a i j q).trans (a2 a i j q), fun c k hc hk => (x3 c k hc hk).trans (a3 c k hc hk), fun c hc => (x4 c hc).trans (a4 c hc), fun t ht => (x5 t ht).trans (a5 t ht), ⟨x6.trans a6, x7.trans a7, x8.trans a8, x9.trans a9⟩, fun r j q => (y1 r j q).trans (b1 r j q), fun k j q => (y2 k j q).trans (b2 k j q), fun k j q => (y3 k j q).trans (b3 k j q), fun k j q => (y4 k j q).trans (b4 k j q)⟩
theorem Wly_out {a i j : Nat} (h : a < 61 ∨ 68 ≤ a) : Wly a i j = false := by
  unfold Wly
  rw [beq_out (by omega : a ≠ 61), beq_out (by omega : a ≠ 63), beq_out (by omega : a ≠ 65), beq_out (by omega : a ≠ 67)]
  rfl
theorem Wlb_ts : ∀ a i j : Nat, Wts a i j = false → Wlb a i j = false := by
  intro a i j h
  have n53 : a ≠ 53 := fun q => by rw [q] at h; exact tf h rfl
  have n54 : a ≠ 54 := fun q => by rw [q] at h; exact tf h rfl
  have n50 : a ≠ 50 := fun q => by rw [q] at h; exact tf h rfl
  unfold Wlb
  rw [beq_out n53, beq_out n54, beq_out n50]
  by_cases d : a = 40
  · rw [d] at h
    have m : ∀ k : Nat, Wts 40 i k = true → j ≠ k := fun k hk q => by rw [q] at h; exact tf h hk
    rw [beq_out (m 35 rfl), beq_out (m 36 rfl), beq_out (m 37 rfl), beq_out (m 38 rfl)]
    cases Nat.beq a 40 <;> rfl
  · rw [beq_out d]
    rfl
theorem Wwf_ok {a i j : Nat} (h : a < 40 ∨ (41 ≤ a ∧ a ≤ 44) ∨ (46 ≤ a ∧ a ≤ 49) ∨ (51 ≤ a ∧ a ≤ 52) ∨ (56 ≤ a ∧ a ≤ 60) ∨ 68 ≤ a) : Wwf a i j = false := by
  unfold Wwf
  rw [Wly_out (by omega)]
  by_cases q : a < 40
  · rw [Wts_lo q]; rfl
  · rw [Wts_hi (by omega)]; rfl
theorem Wwf_40 {i j : Nat} (h : Wts 40 i j = false) : Wwf 40 i j = false := by
  unfold Wwf
  rw [h]
  rfl
theorem EQw.ar (h : EQw S R) (h24 : nq S ≤ 24) : AR S R m := by
  obtain ⟨a1, a2, a3, a4, a5, ⟨a6, a7, a8, a9⟩, _⟩ := h
  have c40 : ∀ j : Nat, Wts 40 0 j = false → ge R 40 0 j = ge S 40 0 j := fun j hj => a2 40 0 j (Wwf_40 hj)
  refine ⟨fun t ht => ⟨a2 _ _ _ (Wwf_ok (by omega)), a2 _ _ _ (Wwf_ok (by omega)), a2 _ _ _ (Wwf_ok (by omega)), a2 _ _ _ (Wwf_ok (by omega)), a5 t (by omega), a2 _ _ _ (Wwf_ok (by omega))⟩, a3, a4, ⟨c40 21 rfl, c40 30 rfl, c40 31 rfl, c40 32 rfl, c40 33 rfl, c40 34 rfl, a6, a7, a8, a9, c40 15 rfl, c40 46 rfl⟩, by rw [c40 13 rfl]; exact Int.le_refl _, fun k j _ _ => a2 _ _ _ (Wwf_ok (by omega))⟩
theorem AR.mxx (h : AR S R m) : AR (mx T S) (mx T R) m := by
  obtain ⟨a1, a2, a3, ⟨a4, a5, a6, a7, a8, a9, a10, a11, a12, a13, a14, a15⟩, a16, a17⟩ := h
  have en : nq (mx T S) = nq S := by unfold nq; rw [mx_hi (by decide)]
  have g : ∀ (X : fS) (a i j : Nat), 40 ≤ a → ge (mx T X) a i j = ge X a i j := fun X a i j q => mx_hi q
  refine ⟨fun t ht => ?_, fun c k hc hk => by rw [g R 53 c k (by decide), g S 53 c k (by decide)]; exact a2 c k hc hk, fun c hc => by rw [g R 54 0 c (by decide), g S 54 0 c (by decide)]; exact a3 c hc, ⟨?_, ?_, ?_, ?_, ?_, ?_, ?_, ?_, ?_, ?_, ?_, ?_⟩, by rw [g R 40 0 13 (by decide), g S 40 0 13 (by decide)]; exact a16, fun k j hk hj => by rw [g R 57 k j (by decide), g S 57 k j (by decide)]; exact a17 k j hk hj⟩
  · rw [en] at ht
    rw [g R 46 0 t (by decide), g R 47 0 t (by decide), g R 48 0 t (by decide), g R 49 0 t (by decide), g R 50 0 t (by decide), g R 51 0 t (by decide), g S 46 0 t (by decide), g S 47 0 t (by decide), g S 48 0 t (by decide), g S 49 0 t (by decide), g S 50 0 t (by decide), g S 51 0 t (by decide)]
    exact a1 t ht
  all_goals rw [g R 40 0 _ (by decide), g S 40 0 _ (by decide)]
  all_goals assumption
theorem KR.rs (K : KR (mx T S)) (R0 : RI S) (h : AR S R 0) (hP : PGq (mx T R)) : KR (mx T R) := by
  refine K.cg R0.nqR h.mxx (fun j _ _ _ => ?_) ?_ (fun x j h1 h2 _ => ?_) (fun j _ => ?_) hP ?_
  · rw [mx_lo (by decide), mx_lo (by decide)]
  · rw [mx_lo (by decide), mx_lo (by decide)]
  · rw [mx_lo (by omega), mx_lo (by omega)]
  · rw [mx_lo (by decide), mx_lo (by decide)]
  · rw [mx_lo (by decide), mx_lo (by decide)]
theorem PG_mx (hP : PGq (mx T S)) (e13 : ge R 40 0 13 = ge S 40 0 13) (e14 : ge R 40 0 14 = ge S 40 0 14) (e44 : ∀ t : Nat, ge R 44 0 t = ge S 44 0 t) (e43 : ∀ t k : Nat, ge R 43 t k = ge S 43 t k) : PGq (mx T R) := by
  obtain ⟨⟨m, m6, p5, p13, pg⟩, ⟨l, l3, p7, p14, lg⟩⟩ := hP
  have eb : ∀ t : Nat, btx (mx T R) t = btx (mx T S) t := fun t => funext fun k => by
    unfold btx
    rw [mx_hi (by decide), mx_hi (by decide), mx_hi (by decide), mx_hi (by decide), e44, e43]
  have lo : ∀ a i j : Nat, a < 40 → ge (mx T R) a i j = ge (mx T S) a i j := fun a i j h => by rw [mx_lo h, mx_lo h]
  refine ⟨⟨m, m6, by rw [lo 0 0 5 (by decide)]; exact p5, by rw [mx_hi (by decide)] at p13 ⊢; rw [e13]; exact p13, fun t ht => ?_⟩, ⟨l, l3, by rw [lo 0 0 7 (by decide)]; exact p7, by rw [mx_hi (by decide)] at p14 ⊢; rw [e14]; exact p14, fun t ht => ?_⟩⟩
  · obtain ⟨c, gc, P, hc, hE⟩ := pg t ht
    exact ⟨c, gc, P, ⟨hc.1, hc.2.1, fun k hk => by rw [lo 30 c k (by decide)]; exact hc.2.2 k hk⟩, by rw [eb]; exact hE⟩
  · obtain ⟨c, gc, P, hc, hE⟩ := lg t ht
    exact ⟨c, gc, P, ⟨hc.1, hc.2.1, fun k hk => by rw [lo 30 c k (by decide)]; exact hc.2.2 k hk⟩, by rw [eb]; exact hE⟩
theorem KR.eq (K : KR (mx T S)) (R0 : RI S) (E : EQw S R) : KR (mx T R) := by
  have n24 : nq S ≤ 24 := (R0 40 0 21).2
  exact K.rs R0 (E.ar n24) (PG_mx K.2.2.2.2.1 (E.2.1 40 0 13 (Wwf_40 rfl)) (E.2.1 40 0 14 (Wwf_40 rfl)) (fun t => E.2.1 _ _ _ (Wwf_ok (by omega))) (fun t k => E.2.1 _ _ _ (Wwf_ok (by omega))))
/-- what a step of the chain does -/
def STK (st : fS → fS → Prop) (p : Int32) : Prop := ∀ U V R : fS, st U V → KR (mx U R) → RI R → CEl U V ∧ pk (F_X7_triesAt p 0 R) (fun _ R' => KR (mx V R') ∧ FX Wts R R')
theorem q_worthOf (hK : STK st p1) (hd : ∀ U V V' : fS, st U V → st U V' → V = V') (RS : RI S) (HS : HI S) (K0 : KR (mx T1 S)) (hp1 : p1.toInt = (c1 : Int)) (hc1 : c1 < 64) (hp2 : p2.toInt = (c2 : Int)) (hc2 : c2 < 64) (h3 : p3.toInt = (N : Int) + 1) (g : GH st N T1 V) (ew : F_X6_worthOnCopy p2 V = some (w, V')) : pk (F_X7_worthOf p1 p2 p3 S) (fun v R => v = w ∧ EQw S R ∧ CEl T1 V') := by
  have l1 : (1 : Int32).toInt = 1 := by decide
  have li3 : (3 : Int32).toInt = 3 := by decide
  have b3 := ti_bd p3
  unfold F_X7_worthOf
  refine pq_bd (pq_and (h7_lays3 S RS HS).pk (q_lays (k0 := 3) RS li3 (by omega))) (fun _ R0 q => ?_)
  obtain ⟨⟨R0', _, H0, _⟩, _, F0, la, ot, c35, c36, c37, c38⟩ := q
  have F0m : FX Wly (mx T1 S) (mx T1 R0) := mx_FX F0
  have K1 : KR (mx T1 R0) := by
    refine K0.rs RS (AR.fx F0 (fun a j h1 h2 => Wly_out (by omega)) (fun _ _ => rfl) (fun _ _ => rfl) (fun _ _ => rfl)) ?_
    exact K0.2.2.2.2.1.fx F0m rfl rfl rfl rfl (fun _ => rfl) (fun _ _ => rfl) (fun _ _ => rfl)
  refine pq_lp (fun (y : Int32 × Int32 × Int32 × Int32) R => y.1 = p1 ∧ y.2.1 = p2 ∧ y.2.2.1 = p3 ∧ RI R ∧ HI R ∧ FX Wts R0 R ∧ ∃ (n : Nat) (U : fS), y.2.2.2.toInt = (n : Int) + 1 ∧ n ≤ N ∧ GH st n T1 U ∧ KR (mx U R) ∧ CEl T1 U) (fun _ _ (v : Int32) R => v = w ∧ EQw S R ∧ CEl T1 V') ?_ fuel (p1, p2, p3, 1) R0 ⟨rfl, rfl, rfl, R0', H0, FX.rf, 0, T1, l1, by omega, rfl, K1, CEl.rf⟩
  intro k hk y R hy
  obtain ⟨a1, a2, a3, a4⟩ := y
  obtain ⟨f1, f2, f3, RR, HR, FR, n, U, i1, i2, gU, KU, CU⟩ := hy
  dsimp only at f1 f2 f3 i1
  subst f1
  subst f2
  subst f3
  unfold B_X7_worthOf_8
  dsimp only
  refine pq_le (fun c => ?_) (fun c => ?_)
  · have en : n = N := by omega
    rw [en] at gU
    have eU := GH.un hd gU g
    rw [eU] at KU CU
    obtain ⟨FW, kw⟩ := k_worth KU RR.nqR RR hp2 hc2 ew
    refine pq_bd (pq_and (s_F_X7_triesAt a2 0 R RR HR ⟨by omega, by omega⟩).pk kw) (fun _ S3 q => ?_)
    obtain ⟨⟨R3, _, H3, _⟩, ev, F3⟩ := q
    refine pq_iv fun x5 e5 => pq_iv fun x6 e6 => pq_iv fun x7 e7 => ?_
    refine pq_bd (q_laysBack (k0 := 3) R3 li3 (by omega)) (fun _ W q => pq_some ⟨by rw [e7, e5, e6, ev], ?_, CU.tr (CEl.mxx (FW.sub sc_tc))⟩)
    obtain ⟨_, FB, bk, d35, d36, d37, d38⟩ := q
    have G3 : FX Wts R0 S3 := FR.tr F3
    have r61 : ∀ r j : Nat, ge S3 61 r j = ge R0 61 r j := fun r j => G3.1 61 r j (Wts_hi (by omega))
    have r63 : ∀ r j : Nat, ge S3 63 r j = ge R0 63 r j := fun r j => G3.1 63 r j (Wts_hi (by omega))
    have r65 : ∀ r j : Nat, ge S3 65 r j = ge R0 65 r j := fun r j => G3.1 65 r j (Wts_hi (by omega))
    have r67 : ∀ r j : Nat, ge S3 67 r j = ge R0 67 r j := fun r j => G3.1 67 r j (Wts_hi (by omega))
    refine ⟨FB.2.trans (G3.2.trans F0.2), fun a i j h => ?_, fun c k hc hk => by rw [bk.1 c k hc hk, r61, la.1 c k hc hk], fun c hc => by rw [bk.2.1 c hc, r63, la.2.1 c hc], fun t ht => by rw [bk.2.2 t ht, r65, la.2.2 t ht], ⟨by rw [d35, r67, c35], by rw [d36, r67, c36], by rw [d37, r67, c37], by rw [d38, r67, c38]⟩, fun r j hr => by rw [FB.1 61 r j rfl, r61, ot.1 r j (by omega)], fun k j hk => by rw [FB.1 63 k j rfl, r63, ot.2.1 k j (by omega)], fun k j hk => by rw [FB.1 65 k j rfl, r65, ot.2.2.1 k j (by omega)], fun k j hk => by rw [FB.1 67 k j rfl, r67, ot.2.2.2.1 k j (by omega)]⟩
    have h1 := (Bool.or_eq_false_iff.1 h).1
    have h2 := (Bool.or_eq_false_iff.1 h).2
    rw [FB.1 a i j (Wlb_ts a i j h1), G3.1 a i j h1, F0.1 a i j h2]
  · have nN : n < N := by omega
    obtain ⟨U2, V2, g2, s2⟩ := GH.pre g nN
    have eU := GH.un hd gU g2
    rw [← eU] at s2
    obtain ⟨ce, ks⟩ := hK U V2 R s2 KU RR
    refine pq_bd (pq_and (s_F_X7_triesAt a1 0 R RR HR ⟨by omega, by omega⟩).pk ks) (fun _ S3 q => ?_)
    obtain ⟨⟨R3, _, H3, _⟩, K3', F3⟩ := q
    refine pq_iv fun x14 e14 => ?_
    have g14 : x14.toInt = a4.toInt + 1 := by rw [e14]; exact ti_inc (by omega)
    exact hk (a1, a2, a3, x14) S3 ⟨rfl, rfl, rfl, R3, H3, FR.tr F3, n + 1, V2, by dsimp only; omega, by omega, ⟨U, gU, s2⟩, K3', CU.tr ce⟩
end WOR
