/-! feed -/
theorem ush8 (x : BitVec 32) (s : Nat) (hs : s ≤ 24) : (x >>> s) &&& 255#32 = (x.sshiftRight s) &&& 255#32 := by
  apply BitVec.eq_of_getLsbD_eq
  intro i hi
  rw [BitVec.getLsbD_and, BitVec.getLsbD_and, BitVec.getLsbD_ushiftRight, BitVec.getLsbD_sshiftRight]
  by_cases c : s + i < 32
  · rw [if_pos c, decide_eq_false (by omega : ¬ 32 ≤ i)]
    rfl
  · have e : (255#32).getLsbD i = false := by
      show Nat.testBit 255 i = false
      exact Nat.testBit_lt_two_pow (Nat.lt_of_lt_of_le (by decide : 255 < 2 ^ 8) (Nat.pow_le_pow_right (by decide) (by omega)))
    rw [e, Bool.and_false, Bool.and_false]
/-- byte j of a number -/
def byt (a : Int32) (j : Nat) : Int32 := if j = 0 then a >>> ((24 : Int32) &&& 31) &&& (255 : Int32) else if j = 1 then a >>> ((16 : Int32) &&& 31) &&& (255 : Int32) else if j = 2 then a >>> ((8 : Int32) &&& 31) &&& (255 : Int32) else a >>> ((0 : Int32) &&& 31) &&& (255 : Int32)
theorem byt_u (a : Int32) {j : Nat} {x : Int32} (hj : j < 4) (hx : x.toInt = 24 - 8 * (j : Int)) : (a.toUInt32 >>> (x.toUInt32 &&& Int32.toUInt32 31)).toInt32 &&& (255 : Int32) = byt a j := by
  have l24 : (24 : Int32).toInt = 24 := by decide
  have l16 : (16 : Int32).toInt = 16 := by decide
  have l8 : (8 : Int32).toInt = 8 := by decide
  have l0 : (0 : Int32).toInt = 0 := by decide
  have : j = 0 ∨ j = 1 ∨ j = 2 ∨ j = 3 := by omega
  unfold byt
  rcases this with rfl | rfl | rfl | rfl
  · have e : x = 24 := of_toInt (by rw [hx, l24]; rfl)
    rw [if_pos rfl, e]
    apply Int32.toBitVec.inj
    show (a.toBitVec >>> 24) &&& 255#32 = (a.toBitVec.sshiftRight 24) &&& 255#32
    exact ush8 _ 24 (by decide)
  · have e : x = 16 := of_toInt (by rw [hx, l16]; rfl)
    rw [if_neg (by decide), if_pos rfl, e]
    apply Int32.toBitVec.inj
    show (a.toBitVec >>> 16) &&& 255#32 = (a.toBitVec.sshiftRight 16) &&& 255#32
    exact ush8 _ 16 (by decide)
  · have e : x = 8 := of_toInt (by rw [hx, l8]; rfl)
    rw [if_neg (by decide), if_neg (by decide), if_pos rfl, e]
    apply Int32.toBitVec.inj
    show (a.toBitVec >>> 8) &&& 255#32 = (a.toBitVec.sshiftRight 8) &&& 255#32
    exact ush8 _ 8 (by decide)
  · have e : x = 0 := of_toInt (by rw [hx, l0]; rfl)
    rw [if_neg (by decide), if_neg (by decide), if_neg (by decide), e]
    apply Int32.toBitVec.inj
    show (a.toBitVec >>> 0) &&& 255#32 = (a.toBitVec.sshiftRight 0) &&& 255#32
    exact ush8 _ 0 (by decide)
theorem byt_s (a : Int32) {j : Nat} {x : Int32} (hj : j < 4) (hx : x.toInt = 24 - 8 * (j : Int)) : a >>> (x &&& 31) &&& (255 : Int32) = byt a j := by
  have l24 : (24 : Int32).toInt = 24 := by decide
  have l16 : (16 : Int32).toInt = 16 := by decide
  have l8 : (8 : Int32).toInt = 8 := by decide
  have l0 : (0 : Int32).toInt = 0 := by decide
  have : j = 0 ∨ j = 1 ∨ j = 2 ∨ j = 3 := by omega
  unfold byt
  rcases this with rfl | rfl | rfl | rfl
  · rw [if_pos rfl, show x = 24 from of_toInt (by rw [hx, l24]; rfl)]
  · rw [if_neg (by decide), if_pos rfl, show x = 16 from of_toInt (by rw [hx, l16]; rfl)]
  · rw [if_neg (by decide), if_neg (by decide), if_pos rfl, show x = 8 from of_toInt (by rw [hx, l8]; rfl)]
  · rw [if_neg (by decide), if_neg (by decide), if_neg (by decide), show x = 0 from of_toInt (by rw [hx, l0]; rfl)]
section FED
variable {S : fS} {p p2 p3 p4 p5 : Int32}
/-- the class's tape grows by l bytes b -/
def TG (S T : fS) (n l : Nat) (b : Nat → Int32) : Prop := FX WO S T ∧ SRq S T ∧ ge T 0 0 9 = ge S 0 0 9 ∧ (∀ u : Nat, ge T 15 0 u = ge S 15 0 u) ∧ (ge T 0 0 11).toInt = ((n + l : Nat) : Int) ∧ (∀ u : Nat, u < n → ge T 16 0 u = ge S 16 0 u) ∧ ∀ u : Nat, u < l → ge T 16 0 (n + u) = b u
theorem y_writeBytes {V : fS} {n l : Nat} {b : Nat → Int32} (h : TG S V n l b) (hn : n + l + 4 ≤ 300) : pk (F_X6_writeBytes p V) (fun _ T => TG S T n (l + 4) (fun u => if u < l then b u else byt p (u - l))) := by
  have l0 : (0 : Int32).toInt = 0 := by decide
  have l1 : (1 : Int32).toInt = 1 := by decide
  have l24 : (24 : Int32).toInt = 24 := by decide
  have l300 : (300 : Int32).toInt = 300 := by decide
  have lm8 : (Int32.ofInt (-8)).toInt = -8 := by decide
  unfold F_X6_writeBytes
  refine pq_lp (fun (y : Int32 × Int32) T => y.1 = p ∧ ∃ i : Nat, y.2.toInt = 24 - 8 * (i : Int) ∧ i ≤ 4 ∧ TG S T n (l + i) (fun u => if u < l then b u else byt p (u - l))) (fun _ _ _ T => TG S T n (l + 4) (fun u => if u < l then b u else byt p (u - l))) ?_ fuel (p, 24) V ⟨rfl, 0, by dsimp only; rw [l24]; rfl, by omega, ?_⟩
  · intro k hk y T hy
    obtain ⟨y1, y2⟩ := y
    obtain ⟨rfl, i, i1, i2, F, s, k9, k15, k11, kl, kn⟩ := hy
    dsimp only at i1
    unfold B_X6_writeBytes_3
    refine pq_lt (fun c => pq_some ?_) (fun c => ?_)
    · rw [show i = 4 by omega] at k11 kn
      exact ⟨F, s, k9, k15, k11, kl, kn⟩
    · rw [l0] at c
      refine pq_iv fun x3 e3 => pq_le (fun c3 => absurd c3 (by rw [e3, k11, l300]; omega)) (fun _ => ?_)
      refine pq_iv fun x5 e5 => pq_iv fun x6 e6 => pq_iv fun x7 e7 => pq_gd fun _ => pq_sv fun S9 E9 => pq_iv fun x10 e10 => pq_iv fun x11 e11 => pq_sv fun S12 E12 => ?_
      have g5 : x5.toInt = ((n + (l + i) : Nat) : Int) := by rw [e5, k11]
      rw [cnNq g5] at E9
      have g10 : x10.toInt = ((n + (l + i) : Nat) : Int) := by rw [e10, E9, ge_pua (by decide), k11]
      have g11 : x11.toInt = ((n + (l + i) : Nat) : Int) + 1 := by rw [e11, ti_add (by rw [g10, l1]; omega) (by rw [g10, l1]; omega), g10, l1]
      have g7 : x7 = byt y1 i := by rw [e7, e6]; exact byt_u y1 (by omega) i1
      unfold B_X6_writeBytes_43
      refine pq_iv fun x1 e1 => ?_
      have g1 : x1.toInt = 24 - 8 * ((i + 1 : Nat) : Int) := by rw [e1, ti_add (by rw [lm8]; omega) (by rw [lm8]; omega), lm8, i1]; omega
      have k : ∀ a j : Nat, ¬ (a = 16 ∧ j = n + (l + i)) → ¬ (a = 0 ∧ j = 11) → ge S12 a 0 j = ge T a 0 j := fun a j h1 h2 => by
        rw [E12, ge_pu, if_neg (fun q => h2 ⟨q.1, q.2.2⟩), E9, ge_pu, if_neg (fun q => h1 ⟨q.1, q.2.2⟩)]
      have a11 : ge S12 0 0 11 = x11 := by rw [E12, ge_pus]
      have a16 : ge S12 16 0 (n + (l + i)) = byt y1 i := by rw [E12, ge_pua (by decide), E9, ge_pus, g7]
      refine hk (y1, x1) S12 ⟨rfl, i + 1, g1, by omega, ?_, fun a i' j ha => ?_, ?_, fun u => ?_, ?_, fun u hu => ?_, fun u hu => ?_⟩
      · rw [E12]
        have f : FX WO S S9 := by rw [E9]; exact F.wr rfl
        exact f.wr rfl
      · rw [E12, ge_pua (by omega), E9, ge_pua (by omega)]
        exact s a i' j ha
      · rw [k 0 9 (by omega) (by omega)]; exact k9
      · rw [k 15 u (by omega) (by omega)]; exact k15 u
      · rw [a11, g11]; omega
      · rw [k 16 u (by omega) (by omega)]; exact kl u hu
      · by_cases d : u = l + i
        · rw [d, a16]
          show _ = if l + i < l then b (l + i) else byt y1 (l + i - l)
          rw [if_neg (by omega), show l + i - l = i by omega]
        · rw [k 16 (n + u) (by omega) (by omega)]
          exact kn u (by omega)
  · obtain ⟨F, s, k9, k15, k11, kl, kn⟩ := h
    refine ⟨F, s, k9, k15, k11, kl, fun u hu => ?_⟩
    rw [kn u hu]
    show b u = if u < l then b u else byt p (u - l)
    rw [if_pos (by omega)]
/-- the twenty bytes -/
def fby (p p2 p3 p4 p5 : Int32) (u : Nat) : Int32 := byt (if u < 4 then p else if u < 8 then p2 else if u < 12 then p3 else if u < 16 then p4 else p5) (u % 4)
theorem q_feed {T1 : fS} {n : Nat} (z1 : ge T1 40 0 0 = 0) (hn : (ge T1 40 0 1).toInt = (n : Int)) (h20 : n + 20 ≤ 300) : pk (lp B_X7_feed_23 fuel (p, p2, p3, p4, p5, 0) T1) (fun v T => FX WO T1 T ∧ (∀ a i j : Nat, a < 40 → ge T a i j = ge T1 a i j) ∧ ge T 40 0 0 = 0 ∧ ge T 40 0 48 = ge T1 40 0 48 ∧ (∀ k j : Nat, ge T 59 k j = ge T1 59 k j) ∧ (ge T 40 0 1).toInt = ((n + 20 : Nat) : Int) ∧ v = ge T 40 0 1 ∧ (∀ u : Nat, u < n → ge T 41 0 u = ge T1 41 0 u) ∧ ∀ u : Nat, u < 20 → ge T 41 0 (n + u) = fby p p2 p3 p4 p5 u) := by
  have l0 : (0 : Int32).toInt = 0 := by decide
  have l1 : (1 : Int32).toInt = 1 := by decide
  have l4 : (4 : Int32).toInt = 4 := by decide
  have l8 : (8 : Int32).toInt = 8 := by decide
  have l12 : (12 : Int32).toInt = 12 := by decide
  have l16 : (16 : Int32).toInt = 16 := by decide
  have l20 : (20 : Int32).toInt = 20 := by decide
  have l24 : (24 : Int32).toInt = 24 := by decide
  refine pq_lp (fun (y : Int32 × Int32 × Int32 × Int32 × Int32 × Int32) T => (y.1 = p ∧ y.2.1 = p2 ∧ y.2.2.1 = p3 ∧ y.2.2.2.1 = p4 ∧ y.2.2.2.2.1 = p5) ∧ ∃ i : Nat, y.2.2.2.2.2.toInt = (i : Int) ∧ i ≤ 20 ∧ FX WO T1 T ∧ (∀ a i j : Nat, a < 40 → ge T a i j = ge T1 a i j) ∧ ge T 40 0 0 = 0 ∧ ge T 40 0 48 = ge T1 40 0 48 ∧ (∀ k j : Nat, ge T 59 k j = ge T1 59 k j) ∧ (ge T 40 0 1).toInt = ((n + i : Nat) : Int) ∧ (∀ u : Nat, u < n → ge T 41 0 u = ge T1 41 0 u) ∧ ∀ u : Nat, u < i → ge T 41 0 (n + u) = fby p p2 p3 p4 p5 u) (fun _ _ (v : Int32) T => FX WO T1 T ∧ (∀ a i j : Nat, a < 40 → ge T a i j = ge T1 a i j) ∧ ge T 40 0 0 = 0 ∧ ge T 40 0 48 = ge T1 40 0 48 ∧ (∀ k j : Nat, ge T 59 k j = ge T1 59 k j) ∧ (ge T 40 0 1).toInt = ((n + 20 : Nat) : Int) ∧ v = ge T 40 0 1 ∧ (∀ u : Nat, u < n → ge T 41 0 u = ge T1 41 0 u) ∧ ∀ u : Nat, u < 20 → ge T 41 0 (n + u) = fby p p2 p3 p4 p5 u) ?_ fuel (p, p2, p3, p4, p5, 0) T1 ⟨⟨rfl, rfl, rfl, rfl, rfl⟩, 0, l0, by omega, FX.rf, fun _ _ _ _ => rfl, z1, rfl, fun _ _ => rfl, hn, fun _ _ => rfl, fun u hu => absurd hu (Nat.not_lt_zero _)⟩
  intro k hk y T hy
  obtain ⟨y1, y2, y3, y4, y5, y6⟩ := y
  obtain ⟨⟨d1, d2, d3, d4, d5⟩, i, i1, i2, F, lo, k0, k48, k59, k1, kl, kn⟩ := hy
  dsimp only at d1 d2 d3 d4 d5 i1
  rw [d1, d2, d3, d4, d5]
  unfold B_X7_feed_23
  refine pq_le (fun c => pq_iv fun x e => pq_some ?_) (fun c => ?_)
  · rw [show i = 20 by omega] at k1 kn
    exact ⟨F, lo, k0, k48, k59, k1, e, kl, kn⟩
  · have go : ∀ w : Int32, byt w (i % 4) = fby p p2 p3 p4 p5 i → pk (B_X7_feed_76 k p p2 p3 p4 p5 y6 w T) (fun (v : Int32) T => FX WO T1 T ∧ (∀ a i j : Nat, a < 40 → ge T a i j = ge T1 a i j) ∧ ge T 40 0 0 = 0 ∧ ge T 40 0 48 = ge T1 40 0 48 ∧ (∀ k j : Nat, ge T 59 k j = ge T1 59 k j) ∧ (ge T 40 0 1).toInt = ((n + 20 : Nat) : Int) ∧ v = ge T 40 0 1 ∧ (∀ u : Nat, u < n → ge T 41 0 u = ge T1 41 0 u) ∧ ∀ u : Nat, u < 20 → ge T 41 0 (n + u) = fby p p2 p3 p4 p5 u) := by
      intro w hw
      unfold B_X7_feed_76
      refine pq_iv fun x1 e1 => pq_iv fun x2 e2 => pq_iv fun x3 e3 => pq_iv fun x4 e4 => pq_iv fun x5 e5 => pq_iv fun x6 e6 => pq_gd fun _ => pq_sv fun S8 E8 => pq_iv fun x9 e9 => pq_iv fun x10 e10 => pq_sv fun S11 E11 => pq_iv fun x12 e12 => ?_
      have g1 : x1.toInt = ((n + i : Nat) : Int) := by rw [e1, k1]
      have g2 : x2.toInt = ((i % 4 : Nat) : Int) := by
        have q : (y6 / 4).toInt = (i : Int) / 4 := by rw [ti_dv (by omega) (by omega), i1, l4]
        have m : (y6 / 4 * 4).toInt = (i : Int) / 4 * 4 := by
          have := ti_mul (a := y6 / 4) (b := 4) (by rw [q, l4]; omega) (by rw [q, l4]; omega)
          rw [this, q, l4]
        rw [e2, ti_sub (by rw [m, i1]; omega) (by rw [m, i1]; omega), m, i1]
        omega
      have g3 : x3.toInt = 8 * ((i % 4 : Nat) : Int) := by
        have := ti_mul (a := 8) (b := x2) (by rw [g2, l8]; omega) (by rw [g2, l8]; omega)
        rw [e3, this, g2, l8]
      have g4 : x4.toInt = 24 - 8 * ((i % 4 : Nat) : Int) := by rw [e4, ti_sub (by rw [g3, l24]; omega) (by rw [g3, l24]; omega), g3, l24]
      have g6 : x6 = byt w (i % 4) := by rw [e6, e5]; exact byt_s w (by omega) g4
      rw [cnNq g1] at E8
      have g9 : x9.toInt = ((n + i : Nat) : Int) := by rw [e9, E8, ge_pua (by decide), k1]
      have g10 : x10.toInt = ((n + i : Nat) : Int) + 1 := by rw [e10, ti_add (by rw [g9, l1]; omega) (by rw [g9, l1]; omega), g9, l1]
      have kk : ∀ a i' j : Nat, ¬ (a = 41 ∧ j = n + i) → ¬ (a = 40 ∧ j = 1) → ge S11 a i' j = ge T a i' j := fun a i' j h1 h2 => by
        rw [E11, ge_pu, if_neg (fun q => h2 ⟨q.1, q.2.2⟩), E8, ge_pu, if_neg (fun q => h1 ⟨q.1, q.2.2⟩)]
      refine hk (p, p2, p3, p4, p5, x12) S11 ⟨⟨rfl, rfl, rfl, rfl, rfl⟩, i + 1, by dsimp only; rw [e12, ti_inc (by omega), i1]; omega, by omega, ?_, fun a i' j ha => ?_, ?_, ?_, fun x j => ?_, ?_, fun u hu => ?_, fun u hu => ?_⟩
      · have f : FX WO T1 S8 := by rw [E8]; exact F.wr rfl
        rw [E11]
        exact f.wr rfl
      · rw [kk a i' j (by omega) (by omega)]; exact lo a i' j ha
      · rw [kk 40 0 0 (by omega) (by omega)]; exact k0
      · rw [kk 40 0 48 (by omega) (by omega)]; exact k48
      · rw [kk 59 x j (by omega) (by omega)]; exact k59 x j
      · rw [E11, ge_pus, g10]; omega
      · rw [kk 41 0 u (by omega) (by omega)]; exact kl u hu
      · by_cases d : u = i
        · rw [d, E11, ge_pua (by decide), E8, ge_pus, g6]
          exact hw
        · rw [kk 41 0 (n + u) (by omega) (by omega)]
          exact kn u (by omega)
    unfold fby at go
    refine pq_le (fun c4 => pq_le (fun c8 => pq_le (fun c12 => pq_le (fun c16 => go p5 ?_) (fun c16 => go p4 ?_)) (fun c12 => go p3 ?_)) (fun c8 => go p2 ?_)) (fun c4 => go p ?_)
    · rw [if_neg (by omega), if_neg (by omega), if_neg (by omega), if_neg (by omega)]
    · rw [if_neg (by omega), if_neg (by omega), if_neg (by omega), if_pos (by omega)]
    · rw [if_neg (by omega), if_neg (by omega), if_pos (by omega)]
    · rw [if_neg (by omega), if_pos (by omega)]
    · rw [if_pos (by omega)]
theorem rk_feed (h : IV S) (z : ge S 40 0 0 = 0) : RK0 (F_X6_feed p p2 p3 p4 p5 S) (F_X7_feed p p2 p3 p4 p5) := by
  have l20 : (20 : Int32).toInt = 20 := by decide
  have l300 : (300 : Int32).toInt = 300 := by decide
  obtain ⟨ha, ht, hi⟩ := h.2.2.2
  have hH := ha.2.2.2.2.2.2.2.2.2
  obtain ⟨t1, t2⟩ := ht
  have b1 : 0 ≤ (ge S 40 0 1).toInt ∧ (ge S 40 0 1).toInt ≤ 300 := h.1 40 0 1
  obtain ⟨n, hn⟩ : ∃ n : Nat, (ge S 40 0 1).toInt = (n : Int) := ⟨(ge S 40 0 1).toInt.toNat, by omega⟩
  have hn6 : (ge S 0 0 11).toInt = (n : Int) := by rw [t1, hn]
  unfold RK0 F_X6_feed
  refine pq_iv fun x1 e1 => pq_iv fun x2 e2 => ?_
  have g2 : x2.toInt = (n : Int) + 20 := by rw [e2, e1, ti_add (by rw [hn6, l20]; omega) (by rw [hn6, l20]; omega), hn6, l20]
  refine pq_le (fun c => ?_) (fun c => pq_some ?_)
  · rw [g2, l300] at c
    have T0 : TG S S n 0 (fun _ => 0) := ⟨FX.rf, SRq.rf, rfl, fun _ => rfl, hn6, fun _ _ => rfl, fun u hu => absurd hu (Nat.not_lt_zero _)⟩
    refine pq_bd (y_writeBytes T0 (by omega)) (fun _ V1 A1 => pq_bd (y_writeBytes A1 (by omega)) (fun _ V2 A2 => pq_bd (y_writeBytes A2 (by omega)) (fun _ V3 A3 => pq_bd (y_writeBytes A3 (by omega)) (fun _ V4 A4 => pq_bd (y_writeBytes A4 (by omega)) (fun _ T1 A5 => ?_)))))
    obtain ⟨F1, s1, k9, k15, k11, kl, kn⟩ := A5
    have kb : ∀ u : Nat, u < 20 → ge T1 16 0 (n + u) = fby p p2 p3 p4 p5 u := fun u hu => by
      refine (kn u (by omega)).trans ?_
      dsimp only
      unfold fby
      by_cases q1 : u < 4
      · rw [if_pos (by omega), if_pos (by omega), if_pos (by omega), if_pos (by omega), if_neg (by omega), if_pos q1, show u - 0 = u % 4 by omega]
      by_cases q2 : u < 8
      · rw [if_pos (by omega), if_pos (by omega), if_pos (by omega), if_neg (by omega), if_neg q1, if_pos q2, show u - (0 + 4) = u % 4 by omega]
      by_cases q3 : u < 12
      · rw [if_pos (by omega), if_pos (by omega), if_neg (by omega), if_neg q1, if_neg q2, if_pos q3, show u - (0 + 4 + 4) = u % 4 by omega]
      by_cases q4 : u < 16
      · rw [if_pos (by omega), if_neg (by omega), if_neg q1, if_neg q2, if_neg q3, if_pos q4, show u - (0 + 4 + 4 + 4) = u % 4 by omega]
      rw [if_neg (by omega), if_neg q1, if_neg q2, if_neg q3, if_neg q4, show u - (0 + 4 + 4 + 4 + 4) = u % 4 by omega]
    refine pq_iv fun x19 e19 => pq_some ?_
    have z1 := RI_z z s1
    have n1 : (ge T1 40 0 1).toInt = (n : Int) := by rw [s1 40 0 1 (by decide)]; exact hn
    unfold F_X7_feed
    refine pg7_0 z1 (pq_iv fun y1 f1 => pq_iv fun y2 f2 => ?_)
    have g2' : y2.toInt = (n : Int) + 20 := by rw [f2, f1, ti_add (by rw [n1, l20]; omega) (by rw [n1, l20]; omega), n1, l20]
    refine pq_le (fun _ => ?_) (fun q => absurd q (by rw [g2', l300]; omega))
    refine pq_imp (q_feed z1 n1 (by omega)) (fun v2 T2 q => ?_)
    obtain ⟨F2, lo, k0, k48, k59, k1, ev, l41, n41⟩ := q
    have e11 : ge T2 0 0 11 = ge T2 40 0 1 := of_toInt (by rw [lo 0 0 11 (by decide), k11, k1])
    refine ⟨RLv.ot h.2.2.2 h.nq (F1.tr F2) ?_ ⟨e11, fun u hu => ?_⟩, ?_⟩
    · refine hH.mv ?_ ?_ (fun u => ?_) (fun u j => ?_)
      · rw [lo 0 0 9 (by decide), k9]
      · rw [k48, s1 40 0 48 (by decide)]
      · rw [lo 15 0 u (by decide), k15]
      · rw [k59, s1 59 u j (by decide)]
    · rw [e11, k1] at hu
      rw [lo 16 0 u (by decide)]
      by_cases d : u < n
      · rw [kl u d, l41 u d, s1 41 0 u (by decide)]
        exact t2 u (by omega)
      · have e : u = n + (u - n) := by omega
        rw [e, kb (u - n) (by omega), n41 (u - n) (by omega)]
    · rw [e19, ev, ← e11, lo 0 0 11 (by decide)]
  · unfold F_X7_feed
    refine pg7_0 z (pq_iv fun y1 f1 => pq_iv fun y2 f2 => ?_)
    have g2' : y2.toInt = (n : Int) + 20 := by rw [f2, f1, ti_add (by rw [hn, l20]; omega) (by rw [hn, l20]; omega), hn, l20]
    exact pq_le (fun q => absurd q (by rw [g2']; rw [g2] at c; omega)) (fun _ => pq_some ⟨h.2.2.2, rfl⟩)
end FED
