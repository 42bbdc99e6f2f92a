/-! how a try comes out, exactly, on both sides -/
/-- a try's way is measured: cell c, hole h, rising up -/
def TYq (S : fS) (r c h up : Nat) (W : Int32) : Prop := (ge S 25 r 0).toInt = (c : Int) ∧ (ge S 25 r 10).toInt = (h : Int) ∧ (ge S 25 r 11).toInt = (up : Int) ∧ (ge S 25 r 12).toInt = ab (dX c h) ∧ (ge S 25 r 13).toInt = (up : Int) + ab (dX c h) + ab (dY c h) ∧ ge S 25 r 14 = W ∧ c < 64 ∧ h < 64 ∧ c ≠ h ∧ up ≤ 9
def lst (c h up : Nat) : Nat := ((up : Int) + ab (dX c h) + ab (dY c h)).toNat
section JDG
variable {S T : fS} {r c h up st : Nat} {W g s p : Int32}
theorem ab_bd (c h : Nat) (hc : c < 64) (hh : h < 64) : 0 ≤ ab (dX c h) ∧ ab (dX c h) ≤ 7 ∧ 0 ≤ ab (dY c h) ∧ ab (dY c h) ≤ 7 := by
  unfold ab dX dY
  omega
theorem ab_pos (c h : Nat) (hc : c < 64) (hh : h < 64) (hne : c ≠ h) : 1 ≤ ab (dX c h) + ab (dY c h) := by
  unfold ab dX dY
  omega
theorem lst_bd (hc : c < 64) (hh : h < 64) (hne : c ≠ h) (hup : up ≤ 9) : (lst c h up : Int) = (up : Int) + ab (dX c h) + ab (dY c h) ∧ 1 ≤ lst c h up ∧ lst c h up ≤ 23 := by
  have a := ab_bd c h hc hh
  have b := ab_pos c h hc hh hne
  unfold lst
  omega
theorem ofN {k : Int32} {i : Nat} (h : k.toInt = (i : Int)) (hi : i ≤ 300) : k = Int32.ofNat i := of_toInt (by rw [h]; exact (nI_toInt (by omega)).symm)
theorem y_failingStep (hY : TYq S r c h up W) : pk (F_X5_failingStep r g s S) (fun v T => S = T ∧ ∃ st : Nat, v.toInt = (st : Int) ∧ FS g s W (lst c h up) st) := by
  have l0 : (0 : Int32).toInt = 0 := by decide
  obtain ⟨h0, h10, h11, h12, h13, h14, hc, hh, hne, hup⟩ := hY
  obtain ⟨l1, l2, l3⟩ := lst_bd hc hh hne hup
  unfold F_X5_failingStep
  refine pq_lp (fun (z : Int32 × Int32 × Int32) T => S = T ∧ z.1 = g ∧ z.2.1 = s ∧ ∃ k : Nat, z.2.2.toInt = (k : Int) ∧ k ≤ lst c h up ∧ ∀ i : Nat, i < k → ¬ lowF g s W i) (fun _ _ (v : Int32) T => S = T ∧ ∃ st : Nat, v.toInt = (st : Int) ∧ FS g s W (lst c h up) st) ?_ fuel (g, s, 0) S ⟨rfl, rfl, rfl, 0, l0, Nat.zero_le _, fun i hi => absurd hi (Nat.not_lt_zero _)⟩
  intro k hk z T hI
  obtain ⟨a1, a2, a3⟩ := z
  obtain ⟨rfl, e1, e2, i, i1, i2, i3⟩ := hI
  dsimp only at e1 e2 i1
  subst e1
  subst e2
  unfold B_X5_failingStep_2
  dsimp only
  refine pq_iv fun x1 e1 => ?_
  have g1 : x1.toInt = (lst c h up : Int) := by rw [e1, h13, l1]
  refine pq_le (fun c0 => ?_) (fun c0 => ?_)
  · refine pq_iv fun x3 e3 => pq_some ⟨rfl, lst c h up, by rw [e3, ← e1]; exact g1, Nat.le_refl _, fun j hj => i3 j (by omega), fun q => absurd q (Nat.lt_irrefl _)⟩
  · refine pq_iv fun x4 e4 => pq_iv fun x5 e5 => pq_iv fun x6 e6 => pq_iv fun x7 e7 => ?_
    have ex : x6 = a1 - a2 * Int32.ofNat i / 10 := by rw [e6, e5, e4, ofN i1 (by omega)]
    rw [h14] at e7
    refine pq_le (fun c1 => ?_) (fun c1 => ?_)
    · refine pq_iv fun x9 e9 => ?_
      have g9 : x9.toInt = a3.toInt + 1 := by rw [e9]; exact ti_inc (by omega)
      refine hk (a1, a2, x9) S ⟨rfl, rfl, rfl, i + 1, by dsimp only; omega, by omega, fun j hj => ?_⟩
      by_cases d : j = i
      · rw [d]
        intro q
        unfold lowF at q
        rw [← ex, ← e7] at q
        omega
      · exact i3 j (by omega)
    · refine pq_some ⟨rfl, i, i1, i2, i3, fun _ => ?_⟩
      unfold lowF
      rw [← ex, ← e7]
      exact c1
/-- the outcome at a step -/
def oAt (o : Int32) (st last up : Nat) : Int32 := if o = 0 ∨ o = 4 then o else ocm st last up
theorem y_outcomeAt (hY : TYq S r c h up W) (hp : p.toInt = (st : Int)) : pk (F_X5_outcomeAt r p S) (fun v T => S = T ∧ v = oAt (ge S 25 r 1) st (lst c h up) up) := by
  have l0 : (0 : Int32).toInt = 0 := by decide
  obtain ⟨h0, h10, h11, h12, h13, h14, hc, hh, hne, hup⟩ := hY
  obtain ⟨l1, l2, l3⟩ := lst_bd hc hh hne hup
  unfold F_X5_outcomeAt oAt
  refine pq_iv fun x2 e2 => ?_
  refine pq_bb (fun c0 => ?_) (fun c0 => ?_)
  · unfold B_X5_outcomeAt_15
    refine pq_iv fun x1 e1 => pq_some ⟨rfl, ?_⟩
    rw [← e2, if_pos (Or.inl c0), e1, e2]
  · refine pq_iv fun x4 e4 => ?_
    refine pq_bb (fun c1 => ?_) (fun c1 => ?_)
    · unfold B_X5_outcomeAt_15
      refine pq_iv fun x1 e1 => pq_some ⟨rfl, ?_⟩
      rw [← e4, if_pos (Or.inr c1), e1, e4]
    · rw [← e2, if_neg (fun q => q.elim c0 (fun q => c1 (by rw [e4, ← e2]; exact q)))]
      refine pq_iv fun x6 e6 => ?_
      have g6 : x6.toInt = (lst c h up : Int) := by rw [e6, h13, l1]
      unfold ocm
      refine pq_lt (fun c2 => ?_) (fun c2 => ?_)
      · rw [if_pos (by omega)]
        refine pq_eq (fun c3 => pq_some ⟨rfl, by rw [if_pos (by omega)]⟩) (fun c3 => ?_)
        rw [if_neg (by omega)]
        refine pq_iv fun x9 e9 => ?_
        have g9 : x9.toInt = (up : Int) := by rw [e9, h11]
        refine pq_lt (fun c4 => pq_some ⟨rfl, by rw [if_pos (by omega)]⟩) (fun c4 => pq_some ⟨rfl, by rw [if_neg (by omega)]⟩)
      · exact pq_some ⟨rfl, by rw [if_neg (by omega)]⟩
/-- where it falls -/
def lAt (o : Int32) (c h st last up : Nat) : Int := if oAt o st last up = 3 then lg c h (st - up) else -1
theorem ocm_3 {last : Nat} (h : ocm st last up = 3) : st < last ∧ up < st := by
  unfold ocm at h
  by_cases c1 : st < last
  · rw [if_pos c1] at h
    by_cases c2 : st = 0
    · rw [if_pos c2] at h
      exact absurd h (by decide)
    · rw [if_neg c2] at h
      by_cases c3 : up < st
      · exact ⟨c1, c3⟩
      · rw [if_neg c3] at h
        exact absurd h (by decide)
  · rw [if_neg c1] at h
    exact absurd h (by decide)
theorem sgm {d : Int} {v u : Int32} {n : Int} (hv : v.toInt = sgn d) (hu : u.toInt = n) (hn : 0 ≤ n ∧ n ≤ 300) : (v * u).toInt = sg3 d n := by
  have hs : sgn d = -1 ∨ sgn d = 0 ∨ sgn d = 1 := by unfold sgn; omega
  rcases hs with e | e | e
  · rw [e] at hv
    rw [ti_mul (by rw [hv, hu]; omega) (by rw [hv, hu]; omega), hv, hu]
    unfold sgn at e
    unfold sg3
    omega
  · rw [e] at hv
    rw [ti_mul (by rw [hv, hu]; omega) (by rw [hv, hu]; omega), hv, hu]
    unfold sgn at e
    unfold sg3
    omega
  · rw [e] at hv
    rw [ti_mul (by rw [hv, hu]; omega) (by rw [hv, hu]; omega), hv, hu]
    unfold sgn at e
    unfold sg3
    omega
theorem y_letGoAt (hY : TYq S r c h up W) (hp : p.toInt = (st : Int)) : pk (F_X5_letGoAt r p S) (fun v T => S = T ∧ v.toInt = lAt (ge S 25 r 1) c h st (lst c h up) up) := by
  have lm1 : (-1 : Int32).toInt = -1 := by decide
  have l8 : (8 : Int32).toInt = 8 := by decide
  have hY' := hY
  obtain ⟨h0, h10, h11, h12, h13, h14, hc, hh, hne, hup⟩ := hY
  obtain ⟨l1, l2, l3⟩ := lst_bd hc hh hne hup
  have abd := ab_bd c h hc hh
  unfold F_X5_letGoAt lAt
  refine pq_bd (y_outcomeAt hY' hp) (fun v1 T q => ?_)
  obtain ⟨rfl, q1⟩ := q
  rw [← q1]
  refine pq_bb (fun c0 => ?_) (fun c0 => pq_some ⟨rfl, by rw [if_neg c0]; exact lm1⟩)
  rw [if_pos c0]
  have o3 : st < lst c h up ∧ up < st := by
    rw [c0] at q1
    unfold oAt at q1
    by_cases d : ge S 25 r 1 = 0 ∨ ge S 25 r 1 = 4
    · rw [if_pos d] at q1
      rcases d with d | d <;> rw [d] at q1 <;> exact absurd q1 (by decide)
    · rw [if_neg d] at q1
      exact ocm_3 q1.symm
  have dxb : -7 ≤ dX c h ∧ dX c h ≤ 7 ∧ -7 ≤ dY c h ∧ dY c h ≤ 7 := by unfold dX dY; omega
  refine pq_iv fun x5 e5 => pq_iv fun x6 e6 => ?_
  have g6 : x6.toInt = ((st - up : Nat) : Int) := by rw [e6, e5, ti_sub (by omega) (by omega), h11, hp]; omega
  refine pq_iv fun x7 e7 => pq_iv fun x8 e8 => ?_
  have g7 : x7.toInt = ab (dX c h) := by rw [e7, h12]
  have g8 : x8.toInt = min ((st - up : Nat) : Int) (ab (dX c h)) := by
    have := zi_min e8
    omega
  refine pq_iv fun x9 e9 => pq_iv fun x10 e10 => ?_
  have g10 : x10.toInt = ((c % 8 : Nat) : Int) := by rw [e10]; exact md8 (by rw [e9, h0])
  refine pq_iv fun x11 e11 => pq_iv fun x12 e12 => ?_
  have g12 : x12.toInt = ((h % 8 : Nat) : Int) := by rw [e12]; exact md8 (by rw [e11, h10])
  refine pq_iv fun x13 e13 => pq_iv fun x14 e14 => ?_
  have g14 : x14.toInt = ((c % 8 : Nat) : Int) := by rw [e14]; exact md8 (by rw [e13, h0])
  refine pq_iv fun x15 e15 => ?_
  have g15 : x15.toInt = dX c h := by rw [e15, ti_sub (by omega) (by omega), g12, g14]; rfl
  refine pq_bd (y_signum g15 (by omega) (by omega)) (fun v16 T q => ?_)
  obtain ⟨rfl, q16⟩ := q
  refine pq_iv fun x19 e19 => ?_
  have g19 : x19.toInt = sg3 (dX c h) (min ((st - up : Nat) : Int) (ab (dX c h))) := by rw [e19]; exact sgm q16 g8 (by omega)
  have b19 : -7 ≤ x19.toInt ∧ x19.toInt ≤ 7 := by rw [g19]; unfold sg3; omega
  refine pq_iv fun x20 e20 => ?_
  have g20 : x20.toInt = x10.toInt + x19.toInt := by rw [e20]; exact ti_add (by omega) (by omega)
  refine pq_iv fun x21 e21 => pq_iv fun x22 e22 => ?_
  have g22 : x22.toInt = ((c / 8 : Nat) : Int) := by rw [e22]; exact dv8 (by rw [e21, h0])
  refine pq_iv fun x23 e23 => pq_iv fun x24 e24 => ?_
  have g24 : x24.toInt = ((h / 8 : Nat) : Int) := by rw [e24]; exact dv8 (by rw [e23, h10])
  refine pq_iv fun x25 e25 => pq_iv fun x26 e26 => ?_
  have g26 : x26.toInt = ((c / 8 : Nat) : Int) := by rw [e26]; exact dv8 (by rw [e25, h0])
  refine pq_iv fun x27 e27 => ?_
  have g27 : x27.toInt = dY c h := by rw [e27, ti_sub (by omega) (by omega), g24, g26]; rfl
  refine pq_bd (y_signum g27 (by omega) (by omega)) (fun v28 T q => ?_)
  obtain ⟨rfl, q28⟩ := q
  refine pq_iv fun x31 e31 => ?_
  have g31 : x31.toInt = ((st - up : Nat) : Int) - min ((st - up : Nat) : Int) (ab (dX c h)) := by rw [e31, ti_sub (by omega) (by omega), g6, g8]
  refine pq_iv fun x32 e32 => ?_
  have g32 : x32.toInt = sg3 (dY c h) (((st - up : Nat) : Int) - min ((st - up : Nat) : Int) (ab (dX c h))) := by rw [e32]; exact sgm q28 g31 (by omega)
  have b32 : -23 ≤ x32.toInt ∧ x32.toInt ≤ 23 := by rw [g32]; unfold sg3; omega
  refine pq_iv fun x33 e33 => ?_
  have g33 : x33.toInt = x22.toInt + x32.toInt := by rw [e33]; exact ti_add (by omega) (by omega)
  refine pq_iv fun x34 e34 => ?_
  have g34 : x34.toInt = 8 * x33.toInt := by rw [e34, ti_mul (by rw [l8]; omega) (by rw [l8]; omega), l8]
  refine pq_iv fun x35 e35 => pq_some ⟨rfl, ?_⟩
  rw [e35, ti_add (by omega) (by omega), g34, g33, g22, g32, g20, g10, g19]
  rfl
def Wc25 (r a i j : Nat) : Bool := (Nat.beq a 25 && (Nat.beq j 1 || Nat.beq j 2)) && Nat.beq i r
theorem TYq.fx {V : Nat → Nat → Nat → Bool} (hY : TYq S r c h up W) (F : FX V S T) (h0 : V 25 r 0 = false) (h10 : V 25 r 10 = false) (h11 : V 25 r 11 = false) (h12 : V 25 r 12 = false) (h13 : V 25 r 13 = false) (h14 : V 25 r 14 = false) : TYq T r c h up W := by
  unfold TYq
  rw [F.1 25 r 0 h0, F.1 25 r 10 h10, F.1 25 r 11 h11, F.1 25 r 12 h12, F.1 25 r 13 h13, F.1 25 r 14 h14]
  exact hY
/-- a try is carried out -/
theorem y_carry (hY : TYq S r c h up W) : pk (F_X5_carry r g s S) (fun _ T => FX (Wc25 r) S T ∧ ∃ st : Nat, FS g s W (lst c h up) st ∧ ge T 25 r 1 = oAt (ge S 25 r 1) st (lst c h up) up ∧ (ge T 25 r 2).toInt = lAt (ge S 25 r 1) c h st (lst c h up) up) := by
  unfold F_X5_carry
  refine pq_bd (y_failingStep hY) (fun v1 T q => ?_)
  obtain ⟨rfl, st, q1, q2⟩ := q
  refine pq_bd (y_letGoAt hY q1) (fun v4 T q => ?_)
  obtain ⟨rfl, q4⟩ := q
  refine pq_sv fun S7 E7 => ?_
  have F7 : FX (Wc25 r) S S7 := by rw [E7]; exact FX.rf.wr (Nat.beq_refl r)
  have o7 : ge S7 25 r 1 = ge S 25 r 1 := by rw [E7, ge_puj (by decide)]
  refine pq_bd (y_outcomeAt (hY.fx F7 rfl rfl rfl rfl rfl rfl) q1) (fun v8 T q => ?_)
  obtain ⟨rfl, q8⟩ := q
  rw [o7] at q8
  refine pq_sv fun S11 E11 => pq_some ⟨by rw [E11]; exact F7.wr (Nat.beq_refl r), st, q2, by rw [E11, ge_pus, q8], ?_⟩
  rw [E11, ge_puj (by decide), E7, ge_pus]
  exact q4
def W42 (a _ j : Nat) : Bool := Nat.beq a 40 && Nat.beq j 42
/-- the reference's judgement -/
theorem q_judged {x y u : Int32} (hx : x.toInt = (c : Int)) (hy : y.toInt = (h : Int)) (hu : u.toInt = (up : Int)) (hc : c < 64) (hh : h < 64) (hne : c ≠ h) (hup : up ≤ 9) (hF : FS g s W (lst c h up) st) : pk (F_X7_judged W u x y g s S) (fun v T => FX W42 S T ∧ v = ocm st (lst c h up) up ∧ (ge T 40 0 42).toInt = if v = 3 then lg c h (st - up) else -1) := by
  have l0 : (0 : Int32).toInt = 0 := by decide
  have lm1 : (-1 : Int32).toInt = -1 := by decide
  obtain ⟨l1, l2, l3⟩ := lst_bd hc hh hne hup
  have abd := ab_bd c h hc hh
  unfold F_X7_judged
  refine pq_iv fun x15 e15 => pq_iv fun x16 e16 => ?_
  refine pq_bd (q_apart (by rw [e15]; exact md8 hx) (by rw [e16]; exact md8 hy) (by omega) (by omega)) (fun v17 T q => ?_)
  obtain ⟨rfl, q17⟩ := q
  have q17 : v17.toInt = ab (dX c h) := q17
  refine pq_iv fun x20 e20 => ?_
  have g20 : x20.toInt = (up : Int) + ab (dX c h) := by rw [e20, ti_add (by omega) (by omega), hu, q17]
  refine pq_iv fun x21 e21 => pq_iv fun x22 e22 => ?_
  refine pq_bd (q_apart (by rw [e21]; exact dv8 hx) (by rw [e22]; exact dv8 hy) (by omega) (by omega)) (fun v23 T q => ?_)
  obtain ⟨rfl, q23⟩ := q
  have q23 : v23.toInt = ab (dY c h) := q23
  refine pq_iv fun x26 e26 => ?_
  have g26 : x26.toInt = (lst c h up : Int) := by rw [e26, ti_add (by omega) (by omega), g20, q23, l1]
  refine pq_sv fun S27 E27 => ?_
  have F27 : FX W42 S S27 := by rw [E27]; exact FX.rf.wr rfl
  have z42 : ge S27 40 0 42 = -1 := by rw [E27, ge_pus]
  refine pq_lp (fun (z : Int32 × Int32 × Int32 × Int32 × Int32 × Int32 × Int32 × Int32) T => S27 = T ∧ z.1 = W ∧ z.2.1 = u ∧ z.2.2.1 = x ∧ z.2.2.2.1 = y ∧ z.2.2.2.2.1 = g ∧ z.2.2.2.2.2.1 = s ∧ z.2.2.2.2.2.2.1 = x26 ∧ ∃ k : Nat, z.2.2.2.2.2.2.2.toInt = (k : Int) ∧ k ≤ st) (fun _ _ (v : Int32) T => FX W42 S T ∧ v = ocm st (lst c h up) up ∧ (ge T 40 0 42).toInt = if v = 3 then lg c h (st - up) else -1) ?_ fuel (W, u, x, y, g, s, x26, 0) S27 ⟨rfl, rfl, rfl, rfl, rfl, rfl, rfl, rfl, 0, l0, Nat.zero_le _⟩
  intro k hk z T hI
  obtain ⟨a1, a2, a3, a4, a5, a6, a7, a8⟩ := z
  obtain ⟨rfl, e1, e2, e3, e4, e5, e6, e7, i, i1, i2⟩ := hI
  dsimp only at e1 e2 e3 e4 e5 e6 e7 i1
  subst e1 e2 e3 e4 e5 e6 e7
  have hst := hF.1
  have J : i < lst c h up → pk (B_X7_judged_49 k a1 a2 a3 a4 a5 a6 a7 a8 S27) (fun v T => FX W42 S T ∧ v = ocm st (lst c h up) up ∧ (ge T 40 0 42).toInt = if v = 3 then lg c h (st - up) else -1) := by
    intro hil
    unfold B_X7_judged_49
    refine pq_iv fun x1 e1 => pq_iv fun x2 e2 => pq_iv fun x3 e3 => ?_
    have ex : x3 = a5 - a6 * Int32.ofNat i / 10 := by rw [e3, e2, e1, ofN i1 (by omega)]
    refine pq_lt (fun c0 => ?_) (fun c0 => ?_)
    · have ei : i = st := by
        by_cases d : i = st
        · exact d
        · exact absurd (show lowF a5 a6 a1 i by unfold lowF; rw [← ex]; exact c0) (hF.2.1 i (by omega))
      subst ei
      unfold ocm
      rw [if_pos hil]
      refine pq_eq (fun c1 => pq_some ⟨F27, by rw [if_pos (by omega)], by rw [z42, if_neg (by decide)]; exact lm1⟩) (fun c1 => ?_)
      rw [if_neg (c := i = 0) (by omega)]
      refine pq_lt (fun c2 => ?_) (fun c2 => ?_)
      · rw [if_pos (by omega)]
        refine pq_iv fun x7 e7 => ?_
        have g7 : x7.toInt = ((i - up : Nat) : Int) := by rw [e7, ti_sub (by omega) (by omega)]; omega
        refine pq_bd (q_onWay hx hy hc hh g7 (by omega)) (fun v8 T q => ?_)
        obtain ⟨rfl, q8⟩ := q
        refine pq_sv fun S11 E11 => pq_some ⟨by rw [E11]; exact F27.wr rfl, rfl, ?_⟩
        rw [E11, ge_pus, if_pos rfl]
        exact q8
      · rw [if_neg (by omega)]
        exact pq_some ⟨F27, rfl, by rw [z42, if_neg (by decide)]; exact lm1⟩
    · refine pq_iv fun x12 e12 => ?_
      have g12 : x12.toInt = a8.toInt + 1 := by rw [e12]; exact ti_inc (by omega)
      have hne2 : i ≠ st := by
        intro e
        have := hF.2.2 (by omega)
        unfold lowF at this
        rw [← e, ← ex] at this
        omega
      exact hk (a1, a2, a3, a4, a5, a6, a7, x12) S27 ⟨rfl, rfl, rfl, rfl, rfl, rfl, rfl, rfl, i + 1, by dsimp only; omega, by omega⟩
  unfold B_X7_judged_37
  dsimp only
  refine pq_lt (fun c0 => J (by omega)) (fun c0 => ?_)
  refine pq_eq (fun c1 => absurd c1 (by omega)) (fun c1 => ?_)
  have e : st = lst c h up := by omega
  refine pq_some ⟨F27, ?_, by rw [z42, if_neg (by decide)]; exact lm1⟩
  unfold ocm
  rw [if_neg (by omega)]
end JDG
