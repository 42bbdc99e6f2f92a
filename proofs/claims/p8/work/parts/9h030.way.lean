/-! the way of a claw, exactly, on both sides -/
def sgn (z : Int) : Int := if z < 0 then -1 else if z = 0 then 0 else 1
def sg3 (d v : Int) : Int := if d < 0 then -v else if d = 0 then 0 else v
def dX (c h : Nat) : Int := ((h % 8 : Nat) : Int) - ((c % 8 : Nat) : Int)
def dY (c h : Nat) : Int := ((h / 8 : Nat) : Int) - ((c / 8 : Nat) : Int)
def ab (z : Int) : Int := if 0 ≤ z then z else -z
/-- where a thing falls, n cells on its way -/
def lg (c h n : Nat) : Int := 8 * (((c / 8 : Nat) : Int) + sg3 (dY c h) ((n : Int) - min (n : Int) (ab (dX c h)))) + (((c % 8 : Nat) : Int) + sg3 (dX c h) (min (n : Int) (ab (dX c h))))
def lowF (g s W : Int32) (k : Nat) : Prop := (g - s * Int32.ofNat k / 10).toInt < W.toInt
/-- at which step it fails: none before, and there it does, but at the end -/
def FS (g s W : Int32) (last st : Nat) : Prop := st ≤ last ∧ (∀ k : Nat, k < st → ¬ lowF g s W k) ∧ (st < last → lowF g s W st)
theorem FS.un {g s W : Int32} {last a b : Nat} (h : FS g s W last a) (h2 : FS g s W last b) : a = b := by
  by_cases c : a < b
  · exact absurd (h.2.2 (by have := h2.1; omega)) (h2.2.1 a c)
  · by_cases d : b < a
    · exact absurd (h2.2.2 (by have := h.1; omega)) (h.2.1 b d)
    · omega
def ocm (st last up : Nat) : Int32 := if st < last then (if st = 0 then 1 else if up < st then 3 else 2) else 5
section WAY
variable {S T : fS} {r c h : Nat} {x p : Int32}
theorem dv8 (hx : x.toInt = (c : Int)) : (x / 8).toInt = ((c / 8 : Nat) : Int) := by
  have l8 : (8 : Int32).toInt = 8 := by decide
  rw [ti_dv (by omega) (by omega), hx, l8]
  omega
theorem md8 (hx : x.toInt = (c : Int)) : (x - x / 8 * 8).toInt = ((c % 8 : Nat) : Int) := by
  have l8 : (8 : Int32).toInt = 8 := by decide
  have b := ti_bd x
  have d := dv8 hx
  have e : (x / 8 * 8).toInt = ((c / 8 : Nat) : Int) * 8 := by rw [ti_mul (by rw [d, l8]; omega) (by rw [d, l8]; omega), d, l8]
  rw [ti_sub (by rw [e]; omega) (by rw [e]; omega), e, hx]
  omega
theorem y_signum {z : Int} (hx : x.toInt = z) (h1 : -7 ≤ z) (h2 : z ≤ 7) : pk (F_J6_signum_0f7a4 x S) (fun v T => S = T ∧ v.toInt = sgn z) := by
  unfold F_J6_signum_0f7a4
  refine pq_iv fun x1 e1 => pq_iv fun x2 e2 => pq_iv fun x3 e3 => pq_iv fun x4 e4 => pq_some ⟨rfl, ?_⟩
  rw [e4, e1, e3, e2]
  have hz : z = -7 ∨ z = -6 ∨ z = -5 ∨ z = -4 ∨ z = -3 ∨ z = -2 ∨ z = -1 ∨ z = 0 ∨ z = 1 ∨ z = 2 ∨ z = 3 ∨ z = 4 ∨ z = 5 ∨ z = 6 ∨ z = 7 := by omega
  have K : ∀ y : Int32, y.toInt = z → x = y := fun y hy => of_toInt (by rw [hx, hy])
  rcases hz with e | e | e | e | e | e | e | e | e | e | e | e | e | e | e
  · rw [K (-7) (by rw [e]; decide), e]; decide
  · rw [K (-6) (by rw [e]; decide), e]; decide
  · rw [K (-5) (by rw [e]; decide), e]; decide
  · rw [K (-4) (by rw [e]; decide), e]; decide
  · rw [K (-3) (by rw [e]; decide), e]; decide
  · rw [K (-2) (by rw [e]; decide), e]; decide
  · rw [K (-1) (by rw [e]; decide), e]; decide
  · rw [K 0 (by rw [e]; decide), e]; decide
  · rw [K 1 (by rw [e]; decide), e]; decide
  · rw [K 2 (by rw [e]; decide), e]; decide
  · rw [K 3 (by rw [e]; decide), e]; decide
  · rw [K 4 (by rw [e]; decide), e]; decide
  · rw [K 5 (by rw [e]; decide), e]; decide
  · rw [K 6 (by rw [e]; decide), e]; decide
  · rw [K 7 (by rw [e]; decide), e]; decide
theorem ab_ti {y : Int32} {z : Int} (hx : x.toInt = z) (hz : -64 ≤ z ∧ z ≤ 64) (hy : y = if 0 ≤ x then x else 0 - x) : y.toInt = ab z := by
  have l0 : (0 : Int32).toInt = 0 := by decide
  unfold ab
  by_cases c : (0 : Int32) ≤ x
  · rw [if_pos c] at hy
    have := le_toInt c
    rw [if_pos (by omega), hy, hx]
  · rw [if_neg c] at hy
    have := nle_toInt c
    rw [if_neg (by omega), hy, ti_sub (by omega) (by omega)]
    omega
theorem q_apart {a b : Nat} {y : Int32} (hx : x.toInt = (a : Int)) (hy : y.toInt = (b : Int)) (ha : a < 64) (hb : b < 64) : pk (F_X7_apart x y S) (fun v T => S = T ∧ v.toInt = ab ((b : Int) - (a : Int))) := by
  unfold F_X7_apart ab
  refine pq_le (fun c => ?_) (fun c => ?_)
  · refine pq_iv fun v e => pq_some ⟨rfl, ?_⟩
    rw [e, ti_sub (by omega) (by omega)]
    by_cases d : (0 : Int) ≤ (b : Int) - (a : Int)
    · rw [if_pos d]; omega
    · rw [if_neg d]; omega
  · refine pq_iv fun v e => pq_some ⟨rfl, ?_⟩
    rw [e, ti_sub (by omega) (by omega), if_pos (by omega), hx, hy]
/-- the reference walks there -/
theorem q_onWay {y n9 : Int32} {n : Nat} (hx : x.toInt = (c : Int)) (hy : y.toInt = (h : Int)) (hc : c < 64) (hh : h < 64) (hn : n9.toInt = (n : Int)) (hle : (n : Int) ≤ ab (dX c h) + ab (dY c h)) : pk (F_X7_onWay x y n9 S) (fun v T => S = T ∧ v.toInt = lg c h n) := by
  have l0 : (0 : Int32).toInt = 0 := by decide
  have l1 : (1 : Int32).toInt = 1 := by decide
  have lm1 : (-1 : Int32).toInt = -1 := by decide
  have lom1 : (Int32.ofInt (-1)).toInt = -1 := by decide
  have l8 : (8 : Int32).toInt = 8 := by decide
  have dec : ∀ a : Int32, 0 < a.toInt → (a + Int32.ofInt (-1)).toInt = a.toInt - 1 := by
    intro a ha
    have := ti_bd a
    rw [ti_add (by omega) (by omega), lom1]
    omega
  have m8 := md8 hy
  have d8 := dv8 hy
  have hx0 := md8 hx
  have hy0 := dv8 hx
  have fin : ∀ (a3 a4 : Int32), a3.toInt = ((c % 8 : Nat) : Int) + sg3 (dX c h) (min (n : Int) (ab (dX c h))) → a4.toInt = ((c / 8 : Nat) : Int) + sg3 (dY c h) ((n : Int) - min (n : Int) (ab (dX c h))) → pk (B_X7_onWay_88 a3 a4 S) (fun v T => S = T ∧ v.toInt = lg c h n) := by
    intro a3 a4 h3 h4
    have bx : 0 ≤ a3.toInt ∧ a3.toInt ≤ 7 := by
      rw [h3]
      unfold sg3 dX ab
      omega
    have by4 : 0 ≤ a4.toInt ∧ a4.toInt ≤ 7 := by
      rw [h4]
      unfold sg3 dX dY ab at *
      omega
    unfold B_X7_onWay_88
    refine pq_iv fun x5 e5 => pq_iv fun x6 e6 => pq_some ⟨rfl, ?_⟩
    have g5 : x5.toInt = 8 * a4.toInt := by rw [e5, ti_mul (by rw [l8]; omega) (by rw [l8]; omega), l8]
    unfold lg
    rw [e6, ti_add (by omega) (by omega), g5, h3, h4]
  -- then in y
  have L49 : ∀ (a3 a4 a5 : Int32), a3.toInt = ((c % 8 : Nat) : Int) + sg3 (dX c h) (min (n : Int) (ab (dX c h))) → a4.toInt = ((c / 8 : Nat) : Int) → a5.toInt = (n : Int) - min (n : Int) (ab (dX c h)) → pk (lp (B_X7_onWay_49) fuel (y, a3, a4, a5) S) (fun v T => S = T ∧ v.toInt = lg c h n) := by
    intro a3 a4 a5 h3 h4 h5
    refine pq_lp (fun (z : Int32 × Int32 × Int32 × Int32) T => S = T ∧ z.1 = y ∧ z.2.1 = a3 ∧ ∃ i : Int, 0 ≤ i ∧ i ≤ (n : Int) - min (n : Int) (ab (dX c h)) ∧ i ≤ ab (dY c h) ∧ z.2.2.1.toInt = ((c / 8 : Nat) : Int) + sg3 (dY c h) i ∧ z.2.2.2.toInt = (n : Int) - min (n : Int) (ab (dX c h)) - i) (fun _ _ (v : Int32) T => S = T ∧ v.toInt = lg c h n) ?_ fuel (y, a3, a4, a5) S ⟨rfl, rfl, rfl, 0, by omega, by unfold ab; omega, by unfold ab; omega, by dsimp only; rw [h4]; unfold sg3; omega, by dsimp only; omega⟩
    intro k hk z T hI
    obtain ⟨b1, b3, b4, b5⟩ := z
    obtain ⟨rfl, e1, e3, i, i0, i1, i2, i3, i4⟩ := hI
    dsimp only at e1 e3 i3 i4
    subst e1
    subst e3
    unfold B_X7_onWay_49
    dsimp only
    have i2' := i2
    refine pq_le (fun c0 => fin b3 b4 h3 (by rw [i3, show i = (n : Int) - min (n : Int) (ab (dX c h)) from by omega])) (fun c0 => ?_)
    refine pq_iv fun x8 e8 => ?_
    have g8 : x8.toInt = ((h / 8 : Nat) : Int) := by rw [e8]; exact d8
    refine pq_eq (fun c1 => fin b3 b4 h3 ?_) (fun c1 => ?_)
    · rw [i3] at c1 ⊢
      rw [g8] at c1
      have e9 : i = (n : Int) - min (n : Int) (ab (dX c h)) := by
        unfold sg3 at c1
        unfold dX dY ab at *
        omega
      rw [e9]
    · refine pq_iv fun x10 e10 => ?_
      have g10 : x10.toInt = ((h / 8 : Nat) : Int) := by rw [e10]; exact d8
      have nx : ∀ t : Int32, t.toInt = sgn (dY c h) → pk (B_X7_onWay_79 k b1 b3 b5 t b4 S) (fun v T => S = T ∧ v.toInt = lg c h n) := by
        intro t ht
        unfold B_X7_onWay_79
        refine pq_iv fun x3 e3 => pq_iv fun x4 e4 => ?_
        have g4 : x4.toInt = b5.toInt - 1 := by rw [e4]; exact dec b5 (by omega)
        have g3 : x3.toInt = ((c / 8 : Nat) : Int) + sg3 (dY c h) (i + 1) := by
          rw [e3, ti_add (by rw [i3, ht]; unfold sg3 sgn dY ab at *; omega) (by rw [i3, ht]; unfold sg3 sgn dY ab at *; omega), i3, ht]
          rw [i3, g8] at c1
          unfold sg3 sgn dY at *
          omega
        refine hk (b1, b3, x3, x4) S ⟨rfl, rfl, rfl, i + 1, by omega, by omega, ?_, g3, by dsimp only; omega⟩
        rw [i3, g8] at c1
        unfold sg3 dY ab at *
        omega
      refine pq_le (fun c2 => nx (-1) ?_) (fun c2 => nx 1 ?_)
      · rw [lm1]
        rw [i3, g8] at c1
        rw [i3, g10] at c2
        unfold sg3 sgn dY ab at *
        omega
      · rw [l1]
        rw [i3, g8] at c1
        rw [i3, g10] at c2
        unfold sg3 sgn dY ab at *
        omega
  unfold F_X7_onWay
  refine pq_iv fun x17 e17 => ?_
  have g17 : x17.toInt = ((c % 8 : Nat) : Int) := by rw [e17]; exact hx0
  refine pq_iv fun x18 e18 => ?_
  have g18 : x18.toInt = ((c / 8 : Nat) : Int) := by rw [e18]; exact hy0
  refine pq_lp (fun (z : Int32 × Int32 × Int32 × Int32) T => S = T ∧ z.1 = y ∧ z.2.2.1 = x18 ∧ ∃ i : Int, 0 ≤ i ∧ i ≤ (n : Int) ∧ i ≤ ab (dX c h) ∧ z.2.1.toInt = ((c % 8 : Nat) : Int) + sg3 (dX c h) i ∧ z.2.2.2.toInt = (n : Int) - i) (fun _ _ (v : Int32) T => S = T ∧ v.toInt = lg c h n) ?_ fuel (y, x17, x18, n9) S ⟨rfl, rfl, rfl, 0, by omega, by omega, by unfold ab; omega, by dsimp only; rw [g17]; unfold sg3; omega, by dsimp only; omega⟩
  intro k hk z T hI
  obtain ⟨b1, b3, b4, b5⟩ := z
  obtain ⟨rfl, e1, e3, i, i0, i1, i2, i3, i4⟩ := hI
  dsimp only at e1 e3 i3 i4
  subst e1
  subst e3
  unfold B_X7_onWay_14
  dsimp only
  refine pq_le (fun c0 => L49 b3 b4 b5 (by rw [i3, show i = min (n : Int) (ab (dX c h)) from by omega]) g18 (by omega)) (fun c0 => ?_)
  refine pq_iv fun x13 e13 => ?_
  have g13 : x13.toInt = ((h % 8 : Nat) : Int) := by rw [e13]; exact m8
  refine pq_eq (fun c1 => ?_) (fun c1 => ?_)
  · have e9 : i = min (n : Int) (ab (dX c h)) := by
      rw [i3, g13] at c1
      unfold sg3 at c1
      unfold dX ab at *
      omega
    exact L49 b3 b4 b5 (by rw [i3, ← e9]) g18 (by omega)
  · refine pq_iv fun x15 e15 => ?_
    have g15 : x15.toInt = ((h % 8 : Nat) : Int) := by rw [e15]; exact m8
    have nx : ∀ t : Int32, t.toInt = sgn (dX c h) → pk (B_X7_onWay_41 k b1 b4 b5 t b3 S) (fun v T => S = T ∧ v.toInt = lg c h n) := by
      intro t ht
      unfold B_X7_onWay_41
      refine pq_iv fun x1 e1 => pq_iv fun x2 e2 => ?_
      have g2 : x2.toInt = b5.toInt - 1 := by rw [e2]; exact dec b5 (by omega)
      have g1 : x1.toInt = ((c % 8 : Nat) : Int) + sg3 (dX c h) (i + 1) := by
        rw [e1, ti_add (by rw [i3, ht]; unfold sg3 sgn dX ab at *; omega) (by rw [i3, ht]; unfold sg3 sgn dX ab at *; omega), i3, ht]
        rw [i3, g13] at c1
        unfold sg3 sgn dX at *
        omega
      refine hk (b1, x1, b4, x2) S ⟨rfl, rfl, rfl, i + 1, by omega, by omega, ?_, g1, by dsimp only; omega⟩
      rw [i3, g13] at c1
      unfold sg3 dX ab at *
      omega
    refine pq_le (fun c2 => nx (-1) ?_) (fun c2 => nx 1 ?_)
    · rw [lm1]
      rw [i3, g13] at c1
      rw [i3, g15] at c2
      unfold sg3 sgn dX ab at *
      omega
    · rw [l1]
      rw [i3, g13] at c1
      rw [i3, g15] at c2
      unfold sg3 sgn dX ab at *
      omega
end WAY
