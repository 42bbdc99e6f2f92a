/-! the hands, both sides -/
section HND
variable {S : fS} {Q : Nat × Int32 → fS → Prop} {Q7 : Int32 → fS → Prop} {p a : Int32}
/-- the hands are alike -/
def HNq (S : fS) : Prop := (ge S 0 0 9).toInt = (ge S 40 0 48).toInt ∧ ∀ h k : Nat, (h : Int) < (ge S 40 0 48).toInt → k < 9 → ge S 59 h k = dg (ge S 15 0 h) (Int32.ofNat k)
/-- the sum of the first k -/
def sumw (f : Nat → Int32) : Nat → Int32
  | 0 => 0
  | k + 1 => sumw f k + f k
theorem sumw_cg {f g : Nat → Int32} : ∀ k : Nat, (∀ i : Nat, i < k → f i = g i) → sumw f k = sumw g k
  | 0, _ => rfl
  | k + 1, h => by
    show sumw f k + f k = sumw g k + g k
    rw [sumw_cg k (fun i hi => h i (by omega)), h k (by omega)]
/-- where the walk along the weights stops -/
def hwk (f : Nat → Int32) : Nat → Nat → Int32 → Nat
  | 0, i, _ => i
  | n + 1, i, l => if l < f i then i else hwk f n (i + 1) (l - f i)
theorem hwk_cg {f g : Nat → Int32} : ∀ (n i : Nat) (l : Int32), (∀ j : Nat, j < i + n → f j = g j) → hwk f n i l = hwk g n i l
  | 0, _, _, _ => rfl
  | n + 1, i, l, h => by
    show (if l < f i then i else hwk f n (i + 1) (l - f i)) = (if l < g i then i else hwk g n (i + 1) (l - g i))
    rw [h i (by omega), hwk_cg n (i + 1) (l - g i) (fun j hj => h j (by omega))]
theorem hwk_le {f : Nat → Int32} : ∀ (n i : Nat) (l : Int32), hwk f n i l ≤ i + n
  | 0, i, _ => Nat.le_refl i
  | n + 1, i, l => by
    show (if l < f i then i else hwk f n (i + 1) (l - f i)) ≤ i + (n + 1)
    by_cases c : l < f i
    · rw [if_pos c]
      omega
    · rw [if_neg c]
      have := hwk_le (f := f) n (i + 1) (l - f i)
      omega
theorem ofNat9 {i : Nat} (h : i ≤ 9) : (Int32.ofNat i).toInt = (i : Int) := Int32.toInt_ofNat_of_lt (by omega)
theorem isN9 {x : Int32} {i : Nat} (e : x.toInt = (i : Int)) (h : i ≤ 9) : x = Int32.ofNat i := of_toInt (by rw [e, ofNat9 h])
theorem y_weightAt {i : Int32} : pk (F_X6_weightAt a i S) (fun v T => S = T ∧ v = dg a i) := by
  unfold F_X6_weightAt
  refine pq_iv fun x1 e1 => pq_iv fun x2 e2 => pq_iv fun x3 e3 => pq_iv fun x4 e4 => pq_some ⟨rfl, ?_⟩
  rw [e4, e3, e2, e1]
  rfl
theorem y_allWeights : pk (F_X6_allWeights a S) (fun v T => S = T ∧ v = sumw (fun k => dg a (Int32.ofNat k)) 9) := by
  have l0 : (0 : Int32).toInt = 0 := by decide
  have l9 : (9 : Int32).toInt = 9 := by decide
  unfold F_X6_allWeights
  refine pq_lp (fun (z : Int32 × Int32 × Int32) V => S = V ∧ z.1 = a ∧ ∃ i : Nat, z.2.2.toInt = (i : Int) ∧ i ≤ 9 ∧ z.2.1 = sumw (fun k => dg a (Int32.ofNat k)) i) (fun _ _ v T => S = T ∧ v = sumw (fun k => dg a (Int32.ofNat k)) 9) ?_ fuel (a, 0, 0) S ⟨rfl, rfl, 0, l0, by omega, rfl⟩
  intro k hk z V hz
  obtain ⟨d0, d1, d2⟩ := z
  dsimp only at hz
  obtain ⟨rfl, rfl, i, i1, i2, i3⟩ := hz
  unfold B_X6_allWeights_4
  refine pq_le (fun c => pq_some ⟨rfl, ?_⟩) (fun c => ?_)
  · rw [i3, show i = 9 by omega]
  refine pq_bd y_weightAt (fun v2 S3 q => ?_)
  obtain ⟨rfl, q2⟩ := q
  refine pq_iv fun x5 e5 => pq_iv fun x6 e6 => ?_
  have g6 : x6.toInt = d2.toInt + 1 := by rw [e6]; exact ti_inc (by omega)
  refine hk (d0, x5, x6) S ⟨rfl, rfl, i + 1, by dsimp only; omega, by omega, ?_⟩
  dsimp only
  rw [e5, i3, q2, isN9 i1 i2]
  rfl
theorem q_weightsOf {h : Nat} (hp : p.toInt = (h : Int)) : pk (F_X7_weightsOf p S) (fun v T => S = T ∧ v = sumw (fun k => ge S 59 h k) 9) := by
  have l0 : (0 : Int32).toInt = 0 := by decide
  have l9 : (9 : Int32).toInt = 9 := by decide
  unfold F_X7_weightsOf
  refine pq_lp (fun (z : Int32 × Int32 × Int32) V => S = V ∧ z.1 = p ∧ ∃ i : Nat, z.2.2.toInt = (i : Int) ∧ i ≤ 9 ∧ z.2.1 = sumw (fun k => ge S 59 h k) i) (fun _ _ v T => S = T ∧ v = sumw (fun k => ge S 59 h k) 9) ?_ fuel (p, 0, 0) S ⟨rfl, rfl, 0, l0, by omega, rfl⟩
  intro k hk z V hz
  obtain ⟨d0, d1, d2⟩ := z
  dsimp only at hz
  obtain ⟨rfl, rfl, i, i1, i2, i3⟩ := hz
  unfold B_X7_weightsOf_4
  refine pq_le (fun c => pq_some ⟨rfl, ?_⟩) (fun c => ?_)
  · rw [i3, show i = 9 by omega]
  refine pq_gd fun _ => pq_gd fun _ => ?_
  rw [cnNq hp, cnNq i1]
  refine pq_iv fun x4 e4 => pq_iv fun x5 e5 => pq_iv fun x6 e6 => ?_
  have g6 : x6.toInt = d2.toInt + 1 := by rw [e6]; exact ti_inc (by omega)
  refine hk (d0, x5, x6) S ⟨rfl, rfl, i + 1, by dsimp only; omega, by omega, ?_⟩
  dsimp only
  rw [e5, i3, e4]
  rfl
/-- what of hand f reaches cell c -/
def rchw (f : Nat → Int32) (c : Int32) : Int32 := sumw (fun k => if rcq c (Int32.ofNat k) = c then f k else 0) 9
theorem rchw_cg {f g : Nat → Int32} {c : Int32} (h : ∀ i : Nat, i < 9 → f i = g i) : rchw f c = rchw g c := sumw_cg 9 (fun i hi => by rw [h i hi])
theorem y_weightsReaching {c : Int32} : pk (F_X6_weightsReaching a c S) (fun v T => S = T ∧ v = rchw (fun k => dg a (Int32.ofNat k)) c) := by
  have l0 : (0 : Int32).toInt = 0 := by decide
  have l9 : (9 : Int32).toInt = 9 := by decide
  unfold F_X6_weightsReaching rchw
  refine pq_lp (fun (z : Int32 × Int32 × Int32 × Int32) V => S = V ∧ z.1 = a ∧ z.2.1 = c ∧ ∃ i : Nat, z.2.2.2.toInt = (i : Int) ∧ i ≤ 9 ∧ z.2.2.1 = sumw (fun k => if rcq c (Int32.ofNat k) = c then dg a (Int32.ofNat k) else 0) i) (fun _ _ v T => S = T ∧ v = sumw (fun k => if rcq c (Int32.ofNat k) = c then dg a (Int32.ofNat k) else 0) 9) ?_ fuel (a, c, 0, 0) S ⟨rfl, rfl, rfl, 0, l0, by omega, rfl⟩
  intro k hk z V hz
  obtain ⟨d0, d1, d2, d3⟩ := z
  dsimp only at hz
  obtain ⟨rfl, rfl, rfl, i, i1, i2, i3⟩ := hz
  unfold B_X6_weightsReaching_4
  refine pq_le (fun c => pq_some ⟨rfl, ?_⟩) (fun c => ?_)
  · rw [i3, show i = 9 by omega]
  have fin : ∀ t0 : Int32, t0 = (if rcq d1 (Int32.ofNat i) = d1 then dg d0 (Int32.ofNat i) else 0) → pk (B_X6_weightsReaching_29 k d0 d1 d3 t0 d2 S) (fun v T => S = T ∧ v = sumw (fun k => if rcq d1 (Int32.ofNat k) = d1 then dg d0 (Int32.ofNat k) else 0) 9) := by
    intro t0 et
    unfold B_X6_weightsReaching_29
    refine pq_iv fun x1 e1 => pq_iv fun x2 e2 => ?_
    have g2 : x2.toInt = d3.toInt + 1 := by rw [e2]; exact ti_inc (by omega)
    refine hk (d0, d1, x1, x2) S ⟨rfl, rfl, rfl, i + 1, by dsimp only; omega, by omega, ?_⟩
    dsimp only
    rw [e1, i3, et]
    rfl
  refine pq_bd y_cellReached (fun v4 S5 q => ?_)
  obtain ⟨rfl, q4⟩ := q
  rw [isN9 i1 i2] at q4
  refine pq_bb (fun c2 => ?_) (fun c2 => fin 0 (by rw [if_neg (by rw [← q4]; exact c2)]))
  refine pq_bd y_weightAt (fun v8 S9 q => ?_)
  obtain ⟨rfl, q8⟩ := q
  exact fin v8 (by rw [if_pos (by rw [← q4]; exact c2), q8, isN9 i1 i2])
theorem q_weightFor {h : Nat} {c : Int32} (hp : p.toInt = (h : Int)) : pk (F_X7_weightFor p c S) (fun v T => S = T ∧ v = rchw (fun k => ge S 59 h k) c) := by
  have l0 : (0 : Int32).toInt = 0 := by decide
  have l9 : (9 : Int32).toInt = 9 := by decide
  unfold F_X7_weightFor rchw
  refine pq_lp (fun (z : Int32 × Int32 × Int32 × Int32) V => S = V ∧ z.1 = p ∧ z.2.1 = c ∧ ∃ i : Nat, z.2.2.2.toInt = (i : Int) ∧ i ≤ 9 ∧ z.2.2.1 = sumw (fun k => if rcq c (Int32.ofNat k) = c then ge S 59 h k else 0) i) (fun _ _ v T => S = T ∧ v = sumw (fun k => if rcq c (Int32.ofNat k) = c then ge S 59 h k else 0) 9) ?_ fuel (p, c, 0, 0) S ⟨rfl, rfl, rfl, 0, l0, by omega, rfl⟩
  intro k hk z V hz
  obtain ⟨d0, d1, d2, d3⟩ := z
  dsimp only at hz
  obtain ⟨rfl, rfl, rfl, i, i1, i2, i3⟩ := hz
  unfold B_X7_weightFor_5
  refine pq_le (fun c => pq_some ⟨rfl, ?_⟩) (fun c => ?_)
  · rw [i3, show i = 9 by omega]
  have fin : ∀ t0 : Int32, t0 = (if rcq d1 (Int32.ofNat i) = d1 then ge S 59 h i else 0) → pk (B_X7_weightFor_36 k d0 d1 d3 t0 d2 S) (fun v T => S = T ∧ v = sumw (fun k => if rcq d1 (Int32.ofNat k) = d1 then ge S 59 h k else 0) 9) := by
    intro t0 et
    unfold B_X7_weightFor_36
    refine pq_iv fun x1 e1 => pq_iv fun x2 e2 => ?_
    have g2 : x2.toInt = d3.toInt + 1 := by rw [e2]; exact ti_inc (by omega)
    refine hk (d0, d1, x1, x2) S ⟨rfl, rfl, rfl, i + 1, by dsimp only; omega, by omega, ?_⟩
    dsimp only
    rw [e1, i3, et]
    rfl
  refine pq_bd q_comesTo (fun v4 S5 q => ?_)
  obtain ⟨rfl, q4⟩ := q
  rw [isN9 i1 i2] at q4
  refine pq_bb (fun c2 => ?_) (fun c2 => fin 0 (by rw [if_neg (by rw [← q4]; exact c2)]))
  refine pq_gd fun _ => pq_gd fun _ => ?_
  rw [cnNq hp, cnNq i1]
  refine pq_iv fun x10 e10 => fin x10 (by rw [if_pos (by rw [← q4]; exact c2), e10])
/-- play's walk: the class -/
theorem y_playL {h i0 : Nat} {left : Int32} (hp : p.toInt = (h : Int)) (hT : pk (F_X6_tryAt (rcq a (Int32.ofNat i0)) S) (fun v T => Q (0, v) T)) (hi : hwk (fun k => dg (ge S 15 0 h) (Int32.ofNat k)) 8 0 left = i0) : pk (lp B_X6_play_47 fuel (p, a, left, 0) S) Q := by
  have l0 : (0 : Int32).toInt = 0 := by decide
  have l8 : (8 : Int32).toInt = 8 := by decide
  refine pq_lp (fun (z : Int32 × Int32 × Int32 × Int32) V => S = V ∧ z.1 = p ∧ z.2.1 = a ∧ ∃ i : Nat, z.2.2.2.toInt = (i : Int) ∧ i ≤ 8 ∧ hwk (fun k => dg (ge S 15 0 h) (Int32.ofNat k)) (8 - i) i z.2.2.1 = i0) (fun _ _ v T => Q v T) ?_ fuel (p, a, left, 0) S ⟨rfl, rfl, rfl, 0, l0, by omega, hi⟩
  intro k hk z V hz
  obtain ⟨d0, d1, d2, d3⟩ := z
  dsimp only at hz
  obtain ⟨rfl, rfl, rfl, i, i1, i2, i3⟩ := hz
  unfold B_X6_play_47
  have fin : i = i0 → pk (B_X6_play_89 d1 d3 S) Q := by
    intro ei
    unfold B_X6_play_89
    refine pq_bd y_cellReached (fun v1 S2 q => ?_)
    obtain ⟨rfl, q1⟩ := q
    rw [isN9 i1 (by omega), ei] at q1
    rw [q1]
    exact pq_bd hT (fun v4 S5 q => pq_some q)
  refine pq_le (fun c => fin ?_) (fun c => ?_)
  · have e : i = 8 := by omega
    rw [e] at i3
    rw [e]
    exact i3
  obtain ⟨n, hn⟩ : ∃ n : Nat, 8 - i = n + 1 := ⟨7 - i, by omega⟩
  rw [hn] at i3
  have i3 : (if d2 < dg (ge S 15 0 h) (Int32.ofNat i) then i else hwk (fun k => dg (ge S 15 0 h) (Int32.ofNat k)) n (i + 1) (d2 - dg (ge S 15 0 h) (Int32.ofNat i))) = i0 := i3
  refine pq_gd fun _ => ?_
  rw [cnNq hp]
  refine pq_iv fun x9 e9 => pq_bd y_weightAt (fun v10 S11 q => ?_)
  obtain ⟨rfl, q10⟩ := q
  rw [e9, isN9 i1 (by omega)] at q10
  refine pq_bb (fun c2 => fin ?_) (fun c2 => ?_)
  · rw [q10] at c2
    rw [if_pos c2] at i3
    exact i3
  rw [q10] at c2
  rw [if_neg c2] at i3
  refine pq_gd fun _ => pq_iv fun x15 e15 => pq_bd y_weightAt (fun v16 S17 q => ?_)
  obtain ⟨rfl, q16⟩ := q
  rw [e15, isN9 i1 (by omega)] at q16
  refine pq_iv fun x19 e19 => pq_iv fun x20 e20 => ?_
  have g20 : x20.toInt = d3.toInt + 1 := by rw [e20]; exact ti_inc (by omega)
  refine hk (d0, d1, x19, x20) S ⟨rfl, rfl, rfl, i + 1, by dsimp only; omega, by omega, ?_⟩
  dsimp only
  rw [e19, q16, show 8 - (i + 1) = n by omega]
  exact i3
/-- play's walk: the reference -/
theorem q_playL {h i0 : Nat} {left : Int32} (hp : p.toInt = (h : Int)) (hT : pk (F_X7_attemptAt (rcq a (Int32.ofNat i0)) S) Q7) (hi : hwk (fun k => ge S 59 h k) 8 0 left = i0) : pk (lp B_X7_play_73 fuel (p, a, left, 0) S) Q7 := by
  have l0 : (0 : Int32).toInt = 0 := by decide
  refine pq_lp (fun (z : Int32 × Int32 × Int32 × Int32) V => S = V ∧ z.1 = p ∧ z.2.1 = a ∧ ∃ i : Nat, z.2.2.2.toInt = (i : Int) ∧ i ≤ 9 ∧ (i ≤ 8 → hwk (fun k => ge S 59 h k) (8 - i) i z.2.2.1 = i0)) (fun _ _ v T => Q7 v T) ?_ fuel (p, a, left, 0) S ⟨rfl, rfl, rfl, 0, l0, by omega, fun _ => hi⟩
  intro k hk z V hz
  obtain ⟨d0, d1, d2, d3⟩ := z
  dsimp only at hz
  obtain ⟨rfl, rfl, rfl, i, i1, i2, i3⟩ := hz
  unfold B_X7_play_73
  refine pq_gd fun _ => pq_gd fun g9 => ?_
  have i8 : i ≤ 8 := by
    have := g9.2
    omega
  have i3 := i3 i8
  rw [cnNq hp, cnNq i1]
  refine pq_iv fun x3 e3 => pq_bb (fun c => ?_) (fun c => ?_)
  · have ei : i = i0 := by
      by_cases c8 : i = 8
      · rw [c8] at i3
        rw [c8]
        exact i3
      · obtain ⟨n, hn⟩ : ∃ n : Nat, 8 - i = n + 1 := ⟨7 - i, by omega⟩
        rw [hn] at i3
        have i3 : (if d2 < ge S 59 h i then i else hwk (fun k => ge S 59 h k) n (i + 1) (d2 - ge S 59 h i)) = i0 := i3
        rw [e3] at c
        rw [if_pos c] at i3
        exact i3
    refine pq_bd q_comesTo (fun v5 S6 q => ?_)
    obtain ⟨rfl, q5⟩ := q
    rw [isN9 i1 (by omega), ei] at q5
    rw [q5]
    exact pq_bd hT (fun v8 S9 q => pq_some q)
  · refine pq_gd fun _ => pq_gd fun _ => pq_iv fun x13 e13 => pq_iv fun x14 e14 => pq_iv fun x15 e15 => ?_
    have g15 : x15.toInt = d3.toInt + 1 := by rw [e15]; exact ti_inc (by omega)
    refine hk (d0, d1, x14, x15) S ⟨rfl, rfl, rfl, i + 1, by dsimp only; omega, by omega, fun h8 => ?_⟩
    dsimp only at h8 ⊢
    obtain ⟨n, hn⟩ : ∃ n : Nat, 8 - i = n + 1 := ⟨7 - i, by omega⟩
    rw [hn] at i3
    have i3 : (if d2 < ge S 59 h i then i else hwk (fun k => ge S 59 h k) n (i + 1) (d2 - ge S 59 h i)) = i0 := i3
    rw [e3] at c
    rw [if_neg c] at i3
    rw [e14, e13, show 8 - (i + 1) = n by omega]
    exact i3
end HND
