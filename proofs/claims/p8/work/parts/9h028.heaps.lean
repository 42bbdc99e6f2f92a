/-! heaps, exactly: the reference's rows, the class's chains -/
def hq (S : fS) (c k : Nat) : Int := (ge S 53 c k).toInt
def hh (S : fS) (c : Nat) : Int := (ge S 54 0 c).toInt
def hw (S : fS) (t : Nat) : Int := (ge S 50 0 t).toInt
def Wg (a _ _ : Nat) : Bool := Nat.beq a 53 || (Nat.beq a 54 || Nat.beq a 50)
section HEQ
variable {S T : fS} {c t j : Nat} {p x : Int32}
theorem cnNq {y : Int32} {m : Nat} (h : y.toInt = (m : Int)) : y.toNatClampNeg = m := by
  have := cn_eq (x := y) (by omega)
  omega
theorem q_topOf (hp : p.toInt = (c : Int)) (h0 : 0 ≤ hh S c) : pk (F_X7_topOf p S) (fun v T => S = T ∧ v.toInt = if hh S c ≤ 0 then -1 else hq S c (hh S c - 1).toNat) := by
  have l0 : (0 : Int32).toInt = 0 := by decide
  have l1 : (1 : Int32).toInt = 1 := by decide
  have lm1 : (-1 : Int32).toInt = -1 := by decide
  have hr := cnNq hp
  unfold F_X7_topOf
  rw [hr]
  refine pq_gd fun _ => ?_
  refine pq_iv fun x2 e2 => ?_
  have g2 : x2.toInt = hh S c := by rw [e2]; rfl
  refine pq_eq (fun c0 => pq_some ⟨rfl, by rw [if_pos (by omega)]; exact lm1⟩) (fun c0 => ?_)
  refine pq_gd fun _ => pq_gd fun _ => ?_
  refine pq_iv fun x6 e6 => ?_
  have g6 : x6.toInt = hh S c := by rw [e6]; rfl
  have b6 := ti_bd x6
  refine pq_iv fun x7 e7 => ?_
  have g7 : x7.toInt = (((hh S c - 1).toNat : Nat) : Int) := by rw [e7, ti_sub (by omega) (by omega), l1]; omega
  refine pq_gd fun _ => ?_
  refine pq_iv fun x9 e9 => pq_some ⟨rfl, ?_⟩
  rw [if_neg (by omega), e9, cnNq g7]
  rfl
theorem q_levelOf {n : Int} {w : Nat → Int} (H : HB n w (hq S) (hh S)) (hp : p.toInt = (t : Int)) (hw0 : hw S t = (c : Int)) (hc : c < 64) (hj : (j : Int) < hh S c) (ht : hq S c j = (t : Int)) : pk (F_X7_levelOf p S) (fun v T => S = T ∧ v.toInt = (j : Int)) := by
  have l0 : (0 : Int32).toInt = 0 := by decide
  have hr := cnNq hp
  unfold F_X7_levelOf
  refine pq_lp (fun (z : Int32 × Int32) T => S = T ∧ z.1 = p ∧ ∃ k : Nat, z.2.toInt = (k : Int) ∧ k ≤ j) (fun _ _ (v : Int32) T => S = T ∧ v.toInt = (j : Int)) ?_ fuel (p, 0) S ⟨rfl, rfl, 0, l0, Nat.zero_le _⟩
  intro k hk z T hI
  obtain ⟨a1, a2⟩ := z
  obtain ⟨rfl, h1, i, h2, h3⟩ := hI
  dsimp only at h1 h2
  subst h1
  unfold B_X7_levelOf_2
  dsimp only
  rw [hr, cnNq h2]
  refine pq_gd fun _ => ?_
  refine pq_iv fun x2 e2 => ?_
  have g2 : x2.toInt = (c : Int) := by rw [e2]; exact hw0
  rw [cnNq g2]
  refine pq_gd fun _ => pq_gd fun g24 => ?_
  refine pq_iv fun x5 e5 => ?_
  have g5 : x5.toInt = hq S c i := by rw [e5]; rfl
  refine pq_eq (fun c1 => ?_) (fun c1 => ?_)
  · have e : i = j := H.2.1 c i j hc (by omega) hj (by omega)
    exact pq_some ⟨rfl, by omega⟩
  · refine pq_iv fun x7 e7 => ?_
    have g7 : x7.toInt = a2.toInt + 1 := by rw [e7]; exact ti_inc (by have := g24.2; omega)
    have hne : i ≠ j := fun e => c1 (by rw [g5, e, ht, hp])
    exact hk (a1, x7) S ⟨rfl, rfl, i + 1, by dsimp only; omega, by omega⟩
theorem q_puts (ht : p.toInt = (t : Int)) (hc : x.toInt = (c : Int)) (h0 : 0 ≤ hh S c) : pk (F_X7_puts p x S) (fun _ T => FX Wg S T ∧ (∀ c' : Nat, hh T c' = if c' = c then hh S c + 1 else hh S c') ∧ (∀ c' k : Nat, hq T c' k = if c' = c ∧ k = (hh S c).toNat then (t : Int) else hq S c' k) ∧ ∀ u : Nat, hw T u = if u = t then (c : Int) else hw S u) := by
  have l1 : (1 : Int32).toInt = 1 := by decide
  unfold F_X7_puts
  rw [cnNq ht, cnNq hc]
  refine pq_gd fun _ => pq_gd fun _ => ?_
  refine pq_iv fun x3 e3 => ?_
  have g3 : x3.toInt = (((hh S c).toNat : Nat) : Int) := by
    rw [e3]
    show hh S c = _
    omega
  rw [cnNq g3]
  refine pq_gd fun g24 => ?_
  refine pq_sv fun S5 E5 => ?_
  refine pq_gd fun _ => ?_
  refine pq_iv fun x7 e7 => ?_
  rw [E5, ge_pua (by decide)] at e7
  have g7 : x7.toInt = hh S c := by rw [e7]; rfl
  refine pq_iv fun x8 e8 => ?_
  have g8 : x8.toInt = hh S c + 1 := by rw [e8, ti_add (by have := g24.2; omega) (by have := g24.2; omega), l1, g7]
  refine pq_gd fun _ => ?_
  refine pq_sv fun S10 E10 => ?_
  refine pq_gd fun _ => ?_
  refine pq_sv fun S12 E12 => pq_some ?_
  have F5 : FX Wg S S5 := by rw [E5]; exact FX.rf.wr rfl
  have F10 : FX Wg S S10 := by rw [E10]; exact F5.wr rfl
  have F12 : FX Wg S S12 := by rw [E12]; exact F10.wr rfl
  refine ⟨F12, fun c' => ?_, fun c' k => ?_, fun u => ?_⟩
  · unfold hh
    rw [E12, ge_pua (by decide), E10, ge_pu]
    by_cases d : c' = c
    · rw [if_pos ⟨rfl, rfl, d⟩, if_pos d]; exact g8
    · rw [if_neg (fun q => d q.2.2), if_neg d, E5, ge_pua (by decide)]
  · unfold hq
    rw [E12, ge_pua (by decide), E10, ge_pua (by decide), E5, ge_pu]
    by_cases d : c' = c ∧ k = (hh S c).toNat
    · rw [if_pos ⟨rfl, d.1, d.2⟩, if_pos d]; exact ht
    · rw [if_neg (fun q => d q.2), if_neg d]
  · unfold hw
    rw [E12, ge_pu]
    by_cases d : u = t
    · rw [if_pos ⟨rfl, rfl, d⟩, if_pos d]; exact hc
    · rw [if_neg (fun q => d q.2.2), if_neg d, E10, ge_pua (by decide), E5, ge_pua (by decide)]
theorem q_goes {n : Int} {w : Nat → Int} (H : HB n w (hq S) (hh S)) (hp : p.toInt = (t : Int)) (hw0 : hw S t = (c : Int)) (hc : c < 64) (hj : (j : Int) < hh S c) (ht : hq S c j = (t : Int)) : pk (F_X7_goes p x S) (fun _ T => FX Wg S T ∧ (∀ c' : Nat, hh T c' = if c' = c then hh S c - 1 else hh S c') ∧ (∀ c' k : Nat, hq T c' k = if c' = c ∧ j ≤ k ∧ (k : Int) < hh S c - 1 then hq S c (k + 1) else hq S c' k) ∧ ∀ u : Nat, hw T u = if u = t then x.toInt else hw S u) := by
  have l1 : (1 : Int32).toInt = 1 := by decide
  unfold F_X7_goes
  rw [cnNq hp]
  refine pq_gd fun gt => ?_
  refine pq_iv fun x21 e21 => ?_
  have g21 : x21.toInt = (c : Int) := by rw [e21]; exact hw0
  refine pq_bd (q_levelOf H hp hw0 hc hj ht) (fun v22 T q => ?_)
  obtain ⟨rfl, hv⟩ := q
  refine pq_lp (fun (z : Int32 × Int32 × Int32 × Int32) T => z.1 = p ∧ z.2.1 = x ∧ z.2.2.1 = x21 ∧ FX Wg S T ∧ (∀ c' : Nat, hh T c' = hh S c') ∧ (∀ u : Nat, hw T u = hw S u) ∧ ∃ i : Nat, z.2.2.2.toInt = (i : Int) ∧ j ≤ i ∧ (i : Int) < hh S c ∧ ∀ c' k : Nat, hq T c' k = if c' = c ∧ j ≤ k ∧ k < i then hq S c (k + 1) else hq S c' k) (fun _ _ (_ : Int32) T => FX Wg S T ∧ (∀ c' : Nat, hh T c' = if c' = c then hh S c - 1 else hh S c') ∧ (∀ c' k : Nat, hq T c' k = if c' = c ∧ j ≤ k ∧ (k : Int) < hh S c - 1 then hq S c (k + 1) else hq S c' k) ∧ ∀ u : Nat, hw T u = if u = t then x.toInt else hw S u) ?_ fuel (p, x, x21, v22) S ⟨rfl, rfl, rfl, FX.rf, fun _ => rfl, fun _ => rfl, j, hv, Nat.le_refl _, hj, fun c' k => by rw [if_neg (by omega)]⟩
  intro k hk z T hI
  obtain ⟨a1, a2, a3, a4⟩ := z
  obtain ⟨h1, h2, h3, F, hH, hW, i, h4, h5, h6, hQ⟩ := hI
  dsimp only at h1 h2 h3 h4
  subst h1
  subst h2
  subst h3
  unfold B_X7_goes_14
  dsimp only
  rw [cnNq hp, cnNq g21, cnNq h4]
  refine pq_iv fun x1 e1 => ?_
  refine pq_gd fun _ => ?_
  refine pq_iv fun x3 e3 => ?_
  have g3 : x3.toInt = hh S c := by rw [← hH c, e3]; rfl
  have b3 := ti_bd x3
  have g1 : x1.toInt = ((i + 1 : Nat) : Int) := by rw [e1, ti_add (by omega) (by omega), l1]; omega
  refine pq_le (fun c1 => ?_) (fun c1 => ?_)
  · refine pq_gd fun _ => ?_
    refine pq_iv fun x6 e6 => ?_
    refine pq_iv fun x7 e7 => ?_
    have g7 : x7.toInt = hh S c - 1 := by rw [e7, e6, ← e3, ti_sub (by omega) (by omega), l1, g3]
    refine pq_gd fun _ => ?_
    refine pq_sv fun S9 E9 => ?_
    refine pq_gd fun _ => ?_
    refine pq_sv fun S11 E11 => pq_some ?_
    have F9 : FX Wg S S9 := by rw [E9]; exact F.wr rfl
    refine ⟨by rw [E11]; exact F9.wr rfl, fun c' => ?_, fun c' k' => ?_, fun u => ?_⟩
    · unfold hh
      rw [E11, ge_pua (by decide), E9, ge_pu]
      by_cases d : c' = c
      · rw [if_pos ⟨rfl, rfl, d⟩, if_pos d]; exact g7
      · rw [if_neg (fun q => d q.2.2), if_neg d]; exact hH c'
    · have e : hq S11 c' k' = hq T c' k' := by
        unfold hq
        rw [E11, ge_pua (by decide), E9, ge_pua (by decide)]
      rw [e, hQ]
      by_cases d : c' = c ∧ j ≤ k' ∧ k' < i
      · rw [if_pos d, if_pos ⟨d.1, d.2.1, by omega⟩]
      · rw [if_neg d, if_neg (fun q => d ⟨q.1, q.2.1, by omega⟩)]
    · unfold hw
      rw [E11, ge_pu]
      by_cases d : u = t
      · rw [if_pos ⟨rfl, rfl, d⟩, if_pos d]
      · rw [if_neg (fun q => d q.2.2), if_neg d, E9, ge_pua (by decide)]; exact hW u
  · refine pq_gd fun _ => pq_gd fun _ => ?_
    refine pq_iv fun x14 e14 => ?_
    have g14 : x14.toInt = ((i + 1 : Nat) : Int) := by rw [e14, ← e1]; exact g1
    rw [cnNq g14]
    refine pq_gd fun _ => ?_
    refine pq_iv fun x16 e16 => ?_
    refine pq_gd fun _ => ?_
    refine pq_sv fun S18 E18 => ?_
    refine pq_iv fun x19 e19 => ?_
    have g19 : x19.toInt = a4.toInt + 1 := by rw [e19]; exact ti_inc (by omega)
    refine hk (a1, a2, a3, x19) S18 ⟨rfl, rfl, rfl, by rw [E18]; exact F.wr rfl, fun c' => ?_, fun u => ?_, i + 1, by dsimp only; omega, by omega, by omega, fun c' k' => ?_⟩
    · unfold hh; rw [E18, ge_pua (by decide)]; exact hH c'
    · unfold hw; rw [E18, ge_pua (by decide)]; exact hW u
    · have e9 : hq S18 c' k' = if c' = c ∧ k' = i then hq T c (i + 1) else hq T c' k' := by
        unfold hq
        rw [E18, ge_pu]
        by_cases d : c' = c ∧ k' = i
        · rw [if_pos ⟨rfl, d.1, d.2⟩, if_pos d, e16]
        · rw [if_neg (fun q => d q.2), if_neg d]
      rw [e9]
      by_cases d : c' = c ∧ k' = i
      · rw [if_pos d, if_pos ⟨d.1, by omega, by omega⟩, hQ, if_neg (by omega), d.2]
      · rw [if_neg d, hQ]
        by_cases d2 : c' = c ∧ j ≤ k' ∧ k' < i
        · rw [if_pos d2, if_pos ⟨d2.1, d2.2.1, by omega⟩]
        · rw [if_neg d2, if_neg (fun q => d2 ⟨q.1, q.2.1, by
            by_cases z : k' = i
            · exact absurd ⟨q.1, z⟩ d
            · omega⟩)]
end HEQ
/-! the class's heaps: box r holds n things; w, hp, ht say where they lie -/
def CVq (S : fS) (r : Nat) (n : Int) (w : Nat → Int) (hp : Nat → Nat → Int) (ht : Nat → Int) : Prop :=
  HB n w hp ht ∧ CRl hp ht (fun c => (ge S 10 r c).toInt) (fun t => (ge S 9 r t).toInt) ∧ (ge S 2 r 0).toInt = n ∧ n ≤ 24 ∧ (∀ t : Nat, (t : Int) < n → (ge S 8 r t).toInt = w t ∧ -2 ≤ w t ∧ w t ≤ 63) ∧ ∀ c : Nat, c < 64 → 0 ≤ ht c
def Whq (r a i _j : Nat) : Bool := (Nat.beq a 8 || (Nat.beq a 9 || Nat.beq a 10)) && Nat.beq i r
