/-! the reference's walker: numbers, names -/
section REU
variable {S T U : fS}
theorem nuv_bd {b : Nat → Int} {p : Nat} (h : ∀ i : Nat, p ≤ i → i < rn b 48 57 p → 48 ≤ b i ∧ b i ≤ 57) : ∀ k : Nat, p + k ≤ rn b 48 57 p → 0 ≤ nuv b p k
  | 0, _ => Int.le_refl _
  | k + 1, hk => by
    have a := nuv_bd h k (by omega)
    have c := h (p + k) (by omega) (by omega)
    show 0 ≤ 10 * nuv b p k + (b (p + k) - 48)
    omega
theorem e_isDigit (p0 : Int32) (S : fS) : zk (F_X7_isDigit p0 S) (fun v T => S = T ∧ ((v.toInt = 0 ∧ ¬ (48 ≤ p0.toInt ∧ p0.toInt ≤ 57)) ∨ (v.toInt = 1 ∧ 48 ≤ p0.toInt ∧ p0.toInt ≤ 57))) := by
  have l0 : (0 : Int32).toInt = 0 := by decide
  have l1 : (1 : Int32).toInt = 1 := by decide
  have l48 : (48 : Int32).toInt = 48 := by decide
  have l57 : (57 : Int32).toInt = 57 := by decide
  unfold F_X7_isDigit
  exact zk_lt (fun c => zk_some ⟨rfl, by omega⟩) (fun c => zk_lt (fun c2 => zk_some ⟨rfl, by omega⟩) (fun c2 => zk_some ⟨rfl, by omega⟩))
def cap (v : Int) : Int := if v ≤ 10000 then v else 10000
theorem x_number (R : RI S) (hf : (ge S 40 0 6).toInt = 0) : zk (F_X7_number S) (fun v T => XS S T ∧ ((nuv (bt S) (at7 S) (rn (bt S) 48 57 (at7 S) - at7 S) ≤ 999 ∧ (ge T 40 0 6).toInt = 0 ∧ at7 T = rn (bt S) 48 57 (at7 S) ∧ v.toInt = nuv (bt S) (at7 S) (rn (bt S) 48 57 (at7 S) - at7 S)) ∨ (999 < nuv (bt S) (at7 S) (rn (bt S) 48 57 (at7 S) - at7 S) ∧ ge T 40 0 6 = 2 ∧ (ge T 40 0 7).toInt = (at7 S : Int)))) := by
  have l0 : (0 : Int32).toInt = 0 := by decide
  have l1 : (1 : Int32).toInt = 1 := by decide
  have l10 : (10 : Int32).toInt = 10 := by decide
  have l48 : (48 : Int32).toInt = 48 := by decide
  have l999 : (999 : Int32).toInt = 999 := by decide
  have l10000 : (10000 : Int32).toInt = 10000 := by decide
  have htx := bt_txt R
  have hin : ∀ i : Nat, at7 S ≤ i → i < rn (bt S) 48 57 (at7 S) → 48 ≤ bt S i ∧ bt S i ≤ 57 := fun i h1 h2 => rn_in h1 h2
  have hrl := rn_le (b := bt S) (lo := 48) (hi := 57) (at7 S)
  have hrn := rn_ne (b := bt S) (lo := 48) (hi := 57) htx (by decide) (at7 S)
  unfold F_X7_number
  refine zk_iv fun x24 e24 => ?_
  have g24 : x24.toInt = (at7 S : Int) := by rw [e24]; exact (at7_eq R).symm
  refine zk_lp (fun (z : Int32 × Int32) T => z.1 = x24 ∧ MV S T (at7 T) ∧ at7 S ≤ at7 T ∧ at7 T ≤ rn (bt S) 48 57 (at7 S) ∧ z.2.toInt = cap (nuv (bt S) (at7 S) (at7 T - at7 S))) (fun (_ : Int32 × Int32) T => (302 - (ge T 40 0 4).toInt).toNat) (fun _ _ (v : Int32) T => XS S T ∧ ((nuv (bt S) (at7 S) (rn (bt S) 48 57 (at7 S) - at7 S) ≤ 999 ∧ (ge T 40 0 6).toInt = 0 ∧ at7 T = rn (bt S) 48 57 (at7 S) ∧ v.toInt = nuv (bt S) (at7 S) (rn (bt S) 48 57 (at7 S) - at7 S)) ∨ (999 < nuv (bt S) (at7 S) (rn (bt S) 48 57 (at7 S) - at7 S) ∧ ge T 40 0 6 = 2 ∧ (ge T 40 0 7).toInt = (at7 S : Int)))) ?_ (x24, 0) S ⟨rfl, MV.rf R, Nat.le_refl _, hrl, by show (0 : Int32).toInt = cap (nuv (bt S) (at7 S) (at7 S - at7 S)); rw [Nat.sub_self]; exact l0⟩ (by have := R.at; show (302 - (ge S 40 0 4).toInt).toNat < 4294967296; omega)
  intro k z T hI hk
  obtain ⟨a1, a2⟩ := z
  obtain ⟨h1, u, h2, h3, h4⟩ := hI
  dsimp only at h1 h4
  subst h1
  have RT := u.1
  have g := RT.at
  have gs := RT.sz
  have ha := at7_eq RT
  have hb : bt T = bt S := u.tx
  have ft : (ge T 40 0 6).toInt = 0 := by rw [u.2.1.1 40 0 6 rfl]; exact hf
  have sz : (ge T 40 0 2).toInt = (ge S 40 0 2).toInt := congrArg Int32.toInt (u.2.1.1 40 0 2 rfl)
  have ux : XS S T := u.xs R h2 (by
    by_cases c : at7 T = at7 S
    · exact Or.inr c
    · have := rn_inT (S := S) R (lo := 48) (hi := 57) (by decide) (at7 S)
      exact Or.inl (by omega))
  have n0 := nuv_bd hin (at7 T - at7 S) (by omega)
  unfold B_X7_number_7
  dsimp only
  refine zk_iv fun x e => ?_
  subst e
  refine zk_bd (e_byteAt _ RT (p := at7 T) (by omega) (by omega)) (fun v U h => ?_)
  obtain ⟨rfl, hv⟩ := h
  rw [hb] at hv
  refine zk_bd (e_isDigit v T) (fun v2 U h => ?_)
  obtain ⟨rfl, hd⟩ := h
  refine zk_eq (fun c => ?_) (fun c => ?_)
  · have e9 : at7 T = rn (bt S) 48 57 (at7 S) := by
      by_cases d : at7 T = rn (bt S) 48 57 (at7 S)
      · exact d
      · have := hin (at7 T) h2 (by omega)
        omega
    rw [e9] at h4
    rw [e9] at n0
    unfold cap at h4
    refine zk_le (fun c2 => zk_some ⟨ux, Or.inl ?_⟩) (fun c2 => ?_)
    · by_cases c3 : nuv (bt S) (at7 S) (rn (bt S) 48 57 (at7 S) - at7 S) ≤ 10000
      · rw [if_pos c3] at h4
        exact ⟨by omega, ft, e9, h4⟩
      · rw [if_neg c3] at h4
        omega
    · refine zk_bd (x_wrong 2 a1 RT (by decide)) (fun _ V h => zk_some ⟨ux.tr h.1, Or.inr ⟨?_, (h.2.2.2 ft).1, ?_⟩⟩)
      · by_cases c3 : nuv (bt S) (at7 S) (rn (bt S) 48 57 (at7 S) - at7 S) ≤ 10000
        · rw [if_pos c3] at h4
          omega
        · omega
      · rw [(h.2.2.2 ft).2]
        exact g24
  · have hdg : 48 ≤ bt S (at7 T) ∧ bt S (at7 T) ≤ 57 := by omega
    have hlt : at7 T < rn (bt S) 48 57 (at7 S) := by
      by_cases d : at7 T = rn (bt S) 48 57 (at7 S)
      · rw [← d] at hrn
        exact absurd hdg hrn
      · omega
    have hsz := bt_lt RT (p := at7 T) (by rw [hb]; omega)
    have ca : a2.toInt ≤ 10000 ∧ 0 ≤ a2.toInt := by
      rw [h4]
      unfold cap
      by_cases c3 : nuv (bt S) (at7 S) (at7 T - at7 S) ≤ 10000
      · rw [if_pos c3]; exact ⟨c3, n0⟩
      · rw [if_neg c3]; exact ⟨by decide, by decide⟩
    refine zk_iv fun x16 e16 => ?_
    have g16 : x16.toInt = 10 * a2.toInt := by rw [e16]; exact ti_mulc (c := 10) (by decide) (by omega) (by omega)
    refine zk_iv fun x17 e17 => ?_
    subst e17
    refine zk_bd (e_byteAt _ RT (p := at7 T) (by omega) (by omega)) (fun v18 U h => ?_)
    obtain ⟨rfl, hv18⟩ := h
    rw [hb] at hv18
    refine zk_iv fun x21 e21 => ?_
    have g21 : x21.toInt = x16.toInt + v18.toInt := by rw [e21]; exact ti_add (by omega) (by omega)
    refine zk_iv fun x22 e22 => ?_
    have g22 : x22.toInt = x21.toInt - (48 : Int32).toInt := by rw [e22]; exact ti_sub (by omega) (by omega)
    have nx : nuv (bt S) (at7 S) (at7 T + 1 - at7 S) = 10 * nuv (bt S) (at7 S) (at7 T - at7 S) + (bt S (at7 T) - 48) := by
      rw [show at7 T + 1 - at7 S = (at7 T - at7 S) + 1 from by omega]
      show 10 * nuv (bt S) (at7 S) (at7 T - at7 S) + (bt S (at7 S + (at7 T - at7 S)) - 48) = _
      rw [show at7 S + (at7 T - at7 S) = at7 T from by omega]
    have J : ∀ t : Int32, t.toInt = cap (nuv (bt S) (at7 S) (at7 T + 1 - at7 S)) → zk (B_X7_number_52 k a1 t T) (fun v T => XS S T ∧ ((nuv (bt S) (at7 S) (rn (bt S) 48 57 (at7 S) - at7 S) ≤ 999 ∧ (ge T 40 0 6).toInt = 0 ∧ at7 T = rn (bt S) 48 57 (at7 S) ∧ v.toInt = nuv (bt S) (at7 S) (rn (bt S) 48 57 (at7 S) - at7 S)) ∨ (999 < nuv (bt S) (at7 S) (rn (bt S) 48 57 (at7 S) - at7 S) ∧ ge T 40 0 6 = 2 ∧ (ge T 40 0 7).toInt = (at7 S : Int)))) := by
      intro t ht
      unfold B_X7_number_52
      refine zk_iv fun x e => ?_
      subst e
      refine zk_iv fun y e => ?_
      have gy : y.toInt = ((at7 T + 1 : Nat) : Int) := by rw [e, ti_add (by omega) (by omega), l1]; omega
      refine zk_sv fun V E => ?_
      have w : MV T V (at7 T + 1) := by rw [E]; exact MV.up RT gy (by omega)
      have e4 : ge V 40 0 4 = y := by rw [E]; exact ge_pus
      exact hk (a1, t) V ⟨rfl, by rw [w.2.2]; exact u.tr w, by rw [w.2.2]; omega, by rw [w.2.2]; omega, by rw [w.2.2]; exact ht⟩ (by show (302 - (ge V 40 0 4).toInt).toNat < (302 - (ge T 40 0 4).toInt).toNat; rw [e4]; omega)
    have hcap : (if x22.toInt ≤ 10000 then x22.toInt else 10000) = cap (nuv (bt S) (at7 S) (at7 T + 1 - at7 S)) := by
      unfold cap at h4 ⊢
      rw [nx]
      by_cases c3 : nuv (bt S) (at7 S) (at7 T - at7 S) ≤ 10000
      · rw [if_pos c3] at h4
        rw [show x22.toInt = 10 * nuv (bt S) (at7 S) (at7 T - at7 S) + (bt S (at7 T) - 48) from by omega]
      · rw [if_neg c3] at h4
        rw [if_neg (by omega), if_neg (by omega)]
    exact zk_le (fun c3 => J _ (by rw [← hcap, if_pos (by omega)])) (fun c3 => J _ (by rw [← hcap, if_neg (by omega)]; exact l10000))
theorem x_nameHere (R : RI S) (law : Bool) (hl : law = decide (¬ ge S 40 0 16 = 0)) : zk (F_X7_nameHere S) (fun v T => MV S T (sk (bt S) (at7 S)) ∧ v.toInt = nmv (bt S) law (sk (bt S) (at7 S))) := by
  have lm1 : (-1 : Int32).toInt = -1 := by decide
  have l0 : (0 : Int32).toInt = 0 := by decide
  have htx := bt_txt R
  have W : ∀ (T : fS) (p1 p2 p3 p4 p5 : Int32), (MV S T (sk (bt S) (at7 S)) ∨ T = S) → zk (F_X7_isWord p1 p2 p3 p4 p5 T) (fun v U => MV S U (sk (bt S) (at7 S)) ∧ ((v.toInt = 1 ∧ wc (bt S) (sk (bt S) (at7 S)) = (wd p1 p2 p3 p4 p5).toInt) ∨ (v.toInt = 0 ∧ ¬ wc (bt S) (sk (bt S) (at7 S)) = (wd p1 p2 p3 p4 p5).toInt))) := by
    intro T p1 p2 p3 p4 p5 h
    rcases h with h | h
    · refine zk_imp (e_isWord p1 p2 p3 p4 p5 h.1) (fun v U q => ?_)
      rw [h.tx, h.2.2, sk_sk htx] at q
      exact ⟨h.tr q.1, q.2⟩
    · rw [h]
      exact e_isWord p1 p2 p3 p4 p5 R
  unfold F_X7_nameHere nmv
  refine zk_bd (W S _ _ _ _ _ (Or.inr rfl)) (fun v T q => ?_)
  obtain ⟨u, q⟩ := q
  rw [show (wd 20 18 9 5 19).toInt = 10989829 from by decide] at q
  refine zk_eq (fun c => ?_) (fun c => zk_some ⟨u, by rw [if_pos (by omega)]; decide⟩)
  rw [if_neg (by omega)]
  refine zk_bd (W T _ _ _ _ _ (Or.inl u)) (fun v T q => ?_)
  obtain ⟨u, q⟩ := q
  rw [show (wd 19 9 14 3 5).toInt = 10284818 from by decide] at q
  refine zk_eq (fun c => ?_) (fun c => zk_some ⟨u, by rw [if_pos (by omega)]; decide⟩)
  rw [if_neg (by omega)]
  refine zk_bd (W T _ _ _ _ _ (Or.inl u)) (fun v T q => ?_)
  obtain ⟨u, q⟩ := q
  rw [show (wd 3 15 9 14 19).toInt = 1896526 from by decide] at q
  refine zk_eq (fun c => ?_) (fun c => zk_some ⟨u, by rw [if_pos (by omega)]; decide⟩)
  rw [if_neg (by omega)]
  refine zk_bd (W T _ _ _ _ _ (Or.inl u)) (fun v T q => ?_)
  obtain ⟨u, q⟩ := q
  rw [show (wd 16 1 9 4 0).toInt = 315904 from by decide] at q
  refine zk_eq (fun c => ?_) (fun c => zk_some ⟨u, by rw [if_pos (by omega)]; decide⟩)
  rw [if_neg (by omega)]
  refine zk_bd (W T _ _ _ _ _ (Or.inl u)) (fun v T q => ?_)
  obtain ⟨u, q⟩ := q
  rw [show (wd 8 15 21 18 0).toInt = 168984 from by decide] at q
  refine zk_eq (fun c => ?_) (fun c => zk_some ⟨u, by rw [if_pos (by omega)]; decide⟩)
  rw [if_neg (by omega)]
  refine zk_bd (W T _ _ _ _ _ (Or.inl u)) (fun v T q => ?_)
  obtain ⟨u, q⟩ := q
  rw [show (wd 12 15 20 0 0).toInt = 9173 from by decide] at q
  refine zk_eq (fun c => ?_) (fun c => zk_some ⟨u, by rw [if_pos (by omega)]; decide⟩)
  rw [if_neg (by omega)]
  refine zk_iv fun x e => ?_
  have ex : x = ge S 40 0 16 := by rw [e]; exact u.2.1.1 40 0 16 rfl
  refine zk_bb (fun c => zk_some ⟨u, ?_⟩) (fun c => ?_)
  · have hl0 : law = false := by rw [hl, ← ex, c]; rfl
    rw [if_neg (by rw [hl0]; exact fun q => absurd q.1 (by decide))]
    decide
  · have hl1 : law = true := by rw [hl, ← ex]; exact decide_eq_true c
    refine zk_bd (W T _ _ _ _ _ (Or.inl u)) (fun v T q => ?_)
    obtain ⟨u, q⟩ := q
    rw [show (wd 3 1 14 0 0).toInt = 2228 from by decide] at q
    refine zk_eq (fun c => zk_some ⟨u, ?_⟩) (fun c => zk_some ⟨u, ?_⟩)
    · rw [if_neg (fun z => by omega)]; decide
    · rw [if_pos ⟨hl1, by omega⟩]; decide
end REU
