/-! heaps as lists -/
def HLv (hp : Nat → Nat → Int) (ht : Nat → Int) (c : Nat) : List Nat := (List.range (ht c).toNat).map (fun k => (hp c k).toNat)
section HLS
variable {n : Int} {w : Nat → Int} {hp hp' : Nat → Nat → Int} {ht ht' : Nat → Int} {c c' t j : Nat}
theorem HLv_len : (HLv hp ht c).length = (ht c).toNat := by unfold HLv; rw [List.length_map, List.length_range]
theorem HLv_at {k : Nat} (h : k < (ht c).toNat) : (HLv hp ht c)[k]? = some (hp c k).toNat := by
  unfold HLv
  rw [List.getElem?_map, List.getElem?_range h]
  rfl
/-- the lists say where all lies -/
theorem HLv_eq (H : HB n w hp ht) (H' : HB n w hp' ht') (h0 : 0 ≤ ht c) (h0' : 0 ≤ ht' c) (hc : c < 64) (h : HLv hp ht c = HLv hp' ht' c) : ht' c = ht c ∧ ∀ k : Nat, (k : Int) < ht c → hp' c k = hp c k := by
  have e := congrArg List.length h
  rw [HLv_len, HLv_len] at e
  refine ⟨by omega, fun k hk => ?_⟩
  have a := HLv_at (hp := hp) (ht := ht) (c := c) (k := k) (by omega)
  have b := HLv_at (hp := hp') (ht := ht') (c := c) (k := k) (by omega)
  rw [h, b] at a
  have a := Option.some.inj a
  have x := H.1 c k hc hk
  have y := H'.1 c k hc (by omega)
  omega
theorem HLv_P (h0 : 0 ≤ ht c) : HLv (hpP hp ht c t) (htP ht c) c' = if c' = c then HLv hp ht c ++ [t] else HLv hp ht c' := by
  by_cases d : c' = c
  · subst d
    rw [if_pos rfl]
    apply List.ext_getElem?
    intro k
    have l1 : (HLv hp ht c').length = (ht c').toNat := HLv_len
    have hT : (htP ht c' c').toNat = (ht c').toNat + 1 := by unfold htP; rw [if_pos rfl]; omega
    by_cases k1 : k < (ht c').toNat
    · rw [HLv_at (by omega), List.getElem?_append_left (by omega), HLv_at k1]
      unfold hpP
      rw [if_neg (by omega)]
    · by_cases k2 : k = (ht c').toNat
      · rw [HLv_at (by omega), List.getElem?_append_right (by omega), l1, k2, Nat.sub_self]
        unfold hpP
        rw [if_pos ⟨rfl, by omega⟩, Int.toNat_natCast]
        rfl
      · rw [List.getElem?_eq_none (by rw [HLv_len]; omega), List.getElem?_eq_none (by rw [List.length_append, l1]; show (ht c').toNat + 1 ≤ k; omega)]
  · rw [if_neg d]
    unfold HLv htP hpP
    rw [if_neg d]
    apply List.map_congr_left
    intro k _
    rw [if_neg (fun q => d q.1)]
theorem er_fi : ∀ (l : List Nat) (j : Nat), l[j]? = some t → (∀ k : Nat, k ≠ j → l[k]? ≠ some t) → l.eraseIdx j = l.filter (fun u => decide (u ≠ t))
  | [], _, h, _ => by cases h
  | x :: r, 0, h, h2 => by
    have e : x = t := Option.some.inj h
    subst e
    have nt : ∀ u, u ∈ r → decide (u ≠ x) = true := by
      intro u hu
      obtain ⟨k, hk⟩ := List.getElem?_of_mem hu
      exact decide_eq_true (fun e => h2 (k + 1) (by omega) (by rw [e] at hk; exact hk))
    show r = List.filter _ (x :: r)
    rw [List.filter_cons, if_neg (by rw [decide_eq_true_eq]; exact fun q => q rfl), List.filter_eq_self.2 nt]
  | x :: r, j + 1, h, h2 => by
    have hx : x ≠ t := fun e => h2 0 (by omega) (by rw [e]; rfl)
    show x :: r.eraseIdx j = List.filter _ (x :: r)
    rw [List.filter_cons, if_pos (decide_eq_true hx), er_fi r j h (fun k hk q => h2 (k + 1) (by omega) q)]
theorem HLv_T (H : HB n w hp ht) (hc : c < 64) (hj : (j : Int) < ht c) (htj : hp c j = (t : Int)) (hc' : c' < 64) : HLv (hpT hp ht c j) (htT ht c) c' = (HLv hp ht c').filter (fun u => decide (u ≠ t)) := by
  by_cases d : c' = c
  · subst d
    rw [← er_fi (HLv hp ht c') j (by rw [HLv_at (by omega), htj, Int.toNat_natCast]) (fun k hk q => by
      by_cases z : k < (ht c').toNat
      · rw [HLv_at z] at q
        have q := Option.some.inj q
        have a := H.1 c' k hc (by omega)
        exact hk (H.2.1 c' k j hc (by omega) hj (by omega))
      · rw [List.getElem?_eq_none (by rw [HLv_len]; omega)] at q
        cases q)]
    apply List.ext_getElem?
    intro k
    have hT : (htT ht c' c').toNat = (ht c').toNat - 1 := by unfold htT; rw [if_pos rfl]; omega
    rw [List.getElem?_eraseIdx]
    by_cases k1 : k < (ht c').toNat - 1
    · rw [HLv_at (by omega)]
      unfold hpT
      by_cases k2 : k < j
      · rw [if_pos k2, if_neg (by omega), HLv_at (by omega)]
      · rw [if_neg k2, if_pos ⟨rfl, by omega, by omega⟩, HLv_at (by omega)]
    · rw [List.getElem?_eq_none (by rw [HLv_len]; omega), if_neg (by omega), List.getElem?_eq_none (by rw [HLv_len]; omega)]
  · have nt : ∀ u, u ∈ HLv hp ht c' → decide (u ≠ t) = true := by
      intro u hu
      obtain ⟨k, hk⟩ := List.getElem?_of_mem hu
      by_cases z : k < (ht c').toNat
      · rw [HLv_at z] at hk
        have hk := Option.some.inj hk
        have a := H.1 c' k hc' (by omega)
        have b := H.1 c j hc hj
        refine decide_eq_true (fun e => d ?_)
        rw [htj, Int.toNat_natCast] at b
        rw [hk, e] at a
        omega
      · rw [List.getElem?_eq_none (by rw [HLv_len]; omega)] at hk
        cases hk
    rw [List.filter_eq_self.2 nt]
    unfold HLv htT hpT
    rw [if_neg d]
    apply List.map_congr_left
    intro k _
    rw [if_neg (fun q => d q.1)]
end HLS
