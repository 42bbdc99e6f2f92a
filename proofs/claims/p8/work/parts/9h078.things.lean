/-! thing, wire, key -/
section THG
variable {S : fS} {p p2 : Int32}
/-- what a thing tells -/
def TV (S : fS) (t : Nat) (p2 v : Int32) : Prop := (p2.toInt = 0 ∧ v.toInt = hw S t) ∨ (p2.toInt = 1 ∧ (hw S t < 0 → v.toInt = -1) ∧ ∀ c j : Nat, c < 64 → (j : Int) < hh S c → hq S c j = (t : Int) → v.toInt = (j : Int)) ∨ (p2.toInt = 2 ∧ v = ge S 46 0 t) ∨ (p2.toInt = 3 ∧ v = ge S 47 0 t) ∨ (p2.toInt = 4 ∧ v = ge S 48 0 t) ∨ ((p2.toInt ≠ 0 ∧ p2.toInt ≠ 1 ∧ p2.toInt ≠ 2 ∧ p2.toInt ≠ 3 ∧ p2.toInt ≠ 4) ∧ v = ge S 51 0 t)
theorem lies (H : HVq S) {t : Nat} (ht : (t : Int) < nq S) (h0 : 0 ≤ hw S t) : ∃ c j : Nat, hw S t = (c : Int) ∧ c < 64 ∧ (j : Int) < hh S c ∧ hq S c j = (t : Int) := by
  have b := (H.2.2.2 t ht).2
  obtain ⟨k, k1, k2⟩ := H.1.2.2 t ht h0
  exact ⟨(hw S t).toNat, k, by omega, by omega, k1, k2⟩
theorem TV.un (H : HVq S) {t : Nat} (ht : (t : Int) < nq S) {v u : Int32} (h : TV S t p2 v) (g : TV S t p2 u) : v = u := by
  rcases h with ⟨a, h⟩ | ⟨a, h, h'⟩ | ⟨a, h⟩ | ⟨a, h⟩ | ⟨a, h⟩ | ⟨a, h⟩ <;> rcases g with ⟨b, g⟩ | ⟨b, g, g'⟩ | ⟨b, g⟩ | ⟨b, g⟩ | ⟨b, g⟩ | ⟨b, g⟩ <;> first | (exfalso; omega) | skip
  · exact of_toInt (h.trans g.symm)
  · by_cases d : hw S t < 0
    · exact of_toInt ((h d).trans (g d).symm)
    · obtain ⟨c, j, _, c1, c2, c3⟩ := lies H ht (by omega)
      exact of_toInt ((h' c j c1 c2 c3).trans (g' c j c1 c2 c3).symm)
  · exact h.trans g.symm
  · exact h.trans g.symm
  · exact h.trans g.symm
  · exact h.trans g.symm
theorem t7_thing {t : Nat} (H : HVq S) (ht : (t : Int) < nq S) (hp : p.toInt = (t : Int)) (z : ge S 40 0 0 = 0) : pk (B_X7_thing_47 p p2 0 S) (fun v T => S = T ∧ TV S t p2 v) := by
  have lm1 : (-1 : Int32).toInt = -1 := by decide
  unfold B_X7_thing_47
  refine pg7_ok z (pq_bb (fun d => ?_) (fun d0 => pq_bb (fun d => ?_) (fun d1 => pq_bb (fun d => ?_) (fun d2 => pq_bb (fun d => ?_) (fun d3 => pq_bb (fun d => ?_) (fun d4 => ?_))))))
  · exact pq_gd fun _ => pq_iv fun x e => pq_some ⟨rfl, Or.inl ⟨d, by rw [e, cnNq hp]; rfl⟩⟩
  · refine pq_gd fun _ => pq_iv fun x e => ?_
    rw [cnNq hp] at e
    have ex : x.toInt = hw S t := by rw [e]; rfl
    refine pq_le (fun c => ?_) (fun c => pq_some ⟨rfl, Or.inr (Or.inl ⟨d, fun _ => lm1, fun c0 j hc hj ej => ?_⟩)⟩)
    · rw [l0', ex] at c
      obtain ⟨c0, j, hc, c1, c2, c3⟩ := lies H ht c
      refine pq_bd (q_levelOf H.1 hp hc c1 c2 c3) (fun v T q => ?_)
      obtain ⟨rfl, q⟩ := q
      refine pq_some ⟨rfl, Or.inr (Or.inl ⟨d, fun w => by omega, fun c' j' hc' hj' ej' => ?_⟩)⟩
      have a := H.1.1 c' j' hc' hj'
      rw [ej', Int.toNat_natCast] at a
      have : c' = c0 := by omega
      rw [this] at hj' ej'
      rw [q, H.1.2.1 c0 j j' c1 c2 hj' (by rw [c3, ej'])]
    · have a := H.1.1 c0 j hc hj
      rw [ej, Int.toNat_natCast] at a
      rw [l0'] at c
      omega
  · exact pq_gd fun _ => pq_iv fun x e => pq_some ⟨rfl, Or.inr (Or.inr (Or.inl ⟨d, by rw [e, cnNq hp]⟩))⟩
  · exact pq_gd fun _ => pq_iv fun x e => pq_some ⟨rfl, Or.inr (Or.inr (Or.inr (Or.inl ⟨d, by rw [e, cnNq hp]⟩)))⟩
  · exact pq_gd fun _ => pq_iv fun x e => pq_some ⟨rfl, Or.inr (Or.inr (Or.inr (Or.inr (Or.inl ⟨d, by rw [e, cnNq hp]⟩))))⟩
  · refine pq_gd fun _ => pq_iv fun x e => ?_
    rw [cnNq hp] at e
    have w := (H.2.2.2 t ht).1.2
    rw [← e] at w
    exact pq_bb (fun c => pq_some ⟨rfl, Or.inr (Or.inr (Or.inr (Or.inr (Or.inr ⟨⟨d0, d1, d2, d3, d4⟩, by rw [← e, c]⟩))))⟩) (fun c => pq_some ⟨rfl, Or.inr (Or.inr (Or.inr (Or.inr (Or.inr ⟨⟨d0, d1, d2, d3, d4⟩, by rw [← e]; exact (w.resolve_left c).symm⟩))))⟩)
theorem rk_thing (h : IV S) (z : ge S 40 0 0 = 0) : RK (fun ec => if ec = 0 then 0 else if ec = 1 then 2 else 1) (F_X6_thing p p2 S) (F_X7_thing p p2) := by
  obtain ⟨H, hO, B, _⟩ := h.2.2.2.1
  have en : (ge S 2 0 0).toInt = nq S := B.1.2.2.1
  have h0 := h.nq
  unfold RK F_X6_thing
  refine pq_iv fun x1 e1 => pg_el (by rw [e1, en]; exact h0) (fun hc => ?_) (fun hc => ?_)
  · have hc' : ie p (ge S 40 0 21) := ⟨hc.1, by have := hc.2; rw [e1, en] at this; exact this⟩
    obtain ⟨t, hp⟩ : ∃ t : Nat, p.toInt = (t : Int) := ⟨p.toInt.toNat, by have := hc.1; omega⟩
    have ht : (t : Int) < nq S := by have := hc'.2; rw [hp] at this; exact this
    obtain ⟨b3, b4, b5, b6, b7⟩ := B.2.1 t ht
    have b8 := (B.1.2.2.2.2.1 t ht).1
    refine pg_w (fun h2 => pg_n1 ?_) (fun h2 => pg_n0 ?_)
    · have fin : ∀ v : Int32, TV S t p2 v → pk (F_X7_thing p p2 S) (fun v2 T2 => RLv T2 ∧ ge T2 40 0 0 = 0 ∧ (0 = 0 → v = v2)) := by
        intro v hv
        unfold F_X7_thing
        refine pg7_0 z (pq_iv fun x e => pq_iv fun y ey => pg7_el (n := x) (by rw [e]; exact h0) ey (fun _ => pg_b1 ?_) (fun q => absurd (by rw [e]; exact hc') q))
        unfold B_X7_thing_25
        refine pg7_ok z (pg_7 (fun _ => pg_b1 ?_) (fun q => absurd h2 q))
        refine pq_imp (t7_thing H ht hp z) (fun v2 T q => ?_)
        obtain ⟨rfl, q⟩ := q
        exact ⟨h.2.2.2, z, fun _ => hv.un H ht q⟩
      refine pq_bb (fun d => ?_) (fun d0 => pq_bb (fun d => ?_) (fun d1 => pq_bb (fun d => ?_) (fun d2 => pq_bb (fun d => ?_) (fun d3 => pq_bb (fun d => ?_) (fun d4 => ?_)))))
      · exact pq_gd fun _ => pq_iv fun x e => pq_some (fin x (Or.inl ⟨d, by rw [e, cnNq hp]; exact b8⟩))
      · refine pq_bd (y_levelOf B.1 hp ht) (fun v T q => ?_)
        obtain ⟨rfl, q1, q2⟩ := q
        exact pq_some (fin v (Or.inr (Or.inl ⟨d, q1, q2⟩)))
      · exact pq_gd fun _ => pq_iv fun x e => pq_some (fin x (Or.inr (Or.inr (Or.inl ⟨d, by rw [e, cnNq hp]; exact b3⟩))))
      · exact pq_gd fun _ => pq_iv fun x e => pq_some (fin x (Or.inr (Or.inr (Or.inr (Or.inl ⟨d, by rw [e, cnNq hp]; exact b4⟩)))))
      · exact pq_gd fun _ => pq_iv fun x e => pq_some (fin x (Or.inr (Or.inr (Or.inr (Or.inr (Or.inl ⟨d, by rw [e, cnNq hp]; exact b5⟩))))))
      · exact pq_gd fun _ => pq_iv fun x e => pq_some (fin x (Or.inr (Or.inr (Or.inr (Or.inr (Or.inr ⟨⟨d0, d1, d2, d3, d4⟩, by rw [e, cnNq hp]; exact b6⟩))))))
    · unfold F_X7_thing
      refine pg7_0 z (pq_iv fun x e => pq_iv fun y ey => pg7_el (n := x) (by rw [e]; exact h0) ey (fun _ => pg_b1 ?_) (fun q => absurd (by rw [e]; exact hc') q))
      unfold B_X7_thing_25
      refine pg7_ok z (pg_7 (fun q => absurd q h2) (fun _ => pg_b0 ?_))
      unfold B_X7_thing_47
      exact pg7_no z (by decide) (pq_some (rk_no (x := (0, 0)) h (by decide) rfl))
  · have hc' : ¬ ie p (ge S 40 0 21) := fun q => hc ⟨q.1, by have := q.2; rw [e1, en]; exact this⟩
    unfold F_X7_thing
    refine pg7_0 z (pq_iv fun x e => pq_iv fun y ey => pg7_el (n := x) (by rw [e]; exact h0) ey (fun q => absurd (by rw [e] at q; exact q) hc') (fun _ => pg_b0 ?_))
    unfold B_X7_thing_25
    exact pg7_no z (by decide) (pq_some (rk_no (x := (0, 0)) h (by decide) rfl))
/-! wire -/
theorem nab (x : Int32) (h : x = 0 ∨ x = 1) : vp_nar .boolean x = x := by rcases h with rfl | rfl <;> rfl
theorem wire_RL (h : IV S) {t : Nat} {v : Int32} {T1 T2 : fS} (ht : (t : Int) < nq S) (hv : v = 0 ∨ v = 1) (E1 : T1 = pu S 6 0 t v) (E2 : T2 = pu T1 51 0 t v) : RLv T2 := by
  obtain ⟨H, hO, B, N, hP, hI, hs, hR, _⟩ := h.2.2.2.1
  have t24 := BV_in h ht
  have F1 : FX WBx S T1 := by rw [E1]; exact FX.rf.wr rfl
  have F2 : FX WBx S T2 := by rw [E2]; exact F1.wr rfl
  have g : ∀ a i j : Nat, a ≠ 6 → a ≠ 51 → ge T2 a i j = ge S a i j := fun a i j h1 h2 => by rw [E2, ge_pua h2, E1, ge_pua h1]
  have w6 : ∀ u : Nat, ge T2 6 0 u = if u = t then v else ge S 6 0 u := fun u => by
    rw [E2, ge_pua (by decide), E1, ge_pu]
    by_cases d : u = t
    · rw [if_pos ⟨rfl, rfl, d⟩, if_pos d]
    · rw [if_neg (fun q => d q.2.2), if_neg d]
  have w51 : ∀ u : Nat, ge T2 51 0 u = if u = t then v else ge S 51 0 u := fun u => by
    rw [E2, ge_pu, E1]
    by_cases d : u = t
    · rw [if_pos ⟨rfl, rfl, d⟩, if_pos d]
    · rw [if_neg (fun q => d q.2.2), if_neg d, ge_pua (by decide)]
  obtain ⟨HT, a1, a2, a3, a4⟩ := H.same (T := T2) (g _ _ _ (by decide) (by decide)) (fun _ => g _ _ _ (by decide) (by decide)) (fun _ _ => g _ _ _ (by decide) (by decide)) (fun _ => g _ _ _ (by decide) (by decide)) (fun _ => g _ _ _ (by decide) (by decide)) (fun u hu => by
    rw [w51]
    by_cases d : u = t
    · rw [if_pos d]; exact hv
    · rw [if_neg d]; exact (H.2.2.2 u hu).1.2)
  refine h.2.2.2.bx F2 HT ?_ (B.same a1 a2 a3 a4 (fun a j _ _ h6 => g _ _ _ h6 (by omega)) (fun u => ⟨g _ _ _ (by decide) (by decide), g _ _ _ (by decide) (by decide), g _ _ _ (by decide) (by decide), g _ _ _ (by decide) (by decide)⟩) (fun u hu => ?_) ?_ ?_) ?_ ?_ ?_ (hR.bx F2 (g _ _ _ (by decide) (by decide)) (g _ _ _ (by decide) (by decide)))
  · unfold HOq
    rw [g _ _ _ (by decide) (by decide)]; exact hO
  · rw [w6, w51, (B.2.1 u hu).2.2.2.1]
  · rw [g _ _ _ (by decide) (by decide), g _ _ _ (by decide) (by decide)]; exact B.2.2.1
  · rw [g _ _ _ (by decide) (by decide), g _ _ _ (by decide) (by decide)]; exact B.2.2.2
  · unfold NBq at *
    simp only [g _ _ _ (by decide : (1 : Nat) ≠ 6) (by decide : (1 : Nat) ≠ 51), g _ _ _ (by decide : (40 : Nat) ≠ 6) (by decide : (40 : Nat) ≠ 51)]
    exact N
  · unfold IFq at *
    rw [g 1 _ _ (by decide) (by decide), g 40 _ 15 (by decide) (by decide), g 40 _ 13 (by decide) (by decide)]
    exact hI
  · rw [g _ _ _ (by decide) (by decide), g _ _ _ (by decide) (by decide)]; exact hs
theorem rk_wire (h : IV S) (z : ge S 40 0 0 = 0) (h2 : p2 = 0 ∨ p2 = 1) : RK (fun ec => if ec = 0 then 0 else 1) (F_X6_wire p p2 S) (F_X7_wire p p2) := by
  obtain ⟨H, hO, B, _⟩ := h.2.2.2.1
  have en : (ge S 2 0 0).toInt = nq S := B.1.2.2.1
  have h0 := h.nq
  unfold RK F_X6_wire
  refine pq_iv fun x1 e1 => pg_el (by rw [e1, en]; exact h0) (fun hc => ?_) (fun hc => ?_)
  · have hc' : ie p (ge S 40 0 21) := ⟨hc.1, by have := hc.2; rw [e1, en] at this; exact this⟩
    obtain ⟨t, hp⟩ : ∃ t : Nat, p.toInt = (t : Int) := ⟨p.toInt.toNat, by have := hc.1; omega⟩
    have ht : (t : Int) < nq S := by have := hc'.2; rw [hp] at this; exact this
    have b6 := (B.2.1 t ht).2.2.2.1
    have w := (H.2.2.2 t ht).1.2
    refine pq_gd fun _ => pq_iv fun x e => ?_
    rw [cnNq hp, b6] at e
    have fin : ∀ (v : Int32) (T1 : fS), v = ge S 51 0 t → T1 = pu S 6 0 t p2 → pk (F_X7_wire p p2 T1) (fun v2 T2 => RLv T2 ∧ ge T2 40 0 0 = 0 ∧ (0 = 0 → v = v2)) := by
      intro v T1 hv E1
      have z1 : ge T1 40 0 0 = 0 := by rw [E1, ge_pua (by decide)]; exact z
      have n1 : ge T1 40 0 21 = ge S 40 0 21 := by rw [E1, ge_pua (by decide)]
      unfold F_X7_wire
      refine pg7_0 z1 (pq_iv fun x e => pq_iv fun y ey => pg7_el (n := x) (by rw [e, n1]; exact h0) ey (fun _ => pg_b1 ?_) (fun q => absurd (by rw [e, n1]; exact hc') q))
      unfold B_X7_wire_25
      refine pg7_ok z1 (pq_gd fun _ => pq_iv fun x6 e6 => pq_gd fun _ => pq_sv fun T2 E2 => pq_gd fun _ => pq_some ⟨?_, ?_, fun _ => ?_⟩)
      · rw [cnNq hp, nab p2 h2] at E2
        exact wire_RL h ht h2 E1 E2
      · rw [E2, ge_pua (by decide)]; exact z1
      · rw [hv, e6, cnNq hp, E1, ge_pua (by decide)]
    have step : ∀ v : Int32, v = ge S 51 0 t → pk (B_X6_wire_35 p p2 v S) (fun r T1 => pk (F_X7_wire p p2 T1) (fun v2 T2 => RLv T2 ∧ ge T2 40 0 0 = (if r.1 = 0 then 0 else 1) ∧ (r.1 = 0 → r.2 = v2))) := by
      intro v hv
      unfold B_X6_wire_35
      refine pq_bb (fun d => ?_) (fun d => ?_)
      · unfold B_X6_wire_56
        refine pq_gd fun _ => pq_sv fun T1 E1 => pq_gd fun _ => pq_some (fin v T1 hv ?_)
        rw [E1, cnNq hp, d]
      · unfold B_X6_wire_56
        refine pq_gd fun _ => pq_sv fun T1 E1 => pq_gd fun _ => pq_some (fin v T1 hv ?_)
        rw [E1, cnNq hp, h2.resolve_left d]
    rw [← e] at w step
    exact pq_bb (fun d => step 1 d.symm) (fun d => step 0 (w.resolve_right d).symm)
  · have hc' : ¬ ie p (ge S 40 0 21) := fun q => hc ⟨q.1, by have := q.2; rw [e1, en]; exact this⟩
    unfold F_X7_wire
    refine pg7_0 z (pq_iv fun x e => pq_iv fun y ey => pg7_el (n := x) (by rw [e]; exact h0) ey (fun q => absurd (by rw [e] at q; exact q) hc') (fun _ => pg_b0 ?_))
    unfold B_X7_wire_25
    exact pg7_no z (by decide) (pq_some (rk_no (x := (0, 0)) h (by decide) rfl))
end THG
