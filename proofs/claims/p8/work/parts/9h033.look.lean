/-! what is gripped: the class -/
def Wlk (r a i j : Nat) : Bool := (Nat.beq a 26 || (Nat.beq a 25 && (Nat.beq j 0 || (Nat.beq j 1 || (Nat.beq j 2 || (Nat.beq j 10 || (Nat.beq j 11 || (Nat.beq j 12 || (Nat.beq j 13 || (Nat.beq j 14 || Nat.beq j 16)))))))))) && Nat.beq i r
def Wtk (r a i j : Nat) : Bool := (Nat.beq a 26 || (Nat.beq a 25 && (Nat.beq j 1 || (Nat.beq j 14 || Nat.beq j 16)))) && Nat.beq i r
theorem Wtk_l (r : Nat) : ∀ a i j : Nat, Wlk r a i j = false → Wtk r a i j = false := by
  intro a i j h
  unfold Wlk at h
  unfold Wtk
  cases h1 : Nat.beq i r
  · rw [Bool.and_false]
  · rw [h1, Bool.and_true] at h
    rw [Bool.and_true]
    cases h2 : Nat.beq a 26 <;> cases h3 : Nat.beq a 25 <;> rw [h2, h3] at h <;> first | rfl | (cases h) | skip
    cases b1 : Nat.beq j 1 <;> cases b2 : Nat.beq j 14 <;> cases b3 : Nat.beq j 16 <;> rw [b1, b2, b3] at h <;> first | rfl | skip
    all_goals
      exfalso
      cases c1 : Nat.beq j 0 <;> cases c2 : Nat.beq j 2 <;> cases c3 : Nat.beq j 10 <;> cases c4 : Nat.beq j 11 <;> cases c5 : Nat.beq j 12 <;> cases c6 : Nat.beq j 13 <;> rw [c1, c2, c3, c4, c5, c6] at h <;> cases h
/-- a try of the class has gripped L -/
def GTq (S T : fS) (r : Nat) (L : List Nat) : Prop := (ge T 25 r 16).toInt = (L.length : Int) ∧ (∀ k : Nat, k < L.length → (ge T 26 r k).toInt = ((L.getD k 0 : Nat) : Int)) ∧ ge T 25 r 14 = wsm S L ∧ ge T 25 r 1 = (if wrd S L then 4 else 6)
def hoN (S : fS) : Nat := (ge S 40 0 30).toNatClampNeg
def LOq (S T : fS) (r c : Nat) : Prop := (ge T 25 r 0).toInt = (c : Int) ∧ ge T 25 r 10 = ge S 40 0 30 ∧ ge T 25 r 2 = -1 ∧ ((mis S c ∧ ge T 25 r 1 = 0 ∧ ge T 25 r 16 = 0 ∧ ge T 25 r 14 = 0) ∨ (¬ mis S c ∧ GTq S T r (gL S c) ∧ TYq T r c (hoN S) (upq S c) (wsm S (gL S c))))
section LOO
variable {S T : fS} {r r1 c d t : Nat} {p lk : Int32} {L : List Nat}
theorem y_take (H : HVq S) (B : BVq S r1) (h : GTq S T r L) (F : FX (Wlk r) S T) (hp : p.toInt = (t : Int)) (ht : (t : Int) < nq S) (h5 : L.length < 5) : pk (F_X5_take r r1 p T) (fun _ U => FX (Wtk r) T U ∧ GTq S U r (L ++ [t])) := by
  have l0 : (0 : Int32).toInt = 0 := by decide
  have l1 : (1 : Int32).toInt = 1 := by decide
  have l5 : (5 : Int32).toInt = 5 := by decide
  obtain ⟨h1, h2, h3, h4⟩ := h
  have bt := B.2.1 t ht
  have BT : CVq T r1 (nq S) (hw S) (hq S) (hh S) := B.1.fx F (fun _ => rfl) (fun _ => rfl) (fun _ => rfl) (fun _ => rfl)
  have w01 := (H.2.2.2 t ht).1.2
  unfold F_X5_take
  refine pq_iv fun x2 e2 => ?_
  have g2 : x2.toInt = (L.length : Int) := by rw [e2]; exact h1
  refine pq_le (fun c => absurd c (by omega)) (fun _ => ?_)
  refine pq_bd (y_known1 BT hp ht) (fun v4 U q => ?_)
  obtain ⟨rfl, q4⟩ := q
  refine pq_eq (fun c => absurd c (by omega)) (fun _ => ?_)
  refine pq_iv fun x8 e8 => ?_
  have g8 : x8.toInt = (L.length : Int) := by rw [e8]; exact h1
  rw [cnNq g8, cnNq hp]
  refine pq_gd fun _ => ?_
  refine pq_sv fun S10 E10 => ?_
  refine pq_iv fun x11 e11 => ?_
  rw [E10, ge_pua (by decide)] at e11
  refine pq_iv fun x12 e12 => ?_
  have g12 : x12.toInt = ((L.length + 1 : Nat) : Int) := by rw [e12, e11, ← e8, ti_add (by omega) (by omega), l1]; omega
  refine pq_sv fun S13 E13 => ?_
  refine pq_iv fun x14 e14 => ?_
  rw [E13, ge_puj (by decide), E10, ge_pua (by decide), h3] at e14
  refine pq_gd fun _ => ?_
  refine pq_iv fun x16 e16 => ?_
  rw [E13, ge_pua (by decide), E10, ge_pua (by decide), F.1 3 r1 t rfl, bt.1] at e16
  refine pq_iv fun x17 e17 => ?_
  refine pq_sv fun S18 E18 => ?_
  refine pq_gd fun _ => ?_
  refine pq_iv fun x20 e20 => ?_
  rw [E18, ge_pua (by decide), E13, ge_pua (by decide), E10, ge_pua (by decide), F.1 6 r1 t rfl, bt.2.2.2.1] at e20
  have F10 : FX (Wtk r) T S10 := by rw [E10]; exact FX.rf.wr (Nat.beq_refl r)
  have F13 : FX (Wtk r) T S13 := by rw [E13]; exact F10.wr (Nat.beq_refl r)
  have F18 : FX (Wtk r) T S18 := by rw [E18]; exact F13.wr (Nat.beq_refl r)
  have J : ∀ v : Int32, v = (if wrd S (L ++ [t]) then 4 else 6) → pk (B_X5_take_74 r r1 v S18) (fun _ U => FX (Wtk r) T U ∧ GTq S U r (L ++ [t])) := by
    intro v hv
    unfold B_X5_take_74
    refine pq_sv fun S1 E1 => pq_some ⟨by rw [E1]; exact F18.wr (Nat.beq_refl r), ?_, fun k hk => ?_, ?_, ?_⟩
    · rw [E1, ge_puj (by decide), E18, ge_puj (by decide), E13, ge_pus, List.length_append]
      exact g12
    · rw [getD_app L t k hk, E1, ge_pua (by decide), E18, ge_pua (by decide), E13, ge_pua (by decide), E10]
      by_cases dk : k = L.length
      · rw [if_pos dk, dk, ge_pus]; exact hp
      · rw [if_neg dk, ge_puj dk]
        rw [List.length_append] at hk
        have hk : k < L.length + 1 := hk
        exact h2 k (by omega)
    · rw [E1, ge_puj (by decide), E18, ge_pus, e17, e14, e16, wsm_app]
    · rw [E1, ge_pus, hv]
  refine pq_bb (fun c1 => J 4 ?_) (fun c1 => ?_)
  · rw [wrd_app, ← e20, c1]
    rw [show decide (¬ (1 : Int32) = 0) = true from by decide, Bool.or_true]
    rfl
  · refine pq_iv fun x22 e22 => J x22 ?_
    have z : ge S 51 0 t = 0 := w01.elim id (fun q => absurd (e20.trans q) c1)
    rw [e22, E18, ge_puj (by decide), E13, ge_puj (by decide), E10, ge_pua (by decide), h4, wrd_app, z]
    rw [show decide (¬ (0 : Int32) = 0) = false from by decide, Bool.or_false]
theorem tops_tq (B : BVq S r1) (hc : c < 64) : (ge S 10 r1 c).toInt = tq S c := (B.1.2.1 c hc).1
theorem y_lookBeside {x : Int32} (H : HVq S) (B : BVq S r1) (h : GTq S T r L) (F : FX (Wlk r) S T) (hp : p.toInt = (c : Int)) (hc : c < 64) (hx : x.toInt = (d : Int)) (hd : d < 4) (h5 : L.length < 5) : pk (F_X5_lookBeside r r1 p x lk T) (fun _ U => FX (Wtk r) T U ∧ GTq S U r (L ++ gn S c lk d)) := by
  have l0 : (0 : Int32).toInt = 0 := by decide
  have l1 : (1 : Int32).toInt = 1 := by decide
  have lm1 : (-1 : Int32).toInt = -1 := by decide
  have l7 : (7 : Int32).toInt = 7 := by decide
  have l8 : (8 : Int32).toInt = 8 := by decide
  have BT : CVq T r1 (nq S) (hw S) (hq S) (hh S) := B.1.fx F (fun _ => rfl) (fun _ => rfl) (fun _ => rfl) (fun _ => rfl)
  have none : gn S c lk d = [] → FX (Wtk r) T T ∧ GTq S T r (L ++ gn S c lk d) := fun e => ⟨FX.rf, by rw [e, List.append_nil]; exact h⟩
  have hd4 : d = 0 ∨ d = 1 ∨ d = 2 ∨ d = 3 := by omega
  unfold F_X5_lookBeside
  refine pq_iv fun x1 e1 => ?_
  have g1 : x1.toInt = ((c % 8 : Nat) : Int) := by rw [e1]; exact md8 hp
  rw [cnNq hx]
  refine pq_gd fun _ => ?_
  refine pq_iv fun x3 e3 => ?_
  have g3 : x3.toInt = if d = 0 then 1 else if d = 2 then -1 else 0 := by
    rw [e3]
    rcases hd4 with rfl | rfl | rfl | rfl <;> decide
  refine pq_iv fun x4 e4 => ?_
  have g4 : x4.toInt = x1.toInt + x3.toInt := by rw [e4]; exact ti_add (by omega) (by omega)
  refine pq_iv fun x5 e5 => ?_
  have g5 : x5.toInt = ((c / 8 : Nat) : Int) := by rw [e5]; exact dv8 hp
  refine pq_gd fun _ => ?_
  refine pq_iv fun x7 e7 => ?_
  have g7 : x7.toInt = if d = 1 then 1 else if d = 3 then -1 else 0 := by
    rw [e7]
    rcases hd4 with rfl | rfl | rfl | rfl <;> decide
  refine pq_iv fun x8 e8 => ?_
  have g8 : x8.toInt = x5.toInt + x7.toInt := by rw [e8]; exact ti_add (by omega) (by omega)
  refine pq_bd (w_in x4 0 7 T).pk (fun v9 U q => ?_)
  obtain ⟨rfl, q9⟩ := q
  refine pq_eq (fun c0 => pq_some (none ?_)) (fun c0 => ?_)
  · unfold gn
    rw [if_pos (by unfold nbI; omega)]
  refine pq_bd (w_in x8 0 7 T).pk (fun v13 U q => ?_)
  obtain ⟨rfl, q13⟩ := q
  refine pq_eq (fun c1 => pq_some (none ?_)) (fun c1 => ?_)
  · unfold gn
    rw [if_pos (by unfold nbI; omega)]
  have hn1 : ¬ nbI c d = -1 := by unfold nbI; omega
  refine pq_iv fun x17 e17 => ?_
  have g17 : x17.toInt = 8 * x8.toInt := by rw [e17, ti_mul (by rw [l8]; omega) (by rw [l8]; omega), l8]
  refine pq_iv fun x18 e18 => ?_
  have g18 : x18.toInt = x17.toInt + x4.toInt := by rw [e18]; exact ti_add (by omega) (by omega)
  have hin := nbI_in (c := c) (d := d) hc
  obtain ⟨cb, hcb⟩ : ∃ cb : Nat, cb = (nbI c d).toNat := ⟨_, rfl⟩
  have hcb64 : cb < 64 := by omega
  have gcb : x18.toInt = (cb : Int) := by
    have : x18.toInt = nbI c d := by unfold nbI; omega
    omega
  rw [cnNq gcb]
  refine pq_gd fun _ => ?_
  refine pq_iv fun x20 e20 => ?_
  rw [F.1 10 r1 cb rfl] at e20
  have g20 : x20.toInt = tq S cb := by rw [e20]; exact tops_tq B hcb64
  refine pq_bd (y_known r1 x20) (fun v21 U q => ?_)
  obtain ⟨rfl, q21⟩ := q
  have hsz : (ge T 2 r1 0).toInt = nq S := BT.2.2.1
  have n24 := H.2.2.1
  refine pq_eq (fun c2 => pq_some (none ?_)) (fun c2 => ?_)
  · have hb1 : tq S cb = -1 := by
      by_cases z : tq S cb = -1
      · exact z
      · have := tq_in H hcb64 z
        omega
    unfold gn
    rw [if_neg hn1, ← hcb, if_pos hb1]
  · have hb1 : ¬ tq S cb = -1 := by omega
    have hbn := tq_in H hcb64 hb1
    obtain ⟨u, hu⟩ : ∃ u : Nat, u = (tq S cb).toNat := ⟨_, rfl⟩
    have g20' : x20.toInt = (u : Int) := by omega
    have hun : (u : Int) < nq S := by omega
    rw [cnNq g20']
    refine pq_gd fun _ => ?_
    refine pq_iv fun x26 e26 => ?_
    rw [F.1 4 r1 u rfl, (B.2.1 u hun).2.1] at e26
    refine pq_bb (fun c3 => ?_) (fun c3 => pq_some (none ?_))
    · refine pq_bd (y_take H B h F g20' hun h5) (fun _ U q => pq_some ⟨q.1, ?_⟩)
      have e : gn S c lk d = [u] := by
        unfold gn
        rw [if_neg hn1, ← hcb, if_neg hb1, ← hu, if_pos (by rw [← e26]; exact c3)]
      rw [e]
      exact q.2
    · unfold gn
      rw [if_neg hn1, ← hcb, if_neg hb1, ← hu, if_neg (by rw [← e26]; exact c3)]
theorem y_measure {x : Int32} {h up : Nat} (hc : (ge T 25 r 0).toInt = (c : Int)) (hh9 : (ge T 25 r 10).toInt = (h : Int)) (hc64 : c < 64) (hh64 : h < 64) (hup : (up : Int) = if 0 < 9 - x.toInt then 9 - x.toInt else 0) (hx : -1 ≤ x.toInt ∧ x.toInt ≤ 300) : pk (F_X5_measure r x T) (fun _ U => FX (Wlk r) T U ∧ ge U 25 r 0 = ge T 25 r 0 ∧ ge U 25 r 10 = ge T 25 r 10 ∧ (∀ j : Nat, j ≠ 11 → j ≠ 12 → j ≠ 13 → ge U 25 r j = ge T 25 r j) ∧ (∀ j : Nat, ge U 26 r j = ge T 26 r j) ∧ (ge U 25 r 11).toInt = (up : Int) ∧ (ge U 25 r 12).toInt = ab (dX c h) ∧ (ge U 25 r 13).toInt = (up : Int) + ab (dX c h) + ab (dY c h)) := by
  have l9 : (9 : Int32).toInt = 9 := by decide
  have l0 : (0 : Int32).toInt = 0 := by decide
  have abd := ab_bd c h hc64 hh64
  unfold F_X5_measure
  refine pq_iv fun x1 e1 => ?_
  have g1 : x1.toInt = 9 - x.toInt := by rw [e1, ti_sub (by omega) (by omega), l9]
  refine pq_iv fun x2 e2 => ?_
  have g2 : x2.toInt = (up : Int) := by have := zi_max e2; omega
  refine pq_sv fun S3 E3 => ?_
  refine pq_iv fun x4 e4 => pq_iv fun x5 e5 => ?_
  rw [E3, ge_puj (by decide)] at e4
  have g5 : x5.toInt = ((h % 8 : Nat) : Int) := by rw [e5]; exact md8 (by rw [e4]; exact hh9)
  refine pq_iv fun x6 e6 => pq_iv fun x7 e7 => ?_
  rw [E3, ge_puj (by decide)] at e6
  have g7 : x7.toInt = ((c % 8 : Nat) : Int) := by rw [e7]; exact md8 (by rw [e6]; exact hc)
  refine pq_iv fun x8 e8 => pq_iv fun x9 e9 => ?_
  have g8 : x8.toInt = dX c h := by rw [e8, ti_sub (by omega) (by omega), g5, g7]; rfl
  have dxb : -7 ≤ dX c h ∧ dX c h ≤ 7 ∧ -7 ≤ dY c h ∧ dY c h ≤ 7 := by unfold dX dY; omega
  have g9 : x9.toInt = ab (dX c h) := ab_ti g8 (by omega) e9
  refine pq_sv fun S10 E10 => ?_
  refine pq_iv fun x11 e11 => pq_iv fun x12 e12 => pq_iv fun x13 e13 => ?_
  rw [E10, ge_puj (by decide), E3, ge_pus] at e11
  rw [E10, ge_pus] at e12
  have g13 : x13.toInt = (up : Int) + ab (dX c h) := by rw [e13, e11, e12, ti_add (by omega) (by omega), g2, g9]
  refine pq_iv fun x14 e14 => pq_iv fun x15 e15 => ?_
  rw [E10, ge_puj (by decide), E3, ge_puj (by decide)] at e14
  have g15 : x15.toInt = ((h / 8 : Nat) : Int) := by rw [e15]; exact dv8 (by rw [e14]; exact hh9)
  refine pq_iv fun x16 e16 => pq_iv fun x17 e17 => ?_
  rw [E10, ge_puj (by decide), E3, ge_puj (by decide)] at e16
  have g17 : x17.toInt = ((c / 8 : Nat) : Int) := by rw [e17]; exact dv8 (by rw [e16]; exact hc)
  refine pq_iv fun x18 e18 => pq_iv fun x19 e19 => ?_
  have g18 : x18.toInt = dY c h := by rw [e18, ti_sub (by omega) (by omega), g15, g17]; rfl
  have g19 : x19.toInt = ab (dY c h) := ab_ti g18 (by omega) e19
  refine pq_iv fun x20 e20 => ?_
  have g20 : x20.toInt = (up : Int) + ab (dX c h) + ab (dY c h) := by rw [e20, ti_add (by omega) (by omega), g13, g19]
  refine pq_sv fun S21 E21 => pq_some ?_
  have F3 : FX (Wlk r) T S3 := by rw [E3]; exact FX.rf.wr (Nat.beq_refl r)
  have F10 : FX (Wlk r) T S10 := by rw [E10]; exact F3.wr (Nat.beq_refl r)
  refine ⟨by rw [E21]; exact F10.wr (Nat.beq_refl r), ?_, ?_, fun j j1 j2 j3 => ?_, fun j => ?_, ?_, ?_, ?_⟩
  · rw [E21, ge_puj (by decide), E10, ge_puj (by decide), E3, ge_puj (by decide)]
  · rw [E21, ge_puj (by decide), E10, ge_puj (by decide), E3, ge_puj (by decide)]
  · rw [E21, ge_puj j3, E10, ge_puj j2, E3, ge_puj j1]
  · rw [E21, ge_pua (by decide), E10, ge_pua (by decide), E3, ge_pua (by decide)]
  · rw [E21, ge_puj (by decide), E10, ge_puj (by decide), E3, ge_pus]; exact g2
  · rw [E21, ge_puj (by decide), E10, ge_pus]; exact g9
  · rw [E21, ge_pus]; exact g20
theorem y_look (H : HVq S) (B : BVq S r1) (hp : p.toInt = (c : Int)) (hc : c < 64) (hho : 0 ≤ (ge S 40 0 30).toInt ∧ (ge S 40 0 30).toInt ≤ 63) : pk (F_X5_look r r1 p S) (fun _ T => FX (Wlk r) S T ∧ LOq S T r c) := by
  have l0 : (0 : Int32).toInt = 0 := by decide
  have l4 : (4 : Int32).toInt = 4 := by decide
  have lm1 : (-1 : Int32).toInt = -1 := by decide
  have l63 : (63 : Int32).toInt = 63 := by decide
  have hhN := cn_eq hho.1
  unfold F_X5_look
  refine pq_sv fun S30 E30 => ?_
  refine pq_iv fun x31 e31 => ?_
  rw [E30, ge_pua (by decide), B.2.2.1] at e31
  refine pq_sv fun S32 E32 => pq_sv fun S33 E33 => pq_sv fun S34 E34 => pq_sv fun S35 E35 => pq_sv fun S36 E36 => ?_
  have F30 : FX (Wlk r) S S30 := by rw [E30]; exact FX.rf.wr (Nat.beq_refl r)
  have F32 : FX (Wlk r) S S32 := by rw [E32]; exact F30.wr (Nat.beq_refl r)
  have F33 : FX (Wlk r) S S33 := by rw [E33]; exact F32.wr (Nat.beq_refl r)
  have F34 : FX (Wlk r) S S34 := by rw [E34]; exact F33.wr (Nat.beq_refl r)
  have F35 : FX (Wlk r) S S35 := by rw [E35]; exact F34.wr (Nat.beq_refl r)
  have F : FX (Wlk r) S S36 := by rw [E36]; exact F35.wr (Nat.beq_refl r)
  have a0 : (ge S36 25 r 0).toInt = (c : Int) := by rw [E36, ge_puj (by decide), E35, ge_puj (by decide), E34, ge_puj (by decide), E33, ge_puj (by decide), E32, ge_puj (by decide), E30, ge_pus]; exact hp
  have a10 : ge S36 25 r 10 = ge S 40 0 30 := by rw [E36, ge_puj (by decide), E35, ge_puj (by decide), E34, ge_puj (by decide), E33, ge_puj (by decide), E32, ge_pus, e31]
  have a1 : ge S36 25 r 1 = 0 := by rw [E36, ge_puj (by decide), E35, ge_puj (by decide), E34, ge_puj (by decide), E33, ge_pus]
  have a2 : ge S36 25 r 2 = -1 := by rw [E36, ge_puj (by decide), E35, ge_puj (by decide), E34, ge_pus]
  have a16 : ge S36 25 r 16 = 0 := by rw [E36, ge_puj (by decide), E35, ge_pus]
  have a14 : ge S36 25 r 14 = 0 := by rw [E36, ge_pus]
  have BT : CVq S36 r1 (nq S) (hw S) (hq S) (hh S) := B.1.fx F (fun _ => rfl) (fun _ => rfl) (fun _ => rfl) (fun _ => rfl)
  have hsz : (ge S36 2 r1 0).toInt = nq S := BT.2.2.1
  have n24 := H.2.2.1
  have done : mis S c → FX (Wlk r) S S36 ∧ LOq S S36 r c := fun hm => ⟨F, a0, a10, a2, Or.inl ⟨hm, a1, a16, a14⟩⟩
  -- what lies on top of it
  have J : ∀ x : Int32, (mis S c ∧ x = -1) ∨ (x.toInt = tq S c ∧ (tq S c = -1 ∨ ¬ mis S c)) → pk (B_X5_look_90 r r1 p x S36) (fun _ T => FX (Wlk r) S T ∧ LOq S T r c) := by
    intro x hx
    unfold B_X5_look_90
    refine pq_bd (y_known r1 x) (fun v7 U q => ?_)
    obtain ⟨rfl, q7⟩ := q
    refine pq_eq (fun c0 => ?_) (fun c0 => ?_)
    · refine pq_some (done ?_)
      rcases hx with hx | ⟨h1, h2⟩
      · exact hx.1
      · by_cases z : tq S c = -1
        · exact Or.inr (Or.inl z)
        · have := tq_in H hc z
          omega
    · have hx2 : x.toInt = tq S c ∧ ¬ tq S c = -1 ∧ ¬ mis S c := by
        rcases hx with ⟨_, h2⟩ | ⟨h1, h2⟩
        · rw [h2] at q7
          omega
        · have z : ¬ tq S c = -1 := by omega
          exact ⟨h1, z, h2.resolve_left z⟩
      obtain ⟨gx, ht1, hm⟩ := hx2
      have htn := tq_in H hc ht1
      obtain ⟨t, ht⟩ : ∃ t : Nat, t = (tq S c).toNat := ⟨_, rfl⟩
      have gt : x.toInt = (t : Int) := by omega
      have htN : (t : Int) < nq S := by omega
      have hh0 := H.2.1 c hc
      have hpos : 0 < hh S c := by
        unfold tq at ht1
        by_cases z : hh S c ≤ 0
        · rw [if_pos z] at ht1; exact absurd rfl ht1
        · omega
      have htop : hq S c (hh S c - 1).toNat = (t : Int) := by
        have e : tq S c = hq S c (hh S c - 1).toNat := by unfold tq; rw [if_neg (by omega)]
        omega
      have hho2 : (ge S 40 0 30).toInt ≠ (c : Int) := fun e => hm (Or.inl e)
      have h24 : hh S c ≤ 24 := Int.le_trans (H.1.le (by omega) hc) n24
      refine pq_sv fun S11 E11 => ?_
      have F11 : FX (Wlk r) S S11 := by rw [E11]; exact F.wr (Nat.beq_refl r)
      have BT11 : CVq S11 r1 (nq S) (hw S) (hq S) (hh S) := B.1.fx F11 (fun _ => rfl) (fun _ => rfl) (fun _ => rfl) (fun _ => rfl)
      refine pq_bd (y_levelOf BT11 gt htN) (fun v12 U q => ?_)
      obtain ⟨rfl, _, q12⟩ := q
      have q12 := q12 c (hh S c - 1).toNat hc (by omega) htop
      refine pq_bd (y_measure (c := c) (h := hoN S) (up := upq S c) (by rw [E11, ge_puj (by decide)]; exact a0) (by rw [E11, ge_puj (by decide), a10]; exact hhN.symm) hc (by unfold hoN; omega) (by unfold upq; omega) (by omega)) (fun _ S16 q => ?_)
      obtain ⟨F16, m0, m10, mj, m26, m11, m12, m13⟩ := q
      have G16 : FX (Wlk r) S S16 := F11.tr F16
      have g0 : GTq S S16 r [] := ⟨by rw [mj 16 (by decide) (by decide) (by decide), E11, ge_puj (by decide), a16]; exact l0, fun k hk => absurd hk (Nat.not_lt_zero _), by rw [mj 14 (by decide) (by decide) (by decide), E11, ge_puj (by decide), a14]; rfl, by rw [mj 1 (by decide) (by decide) (by decide), E11, ge_pus]; rfl⟩
      refine pq_bd (y_take H B g0 G16 gt htN (by decide)) (fun _ S19 q => ?_)
      obtain ⟨F19, g19⟩ := q
      have G19 : FX (Wlk r) S S19 := G16.tr (F19.sub (Wtk_l r))
      rw [cnNq gt]
      refine pq_gd fun _ => ?_
      refine pq_iv fun x22 e22 => ?_
      rw [G19.1 4 r1 t rfl, (B.2.1 t htN).2.1] at e22
      have lk0 := (H.2.2.2 t htN).1.1
      rw [← e22] at lk0
      have hgL : gL S c = t :: (if 0 < x22.toInt then gF S c x22 4 else []) := by unfold gL; rw [e22, ht]
      -- what stays: cell, hole, the way
      have KK : ∀ (V : fS), FX (Wtk r) S16 V → (ge V 25 r 0).toInt = (c : Int) ∧ ge V 25 r 10 = ge S 40 0 30 ∧ ge V 25 r 2 = -1 ∧ (ge V 25 r 11).toInt = (upq S c : Int) ∧ (ge V 25 r 12).toInt = ab (dX c (hoN S)) ∧ (ge V 25 r 13).toInt = (upq S c : Int) + ab (dX c (hoN S)) + ab (dY c (hoN S)) := by
        intro V FV
        rw [FV.1 25 r 0 rfl, FV.1 25 r 10 rfl, FV.1 25 r 2 rfl, FV.1 25 r 11 rfl, FV.1 25 r 12 rfl, FV.1 25 r 13 rfl]
        refine ⟨by rw [m0, E11, ge_puj (by decide)]; exact a0, by rw [m10, E11, ge_puj (by decide)]; exact a10, by rw [mj 2 (by decide) (by decide) (by decide), E11, ge_puj (by decide)]; exact a2, m11, m12, m13⟩
      refine pq_lp (fun (z : Int32 × Int32 × Int32) V => z.1 = p ∧ z.2.1 = x22 ∧ FX (Wlk r) S V ∧ FX (Wtk r) S16 V ∧ ∃ d : Nat, z.2.2.toInt = (d : Int) ∧ d ≤ 4 ∧ GTq S V r (t :: gF S c x22 d) ∧ (0 < x22.toInt ∨ d = 0)) (fun _ _ (_ : Int32) V => FX (Wlk r) S V ∧ LOq S V r c) ?_ fuel (p, x22, 0) S19 ⟨rfl, rfl, G19, F19, 0, l0, Nat.zero_le _, g19, Or.inr rfl⟩
      intro k hk z V hI
      obtain ⟨b2, b5, b6⟩ := z
      obtain ⟨e1, e2, FV, FW, d, d1, d2, gV, d3⟩ := hI
      dsimp only at e1 e2 d1
      subst e1
      subst e2
      have fin : t :: gF S c b5 d = gL S c → FX (Wlk r) S V ∧ LOq S V r c := by
        intro e
        rw [e] at gV
        obtain ⟨k0, k10, k2, k11, k12, k13⟩ := KK V FW
        refine ⟨FV, k0, k10, k2, Or.inr ⟨hm, gV, k0, by rw [k10]; exact hhN.symm, k11, k12, k13, gV.2.2.1, hc, by unfold hoN; omega, fun e => hho2 (by rw [← hhN, e]; rfl), by unfold upq; omega⟩⟩
      unfold B_X5_look_149
      dsimp only
      refine pq_bb (fun c1 => pq_some (fin ?_)) (fun c1 => ?_)
      · rw [c1] at d3
        have e : d = 0 := by omega
        rw [hgL, if_neg (by rw [c1, l0]; omega), e]
        rfl
      · have hpos5 : 0 < b5.toInt := by
          have : b5.toInt ≠ 0 := fun q => c1 (of_toInt (by rw [q, l0]))
          omega
        refine pq_le (fun c2 => pq_some (fin ?_)) (fun c2 => ?_)
        · have e : d = 4 := by omega
          rw [hgL, if_pos hpos5, e]
        · have hlen : (t :: gF S c b5 d).length < 5 := by
            have := gF_len (S := S) (c := c) (lk := b5) d
            rw [List.length_cons]
            omega
          refine pq_bd (y_lookBeside H B gV FV hp hc d1 (by omega) hlen) (fun _ X q => ?_)
          obtain ⟨FX1, gX⟩ := q
          refine pq_iv fun x6 e6 => ?_
          have g6 : x6.toInt = b6.toInt + 1 := by rw [e6]; exact ti_inc (by omega)
          exact hk (b2, b5, x6) X ⟨rfl, rfl, FV.tr (FX1.sub (Wtk_l r)), FW.tr FX1, d + 1, by dsimp only; omega, by omega, gX, Or.inl hpos5⟩
  have J0 : mis S c → pk (B_X5_look_61 r r1 p S36) (fun _ T => FX (Wlk r) S T ∧ LOq S T r c) := by
    intro hm
    unfold B_X5_look_61 B_X5_look_62
    refine pq_bb (fun _ => ?_) (fun n => absurd rfl n)
    unfold B_X5_look_89
    exact J (-1) (Or.inl ⟨hm, rfl⟩)
  refine pq_iv fun x37 e37 => ?_
  rw [F.1 1 r1 1 rfl, B.2.2.1] at e37
  refine pq_eq (fun c0 => J0 (Or.inl (by rw [← e37]; omega))) (fun c0 => ?_)
  refine pq_iv fun x39 e39 => pq_iv fun x40 e40 => pq_iv fun x41 e41 => ?_
  have g39 : x39.toInt = ((c % 8 : Nat) : Int) := by rw [e39]; exact md8 hp
  have g40 : x40.toInt = ((c / 8 : Nat) : Int) := by rw [e40]; exact dv8 hp
  have g41 : x41.toInt = ((c % 8 + c / 8 : Nat) : Int) := by rw [e41, ti_add (by omega) (by omega)]; omega
  refine pq_iv fun x42 e42 => ?_
  rw [F.1 1 r1 2 rfl, B.2.2.2] at e42
  refine pq_lt (fun c1 => J0 (Or.inr (Or.inr (by rw [← e42]; omega)))) (fun c1 => ?_)
  unfold B_X5_look_62
  refine pq_bb (fun n => absurd n (by decide)) (fun _ => ?_)
  refine pq_bd (w_in p 0 63 S36).pk (fun v24 U q => ?_)
  obtain ⟨rfl, q24⟩ := q
  refine pq_eq (fun c2 => absurd c2 (by omega)) (fun _ => ?_)
  rw [cnNq hp]
  refine pq_gd fun _ => ?_
  refine pq_iv fun x29 e29 => ?_
  rw [F.1 10 r1 c rfl] at e29
  have g29 : x29.toInt = tq S c := by rw [e29]; exact tops_tq B hc
  refine J x29 (Or.inr ⟨g29, ?_⟩)
  by_cases z : tq S c = -1
  · exact Or.inl z
  · refine Or.inr ?_
    unfold mis
    rw [← e37, ← e42]
    omega
end LOO
