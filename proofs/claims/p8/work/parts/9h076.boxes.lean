/-! calls that change the box: what is left of the relation -/
def WBx (a i j : Nat) : Bool := ((Nat.ble 1 a && Nat.ble a 10) && Nat.beq i 0) || ((Nat.ble 46 a && Nat.ble a 54) || ((Nat.beq a 40 && (Nat.beq j 15 || (Nat.beq j 21 || (Nat.beq j 46 || (Nat.ble 30 j && Nat.ble j 38))))) || WX a i j))
theorem ble_no {a b : Nat} (h : b < a) : Nat.ble a b = false := by
  cases e : Nat.ble a b with
  | false => rfl
  | true => exact absurd (Nat.le_of_ble_eq_true e) (by omega)
theorem ble_yes {a b : Nat} (h : a ≤ b) : Nat.ble a b = true := Nat.ble_eq_true_of_le h
section WBS
variable {S T : fS} {m : Nat}
theorem WBx_out {a i j : Nat} (h : a = 0 ∨ (11 ≤ a ∧ a ≤ 39) ∨ (41 ≤ a ∧ a ≤ 45) ∨ 55 ≤ a) : WBx a i j = WX a i j := by
  unfold WBx
  rw [beq_out (by omega : a ≠ 40)]
  rcases h with h | h | h | h
  · rw [ble_no (by omega : a < 1), ble_no (by omega : a < 46)]; rfl
  · rw [ble_no (by omega : 10 < a), ble_no (by omega : a < 46), Bool.and_false]; rfl
  · rw [ble_no (by omega : 10 < a), ble_no (by omega : a < 46), Bool.and_false]; rfl
  · rw [ble_no (by omega : 10 < a), ble_no (by omega : 54 < a), Bool.and_false, Bool.and_false]; rfl
theorem WBx_img {a i j : Nat} (h1 : 1 ≤ a) (h2 : a ≤ 10) (h3 : 2 ≤ i) : WBx a i j = false := by
  unfold WBx
  rw [beq_out (by omega : a ≠ 40), beq_out (by omega : i ≠ 0), ble_no (by omega : a < 46), WX_out (by omega), Bool.and_false]
  rfl
theorem RCq.bx (h : RCq S 0) (F : FX WBx S T) (e1 : ge T 1 0 12 = ge S 1 0 12) (e2 : ge T 40 0 46 = ge S 40 0 46) : RCq T 0 := by
  obtain ⟨m, m2, r1, r2, r3⟩ := h
  refine ⟨m, m2, by rw [e1]; exact r1, by rw [e2]; exact r2, fun k hk => ?_⟩
  obtain ⟨t, g1, g2, g3, g4⟩ := r3 k hk
  exact ⟨t, by rw [gr_fx F]; exact g1, g2.fx F (fun j => (WBx_out (by decide)).trans (WX_25 g3)) (fun j => (WBx_out (by decide)).trans (WX_out (by decide))), g3, by rw [show nT T = nT S from congrArg (fun z => z.2.1.1) F.2]; exact g4⟩
theorem RLv.bx (h : RLv S) (F : FX WBx S T) (H : HVq T) (hO : HOq T) (B : BVq T 0) (N : NBq T 0) (hI : IFq T) (hs : ge T 1 0 5 = ge T 40 0 34) (hR : RCq T 0) : RLv T := by
  obtain ⟨⟨_, _, _, _, hP, _, _, _, hn, hH⟩, ht, hi⟩ := h
  have o : ∀ a i j : Nat, (a = 0 ∨ (11 ≤ a ∧ a ≤ 21) ∨ (29 ≤ a ∧ a ≤ 39) ∨ (41 ≤ a ∧ a ≤ 44) ∨ (56 ≤ a ∧ a ≤ 89)) → WBx a i j = false := fun a i j h => (WBx_out (by omega)).trans (WX_out (by omega))
  have g : ∀ a i j : Nat, (a = 0 ∨ (11 ≤ a ∧ a ≤ 21) ∨ (29 ≤ a ∧ a ≤ 39) ∨ (41 ≤ a ∧ a ≤ 44) ∨ (56 ≤ a ∧ a ≤ 89)) → ge T a i j = ge S a i j := fun a i j h => F.1 a i j (o a i j h)
  refine ⟨⟨H, hO, B, N, hP.fx F (o _ _ _ (by decide)) (o _ _ _ (by decide)) rfl rfl (fun _ => o _ _ _ (by decide)) (fun _ _ => o _ _ _ (by decide)) (fun _ _ => o _ _ _ (by decide)), hI, hs, hR, ?_, hH.mv (g _ _ _ (by decide)) (F.1 40 0 48 rfl) (fun k => g _ _ _ (by decide)) (fun k j => g _ _ _ (by decide))⟩, ht.mv (g _ _ _ (by decide)) (F.1 40 0 1 rfl) (fun k => g _ _ _ (by decide)) (fun k => g _ _ _ (by decide)), hi.mv (IMf.fx F (fun a i j h1 h2 => o _ _ _ (by omega)) (fun a i j h1 h2 h3 => WBx_img h1 h2 h3) (fun t j ht => (WBx_out (by decide)).trans (WX_25 ht)) rfl) (g _ _ _ (by decide)) (F.1 40 0 56 rfl)⟩
  rw [show nT T = nT S from congrArg (fun z => z.2.1.1) F.2]
  exact hn
theorem HVq.same (H : HVq S) (e21 : ge T 40 0 21 = ge S 40 0 21) (e50 : ∀ t : Nat, ge T 50 0 t = ge S 50 0 t) (e53 : ∀ c k : Nat, ge T 53 c k = ge S 53 c k) (e54 : ∀ c : Nat, ge T 54 0 c = ge S 54 0 c) (e47 : ∀ t : Nat, ge T 47 0 t = ge S 47 0 t) (e51 : ∀ t : Nat, (t : Int) < nq S → ge T 51 0 t = 0 ∨ ge T 51 0 t = 1) : HVq T ∧ nq T = nq S ∧ hw T = hw S ∧ hq T = hq S ∧ hh T = hh S := by
  have a1 : nq T = nq S := by unfold nq; rw [e21]
  have a2 : hw T = hw S := funext fun t => by unfold hw; rw [e50]
  have a3 : hq T = hq S := funext fun c => funext fun k => by unfold hq; rw [e53]
  have a4 : hh T = hh S := funext fun c => by unfold hh; rw [e54]
  refine ⟨?_, a1, a2, a3, a4⟩
  obtain ⟨h1, h2, h3, h4⟩ := H
  unfold HVq
  rw [a1, a2, a3, a4]
  exact ⟨h1, h2, h3, fun t ht => ⟨⟨by rw [e47]; exact (h4 t ht).1.1, e51 t ht⟩, (h4 t ht).2⟩⟩
theorem BVq.same (B : BVq S 0) (a1 : nq T = nq S) (a2 : hw T = hw S) (a3 : hq T = hq S) (a4 : hh T = hh S) (c : ∀ a j : Nat, 2 ≤ a → a ≤ 10 → a ≠ 6 → ge T a 0 j = ge S a 0 j) (r : ∀ t : Nat, ge T 46 0 t = ge S 46 0 t ∧ ge T 47 0 t = ge S 47 0 t ∧ ge T 48 0 t = ge S 48 0 t ∧ ge T 49 0 t = ge S 49 0 t) (e6 : ∀ t : Nat, (t : Int) < nq S → ge T 6 0 t = ge T 51 0 t) (e1 : ge T 1 0 1 = ge T 40 0 30) (e2 : ge T 1 0 2 = ge T 40 0 31) : BVq T 0 := by
  obtain ⟨⟨h1, h2, h3, h4, h5, h6⟩, b2, b3, b4⟩ := B
  refine ⟨?_, fun t ht => ?_, e1, e2⟩
  · rw [a1, a2, a3, a4]
    exact ⟨h1, h2.cg (fun _ _ => rfl) (fun _ _ _ _ => rfl) (fun x _ => by rw [c 10 x (by decide) (by decide) (by decide)]) (fun x k _ _ => by rw [c 9 _ (by decide) (by decide) (by decide)]), by rw [c 2 0 (by decide) (by decide) (by decide)]; exact h3, h4, fun t ht => by rw [c 8 t (by decide) (by decide) (by decide)]; exact h5 t ht, h6⟩
  · rw [a1] at ht
    obtain ⟨r1, r2, r3, r4⟩ := r t
    obtain ⟨q1, q2, q3, q4, q5⟩ := b2 t ht
    rw [c 3 t (by decide) (by decide) (by decide), c 4 t (by decide) (by decide) (by decide), c 5 t (by decide) (by decide) (by decide), c 7 t (by decide) (by decide) (by decide), r1, r2, r3, r4]
    exact ⟨q1, q2, q3, e6 t ht, q5⟩
/-- the cells that a setting writes -/
def WS (a i j : Nat) : Bool := ((Nat.beq a 1 && Nat.beq i 0) && (Nat.ble 1 j && Nat.ble j 6)) || (Nat.beq a 40 && (Nat.beq j 0 || (Nat.beq j 15 || (Nat.ble 30 j && Nat.ble j 34))))
theorem WS_1 {i j : Nat} (h : 7 ≤ j) : WS 1 i j = false := by
  unfold WS
  rw [ble_no (by omega : 6 < j), Bool.and_false, Bool.and_false]
  rfl
theorem WS_out {a i j : Nat} (h : a ≠ 1) (h2 : a ≠ 40) : WS a i j = false := by unfold WS; rw [beq_out h, beq_out h2]; rfl
theorem tf {P : Prop} {b : Bool} (h : b = false) (e : b = true) : P := by rw [e] at h; exact Bool.noConfusion h
theorem WS_B : ∀ a i j : Nat, WBx a i j = false → WS a i j = false := by
  intro a i j h
  unfold WS
  by_cases e : a = 1
  · by_cases e2 : i = 0
    · rw [e, e2] at h
      exact tf h rfl
    · rw [beq_out e2, Bool.and_false, beq_out (by omega : a ≠ 40)]
      rfl
  · rw [beq_out e]
    by_cases e : a = 40
    · rw [e] at h
      have m0 : j ≠ 0 := fun q => by rw [q] at h; exact tf h rfl
      have m15 : j ≠ 15 := fun q => by rw [q] at h; exact tf h rfl
      have m3 : ¬ (30 ≤ j ∧ j ≤ 38) := fun q => by
        have z : WBx 40 i j = true := by
          unfold WBx
          rw [ble_yes q.1, ble_yes q.2]
          show (false || (false || ((true && (Nat.beq j 15 || (Nat.beq j 21 || (Nat.beq j 46 || true)))) || WX 40 i j))) = true
          rw [Bool.or_true, Bool.or_true, Bool.or_true]
          rfl
        exact tf h z
      rw [beq_out m0, beq_out m15]
      by_cases l : 30 ≤ j
      · rw [ble_no (by omega : 34 < j), Bool.and_false, Bool.or_false, Bool.or_false, Bool.and_false, Bool.false_and, Bool.or_false]
        rfl
      · rw [ble_no (by omega : j < 30)]
        cases Nat.beq a 40 <;> rfl
    · rw [beq_out e]
      rfl
theorem RLv.set (h : RLv S) (F : FX WS S T) (hO : HOq T) (e1 : ge T 1 0 1 = ge T 40 0 30) (e2 : ge T 1 0 2 = ge T 40 0 31) (e3 : ge T 1 0 3 = ge T 40 0 32) (e4 : ge T 1 0 4 = ge T 40 0 33) (e5 : ge T 1 0 5 = ge T 40 0 34) (e6 : IFq T) : RLv T := by
  obtain ⟨H, _, B, N, hP, hI, hs, hR, hn, hH⟩ := h.1
  have g : ∀ a i j : Nat, a ≠ 1 → a ≠ 40 → ge T a i j = ge S a i j := fun a i j h1 h2 => F.1 a i j (WS_out h1 h2)
  obtain ⟨HT, a1, a2, a3, a4⟩ := H.same (T := T) (F.1 40 0 21 rfl) (fun t => g _ _ _ (by decide) (by decide)) (fun c k => g _ _ _ (by decide) (by decide)) (fun c => g _ _ _ (by decide) (by decide)) (fun t => g _ _ _ (by decide) (by decide)) (fun t ht => by rw [g _ _ _ (by decide) (by decide)]; exact (H.2.2.2 t ht).1.2)
  refine h.bx (F.sub WS_B) HT hO (B.same a1 a2 a3 a4 (fun a j h1 h2 _ => g _ _ _ (by omega) (by omega)) (fun t => ⟨g _ _ _ (by decide) (by decide), g _ _ _ (by decide) (by decide), g _ _ _ (by decide) (by decide), g _ _ _ (by decide) (by decide)⟩) (fun t ht => by rw [g 6 0 t (by decide) (by decide), g 51 0 t (by decide) (by decide)]; exact (B.2.1 t ht).2.2.2.1) e1 e2) ?_ e6 e5 (hR.bx (F.sub WS_B) (F.1 1 0 12 rfl) (F.1 40 0 46 rfl))
  unfold NBq at *
  rw [e3, e4, F.1 1 0 7 rfl, F.1 1 0 8 rfl, F.1 1 0 9 rfl, F.1 1 0 10 rfl, F.1 40 0 35 rfl, F.1 40 0 36 rfl, F.1 40 0 37 rfl, F.1 40 0 38 rfl]
  exact ⟨rfl, rfl, N.2.2⟩
end WBS
