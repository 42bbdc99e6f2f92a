/-! what both keep alike does not speak of the error cell -/
def W00 (a _ j : Nat) : Bool := Nat.beq a 40 && Nat.beq j 0
section ERR
variable {S T : fS}
theorem RLa_e0 (h : RLa S) (F : FX W00 S T) : RLa T := by
  obtain ⟨H, hO, B, N, hP, hI, hs, hR, hn, hH⟩ := h
  obtain ⟨hhE, hqE, hwE, nE, _, _, _, HVE, _⟩ := SRt F (fun a j h => by unfold W00; rw [Bool.and_eq_false_iff]; exact (Nat.eq_or_lt_of_le h.1).elim (fun e => Or.inl (beq_out (by omega))) (fun e => Or.inl (beq_out (by omega)))) (fun _ _ => rfl) rfl rfl rfl 0 0 0
  have z : ∀ a i j : Nat, a ≠ 40 → ge T a i j = ge S a i j := fun a i j h => F.1 a i j (by unfold W00; rw [beq_out h]; rfl)
  refine ⟨HVE H, ?_, ?_, ?_, hP.fx F rfl rfl rfl rfl (fun _ => rfl) (fun _ _ => rfl) (fun _ _ => rfl), ?_, ?_, ?_, ?_, ?_⟩
  · unfold HOq
    rw [F.1 40 0 30 rfl]
    exact hO
  · obtain ⟨b1, b2, b3, b4⟩ := B
    refine ⟨?_, fun u hu => ?_, ?_, ?_⟩
    · rw [nE, hwE, hqE, hhE]
      exact b1.fx F (fun _ => rfl) (fun _ => rfl) (fun _ => rfl) (fun _ => rfl)
    · rw [nE] at hu
      rw [z 3 0 u (by decide), z 4 0 u (by decide), z 5 0 u (by decide), z 6 0 u (by decide), z 7 0 u (by decide), z 46 0 u (by decide), z 47 0 u (by decide), z 48 0 u (by decide), z 49 0 u (by decide), z 51 0 u (by decide)]
      exact b2 u hu
    · rw [z 1 0 1 (by decide), F.1 40 0 30 rfl]
      exact b3
    · rw [z 1 0 2 (by decide), F.1 40 0 31 rfl]
      exact b4
  · unfold NBq at *
    rw [z 1 0 3 (by decide), z 1 0 4 (by decide), z 1 0 7 (by decide), z 1 0 8 (by decide), z 1 0 9 (by decide), z 1 0 10 (by decide), F.1 40 0 32 rfl, F.1 40 0 33 rfl, F.1 40 0 35 rfl, F.1 40 0 36 rfl, F.1 40 0 37 rfl, F.1 40 0 38 rfl]
    exact N
  · unfold IFq at *
    rw [z 1 0 6 (by decide), F.1 40 0 15 rfl, F.1 40 0 13 rfl]
    exact hI
  · rw [z 1 0 5 (by decide), F.1 40 0 34 rfl]
    exact hs
  · obtain ⟨m, m2, r1, r2, r3⟩ := hR
    refine ⟨m, m2, by rw [z 1 0 12 (by decide)]; exact r1, by rw [F.1 40 0 46 rfl]; exact r2, fun k hk => ?_⟩
    obtain ⟨t, g1, g2, g3, g4⟩ := r3 k hk
    exact ⟨t, by rw [gr_fx F]; exact g1, TRq_ge g2 (fun j => z 25 t j (by decide)) (fun j => z 57 k j (by decide)), g3, by rw [show nT T = nT S from congrArg (fun z => z.2.1.1) F.2]; exact g4⟩
  · rw [show nT T = nT S from congrArg (fun z => z.2.1.1) F.2]
    exact hn
  · unfold HNq
    rw [z 0 0 9 (by decide), F.1 40 0 48 rfl]
    exact ⟨hH.1, fun x k hx hk => by rw [z 59 x k (by decide), z 15 0 x (by decide)]; exact hH.2 x k hx hk⟩
end ERR
