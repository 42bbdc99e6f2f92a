section RFLC
variable {S T V : fS} {p : Int32} {n i c t : Nat}
/-- the reference -/
def RF7 (S V : fS) (i : Nat) : Prop := (∀ u : Nat, hw V u = (rfS S i).1 u) ∧ (∀ c k : Nat, c < 64 → hq V c k = (rfS S i).2.1 c k) ∧ ∀ c : Nat, c < 64 → hh V c = (rfS S i).2.2 c
def Wrf (a _ j : Nat) : Bool := (Nat.beq a 50 || (Nat.beq a 53 || Nat.beq a 54)) || (Nat.beq a 40 && (Nat.beq j 35 || (Nat.beq j 36 || (Nat.beq j 37 || (Nat.beq j 38 || Nat.beq j 46)))))
theorem Wg_rf : ∀ a i j : Nat, Wrf a i j = false → Wg a i j = false := by
  intro a i j h
  have n50 : a ≠ 50 := fun q => by rw [q] at h; exact tf h rfl
  have n53 : a ≠ 53 := fun q => by rw [q] at h; exact tf h rfl
  have n54 : a ≠ 54 := fun q => by rw [q] at h; exact tf h rfl
  exact Wg_out n53 n54 n50
theorem q_refill (h : IV S) (hn : nq S = (n : Int)) (s1 : SRq S T) (z1 : ge T 40 0 0 = 0) : pk (F_X7_refill T) (fun v U => RFc S n v ∧ RF7 S U n ∧ FX Wrf T U ∧ ge U 40 0 35 = 0 ∧ ge U 40 0 36 = 0 ∧ ge U 40 0 37 = 0 ∧ ge U 40 0 38 = 0 ∧ ge U 40 0 46 = 0) := by
  have l0 : (0 : Int32).toInt = 0 := by decide
  have l64 : (64 : Int32).toInt = 64 := by decide
  obtain ⟨H, hO, B, N, _⟩ := h.2.2.2.1
  have R := h.1
  have n24 := H.2.2.1
  have en : (ge T 40 0 21).toInt = (n : Int) := by rw [s1 40 0 21 (by decide)]; exact hn
  unfold F_X7_refill
  refine pg7_0 z1 ?_
  refine pq_lp (fun (y : Int32 × Int32) V => y.1 = 0 ∧ FX Wg T V ∧ (∀ u : Nat, hw V u = hw S u) ∧ (∀ c k : Nat, hq V c k = hq S c k) ∧ ∃ i : Nat, y.2.toInt = (i : Int) ∧ i ≤ 64 ∧ ∀ c : Nat, c < i → hh V c = 0) (fun _ _ (v : Int32) U => RFc S n v ∧ RF7 S U n ∧ FX Wrf T U ∧ ge U 40 0 35 = 0 ∧ ge U 40 0 36 = 0 ∧ ge U 40 0 37 = 0 ∧ ge U 40 0 38 = 0 ∧ ge U 40 0 46 = 0) ?_ fuel (0, 0) T ⟨rfl, FX.rf, fun u => by rw [s1.hwE], fun c k => by rw [s1.hqE], 0, l0, by omega, fun c hc => absurd hc (Nat.not_lt_zero _)⟩
  intro k9 hk9 y V hy
  obtain ⟨a1, a2⟩ := y
  obtain ⟨f1, FV, w1, w2, i, i1, i2, i3⟩ := hy
  dsimp only at f1 i1
  subst f1
  unfold B_X7_refill_9
  dsimp only
  refine pq_le (fun c0 => ?_) (fun c0 => ?_)
  · refine pq_lp (fun (y : Int32 × Int32) V => FX Wg T V ∧ ∃ i : Nat, y.2.toInt = (i : Int) ∧ i ≤ n ∧ RFc S i y.1 ∧ RF7 S V i) (fun _ _ (v : Int32) U => RFc S n v ∧ RF7 S U n ∧ FX Wrf T U ∧ ge U 40 0 35 = 0 ∧ ge U 40 0 36 = 0 ∧ ge U 40 0 37 = 0 ∧ ge U 40 0 38 = 0 ∧ ge U 40 0 46 = 0) ?_ fuel (0, 0) V ⟨FV, 0, l0, by omega, rfl, w1, fun c k _ => w2 c k, fun c hc => i3 c (by omega)⟩
    intro k hk y V hy
    obtain ⟨a1, a2⟩ := y
    obtain ⟨FV, i, i1, i2, i3, r1, r2, r3⟩ := hy
    dsimp only at i1 i3
    unfold B_X7_refill_30
    dsimp only
    refine pq_iv fun x6 e6 => ?_
    rw [FV.1 40 0 21 rfl] at e6
    refine pq_le (fun c0 => ?_) (fun c0 => ?_)
    · have ein : i = n := by rw [e6, en] at c0; omega
      rw [ein] at i3 r1 r2 r3
      refine pq_sv fun S8 E8 => pq_sv fun S9 E9 => pq_sv fun S10 E10 => pq_sv fun S11 E11 => pq_sv fun S12 E12 => pq_some ?_
      have F8 : FX Wrf T S8 := by rw [E8]; exact (FV.sub Wg_rf).wr rfl
      have F9 : FX Wrf T S9 := by rw [E9]; exact F8.wr rfl
      have F10 : FX Wrf T S10 := by rw [E10]; exact F9.wr rfl
      have F11 : FX Wrf T S11 := by rw [E11]; exact F10.wr rfl
      have F12 : FX Wrf T S12 := by rw [E12]; exact F11.wr rfl
      have ko : ∀ a i j : Nat, a ≠ 40 → ge S12 a i j = ge V a i j := fun a i j ha => by rw [E12, ge_pua ha, E11, ge_pua ha, E10, ge_pua ha, E9, ge_pua ha, E8, ge_pua ha]
      refine ⟨i3, ⟨fun u => ?_, fun c k hc => ?_, fun c hc => ?_⟩, F12, ?_, ?_, ?_, ?_, ?_⟩
      · rw [← r1 u]; unfold hw; rw [ko 50 0 u (by decide)]
      · rw [← r2 c k hc]; unfold hq; rw [ko 53 c k (by decide)]
      · rw [← r3 c hc]; unfold hh; rw [ko 54 0 c (by decide)]
      · rw [E12, ge_puj (by decide), E11, ge_puj (by decide), E10, ge_puj (by decide), E9, ge_puj (by decide), E8, ge_pus]
      · rw [E12, ge_puj (by decide), E11, ge_puj (by decide), E10, ge_puj (by decide), E9, ge_pus]
      · rw [E12, ge_puj (by decide), E11, ge_puj (by decide), E10, ge_pus]
      · rw [E12, ge_puj (by decide), E11, ge_pus]
      · rw [E12, ge_pus]
    rw [e6, en] at c0
    have hin : i < n := by omega
    have hiq : (i : Int) < nq S := by omega
    obtain ⟨c1, c2⟩ := r49q R i
    rw [cnNq i1]
    refine pq_gd fun _ => pq_iv fun x14 e14 => pq_gd fun _ => pq_iv fun x16 e16 => pq_iv fun x17 e17 => ?_
    have f14 : x14 = ge S 50 0 i := of_toInt (by
      rw [e14]
      show hw V i = hw S i
      rw [r1 i, rfq_w R, if_neg (Nat.lt_irrefl _)])
    rw [FV.1 49 0 i rfl, s1 49 0 i (by decide)] at e16
    rw [FV.1 40 0 30 rfl, s1 40 0 30 (by decide)] at e17
    have nx : ∀ (U : fS), FX Wg T U → RF7 S U (i + 1) → pk (B_X7_refill_79 k a1 a2 x14 U) (fun v U => RFc S n v ∧ RF7 S U n ∧ FX Wrf T U ∧ ge U 40 0 35 = 0 ∧ ge U 40 0 36 = 0 ∧ ge U 40 0 37 = 0 ∧ ge U 40 0 38 = 0 ∧ ge U 40 0 46 = 0) := by
      intro U FU rU
      have go : ∀ t : Int32, RFc S (i + 1) (a1 + t) → pk (B_X7_refill_95 k a2 t a1 U) (fun v U => RFc S n v ∧ RF7 S U n ∧ FX Wrf T U ∧ ge U 40 0 35 = 0 ∧ ge U 40 0 36 = 0 ∧ ge U 40 0 37 = 0 ∧ ge U 40 0 38 = 0 ∧ ge U 40 0 46 = 0) := by
        intro t ht
        unfold B_X7_refill_95
        refine pq_iv fun x1 e1 => pq_iv fun x2 e2 => ?_
        have g2 : x2.toInt = a2.toInt + 1 := by rw [e2]; exact ti_inc (by omega)
        exact hk (x1, x2) U ⟨FU, i + 1, by dsimp only; omega, by omega, by dsimp only; rw [e1]; exact ht, rU⟩
      unfold B_X7_refill_79
      rw [cnNq i1]
      refine pq_gd fun _ => pq_iv fun x4 e4 => ?_
      have f4 : x4 = npq S i := of_toInt (by
        rw [e4]
        show hw U i = _
        rw [rU.1 i, rfq_w R, if_pos (by omega)])
      exact pq_bb (fun d => go 0 (i3.no (fun q => q (by rw [← f4, d, f14])) (Int32.add_zero _))) (fun d => go 1 (i3.yes (fun q => d (by rw [f4, f14]; exact q)) rfl))
    refine pq_bb (fun d => ?_) (fun d => ?_)
    · have hh0 : ge S 49 0 i = ge S 40 0 30 := by rw [← e16, d, e17]
      refine pq_gd fun _ => pq_sv fun S25 E25 => ?_
      refine nx S25 (by rw [E25]; exact FV.wr rfl) ⟨fun u => ?_, fun c k hc => ?_, fun c hc => ?_⟩
      · rw [rfq_y hh0]
        show hw S25 u = wU (rfS S i).1 i (-1) u
        unfold wU
        by_cases e : u = i
        · rw [if_pos e]
          unfold hw
          rw [E25, e, ge_pus]
          decide
        · rw [if_neg e, ← r1 u]
          unfold hw
          rw [E25, ge_puj e]
      · rw [rfq_y hh0]
        show hq S25 c k = (rfS S i).2.1 c k
        rw [← r2 c k hc]
        unfold hq
        rw [E25, ge_pua (by decide)]
      · rw [rfq_y hh0]
        show hh S25 c = (rfS S i).2.2 c
        rw [← r3 c hc]
        unfold hh
        rw [E25, ge_pua (by decide)]
    · have hh0 : ¬ ge S 49 0 i = ge S 40 0 30 := fun q => d (by rw [e16, e17, q])
      have HBi := rfq_HB R H i (by omega)
      refine pq_gd fun _ => pq_iv fun x20 e20 => ?_
      rw [FV.1 49 0 i rfl, s1 49 0 i (by decide)] at e20
      have h0 := HBi.2 _ c2
      rw [← r3 _ c2] at h0
      refine pq_bd (q_puts (t := i) (c := (ge S 49 0 i).toNatClampNeg) i1 (by rw [e20]; exact c1) h0) (fun _ U q => ?_)
      obtain ⟨FU, q1, q2, q3⟩ := q
      refine nx U (FV.tr FU) ⟨fun u => ?_, fun c k hc => ?_, fun c hc => ?_⟩
      · rw [rfq_n hh0]
        show hw U u = wU (rfS S i).1 i ((ge S 49 0 i).toNatClampNeg : Int) u
        unfold wU
        rw [q3 u, r1 u]
      · rw [rfq_n hh0]
        show hq U c k = hpP (rfS S i).2.1 (rfS S i).2.2 (ge S 49 0 i).toNatClampNeg i c k
        unfold hpP
        rw [q2 c k, r2 c k hc]
        by_cases e : c = (ge S 49 0 i).toNatClampNeg ∧ k = (hh V (ge S 49 0 i).toNatClampNeg).toNat
        · rw [if_pos e, if_pos ⟨e.1, by rw [← r3 _ c2]; omega⟩]
        · rw [if_neg e, if_neg (fun w => e ⟨w.1, by have := w.2; rw [← r3 _ c2] at this; omega⟩)]
      · rw [rfq_n hh0]
        show hh U c = htP (rfS S i).2.2 (ge S 49 0 i).toNatClampNeg c
        unfold htP
        rw [q1 c]
        by_cases e : c = (ge S 49 0 i).toNatClampNeg
        · rw [if_pos e, if_pos e, r3 _ c2]
        · rw [if_neg e, if_neg e, r3 c hc]
  · refine pq_gd fun _ => pq_sv fun S28 E28 => pq_iv fun x29 e29 => ?_
    rw [cnNq i1] at E28
    have g29 : x29.toInt = a2.toInt + 1 := by rw [e29]; exact ti_inc (by omega)
    refine hk9 (0, x29) S28 ⟨rfl, by rw [E28]; exact FV.wr rfl, fun u => by rw [← w1 u]; unfold hw; rw [E28, ge_pua (by decide)], fun c k => by rw [← w2 c k]; unfold hq; rw [E28, ge_pua (by decide)], i + 1, by dsimp only; omega, by omega, fun c hc => ?_⟩
    by_cases d : c = i
    · unfold hh
      rw [E28, d, ge_pus]
      decide
    · rw [← i3 c (by omega)]
      unfold hh
      rw [E28, ge_puj d]
theorem Wrf_B : ∀ a i j : Nat, WBx a i j = false → Wrf a i j = false := by
  intro a i j h
  have n50 : a ≠ 50 := fun q => by rw [q] at h; exact tf h rfl
  have n53 : a ≠ 53 := fun q => by rw [q] at h; exact tf h rfl
  have n54 : a ≠ 54 := fun q => by rw [q] at h; exact tf h rfl
  unfold Wrf
  rw [beq_out n50, beq_out n53, beq_out n54]
  by_cases d : a = 40
  · rw [d] at h
    have m35 : j ≠ 35 := fun q => by rw [q] at h; exact tf h rfl
    have m36 : j ≠ 36 := fun q => by rw [q] at h; exact tf h rfl
    have m37 : j ≠ 37 := fun q => by rw [q] at h; exact tf h rfl
    have m38 : j ≠ 38 := fun q => by rw [q] at h; exact tf h rfl
    have m46 : j ≠ 46 := fun q => by rw [q] at h; exact tf h rfl
    rw [beq_out m35, beq_out m36, beq_out m37, beq_out m38, beq_out m46]
    cases Nat.beq a 40 <;> rfl
  · rw [beq_out d]
    rfl
end RFLC
