section RFLD
variable {S T V : fS} {p : Int32} {n i c t : Nat}
theorem rk_refill (h : IV S) (z : ge S 40 0 0 = 0) : RK0 (F_X6_refill S) (F_X7_refill) := by
  obtain ⟨H, hO, B, N, hP, hI, hs, hR, _⟩ := h.2.2.2.1
  have R := h.1
  have h0 := h.nq
  have n24 := H.2.2.1
  obtain ⟨n, hn⟩ : ∃ n : Nat, nq S = (n : Int) := ⟨(nq S).toNat, by omega⟩
  unfold RK0 F_X6_refill
  refine pq_iv fun x1 e1 => pq_bd (y_layAgain h hn e1) (fun v S3 q => ?_)
  obtain ⟨⟨F3, cr, e8⟩, cv⟩ := q
  refine pq_sv fun S5 E5 => pq_sv fun S6 E6 => pq_sv fun S7 E7 => pq_sv fun S8 E8 => pq_sv fun S9 E9 => pq_some ?_
  have G3 : FX WBx S S3 := F3.sub Whq_B
  have G5 : FX WBx S S5 := by rw [E5]; exact G3.wr rfl
  have G6 : FX WBx S S6 := by rw [E6]; exact G5.wr rfl
  have G7 : FX WBx S S7 := by rw [E7]; exact G6.wr rfl
  have G8 : FX WBx S S8 := by rw [E8]; exact G7.wr rfl
  have G9 : FX WBx S S9 := by rw [E9]; exact G8.wr rfl
  have ko : ∀ a i j : Nat, a ≠ 1 → ge S9 a i j = ge S3 a i j := fun a i j ha => by rw [E9, ge_pua ha, E8, ge_pua ha, E7, ge_pua ha, E6, ge_pua ha, E5, ge_pua ha]
  have k1 : ∀ j : Nat, j ≠ 7 → j ≠ 8 → j ≠ 9 → j ≠ 10 → j ≠ 12 → ge S9 1 0 j = ge S 1 0 j := fun j h7 h8 h9 h10 h12 => by rw [E9, ge_puj h12, E8, ge_puj h10, E7, ge_puj h9, E6, ge_puj h8, E5, ge_puj h7, F3.1 1 0 j rfl]
  have s1 : SRq S S9 := fun a i j ha => by rw [ko a i j (by omega), F3.1 a i j (Whq_out (by omega) (by omega) (by omega))]
  refine pq_imp (q_refill h hn s1 (RI_z z s1)) (fun v2 T2 q => ?_)
  obtain ⟨cv2, ⟨r1, r2, r3⟩, F2, z35, z36, z37, z38, z46⟩ := q
  refine ⟨?_, ACC.un cv cv2⟩
  obtain ⟨hb, h6⟩ := rfq_HB R H n (by omega)
  have GT : FX WBx S T2 := G9.tr (F2.sub Wrf_B)
  have lo : ∀ a i j : Nat, a < 40 → ge T2 a i j = ge S9 a i j := fun a i j ha => F2.1 a i j (by unfold Wrf; rw [beq_out (by omega : a ≠ 50), beq_out (by omega : a ≠ 53), beq_out (by omega : a ≠ 54), beq_out (by omega : a ≠ 40)]; rfl)
  have lc : ∀ a u : Nat, a ≠ 1 → a ≠ 8 → a ≠ 9 → a ≠ 10 → a < 40 → ge T2 a 0 u = ge S a 0 u := fun a u h1 h8 h9 h10 ha => by rw [lo a 0 u ha, ko a 0 u h1, F3.1 a 0 u (Whq_out h8 h9 h10)]
  have hi : ∀ a u : Nat, a = 46 ∨ a = 47 ∨ a = 48 ∨ a = 49 ∨ a = 51 → ge T2 a 0 u = ge S a 0 u := fun a u ha => by
    rw [F2.1 a 0 u (by unfold Wrf; rw [beq_out (by omega : a ≠ 50), beq_out (by omega : a ≠ 53), beq_out (by omega : a ≠ 54), beq_out (by omega : a ≠ 40)]; rfl), s1 a 0 u (by omega)]
  have c40 : ∀ j : Nat, j ≠ 35 → j ≠ 36 → j ≠ 37 → j ≠ 38 → j ≠ 46 → ge T2 40 0 j = ge S 40 0 j := fun j h5 h6 h7 h8 h46 => by
    rw [F2.1 40 0 j (by unfold Wrf; rw [beq_out h5, beq_out h6, beq_out h7, beq_out h8, beq_out h46]; rfl), s1 40 0 j (by decide)]
  have l1 : ∀ j : Nat, j ≠ 7 → j ≠ 8 → j ≠ 9 → j ≠ 10 → j ≠ 12 → ge T2 1 0 j = ge S 1 0 j := fun j h7 h8 h9 h10 h12 => by rw [lo 1 0 j (by decide), k1 j h7 h8 h9 h10 h12]
  have en : nq T2 = nq S := by unfold nq; rw [c40 21 (by decide) (by decide) (by decide) (by decide) (by decide)]
  have HB2 : HB (nq T2) (hw T2) (hq T2) (hh T2) := by
    rw [en, hn]
    exact hb.cg (fun u _ => r1 u) (fun u hu => (rfq_bd R H (by omega)).2) r3 (fun c k hc _ => r2 c k hc)
  have wbd : ∀ u : Nat, (u : Int) < nq S → -2 ≤ hw T2 u ∧ hw T2 u ≤ 63 := fun u hu => by rw [r1 u]; exact rfq_bd R H hu
  have hh0 : ∀ c : Nat, c < 64 → 0 ≤ hh T2 c := fun c hc => by rw [r3 c hc]; exact h6 c hc
  have e9 : ∀ u : Nat, ge T2 9 0 u = ge S3 9 0 u := fun u => by rw [lo 9 0 u (by decide), ko 9 0 u (by decide)]
  have e10 : ∀ u : Nat, ge T2 10 0 u = ge S3 10 0 u := fun u => by rw [lo 10 0 u (by decide), ko 10 0 u (by decide)]
  have CV : CVq T2 0 (nq T2) (hw T2) (hq T2) (hh T2) := by
    refine ⟨HB2, cr.cg r3 (fun c k hc _ => r2 c k hc) (fun c _ => by rw [e10 c]) (fun c k _ _ => by rw [e9 _]), ?_, by rw [en]; exact n24, fun u hu => ?_, hh0⟩
    · rw [lc 2 0 (by decide) (by decide) (by decide) (by decide) (by decide), en]
      exact B.1.2.2.1
    · rw [en] at hu
      refine ⟨?_, wbd u hu⟩
      rw [lo 8 0 u (by decide), ko 8 0 u (by decide), e8 u (by omega), r1 u, rfq_w R, if_pos (by omega)]
  refine h.2.2.2.bx GT ⟨HB2, hh0, by rw [en]; exact n24, fun u hu => ?_⟩ ?_ ⟨CV, fun u hu => ?_, ?_, ?_⟩ ?_ ?_ ?_ ⟨0, by omega, ?_, by rw [z46]; rfl, fun k hk => absurd hk (Nat.not_lt_zero _)⟩
  · rw [en] at hu
    rw [hi 47 u (by decide), hi 51 u (by decide)]
    exact ⟨(H.2.2.2 u hu).1, wbd u hu⟩
  · unfold HOq
    rw [c40 30 (by decide) (by decide) (by decide) (by decide) (by decide)]; exact hO
  · rw [en] at hu
    rw [lc 3 u (by decide) (by decide) (by decide) (by decide) (by decide), lc 4 u (by decide) (by decide) (by decide) (by decide) (by decide), lc 5 u (by decide) (by decide) (by decide) (by decide) (by decide), lc 6 u (by decide) (by decide) (by decide) (by decide) (by decide), lc 7 u (by decide) (by decide) (by decide) (by decide) (by decide), hi 46 u (by decide), hi 47 u (by decide), hi 48 u (by decide), hi 49 u (by decide), hi 51 u (by decide)]
    exact B.2.1 u hu
  · rw [l1 1 (by decide) (by decide) (by decide) (by decide) (by decide), c40 30 (by decide) (by decide) (by decide) (by decide) (by decide)]; exact B.2.2.1
  · rw [l1 2 (by decide) (by decide) (by decide) (by decide) (by decide), c40 31 (by decide) (by decide) (by decide) (by decide) (by decide)]; exact B.2.2.2
  · refine ⟨?_, ?_, ?_, ?_, ?_, ?_⟩
    · rw [l1 3 (by decide) (by decide) (by decide) (by decide) (by decide), c40 32 (by decide) (by decide) (by decide) (by decide) (by decide)]; exact N.1
    · rw [l1 4 (by decide) (by decide) (by decide) (by decide) (by decide), c40 33 (by decide) (by decide) (by decide) (by decide) (by decide)]; exact N.2.1
    · rw [z35, lo 1 0 7 (by decide), E9, ge_puj (by decide), E8, ge_puj (by decide), E7, ge_puj (by decide), E6, ge_puj (by decide), E5, ge_pus]
    · rw [z36, lo 1 0 8 (by decide), E9, ge_puj (by decide), E8, ge_puj (by decide), E7, ge_puj (by decide), E6, ge_pus]
    · rw [z37, lo 1 0 9 (by decide), E9, ge_puj (by decide), E8, ge_puj (by decide), E7, ge_pus]
    · rw [z38, lo 1 0 10 (by decide), E9, ge_puj (by decide), E8, ge_pus]
  · unfold IFq at *
    rw [l1 6 (by decide) (by decide) (by decide) (by decide) (by decide), c40 15 (by decide) (by decide) (by decide) (by decide) (by decide), c40 13 (by decide) (by decide) (by decide) (by decide) (by decide)]
    exact hI
  · rw [l1 5 (by decide) (by decide) (by decide) (by decide) (by decide), c40 34 (by decide) (by decide) (by decide) (by decide) (by decide)]; exact hs
  · rw [lo 1 0 12 (by decide), E9, ge_pus]; rfl
end RFLD
