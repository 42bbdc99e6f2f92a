/-! back: no comparison, what both keep alone -/
def RKv {A : Type} (x6 : Option (A × fS)) (f7 : fS → Option (Int32 × fS)) : Prop := pk x6 (fun _ T1 => pk (f7 T1) (fun _ T2 => RLv T2))
section BCK
variable {A : Type} {S : fS} {p p2 : Int32} {R : Nat → Int32} {f7 : fS → Option (Int32 × fS)}
theorem RK.v {x6 : Option ((Nat × Int32) × fS)} (h : RK R x6 f7) : RKv x6 f7 := pq_imp h (fun _ _ q => pq_imp q (fun _ _ q => q.1))
theorem RK0.v {x6 : Option (Int32 × fS)} (h : RK0 x6 f7) : RKv x6 f7 := pq_imp h (fun _ _ q => pq_imp q (fun _ _ q => q.1))
theorem RKw.v {x6 : Option ((Nat × Int32) × fS)} (h : RKw R x6 f7) : RKv x6 f7 := pq_imp h (fun _ _ q => pq_imp q (fun _ _ q => q.1))
theorem RKv.lift {f6 : fS → Option (A × fS)} (hs : ∀ (G S : fS), sm G (f6 S) (f6 (mx S G))) (h7 : ∀ T : fS, f7 T = f7 (e0 T)) (hk : ∀ S : fS, IV S → ge S 40 0 0 = 0 → RKv (f6 S) f7) (h : IV S) : RKv (f6 S) f7 := by
  intro r T1 e
  have hsr := sm_SR hs r T1 e
  have q := hs (e0 S) S
  unfold sm at q
  rw [e, mx_e0] at q
  have z := hk (e0 S) (h.wr 0) ge_pus r (mx T1 (e0 S)) q
  rw [mx_e0' hsr, ← h7] at z
  exact z
theorem rk_back (h : IV S) (z : ge S 40 0 0 = 0) : RKv (F_X6_back p p2 S) (F_X7_back p p2) := by
  obtain ⟨H, hO, B, N, hP, hI, hs, hR, hn, hH, hW⟩ := h.2.2.2.1
  have h48 : 0 ≤ (ge S 40 0 48).toInt ∧ (ge S 40 0 48).toInt ≤ 6 := h.1 40 0 48
  unfold RKv
  refine pq_imp (s_F_X6_back p p2 S h.1).pk (fun r T q => ?_)
  obtain ⟨rfl, _⟩ := q
  unfold F_X7_back
  refine pg7_0 z (pg7_hand h48.1 (fun hc => pg_b1 ?_) (fun _ => pg_b0 ?_))
  · unfold B_X7_back_19
    refine pg7_ok z (pg7_cell (fun hc2 => pg_b1 ?_) (fun _ => pg_b0 ?_))
    · obtain ⟨c, hp, hc64⟩ := ic_nat hc2
      obtain ⟨k, hk⟩ : ∃ k : Nat, p.toInt = (k : Int) := ⟨p.toInt.toNat, by have := hc.1; omega⟩
      have fin : pk (B_X7_back_72 S) (fun _ T2 => RLv T2) := by
        unfold B_X7_back_72
        exact pq_some h.2.2.2
      unfold B_X7_back_39
      refine pg7_ok z (pq_bd (q_tq H hp hc64) (fun v5 T q => ?_))
      obtain ⟨rfl, _⟩ := q
      refine pq_bd (q_weightFor hk) (fun v8 T q => ?_)
      obtain ⟨rfl, _⟩ := q
      refine pq_bb (fun _ => fin) (fun _ => pq_bb (fun _ => fin) (fun _ => pq_iv fun _ _ => ?_))
      refine pq_bd (q_weightsOf hk) (fun v14 T q => ?_)
      obtain ⟨rfl, _⟩ := q
      refine pq_iv fun _ _ => pq_gd fun _ => pq_iv fun _ _ => pq_iv fun _ _ => pq_iv fun _ _ => ?_
      refine pq_bb (fun _ => pq_iv fun _ _ => pq_iv fun _ _ => pq_iv fun _ _ => pq_gd fun _ => pq_iv fun _ _ => pq_iv fun _ _ => pq_some h.2.2.2) (fun _ => pq_gd fun _ => pq_iv fun _ _ => pq_some h.2.2.2)
    · unfold B_X7_back_39
      exact pg7_no z (by decide) (pq_some (h.wr 2).2.2.2)
  · unfold B_X7_back_19
    exact pg7_no z (by decide) (pq_some (h.wr 1).2.2.2)
end BCK
