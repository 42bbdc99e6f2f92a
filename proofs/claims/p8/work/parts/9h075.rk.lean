/-! a call on both sides, one behind the other -/
def RK (R : Nat → Int32) (x6 : Option ((Nat × Int32) × fS)) (f7 : fS → Option (Int32 × fS)) : Prop := pk x6 (fun r T1 => pk (f7 T1) (fun v2 T2 => RLv T2 ∧ ge T2 40 0 0 = R r.1 ∧ (r.1 = 0 → r.2 = v2)))
def RK0 (x6 : Option (Int32 × fS)) (f7 : fS → Option (Int32 × fS)) : Prop := pk x6 (fun v T1 => pk (f7 T1) (fun v2 T2 => RLv T2 ∧ v = v2))
section RKS
variable {A : Type} {S T : fS} {R : Nat → Int32} {f7 : fS → Option (Int32 × fS)}
theorem mx_ss : mx S S = S := by
  unfold mx
  refine Prod.ext (funext fun a => funext fun i => funext fun j => ?_) rfl
  show (if a < 40 then S.1 a i j else S.1 a i j) = S.1 a i j
  by_cases q : a < 40
  · rw [if_pos q]
  · rw [if_neg q]
theorem mx_e0 : mx S (e0 S) = e0 S := by
  unfold mx e0 pu
  refine Prod.ext (funext fun a => funext fun i => funext fun j => ?_) rfl
  show (if a < 40 then S.1 a i j else if a = 40 ∧ i = 0 ∧ j = 0 then 0 else S.1 a i j) = if a = 40 ∧ i = 0 ∧ j = 0 then 0 else S.1 a i j
  by_cases q : a < 40
  · rw [if_pos q, if_neg (by omega)]
  · rw [if_neg q]
theorem mx_e0' (h : SRq S T) : mx T (e0 S) = e0 T := by
  unfold mx e0 pu
  refine Prod.ext (funext fun a => funext fun i => funext fun j => ?_) rfl
  show (if a < 40 then T.1 a i j else if a = 40 ∧ i = 0 ∧ j = 0 then 0 else S.1 a i j) = if a = 40 ∧ i = 0 ∧ j = 0 then 0 else T.1 a i j
  by_cases q : a < 40
  · rw [if_pos q, if_neg (by omega)]
  · rw [if_neg q]
    by_cases d : a = 40 ∧ i = 0 ∧ j = 0
    · rw [if_pos d, if_pos d]
    · rw [if_neg d, if_neg d]
      exact (h a i j (by omega)).symm
/-- the class leaves the reference's part -/
theorem sm_SR {f : fS → Option (A × fS)} (hs : ∀ (G S : fS), sm G (f S) (f (mx S G))) : pk (f S) (fun _ T => SRq S T) := by
  intro v T e
  have q := hs S S
  unfold sm at q
  rw [mx_ss, e] at q
  have q2 : T = mx T S := congrArg Prod.snd (Option.some.inj q)
  intro a i j h
  rw [q2]
  exact mx_hi h
theorem IV.nq (h : IV S) : 0 ≤ nq S := (h.1 40 0 21).1
theorem IV.wr (h : IV S) (c : Int32) : IV (pu S 40 0 0 c) := by
  have F : Fr 65536 S (pu S 40 0 0 c) := Fr.rf.wr (k := 16) rfl rfl
  exact ⟨h.1.wf rfl, h.2.1.fr F rfl rfl, h.2.2.1.fr F rfl, h.2.2.2.scr h.nq (FX.rf.wr rfl)⟩
theorem RK.lift {f6 : fS → Option ((Nat × Int32) × fS)} (hs : ∀ (G S : fS), sm G (f6 S) (f6 (mx S G))) (h7 : ∀ T : fS, f7 T = f7 (e0 T)) (hk : ∀ S : fS, IV S → ge S 40 0 0 = 0 → RK R (f6 S) f7) (h : IV S) : RK R (f6 S) f7 := by
  intro r T1 e
  have hsr := sm_SR hs r T1 e
  have q := hs (e0 S) S
  unfold sm at q
  rw [e, mx_e0] at q
  have z := hk (e0 S) (h.wr 0) ge_pus r (mx T1 (e0 S)) q
  rw [mx_e0' hsr, ← h7] at z
  exact z
theorem RK0.lift {f6 : fS → Option (Int32 × fS)} (hs : ∀ (G S : fS), sm G (f6 S) (f6 (mx S G))) (h7 : ∀ T : fS, f7 T = f7 (e0 T)) (hk : ∀ S : fS, IV S → ge S 40 0 0 = 0 → RK0 (f6 S) f7) (h : IV S) : RK0 (f6 S) f7 := by
  intro r T1 e
  have hsr := sm_SR hs r T1 e
  have q := hs (e0 S) S
  unfold sm at q
  rw [e, mx_e0] at q
  have z := hk (e0 S) (h.wr 0) ge_pus r (mx T1 (e0 S)) q
  rw [mx_e0' hsr, ← h7] at z
  exact z
/-- a refused call -/
theorem rk_no {c : Int32} {x : Int32 × Int32} {P : Prop} (h : IV S) (hn : ¬ P) {y : Int32} (e : y = c) : RLv (pu S 40 0 0 c) ∧ ge (pu S 40 0 0 c) 40 0 0 = y ∧ (P → x.1 = x.2) := ⟨(h.wr c).2.2.2, ge_pus.trans e.symm, fun q => absurd q hn⟩
end RKS
section RK1
variable {S : fS} {p p2 p3 p4 : Int32}
/-! top, thing: read only -/
theorem BV_in (h : IV S) {t : Nat} (ht : (t : Int) < nq S) : t < 24 := by
  have := h.2.2.2.1.1.2.2.1
  omega
theorem q_tq (H : HVq S) {c : Nat} (hp : p.toInt = (c : Int)) (hc : c < 64) : pk (F_X7_topOf p S) (fun v T => S = T ∧ v.toInt = tq S c) := pq_imp (q_topOf hp (H.2.1 c hc)) (fun v T q => q)
theorem rk_top (h : IV S) (z : ge S 40 0 0 = 0) : RK (fun ec => if ec = 0 then 0 else 1) (F_X6_top p p2 S) (F_X7_top p p2) := by
  have lm1 : (-1 : Int32).toInt = -1 := by decide
  have l1 : (1 : Int32).toInt = 1 := by decide
  obtain ⟨H, hO, B, _⟩ := h.2.2.2.1
  have h0 := h.nq
  unfold RK F_X6_top
  refine pg_cell (fun hc => ?_) (fun hc => ?_)
  · obtain ⟨c, hp⟩ : ∃ c : Nat, p.toInt = (c : Int) := ⟨p.toInt.toNat, by have := hc.1; omega⟩
    have hc64 : c < 64 := by have := hc.2; omega
    have ht := tops_tq B hc64
    have h24 : hh S c ≤ 24 := by
      have := H.1.le h0 hc64
      have := H.2.2.1
      unfold nq at *
      omega
    refine pq_gd fun _ => pq_iv fun x6 e6 => ?_
    rw [cnNq hp] at e6
    rw [← e6] at ht
    have fin : ∀ v : Int32, v.toInt = (if p2 = 0 then tq S c else hh S c) → pk (F_X7_top p p2 S) (fun v2 T2 => RLv T2 ∧ ge T2 40 0 0 = 0 ∧ (0 = 0 → v = v2)) := by
      intro v hv
      unfold F_X7_top
      refine pg7_0 z (pg7_cell (fun _ => pg_b1 ?_) (fun q => absurd hc q))
      unfold B_X7_top_18
      refine pg7_ok z (pq_bb (fun d => ?_) (fun d => ?_))
      · refine pq_bd (q_tq H hp hc64) (fun v6 T q => ?_)
        obtain ⟨rfl, q⟩ := q
        rw [if_pos d] at hv
        exact pq_some ⟨h.2.2.2, z, fun _ => of_toInt (hv.trans q.symm)⟩
      · refine pq_gd fun _ => pq_iv fun x10 e10 => pq_some ⟨h.2.2.2, z, fun _ => of_toInt ?_⟩
        rw [if_neg d] at hv
        rw [hv, e10, cnNq hp]
        rfl
    refine pq_bb (fun d => pq_some (fin x6 (by rw [if_pos d]; exact ht))) (fun d => ?_)
    by_cases e : tq S c = -1
    · have hz : hh S c ≤ 0 := by
        by_cases q : hh S c ≤ 0
        · exact q
        · have := H.1.1 c (hh S c - 1).toNat hc64 (by omega)
          unfold tq at e
          rw [if_neg q] at e
          omega
      refine pq_bd (Q1 := fun v T => S = T ∧ v.toInt = -1) ?_ (fun v8 T q => ?_)
      · unfold F_X2_levelOf
        refine pq_bd (y_known 0 x6) (fun v2 T q => ?_)
        obtain ⟨rfl, q⟩ := q
        refine pq_bb (fun _ => pq_some ⟨rfl, lm1⟩) (fun q2 => ?_)
        exfalso
        rcases q with ⟨q, _⟩ | ⟨_, q, _⟩
        · exact q2 (of_toInt q)
        · omega
      · obtain ⟨rfl, q⟩ := q
        refine pq_iv fun x11 e11 => pq_some (fin x11 ?_)
        have := H.2.1 c hc64
        rw [if_neg d, e11, ti_add (by omega) (by omega)]
        omega
    · obtain ⟨i1, i2⟩ := tq_in H hc64 e
      have hz : 0 < hh S c := by
        unfold tq at e
        by_cases q : hh S c ≤ 0
        · rw [if_pos q] at e; exact absurd rfl e
        · omega
      have et : hq S c (hh S c - 1).toNat = tq S c := by unfold tq; rw [if_neg (by omega)]
      refine pq_bd (y_levelOf (t := (tq S c).toNat) B.1 (by rw [ht]; omega) (by omega)) (fun v8 T q => ?_)
      obtain ⟨rfl, _, q⟩ := q
      have q := q c (hh S c - 1).toNat hc64 (by omega) (by rw [et]; omega)
      refine pq_iv fun x11 e11 => pq_some (fin x11 ?_)
      rw [if_neg d, e11, ti_add (by omega) (by omega), q, l1]
      omega
  · unfold F_X7_top
    refine pg7_0 z (pg7_cell (fun c => absurd c hc) (fun _ => pg_b0 ?_))
    unfold B_X7_top_18
    exact pg7_no z (by decide) (pq_some (rk_no (x := (0, 0)) h (by decide) rfl))
end RK1
