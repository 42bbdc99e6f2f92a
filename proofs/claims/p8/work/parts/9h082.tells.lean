/-! questions: a call that writes scratch cells alone -/
theorem rk_mk {S : fS} {R : Nat → Int32} {x6 : Option ((Nat × Int32) × fS)} {f7 : fS → Option (Int32 × fS)} {A : Nat → Int32 → Prop} {C : Int32 → Int32 → Prop} {RT : (Nat × Int32) → fS → Prop} (h : IV S) (z : ge S 40 0 0 = 0) (hR : zk x6 RT) (hR2 : ∀ (v : Nat × Int32) (T : fS), RT v T → RI T) (h6 : pk x6 (fun r T => FX (WscR 0) S T ∧ A r.1 r.2)) (h7 : ∀ T : fS, RI T → FX (WscR 0) S T → RLv T → ge T 40 0 0 = 0 → pk (f7 T) (fun v2 U => FX WX T U ∧ C (ge U 40 0 0) v2)) (hAC : ∀ (ec : Nat) (v t v2 : Int32), A ec v → C t v2 → t = R ec ∧ (ec = 0 → v = v2)) : RK R x6 f7 := by
  refine pq_imp (pq_and hR.pk h6) (fun r T1 q => ?_)
  obtain ⟨q0, F1, a⟩ := q
  refine pq_imp (h7 T1 (hR2 r T1 q0) F1 (h.one F1) (RI_z z (F1.sr Ws_r))) (fun v2 T2 q => ?_)
  obtain ⟨F2, c⟩ := q
  exact ⟨h.2.2.2.scr h.nq ((F1.sub WX_sc).tr F2), hAC r.1 r.2 _ v2 a c⟩
theorem rk_mk0 {S : fS} {x6 : Option (Int32 × fS)} {f7 : fS → Option (Int32 × fS)} {A C : Int32 → Prop} {RT : Int32 → fS → Prop} (h : IV S) (z : ge S 40 0 0 = 0) (hR : zk x6 RT) (hR2 : ∀ (v : Int32) (T : fS), RT v T → RI T) (h6 : pk x6 (fun r T => FX (WscR 0) S T ∧ A r)) (h7 : ∀ T : fS, RI T → FX (WscR 0) S T → RLv T → ge T 40 0 0 = 0 → pk (f7 T) (fun v2 U => FX WX T U ∧ C v2)) (hAC : ∀ v v2 : Int32, A v → C v2 → v = v2) : RK0 x6 f7 := by
  refine pq_imp (pq_and hR.pk h6) (fun r T1 q => ?_)
  obtain ⟨q0, F1, a⟩ := q
  refine pq_imp (h7 T1 (hR2 r T1 q0) F1 (h.one F1) (RI_z z (F1.sr Ws_r))) (fun v2 T2 q => ?_)
  obtain ⟨F2, c⟩ := q
  exact ⟨h.2.2.2.scr h.nq ((F1.sub WX_sc).tr F2), hAC r v2 a c⟩
section TELL
variable {S T : fS} {p p2 : Int32}
def tok (p p2 : Int32) : Prop := ((0 : Int32).toInt ≤ p.toInt ∧ p.toInt ≤ (2 : Int32).toInt) ∧ ((0 : Int32).toInt ≤ p2.toInt ∧ p2.toInt ≤ (35 : Int32).toInt)
noncomputable def tval (S : fS) (p p2 : Int32) : Int32 := if p = 2 then (clm (tlW S 0)).2.2 else if p = 0 then (clm (tlW S p2)).1 else (clm (tlW S p2)).2.1
theorem y6_tells (h : IV S) : pk (F_X6_tells p p2 S) (fun r T => FX (WscR 0) S T ∧ ((r.1 = 1 ∧ ¬ tok p p2) ∨ (r.1 = 0 ∧ tok p p2 ∧ r.2 = tval S p p2))) := by
  obtain ⟨H, hO, B, N, hP, hI, hs, _⟩ := h.2.2.2.1
  have no : ¬ tok p p2 → pk (B_X6_tells_23 p p2 S) (fun r T => FX (WscR 0) S T ∧ ((r.1 = 1 ∧ ¬ tok p p2) ∨ (r.1 = 0 ∧ tok p p2 ∧ r.2 = tval S p p2))) := fun q => by
    unfold B_X6_tells_23 B_X6_tells_24
    exact pg_n0 ⟨FX.rf, Or.inl ⟨rfl, q⟩⟩
  unfold F_X6_tells
  refine pg_w (fun c1 => pg_b1 ?_) (fun q => pg_b0 (no (fun d => q d.1)))
  refine pg_w (fun c2 => pg_b1 ?_) (fun q => pg_b0 (no (fun d => q d.2)))
  unfold B_X6_tells_24
  refine pg_n1 (pq_bd y_next (fun _ V q => ?_))
  obtain ⟨F1, n⟩ := q
  have s1 := F1.sr Ws_r
  have e6 : ge V 1 0 6 = ge S 1 0 6 := F1.1 1 0 6 rfl
  have hP1 : PGq V := hP.fx F1 rfl rfl rfl rfl (fun _ => rfl) (fun _ _ => rfl) (fun _ _ => rfl)
  refine pq_bd (y_codeInForce hP1 (s1.IF e6 hI)) (fun x U q => ?_)
  obtain ⟨rfl, cx⟩ := q
  have cS : COq S (ge S 40 0 15).toInt x := by
    rw [s1 40 0 15 (by decide)] at cx
    rcases cx with c | ⟨t, c, a1, a2, a3, a4⟩
    · exact Or.inl c
    · refine Or.inr ⟨t, c, a1, a2, a3, ?_⟩
      have F1' : FX (WscR 0) V S := ⟨fun a i j q => (F1.1 a i j q).symm, F1.2.symm⟩
      exact a4.fx F1' rfl (fun _ => rfl) (fun _ => rfl)
  have fin : ∀ (lot : Int32), pk (B_X6_tells_60 p lot x V) (fun r T => FX (WscR 0) S T ∧ r.1 = 0 ∧ r.2 = (if p = 0 then (clm (tlW S lot)).1 else if p = 1 then (clm (tlW S lot)).2.1 else (clm (tlW S lot)).2.2)) := by
    intro lot
    unfold B_X6_tells_60
    refine pq_bd (y_told N cS F1 n) (fun _ T q => ?_)
    obtain ⟨F2, _, st, m⟩ := q
    refine pq_bb (fun d => pq_bd (y_grip m) (fun v U q => ?_)) (fun d => pq_bb (fun d1 => pq_bd (y_slip m) (fun v U q => ?_)) (fun d1 => pq_bd (y_lots m) (fun v U q => ?_)))
    · obtain ⟨rfl, e⟩ := q
      refine pq_some ⟨F2, rfl, ?_⟩
      rw [if_pos d]
      exact e
    · obtain ⟨rfl, e⟩ := q
      refine pq_some ⟨F2, rfl, ?_⟩
      rw [if_neg d, if_pos d1]
      exact e
    · obtain ⟨rfl, e⟩ := q
      refine pq_some ⟨F2, rfl, ?_⟩
      rw [if_neg d, if_neg d1]
      exact e
  refine pq_bb (fun d => pq_imp (fin 0) (fun r T q => ⟨q.1, Or.inr ⟨q.2.1, ⟨c1, c2⟩, ?_⟩⟩)) (fun d => pq_imp (fin p2) (fun r T q => ⟨q.1, Or.inr ⟨q.2.1, ⟨c1, c2⟩, ?_⟩⟩))
  · unfold tval
    rw [if_pos d, q.2.2, d, if_neg (by decide), if_neg (by decide)]
  · unfold tval
    rw [if_neg d, q.2.2]
    by_cases d0 : p = 0
    · rw [if_pos d0, if_pos d0]
    · have : p = 1 := of_toInt (by
        have a0 : ¬ p.toInt = 0 := fun q => d0 (of_toInt q)
        have a2 : ¬ p.toInt = 2 := fun q => d (of_toInt q)
        have l0 : (0 : Int32).toInt = 0 := by decide
        have l1 : (1 : Int32).toInt = 1 := by decide
        have l2 : (2 : Int32).toInt = 2 := by decide
        omega)
      rw [if_neg d0, if_pos this, if_neg d0]
theorem q7_tells (RT : RI T) (F : FX (WscR 0) S T) (hL : RLv T) (z : ge T 40 0 0 = 0) : pk (F_X7_tells p p2 T) (fun v U => FX WX T U ∧ ((ge U 40 0 0 = 1 ∧ ¬ tok p p2) ∨ (ge U 40 0 0 = 0 ∧ tok p p2 ∧ v = tval S p p2))) := by
  obtain ⟨H, hO, B, N, hP, hI, hs, _⟩ := hL.1
  have s1 : SRq S T := F.sr Ws_r
  have tO := TOK_of hP hI
  have no : ¬ tok p p2 → pk (B_X7_tells_25 p p2 T) (fun v U => FX WX T U ∧ ((ge U 40 0 0 = 1 ∧ ¬ tok p p2) ∨ (ge U 40 0 0 = 0 ∧ tok p p2 ∧ v = tval S p p2))) := fun q => by
    unfold B_X7_tells_25 B_X7_tells_30
    exact pg7_no z (by decide) (pq_some ⟨FX.rf.wr rfl, Or.inl ⟨ge_pus, q⟩⟩)
  unfold F_X7_tells
  refine pg7_0 z (pg_7 (fun c1 => pg_b1 ?_) (fun q => pg_b0 (no (fun d => q d.1))))
  refine pg_7 (fun c2 => pg_b1 ?_) (fun q => pg_b0 (no (fun d => q d.2)))
  unfold B_X7_tells_30
  refine pg7_ok z (pq_bd (pq_and (s_F_X7_namesOf 1 T RT).pk q_next) (fun _ V q => ?_))
  obtain ⟨⟨RV, _⟩, FV, nV⟩ := q
  have GV : FX Wcn T V := FV.sub (fun a i j h => W45_t a i j (Wt7_c a i j h))
  have e15 : ge V 40 0 15 = ge T 40 0 15 := FV.1 40 0 15 rfl
  have told : ∀ lot : Int32, pk (F_X7_tellsBy (ge V 40 0 15) lot V) (fun _ U => FX WX T U ∧ ge U 40 0 0 = 0 ∧ tg U = clm (tlW S lot)) := fun lot => by
    refine pq_imp (q_told RV GV tO (fun i hi => (nV i hi).trans (env1_lt hi 0 lot)) e15) (fun _ U q => ?_)
    obtain ⟨FU, _, t⟩ := q
    refine ⟨(GV.sub WX_cn).tr (FU.sub WX_t7), ?_, ?_⟩
    · rw [FU.1 40 0 0 rfl, FV.1 40 0 0 rfl]; exact z
    · rw [t, s1.tlwE]
  refine pq_bb (fun d => ?_) (fun d => ?_)
  · refine pq_iv fun x16 e16 => ?_
    rw [e16]
    unfold F_X7_lotsBy
    refine pq_bd (pq_bd (Q := fun v U => FX WX T U ∧ ge U 40 0 0 = 0 ∧ v = (clm (tlW S 0)).2.2) (told 0) (fun _ U q => pq_iv fun x e => pq_some ⟨q.1, q.2.1, ?_⟩)) (fun v U q => pq_some ⟨q.1, Or.inr ⟨q.2.1, ⟨c1, c2⟩, ?_⟩⟩)
    · rw [e]
      exact congrArg (fun z => z.2.2) q.2.2
    · unfold tval
      rw [if_pos d]
      exact q.2.2
  · refine pq_iv fun x9 e9 => ?_
    rw [e9]
    refine pq_bd (told p2) (fun _ U q => ?_)
    obtain ⟨FU, zU, t⟩ := q
    refine pq_bb (fun d0 => pq_iv fun x e => pq_some ⟨FU, Or.inr ⟨zU, ⟨c1, c2⟩, ?_⟩⟩) (fun d0 => pq_iv fun x e => pq_some ⟨FU, Or.inr ⟨zU, ⟨c1, c2⟩, ?_⟩⟩)
    · unfold tval
      rw [if_neg d, if_pos d0, e]
      exact congrArg (fun z => z.1) t
    · unfold tval
      rw [if_neg d, if_neg d0, e]
      exact congrArg (fun z => z.2.1) t
theorem rk_tells (h : IV S) (z : ge S 40 0 0 = 0) : RK (fun ec => if ec = 0 then 0 else 1) (F_X6_tells p p2 S) (F_X7_tells p p2) := by
  refine rk_mk (A := fun ec v => (ec = 1 ∧ ¬ tok p p2) ∨ (ec = 0 ∧ tok p p2 ∧ v = tval S p p2)) (C := fun t v => (t = 1 ∧ ¬ tok p p2) ∨ (t = 0 ∧ tok p p2 ∧ v = tval S p p2)) h z (s_F_X6_tells p p2 S h.1 h.2.1) (fun _ _ q => q.1) (y6_tells h) (fun T RT F hL zT => q7_tells RT F hL zT) (fun ec v t v2 a c => ?_)
  rcases a with ⟨a1, a2⟩ | ⟨a1, a2, a3⟩ <;> rcases c with ⟨c1, c2⟩ | ⟨c1, c2, c3⟩
  · exact ⟨by rw [a1, c1]; rfl, fun q => by omega⟩
  · exact absurd c2 a2
  · exact absurd a2 c2
  · exact ⟨by rw [a1, c1]; rfl, fun _ => a3.trans c3.symm⟩
end TELL
