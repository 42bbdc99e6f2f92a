theorem m_B_X2_layAgain_12 {G : fS} (r0 : Nat) (k12 : (Int32 × Int32 × Int32) → fS → Option (Int32 × fS)) (hk12 : ∀ (z : (Int32 × Int32 × Int32)) (S : fS), sm G (k12 z S) (k12 z (mx S G))) (z : (Int32 × Int32 × Int32)) {S : fS} : sm G (B_X2_layAgain_12 r0 k12 z S) (B_X2_layAgain_12 r0 k12 z (mx S G)) := by
  obtain ⟨a1, a2, a3⟩ := z
  unfold B_X2_layAgain_12
  dsimp only
  repeat' first
    | (with_reducible exact sm_some)
    | (with_reducible refine sm_iv (by with_unfolding_all exact rfl) (fun _ => ?_))
    | (with_reducible refine sm_bb (by with_unfolding_all exact rfl) (fun _ => ?_) (fun _ => ?_))
    | (with_reducible refine sm_gd (by with_unfolding_all exact rfl) (fun _ => ?_))
    | (with_reducible refine sm_pu (by decide) (by with_unfolding_all exact rfl) (fun _ => ?_))
    | (with_reducible exact m_B_X2_layAgain_66 _ k12 hk12 _ _ _ _)
    | (with_reducible refine sm_bd (m_F_X2_put _ _ _) (fun _ _ => ?_))
    | (with_reducible exact hk12 _ _)
theorem m_F_X2_layAgain {G : fS} (r0 : Nat) (p1 : Int32) {S : fS} : sm G (F_X2_layAgain r0 p1 S) (F_X2_layAgain r0 p1 (mx S G)) := by
  unfold F_X2_layAgain
  repeat' first
    | (with_reducible exact sm_some)
    | (with_reducible refine sm_bd (m_F_fill10 _ _) (fun _ _ => ?_))
    | (with_reducible exact sm_lp (fun k hk z S => m_B_X2_layAgain_12 _ k hk z) _ _ _)
theorem m_F_X2_copyFrom {G : fS} (r0 : Nat) (r1 : Nat) {S : fS} : sm G (F_X2_copyFrom r0 r1 S) (F_X2_copyFrom r0 r1 (mx S G)) := by
  unfold F_X2_copyFrom
  repeat' first
    | (with_reducible exact sm_some)
    | (with_reducible refine sm_iv (by with_unfolding_all exact rfl) (fun _ => ?_))
    | (with_reducible refine sm_pu (by decide) (by with_unfolding_all exact rfl) (fun _ => ?_))
    | (with_reducible refine sm_pb (by decide) (by with_unfolding_all exact rfl) (fun _ => ?_))
theorem m_B_X0_copyFrom_101 {G : fS} (r0 : Nat) (r1 : Nat) (k101 : (Int32) → fS → Option (Int32 × fS)) (hk101 : ∀ (z : (Int32)) (S : fS), sm G (k101 z S) (k101 z (mx S G))) (z : (Int32)) {S : fS} : sm G (B_X0_copyFrom_101 r0 r1 k101 z S) (B_X0_copyFrom_101 r0 r1 k101 z (mx S G)) := by
  unfold B_X0_copyFrom_101
  repeat' first
    | (with_reducible exact sm_some)
    | (with_reducible refine sm_iv (by with_unfolding_all exact rfl) (fun _ => ?_))
    | (with_reducible refine sm_qv (by with_unfolding_all exact rfl) (fun _ => ?_))
    | (with_reducible refine sm_bb (by with_unfolding_all exact rfl) (fun _ => ?_) (fun _ => ?_))
    | (with_reducible refine sm_gd (by with_unfolding_all exact rfl) (fun _ => ?_))
    | (with_reducible refine sm_pr (by with_unfolding_all exact rfl) (fun _ => ?_))
    | (with_reducible exact hk101 _ _)
theorem m_F_X0_copyFrom {G : fS} (r0 : Nat) (r1 : Nat) {S : fS} : sm G (F_X0_copyFrom r0 r1 S) (F_X0_copyFrom r0 r1 (mx S G)) := by
  unfold F_X0_copyFrom
  repeat' first
    | (with_reducible exact sm_some)
    | (with_reducible refine sm_iv (by with_unfolding_all exact rfl) (fun _ => ?_))
    | (with_reducible refine sm_pu (by decide) (by with_unfolding_all exact rfl) (fun _ => ?_))
    | (with_reducible refine sm_bd (m_F_X2_copyFrom _ _) (fun _ _ => ?_))
    | (with_reducible exact sm_lp (fun k hk z S => m_B_X0_copyFrom_101 _ _ k hk z) _ _ _)
theorem m_F_X0_keep {G : fS} (r0 : Nat) (r1 : Nat) {S : fS} : sm G (F_X0_keep r0 r1 S) (F_X0_keep r0 r1 (mx S G)) := by
  unfold F_X0_keep
  repeat' first
    | (with_reducible exact sm_some)
    | (with_reducible refine sm_iv (by with_unfolding_all exact rfl) (fun _ => ?_))
    | (with_reducible refine sm_bb (by with_unfolding_all exact rfl) (fun _ => ?_) (fun _ => ?_))
    | (with_reducible refine sm_gd (by with_unfolding_all exact rfl) (fun _ => ?_))
    | (with_reducible refine sm_pu (by decide) (by with_unfolding_all exact rfl) (fun _ => ?_))
    | (with_reducible refine sm_pr (by with_unfolding_all exact rfl) (fun _ => ?_))
theorem m_B_X0_recordAt_21 {G : fS} (r0 : Nat) (t0 : Option Nat) {S : fS} : sm G (B_X0_recordAt_21 r0 t0 S) (B_X0_recordAt_21 r0 t0 (mx S G)) := by
  unfold B_X0_recordAt_21
  repeat' first
    | (with_reducible exact sm_some)
    | (with_reducible refine sm_gd (by with_unfolding_all exact rfl) (fun _ => ?_))
    | (with_reducible refine sm_oc (fun _ => ?_) (fun _ _ => ?_))
    | (with_reducible exact sm_none)
theorem m_B_X0_recordAt_20 {G : fS} (r0 : Nat) {S : fS} : sm G (B_X0_recordAt_20 r0 S) (B_X0_recordAt_20 r0 (mx S G)) := by
  unfold B_X0_recordAt_20
  repeat' first
    | (with_reducible exact sm_some)
    | (with_reducible exact sm_none)
    | (with_reducible exact m_B_X0_recordAt_21 _ _)
theorem m_F_X0_recordAt {G : fS} (r0 : Nat) (p1 : Int32) {S : fS} : sm G (F_X0_recordAt r0 p1 S) (F_X0_recordAt r0 p1 (mx S G)) := by
  unfold F_X0_recordAt
  repeat' first
    | (with_reducible exact sm_some)
    | (with_reducible refine sm_qv (by with_unfolding_all exact rfl) (fun _ => ?_))
    | (with_reducible refine sm_bb (by with_unfolding_all exact rfl) (fun _ => ?_) (fun _ => ?_))
    | (with_reducible refine sm_gd (by with_unfolding_all exact rfl) (fun _ => ?_))
    | (with_reducible exact m_B_X0_recordAt_20 _)
    | (with_reducible exact m_B_X0_recordAt_21 _ _)
theorem m_F_X6_record {G : fS} (p1 : Int32) (p2 : Int32) {S : fS} : sm G (F_X6_record p1 p2 S) (F_X6_record p1 p2 (mx S G)) := by
  unfold F_X6_record
  repeat' first
    | (with_reducible exact sm_some)
    | (with_reducible refine sm_iv (by with_unfolding_all exact rfl) (fun _ => ?_))
    | (with_reducible refine sm_gd (by with_unfolding_all exact rfl) (fun _ => ?_))
    | (with_reducible refine sm_bx (m_F_X6_needElement _ _) (fun _ _ => ?_))
    | (with_reducible refine sm_bd (m_F_X6_within _ _ _) (fun _ _ => ?_))
    | (with_reducible refine sm_bx (m_F_X6_need _) (fun _ _ => ?_))
    | (with_reducible refine sm_bd (m_F_X0_recordAt _ _) (fun _ _ => ?_))
    | (with_reducible refine sm_bd (m_F_X5_told _ _) (fun _ _ => ?_))
