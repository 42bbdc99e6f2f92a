theorem m_B_X6_player_38 {G : fS} (a1 : Int32) (a2 : Int32) (a3 : Int32) (a4 : Int32) {S : fS} : sm G (B_X6_player_38 a1 a2 a3 a4 S) (B_X6_player_38 a1 a2 a3 a4 (mx S G)) := by
  unfold B_X6_player_38
  with_reducible exact m_B_X6_player_39  _ _ _ _ _
theorem m_F_X6_player {G : fS} (p1 : Int32) (p2 : Int32) (p3 : Int32) (p4 : Int32) {S : fS} : sm G (F_X6_player p1 p2 p3 p4 S) (F_X6_player p1 p2 p3 p4 (mx S G)) := by
  unfold F_X6_player
  refine sm_bx (m_F_X6_needCell _) (fun _ _ => ?_)
  refine sm_bd (m_F_X6_within _ _ _) (fun _ _ => ?_)
  refine sm_bb (by with_unfolding_all exact rfl) (fun _ => ?_) (fun _ => ?_)
  ·
    with_reducible exact m_B_X6_player_38  _ _ _ _
  ·
    refine sm_bd (m_F_X6_within _ _ _) (fun _ _ => ?_)
    refine sm_bb (by with_unfolding_all exact rfl) (fun _ => ?_) (fun _ => ?_)
    ·
      with_reducible exact m_B_X6_player_38  _ _ _ _
    ·
      refine sm_bd (m_F_X6_within _ _ _) (fun _ _ => ?_)
      refine sm_bb (by with_unfolding_all exact rfl) (fun _ => ?_) (fun _ => ?_)
      ·
        with_reducible exact m_B_X6_player_38  _ _ _ _
      ·
        with_reducible exact m_B_X6_player_39  _ _ _ _ _
theorem m_B_X6_broken_67 {G : fS} (a1 : Int32) (t0 : Int32) {S : fS} : sm G (B_X6_broken_67 a1 t0 S) (B_X6_broken_67 a1 t0 (mx S G)) := by
  unfold B_X6_broken_67
  refine sm_bd (m_F_X5_nameNext _ _) (fun _ _ => ?_)
  refine sm_pu (by decide) (by with_unfolding_all exact rfl) (fun _ => ?_)
  refine sm_gd (by with_unfolding_all exact rfl) (fun _ => ?_)
  refine sm_qv (by with_unfolding_all exact rfl) (fun _ => ?_)
  refine sm_bd (m_F_X3_holds _ _) (fun _ _ => ?_)
  refine sm_bb (by with_unfolding_all exact rfl) (fun _ => ?_) (fun _ => ?_)
  ·
    refine sm_iv (by with_unfolding_all exact rfl) (fun _ => ?_)
    exact sm_some
  ·
    exact sm_some
theorem m_B_X6_broken_10 {G : fS} (k10 : (Int32 × Int32) → fS → Option ((Nat × Int32) × fS)) (hk10 : ∀ (z : (Int32 × Int32)) (S : fS), sm G (k10 z S) (k10 z (mx S G))) (z : (Int32 × Int32)) {S : fS} : sm G (B_X6_broken_10 k10 z S) (B_X6_broken_10 k10 z (mx S G)) := by
  obtain ⟨a1, a2⟩ := z
  unfold B_X6_broken_10
  dsimp only
  refine sm_iv (by with_unfolding_all exact rfl) (fun _ => ?_)
  refine sm_bb (by with_unfolding_all exact rfl) (fun _ => ?_) (fun _ => ?_)
  ·
    refine sm_bd (m_F_X6_leastPaying _) (fun _ _ => ?_)
    refine sm_bb (by with_unfolding_all exact rfl) (fun _ => ?_) (fun _ => ?_)
    ·
      with_reducible exact m_B_X6_broken_67  _ _
    ·
      with_reducible exact m_B_X6_broken_67  _ _
  ·
    refine sm_gd (by with_unfolding_all exact rfl) (fun _ => ?_)
    refine sm_qv (by with_unfolding_all exact rfl) (fun _ => ?_)
    refine sm_bd (m_F_X0_recordAt _ _) (fun _ _ => ?_)
    refine sm_gd (by with_unfolding_all exact rfl) (fun _ => ?_)
    refine sm_bd (m_F_X3_holds _ _) (fun _ _ => ?_)
    refine sm_bb (by with_unfolding_all exact rfl) (fun _ => ?_) (fun _ => ?_)
    ·
      exact sm_some
    ·
      refine sm_iv (by with_unfolding_all exact rfl) (fun _ => ?_)
      exact hk10 _ _
theorem m_F_X6_broken {G : fS} (p1 : Int32) {S : fS} : sm G (F_X6_broken p1 S) (F_X6_broken p1 (mx S G)) := by
  unfold F_X6_broken
  refine sm_iv (by with_unfolding_all exact rfl) (fun _ => ?_)
  refine sm_bx (m_F_X6_needElement _ _) (fun _ _ => ?_)
  with_reducible exact sm_lp (fun k hk z S => m_B_X6_broken_10 k hk z) _ _ _
theorem m_B_X6_tryAt_78 {G : fS} (a1 : Int32) (a2 : Nat) (a3 : Option Nat) (t0 : Int32) (t1 : Nat) {S : fS} : sm G (B_X6_tryAt_78 a1 a2 a3 t0 t1 S) (B_X6_tryAt_78 a1 a2 a3 t0 t1 (mx S G)) := by
  unfold B_X6_tryAt_78
  refine sm_pu (by decide) (by with_unfolding_all exact rfl) (fun _ => ?_)
  refine sm_iv (by with_unfolding_all exact rfl) (fun _ => ?_)
  refine sm_bd (m_F_X3_run _ _ _) (fun _ _ => ?_)
  refine sm_bd (m_F_X5_look _ _ _) (fun _ _ => ?_)
  refine sm_bd (m_F_X3_grip ) (fun _ _ => ?_)
  refine sm_bd (m_F_X3_slip ) (fun _ _ => ?_)
  refine sm_bd (m_F_X5_carry _ _ _) (fun _ _ => ?_)
  refine sm_bd (m_F_X0_move _ _) (fun _ _ => ?_)
  refine sm_bd (m_F_X0_keep _ _) (fun _ _ => ?_)
  refine sm_iv (by with_unfolding_all exact rfl) (fun _ => ?_)
  exact sm_some
theorem m_B_X6_tryAt_31 {G : fS} (a1 : Int32) (a2 : Nat) (t0 : Int32) (t1 : Nat) {S : fS} : sm G (B_X6_tryAt_31 a1 a2 t0 t1 S) (B_X6_tryAt_31 a1 a2 t0 t1 (mx S G)) := by
  unfold B_X6_tryAt_31
  refine sm_pu (by decide) (by with_unfolding_all exact rfl) (fun _ => ?_)
  refine sm_bd (m_F_X6_codeInForce ) (fun _ _ => ?_)
  refine sm_bd (m_F_X3_run _ _ _) (fun _ _ => ?_)
  refine sm_bd (m_F_X3_lots ) (fun _ _ => ?_)
  refine sm_bb (by with_unfolding_all exact rfl) (fun _ => ?_) (fun _ => ?_)
  ·
    with_reducible exact m_B_X6_tryAt_78  _ _ _ _ _
  ·
    refine sm_bd (m_F_X0_draw _ _) (fun _ _ => ?_)
    with_reducible exact m_B_X6_tryAt_78  _ _ _ _ _
theorem m_F_X6_tryAt {G : fS} (p1 : Int32) {S : fS} : sm G (F_X6_tryAt p1 S) (F_X6_tryAt p1 (mx S G)) := by
  unfold F_X6_tryAt
  refine sm_gdc (by with_unfolding_all exact rfl) (fun _ => ?_)
  refine sm_nv (by with_unfolding_all exact rfl) (fun _ => ?_)
  refine sm_newT (fun _ => ?_)
  refine sm_bd (m_F_X5_nameNext _ _) (fun _ _ => ?_)
  refine sm_bd (m_F_X6_leastPaying _) (fun _ _ => ?_)
  refine sm_bb (by with_unfolding_all exact rfl) (fun _ => ?_) (fun _ => ?_)
  ·
    with_reducible exact m_B_X6_tryAt_31  _ _ _ _
  ·
    with_reducible exact m_B_X6_tryAt_31  _ _ _ _
theorem m_F_X6_attempt {G : fS} (p1 : Int32) {S : fS} : sm G (F_X6_attempt p1 S) (F_X6_attempt p1 (mx S G)) := by
  unfold F_X6_attempt
  refine sm_bx (m_F_X6_needCell _) (fun _ _ => ?_)
  refine sm_iv (by with_unfolding_all exact rfl) (fun _ => ?_)
  refine sm_bb (by with_unfolding_all exact rfl) (fun _ => ?_) (fun _ => ?_)
  ·
    refine sm_bd (m_F_X6_tryAt _) (fun _ _ => ?_)
    exact sm_some
  ·
    exact sm_some
theorem m_B_X6_play_89 {G : fS} (a2 : Int32) (a4 : Int32) {S : fS} : sm G (B_X6_play_89 a2 a4 S) (B_X6_play_89 a2 a4 (mx S G)) := by
  unfold B_X6_play_89
  refine sm_bd (m_F_X6_cellReached _ _) (fun _ _ => ?_)
  refine sm_bd (m_F_X6_tryAt _) (fun _ _ => ?_)
  exact sm_some
