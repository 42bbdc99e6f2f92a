theorem m_B_X6_play_47 {G : fS} (k47 : (Int32 × Int32 × Int32 × Int32) → fS → Option ((Nat × Int32) × fS)) (hk47 : ∀ (z : (Int32 × Int32 × Int32 × Int32)) (S : fS), sm G (k47 z S) (k47 z (mx S G))) (z : (Int32 × Int32 × Int32 × Int32)) {S : fS} : sm G (B_X6_play_47 k47 z S) (B_X6_play_47 k47 z (mx S G)) := by
  obtain ⟨a1, a2, a3, a4⟩ := z
  unfold B_X6_play_47
  dsimp only
  refine sm_bb (by with_unfolding_all exact rfl) (fun _ => ?_) (fun _ => ?_)
  ·
    with_reducible exact m_B_X6_play_89  _ _
  ·
    refine sm_gd (by with_unfolding_all exact rfl) (fun _ => ?_)
    refine sm_iv (by with_unfolding_all exact rfl) (fun _ => ?_)
    refine sm_bd (m_F_X6_weightAt _ _) (fun _ _ => ?_)
    refine sm_bb (by with_unfolding_all exact rfl) (fun _ => ?_) (fun _ => ?_)
    ·
      with_reducible exact m_B_X6_play_89  _ _
    ·
      refine sm_gd (by with_unfolding_all exact rfl) (fun _ => ?_)
      refine sm_iv (by with_unfolding_all exact rfl) (fun _ => ?_)
      refine sm_bd (m_F_X6_weightAt _ _) (fun _ _ => ?_)
      refine sm_iv (by with_unfolding_all exact rfl) (fun _ => ?_)
      refine sm_iv (by with_unfolding_all exact rfl) (fun _ => ?_)
      exact hk47 _ _
theorem m_F_X6_play {G : fS} (p1 : Int32) (p2 : Int32) {S : fS} : sm G (F_X6_play p1 p2 S) (F_X6_play p1 p2 (mx S G)) := by
  unfold F_X6_play
  refine sm_iv (by with_unfolding_all exact rfl) (fun _ => ?_)
  refine sm_bx (m_F_X6_needElement _ _) (fun _ _ => ?_)
  refine sm_bx (m_F_X6_needCell _) (fun _ _ => ?_)
  refine sm_iv (by with_unfolding_all exact rfl) (fun _ => ?_)
  refine sm_bb (by with_unfolding_all exact rfl) (fun _ => ?_) (fun _ => ?_)
  ·
    refine sm_gd (by with_unfolding_all exact rfl) (fun _ => ?_)
    refine sm_iv (by with_unfolding_all exact rfl) (fun _ => ?_)
    refine sm_bd (m_F_X6_allWeights _) (fun _ _ => ?_)
    refine sm_bd (m_F_X0_draw _ _) (fun _ _ => ?_)
    with_reducible exact sm_lp (fun k hk z S => m_B_X6_play_47 k hk z) _ _ _
  ·
    exact sm_some
theorem m_F_X4_codeRead {G : fS}  {S : fS} : sm G (F_X4_codeRead  S) (F_X4_codeRead  (mx S G)) := by
  unfold F_X4_codeRead
  refine sm_iv (by with_unfolding_all exact rfl) (fun _ => ?_)
  refine sm_gd (by with_unfolding_all exact rfl) (fun _ => ?_)
  refine sm_gdc (by with_unfolding_all exact rfl) (fun _ => ?_)
  refine sm_nv (by with_unfolding_all exact rfl) (fun _ => ?_)
  refine sm_newC (fun _ => ?_)
  exact sm_some
theorem m_F_X6_keepProgram {G : fS}  {S : fS} : sm G (F_X6_keepProgram  S) (F_X6_keepProgram  (mx S G)) := by
  unfold F_X6_keepProgram
  refine sm_iv (by with_unfolding_all exact rfl) (fun _ => ?_)
  refine sm_bb (by with_unfolding_all exact rfl) (fun _ => ?_) (fun _ => ?_)
  ·
    refine sm_iv (by with_unfolding_all exact rfl) (fun _ => ?_)
    refine sm_bd (m_F_X4_codeRead ) (fun _ _ => ?_)
    refine sm_gd (by with_unfolding_all exact rfl) (fun _ => ?_)
    refine sm_gd (by with_unfolding_all exact rfl) (fun _ => ?_)
    refine sm_pr (by with_unfolding_all exact rfl) (fun _ => ?_)
    refine sm_iv (by with_unfolding_all exact rfl) (fun _ => ?_)
    refine sm_iv (by with_unfolding_all exact rfl) (fun _ => ?_)
    refine sm_pu (by decide) (by with_unfolding_all exact rfl) (fun _ => ?_)
    refine sm_iv (by with_unfolding_all exact rfl) (fun _ => ?_)
    refine sm_iv (by with_unfolding_all exact rfl) (fun _ => ?_)
    exact sm_some
  ·
    exact sm_some
theorem m_F_X6_keepLaw {G : fS}  {S : fS} : sm G (F_X6_keepLaw  S) (F_X6_keepLaw  (mx S G)) := by
  unfold F_X6_keepLaw
  refine sm_iv (by with_unfolding_all exact rfl) (fun _ => ?_)
  refine sm_bb (by with_unfolding_all exact rfl) (fun _ => ?_) (fun _ => ?_)
  ·
    refine sm_iv (by with_unfolding_all exact rfl) (fun _ => ?_)
    refine sm_bd (m_F_X4_codeRead ) (fun _ _ => ?_)
    refine sm_gd (by with_unfolding_all exact rfl) (fun _ => ?_)
    refine sm_gd (by with_unfolding_all exact rfl) (fun _ => ?_)
    refine sm_pr (by with_unfolding_all exact rfl) (fun _ => ?_)
    refine sm_iv (by with_unfolding_all exact rfl) (fun _ => ?_)
    refine sm_iv (by with_unfolding_all exact rfl) (fun _ => ?_)
    refine sm_pu (by decide) (by with_unfolding_all exact rfl) (fun _ => ?_)
    refine sm_iv (by with_unfolding_all exact rfl) (fun _ => ?_)
    refine sm_iv (by with_unfolding_all exact rfl) (fun _ => ?_)
    exact sm_some
  ·
    exact sm_some
theorem m_B_X6_program_48 {G : fS} (a2 : Int32) (t0 : Int32) {S : fS} : sm G (B_X6_program_48 a2 t0 S) (B_X6_program_48 a2 t0 (mx S G)) := by
  unfold B_X6_program_48
  refine sm_iv (by with_unfolding_all exact rfl) (fun _ => ?_)
  refine sm_pu (by decide) (by with_unfolding_all exact rfl) (fun _ => ?_)
  refine sm_bb (by with_unfolding_all exact rfl) (fun _ => ?_) (fun _ => ?_)
  ·
    refine sm_iv (by with_unfolding_all exact rfl) (fun _ => ?_)
    refine sm_iv (by with_unfolding_all exact rfl) (fun _ => ?_)
    exact sm_some
  ·
    refine sm_bb (by with_unfolding_all exact rfl) (fun _ => ?_) (fun _ => ?_)
    ·
      refine sm_bd (m_F_X6_keepProgram ) (fun _ _ => ?_)
      exact sm_some
    ·
      refine sm_bd (m_F_X6_keepLaw ) (fun _ _ => ?_)
      exact sm_some
theorem m_F_X6_program {G : fS} (p1 : Int32) (p2 : Int32) {S : fS} : sm G (F_X6_program p1 p2 S) (F_X6_program p1 p2 (mx S G)) := by
  unfold F_X6_program
  refine sm_iv (by with_unfolding_all exact rfl) (fun _ => ?_)
  refine sm_bd (m_F_X6_within _ _ _) (fun _ _ => ?_)
  refine sm_bx (m_F_X6_need _) (fun _ _ => ?_)
  refine sm_pu (by decide) (by with_unfolding_all exact rfl) (fun _ => ?_)
  refine sm_bb (by with_unfolding_all exact rfl) (fun _ => ?_) (fun _ => ?_)
  ·
    refine sm_bd (m_F_X4_readProgram _) (fun _ _ => ?_)
    with_reducible exact m_B_X6_program_48  _ _
  ·
    refine sm_bd (m_F_X4_readLaw _) (fun _ _ => ?_)
    with_reducible exact m_B_X6_program_48  _ _
