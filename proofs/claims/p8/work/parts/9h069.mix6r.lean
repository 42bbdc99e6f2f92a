theorem m_F_X6_worth {G : fS} (p1 : Int32) (p2 : Int32) (p3 : Int32) {S : fS} : sm G (F_X6_worth p1 p2 p3 S) (F_X6_worth p1 p2 p3 (mx S G)) := by
  unfold F_X6_worth
  refine sm_bx (m_F_X6_needCell _) (fun _ _ => ?_)
  refine sm_bx (m_F_X6_needCell _) (fun _ _ => ?_)
  refine sm_bd (m_F_X6_within _ _ _) (fun _ _ => ?_)
  refine sm_bx (m_F_X6_need _) (fun _ _ => ?_)
  refine sm_bd (m_F_X0_copyFrom _ _) (fun _ _ => ?_)
  with_reducible exact sm_lp (fun k hk z S => m_B_X6_worth_32 k hk z) _ _ _
theorem m_B_X6_bide_65 {G : fS} (k31 : (Int32 × Int32 × Int32 × Int32 × Int32) → fS → Option ((Nat × Int32) × fS)) (hk31 : ∀ (z : (Int32 × Int32 × Int32 × Int32 × Int32)) (S : fS), sm G (k31 z S) (k31 z (mx S G))) (a1 : Int32) (a2 : Int32) (a3 : Int32) (a4 : Int32) (a5 : Int32) {S : fS} : sm G (B_X6_bide_65 k31 a1 a2 a3 a4 a5 S) (B_X6_bide_65 k31 a1 a2 a3 a4 a5 (mx S G)) := by
  unfold B_X6_bide_65
  refine sm_iv (by with_unfolding_all exact rfl) (fun _ => ?_)
  exact hk31 _ _
theorem m_B_X6_bide_31 {G : fS} (k31 : (Int32 × Int32 × Int32 × Int32 × Int32) → fS → Option ((Nat × Int32) × fS)) (hk31 : ∀ (z : (Int32 × Int32 × Int32 × Int32 × Int32)) (S : fS), sm G (k31 z S) (k31 z (mx S G))) (z : (Int32 × Int32 × Int32 × Int32 × Int32)) {S : fS} : sm G (B_X6_bide_31 k31 z S) (B_X6_bide_31 k31 z (mx S G)) := by
  obtain ⟨a1, a2, a3, a4, a5⟩ := z
  unfold B_X6_bide_31
  dsimp only
  refine sm_bb (by with_unfolding_all exact rfl) (fun _ => ?_) (fun _ => ?_)
  ·
    exact sm_some
  ·
    refine sm_bd (m_F_X6_tryOnCopy _) (fun _ _ => ?_)
    refine sm_bd (m_F_X6_worthOnCopy _) (fun _ _ => ?_)
    refine sm_bb (by with_unfolding_all exact rfl) (fun _ => ?_) (fun _ => ?_)
    ·
      with_reducible exact m_B_X6_bide_65  k31 hk31 _ _ _ _ _
    ·
      with_reducible exact m_B_X6_bide_65  k31 hk31 _ _ _ _ _
theorem m_F_X6_bide {G : fS} (p1 : Int32) (p2 : Int32) {S : fS} : sm G (F_X6_bide p1 p2 S) (F_X6_bide p1 p2 (mx S G)) := by
  unfold F_X6_bide
  refine sm_bx (m_F_X6_needCell _) (fun _ _ => ?_)
  refine sm_bx (m_F_X6_needCell _) (fun _ _ => ?_)
  refine sm_bd (m_F_X0_copyFrom _ _) (fun _ _ => ?_)
  refine sm_bd (m_F_X6_worthOnCopy _) (fun _ _ => ?_)
  with_reducible exact sm_lp (fun k hk z S => m_B_X6_bide_31 k hk z) _ _ _
theorem m_B_X6_player_121 {G : fS} (k65 : (Int32 × Int32 × Int32 × Int32 × Int32 × Int32 × Int32) → fS → Option ((Nat × Int32) × fS)) (hk65 : ∀ (z : (Int32 × Int32 × Int32 × Int32 × Int32 × Int32 × Int32)) (S : fS), sm G (k65 z S) (k65 z (mx S G))) (a1 : Int32) (a3 : Int32) (a4 : Int32) (a5 : Int32) (a6 : Int32) (a7 : Int32) (a9 : Int32) (t0 : Int32) (t1 : Int32) {S : fS} : sm G (B_X6_player_121 k65 a1 a3 a4 a5 a6 a7 a9 t0 t1 S) (B_X6_player_121 k65 a1 a3 a4 a5 a6 a7 a9 t0 t1 (mx S G)) := by
  unfold B_X6_player_121
  refine sm_iv (by with_unfolding_all exact rfl) (fun _ => ?_)
  refine sm_bd (m_F_X6_faithGiven _) (fun _ _ => ?_)
  refine sm_iv (by with_unfolding_all exact rfl) (fun _ => ?_)
  refine sm_iv (by with_unfolding_all exact rfl) (fun _ => ?_)
  refine sm_iv (by with_unfolding_all exact rfl) (fun _ => ?_)
  exact hk65 _ _
theorem m_B_X6_player_105 {G : fS} (k65 : (Int32 × Int32 × Int32 × Int32 × Int32 × Int32 × Int32) → fS → Option ((Nat × Int32) × fS)) (hk65 : ∀ (z : (Int32 × Int32 × Int32 × Int32 × Int32 × Int32 × Int32)) (S : fS), sm G (k65 z S) (k65 z (mx S G))) (a1 : Int32) (a3 : Int32) (a4 : Int32) (a5 : Int32) (a6 : Int32) (a8 : Int32) (a9 : Int32) (t0 : Int32) (t1 : Int32) {S : fS} : sm G (B_X6_player_105 k65 a1 a3 a4 a5 a6 a8 a9 t0 t1 S) (B_X6_player_105 k65 a1 a3 a4 a5 a6 a8 a9 t0 t1 (mx S G)) := by
  unfold B_X6_player_105
  refine sm_iv (by with_unfolding_all exact rfl) (fun _ => ?_)
  refine sm_bb (by with_unfolding_all exact rfl) (fun _ => ?_) (fun _ => ?_)
  ·
    with_reducible exact m_B_X6_player_121  k65 hk65 _ _ _ _ _ _ _ _ _
  ·
    with_reducible exact m_B_X6_player_121  k65 hk65 _ _ _ _ _ _ _ _ _
theorem m_B_X6_player_100 {G : fS} (k65 : (Int32 × Int32 × Int32 × Int32 × Int32 × Int32 × Int32) → fS → Option ((Nat × Int32) × fS)) (hk65 : ∀ (z : (Int32 × Int32 × Int32 × Int32 × Int32 × Int32 × Int32)) (S : fS), sm G (k65 z S) (k65 z (mx S G))) (a1 : Int32) (a3 : Int32) (a4 : Int32) (a5 : Int32) (a6 : Int32) (a8 : Int32) (a9 : Int32) (t0 : Int32) {S : fS} : sm G (B_X6_player_100 k65 a1 a3 a4 a5 a6 a8 a9 t0 S) (B_X6_player_100 k65 a1 a3 a4 a5 a6 a8 a9 t0 (mx S G)) := by
  unfold B_X6_player_100
  with_reducible exact m_B_X6_player_105  k65 hk65 _ _ _ _ _ _ _ _ _
theorem m_B_X6_player_146 {G : fS} (a4 : Int32) (a5 : Int32) (a6 : Int32) (a7 : Int32) (a8 : Int32) {S : fS} : sm G (B_X6_player_146 a4 a5 a6 a7 a8 S) (B_X6_player_146 a4 a5 a6 a7 a8 (mx S G)) := by
  unfold B_X6_player_146
  refine sm_bb (by with_unfolding_all exact rfl) (fun _ => ?_) (fun _ => ?_)
  ·
    exact sm_some
  ·
    refine sm_bb (by with_unfolding_all exact rfl) (fun _ => ?_) (fun _ => ?_)
    ·
      exact sm_some
    ·
      refine sm_bb (by with_unfolding_all exact rfl) (fun _ => ?_) (fun _ => ?_)
      ·
        exact sm_some
      ·
        exact sm_some
theorem m_B_X6_player_65 {G : fS} (k65 : (Int32 × Int32 × Int32 × Int32 × Int32 × Int32 × Int32) → fS → Option ((Nat × Int32) × fS)) (hk65 : ∀ (z : (Int32 × Int32 × Int32 × Int32 × Int32 × Int32 × Int32)) (S : fS), sm G (k65 z S) (k65 z (mx S G))) (z : (Int32 × Int32 × Int32 × Int32 × Int32 × Int32 × Int32)) {S : fS} : sm G (B_X6_player_65 k65 z S) (B_X6_player_65 k65 z (mx S G)) := by
  obtain ⟨a1, a3, a4, a5, a6, a7, a8⟩ := z
  unfold B_X6_player_65
  dsimp only
  refine sm_bb (by with_unfolding_all exact rfl) (fun _ => ?_) (fun _ => ?_)
  ·
    with_reducible exact m_B_X6_player_146  _ _ _ _ _
  ·
    refine sm_bb (by with_unfolding_all exact rfl) (fun _ => ?_) (fun _ => ?_)
    ·
      with_reducible exact m_B_X6_player_146  _ _ _ _ _
    ·
      refine sm_bd (m_F_X6_tryOnCopy _) (fun _ _ => ?_)
      refine sm_iv (by with_unfolding_all exact rfl) (fun _ => ?_)
      refine sm_bb (by with_unfolding_all exact rfl) (fun _ => ?_) (fun _ => ?_)
      ·
        with_reducible exact m_B_X6_player_100  k65 hk65 _ _ _ _ _ _ _ _
      ·
        refine sm_bb (by with_unfolding_all exact rfl) (fun _ => ?_) (fun _ => ?_)
        ·
          with_reducible exact m_B_X6_player_100  k65 hk65 _ _ _ _ _ _ _ _
        ·
          with_reducible exact m_B_X6_player_105  k65 hk65 _ _ _ _ _ _ _ _ _
theorem m_B_X6_player_39 {G : fS} (a1 : Int32) (a2 : Int32) (a3 : Int32) (a4 : Int32) (t0 : Int32) {S : fS} : sm G (B_X6_player_39 a1 a2 a3 a4 t0 S) (B_X6_player_39 a1 a2 a3 a4 t0 (mx S G)) := by
  unfold B_X6_player_39
  refine sm_bx (m_F_X6_need _) (fun _ _ => ?_)
  refine sm_bd (m_F_X0_copyFrom _ _) (fun _ _ => ?_)
  with_reducible exact sm_lp (fun k hk z S => m_B_X6_player_65 k hk z) _ _ _
