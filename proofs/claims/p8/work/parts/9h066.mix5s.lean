theorem m_B_X6_tells_23 {G : fS} (a1 : Int32) (a2 : Int32) {S : fS} : sm G (B_X6_tells_23 a1 a2 S) (B_X6_tells_23 a1 a2 (mx S G)) := by
  unfold B_X6_tells_23
  with_reducible exact m_B_X6_tells_24  _ _ _
theorem m_F_X6_tells {G : fS} (p1 : Int32) (p2 : Int32) {S : fS} : sm G (F_X6_tells p1 p2 S) (F_X6_tells p1 p2 (mx S G)) := by
  unfold F_X6_tells
  refine sm_bd (m_F_X6_within _ _ _) (fun _ _ => ?_)
  refine sm_bb (by with_unfolding_all exact rfl) (fun _ => ?_) (fun _ => ?_)
  ·
    with_reducible exact m_B_X6_tells_23  _ _
  ·
    refine sm_bd (m_F_X6_within _ _ _) (fun _ _ => ?_)
    refine sm_bb (by with_unfolding_all exact rfl) (fun _ => ?_) (fun _ => ?_)
    ·
      with_reducible exact m_B_X6_tells_23  _ _
    ·
      with_reducible exact m_B_X6_tells_24  _ _ _
theorem m_B_X6_odds_118 {G : fS} (k55 : (Int32 × Int32 × Int32 × Int32) → fS → Option ((Nat × Int32) × fS)) (hk55 : ∀ (z : (Int32 × Int32 × Int32 × Int32)) (S : fS), sm G (k55 z S) (k55 z (mx S G))) (a1 : Int32) (a2 : Int32) (a4 : Int32) (a5 : Int32) {S : fS} : sm G (B_X6_odds_118 k55 a1 a2 a4 a5 S) (B_X6_odds_118 k55 a1 a2 a4 a5 (mx S G)) := by
  unfold B_X6_odds_118
  refine sm_iv (by with_unfolding_all exact rfl) (fun _ => ?_)
  exact hk55 _ _
theorem m_B_X6_odds_55 {G : fS} (k55 : (Int32 × Int32 × Int32 × Int32) → fS → Option ((Nat × Int32) × fS)) (hk55 : ∀ (z : (Int32 × Int32 × Int32 × Int32)) (S : fS), sm G (k55 z S) (k55 z (mx S G))) (z : (Int32 × Int32 × Int32 × Int32)) {S : fS} : sm G (B_X6_odds_55 k55 z S) (B_X6_odds_55 k55 z (mx S G)) := by
  obtain ⟨a1, a2, a4, a5⟩ := z
  unfold B_X6_odds_55
  dsimp only
  refine sm_bb (by with_unfolding_all exact rfl) (fun _ => ?_) (fun _ => ?_)
  ·
    exact sm_some
  ·
    refine sm_gd (by with_unfolding_all exact rfl) (fun _ => ?_)
    refine sm_iv (by with_unfolding_all exact rfl) (fun _ => ?_)
    refine sm_bd (m_F_X6_weightAt _ _) (fun _ _ => ?_)
    refine sm_bb (by with_unfolding_all exact rfl) (fun _ => ?_) (fun _ => ?_)
    ·
      with_reducible exact m_B_X6_odds_118  k55 hk55 _ _ _ _
    ·
      refine sm_bd (m_F_X6_cellReached _ _) (fun _ _ => ?_)
      refine sm_bd (m_F_X3_grip ) (fun _ _ => ?_)
      refine sm_bd (m_F_X3_slip ) (fun _ _ => ?_)
      refine sm_bd (m_F_X6_pays _ _ _ _) (fun _ _ => ?_)
      refine sm_bb (by with_unfolding_all exact rfl) (fun _ => ?_) (fun _ => ?_)
      ·
        with_reducible exact m_B_X6_odds_118  k55 hk55 _ _ _ _
      ·
        refine sm_iv (by with_unfolding_all exact rfl) (fun _ => ?_)
        with_reducible exact m_B_X6_odds_118  k55 hk55 _ _ _ _
theorem m_F_X6_odds {G : fS} (p1 : Int32) (p2 : Int32) (p3 : Int32) {S : fS} : sm G (F_X6_odds p1 p2 p3 S) (F_X6_odds p1 p2 p3 (mx S G)) := by
  unfold F_X6_odds
  refine sm_iv (by with_unfolding_all exact rfl) (fun _ => ?_)
  refine sm_bx (m_F_X6_needElement _ _) (fun _ _ => ?_)
  refine sm_bx (m_F_X6_needCell _) (fun _ _ => ?_)
  refine sm_bd (m_F_X6_within _ _ _) (fun _ _ => ?_)
  refine sm_bx (m_F_X6_need _) (fun _ _ => ?_)
  refine sm_bd (m_F_X5_nameNext _ _) (fun _ _ => ?_)
  refine sm_bd (m_F_X6_codeInForce ) (fun _ _ => ?_)
  refine sm_bd (m_F_X3_run _ _ _) (fun _ _ => ?_)
  with_reducible exact sm_lp (fun k hk z S => m_B_X6_odds_55 k hk z) _ _ _
theorem m_B_X6_when_43 {G : fS} (k43 : (Int32 × Int32) → fS → Option ((Nat × Int32) × fS)) (hk43 : ∀ (z : (Int32 × Int32)) (S : fS), sm G (k43 z S) (k43 z (mx S G))) (z : (Int32 × Int32)) {S : fS} : sm G (B_X6_when_43 k43 z S) (B_X6_when_43 k43 z (mx S G)) := by
  obtain ⟨a2, a3⟩ := z
  unfold B_X6_when_43
  dsimp only
  refine sm_bb (by with_unfolding_all exact rfl) (fun _ => ?_) (fun _ => ?_)
  ·
    exact sm_some
  ·
    refine sm_gd (by with_unfolding_all exact rfl) (fun _ => ?_)
    refine sm_qv (by with_unfolding_all exact rfl) (fun _ => ?_)
    refine sm_bd (m_F_X3_run _ _ _) (fun _ _ => ?_)
    refine sm_bd (m_F_X3_grip ) (fun _ _ => ?_)
    refine sm_bd (m_F_X3_slip ) (fun _ _ => ?_)
    refine sm_bd (m_F_X5_failingStep _ _ _) (fun _ _ => ?_)
    refine sm_bd (m_F_X5_outcomeAt _ _) (fun _ _ => ?_)
    refine sm_bb (by with_unfolding_all exact rfl) (fun _ => ?_) (fun _ => ?_)
    ·
      exact sm_some
    ·
      refine sm_iv (by with_unfolding_all exact rfl) (fun _ => ?_)
      refine sm_iv (by with_unfolding_all exact rfl) (fun _ => ?_)
      refine sm_pu (by decide) (by with_unfolding_all exact rfl) (fun _ => ?_)
      refine sm_iv (by with_unfolding_all exact rfl) (fun _ => ?_)
      refine sm_iv (by with_unfolding_all exact rfl) (fun _ => ?_)
      refine sm_pu (by decide) (by with_unfolding_all exact rfl) (fun _ => ?_)
      refine sm_iv (by with_unfolding_all exact rfl) (fun _ => ?_)
      refine sm_iv (by with_unfolding_all exact rfl) (fun _ => ?_)
      refine sm_iv (by with_unfolding_all exact rfl) (fun _ => ?_)
      refine sm_pu (by decide) (by with_unfolding_all exact rfl) (fun _ => ?_)
      refine sm_iv (by with_unfolding_all exact rfl) (fun _ => ?_)
      exact hk43 _ _
theorem m_F_X6_when {G : fS} (p1 : Int32) (p2 : Int32) {S : fS} : sm G (F_X6_when p1 p2 S) (F_X6_when p1 p2 (mx S G)) := by
  unfold F_X6_when
  refine sm_bx (m_F_X6_needCell _) (fun _ _ => ?_)
  refine sm_iv (by with_unfolding_all exact rfl) (fun _ => ?_)
  refine sm_iv (by with_unfolding_all exact rfl) (fun _ => ?_)
  refine sm_bd (m_F_X6_within _ _ _) (fun _ _ => ?_)
  refine sm_bx (m_F_X6_need _) (fun _ _ => ?_)
  refine sm_bd (m_F_X5_nameNext _ _) (fun _ _ => ?_)
  refine sm_bd (m_F_X5_look _ _ _) (fun _ _ => ?_)
  with_reducible exact sm_lp (fun k hk z S => m_B_X6_when_43 k hk z) _ _ _
theorem m_B_X6_couldCome_21 {G : fS} (o1 : Option Nat) (r2 : Nat) (k21 : (Int32 × Int32) → fS → Option (Int32 × fS)) (hk21 : ∀ (z : (Int32 × Int32)) (S : fS), sm G (k21 z S) (k21 z (mx S G))) (z : (Int32 × Int32)) {S : fS} : sm G (B_X6_couldCome_21 o1 r2 k21 z S) (B_X6_couldCome_21 o1 r2 k21 z (mx S G)) := by
  obtain ⟨a3, a4⟩ := z
  unfold B_X6_couldCome_21
  dsimp only
  refine sm_bb (by with_unfolding_all exact rfl) (fun _ => ?_) (fun _ => ?_)
  ·
    exact sm_some
  ·
    refine sm_bd (m_F_X3_run _ _ _) (fun _ _ => ?_)
    refine sm_bd (m_F_X3_grip ) (fun _ _ => ?_)
    refine sm_bd (m_F_X3_slip ) (fun _ _ => ?_)
    refine sm_bd (m_F_X5_cameBy _ _ _) (fun _ _ => ?_)
    refine sm_bb (by with_unfolding_all exact rfl) (fun _ => ?_) (fun _ => ?_)
    ·
      refine sm_iv (by with_unfolding_all exact rfl) (fun _ => ?_)
      exact hk21 _ _
    ·
      exact sm_some
theorem m_F_X6_couldCome {G : fS} (o1 : Option Nat) (r2 : Nat) {S : fS} : sm G (F_X6_couldCome o1 r2 S) (F_X6_couldCome o1 r2 (mx S G)) := by
  unfold F_X6_couldCome
  refine sm_bd (m_F_X3_run _ _ _) (fun _ _ => ?_)
  refine sm_bd (m_F_X3_lots ) (fun _ _ => ?_)
  with_reducible exact sm_lp (fun k hk z S => m_B_X6_couldCome_21 _ _ k hk z) _ _ _
theorem m_B_X6_firstStrange_2 {G : fS} (o1 : Option Nat) (k2 : (Int32) → fS → Option (Int32 × fS)) (hk2 : ∀ (z : (Int32)) (S : fS), sm G (k2 z S) (k2 z (mx S G))) (z : (Int32)) {S : fS} : sm G (B_X6_firstStrange_2 o1 k2 z S) (B_X6_firstStrange_2 o1 k2 z (mx S G)) := by
  unfold B_X6_firstStrange_2
  refine sm_iv (by with_unfolding_all exact rfl) (fun _ => ?_)
  refine sm_bb (by with_unfolding_all exact rfl) (fun _ => ?_) (fun _ => ?_)
  ·
    exact sm_some
  ·
    refine sm_bd (m_F_X0_recordAt _ _) (fun _ _ => ?_)
    refine sm_gd (by with_unfolding_all exact rfl) (fun _ => ?_)
    refine sm_bd (m_F_X6_couldCome _ _) (fun _ _ => ?_)
    refine sm_bb (by with_unfolding_all exact rfl) (fun _ => ?_) (fun _ => ?_)
    ·
      exact sm_some
    ·
      refine sm_iv (by with_unfolding_all exact rfl) (fun _ => ?_)
      exact hk2 _ _
