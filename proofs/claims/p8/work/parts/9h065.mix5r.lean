theorem m_F_X6_refill {G : fS}  {S : fS} : sm G (F_X6_refill  S) (F_X6_refill  (mx S G)) := by
  unfold F_X6_refill
  refine sm_iv (by with_unfolding_all exact rfl) (fun _ => ?_)
  refine sm_bd (m_F_X2_layAgain _ _) (fun _ _ => ?_)
  refine sm_pu (by decide) (by with_unfolding_all exact rfl) (fun _ => ?_)
  refine sm_pu (by decide) (by with_unfolding_all exact rfl) (fun _ => ?_)
  refine sm_pu (by decide) (by with_unfolding_all exact rfl) (fun _ => ?_)
  refine sm_pu (by decide) (by with_unfolding_all exact rfl) (fun _ => ?_)
  refine sm_pu (by decide) (by with_unfolding_all exact rfl) (fun _ => ?_)
  exact sm_some
theorem m_F_X6_image {G : fS}  {S : fS} : sm G (F_X6_image  S) (F_X6_image  (mx S G)) := by
  unfold F_X6_image
  refine sm_iv (by with_unfolding_all exact rfl) (fun _ => ?_)
  refine sm_bb (by with_unfolding_all exact rfl) (fun _ => ?_) (fun _ => ?_)
  ·
    refine sm_iv (by with_unfolding_all exact rfl) (fun _ => ?_)
    refine sm_gd (by with_unfolding_all exact rfl) (fun _ => ?_)
    refine sm_bd (m_F_X0_copyFrom _ _) (fun _ _ => ?_)
    refine sm_iv (by with_unfolding_all exact rfl) (fun _ => ?_)
    refine sm_iv (by with_unfolding_all exact rfl) (fun _ => ?_)
    refine sm_pu (by decide) (by with_unfolding_all exact rfl) (fun _ => ?_)
    refine sm_iv (by with_unfolding_all exact rfl) (fun _ => ?_)
    exact sm_some
  ·
    exact sm_some
theorem m_F_X6_restore {G : fS}  {S : fS} : sm G (F_X6_restore  S) (F_X6_restore  (mx S G)) := by
  unfold F_X6_restore
  refine sm_iv (by with_unfolding_all exact rfl) (fun _ => ?_)
  refine sm_bb (by with_unfolding_all exact rfl) (fun _ => ?_) (fun _ => ?_)
  ·
    refine sm_iv (by with_unfolding_all exact rfl) (fun _ => ?_)
    refine sm_iv (by with_unfolding_all exact rfl) (fun _ => ?_)
    refine sm_pu (by decide) (by with_unfolding_all exact rfl) (fun _ => ?_)
    refine sm_iv (by with_unfolding_all exact rfl) (fun _ => ?_)
    refine sm_gd (by with_unfolding_all exact rfl) (fun _ => ?_)
    refine sm_bd (m_F_X0_copyFrom _ _) (fun _ _ => ?_)
    refine sm_iv (by with_unfolding_all exact rfl) (fun _ => ?_)
    exact sm_some
  ·
    exact sm_some
theorem m_F_X6_codeInForce {G : fS}  {S : fS} : sm G (F_X6_codeInForce  S) (F_X6_codeInForce  (mx S G)) := by
  unfold F_X6_codeInForce
  refine sm_iv (by with_unfolding_all exact rfl) (fun _ => ?_)
  refine sm_iv (by with_unfolding_all exact rfl) (fun _ => ?_)
  refine sm_iv (by with_unfolding_all exact rfl) (fun _ => ?_)
  refine sm_bd (m_F_X6_within _ _ _) (fun _ _ => ?_)
  refine sm_bb (by with_unfolding_all exact rfl) (fun _ => ?_) (fun _ => ?_)
  ·
    exact sm_some
  ·
    refine sm_iv (by with_unfolding_all exact rfl) (fun _ => ?_)
    refine sm_gd (by with_unfolding_all exact rfl) (fun _ => ?_)
    refine sm_qv (by with_unfolding_all exact rfl) (fun _ => ?_)
    exact sm_some
theorem m_B_X3_run_89 {G : fS} (o1 : Option Nat) (r2 : Nat) (k21 : (Nat × Int32 × Int32) → fS → Option (Int32 × fS)) (hk21 : ∀ (z : (Nat × Int32 × Int32)) (S : fS), sm G (k21 z S) (k21 z (mx S G))) (a1 : Nat) (a3 : Int32) (a4 : Int32) {S : fS} : sm G (B_X3_run_89 o1 r2 k21 a1 a3 a4 S) (B_X3_run_89 o1 r2 k21 a1 a3 a4 (mx S G)) := by
  unfold B_X3_run_89
  refine sm_iv (by with_unfolding_all exact rfl) (fun _ => ?_)
  exact hk21 _ _
theorem m_B_X3_run_21 {G : fS} (o1 : Option Nat) (r2 : Nat) (k21 : (Nat × Int32 × Int32) → fS → Option (Int32 × fS)) (hk21 : ∀ (z : (Nat × Int32 × Int32)) (S : fS), sm G (k21 z S) (k21 z (mx S G))) (z : (Nat × Int32 × Int32)) {S : fS} : sm G (B_X3_run_21 o1 r2 k21 z S) (B_X3_run_21 o1 r2 k21 z (mx S G)) := by
  obtain ⟨a1, a3, a4⟩ := z
  unfold B_X3_run_21
  dsimp only
  refine sm_iv (by with_unfolding_all exact rfl) (fun _ => ?_)
  refine sm_bb (by with_unfolding_all exact rfl) (fun _ => ?_) (fun _ => ?_)
  ·
    exact sm_some
  ·
    refine sm_gd (by with_unfolding_all exact rfl) (fun _ => ?_)
    refine sm_iv (by with_unfolding_all exact rfl) (fun _ => ?_)
    refine sm_bb (by with_unfolding_all exact rfl) (fun _ => ?_) (fun _ => ?_)
    ·
      refine sm_bb (by with_unfolding_all exact rfl) (fun _ => ?_) (fun _ => ?_)
      ·
        refine sm_bd (m_F_X3_work _) (fun _ _ => ?_)
        with_reducible exact m_B_X3_run_89  _ _ k21 hk21 _ _ _
      ·
        refine sm_iv (by with_unfolding_all exact rfl) (fun _ => ?_)
        refine sm_bd (m_F_X3_named _ _ _) (fun _ _ => ?_)
        refine sm_bd (m_F_X3_push _) (fun _ _ => ?_)
        with_reducible exact m_B_X3_run_89  _ _ k21 hk21 _ _ _
    ·
      refine sm_bd (m_F_X3_push _) (fun _ _ => ?_)
      with_reducible exact m_B_X3_run_89  _ _ k21 hk21 _ _ _
theorem m_F_X3_run {G : fS} (o1 : Option Nat) (r2 : Nat) (p3 : Int32) {S : fS} : sm G (F_X3_run o1 r2 p3 S) (F_X3_run o1 r2 p3 (mx S G)) := by
  unfold F_X3_run
  repeat' first
    | (with_reducible exact sm_some)
    | (with_reducible refine sm_gd (by with_unfolding_all exact rfl) (fun _ => ?_))
    | (with_reducible refine sm_oc (fun _ => ?_) (fun _ _ => ?_))
    | (with_reducible refine sm_pu (by decide) (by with_unfolding_all exact rfl) (fun _ => ?_))
    | (with_reducible refine sm_bd (m_F_fill24 _) (fun _ _ => ?_))
    | (with_reducible exact sm_lp (fun k hk z S => m_B_X3_run_21 _ _ k hk z) _ _ _)
theorem m_F_X3_holds {G : fS} (o1 : Option Nat) (r2 : Nat) {S : fS} : sm G (F_X3_holds o1 r2 S) (F_X3_holds o1 r2 (mx S G)) := by
  unfold F_X3_holds
  refine sm_bd (m_F_X3_run _ _ _) (fun _ _ => ?_)
  refine sm_bd (m_F_X3_pop ) (fun _ _ => ?_)
  refine sm_bb (by with_unfolding_all exact rfl) (fun _ => ?_) (fun _ => ?_)
  ·
    exact sm_some
  ·
    exact sm_some
theorem m_B_X6_tells_60 {G : fS} (a1 : Int32) (t0 : Int32) (t2 : Option Nat) {S : fS} : sm G (B_X6_tells_60 a1 t0 t2 S) (B_X6_tells_60 a1 t0 t2 (mx S G)) := by
  unfold B_X6_tells_60
  refine sm_bd (m_F_X3_run _ _ _) (fun _ _ => ?_)
  refine sm_bb (by with_unfolding_all exact rfl) (fun _ => ?_) (fun _ => ?_)
  ·
    refine sm_bd (m_F_X3_grip ) (fun _ _ => ?_)
    exact sm_some
  ·
    refine sm_bb (by with_unfolding_all exact rfl) (fun _ => ?_) (fun _ => ?_)
    ·
      refine sm_bd (m_F_X3_slip ) (fun _ _ => ?_)
      exact sm_some
    ·
      refine sm_bd (m_F_X3_lots ) (fun _ _ => ?_)
      exact sm_some
theorem m_B_X6_tells_24 {G : fS} (a1 : Int32) (a2 : Int32) (t0 : Int32) {S : fS} : sm G (B_X6_tells_24 a1 a2 t0 S) (B_X6_tells_24 a1 a2 t0 (mx S G)) := by
  unfold B_X6_tells_24
  refine sm_bx (m_F_X6_need _) (fun _ _ => ?_)
  refine sm_bd (m_F_X5_nameNext _ _) (fun _ _ => ?_)
  refine sm_bd (m_F_X6_codeInForce ) (fun _ _ => ?_)
  refine sm_bb (by with_unfolding_all exact rfl) (fun _ => ?_) (fun _ => ?_)
  ·
    with_reducible exact m_B_X6_tells_60  _ _ _
  ·
    with_reducible exact m_B_X6_tells_60  _ _ _
