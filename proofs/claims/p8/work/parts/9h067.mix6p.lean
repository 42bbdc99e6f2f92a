theorem m_F_X6_firstStrange {G : fS} (o1 : Option Nat) {S : fS} : sm G (F_X6_firstStrange o1 S) (F_X6_firstStrange o1 (mx S G)) := by
  unfold F_X6_firstStrange
  with_reducible exact sm_lp (fun k hk z S => m_B_X6_firstStrange_2 _ k hk z) _ _ _
theorem m_B_X6_fitting_32 {G : fS} (k4 : (Int32 × Int32) → fS → Option (Int32 × fS)) (hk4 : ∀ (z : (Int32 × Int32)) (S : fS), sm G (k4 z S) (k4 z (mx S G))) (a1 : Int32) (a2 : Int32) {S : fS} : sm G (B_X6_fitting_32 k4 a1 a2 S) (B_X6_fitting_32 k4 a1 a2 (mx S G)) := by
  unfold B_X6_fitting_32
  refine sm_iv (by with_unfolding_all exact rfl) (fun _ => ?_)
  exact hk4 _ _
theorem m_B_X6_fitting_4 {G : fS} (k4 : (Int32 × Int32) → fS → Option (Int32 × fS)) (hk4 : ∀ (z : (Int32 × Int32)) (S : fS), sm G (k4 z S) (k4 z (mx S G))) (z : (Int32 × Int32)) {S : fS} : sm G (B_X6_fitting_4 k4 z S) (B_X6_fitting_4 k4 z (mx S G)) := by
  obtain ⟨a1, a2⟩ := z
  unfold B_X6_fitting_4
  dsimp only
  refine sm_iv (by with_unfolding_all exact rfl) (fun _ => ?_)
  refine sm_bb (by with_unfolding_all exact rfl) (fun _ => ?_) (fun _ => ?_)
  ·
    exact sm_some
  ·
    refine sm_gd (by with_unfolding_all exact rfl) (fun _ => ?_)
    refine sm_qv (by with_unfolding_all exact rfl) (fun _ => ?_)
    refine sm_bd (m_F_X6_firstStrange _) (fun _ _ => ?_)
    refine sm_bb (by with_unfolding_all exact rfl) (fun _ => ?_) (fun _ => ?_)
    ·
      refine sm_iv (by with_unfolding_all exact rfl) (fun _ => ?_)
      refine sm_iv (by with_unfolding_all exact rfl) (fun _ => ?_)
      with_reducible exact m_B_X6_fitting_32  k4 hk4 _ _
    ·
      with_reducible exact m_B_X6_fitting_32  k4 hk4 _ _
theorem m_F_X6_fitting {G : fS}  {S : fS} : sm G (F_X6_fitting  S) (F_X6_fitting  (mx S G)) := by
  unfold F_X6_fitting
  with_reducible exact sm_lp (fun k hk z S => m_B_X6_fitting_4 k hk z) _ _ _
theorem m_F_X6_strange {G : fS} (p1 : Int32) {S : fS} : sm G (F_X6_strange p1 S) (F_X6_strange p1 (mx S G)) := by
  unfold F_X6_strange
  refine sm_iv (by with_unfolding_all exact rfl) (fun _ => ?_)
  refine sm_iv (by with_unfolding_all exact rfl) (fun _ => ?_)
  refine sm_bd (m_F_X6_within _ _ _) (fun _ _ => ?_)
  refine sm_bx (m_F_X6_need _) (fun _ _ => ?_)
  refine sm_gd (by with_unfolding_all exact rfl) (fun _ => ?_)
  refine sm_qv (by with_unfolding_all exact rfl) (fun _ => ?_)
  refine sm_bd (m_F_X6_firstStrange _) (fun _ _ => ?_)
  exact sm_some
theorem m_B_X6_guess_93 {G : fS} (k8 : (Int32 × Int32 × Int32) → fS → Option ((Nat × Int32) × fS)) (hk8 : ∀ (z : (Int32 × Int32 × Int32)) (S : fS), sm G (k8 z S) (k8 z (mx S G))) (a1 : Int32) (a2 : Int32) (a3 : Int32) {S : fS} : sm G (B_X6_guess_93 k8 a1 a2 a3 S) (B_X6_guess_93 k8 a1 a2 a3 (mx S G)) := by
  unfold B_X6_guess_93
  refine sm_iv (by with_unfolding_all exact rfl) (fun _ => ?_)
  exact hk8 _ _
theorem m_B_X6_guess_91 {G : fS} (k8 : (Int32 × Int32 × Int32) → fS → Option ((Nat × Int32) × fS)) (hk8 : ∀ (z : (Int32 × Int32 × Int32)) (S : fS), sm G (k8 z S) (k8 z (mx S G))) (a1 : Int32) (a3 : Int32) (t0 : Int32) (t1 : Int32) {S : fS} : sm G (B_X6_guess_91 k8 a1 a3 t0 t1 S) (B_X6_guess_91 k8 a1 a3 t0 t1 (mx S G)) := by
  unfold B_X6_guess_91
  refine sm_iv (by with_unfolding_all exact rfl) (fun _ => ?_)
  with_reducible exact m_B_X6_guess_93  k8 hk8 _ _ _
theorem m_B_X6_guess_8 {G : fS} (k8 : (Int32 × Int32 × Int32) → fS → Option ((Nat × Int32) × fS)) (hk8 : ∀ (z : (Int32 × Int32 × Int32)) (S : fS), sm G (k8 z S) (k8 z (mx S G))) (z : (Int32 × Int32 × Int32)) {S : fS} : sm G (B_X6_guess_8 k8 z S) (B_X6_guess_8 k8 z (mx S G)) := by
  obtain ⟨a1, a2, a3⟩ := z
  unfold B_X6_guess_8
  dsimp only
  refine sm_iv (by with_unfolding_all exact rfl) (fun _ => ?_)
  refine sm_bb (by with_unfolding_all exact rfl) (fun _ => ?_) (fun _ => ?_)
  ·
    exact sm_some
  ·
    refine sm_gd (by with_unfolding_all exact rfl) (fun _ => ?_)
    refine sm_qv (by with_unfolding_all exact rfl) (fun _ => ?_)
    refine sm_bd (m_F_X6_firstStrange _) (fun _ _ => ?_)
    refine sm_bb (by with_unfolding_all exact rfl) (fun _ => ?_) (fun _ => ?_)
    ·
      refine sm_bd (m_F_X5_nameNext _ _) (fun _ _ => ?_)
      refine sm_gd (by with_unfolding_all exact rfl) (fun _ => ?_)
      refine sm_qv (by with_unfolding_all exact rfl) (fun _ => ?_)
      refine sm_bd (m_F_X3_run _ _ _) (fun _ _ => ?_)
      refine sm_bd (m_F_X3_grip ) (fun _ _ => ?_)
      refine sm_bd (m_F_X3_slip ) (fun _ _ => ?_)
      refine sm_bd (m_F_X6_pays _ _ _ _) (fun _ _ => ?_)
      refine sm_bb (by with_unfolding_all exact rfl) (fun _ => ?_) (fun _ => ?_)
      ·
        with_reducible exact m_B_X6_guess_91  k8 hk8 _ _ _ _
      ·
        with_reducible exact m_B_X6_guess_91  k8 hk8 _ _ _ _
    ·
      with_reducible exact m_B_X6_guess_93  k8 hk8 _ _ _
theorem m_F_X6_guess {G : fS} (p1 : Int32) {S : fS} : sm G (F_X6_guess p1 S) (F_X6_guess p1 (mx S G)) := by
  unfold F_X6_guess
  refine sm_bx (m_F_X6_needCell _) (fun _ _ => ?_)
  with_reducible exact sm_lp (fun k hk z S => m_B_X6_guess_8 k hk z) _ _ _
theorem m_B_X6_tellLots_39 {G : fS} (k39 : (Option Nat × Int32 × Int32) → fS → Option (Int32 × fS)) (hk39 : ∀ (z : (Option Nat × Int32 × Int32)) (S : fS), sm G (k39 z S) (k39 z (mx S G))) (z : (Option Nat × Int32 × Int32)) {S : fS} : sm G (B_X6_tellLots_39 k39 z S) (B_X6_tellLots_39 k39 z (mx S G)) := by
  obtain ⟨a1, a2, a3⟩ := z
  unfold B_X6_tellLots_39
  dsimp only
  refine sm_bb (by with_unfolding_all exact rfl) (fun _ => ?_) (fun _ => ?_)
  ·
    exact sm_some
  ·
    refine sm_bb (by with_unfolding_all exact rfl) (fun _ => ?_) (fun _ => ?_)
    ·
      exact sm_some
    ·
      refine sm_bd (m_F_X3_run _ _ _) (fun _ _ => ?_)
      refine sm_bd (m_F_X3_grip ) (fun _ _ => ?_)
      refine sm_gd (by with_unfolding_all exact rfl) (fun _ => ?_)
      refine sm_pu (by decide) (by with_unfolding_all exact rfl) (fun _ => ?_)
      refine sm_bd (m_F_X3_slip ) (fun _ _ => ?_)
      refine sm_gd (by with_unfolding_all exact rfl) (fun _ => ?_)
      refine sm_pu (by decide) (by with_unfolding_all exact rfl) (fun _ => ?_)
      refine sm_iv (by with_unfolding_all exact rfl) (fun _ => ?_)
      exact hk39 _ _
