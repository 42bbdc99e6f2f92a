theorem m_F_X6_tellLots {G : fS}  {S : fS} : sm G (F_X6_tellLots  S) (F_X6_tellLots  (mx S G)) := by
  unfold F_X6_tellLots
  refine sm_bd (m_F_X6_codeInForce ) (fun _ _ => ?_)
  refine sm_bd (m_F_X5_nameNext _ _) (fun _ _ => ?_)
  refine sm_bd (m_F_X3_run _ _ _) (fun _ _ => ?_)
  refine sm_bd (m_F_X3_lots ) (fun _ _ => ?_)
  with_reducible exact sm_lp (fun k hk z S => m_B_X6_tellLots_39 k hk z) _ _ _
theorem m_B_X6_leastPaying_48 {G : fS} (k7 : (Int32 × Int32 × Int32) → fS → Option (Int32 × fS)) (hk7 : ∀ (z : (Int32 × Int32 × Int32)) (S : fS), sm G (k7 z S) (k7 z (mx S G))) (a1 : Int32) (a2 : Int32) (a3 : Int32) {S : fS} : sm G (B_X6_leastPaying_48 k7 a1 a2 a3 S) (B_X6_leastPaying_48 k7 a1 a2 a3 (mx S G)) := by
  unfold B_X6_leastPaying_48
  refine sm_iv (by with_unfolding_all exact rfl) (fun _ => ?_)
  exact hk7 _ _
theorem m_B_X6_leastPaying_7 {G : fS} (k7 : (Int32 × Int32 × Int32) → fS → Option (Int32 × fS)) (hk7 : ∀ (z : (Int32 × Int32 × Int32)) (S : fS), sm G (k7 z S) (k7 z (mx S G))) (z : (Int32 × Int32 × Int32)) {S : fS} : sm G (B_X6_leastPaying_7 k7 z S) (B_X6_leastPaying_7 k7 z (mx S G)) := by
  obtain ⟨a1, a2, a3⟩ := z
  unfold B_X6_leastPaying_7
  dsimp only
  refine sm_bb (by with_unfolding_all exact rfl) (fun _ => ?_) (fun _ => ?_)
  ·
    exact sm_some
  ·
    refine sm_bd (m_F_X5_look _ _ _) (fun _ _ => ?_)
    refine sm_iv (by with_unfolding_all exact rfl) (fun _ => ?_)
    refine sm_bb (by with_unfolding_all exact rfl) (fun _ => ?_) (fun _ => ?_)
    ·
      refine sm_bd (m_F_X6_paysByLots _ _) (fun _ _ => ?_)
      refine sm_bb (by with_unfolding_all exact rfl) (fun _ => ?_) (fun _ => ?_)
      ·
        with_reducible exact m_B_X6_leastPaying_48  k7 hk7 _ _ _
      ·
        exact sm_some
    ·
      with_reducible exact m_B_X6_leastPaying_48  k7 hk7 _ _ _
theorem m_F_X6_leastPaying {G : fS} (p1 : Int32) {S : fS} : sm G (F_X6_leastPaying p1 S) (F_X6_leastPaying p1 (mx S G)) := by
  unfold F_X6_leastPaying
  refine sm_bd (m_F_X6_tellLots ) (fun _ _ => ?_)
  with_reducible exact sm_lp (fun k hk z S => m_B_X6_leastPaying_7 k hk z) _ _ _
theorem m_F_X6_can {G : fS} (p1 : Int32) {S : fS} : sm G (F_X6_can p1 S) (F_X6_can p1 (mx S G)) := by
  unfold F_X6_can
  refine sm_bd (m_F_X6_leastPaying _) (fun _ _ => ?_)
  exact sm_some
theorem m_F_X6_probeCopy {G : fS} (p1 : Int32) {S : fS} : sm G (F_X6_probeCopy p1 S) (F_X6_probeCopy p1 (mx S G)) := by
  unfold F_X6_probeCopy
  refine sm_bd (m_F_X5_nameNext _ _) (fun _ _ => ?_)
  refine sm_bd (m_F_X6_codeInForce ) (fun _ _ => ?_)
  refine sm_bd (m_F_X3_run _ _ _) (fun _ _ => ?_)
  refine sm_bd (m_F_X5_look _ _ _) (fun _ _ => ?_)
  refine sm_bd (m_F_X3_grip ) (fun _ _ => ?_)
  refine sm_bd (m_F_X3_slip ) (fun _ _ => ?_)
  refine sm_bd (m_F_X5_carry _ _ _) (fun _ _ => ?_)
  exact sm_some
theorem m_F_X6_tryOnCopy {G : fS} (p1 : Int32) {S : fS} : sm G (F_X6_tryOnCopy p1 S) (F_X6_tryOnCopy p1 (mx S G)) := by
  unfold F_X6_tryOnCopy
  refine sm_bd (m_F_X6_probeCopy _) (fun _ _ => ?_)
  refine sm_bd (m_F_X0_move _ _) (fun _ _ => ?_)
  refine sm_iv (by with_unfolding_all exact rfl) (fun _ => ?_)
  exact sm_some
theorem m_B_X6_worthOnCopy_34 {G : fS} (t0 : Int32) {S : fS} : sm G (B_X6_worthOnCopy_34 t0 S) (B_X6_worthOnCopy_34 t0 (mx S G)) := by
  unfold B_X6_worthOnCopy_34
  refine sm_iv (by with_unfolding_all exact rfl) (fun _ => ?_)
  refine sm_iv (by with_unfolding_all exact rfl) (fun _ => ?_)
  exact sm_some
theorem m_F_X6_worthOnCopy {G : fS} (p1 : Int32) {S : fS} : sm G (F_X6_worthOnCopy p1 S) (F_X6_worthOnCopy p1 (mx S G)) := by
  unfold F_X6_worthOnCopy
  refine sm_bd (m_F_X6_probeCopy _) (fun _ _ => ?_)
  refine sm_iv (by with_unfolding_all exact rfl) (fun _ => ?_)
  refine sm_bb (by with_unfolding_all exact rfl) (fun _ => ?_) (fun _ => ?_)
  ·
    refine sm_bd (m_F_X2_valueOfAll _ _) (fun _ _ => ?_)
    with_reducible exact m_B_X6_worthOnCopy_34  _
  ·
    with_reducible exact m_B_X6_worthOnCopy_34  _
theorem m_B_X6_worth_32 {G : fS} (k32 : (Int32 × Int32 × Int32 × Int32) → fS → Option ((Nat × Int32) × fS)) (hk32 : ∀ (z : (Int32 × Int32 × Int32 × Int32)) (S : fS), sm G (k32 z S) (k32 z (mx S G))) (z : (Int32 × Int32 × Int32 × Int32)) {S : fS} : sm G (B_X6_worth_32 k32 z S) (B_X6_worth_32 k32 z (mx S G)) := by
  obtain ⟨a1, a2, a3, a4⟩ := z
  unfold B_X6_worth_32
  dsimp only
  refine sm_bb (by with_unfolding_all exact rfl) (fun _ => ?_) (fun _ => ?_)
  ·
    refine sm_bd (m_F_X6_worthOnCopy _) (fun _ _ => ?_)
    exact sm_some
  ·
    refine sm_bd (m_F_X6_tryOnCopy _) (fun _ _ => ?_)
    refine sm_iv (by with_unfolding_all exact rfl) (fun _ => ?_)
    exact hk32 _ _
