theorem m_B_X4_fail_40 {G : fS} (t0 : Int32) {S : fS} : sm G (B_X4_fail_40 t0 S) (B_X4_fail_40 t0 (mx S G)) := by
  unfold B_X4_fail_40
  repeat' first
    | (with_reducible exact sm_some)
    | (with_reducible refine sm_pu (by decide) (by with_unfolding_all exact rfl) (fun _ => ?_))
theorem m_B_X4_fail_36 {G : fS}  {S : fS} : sm G (B_X4_fail_36  S) (B_X4_fail_36  (mx S G)) := by
  unfold B_X4_fail_36
  repeat' first
    | (with_reducible exact sm_some)
    | (with_reducible refine sm_iv (by with_unfolding_all exact rfl) (fun _ => ?_))
    | (with_reducible exact m_B_X4_fail_40 _)
theorem m_F_X4_fail {G : fS} (p1 : Int32) {S : fS} : sm G (F_X4_fail p1 S) (F_X4_fail p1 (mx S G)) := by
  unfold F_X4_fail
  repeat' first
    | (with_reducible exact sm_some)
    | (with_reducible refine sm_iv (by with_unfolding_all exact rfl) (fun _ => ?_))
    | (with_reducible refine sm_bb (by with_unfolding_all exact rfl) (fun _ => ?_) (fun _ => ?_))
    | (with_reducible refine sm_gd (by with_unfolding_all exact rfl) (fun _ => ?_))
    | (with_reducible refine sm_pu (by decide) (by with_unfolding_all exact rfl) (fun _ => ?_))
    | (with_reducible exact m_B_X4_fail_36 )
    | (with_reducible exact m_B_X4_fail_40 _)
theorem m_F_X4_emit {G : fS} (p1 : Int32) {S : fS} : sm G (F_X4_emit p1 S) (F_X4_emit p1 (mx S G)) := by
  unfold F_X4_emit
  repeat' first
    | (with_reducible exact sm_some)
    | (with_reducible refine sm_iv (by with_unfolding_all exact rfl) (fun _ => ?_))
    | (with_reducible refine sm_bb (by with_unfolding_all exact rfl) (fun _ => ?_) (fun _ => ?_))
    | (with_reducible refine sm_gd (by with_unfolding_all exact rfl) (fun _ => ?_))
    | (with_reducible refine sm_pu (by decide) (by with_unfolding_all exact rfl) (fun _ => ?_))
theorem m_B_X4_number_31 {G : fS} (t0 : Int32) {S : fS} : sm G (B_X4_number_31 t0 S) (B_X4_number_31 t0 (mx S G)) := by
  unfold B_X4_number_31
  repeat' first
    | (with_reducible exact sm_some)
    | (with_reducible refine sm_iv (by with_unfolding_all exact rfl) (fun _ => ?_))
    | (with_reducible refine sm_bb (by with_unfolding_all exact rfl) (fun _ => ?_) (fun _ => ?_))
    | (with_reducible refine sm_gd (by with_unfolding_all exact rfl) (fun _ => ?_))
    | (with_reducible refine sm_pu (by decide) (by with_unfolding_all exact rfl) (fun _ => ?_))
    | (with_reducible refine sm_bd (m_F_X4_emit _) (fun _ _ => ?_))
    | (with_reducible refine sm_bd (m_F_X4_fail _) (fun _ _ => ?_))
theorem m_B_X4_number_30 {G : fS}  {S : fS} : sm G (B_X4_number_30  S) (B_X4_number_30  (mx S G)) := by
  unfold B_X4_number_30
  repeat' first
    | (with_reducible exact sm_some)
    | (with_reducible exact m_B_X4_number_31 _)
theorem m_F_X4_number {G : fS}  {S : fS} : sm G (F_X4_number  S) (F_X4_number  (mx S G)) := by
  unfold F_X4_number
  repeat' first
    | (with_reducible exact sm_some)
    | (with_reducible refine sm_iv (by with_unfolding_all exact rfl) (fun _ => ?_))
    | (with_reducible refine sm_bb (by with_unfolding_all exact rfl) (fun _ => ?_) (fun _ => ?_))
    | (with_reducible refine sm_gd (by with_unfolding_all exact rfl) (fun _ => ?_))
    | (with_reducible exact m_B_X4_number_30 )
    | (with_reducible exact m_B_X4_number_31 _)
theorem m_F_X4_opened {G : fS} (p1 : Int32) {S : fS} : sm G (F_X4_opened p1 S) (F_X4_opened p1 (mx S G)) := by
  unfold F_X4_opened
  repeat' first
    | (with_reducible exact sm_some)
    | (with_reducible refine sm_iv (by with_unfolding_all exact rfl) (fun _ => ?_))
    | (with_reducible refine sm_bb (by with_unfolding_all exact rfl) (fun _ => ?_) (fun _ => ?_))
    | (with_reducible refine sm_gd (by with_unfolding_all exact rfl) (fun _ => ?_))
    | (with_reducible refine sm_pu (by decide) (by with_unfolding_all exact rfl) (fun _ => ?_))
    | (with_reducible refine sm_bd (m_F_X4_here ) (fun _ _ => ?_))
    | (with_reducible refine sm_bd (m_F_X4_fail _) (fun _ _ => ?_))
theorem m_F_X4_passed {G : fS} (p1 : Int32) {S : fS} : sm G (F_X4_passed p1 S) (F_X4_passed p1 (mx S G)) := by
  unfold F_X4_passed
  repeat' first
    | (with_reducible exact sm_some)
    | (with_reducible refine sm_iv (by with_unfolding_all exact rfl) (fun _ => ?_))
    | (with_reducible refine sm_bb (by with_unfolding_all exact rfl) (fun _ => ?_) (fun _ => ?_))
    | (with_reducible refine sm_pu (by decide) (by with_unfolding_all exact rfl) (fun _ => ?_))
    | (with_reducible refine sm_bd (m_F_X4_here ) (fun _ _ => ?_))
theorem m_F_X4_closed {G : fS} (p1 : Int32) {S : fS} : sm G (F_X4_closed p1 S) (F_X4_closed p1 (mx S G)) := by
  unfold F_X4_closed
  repeat' first
    | (with_reducible exact sm_some)
    | (with_reducible refine sm_iv (by with_unfolding_all exact rfl) (fun _ => ?_))
    | (with_reducible refine sm_bb (by with_unfolding_all exact rfl) (fun _ => ?_) (fun _ => ?_))
    | (with_reducible refine sm_gd (by with_unfolding_all exact rfl) (fun _ => ?_))
    | (with_reducible refine sm_pu (by decide) (by with_unfolding_all exact rfl) (fun _ => ?_))
    | (with_reducible refine sm_bd (m_F_X4_passed _) (fun _ _ => ?_))
    | (with_reducible refine sm_bd (m_F_X4_fail _) (fun _ _ => ?_))
theorem m_F_X4_comparison {G : fS}  {S : fS} : sm G (F_X4_comparison  S) (F_X4_comparison  (mx S G)) := by
  unfold F_X4_comparison
  repeat' first
    | (with_reducible exact sm_some)
    | (with_reducible refine sm_bb (by with_unfolding_all exact rfl) (fun _ => ?_) (fun _ => ?_))
    | (with_reducible refine sm_bd (m_F_X4_here ) (fun _ _ => ?_))
theorem m_F_X5_nameNext {G : fS} (r0 : Nat) (r1 : Nat) {S : fS} : sm G (F_X5_nameNext r0 r1 S) (F_X5_nameNext r0 r1 (mx S G)) := by
  unfold F_X5_nameNext
  repeat' first
    | (with_reducible exact sm_some)
    | (with_reducible refine sm_iv (by with_unfolding_all exact rfl) (fun _ => ?_))
    | (with_reducible refine sm_pu (by decide) (by with_unfolding_all exact rfl) (fun _ => ?_))
theorem m_F_X5_measure {G : fS} (r0 : Nat) (p1 : Int32) {S : fS} : sm G (F_X5_measure r0 p1 S) (F_X5_measure r0 p1 (mx S G)) := by
  unfold F_X5_measure
  repeat' first
    | (with_reducible exact sm_some)
    | (with_reducible refine sm_iv (by with_unfolding_all exact rfl) (fun _ => ?_))
    | (with_reducible refine sm_pu (by decide) (by with_unfolding_all exact rfl) (fun _ => ?_))
theorem m_B_X5_take_74 {G : fS} (r0 : Nat) (r1 : Nat) (t0 : Int32) {S : fS} : sm G (B_X5_take_74 r0 r1 t0 S) (B_X5_take_74 r0 r1 t0 (mx S G)) := by
  unfold B_X5_take_74
  repeat' first
    | (with_reducible exact sm_some)
    | (with_reducible refine sm_pu (by decide) (by with_unfolding_all exact rfl) (fun _ => ?_))
theorem m_F_X5_take {G : fS} (r0 : Nat) (r1 : Nat) (p2 : Int32) {S : fS} : sm G (F_X5_take r0 r1 p2 S) (F_X5_take r0 r1 p2 (mx S G)) := by
  unfold F_X5_take
  repeat' first
    | (with_reducible exact sm_some)
    | (with_reducible refine sm_iv (by with_unfolding_all exact rfl) (fun _ => ?_))
    | (with_reducible refine sm_bb (by with_unfolding_all exact rfl) (fun _ => ?_) (fun _ => ?_))
    | (with_reducible refine sm_gd (by with_unfolding_all exact rfl) (fun _ => ?_))
    | (with_reducible refine sm_pu (by decide) (by with_unfolding_all exact rfl) (fun _ => ?_))
    | (with_reducible refine sm_bd (m_F_X2_known _ _) (fun _ _ => ?_))
    | (with_reducible exact m_B_X5_take_74 _ _ _)
theorem m_B_X5_failingStep_2 {G : fS} (r0 : Nat) (k2 : (Int32 × Int32 × Int32) → fS → Option (Int32 × fS)) (hk2 : ∀ (z : (Int32 × Int32 × Int32)) (S : fS), sm G (k2 z S) (k2 z (mx S G))) (z : (Int32 × Int32 × Int32)) {S : fS} : sm G (B_X5_failingStep_2 r0 k2 z S) (B_X5_failingStep_2 r0 k2 z (mx S G)) := by
  obtain ⟨a1, a2, a3⟩ := z
  unfold B_X5_failingStep_2
  dsimp only
  repeat' first
    | (with_reducible exact sm_some)
    | (with_reducible refine sm_iv (by with_unfolding_all exact rfl) (fun _ => ?_))
    | (with_reducible refine sm_bb (by with_unfolding_all exact rfl) (fun _ => ?_) (fun _ => ?_))
    | (with_reducible exact hk2 _ _)
theorem m_F_X5_failingStep {G : fS} (r0 : Nat) (p1 : Int32) (p2 : Int32) {S : fS} : sm G (F_X5_failingStep r0 p1 p2 S) (F_X5_failingStep r0 p1 p2 (mx S G)) := by
  unfold F_X5_failingStep
  repeat' first
    | (with_reducible exact sm_some)
    | (with_reducible exact sm_lp (fun k hk z S => m_B_X5_failingStep_2 _ k hk z) _ _ _)
theorem m_B_X5_outcomeAt_15 {G : fS} (r0 : Nat) {S : fS} : sm G (B_X5_outcomeAt_15 r0 S) (B_X5_outcomeAt_15 r0 (mx S G)) := by
  unfold B_X5_outcomeAt_15
  repeat' first
    | (with_reducible exact sm_some)
    | (with_reducible refine sm_iv (by with_unfolding_all exact rfl) (fun _ => ?_))
theorem m_F_X5_outcomeAt {G : fS} (r0 : Nat) (p1 : Int32) {S : fS} : sm G (F_X5_outcomeAt r0 p1 S) (F_X5_outcomeAt r0 p1 (mx S G)) := by
  unfold F_X5_outcomeAt
  repeat' first
    | (with_reducible exact sm_some)
    | (with_reducible refine sm_iv (by with_unfolding_all exact rfl) (fun _ => ?_))
    | (with_reducible refine sm_bb (by with_unfolding_all exact rfl) (fun _ => ?_) (fun _ => ?_))
    | (with_reducible exact m_B_X5_outcomeAt_15 _)
theorem m_F_X5_letGoAt {G : fS} (r0 : Nat) (p1 : Int32) {S : fS} : sm G (F_X5_letGoAt r0 p1 S) (F_X5_letGoAt r0 p1 (mx S G)) := by
  unfold F_X5_letGoAt
  repeat' first
    | (with_reducible exact sm_some)
    | (with_reducible refine sm_iv (by with_unfolding_all exact rfl) (fun _ => ?_))
    | (with_reducible refine sm_bb (by with_unfolding_all exact rfl) (fun _ => ?_) (fun _ => ?_))
    | (with_reducible refine sm_bd (m_F_X5_outcomeAt _ _) (fun _ _ => ?_))
    | (with_reducible refine sm_bd (m_F_J6_signum_0f7a4 _) (fun _ _ => ?_))
theorem m_F_X5_carry {G : fS} (r0 : Nat) (p1 : Int32) (p2 : Int32) {S : fS} : sm G (F_X5_carry r0 p1 p2 S) (F_X5_carry r0 p1 p2 (mx S G)) := by
  unfold F_X5_carry
  repeat' first
    | (with_reducible exact sm_some)
    | (with_reducible refine sm_pu (by decide) (by with_unfolding_all exact rfl) (fun _ => ?_))
    | (with_reducible refine sm_bd (m_F_X5_failingStep _ _ _) (fun _ _ => ?_))
    | (with_reducible refine sm_bd (m_F_X5_letGoAt _ _) (fun _ _ => ?_))
    | (with_reducible refine sm_bd (m_F_X5_outcomeAt _ _) (fun _ _ => ?_))
theorem m_F_X5_cameBy {G : fS} (r0 : Nat) (p1 : Int32) (p2 : Int32) {S : fS} : sm G (F_X5_cameBy r0 p1 p2 S) (F_X5_cameBy r0 p1 p2 (mx S G)) := by
  unfold F_X5_cameBy
  repeat' first
    | (with_reducible exact sm_some)
    | (with_reducible refine sm_iv (by with_unfolding_all exact rfl) (fun _ => ?_))
    | (with_reducible refine sm_bb (by with_unfolding_all exact rfl) (fun _ => ?_) (fun _ => ?_))
    | (with_reducible refine sm_bd (m_F_X5_failingStep _ _ _) (fun _ _ => ?_))
    | (with_reducible refine sm_bd (m_F_X5_outcomeAt _ _) (fun _ _ => ?_))
    | (with_reducible refine sm_bd (m_F_X5_letGoAt _ _) (fun _ _ => ?_))
theorem m_F_X5_told {G : fS} (r0 : Nat) (p1 : Int32) {S : fS} : sm G (F_X5_told r0 p1 S) (F_X5_told r0 p1 (mx S G)) := by
  unfold F_X5_told
  repeat' first
    | (with_reducible exact sm_some)
    | (with_reducible refine sm_iv (by with_unfolding_all exact rfl) (fun _ => ?_))
    | (with_reducible refine sm_bb (by with_unfolding_all exact rfl) (fun _ => ?_) (fun _ => ?_))
theorem m_F_X6_seed {G : fS} (p1 : Int32) {S : fS} : sm G (F_X6_seed p1 S) (F_X6_seed p1 (mx S G)) := by
  unfold F_X6_seed
  repeat' first
    | (with_reducible exact sm_some)
    | (with_reducible refine sm_iv (by with_unfolding_all exact rfl) (fun _ => ?_))
    | (with_reducible refine sm_pu (by decide) (by with_unfolding_all exact rfl) (fun _ => ?_))
theorem m_B_X6_writeBytes_43 {G : fS} (k3 : (Int32 × Int32) → fS → Option (Int32 × fS)) (hk3 : ∀ (z : (Int32 × Int32)) (S : fS), sm G (k3 z S) (k3 z (mx S G))) (a1 : Int32) (a2 : Int32) {S : fS} : sm G (B_X6_writeBytes_43 k3 a1 a2 S) (B_X6_writeBytes_43 k3 a1 a2 (mx S G)) := by
  unfold B_X6_writeBytes_43
  repeat' first
    | (with_reducible exact sm_some)
    | (with_reducible refine sm_iv (by with_unfolding_all exact rfl) (fun _ => ?_))
    | (with_reducible exact hk3 _ _)
theorem m_B_X6_writeBytes_3 {G : fS} (k3 : (Int32 × Int32) → fS → Option (Int32 × fS)) (hk3 : ∀ (z : (Int32 × Int32)) (S : fS), sm G (k3 z S) (k3 z (mx S G))) (z : (Int32 × Int32)) {S : fS} : sm G (B_X6_writeBytes_3 k3 z S) (B_X6_writeBytes_3 k3 z (mx S G)) := by
  obtain ⟨a1, a2⟩ := z
  unfold B_X6_writeBytes_3
  dsimp only
  repeat' first
    | (with_reducible exact sm_some)
    | (with_reducible refine sm_iv (by with_unfolding_all exact rfl) (fun _ => ?_))
    | (with_reducible refine sm_bb (by with_unfolding_all exact rfl) (fun _ => ?_) (fun _ => ?_))
    | (with_reducible refine sm_gd (by with_unfolding_all exact rfl) (fun _ => ?_))
    | (with_reducible refine sm_pu (by decide) (by with_unfolding_all exact rfl) (fun _ => ?_))
    | (with_reducible exact m_B_X6_writeBytes_43 k3 hk3 _ _)
    | (with_reducible exact hk3 _ _)
theorem m_F_X6_writeBytes {G : fS} (p1 : Int32) {S : fS} : sm G (F_X6_writeBytes p1 S) (F_X6_writeBytes p1 (mx S G)) := by
  unfold F_X6_writeBytes
  repeat' first
    | (with_reducible exact sm_some)
    | (with_reducible exact sm_lp (fun k hk z S => m_B_X6_writeBytes_3 k hk z) _ _ _)
theorem m_F_X6_feed {G : fS} (p1 : Int32) (p2 : Int32) (p3 : Int32) (p4 : Int32) (p5 : Int32) {S : fS} : sm G (F_X6_feed p1 p2 p3 p4 p5 S) (F_X6_feed p1 p2 p3 p4 p5 (mx S G)) := by
  unfold F_X6_feed
  repeat' first
    | (with_reducible exact sm_some)
    | (with_reducible refine sm_iv (by with_unfolding_all exact rfl) (fun _ => ?_))
    | (with_reducible refine sm_bb (by with_unfolding_all exact rfl) (fun _ => ?_) (fun _ => ?_))
    | (with_reducible refine sm_bd (m_F_X6_writeBytes _) (fun _ _ => ?_))
theorem m_F_X6_fault {G : fS}  {S : fS} : sm G (F_X6_fault  S) (F_X6_fault  (mx S G)) := by
  unfold F_X6_fault
  repeat' first
    | (with_reducible exact sm_some)
    | (with_reducible refine sm_iv (by with_unfolding_all exact rfl) (fun _ => ?_))
theorem m_B_X6_paysByLots_52 {G : fS} (k2 : (Int32 × Int32 × Int32) → fS → Option (Int32 × fS)) (hk2 : ∀ (z : (Int32 × Int32 × Int32)) (S : fS), sm G (k2 z S) (k2 z (mx S G))) (a1 : Int32) (a2 : Int32) (a3 : Int32) (t0 : Int32) {S : fS} : sm G (B_X6_paysByLots_52 k2 a1 a2 a3 t0 S) (B_X6_paysByLots_52 k2 a1 a2 a3 t0 (mx S G)) := by
  unfold B_X6_paysByLots_52
  repeat' first
    | (with_reducible exact sm_some)
    | (with_reducible refine sm_iv (by with_unfolding_all exact rfl) (fun _ => ?_))
    | (with_reducible refine sm_bb (by with_unfolding_all exact rfl) (fun _ => ?_) (fun _ => ?_))
    | (with_reducible exact hk2 _ _)
theorem m_B_X6_paysByLots_2 {G : fS} (k2 : (Int32 × Int32 × Int32) → fS → Option (Int32 × fS)) (hk2 : ∀ (z : (Int32 × Int32 × Int32)) (S : fS), sm G (k2 z S) (k2 z (mx S G))) (z : (Int32 × Int32 × Int32)) {S : fS} : sm G (B_X6_paysByLots_2 k2 z S) (B_X6_paysByLots_2 k2 z (mx S G)) := by
  obtain ⟨a1, a2, a3⟩ := z
  unfold B_X6_paysByLots_2
  dsimp only
  repeat' first
    | (with_reducible exact sm_some)
    | (with_reducible refine sm_iv (by with_unfolding_all exact rfl) (fun _ => ?_))
    | (with_reducible refine sm_bb (by with_unfolding_all exact rfl) (fun _ => ?_) (fun _ => ?_))
    | (with_reducible refine sm_gd (by with_unfolding_all exact rfl) (fun _ => ?_))
    | (with_reducible refine sm_bd (m_F_X5_failingStep _ _ _) (fun _ _ => ?_))
    | (with_reducible refine sm_bd (m_F_X5_outcomeAt _ _) (fun _ _ => ?_))
    | (with_reducible exact m_B_X6_paysByLots_52 k2 hk2 _ _ _ _)
    | (with_reducible exact hk2 _ _)
theorem m_F_X6_paysByLots {G : fS} (p1 : Int32) (p2 : Int32) {S : fS} : sm G (F_X6_paysByLots p1 p2 S) (F_X6_paysByLots p1 p2 (mx S G)) := by
  unfold F_X6_paysByLots
  repeat' first
    | (with_reducible exact sm_some)
    | (with_reducible exact sm_lp (fun k hk z S => m_B_X6_paysByLots_2 k hk z) _ _ _)
theorem m_F_X6_weightAt {G : fS} (p0 : Int32) (p1 : Int32) {S : fS} : sm G (F_X6_weightAt p0 p1 S) (F_X6_weightAt p0 p1 (mx S G)) := by
  unfold F_X6_weightAt
  repeat' first
    | (with_reducible exact sm_some)
    | (with_reducible refine sm_iv (by with_unfolding_all exact rfl) (fun _ => ?_))
theorem m_B_X6_allWeights_4 {G : fS} (k4 : (Int32 × Int32 × Int32) → fS → Option (Int32 × fS)) (hk4 : ∀ (z : (Int32 × Int32 × Int32)) (S : fS), sm G (k4 z S) (k4 z (mx S G))) (z : (Int32 × Int32 × Int32)) {S : fS} : sm G (B_X6_allWeights_4 k4 z S) (B_X6_allWeights_4 k4 z (mx S G)) := by
  obtain ⟨a0, a1, a2⟩ := z
  unfold B_X6_allWeights_4
  dsimp only
  repeat' first
    | (with_reducible exact sm_some)
    | (with_reducible refine sm_iv (by with_unfolding_all exact rfl) (fun _ => ?_))
    | (with_reducible refine sm_bb (by with_unfolding_all exact rfl) (fun _ => ?_) (fun _ => ?_))
    | (with_reducible refine sm_bd (m_F_X6_weightAt _ _) (fun _ _ => ?_))
    | (with_reducible exact hk4 _ _)
theorem m_F_X6_allWeights {G : fS} (p0 : Int32) {S : fS} : sm G (F_X6_allWeights p0 S) (F_X6_allWeights p0 (mx S G)) := by
  unfold F_X6_allWeights
  repeat' first
    | (with_reducible exact sm_some)
    | (with_reducible exact sm_lp (fun k hk z S => m_B_X6_allWeights_4 k hk z) _ _ _)
theorem m_F_X6_cellReached {G : fS} (p0 : Int32) (p1 : Int32) {S : fS} : sm G (F_X6_cellReached p0 p1 S) (F_X6_cellReached p0 p1 (mx S G)) := by
  unfold F_X6_cellReached
  repeat' first
    | (with_reducible exact sm_some)
    | (with_reducible refine sm_iv (by with_unfolding_all exact rfl) (fun _ => ?_))
theorem m_B_X6_weightsReaching_29 {G : fS} (k4 : (Int32 × Int32 × Int32 × Int32) → fS → Option (Int32 × fS)) (hk4 : ∀ (z : (Int32 × Int32 × Int32 × Int32)) (S : fS), sm G (k4 z S) (k4 z (mx S G))) (a0 : Int32) (a1 : Int32) (a3 : Int32) (t0 : Int32) (t1 : Int32) {S : fS} : sm G (B_X6_weightsReaching_29 k4 a0 a1 a3 t0 t1 S) (B_X6_weightsReaching_29 k4 a0 a1 a3 t0 t1 (mx S G)) := by
  unfold B_X6_weightsReaching_29
  repeat' first
    | (with_reducible exact sm_some)
    | (with_reducible refine sm_iv (by with_unfolding_all exact rfl) (fun _ => ?_))
    | (with_reducible exact hk4 _ _)
theorem m_B_X6_weightsReaching_4 {G : fS} (k4 : (Int32 × Int32 × Int32 × Int32) → fS → Option (Int32 × fS)) (hk4 : ∀ (z : (Int32 × Int32 × Int32 × Int32)) (S : fS), sm G (k4 z S) (k4 z (mx S G))) (z : (Int32 × Int32 × Int32 × Int32)) {S : fS} : sm G (B_X6_weightsReaching_4 k4 z S) (B_X6_weightsReaching_4 k4 z (mx S G)) := by
  obtain ⟨a0, a1, a2, a3⟩ := z
  unfold B_X6_weightsReaching_4
  dsimp only
  repeat' first
    | (with_reducible exact sm_some)
    | (with_reducible refine sm_bb (by with_unfolding_all exact rfl) (fun _ => ?_) (fun _ => ?_))
    | (with_reducible refine sm_bd (m_F_X6_cellReached _ _) (fun _ _ => ?_))
    | (with_reducible refine sm_bd (m_F_X6_weightAt _ _) (fun _ _ => ?_))
    | (with_reducible exact m_B_X6_weightsReaching_29 k4 hk4 _ _ _ _ _)
    | (with_reducible exact hk4 _ _)
theorem m_F_X6_weightsReaching {G : fS} (p0 : Int32) (p1 : Int32) {S : fS} : sm G (F_X6_weightsReaching p0 p1 S) (F_X6_weightsReaching p0 p1 (mx S G)) := by
  unfold F_X6_weightsReaching
  repeat' first
    | (with_reducible exact sm_some)
    | (with_reducible exact sm_lp (fun k hk z S => m_B_X6_weightsReaching_4 k hk z) _ _ _)
theorem m_B_X6_faithGiven_17 {G : fS}  {S : fS} : sm G (B_X6_faithGiven_17  S) (B_X6_faithGiven_17  (mx S G)) := by
  unfold B_X6_faithGiven_17
  repeat' first
    | (with_reducible exact sm_some)
