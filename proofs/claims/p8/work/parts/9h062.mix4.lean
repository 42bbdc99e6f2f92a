theorem m_F_X6_wire {G : fS} (p1 : Int32) (p2 : Int32) {S : fS} : sm G (F_X6_wire p1 p2 S) (F_X6_wire p1 p2 (mx S G)) := by
  unfold F_X6_wire
  repeat' first
    | (with_reducible exact sm_some)
    | (with_reducible refine sm_iv (by with_unfolding_all exact rfl) (fun _ => ?_))
    | (with_reducible refine sm_bb (by with_unfolding_all exact rfl) (fun _ => ?_) (fun _ => ?_))
    | (with_reducible refine sm_gd (by with_unfolding_all exact rfl) (fun _ => ?_))
    | (with_reducible refine sm_bx (m_F_X6_needElement _ _) (fun _ _ => ?_))
    | (with_reducible exact m_B_X6_wire_35 _ _ _)
theorem m_F_X6_key {G : fS} (p1 : Int32) {S : fS} : sm G (F_X6_key p1 S) (F_X6_key p1 (mx S G)) := by
  unfold F_X6_key
  repeat' first
    | (with_reducible exact sm_some)
    | (with_reducible refine sm_iv (by with_unfolding_all exact rfl) (fun _ => ?_))
    | (with_reducible refine sm_bb (by with_unfolding_all exact rfl) (fun _ => ?_) (fun _ => ?_))
    | (with_reducible refine sm_gd (by with_unfolding_all exact rfl) (fun _ => ?_))
    | (with_reducible refine sm_bx (m_F_X6_needElement _ _) (fun _ _ => ?_))
    | (with_reducible refine sm_bd (m_F_X2_takeOut _ _ _) (fun _ _ => ?_))
theorem m_F_X6_thing {G : fS} (p1 : Int32) (p2 : Int32) {S : fS} : sm G (F_X6_thing p1 p2 S) (F_X6_thing p1 p2 (mx S G)) := by
  unfold F_X6_thing
  repeat' first
    | (with_reducible exact sm_some)
    | (with_reducible refine sm_iv (by with_unfolding_all exact rfl) (fun _ => ?_))
    | (with_reducible refine sm_bb (by with_unfolding_all exact rfl) (fun _ => ?_) (fun _ => ?_))
    | (with_reducible refine sm_gd (by with_unfolding_all exact rfl) (fun _ => ?_))
    | (with_reducible refine sm_bx (m_F_X6_needElement _ _) (fun _ _ => ?_))
    | (with_reducible refine sm_bd (m_F_X6_within _ _ _) (fun _ _ => ?_))
    | (with_reducible refine sm_bx (m_F_X6_need _) (fun _ _ => ?_))
    | (with_reducible refine sm_bd (m_F_X2_levelOf _ _) (fun _ _ => ?_))
theorem m_F_X6_top {G : fS} (p1 : Int32) (p2 : Int32) {S : fS} : sm G (F_X6_top p1 p2 S) (F_X6_top p1 p2 (mx S G)) := by
  unfold F_X6_top
  repeat' first
    | (with_reducible exact sm_some)
    | (with_reducible refine sm_iv (by with_unfolding_all exact rfl) (fun _ => ?_))
    | (with_reducible refine sm_bb (by with_unfolding_all exact rfl) (fun _ => ?_) (fun _ => ?_))
    | (with_reducible refine sm_gd (by with_unfolding_all exact rfl) (fun _ => ?_))
    | (with_reducible refine sm_bx (m_F_X6_needCell _) (fun _ _ => ?_))
    | (with_reducible refine sm_bd (m_F_X2_levelOf _ _) (fun _ _ => ?_))
theorem m_B_X6_hole_25 {G : fS} (a1 : Int32) (t0 : Int32) {S : fS} : sm G (B_X6_hole_25 a1 t0 S) (B_X6_hole_25 a1 t0 (mx S G)) := by
  unfold B_X6_hole_25
  repeat' first
    | (with_reducible exact sm_some)
    | (with_reducible refine sm_iv (by with_unfolding_all exact rfl) (fun _ => ?_))
    | (with_reducible refine sm_pu (by decide) (by with_unfolding_all exact rfl) (fun _ => ?_))
    | (with_reducible refine sm_bx (m_F_X6_need _) (fun _ _ => ?_))
theorem m_F_X6_hole {G : fS} (p1 : Int32) {S : fS} : sm G (F_X6_hole p1 S) (F_X6_hole p1 (mx S G)) := by
  unfold F_X6_hole
  repeat' first
    | (with_reducible exact sm_some)
    | (with_reducible refine sm_iv (by with_unfolding_all exact rfl) (fun _ => ?_))
    | (with_reducible refine sm_bb (by with_unfolding_all exact rfl) (fun _ => ?_) (fun _ => ?_))
    | (with_reducible refine sm_gd (by with_unfolding_all exact rfl) (fun _ => ?_))
    | (with_reducible refine sm_bx (m_F_X6_needCell _) (fun _ _ => ?_))
    | (with_reducible exact m_B_X6_hole_25 _ _)
theorem m_B_X6_set_32 {G : fS} (a1 : Int32) (a2 : Int32) (t0 : Int32) (t1 : Int32) (t2 : Int32) {S : fS} : sm G (B_X6_set_32 a1 a2 t0 t1 t2 S) (B_X6_set_32 a1 a2 t0 t1 t2 (mx S G)) := by
  unfold B_X6_set_32
  repeat' first
    | (with_reducible exact sm_some)
    | (with_reducible refine sm_iv (by with_unfolding_all exact rfl) (fun _ => ?_))
    | (with_reducible refine sm_bb (by with_unfolding_all exact rfl) (fun _ => ?_) (fun _ => ?_))
    | (with_reducible refine sm_pu (by decide) (by with_unfolding_all exact rfl) (fun _ => ?_))
    | (with_reducible refine sm_bd (m_F_X6_within _ _ _) (fun _ _ => ?_))
    | (with_reducible refine sm_bx (m_F_X6_need _) (fun _ _ => ?_))
theorem m_F_X6_set {G : fS} (p1 : Int32) (p2 : Int32) {S : fS} : sm G (F_X6_set p1 p2 S) (F_X6_set p1 p2 (mx S G)) := by
  unfold F_X6_set
  repeat' first
    | (with_reducible exact sm_some)
    | (with_reducible refine sm_bb (by with_unfolding_all exact rfl) (fun _ => ?_) (fun _ => ?_))
    | (with_reducible refine sm_bd (m_F_X6_within _ _ _) (fun _ _ => ?_))
    | (with_reducible refine sm_bx (m_F_X6_need _) (fun _ _ => ?_))
    | (with_reducible exact m_B_X6_set_32 _ _ _ _ _)
theorem m_F_X6_force {G : fS} (p1 : Int32) {S : fS} : sm G (F_X6_force p1 S) (F_X6_force p1 (mx S G)) := by
  unfold F_X6_force
  repeat' first
    | (with_reducible exact sm_some)
    | (with_reducible refine sm_iv (by with_unfolding_all exact rfl) (fun _ => ?_))
    | (with_reducible refine sm_pu (by decide) (by with_unfolding_all exact rfl) (fun _ => ?_))
    | (with_reducible refine sm_bd (m_F_X6_within _ _ _) (fun _ _ => ?_))
    | (with_reducible refine sm_bx (m_F_X6_need _) (fun _ _ => ?_))
theorem m_F_X6_hand {G : fS} (p1 : Int32) {S : fS} : sm G (F_X6_hand p1 S) (F_X6_hand p1 (mx S G)) := by
  unfold F_X6_hand
  repeat' first
    | (with_reducible exact sm_some)
    | (with_reducible refine sm_iv (by with_unfolding_all exact rfl) (fun _ => ?_))
    | (with_reducible refine sm_bb (by with_unfolding_all exact rfl) (fun _ => ?_) (fun _ => ?_))
    | (with_reducible refine sm_gd (by with_unfolding_all exact rfl) (fun _ => ?_))
    | (with_reducible refine sm_pu (by decide) (by with_unfolding_all exact rfl) (fun _ => ?_))
    | (with_reducible refine sm_bd (m_F_X6_within _ _ _) (fun _ _ => ?_))
    | (with_reducible refine sm_bx (m_F_X6_need _) (fun _ _ => ?_))
theorem m_F_X6_weights {G : fS} (p1 : Int32) {S : fS} : sm G (F_X6_weights p1 S) (F_X6_weights p1 (mx S G)) := by
  unfold F_X6_weights
  repeat' first
    | (with_reducible exact sm_some)
    | (with_reducible refine sm_iv (by with_unfolding_all exact rfl) (fun _ => ?_))
    | (with_reducible refine sm_gd (by with_unfolding_all exact rfl) (fun _ => ?_))
    | (with_reducible refine sm_bx (m_F_X6_needElement _ _) (fun _ _ => ?_))
    | (with_reducible refine sm_bd (m_F_X6_allWeights _) (fun _ _ => ?_))
theorem m_B_X6_settle_84 {G : fS} (k84 : (Int32 × Int32 × Int32 × Int32) → fS → Option ((Nat × Int32) × fS)) (hk84 : ∀ (z : (Int32 × Int32 × Int32 × Int32)) (S : fS), sm G (k84 z S) (k84 z (mx S G))) (z : (Int32 × Int32 × Int32 × Int32)) {S : fS} : sm G (B_X6_settle_84 k84 z S) (B_X6_settle_84 k84 z (mx S G)) := by
  obtain ⟨a1, a4, a6, a7⟩ := z
  unfold B_X6_settle_84
  dsimp only
  repeat' first
    | (with_reducible exact sm_some)
    | (with_reducible refine sm_iv (by with_unfolding_all exact rfl) (fun _ => ?_))
    | (with_reducible refine sm_bb (by with_unfolding_all exact rfl) (fun _ => ?_) (fun _ => ?_))
    | (with_reducible refine sm_gd (by with_unfolding_all exact rfl) (fun _ => ?_))
    | (with_reducible refine sm_bd (m_F_X6_allWeights _) (fun _ _ => ?_))
    | (with_reducible exact hk84 _ _)
theorem m_F_X6_settle {G : fS} (p1 : Int32) (p2 : Int32) (p3 : Int32) {S : fS} : sm G (F_X6_settle p1 p2 p3 S) (F_X6_settle p1 p2 p3 (mx S G)) := by
  unfold F_X6_settle
  refine sm_iv (by with_unfolding_all exact rfl) (fun _ => ?_)
  refine sm_bx (m_F_X6_needElement _ _) (fun _ _ => ?_)
  refine sm_bx (m_F_X6_needCell _) (fun _ _ => ?_)
  repeat' first
    | (with_reducible exact sm_some)
    | (with_reducible refine sm_iv (by with_unfolding_all exact rfl) (fun _ => ?_))
    | (with_reducible refine sm_bb (by with_unfolding_all exact rfl) (fun _ => ?_) (fun _ => ?_))
    | (with_reducible refine sm_gd (by with_unfolding_all exact rfl) (fun _ => ?_))
    | (with_reducible refine sm_bd (m_F_X6_within _ _ _) (fun _ _ => ?_))
    | (with_reducible refine sm_bx (m_F_X6_need _) (fun _ _ => ?_))
    | (with_reducible refine sm_bd (m_F_X6_weightsReaching _ _) (fun _ _ => ?_))
    | (with_reducible refine sm_bd (m_F_X2_valueOf _ _) (fun _ _ => ?_))
    | (with_reducible exact sm_lp (fun k hk z S => m_B_X6_settle_84 k hk z) _ _ _)
theorem m_F_X5_lookBeside {G : fS} (r0 : Nat) (r1 : Nat) (p2 : Int32) (p3 : Int32) (p4 : Int32) {S : fS} : sm G (F_X5_lookBeside r0 r1 p2 p3 p4 S) (F_X5_lookBeside r0 r1 p2 p3 p4 (mx S G)) := by
  unfold F_X5_lookBeside
  repeat' first
    | (with_reducible exact sm_some)
    | (with_reducible refine sm_iv (by with_unfolding_all exact rfl) (fun _ => ?_))
    | (with_reducible refine sm_bb (by with_unfolding_all exact rfl) (fun _ => ?_) (fun _ => ?_))
    | (with_reducible refine sm_gd (by with_unfolding_all exact rfl) (fun _ => ?_))
    | (with_reducible refine sm_bd (m_F_X6_within _ _ _) (fun _ _ => ?_))
    | (with_reducible refine sm_bd (m_F_X2_known _ _) (fun _ _ => ?_))
    | (with_reducible refine sm_bd (m_F_X5_take _ _ _) (fun _ _ => ?_))
theorem m_B_X5_look_149 {G : fS} (r0 : Nat) (r1 : Nat) (k149 : (Int32 × Int32 × Int32) → fS → Option (Int32 × fS)) (hk149 : ∀ (z : (Int32 × Int32 × Int32)) (S : fS), sm G (k149 z S) (k149 z (mx S G))) (z : (Int32 × Int32 × Int32)) {S : fS} : sm G (B_X5_look_149 r0 r1 k149 z S) (B_X5_look_149 r0 r1 k149 z (mx S G)) := by
  obtain ⟨a2, a5, a6⟩ := z
  unfold B_X5_look_149
  dsimp only
  repeat' first
    | (with_reducible exact sm_some)
    | (with_reducible refine sm_iv (by with_unfolding_all exact rfl) (fun _ => ?_))
    | (with_reducible refine sm_bb (by with_unfolding_all exact rfl) (fun _ => ?_) (fun _ => ?_))
    | (with_reducible refine sm_bd (m_F_X5_lookBeside _ _ _ _ _) (fun _ _ => ?_))
    | (with_reducible exact hk149 _ _)
theorem m_B_X5_look_90 {G : fS} (r0 : Nat) (r1 : Nat) (a2 : Int32) (t0 : Int32) {S : fS} : sm G (B_X5_look_90 r0 r1 a2 t0 S) (B_X5_look_90 r0 r1 a2 t0 (mx S G)) := by
  unfold B_X5_look_90
  repeat' first
    | (with_reducible exact sm_some)
    | (with_reducible refine sm_iv (by with_unfolding_all exact rfl) (fun _ => ?_))
    | (with_reducible refine sm_bb (by with_unfolding_all exact rfl) (fun _ => ?_) (fun _ => ?_))
    | (with_reducible refine sm_gd (by with_unfolding_all exact rfl) (fun _ => ?_))
    | (with_reducible refine sm_pu (by decide) (by with_unfolding_all exact rfl) (fun _ => ?_))
    | (with_reducible refine sm_bd (m_F_X2_known _ _) (fun _ _ => ?_))
    | (with_reducible refine sm_bd (m_F_X2_levelOf _ _) (fun _ _ => ?_))
    | (with_reducible refine sm_bd (m_F_X5_measure _ _) (fun _ _ => ?_))
    | (with_reducible refine sm_bd (m_F_X5_take _ _ _) (fun _ _ => ?_))
    | (with_reducible exact sm_lp (fun k hk z S => m_B_X5_look_149 _ _ k hk z) _ _ _)
theorem m_B_X5_look_89 {G : fS} (r0 : Nat) (r1 : Nat) (a2 : Int32) {S : fS} : sm G (B_X5_look_89 r0 r1 a2 S) (B_X5_look_89 r0 r1 a2 (mx S G)) := by
  unfold B_X5_look_89
  repeat' first
    | (with_reducible exact sm_some)
    | (with_reducible exact m_B_X5_look_90 _ _ _ _)
theorem m_B_X5_look_62 {G : fS} (r0 : Nat) (r1 : Nat) (a2 : Int32) (t0 : Int32) {S : fS} : sm G (B_X5_look_62 r0 r1 a2 t0 S) (B_X5_look_62 r0 r1 a2 t0 (mx S G)) := by
  unfold B_X5_look_62
  repeat' first
    | (with_reducible exact sm_some)
    | (with_reducible refine sm_iv (by with_unfolding_all exact rfl) (fun _ => ?_))
    | (with_reducible refine sm_bb (by with_unfolding_all exact rfl) (fun _ => ?_) (fun _ => ?_))
    | (with_reducible refine sm_gd (by with_unfolding_all exact rfl) (fun _ => ?_))
    | (with_reducible exact m_B_X5_look_89 _ _ _)
    | (with_reducible refine sm_bd (m_F_X6_within _ _ _) (fun _ _ => ?_))
    | (with_reducible exact m_B_X5_look_90 _ _ _ _)
theorem m_B_X5_look_61 {G : fS} (r0 : Nat) (r1 : Nat) (a2 : Int32) {S : fS} : sm G (B_X5_look_61 r0 r1 a2 S) (B_X5_look_61 r0 r1 a2 (mx S G)) := by
  unfold B_X5_look_61
  repeat' first
    | (with_reducible exact sm_some)
    | (with_reducible exact m_B_X5_look_62 _ _ _ _)
theorem m_F_X5_look {G : fS} (r0 : Nat) (r1 : Nat) (p2 : Int32) {S : fS} : sm G (F_X5_look r0 r1 p2 S) (F_X5_look r0 r1 p2 (mx S G)) := by
  unfold F_X5_look
  repeat' first
    | (with_reducible exact sm_some)
    | (with_reducible refine sm_iv (by with_unfolding_all exact rfl) (fun _ => ?_))
    | (with_reducible refine sm_bb (by with_unfolding_all exact rfl) (fun _ => ?_) (fun _ => ?_))
    | (with_reducible refine sm_pu (by decide) (by with_unfolding_all exact rfl) (fun _ => ?_))
    | (with_reducible exact m_B_X5_look_61 _ _ _)
    | (with_reducible exact m_B_X5_look_62 _ _ _ _)
theorem m_F_X6_pays {G : fS} (r1 : Nat) (p2 : Int32) (p3 : Int32) (p4 : Int32) {S : fS} : sm G (F_X6_pays r1 p2 p3 p4 S) (F_X6_pays r1 p2 p3 p4 (mx S G)) := by
  unfold F_X6_pays
  repeat' first
    | (with_reducible exact sm_some)
    | (with_reducible refine sm_bb (by with_unfolding_all exact rfl) (fun _ => ?_) (fun _ => ?_))
    | (with_reducible refine sm_bd (m_F_X5_look _ _ _) (fun _ _ => ?_))
    | (with_reducible refine sm_bd (m_F_X5_failingStep _ _ _) (fun _ _ => ?_))
    | (with_reducible refine sm_bd (m_F_X5_outcomeAt _ _) (fun _ _ => ?_))
theorem m_B_X6_cellsPaying_33 {G : fS} (k5 : (Int32 × Int32 × Int32 × Int32) → fS → Option (Int32 × fS)) (hk5 : ∀ (z : (Int32 × Int32 × Int32 × Int32)) (S : fS), sm G (k5 z S) (k5 z (mx S G))) (a1 : Int32) (a2 : Int32) (a4 : Int32) (t0 : Int32) (t1 : Int32) {S : fS} : sm G (B_X6_cellsPaying_33 k5 a1 a2 a4 t0 t1 S) (B_X6_cellsPaying_33 k5 a1 a2 a4 t0 t1 (mx S G)) := by
  unfold B_X6_cellsPaying_33
  repeat' first
    | (with_reducible exact sm_some)
    | (with_reducible refine sm_iv (by with_unfolding_all exact rfl) (fun _ => ?_))
    | (with_reducible exact hk5 _ _)
theorem m_B_X6_cellsPaying_5 {G : fS} (k5 : (Int32 × Int32 × Int32 × Int32) → fS → Option (Int32 × fS)) (hk5 : ∀ (z : (Int32 × Int32 × Int32 × Int32)) (S : fS), sm G (k5 z S) (k5 z (mx S G))) (z : (Int32 × Int32 × Int32 × Int32)) {S : fS} : sm G (B_X6_cellsPaying_5 k5 z S) (B_X6_cellsPaying_5 k5 z (mx S G)) := by
  obtain ⟨a1, a2, a3, a4⟩ := z
  unfold B_X6_cellsPaying_5
  dsimp only
  repeat' first
    | (with_reducible exact sm_some)
    | (with_reducible refine sm_bb (by with_unfolding_all exact rfl) (fun _ => ?_) (fun _ => ?_))
    | (with_reducible refine sm_bd (m_F_X6_pays _ _ _ _) (fun _ _ => ?_))
    | (with_reducible exact m_B_X6_cellsPaying_33 k5 hk5 _ _ _ _ _)
    | (with_reducible exact hk5 _ _)
theorem m_F_X6_cellsPaying {G : fS} (p1 : Int32) (p2 : Int32) {S : fS} : sm G (F_X6_cellsPaying p1 p2 S) (F_X6_cellsPaying p1 p2 (mx S G)) := by
  unfold F_X6_cellsPaying
  repeat' first
    | (with_reducible exact sm_some)
    | (with_reducible exact sm_lp (fun k hk z S => m_B_X6_cellsPaying_5 k hk z) _ _ _)
theorem m_B_X6_fair_20 {G : fS} (k13 : (Int32 × Int32) → fS → Option ((Nat × Int32) × fS)) (hk13 : ∀ (z : (Int32 × Int32)) (S : fS), sm G (k13 z S) (k13 z (mx S G))) (k20 : (Int32 × Int32 × Int32) → fS → Option ((Nat × Int32) × fS)) (hk20 : ∀ (z : (Int32 × Int32 × Int32)) (S : fS), sm G (k20 z S) (k20 z (mx S G))) (z : (Int32 × Int32 × Int32)) {S : fS} : sm G (B_X6_fair_20 k13 k20 z S) (B_X6_fair_20 k13 k20 z (mx S G)) := by
  obtain ⟨a1, a2, a3⟩ := z
  unfold B_X6_fair_20
  dsimp only
  repeat' first
    | (with_reducible exact sm_some)
    | (with_reducible refine sm_iv (by with_unfolding_all exact rfl) (fun _ => ?_))
    | (with_reducible refine sm_bb (by with_unfolding_all exact rfl) (fun _ => ?_) (fun _ => ?_))
    | (with_reducible refine sm_bd (m_F_X6_cellsPaying _ _) (fun _ _ => ?_))
    | (with_reducible exact hk13 _ _)
    | (with_reducible exact hk20 _ _)
theorem m_B_X6_fair_13 {G : fS} (k13 : (Int32 × Int32) → fS → Option ((Nat × Int32) × fS)) (hk13 : ∀ (z : (Int32 × Int32)) (S : fS), sm G (k13 z S) (k13 z (mx S G))) (z : (Int32 × Int32)) {S : fS} : sm G (B_X6_fair_13 k13 z S) (B_X6_fair_13 k13 z (mx S G)) := by
  obtain ⟨a1, a2⟩ := z
  unfold B_X6_fair_13
  dsimp only
  repeat' first
    | (with_reducible exact sm_some)
    | (with_reducible refine sm_bb (by with_unfolding_all exact rfl) (fun _ => ?_) (fun _ => ?_))
    | (with_reducible exact sm_lp (fun k hk z S => m_B_X6_fair_20 k13 hk13 k hk z) _ _ _)
    | (with_reducible exact hk13 _ _)
theorem m_F_X6_fair {G : fS} (p1 : Int32) {S : fS} : sm G (F_X6_fair p1 S) (F_X6_fair p1 (mx S G)) := by
  unfold F_X6_fair
  repeat' first
    | (with_reducible exact sm_some)
    | (with_reducible refine sm_bd (m_F_X6_within _ _ _) (fun _ _ => ?_))
    | (with_reducible refine sm_bx (m_F_X6_need _) (fun _ _ => ?_))
    | (with_reducible exact sm_lp (fun k hk z S => m_B_X6_fair_13 k hk z) _ _ _)
theorem m_B_X6_back_47 {G : fS}  {S : fS} : sm G (B_X6_back_47  S) (B_X6_back_47  (mx S G)) := by
  unfold B_X6_back_47
  repeat' first
    | (with_reducible exact sm_some)
theorem m_F_X6_back {G : fS} (p1 : Int32) (p2 : Int32) {S : fS} : sm G (F_X6_back p1 p2 S) (F_X6_back p1 p2 (mx S G)) := by
  unfold F_X6_back
  refine sm_iv (by with_unfolding_all exact rfl) (fun _ => ?_)
  refine sm_bx (m_F_X6_needElement _ _) (fun _ _ => ?_)
  refine sm_bx (m_F_X6_needCell _) (fun _ _ => ?_)
  repeat' first
    | (with_reducible exact sm_some)
    | (with_reducible refine sm_iv (by with_unfolding_all exact rfl) (fun _ => ?_))
    | (with_reducible refine sm_bb (by with_unfolding_all exact rfl) (fun _ => ?_) (fun _ => ?_))
    | (with_reducible refine sm_gd (by with_unfolding_all exact rfl) (fun _ => ?_))
    | (with_reducible refine sm_bd (m_F_X6_weightsReaching _ _) (fun _ _ => ?_))
    | (with_reducible exact m_B_X6_back_47 )
    | (with_reducible refine sm_bd (m_F_X6_allWeights _) (fun _ _ => ?_))
    | (with_reducible refine sm_bd (m_F_J9_floorDiv_7cf53 _ _) (fun _ _ => ?_))
    | (with_reducible refine sm_bd (m_F_X2_valueOf _ _) (fun _ _ => ?_))
theorem m_B_X6_cut_143 {G : fS} (k95 : (Int32 × Int32 × Int32 × Int32 × Int32 × Int32) → fS → Option ((Nat × Int32) × fS)) (hk95 : ∀ (z : (Int32 × Int32 × Int32 × Int32 × Int32 × Int32)) (S : fS), sm G (k95 z S) (k95 z (mx S G))) (a1 : Int32) (a2 : Int32) (a3 : Int32) (a6 : Int32) (a8 : Int32) (t0 : Int32) (t1 : Int32) {S : fS} : sm G (B_X6_cut_143 k95 a1 a2 a3 a6 a8 t0 t1 S) (B_X6_cut_143 k95 a1 a2 a3 a6 a8 t0 t1 (mx S G)) := by
  unfold B_X6_cut_143
  repeat' first
    | (with_reducible exact sm_some)
    | (with_reducible refine sm_iv (by with_unfolding_all exact rfl) (fun _ => ?_))
    | (with_reducible exact hk95 _ _)
theorem m_B_X6_cut_95 {G : fS} (k95 : (Int32 × Int32 × Int32 × Int32 × Int32 × Int32) → fS → Option ((Nat × Int32) × fS)) (hk95 : ∀ (z : (Int32 × Int32 × Int32 × Int32 × Int32 × Int32)) (S : fS), sm G (k95 z S) (k95 z (mx S G))) (z : (Int32 × Int32 × Int32 × Int32 × Int32 × Int32)) {S : fS} : sm G (B_X6_cut_95 k95 z S) (B_X6_cut_95 k95 z (mx S G)) := by
  obtain ⟨a1, a2, a3, a6, a7, a8⟩ := z
  unfold B_X6_cut_95
  dsimp only
  repeat' first
    | (with_reducible exact sm_some)
    | (with_reducible refine sm_iv (by with_unfolding_all exact rfl) (fun _ => ?_))
    | (with_reducible refine sm_bb (by with_unfolding_all exact rfl) (fun _ => ?_) (fun _ => ?_))
    | (with_reducible refine sm_gd (by with_unfolding_all exact rfl) (fun _ => ?_))
    | (with_reducible refine sm_bd (m_F_J9_floorMod_7cf53 _ _) (fun _ _ => ?_))
    | (with_reducible refine sm_bd (m_F_X6_weightAt _ _) (fun _ _ => ?_))
    | (with_reducible exact m_B_X6_cut_143 k95 hk95 _ _ _ _ _ _ _)
    | (with_reducible exact hk95 _ _)
theorem m_B_X6_cut_87 {G : fS} (a1 : Int32) (a2 : Int32) (a3 : Int32) (t0 : Int32) {S : fS} : sm G (B_X6_cut_87 a1 a2 a3 t0 S) (B_X6_cut_87 a1 a2 a3 t0 (mx S G)) := by
  unfold B_X6_cut_87
  repeat' first
    | (with_reducible exact sm_some)
    | (with_reducible exact sm_lp (fun k hk z S => m_B_X6_cut_95 k hk z) _ _ _)
theorem m_B_X6_cut_64 {G : fS} (a1 : Int32) (a2 : Int32) (a3 : Int32) (a4 : Int32) (a5 : Int32) (t0 : Int32) {S : fS} : sm G (B_X6_cut_64 a1 a2 a3 a4 a5 t0 S) (B_X6_cut_64 a1 a2 a3 a4 a5 t0 (mx S G)) := by
  unfold B_X6_cut_64
  repeat' first
    | (with_reducible exact sm_some)
    | (with_reducible refine sm_iv (by with_unfolding_all exact rfl) (fun _ => ?_))
    | (with_reducible refine sm_bb (by with_unfolding_all exact rfl) (fun _ => ?_) (fun _ => ?_))
    | (with_reducible refine sm_bx (m_F_X6_need _) (fun _ _ => ?_))
    | (with_reducible exact m_B_X6_cut_87 _ _ _ _)
theorem m_B_X6_cut_63 {G : fS} (a1 : Int32) (a2 : Int32) (a3 : Int32) (a4 : Int32) (a5 : Int32) {S : fS} : sm G (B_X6_cut_63 a1 a2 a3 a4 a5 S) (B_X6_cut_63 a1 a2 a3 a4 a5 (mx S G)) := by
  unfold B_X6_cut_63
  repeat' first
    | (with_reducible exact sm_some)
    | (with_reducible exact m_B_X6_cut_64 _ _ _ _ _ _)
theorem m_B_X6_cut_33 {G : fS} (a1 : Int32) (a2 : Int32) (a3 : Int32) (a4 : Int32) (a5 : Int32) (t0 : Int32) {S : fS} : sm G (B_X6_cut_33 a1 a2 a3 a4 a5 t0 S) (B_X6_cut_33 a1 a2 a3 a4 a5 t0 (mx S G)) := by
  unfold B_X6_cut_33
  repeat' first
    | (with_reducible exact sm_some)
    | (with_reducible refine sm_bb (by with_unfolding_all exact rfl) (fun _ => ?_) (fun _ => ?_))
    | (with_reducible refine sm_bx (m_F_X6_need _) (fun _ _ => ?_))
    | (with_reducible refine sm_bd (m_F_X6_within _ _ _) (fun _ _ => ?_))
    | (with_reducible exact m_B_X6_cut_63 _ _ _ _ _)
    | (with_reducible exact m_B_X6_cut_64 _ _ _ _ _ _)
theorem m_B_X6_cut_32 {G : fS} (a1 : Int32) (a2 : Int32) (a3 : Int32) (a4 : Int32) (a5 : Int32) {S : fS} : sm G (B_X6_cut_32 a1 a2 a3 a4 a5 S) (B_X6_cut_32 a1 a2 a3 a4 a5 (mx S G)) := by
  unfold B_X6_cut_32
  repeat' first
    | (with_reducible exact sm_some)
    | (with_reducible exact m_B_X6_cut_33 _ _ _ _ _ _)
theorem m_F_X6_cut {G : fS} (p1 : Int32) (p2 : Int32) (p3 : Int32) (p4 : Int32) (p5 : Int32) {S : fS} : sm G (F_X6_cut p1 p2 p3 p4 p5 S) (F_X6_cut p1 p2 p3 p4 p5 (mx S G)) := by
  unfold F_X6_cut
  repeat' first
    | (with_reducible exact sm_some)
    | (with_reducible refine sm_iv (by with_unfolding_all exact rfl) (fun _ => ?_))
    | (with_reducible refine sm_bb (by with_unfolding_all exact rfl) (fun _ => ?_) (fun _ => ?_))
    | (with_reducible refine sm_bx (m_F_X6_needElement _ _) (fun _ _ => ?_))
    | (with_reducible refine sm_bd (m_F_X6_within _ _ _) (fun _ _ => ?_))
    | (with_reducible exact m_B_X6_cut_32 _ _ _ _ _)
    | (with_reducible exact m_B_X6_cut_33 _ _ _ _ _ _)
theorem m_B_X4_spells_15 {G : fS} (r3 : Nat) (k15 : (Int32 × Int32 × Int32) → fS → Option (Int32 × fS)) (hk15 : ∀ (z : (Int32 × Int32 × Int32)) (S : fS), sm G (k15 z S) (k15 z (mx S G))) (z : (Int32 × Int32 × Int32)) {S : fS} : sm G (B_X4_spells_15 r3 k15 z S) (B_X4_spells_15 r3 k15 z (mx S G)) := by
  obtain ⟨a1, a2, a4⟩ := z
  unfold B_X4_spells_15
  dsimp only
  repeat' first
    | (with_reducible exact sm_some)
    | (with_reducible refine sm_iv (by with_unfolding_all exact rfl) (fun _ => ?_))
    | (with_reducible refine sm_bb (by with_unfolding_all exact rfl) (fun _ => ?_) (fun _ => ?_))
    | (with_reducible refine sm_gd (by with_unfolding_all exact rfl) (fun _ => ?_))
    | (with_reducible exact hk15 _ _)
theorem m_F_X4_spells {G : fS} (p1 : Int32) (p2 : Int32) (r3 : Nat) {S : fS} : sm G (F_X4_spells p1 p2 r3 S) (F_X4_spells p1 p2 r3 (mx S G)) := by
  unfold F_X4_spells
  repeat' first
    | (with_reducible exact sm_some)
    | (with_reducible refine sm_iv (by with_unfolding_all exact rfl) (fun _ => ?_))
    | (with_reducible refine sm_bb (by with_unfolding_all exact rfl) (fun _ => ?_) (fun _ => ?_))
    | (with_reducible exact sm_lp (fun k hk z S => m_B_X4_spells_15 _ k hk z) _ _ _)
theorem m_F_X4_nameIn {G : fS} (p1 : Int32) (p2 : Int32) {S : fS} : sm G (F_X4_nameIn p1 p2 S) (F_X4_nameIn p1 p2 (mx S G)) := by
  unfold F_X4_nameIn
  repeat' first
    | (with_reducible exact sm_some)
    | (with_reducible refine sm_bb (by with_unfolding_all exact rfl) (fun _ => ?_) (fun _ => ?_))
    | (with_reducible refine sm_bd (m_F_X4_spells _ _ _) (fun _ _ => ?_))
