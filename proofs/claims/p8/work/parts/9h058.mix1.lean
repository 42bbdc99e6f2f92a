theorem m_F_X6_within {G : fS} (p0 : Int32) (p1 : Int32) (p2 : Int32) {S : fS} : sm G (F_X6_within p0 p1 p2 S) (F_X6_within p0 p1 p2 (mx S G)) := by
  unfold F_X6_within
  repeat' first
    | (with_reducible exact sm_some)
    | (with_reducible refine sm_bb (by with_unfolding_all exact rfl) (fun _ => ?_) (fun _ => ?_))
theorem m_F_X0_draw {G : fS} (r0 : Nat) (p1 : Int32) {S : fS} : sm G (F_X0_draw r0 p1 S) (F_X0_draw r0 p1 (mx S G)) := by
  unfold F_X0_draw
  repeat' first
    | (with_reducible exact sm_some)
    | (with_reducible refine sm_iv (by with_unfolding_all exact rfl) (fun _ => ?_))
    | (with_reducible refine sm_bb (by with_unfolding_all exact rfl) (fun _ => ?_) (fun _ => ?_))
    | (with_reducible refine sm_gd (by with_unfolding_all exact rfl) (fun _ => ?_))
    | (with_reducible refine sm_pu (by decide) (by with_unfolding_all exact rfl) (fun _ => ?_))
theorem m_F_X5_grippedAt {G : fS} (r0 : Nat) (p1 : Int32) {S : fS} : sm G (F_X5_grippedAt r0 p1 S) (F_X5_grippedAt r0 p1 (mx S G)) := by
  unfold F_X5_grippedAt
  repeat' first
    | (with_reducible exact sm_some)
    | (with_reducible refine sm_iv (by with_unfolding_all exact rfl) (fun _ => ?_))
    | (with_reducible refine sm_bb (by with_unfolding_all exact rfl) (fun _ => ?_) (fun _ => ?_))
    | (with_reducible refine sm_gd (by with_unfolding_all exact rfl) (fun _ => ?_))
theorem m_F_X2_known {G : fS} (r0 : Nat) (p1 : Int32) {S : fS} : sm G (F_X2_known r0 p1 S) (F_X2_known r0 p1 (mx S G)) := by
  unfold F_X2_known
  repeat' first
    | (with_reducible exact sm_some)
    | (with_reducible refine sm_iv (by with_unfolding_all exact rfl) (fun _ => ?_))
    | (with_reducible refine sm_bb (by with_unfolding_all exact rfl) (fun _ => ?_) (fun _ => ?_))
theorem m_B_X2_unhook_5 {G : fS} (r0 : Nat) (k5 : (Int32 × Int32 × Int32) → fS → Option (Int32 × fS)) (hk5 : ∀ (z : (Int32 × Int32 × Int32)) (S : fS), sm G (k5 z S) (k5 z (mx S G))) (z : (Int32 × Int32 × Int32)) {S : fS} : sm G (B_X2_unhook_5 r0 k5 z S) (B_X2_unhook_5 r0 k5 z (mx S G)) := by
  obtain ⟨a1, a3, a4⟩ := z
  unfold B_X2_unhook_5
  dsimp only
  repeat' first
    | (with_reducible exact sm_some)
    | (with_reducible refine sm_iv (by with_unfolding_all exact rfl) (fun _ => ?_))
    | (with_reducible refine sm_bb (by with_unfolding_all exact rfl) (fun _ => ?_) (fun _ => ?_))
    | (with_reducible refine sm_gd (by with_unfolding_all exact rfl) (fun _ => ?_))
    | (with_reducible refine sm_pu (by decide) (by with_unfolding_all exact rfl) (fun _ => ?_))
    | (with_reducible refine sm_bd (m_F_X2_known _ _) (fun _ _ => ?_))
    | (with_reducible exact hk5 _ _)
theorem m_F_X2_unhook {G : fS} (r0 : Nat) (p1 : Int32) (p2 : Int32) {S : fS} : sm G (F_X2_unhook r0 p1 p2 S) (F_X2_unhook r0 p1 p2 (mx S G)) := by
  unfold F_X2_unhook
  repeat' first
    | (with_reducible exact sm_some)
    | (with_reducible exact sm_lp (fun k hk z S => m_B_X2_unhook_5 _ k hk z) _ _ _)
theorem m_B_X2_takeOut_67 {G : fS} (r0 : Nat) (a1 : Int32) (a2 : Int32) {S : fS} : sm G (B_X2_takeOut_67 r0 a1 a2 S) (B_X2_takeOut_67 r0 a1 a2 (mx S G)) := by
  unfold B_X2_takeOut_67
  repeat' first
    | (with_reducible exact sm_some)
    | (with_reducible refine sm_gd (by with_unfolding_all exact rfl) (fun _ => ?_))
    | (with_reducible refine sm_pu (by decide) (by with_unfolding_all exact rfl) (fun _ => ?_))
theorem m_F_X2_takeOut {G : fS} (r0 : Nat) (p1 : Int32) (p2 : Int32) {S : fS} : sm G (F_X2_takeOut r0 p1 p2 S) (F_X2_takeOut r0 p1 p2 (mx S G)) := by
  unfold F_X2_takeOut
  repeat' first
    | (with_reducible exact sm_some)
    | (with_reducible refine sm_iv (by with_unfolding_all exact rfl) (fun _ => ?_))
    | (with_reducible refine sm_bb (by with_unfolding_all exact rfl) (fun _ => ?_) (fun _ => ?_))
    | (with_reducible refine sm_gd (by with_unfolding_all exact rfl) (fun _ => ?_))
    | (with_reducible refine sm_pu (by decide) (by with_unfolding_all exact rfl) (fun _ => ?_))
    | (with_reducible refine sm_bd (m_F_X2_known _ _) (fun _ _ => ?_))
    | (with_reducible refine sm_bd (m_F_X6_within _ _ _) (fun _ _ => ?_))
    | (with_reducible exact m_B_X2_takeOut_67 _ _ _)
    | (with_reducible refine sm_bd (m_F_X2_unhook _ _ _) (fun _ _ => ?_))
theorem m_F_X2_valueOf {G : fS} (r0 : Nat) (p1 : Int32) {S : fS} : sm G (F_X2_valueOf r0 p1 S) (F_X2_valueOf r0 p1 (mx S G)) := by
  unfold F_X2_valueOf
  repeat' first
    | (with_reducible exact sm_some)
    | (with_reducible refine sm_iv (by with_unfolding_all exact rfl) (fun _ => ?_))
    | (with_reducible refine sm_bb (by with_unfolding_all exact rfl) (fun _ => ?_) (fun _ => ?_))
    | (with_reducible refine sm_gd (by with_unfolding_all exact rfl) (fun _ => ?_))
    | (with_reducible refine sm_bd (m_F_X2_known _ _) (fun _ _ => ?_))
theorem m_B_X2_valueOfAll_4 {G : fS} (r0 : Nat) (r1 : Nat) (k4 : (Int32 × Int32) → fS → Option (Int32 × fS)) (hk4 : ∀ (z : (Int32 × Int32)) (S : fS), sm G (k4 z S) (k4 z (mx S G))) (z : (Int32 × Int32)) {S : fS} : sm G (B_X2_valueOfAll_4 r0 r1 k4 z S) (B_X2_valueOfAll_4 r0 r1 k4 z (mx S G)) := by
  obtain ⟨a2, a3⟩ := z
  unfold B_X2_valueOfAll_4
  dsimp only
  repeat' first
    | (with_reducible exact sm_some)
    | (with_reducible refine sm_iv (by with_unfolding_all exact rfl) (fun _ => ?_))
    | (with_reducible refine sm_bb (by with_unfolding_all exact rfl) (fun _ => ?_) (fun _ => ?_))
    | (with_reducible refine sm_bd (m_F_X5_grippedAt _ _) (fun _ _ => ?_))
    | (with_reducible refine sm_bd (m_F_X2_valueOf _ _) (fun _ _ => ?_))
    | (with_reducible exact hk4 _ _)
theorem m_F_X2_valueOfAll {G : fS} (r0 : Nat) (r1 : Nat) {S : fS} : sm G (F_X2_valueOfAll r0 r1 S) (F_X2_valueOfAll r0 r1 (mx S G)) := by
  unfold F_X2_valueOfAll
  repeat' first
    | (with_reducible exact sm_some)
    | (with_reducible exact sm_lp (fun k hk z S => m_B_X2_valueOfAll_4 _ _ k hk z) _ _ _)
theorem m_F_X2_put {G : fS} (r0 : Nat) (p1 : Int32) (p2 : Int32) {S : fS} : sm G (F_X2_put r0 p1 p2 S) (F_X2_put r0 p1 p2 (mx S G)) := by
  unfold F_X2_put
  repeat' first
    | (with_reducible exact sm_some)
    | (with_reducible refine sm_iv (by with_unfolding_all exact rfl) (fun _ => ?_))
    | (with_reducible refine sm_bb (by with_unfolding_all exact rfl) (fun _ => ?_) (fun _ => ?_))
    | (with_reducible refine sm_gd (by with_unfolding_all exact rfl) (fun _ => ?_))
    | (with_reducible refine sm_pu (by decide) (by with_unfolding_all exact rfl) (fun _ => ?_))
    | (with_reducible refine sm_bd (m_F_X2_known _ _) (fun _ _ => ?_))
    | (with_reducible refine sm_bd (m_F_X6_within _ _ _) (fun _ _ => ?_))
theorem m_B_X0_move_119 {G : fS} (r0 : Nat) (r1 : Nat) (k119 : (Int32) → fS → Option (Int32 × fS)) (hk119 : ∀ (z : (Int32)) (S : fS), sm G (k119 z S) (k119 z (mx S G))) (z : (Int32)) {S : fS} : sm G (B_X0_move_119 r0 r1 k119 z S) (B_X0_move_119 r0 r1 k119 z (mx S G)) := by
  unfold B_X0_move_119
  repeat' first
    | (with_reducible exact sm_some)
    | (with_reducible refine sm_iv (by with_unfolding_all exact rfl) (fun _ => ?_))
    | (with_reducible refine sm_bb (by with_unfolding_all exact rfl) (fun _ => ?_) (fun _ => ?_))
    | (with_reducible refine sm_bd (m_F_X5_grippedAt _ _) (fun _ _ => ?_))
    | (with_reducible refine sm_bd (m_F_X2_put _ _ _) (fun _ _ => ?_))
    | (with_reducible exact hk119 _ _)
theorem m_B_X0_move_64 {G : fS} (r0 : Nat) (r1 : Nat) (k64 : (Int32) → fS → Option (Int32 × fS)) (hk64 : ∀ (z : (Int32)) (S : fS), sm G (k64 z S) (k64 z (mx S G))) (z : (Int32)) {S : fS} : sm G (B_X0_move_64 r0 r1 k64 z S) (B_X0_move_64 r0 r1 k64 z (mx S G)) := by
  unfold B_X0_move_64
  repeat' first
    | (with_reducible exact sm_some)
    | (with_reducible refine sm_iv (by with_unfolding_all exact rfl) (fun _ => ?_))
    | (with_reducible refine sm_bb (by with_unfolding_all exact rfl) (fun _ => ?_) (fun _ => ?_))
    | (with_reducible refine sm_pu (by decide) (by with_unfolding_all exact rfl) (fun _ => ?_))
    | (with_reducible refine sm_bd (m_F_X2_valueOfAll _ _) (fun _ _ => ?_))
    | (with_reducible exact sm_lp (fun k hk z S => m_B_X0_move_119 _ _ k hk z) _ _ _)
    | (with_reducible refine sm_bd (m_F_X5_grippedAt _ _) (fun _ _ => ?_))
    | (with_reducible refine sm_bd (m_F_X2_takeOut _ _ _) (fun _ _ => ?_))
    | (with_reducible exact hk64 _ _)
theorem m_B_X0_move_62 {G : fS} (r0 : Nat) (r1 : Nat) {S : fS} : sm G (B_X0_move_62 r0 r1 S) (B_X0_move_62 r0 r1 (mx S G)) := by
  unfold B_X0_move_62
  repeat' first
    | (with_reducible exact sm_some)
    | (with_reducible exact sm_lp (fun k hk z S => m_B_X0_move_64 _ _ k hk z) _ _ _)
theorem m_B_X0_move_29 {G : fS} (r0 : Nat) (r1 : Nat) (t0 : Int32) {S : fS} : sm G (B_X0_move_29 r0 r1 t0 S) (B_X0_move_29 r0 r1 t0 (mx S G)) := by
  unfold B_X0_move_29
  repeat' first
    | (with_reducible exact sm_some)
    | (with_reducible refine sm_iv (by with_unfolding_all exact rfl) (fun _ => ?_))
    | (with_reducible refine sm_bb (by with_unfolding_all exact rfl) (fun _ => ?_) (fun _ => ?_))
    | (with_reducible refine sm_pu (by decide) (by with_unfolding_all exact rfl) (fun _ => ?_))
    | (with_reducible exact m_B_X0_move_62 _ _)
theorem m_F_X0_move {G : fS} (r0 : Nat) (r1 : Nat) {S : fS} : sm G (F_X0_move r0 r1 S) (F_X0_move r0 r1 (mx S G)) := by
  unfold F_X0_move
  repeat' first
    | (with_reducible exact sm_some)
    | (with_reducible refine sm_iv (by with_unfolding_all exact rfl) (fun _ => ?_))
    | (with_reducible refine sm_bb (by with_unfolding_all exact rfl) (fun _ => ?_) (fun _ => ?_))
    | (with_reducible refine sm_pu (by decide) (by with_unfolding_all exact rfl) (fun _ => ?_))
    | (with_reducible exact m_B_X0_move_29 _ _ _)
theorem m_F_X2_add {G : fS} (r0 : Nat) (p1 : Int32) (p2 : Int32) (p3 : Int32) (p4 : Int32) {S : fS} : sm G (F_X2_add r0 p1 p2 p3 p4 S) (F_X2_add r0 p1 p2 p3 p4 (mx S G)) := by
  unfold F_X2_add
  repeat' first
    | (with_reducible exact sm_some)
    | (with_reducible refine sm_iv (by with_unfolding_all exact rfl) (fun _ => ?_))
    | (with_reducible refine sm_bb (by with_unfolding_all exact rfl) (fun _ => ?_) (fun _ => ?_))
    | (with_reducible refine sm_gd (by with_unfolding_all exact rfl) (fun _ => ?_))
    | (with_reducible refine sm_pu (by decide) (by with_unfolding_all exact rfl) (fun _ => ?_))
    | (with_reducible refine sm_bd (m_F_X2_put _ _ _) (fun _ _ => ?_))
theorem m_B_X2_levelOf_31 {G : fS} (r0 : Nat) (k31 : (Int32 × Int32 × Int32) → fS → Option (Int32 × fS)) (hk31 : ∀ (z : (Int32 × Int32 × Int32)) (S : fS), sm G (k31 z S) (k31 z (mx S G))) (z : (Int32 × Int32 × Int32)) {S : fS} : sm G (B_X2_levelOf_31 r0 k31 z S) (B_X2_levelOf_31 r0 k31 z (mx S G)) := by
  obtain ⟨a2, a3, a4⟩ := z
  unfold B_X2_levelOf_31
  dsimp only
  repeat' first
    | (with_reducible exact sm_some)
    | (with_reducible refine sm_iv (by with_unfolding_all exact rfl) (fun _ => ?_))
    | (with_reducible refine sm_bb (by with_unfolding_all exact rfl) (fun _ => ?_) (fun _ => ?_))
    | (with_reducible refine sm_gd (by with_unfolding_all exact rfl) (fun _ => ?_))
    | (with_reducible refine sm_bd (m_F_X2_known _ _) (fun _ _ => ?_))
    | (with_reducible exact hk31 _ _)
theorem m_F_X2_levelOf {G : fS} (r0 : Nat) (p1 : Int32) {S : fS} : sm G (F_X2_levelOf r0 p1 S) (F_X2_levelOf r0 p1 (mx S G)) := by
  unfold F_X2_levelOf
  repeat' first
    | (with_reducible exact sm_some)
    | (with_reducible refine sm_iv (by with_unfolding_all exact rfl) (fun _ => ?_))
    | (with_reducible refine sm_bb (by with_unfolding_all exact rfl) (fun _ => ?_) (fun _ => ?_))
    | (with_reducible refine sm_gd (by with_unfolding_all exact rfl) (fun _ => ?_))
    | (with_reducible refine sm_bd (m_F_X2_known _ _) (fun _ _ => ?_))
    | (with_reducible exact sm_lp (fun k hk z S => m_B_X2_levelOf_31 _ k hk z) _ _ _)
theorem m_B_X2_countAt_28 {G : fS} (r0 : Nat) (k4 : (Int32 × Int32 × Int32) → fS → Option (Int32 × fS)) (hk4 : ∀ (z : (Int32 × Int32 × Int32)) (S : fS), sm G (k4 z S) (k4 z (mx S G))) (a1 : Int32) (a3 : Int32) (t0 : Int32) (t1 : Int32) {S : fS} : sm G (B_X2_countAt_28 r0 k4 a1 a3 t0 t1 S) (B_X2_countAt_28 r0 k4 a1 a3 t0 t1 (mx S G)) := by
  unfold B_X2_countAt_28
  repeat' first
    | (with_reducible exact sm_some)
    | (with_reducible refine sm_iv (by with_unfolding_all exact rfl) (fun _ => ?_))
    | (with_reducible exact hk4 _ _)
theorem m_B_X2_countAt_4 {G : fS} (r0 : Nat) (k4 : (Int32 × Int32 × Int32) → fS → Option (Int32 × fS)) (hk4 : ∀ (z : (Int32 × Int32 × Int32)) (S : fS), sm G (k4 z S) (k4 z (mx S G))) (z : (Int32 × Int32 × Int32)) {S : fS} : sm G (B_X2_countAt_4 r0 k4 z S) (B_X2_countAt_4 r0 k4 z (mx S G)) := by
  obtain ⟨a1, a2, a3⟩ := z
  unfold B_X2_countAt_4
  dsimp only
  repeat' first
    | (with_reducible exact sm_some)
    | (with_reducible refine sm_iv (by with_unfolding_all exact rfl) (fun _ => ?_))
    | (with_reducible refine sm_bb (by with_unfolding_all exact rfl) (fun _ => ?_) (fun _ => ?_))
    | (with_reducible refine sm_gd (by with_unfolding_all exact rfl) (fun _ => ?_))
    | (with_reducible exact m_B_X2_countAt_28 _ k4 hk4 _ _ _ _)
    | (with_reducible exact hk4 _ _)
theorem m_F_X2_countAt {G : fS} (r0 : Nat) (p1 : Int32) {S : fS} : sm G (F_X2_countAt r0 p1 S) (F_X2_countAt r0 p1 (mx S G)) := by
  unfold F_X2_countAt
  repeat' first
    | (with_reducible exact sm_some)
    | (with_reducible exact sm_lp (fun k hk z S => m_B_X2_countAt_4 _ k hk z) _ _ _)
theorem m_F_X3_grip {G : fS}  {S : fS} : sm G (F_X3_grip  S) (F_X3_grip  (mx S G)) := by
  unfold F_X3_grip
  repeat' first
    | (with_reducible exact sm_some)
    | (with_reducible refine sm_iv (by with_unfolding_all exact rfl) (fun _ => ?_))
theorem m_F_X3_slip {G : fS}  {S : fS} : sm G (F_X3_slip  S) (F_X3_slip  (mx S G)) := by
  unfold F_X3_slip
  repeat' first
    | (with_reducible exact sm_some)
    | (with_reducible refine sm_iv (by with_unfolding_all exact rfl) (fun _ => ?_))
theorem m_F_X3_lots {G : fS}  {S : fS} : sm G (F_X3_lots  S) (F_X3_lots  (mx S G)) := by
  unfold F_X3_lots
  repeat' first
    | (with_reducible exact sm_some)
    | (with_reducible refine sm_iv (by with_unfolding_all exact rfl) (fun _ => ?_))
theorem m_F_X3_push {G : fS} (p1 : Int32) {S : fS} : sm G (F_X3_push p1 S) (F_X3_push p1 (mx S G)) := by
  unfold F_X3_push
  repeat' first
    | (with_reducible exact sm_some)
    | (with_reducible refine sm_iv (by with_unfolding_all exact rfl) (fun _ => ?_))
    | (with_reducible refine sm_bb (by with_unfolding_all exact rfl) (fun _ => ?_) (fun _ => ?_))
    | (with_reducible refine sm_gd (by with_unfolding_all exact rfl) (fun _ => ?_))
    | (with_reducible refine sm_pu (by decide) (by with_unfolding_all exact rfl) (fun _ => ?_))
theorem m_F_X3_named {G : fS} (p0 : Int32) (r1 : Nat) (p2 : Int32) {S : fS} : sm G (F_X3_named p0 r1 p2 S) (F_X3_named p0 r1 p2 (mx S G)) := by
  unfold F_X3_named
  repeat' first
    | (with_reducible exact sm_some)
    | (with_reducible refine sm_iv (by with_unfolding_all exact rfl) (fun _ => ?_))
    | (with_reducible refine sm_bb (by with_unfolding_all exact rfl) (fun _ => ?_) (fun _ => ?_))
theorem m_F_X3_pop {G : fS}  {S : fS} : sm G (F_X3_pop  S) (F_X3_pop  (mx S G)) := by
  unfold F_X3_pop
  repeat' first
    | (with_reducible exact sm_some)
    | (with_reducible refine sm_iv (by with_unfolding_all exact rfl) (fun _ => ?_))
    | (with_reducible refine sm_bb (by with_unfolding_all exact rfl) (fun _ => ?_) (fun _ => ?_))
    | (with_reducible refine sm_gd (by with_unfolding_all exact rfl) (fun _ => ?_))
    | (with_reducible refine sm_pu (by decide) (by with_unfolding_all exact rfl) (fun _ => ?_))
theorem m_F_X3_tell {G : fS} (p1 : Int32) (p2 : Int32) (p3 : Int32) {S : fS} : sm G (F_X3_tell p1 p2 p3 S) (F_X3_tell p1 p2 p3 (mx S G)) := by
  unfold F_X3_tell
  repeat' first
    | (with_reducible exact sm_some)
    | (with_reducible refine sm_bb (by with_unfolding_all exact rfl) (fun _ => ?_) (fun _ => ?_))
    | (with_reducible refine sm_gd (by with_unfolding_all exact rfl) (fun _ => ?_))
    | (with_reducible refine sm_pu (by decide) (by with_unfolding_all exact rfl) (fun _ => ?_))
theorem m_F_X3_joined {G : fS} (p0 : Int32) (p1 : Int32) (p2 : Int32) {S : fS} : sm G (F_X3_joined p0 p1 p2 S) (F_X3_joined p0 p1 p2 (mx S G)) := by
  unfold F_X3_joined
  repeat' first
    | (with_reducible exact sm_some)
    | (with_reducible refine sm_iv (by with_unfolding_all exact rfl) (fun _ => ?_))
    | (with_reducible refine sm_bb (by with_unfolding_all exact rfl) (fun _ => ?_) (fun _ => ?_))
    | (with_reducible refine sm_gd (by with_unfolding_all exact rfl) (fun _ => ?_))
theorem m_B_X3_work_20 {G : fS} (t0 : Int32) {S : fS} : sm G (B_X3_work_20 t0 S) (B_X3_work_20 t0 (mx S G)) := by
  unfold B_X3_work_20
  repeat' first
    | (with_reducible exact sm_some)
    | (with_reducible refine sm_bd (m_F_X3_push _) (fun _ _ => ?_))
theorem m_B_X3_work_45 {G : fS} (a1 : Int32) (t0 : Int32) {S : fS} : sm G (B_X3_work_45 a1 t0 S) (B_X3_work_45 a1 t0 (mx S G)) := by
  unfold B_X3_work_45
  repeat' first
    | (with_reducible exact sm_some)
    | (with_reducible refine sm_iv (by with_unfolding_all exact rfl) (fun _ => ?_))
    | (with_reducible refine sm_bd (m_F_X3_pop ) (fun _ _ => ?_))
    | (with_reducible refine sm_bd (m_F_X3_tell _ _ _) (fun _ _ => ?_))
theorem m_F_X3_work {G : fS} (p1 : Int32) {S : fS} : sm G (F_X3_work p1 S) (F_X3_work p1 (mx S G)) := by
  unfold F_X3_work
  repeat' first
    | (with_reducible exact sm_some)
    | (with_reducible refine sm_iv (by with_unfolding_all exact rfl) (fun _ => ?_))
    | (with_reducible refine sm_bb (by with_unfolding_all exact rfl) (fun _ => ?_) (fun _ => ?_))
    | (with_reducible refine sm_bd (m_F_X3_pop ) (fun _ _ => ?_))
    | (with_reducible exact m_B_X3_work_20 _)
    | (with_reducible refine sm_bd (m_F_X3_joined _ _ _) (fun _ _ => ?_))
    | (with_reducible refine sm_bd (m_F_X3_push _) (fun _ _ => ?_))
    | (with_reducible refine sm_bd (m_F_X3_tell _ _ _) (fun _ _ => ?_))
    | (with_reducible exact m_B_X3_work_45 _ _)
theorem m_B_X4_runEnd_3 {G : fS} (k3 : (Int32 × Int32 × Int32) → fS → Option (Int32 × fS)) (hk3 : ∀ (z : (Int32 × Int32 × Int32)) (S : fS), sm G (k3 z S) (k3 z (mx S G))) (z : (Int32 × Int32 × Int32)) {S : fS} : sm G (B_X4_runEnd_3 k3 z S) (B_X4_runEnd_3 k3 z (mx S G)) := by
  obtain ⟨a3, a4, a5⟩ := z
  unfold B_X4_runEnd_3
  dsimp only
  repeat' first
    | (with_reducible exact sm_some)
    | (with_reducible refine sm_iv (by with_unfolding_all exact rfl) (fun _ => ?_))
    | (with_reducible refine sm_bb (by with_unfolding_all exact rfl) (fun _ => ?_) (fun _ => ?_))
    | (with_reducible refine sm_gd (by with_unfolding_all exact rfl) (fun _ => ?_))
    | (with_reducible refine sm_bd (m_F_X6_within _ _ _) (fun _ _ => ?_))
    | (with_reducible exact hk3 _ _)
theorem m_F_X4_runEnd {G : fS} (p2 : Int32) (p3 : Int32) (p4 : Int32) {S : fS} : sm G (F_X4_runEnd p2 p3 p4 S) (F_X4_runEnd p2 p3 p4 (mx S G)) := by
  unfold F_X4_runEnd
  repeat' first
    | (with_reducible exact sm_some)
    | (with_reducible exact sm_lp (fun k hk z S => m_B_X4_runEnd_3 k hk z) _ _ _)
theorem m_B_X4_numberIn_5 {G : fS} (k5 : (Int32 × Int32 × Int32) → fS → Option (Int32 × fS)) (hk5 : ∀ (z : (Int32 × Int32 × Int32)) (S : fS), sm G (k5 z S) (k5 z (mx S G))) (z : (Int32 × Int32 × Int32)) {S : fS} : sm G (B_X4_numberIn_5 k5 z S) (B_X4_numberIn_5 k5 z (mx S G)) := by
  obtain ⟨a2, a3, a4⟩ := z
  unfold B_X4_numberIn_5
  dsimp only
  repeat' first
    | (with_reducible exact sm_some)
    | (with_reducible refine sm_iv (by with_unfolding_all exact rfl) (fun _ => ?_))
    | (with_reducible refine sm_bb (by with_unfolding_all exact rfl) (fun _ => ?_) (fun _ => ?_))
    | (with_reducible refine sm_gd (by with_unfolding_all exact rfl) (fun _ => ?_))
    | (with_reducible exact hk5 _ _)
theorem m_F_X4_numberIn {G : fS} (p1 : Int32) (p2 : Int32) {S : fS} : sm G (F_X4_numberIn p1 p2 S) (F_X4_numberIn p1 p2 (mx S G)) := by
  unfold F_X4_numberIn
  repeat' first
    | (with_reducible exact sm_some)
    | (with_reducible exact sm_lp (fun k hk z S => m_B_X4_numberIn_5 k hk z) _ _ _)
theorem m_F_X4_keepToken {G : fS} (p1 : Int32) (p2 : Int32) (p3 : Int32) {S : fS} : sm G (F_X4_keepToken p1 p2 p3 S) (F_X4_keepToken p1 p2 p3 (mx S G)) := by
  unfold F_X4_keepToken
  repeat' first
    | (with_reducible exact sm_some)
    | (with_reducible refine sm_iv (by with_unfolding_all exact rfl) (fun _ => ?_))
    | (with_reducible refine sm_bb (by with_unfolding_all exact rfl) (fun _ => ?_) (fun _ => ?_))
    | (with_reducible refine sm_gd (by with_unfolding_all exact rfl) (fun _ => ?_))
    | (with_reducible refine sm_pu (by decide) (by with_unfolding_all exact rfl) (fun _ => ?_))
theorem m_F_X4_here {G : fS}  {S : fS} : sm G (F_X4_here  S) (F_X4_here  (mx S G)) := by
  unfold F_X4_here
  repeat' first
    | (with_reducible exact sm_some)
    | (with_reducible refine sm_iv (by with_unfolding_all exact rfl) (fun _ => ?_))
    | (with_reducible refine sm_bb (by with_unfolding_all exact rfl) (fun _ => ?_) (fun _ => ?_))
    | (with_reducible refine sm_gd (by with_unfolding_all exact rfl) (fun _ => ?_))
