theorem m_F_X4_wordIn {G : fS} (p1 : Int32) (p2 : Int32) {S : fS} : sm G (F_X4_wordIn p1 p2 S) (F_X4_wordIn p1 p2 (mx S G)) := by
  unfold F_X4_wordIn
  repeat' first
    | (with_reducible exact sm_some)
    | (with_reducible refine sm_bb (by with_unfolding_all exact rfl) (fun _ => ?_) (fun _ => ?_))
    | (with_reducible refine sm_bd (m_F_X4_spells _ _ _) (fun _ _ => ?_))
    | (with_reducible refine sm_bd (m_F_X4_nameIn _ _) (fun _ _ => ?_))
theorem m_F_X4_addToken {G : fS} (p2 : Int32) {S : fS} : sm G (F_X4_addToken p2 S) (F_X4_addToken p2 (mx S G)) := by
  unfold F_X4_addToken
  repeat' first
    | (with_reducible exact sm_some)
    | (with_reducible refine sm_iv (by with_unfolding_all exact rfl) (fun _ => ?_))
    | (with_reducible refine sm_bb (by with_unfolding_all exact rfl) (fun _ => ?_) (fun _ => ?_))
    | (with_reducible refine sm_gd (by with_unfolding_all exact rfl) (fun _ => ?_))
    | (with_reducible refine sm_bd (m_F_X6_within _ _ _) (fun _ _ => ?_))
    | (with_reducible refine sm_bd (m_F_X4_keepToken _ _ _) (fun _ _ => ?_))
    | (with_reducible refine sm_bd (m_F_X4_runEnd _ _ _) (fun _ _ => ?_))
    | (with_reducible refine sm_bd (m_F_X4_wordIn _ _) (fun _ _ => ?_))
    | (with_reducible refine sm_bd (m_F_X4_numberIn _ _) (fun _ _ => ?_))
theorem m_B_X4_begin_55 {G : fS} (k55 : (Int32 × Int32) → fS → Option (Int32 × fS)) (hk55 : ∀ (z : (Int32 × Int32)) (S : fS), sm G (k55 z S) (k55 z (mx S G))) (z : (Int32 × Int32)) {S : fS} : sm G (B_X4_begin_55 k55 z S) (B_X4_begin_55 k55 z (mx S G)) := by
  obtain ⟨a4, a5⟩ := z
  unfold B_X4_begin_55
  dsimp only
  repeat' first
    | (with_reducible exact sm_some)
    | (with_reducible refine sm_iv (by with_unfolding_all exact rfl) (fun _ => ?_))
    | (with_reducible refine sm_bb (by with_unfolding_all exact rfl) (fun _ => ?_) (fun _ => ?_))
    | (with_reducible refine sm_bd (m_F_X4_addToken _) (fun _ _ => ?_))
    | (with_reducible exact hk55 _ _)
theorem m_F_X4_begin {G : fS} (p2 : Int32) (p3 : Int32) {S : fS} : sm G (F_X4_begin p2 p3 S) (F_X4_begin p2 p3 (mx S G)) := by
  unfold F_X4_begin
  repeat' first
    | (with_reducible exact sm_some)
    | (with_reducible refine sm_iv (by with_unfolding_all exact rfl) (fun _ => ?_))
    | (with_reducible refine sm_gd (by with_unfolding_all exact rfl) (fun _ => ?_))
    | (with_reducible refine sm_pu (by decide) (by with_unfolding_all exact rfl) (fun _ => ?_))
    | (with_reducible exact sm_lp (fun k hk z S => m_B_X4_begin_55 k hk z) _ _ _)
theorem m_B_X4_readProgram_9 {G : fS} (k9 : (Int32) → fS → Option (Int32 × fS)) (hk9 : ∀ (z : (Int32)) (S : fS), sm G (k9 z S) (k9 z (mx S G))) (z : (Int32)) {S : fS} : sm G (B_X4_readProgram_9 k9 z S) (B_X4_readProgram_9 k9 z (mx S G)) := by
  unfold B_X4_readProgram_9
  repeat' first
    | (with_reducible exact sm_some)
    | (with_reducible refine sm_iv (by with_unfolding_all exact rfl) (fun _ => ?_))
    | (with_reducible refine sm_bb (by with_unfolding_all exact rfl) (fun _ => ?_) (fun _ => ?_))
    | (with_reducible refine sm_bd (m_F_X4_here ) (fun _ _ => ?_))
    | (with_reducible refine sm_bd (m_F_X4_clause _) (fun _ _ => ?_))
    | (with_reducible exact hk9 _ _)
theorem m_F_X4_readProgram {G : fS} (p2 : Int32) {S : fS} : sm G (F_X4_readProgram p2 S) (F_X4_readProgram p2 (mx S G)) := by
  unfold F_X4_readProgram
  repeat' first
    | (with_reducible exact sm_some)
    | (with_reducible refine sm_bd (m_F_X4_begin _ _) (fun _ _ => ?_))
    | (with_reducible exact sm_lp (fun k hk z S => m_B_X4_readProgram_9 k hk z) _ _ _)
theorem m_B_X4_readLaw_49 {G : fS}  {S : fS} : sm G (B_X4_readLaw_49  S) (B_X4_readLaw_49  (mx S G)) := by
  unfold B_X4_readLaw_49
  repeat' first
    | (with_reducible exact sm_some)
theorem m_F_X4_readLaw {G : fS} (p2 : Int32) {S : fS} : sm G (F_X4_readLaw p2 S) (F_X4_readLaw p2 (mx S G)) := by
  unfold F_X4_readLaw
  repeat' first
    | (with_reducible exact sm_some)
    | (with_reducible refine sm_bb (by with_unfolding_all exact rfl) (fun _ => ?_) (fun _ => ?_))
    | (with_reducible refine sm_gd (by with_unfolding_all exact rfl) (fun _ => ?_))
    | (with_reducible refine sm_bd (m_F_X4_begin _ _) (fun _ _ => ?_))
    | (with_reducible refine sm_bd (m_F_X4_condition ) (fun _ _ => ?_))
    | (with_reducible refine sm_bd (m_F_X4_passed _) (fun _ _ => ?_))
    | (with_reducible refine sm_bd (m_F_X4_fail _) (fun _ _ => ?_))
    | (with_reducible refine sm_bd (m_F_X4_here ) (fun _ _ => ?_))
    | (with_reducible exact m_B_X4_readLaw_49 )
theorem m_B_X2_layAgain_83 {G : fS} (r0 : Nat) (k12 : (Int32 × Int32 × Int32) → fS → Option (Int32 × fS)) (hk12 : ∀ (z : (Int32 × Int32 × Int32)) (S : fS), sm G (k12 z S) (k12 z (mx S G))) (a1 : Int32) (a3 : Int32) (t0 : Int32) (t1 : Int32) {S : fS} : sm G (B_X2_layAgain_83 r0 k12 a1 a3 t0 t1 S) (B_X2_layAgain_83 r0 k12 a1 a3 t0 t1 (mx S G)) := by
  unfold B_X2_layAgain_83
  repeat' first
    | (with_reducible exact sm_some)
    | (with_reducible refine sm_iv (by with_unfolding_all exact rfl) (fun _ => ?_))
    | (with_reducible exact hk12 _ _)
theorem m_B_X2_layAgain_66 {G : fS} (r0 : Nat) (k12 : (Int32 × Int32 × Int32) → fS → Option (Int32 × fS)) (hk12 : ∀ (z : (Int32 × Int32 × Int32)) (S : fS), sm G (k12 z S) (k12 z (mx S G))) (a1 : Int32) (a2 : Int32) (a3 : Int32) (a4 : Int32) {S : fS} : sm G (B_X2_layAgain_66 r0 k12 a1 a2 a3 a4 S) (B_X2_layAgain_66 r0 k12 a1 a2 a3 a4 (mx S G)) := by
  unfold B_X2_layAgain_66
  repeat' first
    | (with_reducible exact sm_some)
    | (with_reducible refine sm_iv (by with_unfolding_all exact rfl) (fun _ => ?_))
    | (with_reducible refine sm_bb (by with_unfolding_all exact rfl) (fun _ => ?_) (fun _ => ?_))
    | (with_reducible refine sm_gd (by with_unfolding_all exact rfl) (fun _ => ?_))
    | (with_reducible exact m_B_X2_layAgain_83 _ k12 hk12 _ _ _ _)
    | (with_reducible exact hk12 _ _)
