theorem m_F_J6_signum_0f7a4 {G : fS} (p0 : Int32) {S : fS} : sm G (F_J6_signum_0f7a4 p0 S) (F_J6_signum_0f7a4 p0 (mx S G)) := by
  unfold F_J6_signum_0f7a4
  repeat' first
    | (with_reducible exact sm_some)
    | (with_reducible refine sm_iv rfl (fun _ => ?_))
theorem m_F_J9_floorDiv_7cf53 {G : fS} (p0 : Int32) (p1 : Int32) {S : fS} : sm G (F_J9_floorDiv_7cf53 p0 p1 S) (F_J9_floorDiv_7cf53 p0 p1 (mx S G)) := by
  unfold F_J9_floorDiv_7cf53
  repeat' first
    | (with_reducible exact sm_some)
    | (with_reducible refine sm_iv rfl (fun _ => ?_))
    | (with_reducible refine sm_gd rfl (fun _ => ?_))
    | (with_reducible refine sm_bb rfl (fun _ => ?_) (fun _ => ?_))
theorem m_F_J9_floorMod_7cf53 {G : fS} (p0 : Int32) (p1 : Int32) {S : fS} : sm G (F_J9_floorMod_7cf53 p0 p1 S) (F_J9_floorMod_7cf53 p0 p1 (mx S G)) := by
  unfold F_J9_floorMod_7cf53
  repeat' first
    | (with_reducible exact sm_some)
    | (with_reducible refine sm_iv rfl (fun _ => ?_))
    | (with_reducible refine sm_gd rfl (fun _ => ?_))
    | (with_reducible refine sm_bb rfl (fun _ => ?_) (fun _ => ?_))
theorem m_B_fill10_5 {G : fS} (r0 : Nat) (k5 : (Int32 × Int32 × Int32) → fS → Option (Int32 × fS)) (hk5 : ∀ (z : (Int32 × Int32 × Int32)) (S : fS), sm G (k5 z S) (k5 z (mx S G))) (z : (Int32 × Int32 × Int32)) {S : fS} : sm G (B_fill10_5 r0 k5 z S) (B_fill10_5 r0 k5 z (mx S G)) := by
  obtain ⟨a1, a2, a3⟩ := z
  unfold B_fill10_5
  dsimp only
  repeat' first
    | (with_reducible exact sm_some)
    | (with_reducible refine sm_iv rfl (fun _ => ?_))
    | (with_reducible refine sm_gd rfl (fun _ => ?_))
    | (with_reducible refine sm_bb rfl (fun _ => ?_) (fun _ => ?_))
    | (with_reducible refine sm_pu (by decide) rfl (fun _ => ?_))
    | exact hk5 _ _
theorem m_F_fill10 {G : fS} (r0 : Nat) (p1 : Int32) {S : fS} : sm G (F_fill10 r0 p1 S) (F_fill10 r0 p1 (mx S G)) := by
  unfold F_fill10
  exact sm_lp (fun k hk z S => m_B_fill10_5 _ k hk z) _ _ _
theorem m_B_fill24_5 {G : fS} (k5 : (Int32 × Int32 × Int32) → fS → Option (Int32 × fS)) (hk5 : ∀ (z : (Int32 × Int32 × Int32)) (S : fS), sm G (k5 z S) (k5 z (mx S G))) (z : (Int32 × Int32 × Int32)) {S : fS} : sm G (B_fill24_5 k5 z S) (B_fill24_5 k5 z (mx S G)) := by
  obtain ⟨a1, a2, a3⟩ := z
  unfold B_fill24_5
  dsimp only
  repeat' first
    | (with_reducible exact sm_some)
    | (with_reducible refine sm_iv rfl (fun _ => ?_))
    | (with_reducible refine sm_gd rfl (fun _ => ?_))
    | (with_reducible refine sm_bb rfl (fun _ => ?_) (fun _ => ?_))
    | (with_reducible refine sm_pu (by decide) rfl (fun _ => ?_))
    | exact hk5 _ _
theorem m_F_fill24 {G : fS} (p1 : Int32) {S : fS} : sm G (F_fill24 p1 S) (F_fill24 p1 (mx S G)) := by
  unfold F_fill24
  exact sm_lp (fun k hk z S => m_B_fill24_5 k hk z) _ _ _
