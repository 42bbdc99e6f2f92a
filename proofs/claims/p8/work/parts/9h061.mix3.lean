theorem m_F_X6_faithGiven {G : fS} (p0 : Int32) {S : fS} : sm G (F_X6_faithGiven p0 S) (F_X6_faithGiven p0 (mx S G)) := by
  unfold F_X6_faithGiven
  repeat' first
    | (with_reducible exact sm_some)
    | (with_reducible refine sm_bb (by with_unfolding_all exact rfl) (fun _ => ?_) (fun _ => ?_))
    | (with_reducible exact m_B_X6_faithGiven_17 )
theorem m_F_X6_count {G : fS} (p1 : Int32) {S : fS} : sm G (F_X6_count p1 S) (F_X6_count p1 (mx S G)) := by
  unfold F_X6_count
  repeat' first
    | (with_reducible exact sm_some)
    | (with_reducible refine sm_iv (by with_unfolding_all exact rfl) (fun _ => ?_))
    | (with_reducible refine sm_bb (by with_unfolding_all exact rfl) (fun _ => ?_) (fun _ => ?_))
    | (with_reducible refine sm_bd (m_F_X2_countAt _ _) (fun _ _ => ?_))
theorem m_B_X4_condition_70 {G : fS} (R : Nat → Int32 → fS → Option (Int32 × fS)) (hR : ∀ (j : Nat) (q : Int32) (S : fS), sm G (R j q S) (R j q (mx S G))) (k6 : (Int32 × Int32 × Int32) → fS → Option (Int32 × fS)) (hk6 : ∀ (z : (Int32 × Int32 × Int32)) (S : fS), sm G (k6 z S) (k6 z (mx S G))) (a1 : Int32) (a2 : Int32) (a3 : Int32) {S : fS} : sm G (B_X4_condition_70 R k6 a1 a2 a3 S) (B_X4_condition_70 R k6 a1 a2 a3 (mx S G)) := by
  unfold B_X4_condition_70
  repeat' first
    | (with_reducible exact sm_some)
    | (with_reducible refine sm_iv (by with_unfolding_all exact rfl) (fun _ => ?_))
    | (with_reducible exact hk6 _ _)
theorem m_B_X4_condition_56 {G : fS} (R : Nat → Int32 → fS → Option (Int32 × fS)) (hR : ∀ (j : Nat) (q : Int32) (S : fS), sm G (R j q S) (R j q (mx S G))) (k6 : (Int32 × Int32 × Int32) → fS → Option (Int32 × fS)) (hk6 : ∀ (z : (Int32 × Int32 × Int32)) (S : fS), sm G (k6 z S) (k6 z (mx S G))) (a2 : Int32) (a3 : Int32) {S : fS} : sm G (B_X4_condition_56 R k6 a2 a3 S) (B_X4_condition_56 R k6 a2 a3 (mx S G)) := by
  unfold B_X4_condition_56
  repeat' first
    | (with_reducible exact sm_some)
    | (with_reducible refine sm_bb (by with_unfolding_all exact rfl) (fun _ => ?_) (fun _ => ?_))
    | (with_reducible refine sm_bd (m_F_X4_passed _) (fun _ _ => ?_))
    | (with_reducible exact m_B_X4_condition_70 R hR k6 hk6 _ _ _)
    | (with_reducible exact hk6 _ _)
theorem m_B_X4_condition_33 {G : fS} (R : Nat → Int32 → fS → Option (Int32 × fS)) (hR : ∀ (j : Nat) (q : Int32) (S : fS), sm G (R j q S) (R j q (mx S G))) (k6 : (Int32 × Int32 × Int32) → fS → Option (Int32 × fS)) (hk6 : ∀ (z : (Int32 × Int32 × Int32)) (S : fS), sm G (k6 z S) (k6 z (mx S G))) (a1 : Int32) (a3 : Int32) {S : fS} : sm G (B_X4_condition_33 R k6 a1 a3 S) (B_X4_condition_33 R k6 a1 a3 (mx S G)) := by
  unfold B_X4_condition_33
  repeat' first
    | (with_reducible exact sm_some)
    | (with_reducible refine sm_bb (by with_unfolding_all exact rfl) (fun _ => ?_) (fun _ => ?_))
    | (with_reducible refine sm_bd (m_F_X4_passed _) (fun _ _ => ?_))
    | (with_reducible exact m_B_X4_condition_56 R hR k6 hk6 _ _)
    | (with_reducible refine sm_bd (m_F_X4_emit _) (fun _ _ => ?_))
    | (with_reducible exact m_B_X4_condition_70 R hR k6 hk6 _ _ _)
    | (with_reducible exact hk6 _ _)
theorem m_B_X4_condition_6 {G : fS} (R : Nat → Int32 → fS → Option (Int32 × fS)) (hR : ∀ (j : Nat) (q : Int32) (S : fS), sm G (R j q S) (R j q (mx S G))) (k6 : (Int32 × Int32 × Int32) → fS → Option (Int32 × fS)) (hk6 : ∀ (z : (Int32 × Int32 × Int32)) (S : fS), sm G (k6 z S) (k6 z (mx S G))) (z : (Int32 × Int32 × Int32)) {S : fS} : sm G (B_X4_condition_6 R k6 z S) (B_X4_condition_6 R k6 z (mx S G)) := by
  obtain ⟨a1, a2, a3⟩ := z
  unfold B_X4_condition_6
  dsimp only
  repeat' first
    | (with_reducible exact sm_some)
    | (with_reducible refine sm_bb (by with_unfolding_all exact rfl) (fun _ => ?_) (fun _ => ?_))
    | (with_reducible refine sm_gd (by with_unfolding_all exact rfl) (fun _ => ?_))
    | (with_reducible refine sm_bd (m_F_X4_fail _) (fun _ _ => ?_))
    | (with_reducible exact m_B_X4_condition_33 R hR k6 hk6 _ _)
    | (with_reducible refine sm_bd (m_F_X4_emit _) (fun _ _ => ?_))
    | (with_reducible refine sm_bd (hR _ _ _) (fun _ _ => ?_))
    | (with_reducible exact hk6 _ _)
theorem m_N_X4_condition {G : fS} (R : Nat → Int32 → fS → Option (Int32 × fS)) (hR : ∀ (j : Nat) (q : Int32) (S : fS), sm G (R j q S) (R j q (mx S G))) {S : fS} : sm G (N_X4_condition R S) (N_X4_condition R (mx S G)) := by
  unfold N_X4_condition
  repeat' first
    | (with_reducible exact sm_some)
    | (with_reducible exact sm_lp (fun k hk z S => m_B_X4_condition_6 R hR k hk z) _ _ _)
theorem m_N_X4_claim {G : fS} (R : Nat → Int32 → fS → Option (Int32 × fS)) (hR : ∀ (j : Nat) (q : Int32) (S : fS), sm G (R j q S) (R j q (mx S G))) {S : fS} : sm G (N_X4_claim R S) (N_X4_claim R (mx S G)) := by
  unfold N_X4_claim
  repeat' first
    | (with_reducible exact sm_some)
    | (with_reducible refine sm_iv (by with_unfolding_all exact rfl) (fun _ => ?_))
    | (with_reducible refine sm_bb (by with_unfolding_all exact rfl) (fun _ => ?_) (fun _ => ?_))
    | (with_reducible refine sm_gd (by with_unfolding_all exact rfl) (fun _ => ?_))
    | (with_reducible refine sm_pu (by decide) (by with_unfolding_all exact rfl) (fun _ => ?_))
    | (with_reducible refine sm_bd (m_F_X4_here ) (fun _ _ => ?_))
    | (with_reducible refine sm_bd (m_F_X4_opened _) (fun _ _ => ?_))
    | (with_reducible refine sm_bd (m_F_X4_closed _) (fun _ _ => ?_))
    | (with_reducible refine sm_bd (m_F_X4_comparison ) (fun _ _ => ?_))
    | (with_reducible refine sm_bd (m_F_X4_fail _) (fun _ _ => ?_))
    | (with_reducible refine sm_bd (m_F_X4_emit _) (fun _ _ => ?_))
    | (with_reducible refine sm_bd (hR _ _ _) (fun _ _ => ?_))
theorem m_N_X4_denial {G : fS} (R : Nat → Int32 → fS → Option (Int32 × fS)) (hR : ∀ (j : Nat) (q : Int32) (S : fS), sm G (R j q S) (R j q (mx S G))) {S : fS} : sm G (N_X4_denial R S) (N_X4_denial R (mx S G)) := by
  unfold N_X4_denial
  repeat' first
    | (with_reducible exact sm_some)
    | (with_reducible refine sm_iv (by with_unfolding_all exact rfl) (fun _ => ?_))
    | (with_reducible refine sm_bb (by with_unfolding_all exact rfl) (fun _ => ?_) (fun _ => ?_))
    | (with_reducible refine sm_pu (by decide) (by with_unfolding_all exact rfl) (fun _ => ?_))
    | (with_reducible refine sm_bd (m_F_X4_opened _) (fun _ _ => ?_))
    | (with_reducible refine sm_bd (m_F_X4_emit _) (fun _ _ => ?_))
    | (with_reducible refine sm_bd (hR _ _ _) (fun _ _ => ?_))
theorem m_B_X4_sum_118 {G : fS} (R : Nat → Int32 → fS → Option (Int32 × fS)) (hR : ∀ (j : Nat) (q : Int32) (S : fS), sm G (R j q S) (R j q (mx S G))) (k6 : (Int32 × Int32 × Int32) → fS → Option (Int32 × fS)) (hk6 : ∀ (z : (Int32 × Int32 × Int32)) (S : fS), sm G (k6 z S) (k6 z (mx S G))) (a1 : Int32) (a2 : Int32) (a3 : Int32) {S : fS} : sm G (B_X4_sum_118 R k6 a1 a2 a3 S) (B_X4_sum_118 R k6 a1 a2 a3 (mx S G)) := by
  unfold B_X4_sum_118
  repeat' first
    | (with_reducible exact sm_some)
    | (with_reducible refine sm_iv (by with_unfolding_all exact rfl) (fun _ => ?_))
    | (with_reducible exact hk6 _ _)
theorem m_B_X4_sum_110 {G : fS} (R : Nat → Int32 → fS → Option (Int32 × fS)) (hR : ∀ (j : Nat) (q : Int32) (S : fS), sm G (R j q S) (R j q (mx S G))) (k6 : (Int32 × Int32 × Int32) → fS → Option (Int32 × fS)) (hk6 : ∀ (z : (Int32 × Int32 × Int32)) (S : fS), sm G (k6 z S) (k6 z (mx S G))) (a2 : Int32) (a3 : Int32) (t0 : Int32) {S : fS} : sm G (B_X4_sum_110 R k6 a2 a3 t0 S) (B_X4_sum_110 R k6 a2 a3 t0 (mx S G)) := by
  unfold B_X4_sum_110
  repeat' first
    | (with_reducible exact sm_some)
    | (with_reducible refine sm_bb (by with_unfolding_all exact rfl) (fun _ => ?_) (fun _ => ?_))
    | (with_reducible exact m_B_X4_sum_118 R hR k6 hk6 _ _ _)
    | (with_reducible exact hk6 _ _)
theorem m_B_X4_sum_79 {G : fS} (R : Nat → Int32 → fS → Option (Int32 × fS)) (hR : ∀ (j : Nat) (q : Int32) (S : fS), sm G (R j q S) (R j q (mx S G))) (k6 : (Int32 × Int32 × Int32) → fS → Option (Int32 × fS)) (hk6 : ∀ (z : (Int32 × Int32 × Int32)) (S : fS), sm G (k6 z S) (k6 z (mx S G))) (a2 : Int32) (a3 : Int32) {S : fS} : sm G (B_X4_sum_79 R k6 a2 a3 S) (B_X4_sum_79 R k6 a2 a3 (mx S G)) := by
  unfold B_X4_sum_79
  repeat' first
    | (with_reducible exact sm_some)
    | (with_reducible refine sm_bb (by with_unfolding_all exact rfl) (fun _ => ?_) (fun _ => ?_))
    | (with_reducible refine sm_bd (m_F_X4_passed _) (fun _ _ => ?_))
    | (with_reducible exact m_B_X4_sum_110 R hR k6 hk6 _ _ _)
    | (with_reducible exact hk6 _ _)
theorem m_B_X4_sum_63 {G : fS} (R : Nat → Int32 → fS → Option (Int32 × fS)) (hR : ∀ (j : Nat) (q : Int32) (S : fS), sm G (R j q S) (R j q (mx S G))) (k6 : (Int32 × Int32 × Int32) → fS → Option (Int32 × fS)) (hk6 : ∀ (z : (Int32 × Int32 × Int32)) (S : fS), sm G (k6 z S) (k6 z (mx S G))) (a1 : Int32) (a3 : Int32) (t0 : Int32) {S : fS} : sm G (B_X4_sum_63 R k6 a1 a3 t0 S) (B_X4_sum_63 R k6 a1 a3 t0 (mx S G)) := by
  unfold B_X4_sum_63
  repeat' first
    | (with_reducible exact sm_some)
    | (with_reducible refine sm_bb (by with_unfolding_all exact rfl) (fun _ => ?_) (fun _ => ?_))
    | (with_reducible exact m_B_X4_sum_79 R hR k6 hk6 _ _)
    | (with_reducible refine sm_bd (m_F_X4_emit _) (fun _ _ => ?_))
    | (with_reducible exact m_B_X4_sum_118 R hR k6 hk6 _ _ _)
    | (with_reducible exact hk6 _ _)
theorem m_B_X4_sum_32 {G : fS} (R : Nat → Int32 → fS → Option (Int32 × fS)) (hR : ∀ (j : Nat) (q : Int32) (S : fS), sm G (R j q S) (R j q (mx S G))) (k6 : (Int32 × Int32 × Int32) → fS → Option (Int32 × fS)) (hk6 : ∀ (z : (Int32 × Int32 × Int32)) (S : fS), sm G (k6 z S) (k6 z (mx S G))) (a1 : Int32) (a3 : Int32) {S : fS} : sm G (B_X4_sum_32 R k6 a1 a3 S) (B_X4_sum_32 R k6 a1 a3 (mx S G)) := by
  unfold B_X4_sum_32
  repeat' first
    | (with_reducible exact sm_some)
    | (with_reducible refine sm_bb (by with_unfolding_all exact rfl) (fun _ => ?_) (fun _ => ?_))
    | (with_reducible refine sm_bd (m_F_X4_passed _) (fun _ _ => ?_))
    | (with_reducible exact m_B_X4_sum_63 R hR k6 hk6 _ _ _)
    | (with_reducible exact hk6 _ _)
theorem m_B_X4_sum_6 {G : fS} (R : Nat → Int32 → fS → Option (Int32 × fS)) (hR : ∀ (j : Nat) (q : Int32) (S : fS), sm G (R j q S) (R j q (mx S G))) (k6 : (Int32 × Int32 × Int32) → fS → Option (Int32 × fS)) (hk6 : ∀ (z : (Int32 × Int32 × Int32)) (S : fS), sm G (k6 z S) (k6 z (mx S G))) (z : (Int32 × Int32 × Int32)) {S : fS} : sm G (B_X4_sum_6 R k6 z S) (B_X4_sum_6 R k6 z (mx S G)) := by
  obtain ⟨a1, a2, a3⟩ := z
  unfold B_X4_sum_6
  dsimp only
  repeat' first
    | (with_reducible exact sm_some)
    | (with_reducible refine sm_bb (by with_unfolding_all exact rfl) (fun _ => ?_) (fun _ => ?_))
    | (with_reducible refine sm_gd (by with_unfolding_all exact rfl) (fun _ => ?_))
    | (with_reducible refine sm_bd (m_F_X4_fail _) (fun _ _ => ?_))
    | (with_reducible exact m_B_X4_sum_32 R hR k6 hk6 _ _)
    | (with_reducible refine sm_bd (m_F_X4_emit _) (fun _ _ => ?_))
    | (with_reducible refine sm_bd (hR _ _ _) (fun _ _ => ?_))
    | (with_reducible exact hk6 _ _)
theorem m_N_X4_sum {G : fS} (R : Nat → Int32 → fS → Option (Int32 × fS)) (hR : ∀ (j : Nat) (q : Int32) (S : fS), sm G (R j q S) (R j q (mx S G))) {S : fS} : sm G (N_X4_sum R S) (N_X4_sum R (mx S G)) := by
  unfold N_X4_sum
  repeat' first
    | (with_reducible exact sm_some)
    | (with_reducible exact sm_lp (fun k hk z S => m_B_X4_sum_6 R hR k hk z) _ _ _)
theorem m_B_X4_unit_132 {G : fS} (R : Nat → Int32 → fS → Option (Int32 × fS)) (hR : ∀ (j : Nat) (q : Int32) (S : fS), sm G (R j q S) (R j q (mx S G))) (t0 : Int32) {S : fS} : sm G (B_X4_unit_132 R t0 S) (B_X4_unit_132 R t0 (mx S G)) := by
  unfold B_X4_unit_132
  repeat' first
    | (with_reducible exact sm_some)
    | (with_reducible refine sm_gd (by with_unfolding_all exact rfl) (fun _ => ?_))
    | (with_reducible refine sm_bd (hR _ _ _) (fun _ _ => ?_))
theorem m_B_X4_unit_115 {G : fS} (R : Nat → Int32 → fS → Option (Int32 × fS)) (hR : ∀ (j : Nat) (q : Int32) (S : fS), sm G (R j q S) (R j q (mx S G))) (a1 : Int32) {S : fS} : sm G (B_X4_unit_115 R a1 S) (B_X4_unit_115 R a1 (mx S G)) := by
  unfold B_X4_unit_115
  repeat' first
    | (with_reducible exact sm_some)
    | (with_reducible refine sm_bb (by with_unfolding_all exact rfl) (fun _ => ?_) (fun _ => ?_))
    | (with_reducible exact m_B_X4_unit_132 R hR _)
theorem m_B_X4_unit_37 {G : fS} (R : Nat → Int32 → fS → Option (Int32 × fS)) (hR : ∀ (j : Nat) (q : Int32) (S : fS), sm G (R j q S) (R j q (mx S G))) (a1 : Int32) (t0 : Int32) (t1 : Int32) (t2 : Int32) {S : fS} : sm G (B_X4_unit_37 R a1 t0 t1 t2 S) (B_X4_unit_37 R a1 t0 t1 t2 (mx S G)) := by
  unfold B_X4_unit_37
  repeat' first
    | (with_reducible exact sm_some)
    | (with_reducible refine sm_iv (by with_unfolding_all exact rfl) (fun _ => ?_))
    | (with_reducible refine sm_bb (by with_unfolding_all exact rfl) (fun _ => ?_) (fun _ => ?_))
    | (with_reducible refine sm_gd (by with_unfolding_all exact rfl) (fun _ => ?_))
    | (with_reducible refine sm_pu (by decide) (by with_unfolding_all exact rfl) (fun _ => ?_))
    | (with_reducible refine sm_bd (m_F_X6_within _ _ _) (fun _ _ => ?_))
    | (with_reducible refine sm_bd (m_F_X4_opened _) (fun _ _ => ?_))
    | (with_reducible refine sm_bd (m_F_X4_closed _) (fun _ _ => ?_))
    | (with_reducible exact m_B_X4_unit_115 R hR _)
    | (with_reducible refine sm_bd (m_F_X4_fail _) (fun _ _ => ?_))
    | (with_reducible refine sm_bd (m_F_X4_emit _) (fun _ _ => ?_))
    | (with_reducible refine sm_bd (hR _ _ _) (fun _ _ => ?_))
theorem m_N_X4_unit {G : fS} (R : Nat → Int32 → fS → Option (Int32 × fS)) (hR : ∀ (j : Nat) (q : Int32) (S : fS), sm G (R j q S) (R j q (mx S G))) {S : fS} : sm G (N_X4_unit R S) (N_X4_unit R (mx S G)) := by
  unfold N_X4_unit
  repeat' first
    | (with_reducible exact sm_some)
    | (with_reducible refine sm_iv (by with_unfolding_all exact rfl) (fun _ => ?_))
    | (with_reducible refine sm_bb (by with_unfolding_all exact rfl) (fun _ => ?_) (fun _ => ?_))
    | (with_reducible refine sm_gd (by with_unfolding_all exact rfl) (fun _ => ?_))
    | (with_reducible refine sm_bd (m_F_X4_here ) (fun _ _ => ?_))
    | (with_reducible refine sm_bd (m_F_X4_number ) (fun _ _ => ?_))
    | (with_reducible exact m_B_X4_unit_37 R hR _ _ _ _)
theorem m_N_X4_choice {G : fS} (R : Nat → Int32 → fS → Option (Int32 × fS)) (hR : ∀ (j : Nat) (q : Int32) (S : fS), sm G (R j q S) (R j q (mx S G))) (p1 : Int32) {S : fS} : sm G (N_X4_choice R p1 S) (N_X4_choice R p1 (mx S G)) := by
  unfold N_X4_choice
  repeat' first
    | (with_reducible exact sm_some)
    | (with_reducible refine sm_iv (by with_unfolding_all exact rfl) (fun _ => ?_))
    | (with_reducible refine sm_bb (by with_unfolding_all exact rfl) (fun _ => ?_) (fun _ => ?_))
    | (with_reducible refine sm_gd (by with_unfolding_all exact rfl) (fun _ => ?_))
    | (with_reducible refine sm_pu (by decide) (by with_unfolding_all exact rfl) (fun _ => ?_))
    | (with_reducible refine sm_bd (m_F_X4_opened _) (fun _ _ => ?_))
    | (with_reducible refine sm_bd (m_F_X4_passed _) (fun _ _ => ?_))
    | (with_reducible refine sm_bd (m_F_X4_fail _) (fun _ _ => ?_))
    | (with_reducible refine sm_bd (m_F_X4_closed _) (fun _ _ => ?_))
    | (with_reducible refine sm_bd (m_F_X4_emit _) (fun _ _ => ?_))
    | (with_reducible refine sm_bd (hR _ _ _) (fun _ _ => ?_))
theorem m_R_X4r {G : fS} : ∀ (d j : Nat) (q : Int32) (S : fS), sm G (R_X4r d j q S) (R_X4r d j q (mx S G))
  | 0, _, _, _ => sm_none
  | d + 1, 0, q, S => m_N_X4_condition (R_X4r d) (fun j q S => m_R_X4r d j q S) 
  | d + 1, 1, q, S => m_N_X4_claim (R_X4r d) (fun j q S => m_R_X4r d j q S) 
  | d + 1, 2, q, S => m_N_X4_denial (R_X4r d) (fun j q S => m_R_X4r d j q S) 
  | d + 1, 3, q, S => m_N_X4_sum (R_X4r d) (fun j q S => m_R_X4r d j q S) 
  | d + 1, 4, q, S => m_N_X4_unit (R_X4r d) (fun j q S => m_R_X4r d j q S) 
  | d + 1, 5, q, S => m_N_X4_choice (R_X4r d) (fun j q S => m_R_X4r d j q S) q
  | d + 1, j + 6, q, S => by
    show sm G none none
    exact sm_none
theorem m_F_X4_condition {G : fS}  {S : fS} : sm G (F_X4_condition  S) (F_X4_condition  (mx S G)) := m_R_X4r 64 _ _ _
theorem m_F_X4_claim {G : fS}  {S : fS} : sm G (F_X4_claim  S) (F_X4_claim  (mx S G)) := m_R_X4r 64 _ _ _
theorem m_F_X4_denial {G : fS}  {S : fS} : sm G (F_X4_denial  S) (F_X4_denial  (mx S G)) := m_R_X4r 64 _ _ _
theorem m_F_X4_sum {G : fS}  {S : fS} : sm G (F_X4_sum  S) (F_X4_sum  (mx S G)) := m_R_X4r 64 _ _ _
theorem m_F_X4_unit {G : fS}  {S : fS} : sm G (F_X4_unit  S) (F_X4_unit  (mx S G)) := m_R_X4r 64 _ _ _
theorem m_F_X4_choice {G : fS} (p1 : Int32) {S : fS} : sm G (F_X4_choice p1 S) (F_X4_choice p1 (mx S G)) := m_R_X4r 64 _ _ _
theorem m_B_X4_clause_116 {G : fS}  {S : fS} : sm G (B_X4_clause_116  S) (B_X4_clause_116  (mx S G)) := by
  unfold B_X4_clause_116
  repeat' first
    | (with_reducible exact sm_some)
theorem m_B_X4_clause_90 {G : fS} (a2 : Int32) (t0 : Int32) {S : fS} : sm G (B_X4_clause_90 a2 t0 S) (B_X4_clause_90 a2 t0 (mx S G)) := by
  unfold B_X4_clause_90
  repeat' first
    | (with_reducible exact sm_some)
    | (with_reducible refine sm_iv (by with_unfolding_all exact rfl) (fun _ => ?_))
    | (with_reducible refine sm_bb (by with_unfolding_all exact rfl) (fun _ => ?_) (fun _ => ?_))
    | (with_reducible refine sm_bd (m_F_X4_emit _) (fun _ _ => ?_))
    | (with_reducible refine sm_bd (m_F_X4_passed _) (fun _ _ => ?_))
    | (with_reducible refine sm_bd (m_F_X4_fail _) (fun _ _ => ?_))
    | (with_reducible exact m_B_X4_clause_116 )
theorem m_B_X4_clause_76 {G : fS} (a2 : Int32) (a3 : Int32) {S : fS} : sm G (B_X4_clause_76 a2 a3 S) (B_X4_clause_76 a2 a3 (mx S G)) := by
  unfold B_X4_clause_76
  repeat' first
    | (with_reducible exact sm_some)
    | (with_reducible refine sm_bb (by with_unfolding_all exact rfl) (fun _ => ?_) (fun _ => ?_))
    | (with_reducible exact m_B_X4_clause_90 _ _)
theorem m_F_X4_clause {G : fS} (p1 : Int32) {S : fS} : sm G (F_X4_clause p1 S) (F_X4_clause p1 (mx S G)) := by
  unfold F_X4_clause
  repeat' first
    | (with_reducible exact sm_some)
    | (with_reducible refine sm_iv (by with_unfolding_all exact rfl) (fun _ => ?_))
    | (with_reducible refine sm_bb (by with_unfolding_all exact rfl) (fun _ => ?_) (fun _ => ?_))
    | (with_reducible refine sm_gd (by with_unfolding_all exact rfl) (fun _ => ?_))
    | (with_reducible refine sm_pu (by decide) (by with_unfolding_all exact rfl) (fun _ => ?_))
    | (with_reducible refine sm_bd (m_F_X4_here ) (fun _ _ => ?_))
    | (with_reducible refine sm_bd (m_F_X6_within _ _ _) (fun _ _ => ?_))
    | (with_reducible refine sm_bd (m_F_X4_fail _) (fun _ _ => ?_))
    | (with_reducible refine sm_bd (m_F_X4_sum ) (fun _ _ => ?_))
    | (with_reducible refine sm_bd (m_F_X4_passed _) (fun _ _ => ?_))
    | (with_reducible exact m_B_X4_clause_76 _ _)
    | (with_reducible refine sm_bd (m_F_X4_condition ) (fun _ _ => ?_))
theorem m_F_X6_need {G : fS} (p0 : Int32) {S : fS} : sm G (F_X6_need p0 S) (F_X6_need p0 (mx S G)) := by
  unfold F_X6_need
  repeat' first
    | (with_reducible exact sm_some)
    | (with_reducible refine sm_bb (by with_unfolding_all exact rfl) (fun _ => ?_) (fun _ => ?_))
theorem m_F_X6_needCell {G : fS} (p0 : Int32) {S : fS} : sm G (F_X6_needCell p0 S) (F_X6_needCell p0 (mx S G)) := by
  unfold F_X6_needCell
  repeat' first
    | (with_reducible exact sm_some)
    | (with_reducible refine sm_bb (by with_unfolding_all exact rfl) (fun _ => ?_) (fun _ => ?_))
    | (with_reducible refine sm_bd (m_F_X6_within _ _ _) (fun _ _ => ?_))
theorem m_F_X6_needElement {G : fS} (p0 : Int32) (p1 : Int32) {S : fS} : sm G (F_X6_needElement p0 p1 S) (F_X6_needElement p0 p1 (mx S G)) := by
  unfold F_X6_needElement
  repeat' first
    | (with_reducible exact sm_some)
    | (with_reducible refine sm_iv (by with_unfolding_all exact rfl) (fun _ => ?_))
    | (with_reducible refine sm_bb (by with_unfolding_all exact rfl) (fun _ => ?_) (fun _ => ?_))
    | (with_reducible refine sm_bd (m_F_X6_within _ _ _) (fun _ _ => ?_))
theorem m_B_X6_lay_52 {G : fS} (a1 : Int32) (a2 : Int32) (a3 : Int32) (a4 : Int32) (t0 : Int32) {S : fS} : sm G (B_X6_lay_52 a1 a2 a3 a4 t0 S) (B_X6_lay_52 a1 a2 a3 a4 t0 (mx S G)) := by
  unfold B_X6_lay_52
  repeat' first
    | (with_reducible exact sm_some)
    | (with_reducible refine sm_bx (m_F_X6_need _) (fun _ _ => ?_))
    | (with_reducible refine sm_bd (m_F_X2_add _ _ _ _ _) (fun _ _ => ?_))
theorem m_B_X6_lay_51 {G : fS} (a1 : Int32) (a2 : Int32) (a3 : Int32) (a4 : Int32) {S : fS} : sm G (B_X6_lay_51 a1 a2 a3 a4 S) (B_X6_lay_51 a1 a2 a3 a4 (mx S G)) := by
  unfold B_X6_lay_51
  repeat' first
    | (with_reducible exact sm_some)
    | (with_reducible exact m_B_X6_lay_52 _ _ _ _ _)
theorem m_F_X6_lay {G : fS} (p1 : Int32) (p2 : Int32) (p3 : Int32) (p4 : Int32) {S : fS} : sm G (F_X6_lay p1 p2 p3 p4 S) (F_X6_lay p1 p2 p3 p4 (mx S G)) := by
  unfold F_X6_lay
  repeat' first
    | (with_reducible exact sm_some)
    | (with_reducible refine sm_iv (by with_unfolding_all exact rfl) (fun _ => ?_))
    | (with_reducible refine sm_bb (by with_unfolding_all exact rfl) (fun _ => ?_) (fun _ => ?_))
    | (with_reducible refine sm_bx (m_F_X6_needCell _) (fun _ _ => ?_))
    | (with_reducible exact m_B_X6_lay_51 _ _ _ _)
    | (with_reducible refine sm_bd (m_F_X6_within _ _ _) (fun _ _ => ?_))
    | (with_reducible exact m_B_X6_lay_52 _ _ _ _ _)
theorem m_B_X6_wire_56 {G : fS} (a3 : Int32) (t0 : Int32) (t1 : Int32) {S : fS} : sm G (B_X6_wire_56 a3 t0 t1 S) (B_X6_wire_56 a3 t0 t1 (mx S G)) := by
  unfold B_X6_wire_56
  repeat' first
    | (with_reducible exact sm_some)
    | (with_reducible refine sm_gd (by with_unfolding_all exact rfl) (fun _ => ?_))
    | (with_reducible refine sm_pu (by decide) (by with_unfolding_all exact rfl) (fun _ => ?_))
theorem m_B_X6_wire_35 {G : fS} (a1 : Int32) (a2 : Int32) (t0 : Int32) {S : fS} : sm G (B_X6_wire_35 a1 a2 t0 S) (B_X6_wire_35 a1 a2 t0 (mx S G)) := by
  unfold B_X6_wire_35
  repeat' first
    | (with_reducible exact sm_some)
    | (with_reducible refine sm_bb (by with_unfolding_all exact rfl) (fun _ => ?_) (fun _ => ?_))
    | (with_reducible exact m_B_X6_wire_56 _ _ _)
