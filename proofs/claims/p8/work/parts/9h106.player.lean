/-! player -/
section PLY
variable {S T T1 T' R R0 R' U V V' W S3 : fS} {c n m N : Nat} {p p2 p3 p4 v w b b0 ne wo b' ne' wo' : Int32}
theorem EQw_back (F0 : FX Wly S R0) (la : LAY S R0 3) (ot : OTH S R0 3) (c35 : ge R0 67 3 0 = ge S 40 0 35) (c36 : ge R0 67 3 1 = ge S 40 0 36) (c37 : ge R0 67 3 2 = ge S 40 0 37) (c38 : ge R0 67 3 3 = ge S 40 0 38) (G3 : FX Wts R0 S3) (FB : FX Wlb S3 W) (bk : BK S3 W 3) (d35 : ge W 40 0 35 = ge S3 67 3 0) (d36 : ge W 40 0 36 = ge S3 67 3 1) (d37 : ge W 40 0 37 = ge S3 67 3 2) (d38 : ge W 40 0 38 = ge S3 67 3 3) : EQw S W := by
  have r61 : ∀ r j : Nat, ge S3 61 r j = ge R0 61 r j := fun r j => G3.1 61 r j (Wts_hi (by omega))
  have r63 : ∀ r j : Nat, ge S3 63 r j = ge R0 63 r j := fun r j => G3.1 63 r j (Wts_hi (by omega))
  have r65 : ∀ r j : Nat, ge S3 65 r j = ge R0 65 r j := fun r j => G3.1 65 r j (Wts_hi (by omega))
  have r67 : ∀ r j : Nat, ge S3 67 r j = ge R0 67 r j := fun r j => G3.1 67 r j (Wts_hi (by omega))
  refine ⟨FB.2.trans (G3.2.trans F0.2), fun a i j h => ?_, fun c k hc hk => by rw [bk.1 c k hc hk, r61, la.1 c k hc hk], fun c hc => by rw [bk.2.1 c hc, r63, la.2.1 c hc], fun t ht => by rw [bk.2.2 t ht, r65, la.2.2 t ht], ⟨by rw [d35, r67, c35], by rw [d36, r67, c36], by rw [d37, r67, c37], by rw [d38, r67, c38]⟩, fun r j hr => by rw [FB.1 61 r j rfl, r61, ot.1 r j (by omega)], fun k j hk => by rw [FB.1 63 k j rfl, r63, ot.2.1 k j (by omega)], fun k j hk => by rw [FB.1 65 k j rfl, r65, ot.2.2.1 k j (by omega)], fun k j hk => by rw [FB.1 67 k j rfl, r67, ot.2.2.2.1 k j (by omega)]⟩
  have h1 := (Bool.or_eq_false_iff.1 h).1
  have h2 := (Bool.or_eq_false_iff.1 h).2
  rw [FB.1 a i j (Wlb_ts a i j h1), G3.1 a i j h1, F0.1 a i j h2]
def ftq (v : Int32) : Int32 := if v = 2 ∨ v = 3 then 1 else if v = 5 then 5 else -2
def nrq (v : Int32) : Int32 := if v = 2 ∨ v = 3 then 1 else 0
def wnq (v : Int32) : Int32 := if v = 5 then 1 else 0
def nbq (b v : Int32) : Int32 := cwq (b + ftq v) 0 99
theorem cw_mmq (x : Int32) : (if (0 : Int32) < (if x < (99 : Int32) then x else (99 : Int32)) then (if x < (99 : Int32) then x else (99 : Int32)) else (0 : Int32)) = cwq x 0 99 := by
  have l0 : (0 : Int32).toInt = 0 := by decide
  have l99 : (99 : Int32).toInt = 99 := by decide
  unfold cwq
  by_cases a : x < 99
  · have ha := lt_iff.1 a
    rw [if_pos a]
    by_cases d : x < 0
    · have hd := lt_iff.1 d
      rw [if_pos d, if_neg (fun q => by have := lt_iff.1 q; omega)]
    · have hd := Int.not_lt.1 (fun q => d (lt_iff.2 q))
      rw [if_neg d, if_neg (show ¬ (99 : Int32) < x from fun q => by have := lt_iff.1 q; omega)]
      by_cases e : (0 : Int32) < x
      · rw [if_pos e]
      · rw [if_neg e]
        have he := Int.not_lt.1 (fun q => e (lt_iff.2 q))
        exact of_toInt (by omega)
  · have ha := Int.not_lt.1 (fun q => a (lt_iff.2 q))
    rw [if_neg a, if_pos (by decide), if_neg (fun q => by have := lt_iff.1 q; omega)]
    by_cases e : (99 : Int32) < x
    · rw [if_pos e]
    · rw [if_neg e]
      have he := Int.not_lt.1 (fun q => e (lt_iff.2 q))
      exact of_toInt (by omega)
theorem y_faith : pk (F_X6_faithGiven v S) (fun x T => S = T ∧ x = ftq v) := by
  unfold F_X6_faithGiven B_X6_faithGiven_17 ftq
  refine pq_bb (fun d => pq_some ⟨rfl, ?_⟩) (fun d5 => pq_bb (fun d => pq_some ⟨rfl, by rw [if_pos (Or.inl d)]⟩) (fun d2 => pq_bb (fun d => pq_some ⟨rfl, by rw [if_pos (Or.inr d)]⟩) (fun d3 => pq_some ⟨rfl, by rw [if_neg (fun q => q.elim d2 d3), if_neg d5]⟩)))
  rw [d]
  decide
def PSq (p b0 : Int32) (T1 : fS) : Nat → fS → Int32 → Int32 → Int32 → Prop
  | 0, T, b, ne, wo => T = T1 ∧ b = b0 ∧ ne = 0 ∧ wo = 0
  | n + 1, T, b, ne, wo => ∃ (U : fS) (v b' ne' wo' : Int32), PSq p b0 T1 n U b' ne' wo' ∧ 0 < b'.toInt ∧ F_X6_tryOnCopy p U = some (v, T) ∧ b = nbq b' v ∧ ne = ne' + nrq v ∧ wo = wo' + wnq v
theorem PSq.un : ∀ {n : Nat} {T T' : fS} {b ne wo b' ne' wo' : Int32}, PSq p b0 T1 n T b ne wo → PSq p b0 T1 n T' b' ne' wo' → T = T' ∧ b = b' ∧ ne = ne' ∧ wo = wo'
  | 0, _, _, _, _, _, _, _, _, h, g => ⟨h.1.trans g.1.symm, h.2.1.trans g.2.1.symm, h.2.2.1.trans g.2.2.1.symm, h.2.2.2.trans g.2.2.2.symm⟩
  | n + 1, _, _, _, _, _, _, _, _, ⟨U, v, x, y, z, h, _, h2, h3, h4, h5⟩, ⟨U', v', x', y', z', g, _, g2, g3, g4, g5⟩ => by
    obtain ⟨e1, e2, e3, e4⟩ := PSq.un h g
    rw [← e1] at g2
    obtain ⟨e5, e6⟩ := some_un h2 g2
    refine ⟨e6, ?_, ?_, ?_⟩
    · rw [h3, g3, e2, e5]
    · rw [h4, g4, e3, e5]
    · rw [h5, g5, e4, e5]
theorem PSq.pre : ∀ {N : Nat} {T : fS} {b ne wo : Int32}, PSq p b0 T1 N T b ne wo → ∀ {n : Nat}, n < N → ∃ (U V : fS) (v b' ne' wo' : Int32), PSq p b0 T1 n U b' ne' wo' ∧ 0 < b'.toInt ∧ F_X6_tryOnCopy p U = some (v, V)
  | 0, _, _, _, _, _, _, h => absurd h (Nat.not_lt_zero _)
  | N + 1, T, _, _, _, ⟨U, v, b', ne', wo', g, g1, g2, _⟩, n, h => by
    by_cases d : n = N
    · rw [d]; exact ⟨U, T, v, b', ne', wo', g, g1, g2⟩
    · exact PSq.pre g (by omega)
def selq (p4 sp b ne wo : Int32) : Int32 := if p4 = 0 then sp else if p4 = 1 then ne else if p4 = 2 then b else wo
def pok (p2 p3 p4 : Int32) : Prop := ((1 : Int32).toInt ≤ p2.toInt ∧ p2.toInt ≤ (99 : Int32).toInt) ∧ ((0 : Int32).toInt ≤ p3.toInt ∧ p3.toInt ≤ (99 : Int32).toInt) ∧ ((0 : Int32).toInt ≤ p4.toInt ∧ p4.toInt ≤ (3 : Int32).toInt)
def PL6 (S : fS) (p p2 p3 p4 : Int32) (m : Nat) (v : Int32) (T : fS) : Prop := ∃ (N : Nat) (T1 : fS) (sp b ne wo : Int32), CPb S T1 1 0 m ∧ PSq p p2 T1 N T b ne wo ∧ (N : Int) ≤ p3.toInt ∧ (p3.toInt ≤ (N : Int) ∨ b.toInt ≤ 0) ∧ sp.toInt = (N : Int) ∧ v = selq p4 sp b ne wo
theorem y6_player (hm : (ge S 1 0 12).toInt = (m : Int)) (m200 : m ≤ 200) : pk (F_X6_player p p2 p3 p4 S) (fun r T => (r.1 = 2 ∧ ¬ ic p ∧ T = S) ∨ (r.1 = 1 ∧ ic p ∧ ¬ pok p2 p3 p4 ∧ T = S) ∨ (r.1 = 0 ∧ ic p ∧ pok p2 p3 p4 ∧ PL6 S p p2 p3 p4 m r.2 T)) := by
  have l0 : (0 : Int32).toInt = 0 := by decide
  have l99 : (99 : Int32).toInt = 99 := by decide
  unfold F_X6_player
  refine pg_cell (fun hc => ?_) (fun hc => Or.inl ⟨rfl, hc, rfl⟩)
  have no : ¬ pok p2 p3 p4 → pk (B_X6_player_38 p p2 p3 p4 S) (fun r T => (r.1 = 2 ∧ ¬ ic p ∧ T = S) ∨ (r.1 = 1 ∧ ic p ∧ ¬ pok p2 p3 p4 ∧ T = S) ∨ (r.1 = 0 ∧ ic p ∧ pok p2 p3 p4 ∧ PL6 S p p2 p3 p4 m r.2 T)) := fun q => by
    unfold B_X6_player_38 B_X6_player_39
    exact pg_n0 (Or.inr (Or.inl ⟨rfl, hc, q, rfl⟩))
  refine pg_w (fun c2 => pg_b1 ?_) (fun q => pg_b0 (no (fun d => q d.1)))
  refine pg_w (fun c3 => pg_b1 ?_) (fun q => pg_b0 (no (fun d => q d.2.1)))
  refine pg_w (fun c4 => pg_b1 ?_) (fun q => pg_b0 (no (fun d => q d.2.2)))
  have ok : pok p2 p3 p4 := ⟨c2, c3, c4⟩
  rw [l0, l99] at c3
  unfold B_X6_player_39
  refine pg_n1 (pq_bd (y_copy (by decide) hm m200) (fun _ T1 cp => ?_))
  refine pq_lp (fun (y : Int32 × Int32 × Int32 × Int32 × Int32 × Int32 × Int32) V => y.1 = p ∧ y.2.1 = p3 ∧ y.2.2.1 = p4 ∧ ∃ n : Nat, y.2.2.2.2.1.toInt = (n : Int) ∧ (n : Int) ≤ p3.toInt ∧ PSq p p2 T1 n V y.2.2.2.1 y.2.2.2.2.2.1 y.2.2.2.2.2.2) (fun _ _ (r : Nat × Int32) T => (r.1 = 2 ∧ ¬ ic p ∧ T = S) ∨ (r.1 = 1 ∧ ic p ∧ ¬ pok p2 p3 p4 ∧ T = S) ∨ (r.1 = 0 ∧ ic p ∧ pok p2 p3 p4 ∧ PL6 S p p2 p3 p4 m r.2 T)) ?_ fuel (p, p3, p4, p2, 0, 0, 0) T1 ⟨rfl, rfl, rfl, 0, l0, c3.1, rfl, rfl, rfl, rfl⟩
  intro k hk y V hy
  obtain ⟨a1, a3, a4, a5, a6, a7, a8⟩ := y
  obtain ⟨f1, f3, f4, n, i1, i2, i3⟩ := hy
  dsimp only at f1 f3 f4 i1 i3
  subst f1
  subst f3
  subst f4
  have fin : (a3.toInt ≤ (n : Int) ∨ a5.toInt ≤ 0) → pk (B_X6_player_146 a4 a5 a6 a7 a8 V) (fun r T => (r.1 = 2 ∧ ¬ ic a1 ∧ T = S) ∨ (r.1 = 1 ∧ ic a1 ∧ ¬ pok p2 a3 a4 ∧ T = S) ∨ (r.1 = 0 ∧ ic a1 ∧ pok p2 a3 a4 ∧ PL6 S a1 p2 a3 a4 m r.2 T)) := fun q => by
    have g : ∀ x : Int32, x = selq a4 a6 a5 a7 a8 → (((0, x) : Nat × Int32).1 = 2 ∧ ¬ ic a1 ∧ V = S) ∨ (((0, x) : Nat × Int32).1 = 1 ∧ ic a1 ∧ ¬ pok p2 a3 a4 ∧ V = S) ∨ (((0, x) : Nat × Int32).1 = 0 ∧ ic a1 ∧ pok p2 a3 a4 ∧ PL6 S a1 p2 a3 a4 m ((0, x) : Nat × Int32).2 V) := fun x hx => Or.inr (Or.inr ⟨rfl, hc, ok, n, T1, a6, a5, a7, a8, cp, i3, i2, q, i1, hx⟩)
    unfold B_X6_player_146
    unfold selq at g
    exact pq_bb (fun d => pq_some (g _ (by rw [if_pos d]))) (fun d0 => pq_bb (fun d => pq_some (g _ (by rw [if_neg d0, if_pos d]))) (fun d1 => pq_bb (fun d => pq_some (g _ (by rw [if_neg d0, if_neg d1, if_pos d]))) (fun d2 => pq_some (g _ (by rw [if_neg d0, if_neg d1, if_neg d2])))))
  unfold B_X6_player_65
  dsimp only
  refine pq_le (fun q => fin (Or.inl (by omega))) (fun q1 => pq_le (fun q => fin (Or.inr (by omega))) (fun q2 => ?_))
  rw [l0] at q2
  refine pq_bd pk_self (fun v15 S16 q15 => pq_iv fun x18 e18 => ?_)
  have g18 : x18.toInt = a6.toInt + 1 := by rw [e18]; exact ti_inc (by omega)
  have g121 : ∀ t0 : Int32, t0 = wnq v15 → ∀ x8 : Int32, x8 = a7 + nrq v15 → pk (B_X6_player_121 k a1 a3 a4 a5 x18 x8 v15 t0 a8 S16) (fun r T => (r.1 = 2 ∧ ¬ ic a1 ∧ T = S) ∨ (r.1 = 1 ∧ ic a1 ∧ ¬ pok p2 a3 a4 ∧ T = S) ∨ (r.1 = 0 ∧ ic a1 ∧ pok p2 a3 a4 ∧ PL6 S a1 p2 a3 a4 m r.2 T)) := by
    intro t0 ht x8 hx
    unfold B_X6_player_121
    refine pq_iv fun x1 e1 => pq_bd y_faith (fun v2 X q => ?_)
    obtain ⟨rfl, qv⟩ := q
    refine pq_iv fun x5 e5 => pq_iv fun x6 e6 => pq_iv fun x7 e7 => ?_
    refine hk (a1, a3, a4, x7, x18, x8, x1) S16 ⟨rfl, rfl, rfl, n + 1, by dsimp only; omega, by omega, V, v15, a5, a7, a8, i3, by omega, q15, ?_, hx, by dsimp only; rw [e1, ht]⟩
    dsimp only
    rw [e7, e6, cw_mmq, e5, qv]
    rfl
  have g105 : ∀ t0 : Int32, t0 = nrq v15 → pk (B_X6_player_105 k a1 a3 a4 a5 x18 a8 v15 t0 a7 S16) (fun r T => (r.1 = 2 ∧ ¬ ic a1 ∧ T = S) ∨ (r.1 = 1 ∧ ic a1 ∧ ¬ pok p2 a3 a4 ∧ T = S) ∨ (r.1 = 0 ∧ ic a1 ∧ pok p2 a3 a4 ∧ PL6 S a1 p2 a3 a4 m r.2 T)) := by
    intro t0 ht
    unfold B_X6_player_105
    refine pq_iv fun x8 e8 => ?_
    rw [ht] at e8
    exact pq_bb (fun d => g121 1 (by unfold wnq; rw [if_pos d]) x8 e8) (fun d => g121 0 (by unfold wnq; rw [if_neg d]) x8 e8)
  unfold B_X6_player_100
  exact pq_bb (fun d => g105 1 (by unfold nrq; rw [if_pos (Or.inl d)])) (fun d2 => pq_bb (fun d => g105 1 (by unfold nrq; rw [if_pos (Or.inr d)])) (fun d3 => g105 0 (by unfold nrq; rw [if_neg (fun q => q.elim d2 d3)])))
theorem rk_player (h : IV S) (z : ge S 40 0 0 = 0) : RK (fun ec => if ec = 0 then 0 else if ec = 1 then 2 else 1) (F_X6_player p p2 p3 p4 S) (F_X7_player p p2 p3 p4) := by
  have l0 : (0 : Int32).toInt = 0 := by decide
  have l99 : (99 : Int32).toInt = 99 := by decide
  have li3 : (3 : Int32).toInt = 3 := by decide
  have h0 := h.nq
  obtain ⟨_, _, _, _, _, _, _, ⟨m, m200, r1, _, _⟩, _⟩ := h.2.2.2.1
  unfold RK
  have sr : pk (F_X6_player p p2 p3 p4 S) (fun _ T => SRq S T) := sm_SR (f := F_X6_player p p2 p3 p4) (fun G S => m_F_X6_player (G := G) (S := S) p p2 p3 p4)
  refine pq_imp (pq_and (s_F_X6_player p p2 p3 p4 S h.1 h.2.1).pk (pq_and sr (y6_player r1 m200))) (fun r T1' q => ?_)
  obtain ⟨⟨R1, F1, _⟩, s1, q⟩ := q
  have z1 := RI_z z s1
  have H1 : HI T1' := h.2.2.1.fr F1 rfl
  rcases q with ⟨q1, q2, q3⟩ | ⟨q1, q2, q3, q5⟩ | ⟨q1, q2, q3, N, T1, sp, b, ne, wo, cp, ps, nN, nE, hsp, ev⟩
  · rw [q3]
    unfold F_X7_player
    refine pg7_0 z (pg7_cell (fun c => absurd c q2) (fun _ => pg_b0 ?_))
    unfold B_X7_player_18
    exact pg7_no z (by decide) (pq_some ⟨(h.wr 1).2.2.2, by rw [ge_pus, q1]; rfl, fun d => by omega⟩)
  · rw [q5]
    have no : pk (B_X7_player_56 p p2 p3 p4 S) (fun v2 T2 => RLv T2 ∧ ge T2 40 0 0 = (fun ec => if ec = 0 then (0 : Int32) else if ec = 1 then 2 else 1) r.1 ∧ (r.1 = 0 → r.2 = v2)) := by
      unfold B_X7_player_56 B_X7_player_61
      exact pg7_no z (by decide) (pq_some ⟨(h.wr 2).2.2.2, by rw [ge_pus, q1]; rfl, fun d => by omega⟩)
    unfold F_X7_player
    refine pg7_0 z (pg7_cell (fun _ => pg_b1 ?_) (fun c => absurd q2 c))
    unfold B_X7_player_18
    refine pg7_ok z (pg_7 (fun c2 => pg_b1 ?_) (fun _ => pg_b0 no))
    refine pg_7 (fun c3 => pg_b1 ?_) (fun _ => pg_b0 no)
    exact pg_7 (fun c4 => absurd ⟨c2, c3, c4⟩ q3) (fun _ => pg_b0 no)
  · obtain ⟨c, hp, hc64⟩ := ic_nat q2
    have c3 := q3.2.1
    rw [l0, l99] at c3
    have K0 := KR_at (KR_copy h cp) h.1 s1
    unfold F_X7_player
    refine pg7_0 z1 (pg7_cell (fun _ => pg_b1 ?_) (fun c => absurd q2 c))
    unfold B_X7_player_18
    refine pg7_ok z1 (pg_7 (fun _ => pg_b1 ?_) (fun c => absurd q3.1 c))
    refine pg_7 (fun _ => pg_b1 ?_) (fun c => absurd q3.2.1 c)
    refine pg_7 (fun _ => pg_b1 ?_) (fun c => absurd q3.2.2 c)
    unfold B_X7_player_61
    refine pg7_ok z1 ?_
    refine pq_bd (pq_and (h7_lays3 T1' R1 H1).pk (q_lays (k0 := 3) R1 li3 (by omega))) (fun _ R0 q => ?_)
    obtain ⟨⟨R0', _, H0, _⟩, _, F0, la, ot, c35, c36, c37, c38⟩ := q
    have F0m : FX Wly (mx T1 T1') (mx T1 R0) := mx_FX F0
    have K1 : KR (mx T1 R0) := by
      refine K0.rs R1 (AR.fx F0 (fun a j h1 h2 => Wly_out (by omega)) (fun _ _ => rfl) (fun _ _ => rfl) (fun _ _ => rfl)) ?_
      exact K0.2.2.2.2.1.fx F0m rfl rfl rfl rfl (fun _ => rfl) (fun _ _ => rfl) (fun _ _ => rfl)
    refine pq_lp (fun (y : Int32 × Int32 × Int32 × Int32 × Int32 × Int32 × Int32) R => y.1 = p ∧ y.2.1 = p3 ∧ y.2.2.1 = p4 ∧ RI R ∧ HI R ∧ FX Wts R0 R ∧ ∃ (n : Nat) (U : fS), y.2.2.2.2.1.toInt = p3.toInt - (n : Int) ∧ n ≤ N ∧ PSq p p2 T1 n U y.2.2.2.1 y.2.2.2.2.2.1 y.2.2.2.2.2.2 ∧ KR (mx U R) ∧ CEl T1 U) (fun _ _ (v2 : Int32) T2 => RLv T2 ∧ ge T2 40 0 0 = (fun ec => if ec = 0 then (0 : Int32) else if ec = 1 then 2 else 1) r.1 ∧ (r.1 = 0 → r.2 = v2)) ?_ fuel (p, p3, p4, p2, p3, 0, 0) R0 ⟨rfl, rfl, rfl, R0', H0, FX.rf, 0, T1, by dsimp only; omega, by omega, ⟨rfl, rfl, rfl, rfl⟩, K1, CEl.rf⟩
    intro k hk y R hy
    obtain ⟨a1, a3, a4, a5, a6, a7, a8⟩ := y
    obtain ⟨f1, f3, f4, RR, HR, FR, n, U, i1, i2, i3, KU, CU⟩ := hy
    dsimp only at f1 f3 f4 i1 i3
    subst f1
    subst f3
    subst f4
    have fin : (a5.toInt ≤ 0 ∨ a6.toInt ≤ 0) → pk (B_X7_player_203 a3 a4 a5 a6 a7 a8 R) (fun v2 T2 => RLv T2 ∧ ge T2 40 0 0 = (fun ec => if ec = 0 then (0 : Int32) else if ec = 1 then 2 else 1) r.1 ∧ (r.1 = 0 → r.2 = v2)) := by
      intro hq
      have en : n = N := by
        by_cases d : n < N
        · exfalso
          obtain ⟨U', V', v', b', ne', wo', g, g1, g2⟩ := ps.pre d
          obtain ⟨_, e2, _, _⟩ := i3.un g
          rw [← e2] at g1
          omega
        · omega
      rw [en] at i3 i1
      obtain ⟨eU, e2, e3, e4⟩ := i3.un ps
      unfold B_X7_player_203
      refine pq_bd (q_laysBack (k0 := 3) RR li3 (by omega)) (fun _ W q => ?_)
      obtain ⟨_, FB, bk, d35, d36, d37, d38⟩ := q
      have E : EQw T1' W := EQw_back F0 la ot c35 c36 c37 c38 FR FB bk d35 d36 d37 d38
      rw [eU] at CU
      have g : ∀ x : Int32, x = selq a4 sp b ne wo → RLv W ∧ ge W 40 0 0 = (fun ec => if ec = 0 then (0 : Int32) else if ec = 1 then 2 else 1) r.1 ∧ (r.1 = 0 → r.2 = x) := fun x hx => ⟨h.2.2.2.wo h0 cp CU s1 E, by rw [E.2.1 40 0 0 (Wwf_40 rfl), z1, q1]; rfl, fun _ => by rw [hx, ev]⟩
      have esp : a3 - a6 = sp := of_toInt (by rw [ti_sub (by omega) (by omega), hsp]; omega)
      unfold selq at g
      exact pq_bb (fun d => pq_iv fun x19 e19 => pq_some (g _ (by rw [if_pos d, e19, esp]))) (fun d0 => pq_bb (fun d => pq_some (g _ (by rw [if_neg d0, if_pos d, e3]))) (fun d1 => pq_bb (fun d => pq_some (g _ (by rw [if_neg d0, if_neg d1, if_pos d, e2]))) (fun d2 => pq_some (g _ (by rw [if_neg d0, if_neg d1, if_neg d2, e4])))))
    unfold B_X7_player_87
    dsimp only
    refine pq_le (fun q => fin (Or.inl (by omega))) (fun g5 => pq_le (fun q => fin (Or.inr (by omega))) (fun g6 => ?_))
    rw [l0] at g5 g6
    have nlt : n < N := by
      by_cases d : n = N
      · exfalso
        rw [d] at i3 i1
        obtain ⟨_, e2, _, _⟩ := i3.un ps
        rw [← e2] at nE
        omega
      · omega
    obtain ⟨U', V', v', b', ne', wo', g, g1, g2⟩ := ps.pre nlt
    obtain ⟨eU, _, _, _⟩ := i3.un g
    rw [← eU] at g2
    obtain ⟨F6, ks⟩ := k_step KU RR hp hc64 g2
    have ce : CEl U V' := CEl.mxx F6
    refine pq_bd (pq_and (s_F_X7_triesAt a1 0 R RR HR ⟨by omega, by omega⟩).pk ks) (fun _ S3 q => ?_)
    obtain ⟨⟨R3, _, H3, _⟩, K3, F3, e41⟩ := q
    refine pq_iv fun x25 e25 => pq_iv fun x26 e26 => ?_
    rw [e41] at e26
    have lm1 : (Int32.ofInt (-1)).toInt = -1 := by decide
    have g25 : x25.toInt = a6.toInt - 1 := by rw [e25, ti_add (by rw [lm1]; omega) (by rw [lm1]; omega), lm1]; omega
    have g197 : ∀ t0 : Int32, t0 = wnq v' → ∀ x2 v6 : Int32, x2 = a7 + nrq v' → v6 = nbq a5 v' → pk (B_X7_player_197 k a1 a3 a4 v6 x25 x2 t0 a8 S3) (fun v2 T2 => RLv T2 ∧ ge T2 40 0 0 = (fun ec => if ec = 0 then (0 : Int32) else if ec = 1 then 2 else 1) r.1 ∧ (r.1 = 0 → r.2 = v2)) := by
      intro t0 ht x2 v6 h2 h6
      unfold B_X7_player_197
      refine pq_iv fun x1 e1 => ?_
      exact hk (a1, a3, a4, v6, x25, x2, x1) S3 ⟨rfl, rfl, rfl, R3, H3, FR.tr F3, n + 1, V', by dsimp only; omega, by omega, ⟨U, v', a5, a7, a8, i3, by omega, g2, h6, h2, by dsimp only; rw [e1, ht]⟩, K3, CU.tr ce⟩
    have g179 : ∀ t0 : Int32, t0 = nrq v' → ∀ v6 : Int32, v6 = nbq a5 v' → pk (B_X7_player_179 k a1 a3 a4 v6 x25 a8 t0 a7 S3) (fun v2 T2 => RLv T2 ∧ ge T2 40 0 0 = (fun ec => if ec = 0 then (0 : Int32) else if ec = 1 then 2 else 1) r.1 ∧ (r.1 = 0 → r.2 = v2)) := by
      intro t0 ht v6 h6
      unfold B_X7_player_179
      refine pq_iv fun x2 e2 => pq_iv fun x3 e3 => ?_
      rw [e41] at e3
      rw [ht] at e2
      exact pq_bb (fun d => g197 1 (by unfold wnq; rw [if_pos (by rw [← e3]; exact d)]) x2 v6 e2 h6) (fun d => g197 0 (by unfold wnq; rw [if_neg (by rw [← e3]; exact d)]) x2 v6 e2 h6)
    have g154 : ∀ t0 a9 : Int32, t0 = ftq v' → (a9 = 0 ∧ nrq v' = 0 ∨ ¬ a9 = 0 ∧ nrq v' = 1) → pk (B_X7_player_154 k a1 a3 a4 x25 a7 a8 a9 t0 a5 S3) (fun v2 T2 => RLv T2 ∧ ge T2 40 0 0 = (fun ec => if ec = 0 then (0 : Int32) else if ec = 1 then 2 else 1) r.1 ∧ (r.1 = 0 → r.2 = v2)) := by
      intro t0 a9 ht h9
      unfold B_X7_player_154
      refine pq_iv fun x5 e5 => pq_bd (q_within x5 0 99) (fun v6 X q => ?_)
      obtain ⟨rfl, q6⟩ := q
      have e6 : v6 = nbq a5 v' := by rw [q6, e5, ht]; rfl
      rcases h9 with ⟨x9, y9⟩ | ⟨x9, y9⟩
      · exact pq_bb (fun _ => g179 0 y9.symm v6 e6) (fun d => absurd x9 d)
      · exact pq_bb (fun d => absurd d x9) (fun _ => g179 1 y9.symm v6 e6)
    have near : v' = 2 ∨ v' = 3 → pk (B_X7_player_122 k a1 a3 a4 a5 x25 a7 a8 S3) (fun v2 T2 => RLv T2 ∧ ge T2 40 0 0 = (fun ec => if ec = 0 then (0 : Int32) else if ec = 1 then 2 else 1) r.1 ∧ (r.1 = 0 → r.2 = v2)) := fun hv => by
      unfold B_X7_player_122 B_X7_player_127
      refine pq_bb (fun d => absurd d (by decide)) (fun _ => g154 1 1 ?_ (Or.inr ⟨by decide, ?_⟩))
      · unfold ftq; rw [if_pos hv]
      · unfold nrq; rw [if_pos hv]
    refine pq_bb (fun d => near (Or.inl (by rw [← e26]; exact d))) (fun d2 => pq_iv fun x28 e28 => ?_)
    rw [e41] at e28
    refine pq_bb (fun d => near (Or.inr (by rw [← e28]; exact d))) (fun d3 => ?_)
    have nn : ¬ (v' = 2 ∨ v' = 3) := fun q => q.elim (fun e => d2 (by rw [e26]; exact e)) (fun e => d3 (by rw [e28]; exact e))
    unfold B_X7_player_127
    refine pq_bb (fun _ => pq_iv fun x11 e11 => ?_) (fun q => absurd rfl q)
    rw [e41] at e11
    refine pq_bb (fun d => g154 5 0 ?_ (Or.inl ⟨rfl, ?_⟩)) (fun d => g154 (-2) 0 ?_ (Or.inl ⟨rfl, ?_⟩))
    · unfold ftq; rw [if_neg nn, if_pos (by rw [← e11]; exact d)]
    · unfold nrq; rw [if_neg nn]
    · unfold ftq; rw [if_neg nn, if_neg (by rw [← e11]; exact d)]
    · unfold nrq; rw [if_neg nn]
end PLY
