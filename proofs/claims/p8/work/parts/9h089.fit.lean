/-! fitting, strange, guess -/
section FIT
variable {S T V : fS} {p : Int32} {t m : Nat}
theorem W42_cn : ∀ a i j : Nat, Wcn a i j = false → W42 a i j = false := by
  intro a i j h
  unfold W42
  by_cases d : a = 40
  · by_cases e : j = 42
    · rw [d, e] at h; exact tf h rfl
    · rw [beq_out e, Bool.and_false]
  · rw [beq_out d]; rfl
theorem Wcb_cn : ∀ a i j : Nat, Wcn a i j = false → Wcb a i j = false := fun a i j h => Bool.or_eq_false_iff.2 ⟨Wt7_c a i j h, W42_cn a i j h⟩
/-- no record speaks against it -/
def OKq (S : fS) (m t : Nat) : Prop := ∀ k : Nat, k < m → CBq S (t : Int) k
theorem y_str (hP : PGq S) (hR : RCq S 0) (hm : (ge S 40 0 46).toInt = (m : Int)) (F : FX (WscR 0) S V) (ht : (t : Int) < (ge S 40 0 13).toInt) : pk (F_X6_firstStrange (gr V 13 0 t) V) (fun v T => FX (WscR 0) S T ∧ FX Wmq V T ∧ FNO (CBq S (t : Int)) m v) := by
  obtain ⟨m', m2, r1, r2, r3⟩ := hR
  have em : m' = m := by omega
  rw [em] at m2 r1 r3
  refine pq_imp (y_firstStrange (m := m) (o := (t : Int)) (by rw [F.1 1 0 12 rfl]; exact r1) m2 (fun k hk => ?_) (CO_at hP F ht (fun _ => rfl) (fun _ _ => rfl) (fun _ _ => rfl))) (fun v T q => ⟨F.tr (q.1.sub Wm_s), q.1, ?_⟩)
  · obtain ⟨u, g1, g2, g3, _⟩ := r3 k hk
    refine ⟨u, by rw [gr_fx F]; exact g1, g2.fx F (fun j => ?_) (fun j => rfl)⟩
    show ((true && Nat.beq u 0) || false) = false
    rw [beq_out (by omega : u ≠ 0)]
    rfl
  · have e : CBq V (t : Int) = CBq S (t : Int) := funext fun k => CBq_fx F (fun _ => rfl) (fun _ _ => rfl) (fun _ => rfl)
    rw [← e]
    exact q.2
theorem q_str (hP : PGq S) (hR : RCq S 0) (hm : (ge S 40 0 46).toInt = (m : Int)) (RV : RI V) (F : FX Wcn S V) (hp : p.toInt = (t : Int)) (ht : (t : Int) < (ge S 40 0 13).toInt) : pk (F_X7_strangeBy p V) (fun v T => RI T ∧ FX Wcn V T ∧ FNO (CBq S (t : Int)) m v) := by
  obtain ⟨m', m2, r1, r2, r3⟩ := hR
  have em : m' = m := by omega
  rw [em] at r3
  obtain ⟨mp, mp6, _, mp13, _⟩ := hP.1
  refine pq_imp (q_strangeBy (m := m) RV (by rw [F.1 40 0 46 rfl]; exact hm) (fun k hk => ?_) ⟨by omega, by omega⟩ (fun env => ?_)) (fun v T q => ⟨q.1, q.2.1.sub Wcb_cn, ?_⟩)
  · obtain ⟨u, _, g2, _⟩ := r3 k hk
    exact RKq_fx g2.2.1 F (fun _ => rfl)
  · obtain ⟨g, hg⟩ := TPq.ex hP (o := p.toInt) (by omega) (by omega) env
    exact ⟨g, hg.fx F (fun _ => rfl) (fun _ _ => rfl)⟩
  · have e : CBq V p.toInt = CBq S (t : Int) := funext fun k => by rw [CBq_fx F (fun _ => rfl) (fun _ _ => rfl) (fun _ => rfl), hp]
    rw [← e]
    exact q.2.2
theorem rk_strange (h : IV S) (z : ge S 40 0 0 = 0) : RK (fun ec => if ec = 0 then 0 else 1) (F_X6_strange p S) (F_X7_strange p) := by
  obtain ⟨H, hO, B, N, hP, hI, hs, hR, _⟩ := h.2.2.2.1
  have hP' := hP
  obtain ⟨⟨mp, mp6, p5, p13, _⟩, _⟩ := hP'
  obtain ⟨m, hm⟩ : ∃ m : Nat, (ge S 40 0 46).toInt = (m : Int) := by
    obtain ⟨m, _, _, r2, _⟩ := hR
    exact ⟨m, r2⟩
  refine rk_mk (A := fun ec v => (ec = 1 ∧ ¬ ie p (ge S 40 0 13)) ∨ (ec = 0 ∧ ie p (ge S 40 0 13) ∧ ∃ t : Nat, p.toInt = (t : Int) ∧ FNO (CBq S (t : Int)) m v)) (C := fun ec v => (ec = 1 ∧ ¬ ie p (ge S 40 0 13)) ∨ (ec = 0 ∧ ie p (ge S 40 0 13) ∧ ∃ t : Nat, p.toInt = (t : Int) ∧ FNO (CBq S (t : Int)) m v)) h z (s_F_X6_strange p S h.1 h.2.1) (fun _ _ q => q.1) ?_ (fun T RT F hL zT => ?_) (fun ec v t' v2 a c => ?_)
  · unfold F_X6_strange
    refine pq_iv fun x1 e1 => pq_iv fun x2 e2 => ?_
    have g2 : x2.toInt = (mp : Int) - 1 := by rw [e2, sub1 (by rw [e1, p5]; omega), e1, p5]
    have ee : ((0 : Int32).toInt ≤ p.toInt ∧ p.toInt ≤ x2.toInt) ↔ ie p (ge S 40 0 13) := by
      unfold ie
      rw [l0', g2, p13]
      omega
    refine pg_w (fun hc => pg_n1 ?_) (fun hc => pg_n0 ⟨FX.rf, Or.inl ⟨rfl, fun q => hc (ee.2 q)⟩⟩)
    have h2 := ee.1 hc
    obtain ⟨t, hp⟩ : ∃ t : Nat, p.toInt = (t : Int) := ⟨p.toInt.toNat, by have := h2.1; omega⟩
    rw [cnNq hp]
    refine pq_gd fun _ => pq_qv fun o e => ?_
    rw [e]
    refine pq_bd (y_str hP hR hm FX.rf (by rw [← hp]; exact h2.2)) (fun v T q => pq_some ⟨q.1, Or.inr ⟨rfl, h2, t, hp, q.2.2⟩⟩)
  · have s1 : SRq S T := F.sr Ws_r
    obtain ⟨_, _, _, _, hP1, _, _, hR1, _⟩ := hL.1
    have h13 : 0 ≤ (ge T 40 0 13).toInt := (RT 40 0 13).1
    unfold F_X7_strange
    refine pg7_0 zT (pq_iv fun x e => pq_iv fun y ey => pg7_el (n := x) (by rw [e]; exact h13) ey (fun c1 => pg_b1 ?_) (fun c1 => pg_b0 ?_))
    · rw [e, s1 40 0 13 (by decide)] at c1
      obtain ⟨t, hp⟩ : ∃ t : Nat, p.toInt = (t : Int) := ⟨p.toInt.toNat, by have := c1.1; omega⟩
      unfold B_X7_strange_25
      refine pg7_ok zT (pq_bd (q_str hP1 hR1 (by rw [s1 40 0 46 (by decide)]; exact hm) RT FX.rf hp (by rw [s1 40 0 13 (by decide), ← hp]; exact c1.2)) (fun v U q => pq_some ⟨q.2.1.sub WX_cn, Or.inr ⟨by rw [q.2.1.1 40 0 0 rfl]; exact zT, c1, t, hp, ?_⟩⟩))
      have e : CBq T (t : Int) = CBq S (t : Int) := funext fun k => CBq_fx F (fun _ => rfl) (fun _ _ => rfl) (fun _ => rfl)
      rw [← e]
      exact q.2.2
    · rw [e, s1 40 0 13 (by decide)] at c1
      unfold B_X7_strange_25
      exact pg7_no zT (by decide) (pq_some ⟨FX.rf.wr rfl, Or.inl ⟨ge_pus, c1⟩⟩)
  · rcases a with ⟨a1, a2⟩ | ⟨a1, a2, k, a3, a4⟩ <;> rcases c with ⟨c1, c2⟩ | ⟨c1, c2, k', c3, c4⟩
    · exact ⟨by rw [a1, c1]; rfl, fun q => by omega⟩
    · exact absurd c2 a2
    · exact absurd a2 c2
    · have ek : k' = k := by omega
      rw [ek] at c4
      exact ⟨by rw [a1, c1]; rfl, fun _ => a4.un c4⟩
def FTq (S : fS) (m n : Nat) (v : Int32) : Prop := ACC (OKq S m) (fun i u => u ||| ((1 : Int32) <<< (Int32.ofNat i &&& 31))) n v
theorem OKq_sr (F : FX (WscR 0) S T) : OKq T m = OKq S m := funext fun t => by
  unfold OKq
  rw [show CBq T (t : Int) = CBq S (t : Int) from funext fun k => CBq_fx F (fun _ => rfl) (fun _ _ => rfl) (fun _ => rfl)]
theorem rk_fitting (h : IV S) (z : ge S 40 0 0 = 0) : RK0 (F_X6_fitting S) (F_X7_fitting) := by
  have l0 : (0 : Int32).toInt = 0 := by decide
  obtain ⟨H, hO, B, N, hP, hI, hs, hR, _⟩ := h.2.2.2.1
  have hP' := hP
  obtain ⟨⟨mp, mp6, p5, p13, _⟩, _⟩ := hP'
  obtain ⟨m, hm⟩ : ∃ m : Nat, (ge S 40 0 46).toInt = (m : Int) := by
    obtain ⟨m, _, _, r2, _⟩ := hR
    exact ⟨m, r2⟩
  refine rk_mk0 (A := fun v => FTq S m mp v) (C := fun v => FTq S m mp v) h z (s_F_X6_fitting S h.1 h.2.1) (fun _ _ q => q.1) ?_ (fun T RT F hL zT => ?_) (fun v v2 a c => ACC.un a c)
  · unfold F_X6_fitting
    refine pq_lp (fun (y : Int32 × Int32) V => FX (WscR 0) S V ∧ ∃ i : Nat, y.2.toInt = (i : Int) ∧ i ≤ mp ∧ FTq S m i y.1) (fun _ _ (v : Int32) T => FX (WscR 0) S T ∧ FTq S m mp v) ?_ fuel (0, 0) S ⟨FX.rf, 0, l0, Nat.zero_le _, rfl⟩
    intro k hk y V hy
    obtain ⟨a1, a2⟩ := y
    obtain ⟨FV, i, i1, i2, i3⟩ := hy
    dsimp only at i1 i3
    unfold B_X6_fitting_4
    dsimp only
    refine pq_iv fun x2 e2 => ?_
    rw [FV.1 0 0 5 rfl] at e2
    refine pq_le (fun c0 => pq_some ⟨FV, ?_⟩) (fun c0 => ?_)
    · have : i = mp := by rw [e2, p5] at c0; omega
      rw [← this]
      exact i3
    rw [e2, p5] at c0
    have ea : a2 = Int32.ofNat i := isN9 i1 (by omega)
    rw [cnNq i1]
    refine pq_gd fun _ => pq_qv fun o e => ?_
    rw [e]
    refine pq_bd (y_str hP hR hm FV (by omega)) (fun v U q => ?_)
    obtain ⟨FU, _, q⟩ := q
    have nx : ∀ x : Int32, FTq S m (i + 1) x → pk (B_X6_fitting_32 k x a2 U) (fun v T => FX (WscR 0) S T ∧ FTq S m mp v) := by
      intro x hx
      unfold B_X6_fitting_32
      refine pq_iv fun x1 e1 => ?_
      have g1 : x1.toInt = a2.toInt + 1 := by rw [e1]; exact ti_inc (by omega)
      exact hk (x, x1) U ⟨FU, i + 1, by dsimp only; omega, by omega, hx⟩
    refine pq_bb (fun d => pq_iv fun x10 e10 => pq_iv fun x11 e11 => nx x11 (i3.yes (q.m1.1 d) (by rw [e11, e10, ea]))) (fun d => nx a1 (i3.no (fun w => d (q.m1.2 w)) rfl))
  · have s1 : SRq S T := F.sr Ws_r
    obtain ⟨_, _, _, _, hP1, _, _, hR1, _⟩ := hL.1
    have eo : OKq T m = OKq S m := OKq_sr F
    unfold F_X7_fitting
    refine pg7_0 zT ?_
    refine pq_lp (fun (y : Int32 × Int32) V => RI V ∧ FX Wcn T V ∧ ∃ i : Nat, y.2.toInt = (i : Int) ∧ i ≤ mp ∧ FTq S m i y.1) (fun _ _ (v : Int32) U => FX WX T U ∧ FTq S m mp v) ?_ fuel (0, 0) T ⟨RT, FX.rf, 0, l0, Nat.zero_le _, rfl⟩
    intro k hk y V hy
    obtain ⟨a1, a2⟩ := y
    obtain ⟨RV, FV, i, i1, i2, i3⟩ := hy
    dsimp only at i1 i3
    unfold B_X7_fitting_9
    dsimp only
    refine pq_iv fun x2 e2 => ?_
    rw [FV.1 40 0 13 rfl, s1 40 0 13 (by decide)] at e2
    refine pq_le (fun c0 => pq_some ⟨FV.sub WX_cn, ?_⟩) (fun c0 => ?_)
    · have : i = mp := by rw [e2, p13] at c0; omega
      rw [← this]
      exact i3
    rw [e2, p13] at c0
    have ea : a2 = Int32.ofNat i := isN9 i1 (by omega)
    refine pq_bd (q_str hP1 hR1 (by rw [s1 40 0 46 (by decide)]; exact hm) RV FV i1 (by rw [s1 40 0 13 (by decide), p13]; omega)) (fun v U q => ?_)
    obtain ⟨RU, FU, q⟩ := q
    have q' : v = -1 ↔ OKq S m i := by rw [← eo]; exact q.m1
    have nx : ∀ x : Int32, FTq S m (i + 1) (a1 ||| x) → pk (B_X7_fitting_34 k a2 x a1 U) (fun v U => FX WX T U ∧ FTq S m mp v) := by
      intro x hx
      unfold B_X7_fitting_34
      refine pq_iv fun x1 e1 => pq_iv fun x2 e2 => ?_
      have g2 : x2.toInt = a2.toInt + 1 := by rw [e2]; exact ti_inc (by omega)
      exact hk (x1, x2) U ⟨RU, FV.tr FU, i + 1, by dsimp only; omega, by omega, by dsimp only; rw [e1]; exact hx⟩
    exact pq_bb (fun d => pq_iv fun x9 e9 => nx x9 (i3.yes (q'.1 d) (by rw [e9, ea]))) (fun d => nx 0 (i3.no (fun w => d (q'.2 w)) Int32.or_zero))
/-! guess -/
def GSq (S : fS) (c t : Nat) : Prop := ∃ g : G3, TPq S (t : Int) (env1 S 0) g ∧ oq S c (clm g).1 (clm g).2.1 = 5
theorem GSq.no {c : Nat} {g : G3} (h : TPq S (t : Int) (env1 S 0) g) (ho : ¬ oq S c (clm g).1 (clm g).2.1 = 5) : ¬ GSq S c t := fun ⟨g', h', ho'⟩ => ho (by rw [h.un h']; exact ho')
theorem SRq.GSE {c : Nat} (h : SRq S T) : GSq T c t = GSq S c t := by
  refine propext ⟨fun ⟨g, a, b⟩ => ⟨g, ?_, ?_⟩, fun ⟨g, a, b⟩ => ⟨g, ?_, ?_⟩⟩
  · rw [h.env1E] at a; exact h.TPr a
  · rw [h.oqE] at b; exact b
  · rw [h.env1E]; exact h.TP a
  · rw [h.oqE]; exact b
def GUq (S : fS) (c m n : Nat) (v : Int32) : Prop := ACC (fun i => OKq S m i ∧ GSq S c i) (fun _ u => u + 1) n v
theorem env1_cn (F : FX Wcn S T) (lot : Int32) : env1 T lot = env1 S lot := funext fun i => by unfold env1; rw [F.1 40 0 35 rfl, F.1 40 0 36 rfl, F.1 40 0 37 rfl, F.1 40 0 32 rfl, F.1 40 0 38 rfl, F.1 40 0 33 rfl]
theorem y6_guess {mp : Nat} (h : IV S) (hm : (ge S 40 0 46).toInt = (m : Int)) (p13 : (ge S 40 0 13).toInt = (mp : Int)) : pk (F_X6_guess p S) (fun r T => FX (WscR 0) S T ∧ ((r.1 = 2 ∧ ¬ ic p) ∨ (r.1 = 0 ∧ ic p ∧ ∃ c : Nat, p.toInt = (c : Int) ∧ GUq S c m mp r.2))) := by
  have l0 : (0 : Int32).toInt = 0 := by decide
  obtain ⟨H, hO, B, N, hP, hI, hs, hR, _⟩ := h.2.2.2.1
  have hP' := hP
  obtain ⟨⟨mp', mp6, p5, p13', _⟩, _⟩ := hP'
  have emp : mp' = mp := by omega
  rw [emp] at mp6 p5
  unfold F_X6_guess
  refine pg_cell (fun hc => ?_) (fun hc => ⟨FX.rf, Or.inl ⟨rfl, hc⟩⟩)
  obtain ⟨c, hp, hc64⟩ := ic_nat hc
  refine pq_lp (fun (y : Int32 × Int32 × Int32) V => y.1 = p ∧ FX (WscR 0) S V ∧ ∃ i : Nat, y.2.2.toInt = (i : Int) ∧ i ≤ mp ∧ GUq S c m i y.2.1) (fun _ _ (r : Nat × Int32) T => FX (WscR 0) S T ∧ ((r.1 = 2 ∧ ¬ ic p) ∨ (r.1 = 0 ∧ ic p ∧ ∃ c : Nat, p.toInt = (c : Int) ∧ GUq S c m mp r.2))) ?_ fuel (p, 0, 0) S ⟨rfl, FX.rf, 0, l0, Nat.zero_le _, rfl⟩
  intro k hk y V hy
  obtain ⟨a1, a2, a3⟩ := y
  obtain ⟨f1, FV, i, i1, i2, i3⟩ := hy
  dsimp only at f1 i1 i3
  subst f1
  unfold B_X6_guess_8
  dsimp only
  refine pq_iv fun x3 e3 => ?_
  rw [FV.1 0 0 5 rfl] at e3
  refine pq_le (fun c0 => pq_some ⟨FV, Or.inr ⟨rfl, hc, c, hp, ?_⟩⟩) (fun c0 => ?_)
  · have : i = mp := by rw [e3, p5] at c0; omega
    rw [← this]
    exact i3
  rw [e3, p5] at c0
  rw [cnNq i1]
  refine pq_gd fun _ => pq_qv fun o e => ?_
  rw [e]
  refine pq_bd (y_str hP hR hm FV (by omega)) (fun v U q => ?_)
  obtain ⟨FU, _, q⟩ := q
  have nx : ∀ (U : fS) (x : Int32), FX (WscR 0) S U → GUq S c m (i + 1) x → pk (B_X6_guess_93 k a1 x a3 U) (fun r T => FX (WscR 0) S T ∧ ((r.1 = 2 ∧ ¬ ic a1) ∨ (r.1 = 0 ∧ ic a1 ∧ ∃ c : Nat, a1.toInt = (c : Int) ∧ GUq S c m mp r.2))) := by
    intro U x FU hx
    unfold B_X6_guess_93
    refine pq_iv fun x1 e1 => ?_
    have g1 : x1.toInt = a3.toInt + 1 := by rw [e1]; exact ti_inc (by omega)
    exact hk (a1, x, x1) U ⟨rfl, FU, i + 1, by dsimp only; omega, by omega, hx⟩
  refine pq_bb (fun d => ?_) (fun d => nx U a2 FU (i3.no (fun w => d (q.m1.2 w.1)) rfl))
  have ok : OKq S m i := q.m1.1 d
  refine pq_bd (y_nameNext (b := 0)) (fun _ X q => ?_)
  obtain ⟨FX1, k4, k5, k6, k7, k8⟩ := q
  have GX : FX (WscR 0) S X := FU.tr (FX1.sub Wn_s)
  have sX : SRq S X := GX.sr Ws_r
  have nX : NX S X := ⟨by rw [k4, FU.1 1 0 7 rfl], by rw [k5, FU.1 1 0 8 rfl], by rw [k6, FU.1 1 0 9 rfl, FU.1 1 0 3 rfl], by rw [k7, FU.1 1 0 10 rfl], by rw [k8, FU.1 1 0 4 rfl]⟩
  refine pq_gd fun _ => pq_qv fun o15 e15 => ?_
  rw [e15]
  refine pq_bd (y_runq (CO_at hP GX (by omega) (fun _ => rfl) (fun _ _ => rfl) (fun _ _ => rfl)) 0) (fun _ Y q => ?_)
  obtain ⟨FY, st, g, mY, tp⟩ := q
  have tS : TPq S (i : Int) (env1 S 0) g := sX.TPr (tp.cg (fun j hj => envT_1 (S := S) N nX.1 nX.2.1 nX.2.2.1 nX.2.2.2.1 nX.2.2.2.2 j hj))
  refine pq_bd (y_grip mY) (fun v19 Z q => ?_)
  obtain ⟨rfl, q19⟩ := q
  refine pq_bd (y_slip mY) (fun v22 Z q => ?_)
  obtain ⟨rfl, q22⟩ := q
  have f19 : v19 = (clm g).1 := q19
  have f22 : v22 = (clm g).2.1 := q22
  rw [f19, f22]
  refine pq_bd (y_pays H hO B (GX.tr (FY.sub Wm_s)) hp hc64) (fun v25 Z q => ?_)
  obtain ⟨FZ, _, q⟩ := q
  have nz : ∀ x : Int32, GUq S c m (i + 1) (a2 + x) → pk (B_X6_guess_91 k a1 a3 x a2 Z) (fun r T => FX (WscR 0) S T ∧ ((r.1 = 2 ∧ ¬ ic a1) ∨ (r.1 = 0 ∧ ic a1 ∧ ∃ c : Nat, a1.toInt = (c : Int) ∧ GUq S c m mp r.2))) := by
    intro x hx
    unfold B_X6_guess_91
    exact pq_iv fun x2 e2 => nx Z x2 FZ (by rw [e2]; exact hx)
  rcases q with ⟨q1, q2⟩ | ⟨q1, q2⟩
  · exact pq_bb (fun e => absurd (q1.symm.trans e) (by decide)) (fun _ => nz 1 (i3.yes ⟨ok, g, tS, q2⟩ rfl))
  · exact pq_bb (fun _ => nz 0 (i3.no (fun w => GSq.no tS q2 w.2) (Int32.add_zero _))) (fun e => absurd q1 e)
theorem q7_guess {mp : Nat} (RT : RI T) (hL : RLv T) (z : ge T 40 0 0 = 0) (hm : (ge T 40 0 46).toInt = (m : Int)) (p13 : (ge T 40 0 13).toInt = (mp : Int)) : pk (F_X7_guess p T) (fun v U => FX WX T U ∧ ((ge U 40 0 0 = 1 ∧ ¬ ic p) ∨ (ge U 40 0 0 = 0 ∧ ic p ∧ ∃ c : Nat, p.toInt = (c : Int) ∧ GUq T c m mp v))) := by
  have l0 : (0 : Int32).toInt = 0 := by decide
  obtain ⟨H, hO, B, N, hP, hI, hs, hR, _⟩ := hL.1
  have h13 : 0 ≤ (ge T 40 0 13).toInt ∧ (ge T 40 0 13).toInt ≤ 6 := RT 40 0 13
  unfold F_X7_guess
  refine pg7_0 z (pg7_cell (fun c1 => pg_b1 ?_) (fun c1 => pg_b0 ?_))
  · unfold B_X7_guess_18
    refine pg7_ok z ?_
    obtain ⟨c, hp, hc64⟩ := ic_nat c1
    refine pq_lp (fun (y : Int32 × Int32 × Int32) V => y.1 = p ∧ RI V ∧ FX Wcn T V ∧ ∃ i : Nat, y.2.2.toInt = (i : Int) ∧ i ≤ mp ∧ GUq T c m i y.2.1) (fun _ _ (v : Int32) U => FX WX T U ∧ ((ge U 40 0 0 = 1 ∧ ¬ ic p) ∨ (ge U 40 0 0 = 0 ∧ ic p ∧ ∃ c : Nat, p.toInt = (c : Int) ∧ GUq T c m mp v))) ?_ fuel (p, 0, 0) T ⟨rfl, RT, FX.rf, 0, l0, Nat.zero_le _, rfl⟩
    intro k hk y V hy
    obtain ⟨a1, a2, a3⟩ := y
    obtain ⟨f1, RV, FV, i, i1, i2, i3⟩ := hy
    dsimp only at f1 i1 i3
    subst f1
    unfold B_X7_guess_31
    dsimp only
    refine pq_iv fun x3 e3 => ?_
    rw [FV.1 40 0 13 rfl] at e3
    refine pq_le (fun c0 => pq_some ⟨FV.sub WX_cn, Or.inr ⟨by rw [FV.1 40 0 0 rfl]; exact z, c1, c, hp, ?_⟩⟩) (fun c0 => ?_)
    · have : i = mp := by rw [e3, p13] at c0; omega
      rw [← this]
      exact i3
    rw [e3, p13] at c0
    refine pq_bd (q_str hP hR hm RV FV i1 (by rw [p13]; omega)) (fun v U q => ?_)
    obtain ⟨RU, FU, q⟩ := q
    have GU := FV.tr FU
    have nx : ∀ (U : fS) (x : Int32), RI U → FX Wcn T U → GUq T c m (i + 1) x → pk (B_X7_guess_74 k a1 x a3 U) (fun v U => FX WX T U ∧ ((ge U 40 0 0 = 1 ∧ ¬ ic a1) ∨ (ge U 40 0 0 = 0 ∧ ic a1 ∧ ∃ c : Nat, a1.toInt = (c : Int) ∧ GUq T c m mp v))) := by
      intro U x RU GU hx
      unfold B_X7_guess_74
      refine pq_iv fun x1 e1 => ?_
      have g1 : x1.toInt = a3.toInt + 1 := by rw [e1]; exact ti_inc (by omega)
      exact hk (a1, x, x1) U ⟨rfl, RU, GU, i + 1, by dsimp only; omega, by omega, hx⟩
    refine pq_bb (fun d => ?_) (fun d => nx U a2 RU GU (i3.no (fun w => d (q.m1.2 w.1)) rfl))
    have ok : OKq T m i := q.m1.1 d
    refine pq_bd (pq_and (s_F_X7_namesOf 1 U RU).pk q_next) (fun _ X q => ?_)
    obtain ⟨⟨RX, _⟩, FX1, nX⟩ := q
    have GX : FX Wcn T X := GU.tr (FX1.sub (fun a i j h => W45_t a i j (Wt7_c a i j h)))
    obtain ⟨g, tp⟩ := TPq.ex hP (o := (i : Int)) (by omega) (by omega) (env1 T 0)
    have tX : TPq X a3.toInt (envN X 0) g := by
      rw [i1]
      refine (tp.fx GX (fun _ => rfl) (fun _ _ => rfl)).cg (fun j hj => ?_)
      unfold envN
      by_cases d : j = 5
      · rw [if_pos d, d]; rfl
      · rw [if_neg d, nX j (by omega), env1_cn GU]
    refine pq_bd (pq_and (s_F_X7_isPaidBy a1 a3 0 X RX ⟨by omega, by omega, by omega, by omega⟩).pk (q_paid RX GX H hO tX hp hc64)) (fun v12 Z q => ?_)
    obtain ⟨⟨RZ, _⟩, FZ, _, q⟩ := q
    have nz : ∀ x : Int32, GUq T c m (i + 1) (a2 + x) → pk (B_X7_guess_72 k a1 a3 x a2 Z) (fun v U => FX WX T U ∧ ((ge U 40 0 0 = 1 ∧ ¬ ic a1) ∨ (ge U 40 0 0 = 0 ∧ ic a1 ∧ ∃ c : Nat, a1.toInt = (c : Int) ∧ GUq T c m mp v))) := by
      intro x hx
      unfold B_X7_guess_72
      exact pq_iv fun x2 e2 => nx Z x2 RZ (GX.tr FZ) (by rw [e2]; exact hx)
    rcases q with ⟨q1, q2⟩ | ⟨q1, q2⟩
    · exact pq_bb (fun e => absurd (q1.symm.trans e) (by decide)) (fun _ => nz 1 (i3.yes ⟨ok, g, tp, q2⟩ rfl))
    · exact pq_bb (fun _ => nz 0 (i3.no (fun w => GSq.no tp q2 w.2) (Int32.add_zero _))) (fun e => absurd q1 e)
  · unfold B_X7_guess_18
    exact pg7_no z (by decide) (pq_some ⟨FX.rf.wr rfl, Or.inl ⟨ge_pus, c1⟩⟩)
theorem rk_guess (h : IV S) (z : ge S 40 0 0 = 0) : RK (fun ec => if ec = 0 then 0 else 1) (F_X6_guess p S) (F_X7_guess p) := by
  obtain ⟨H, hO, B, N, hP, hI, hs, hR, _⟩ := h.2.2.2.1
  obtain ⟨m, hm⟩ : ∃ m : Nat, (ge S 40 0 46).toInt = (m : Int) := by
    obtain ⟨m, _, _, r2, _⟩ := hR
    exact ⟨m, r2⟩
  obtain ⟨mp, _, _, p13, _⟩ := hP.1
  refine rk_mk (A := fun ec v => (ec = 2 ∧ ¬ ic p) ∨ (ec = 0 ∧ ic p ∧ ∃ c : Nat, p.toInt = (c : Int) ∧ GUq S c m mp v)) (C := fun ec v => (ec = 1 ∧ ¬ ic p) ∨ (ec = 0 ∧ ic p ∧ ∃ c : Nat, p.toInt = (c : Int) ∧ GUq S c m mp v)) h z (s_F_X6_guess p S h.1 h.2.1) (fun _ _ q => q.1) (y6_guess h hm p13) (fun T RT F hL zT => ?_) (fun ec v t' v2 a c => ?_)
  · have s1 : SRq S T := F.sr Ws_r
    refine pq_imp (q7_guess (m := m) (mp := mp) RT hL zT (by rw [s1 40 0 46 (by decide)]; exact hm) (by rw [s1 40 0 13 (by decide)]; exact p13)) (fun v U q => ⟨q.1, ?_⟩)
    have q2 := q.2
    have eo : ∀ c : Nat, GUq T c m mp = GUq S c m mp := fun c => by
      unfold GUq
      rw [OKq_sr F]
      rw [show (fun i => OKq S m i ∧ GSq T c i) = fun i => OKq S m i ∧ GSq S c i from funext fun i => by rw [s1.GSE]]
    simp only [eo] at q2
    exact q2
  · rcases a with ⟨a1, a2⟩ | ⟨a1, a2, k, a3, a4⟩ <;> rcases c with ⟨c1, c2⟩ | ⟨c1, c2, k', c3, c4⟩
    · exact ⟨by rw [a1, c1]; rfl, fun q => by omega⟩
    · exact absurd c2 a2
    · exact absurd a2 c2
    · have ek : k' = k := by omega
      rw [ek] at c4
      exact ⟨by rw [a1, c1]; rfl, fun _ => ACC.un a4 c4⟩
end FIT
