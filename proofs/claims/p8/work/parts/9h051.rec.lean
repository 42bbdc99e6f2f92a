/-! the class's try that is recorded -/
def Wpr (t a i j : Nat) : Bool := WscR 0 a i j || (WscR t a i j || ((Nat.beq a 1 && Nat.beq i 0) && Nat.beq j 5))
section RCK
variable {S T U : fS} {c m t : Nat} {p : Int32}
theorem nw_ge {a i j : Nat} (h : a ≠ 25) (h2 : a ≠ 26) : ge (newT S) a i j = ge S a i j := by
  show (if a = 25 ∧ i = nT S then tI j else if a = 26 ∧ i = nT S then 0 else S.1 a i j) = S.1 a i j
  rw [if_neg (fun q => h q.1), if_neg (fun q => h2 q.1)]
theorem nw_SR : SRq S (newT S) := fun a i j h => nw_ge (by omega) (by omega)
theorem nw_PG (h : PGq S) : PGq (newT S) := by
  obtain ⟨⟨m, m6, a1, a2, a3⟩, ⟨n, n3, b1, b2, b3⟩⟩ := h
  have e : ∀ c k : Nat, ge (newT S) 30 c k = ge S 30 c k := fun c k => nw_ge (by decide) (by decide)
  refine ⟨⟨m, m6, (congrArg Int32.toInt (nw_ge (by decide) (by decide))).trans a1, (congrArg Int32.toInt (nw_ge (by decide) (by decide))).trans a2, fun t ht => ?_⟩, ⟨n, n3, (congrArg Int32.toInt (nw_ge (by decide) (by decide))).trans b1, (congrArg Int32.toInt (nw_ge (by decide) (by decide))).trans b2, fun t ht => ?_⟩⟩
  · obtain ⟨c, c1, P, c2, c3⟩ := a3 t ht
    refine ⟨c, c1, P, ?_, ?_⟩
    · unfold CP at c2 ⊢
      simp only [e]
      exact c2
    · rw [nw_SR.btxE]
      exact c3
  · obtain ⟨c, c1, P, c2, c3⟩ := b3 t ht
    refine ⟨c, c1, P, ?_, ?_⟩
    · unfold CP at c2 ⊢
      simp only [e]
      exact c2
    · rw [nw_SR.btxE]
      exact c3
theorem SRq.sy (h : SRq S T) : SRq T S := fun a i j q => (h a i j q).symm
theorem SRq.tlE (h : SRq S T) (lot : Nat) : tlS T lot = tlS S lot := by
  unfold tlS
  rw [show (fun g => TLq T (Int32.ofNat lot) g) = (fun g => TLq S (Int32.ofNat lot) g) from funext fun g => propext ⟨h.sy.TL, h.TL⟩]
theorem SRq.loE (h : SRq S T) : loS T = loS S := by unfold loS; rw [h.tlE]
theorem SRq.PYE (h : SRq S T) (c lot : Nat) : PYq T c lot = PYq S c lot := by unfold PYq grS slS; rw [h.oqE, h.tlE]
theorem SRq.PAE (h : SRq S T) (all : Bool) : PAq T all = PAq S all := by
  funext c
  unfold PAq
  simp only [h.PYE, h.loE]
theorem SRq.IF (h : SRq S T) (h6 : ge T 1 0 6 = ge S 1 0 6) (hI : IFq S) : IFq T := ⟨by rw [h6, h 40 0 15 (by decide)]; exact hI.1, by rw [h 40 0 15 (by decide)]; exact hI.2.1, by rw [h 40 0 15 (by decide), h 40 0 13 (by decide)]; exact hI.2.2⟩
theorem SRq.HO (h : SRq S T) (hO : HOq S) : HOq T := by unfold HOq; rw [h 40 0 30 (by decide)]; exact hO
theorem Wpr_0 : ∀ a i j : Nat, Wpr t a i j = false → WscR 0 a i j = false := fun a i j h => (Bool.or_eq_false_iff.1 h).1
theorem Wpr_t : ∀ a i j : Nat, Wpr t a i j = false → WscR t a i j = false := fun a i j h => (Bool.or_eq_false_iff.1 (Bool.or_eq_false_iff.1 h).2).1
theorem Wpr_r : ∀ a i j : Nat, 40 ≤ a → Wpr t a i j = false := fun a i j h => by
  unfold Wpr
  rw [Ws_r a i j h, Ws_r a i j h, beq_out (by omega : a ≠ 1)]
  rfl
/-- what a recorded try leaves in the class -/
def QKq (S : fS) (m c t : Nat) (v : Int32) (T : fS) : Prop := ∃ X U : fS, FX (Wpr t) (newT S) X ∧ KAq X U t c (lotq S) (glS S) ∧ T = KPq U m t ∧ v = oq S c (clm (glS S)).1 (clm (glS S)).2.1 ∧ (∀ j : Nat, j < 5 → ge X 25 t (4 + j) = env1 S 0 j) ∧ (∃ u : Int32, CAN (PAq S false) u ∧ ge X 25 t 9 = (if u = -1 then 0 else 1)) ∧ ge X 1 0 5 = (if loS S = 1 then ge S 40 0 34 else drS (ge S 40 0 34))
theorem y_tryAt (H : HVq S) (hO : HOq S) (B : BVq S 0) (N : NBq S 0) (hP : PGq S) (hI : IFq S) (hs : ge S 1 0 5 = ge S 40 0 34) (hn : 1 ≤ nT S) (hp : p.toInt = (c : Int)) (hc : c < 64) (hm : (ge S 1 0 12).toInt = (m : Int)) (hm2 : m < 200) : pk (F_X6_tryAt p S) (fun v T => QKq S m c (nT S) v T) := by
  have l1 : (1 : Int32).toInt = 1 := by decide
  have TO := TOK_of hP hI
  have lb := loS_bd S
  unfold F_X6_tryAt
  refine pq_gdc fun _ => pq_nv fun t et => pq_sv fun S1 E1 => ?_
  rw [← et] at hn ⊢
  have s1 : SRq S S1 := by rw [E1]; exact nw_SR
  have P1 : PGq S1 := by rw [E1]; exact nw_PG hP
  have k1 : ∀ a i j : Nat, a ≤ 10 → ge S1 a i j = ge S a i j := fun a i j h => by rw [E1]; exact nw_ge (by omega) (by omega)
  -- behind it: what holds as long as only scratch is written
  have env : ∀ X : fS, FX (Wpr t) S1 X → SRq S X ∧ HVq X ∧ HOq X ∧ BVq X 0 ∧ NBq X 0 ∧ PGq X ∧ IFq X := by
    intro X F
    have sX : SRq S X := s1.tr (F.sr Wpr_r)
    have kX : ∀ a j : Nat, (1 ≤ a ∧ a ≤ 10) → ¬ (a = 1 ∧ j = 5) → ge X a 0 j = ge S a 0 j := fun a j h h2 => by
      rw [F.1 a 0 j ?_, k1 a 0 j (by omega)]
      unfold Wpr
      rw [Ws_l a 0 j h, Ws_l a 0 j h]
      by_cases d : a = 1
      · rw [beq_out (fun q => h2 ⟨d, q⟩ : j ≠ 5)]
        exact Bool.and_false _
      · rw [beq_out d]
        rfl
    refine ⟨sX, sX.HV H, sX.HO hO, ?_, ?_, P1.fx F rfl rfl rfl rfl (fun _ => rfl) (fun _ _ => rfl) (fun _ _ => rfl), sX.IF (kX 1 6 (by decide) (by decide)) hI⟩
    · obtain ⟨b1, b2, b3, b4⟩ := B
      have y46 : ∀ j : Nat, ge X 46 0 j = ge S 46 0 j := fun j => sX 46 0 j (by decide)
      have y47 : ∀ j : Nat, ge X 47 0 j = ge S 47 0 j := fun j => sX 47 0 j (by decide)
      have y48 : ∀ j : Nat, ge X 48 0 j = ge S 48 0 j := fun j => sX 48 0 j (by decide)
      have y49 : ∀ j : Nat, ge X 49 0 j = ge S 49 0 j := fun j => sX 49 0 j (by decide)
      have y51 : ∀ j : Nat, ge X 51 0 j = ge S 51 0 j := fun j => sX 51 0 j (by decide)
      have y2 : ∀ j : Nat, ge X 2 0 j = ge S 2 0 j := fun j => kX 2 j (by decide) (by omega)
      have y3 : ∀ j : Nat, ge X 3 0 j = ge S 3 0 j := fun j => kX 3 j (by decide) (by omega)
      have y4 : ∀ j : Nat, ge X 4 0 j = ge S 4 0 j := fun j => kX 4 j (by decide) (by omega)
      have y5 : ∀ j : Nat, ge X 5 0 j = ge S 5 0 j := fun j => kX 5 j (by decide) (by omega)
      have y6 : ∀ j : Nat, ge X 6 0 j = ge S 6 0 j := fun j => kX 6 j (by decide) (by omega)
      have y7 : ∀ j : Nat, ge X 7 0 j = ge S 7 0 j := fun j => kX 7 j (by decide) (by omega)
      have y8 : ∀ j : Nat, ge X 8 0 j = ge S 8 0 j := fun j => kX 8 j (by decide) (by omega)
      have y9 : ∀ j : Nat, ge X 9 0 j = ge S 9 0 j := fun j => kX 9 j (by decide) (by omega)
      have y10 : ∀ j : Nat, ge X 10 0 j = ge S 10 0 j := fun j => kX 10 j (by decide) (by omega)
      unfold BVq CVq CRl at *
      simp only [sX.nqE, sX.hwE, sX.hqE, sX.hhE, y46, y47, y48, y49, y51, y2, y3, y4, y5, y6, y7, y8, y9, y10, sX 40 0 30 (by decide), sX 40 0 31 (by decide), kX 1 1 (by decide) (by decide), kX 1 2 (by decide) (by decide)]
      exact ⟨b1, b2, b3, b4⟩
    · unfold NBq at *
      simp only [sX 40 0 32 (by decide), sX 40 0 33 (by decide), sX 40 0 35 (by decide), sX 40 0 36 (by decide), sX 40 0 37 (by decide), sX 40 0 38 (by decide), kX 1 3 (by decide) (by decide), kX 1 4 (by decide) (by decide), kX 1 7 (by decide) (by decide), kX 1 8 (by decide) (by decide), kX 1 9 (by decide) (by decide), kX 1 10 (by decide) (by decide)]
      exact N
  obtain ⟨_, _, _, _, N1, _, _⟩ := env S1 FX.rf
  refine pq_bd y_nameNext (fun _ S3 q => ?_)
  obtain ⟨F3, n4, n5, n6, n7, n8⟩ := q
  have G3 : FX (Wpr t) S1 S3 := (F3.sub Wn_s).sub Wpr_t
  obtain ⟨s3, H3, O3, B3, N3, P3, I3⟩ := env S3 G3
  refine pq_bd (y_leastPaying (all := false) H3 O3 B3 N3 P3 I3 rfl) (fun u S5 q => ?_)
  obtain ⟨F5, Cu⟩ := q
  rw [s3.PAE] at Cu
  have G5 : FX (Wpr t) S1 S5 := G3.tr (F5.sub Wpr_0)
  have o0 : Nat.beq t 0 = false := beq_out (by omega)
  have t5 : ∀ j : Nat, ge S5 25 t j = ge S3 25 t j := fun j => F5.1 25 t j (by show ((true || false) && Nat.beq t 0 || false) = false; rw [o0]; rfl)
  have main : ∀ t0 : Int32, t0 = (if u = -1 then 0 else 1) → pk (B_X6_tryAt_31 p t t0 t S5) (fun v T => QKq S m c t v T) := by
    intro t0 h0
    unfold B_X6_tryAt_31
    refine pq_sv fun S6 E6 => ?_
    have F6 : FX (WscR t) S5 S6 := by rw [E6]; exact FX.rf.wr (by show ((Nat.beq t t) || _) = true; rw [Nat.beq_refl]; rfl)
    have G6 : FX (Wpr t) S1 S6 := G5.tr (F6.sub Wpr_t)
    obtain ⟨s6, H6, O6, B6, N6, P6, I6⟩ := env S6 G6
    refine pq_bd (y_codeInForce P6 I6) (fun x V q => ?_)
    obtain ⟨rfl, qx⟩ := q
    refine pq_bd (y_runq (r := t) qx 0) (fun _ S8 q => ?_)
    obtain ⟨F8, st, g', m8, t8⟩ := q
    have nm6 : ∀ j : Nat, j ≠ 9 → ge S6 25 t j = ge S3 25 t j := fun j h => by rw [E6, ge_puj h, t5]
    have k5 : ∀ j : Nat, j ≠ 5 → ge S6 1 0 j = ge S1 1 0 j := fun j h => G6.1 1 0 j (by show (_ || (_ || Nat.beq j 5)) = false; rw [beq_out h]; rfl)
    have eg : g' = tlS S 0 := by
      have t9 : TLq S6 0 g' := by
        unfold TLq
        refine t8.cg (fun i hi => ?_)
        rw [envT_1 (S := S6) (U := S6) (r := t) (lot := 0) N6 (by rw [nm6 4 (by decide), k5 7 (by decide)]; exact n4) (by rw [nm6 5 (by decide), k5 8 (by decide)]; exact n5) (by rw [nm6 6 (by decide), k5 9 (by decide), k5 3 (by decide)]; exact n6) (by rw [nm6 7 (by decide), k5 10 (by decide)]; exact n7) (by rw [nm6 8 (by decide), k5 4 (by decide)]; exact n8) i hi]
      exact tlS_un (s6.sy.TL t9)
    rw [eg] at m8
    have G8 : FX (Wpr t) S1 S8 := G6.tr ((F8.sub Wm_s).sub Wpr_t)
    refine pq_bd (y_lots m8) (fun v32 V q => ?_)
    obtain ⟨rfl, q32⟩ := q
    have g32 : v32.toInt = (loS S : Int) := by rw [q32, ← lb.2.2]; rfl
    have nm8 : ∀ j : Nat, ge S8 25 t j = ge S6 25 t j := fun j => F8.1 25 t j rfl
    -- behind the lot
    have fin : ∀ X : fS, FX (Wpr t) S1 X → (∀ j : Nat, ge X 25 t j = ge S6 25 t j) → ge X 1 0 5 = (if loS S = 1 then ge S 40 0 34 else drS (ge S 40 0 34)) → pk (B_X6_tryAt_78 p t x (lotq S) t X) (fun v T => QKq S m c t v T) := by
      intro X FX1 nX hX
      obtain ⟨sX, HX, OX, BX, NX, PX, IX⟩ := env X FX1
      have kX : ∀ j : Nat, j ≠ 5 → ge X 1 0 j = ge S1 1 0 j := fun j h => FX1.1 1 0 j (by show (_ || (_ || Nat.beq j 5)) = false; rw [beq_out h]; rfl)
      have nn : ∀ j : Nat, j ≠ 9 → ge X 25 t j = ge S3 25 t j := fun j h => by rw [nX, nm6 j h]
      have m4 : ge X 25 t 4 = ge X 1 0 7 + 1 := by rw [nn 4 (by decide), kX 7 (by decide)]; exact n4
      have m5 : ge X 25 t 5 = ge X 1 0 8 + 1 := by rw [nn 5 (by decide), kX 8 (by decide)]; exact n5
      have m6 : ge X 25 t 6 = ge X 1 0 9 + ge X 1 0 3 := by rw [nn 6 (by decide), kX 9 (by decide), kX 3 (by decide)]; exact n6
      have m7 : ge X 25 t 7 = ge X 1 0 10 := by rw [nn 7 (by decide), kX 10 (by decide)]; exact n7
      have m9 : ge X 25 t 8 = ge X 1 0 4 := by rw [nn 8 (by decide), kX 4 (by decide)]; exact n8
      have CX : COq X (ge X 40 0 15).toInt x := by
        rw [sX 40 0 15 (by decide), ← s6 40 0 15 (by decide)]
        rcases qx with q | ⟨t', c', a1, a2, a3, a4⟩
        · exact Or.inl q
        · refine Or.inr ⟨t', c', a1, a2, a3, ?_⟩
          obtain ⟨P, c2, c3⟩ := a4
          refine ⟨P, ?_, ?_⟩
          · unfold CP ln at c2 ⊢
            have e30 : ∀ c k : Nat, ge X 30 c k = ge S6 30 c k := fun c k => by rw [FX1.1 30 c k rfl, G6.1 30 c k rfl]
            have e2 : X.2 = S6.2 := FX1.2.trans G6.2.symm
            simp only [e30, e2]
            exact c2
          · rw [(s6.sy.tr sX).btxE]
            exact c3
      refine pq_imp (y_at78 (m := m) HX OX BX NX CX (sX.TL (glS_ok TO)) m4 m5 m6 m7 m9 hp hc (by rw [kX 12 (by decide), k1 1 0 12 (by decide)]; exact hm) hm2) (fun v T q => ?_)
      obtain ⟨U, q1, q2, q3⟩ := q
      refine ⟨X, U, by rw [← E1]; exact FX1, q1, q2, by rw [q3, sX.oqE], fun j hj => ?_, ⟨u, Cu, by rw [nX, E6, ge_pus, h0]⟩, hX⟩
      have ee := envT_1 (S := X) (U := X) (r := t) (lot := 0) NX m4 m5 m6 m7 m9 j (by omega)
      rw [sX.env1E] at ee
      rw [← ee]
      have : j = 0 ∨ j = 1 ∨ j = 2 ∨ j = 3 ∨ j = 4 := by omega
      rcases this with rfl | rfl | rfl | rfl | rfl <;> rfl
    have h5 : ge S8 1 0 5 = ge S 40 0 34 := by
      rw [F8.1 1 0 5 rfl, F6.1 1 0 5 rfl, F5.1 1 0 5 rfl, F3.1 1 0 5 rfl, k1 1 0 5 (by decide)]
      exact hs
    refine pq_eq (fun c1 => ?_) (fun c1 => ?_)
    · have L1 : loS S = 1 := by omega
      have e0 : lotq S = 0 := by unfold lotq; rw [if_pos L1]
      rw [← e0]
      exact fin S8 G8 nm8 (by rw [if_pos L1]; exact h5)
    · have L1 : ¬ loS S = 1 := by omega
      refine pq_bd (y_draw (by omega)) (fun v36 S37 q => ?_)
      obtain ⟨q1, q2⟩ := q
      rw [h5] at q1 q2
      have e0 : v36 = lotq S := by
        unfold lotq
        rw [if_neg L1, q1, oNi g32 (by omega)]
      rw [e0]
      refine fin S37 (by rw [q2]; exact G8.wr (by show (_ || (_ || true)) = true; rw [Bool.or_true, Bool.or_true])) (fun j => ?_) ?_
      · rw [q2, ge_pua (by decide), nm8]
      · rw [q2, ge_pus, if_neg L1]
  exact pq_bb (fun c => main 0 (by rw [if_pos c])) (fun c => main 1 (by rw [if_neg c]))
end RCK
