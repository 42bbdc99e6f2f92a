/-! the class's try that is recorded: behind the lot -/
def W78 (t a i j : Nat) : Bool := WscR t a i j || Wmv 0 a i j
/-- the record with try t at m -/
def KPq (U : fS) (m t : Nat) : fS := pu (pr U 11 0 m (some t)) 1 0 12 (ge U 1 0 12 + 1)
/-- what the try leaves before it is recorded -/
def KAq (S U : fS) (t c : Nat) (lot : Int32) (g : G3) : Prop := FX (W78 t) S U ∧ (∃ (w : Nat → Int) (hp : Nat → Nat → Int) (ht : Nat → Int), CVq U 0 (nq S) w hp ht ∧ MWq S c (clm g).1 (clm g).2.1 w (HLv hp ht)) ∧ CNk S U 0 (oq S c (clm g).1 (clm g).2.1) (feq S c (clm g).1 (clm g).2.1) ∧ (ge U 25 t 0).toInt = (c : Int) ∧ ge U 25 t 1 = oq S c (clm g).1 (clm g).2.1 ∧ (ge U 25 t 2).toInt = lgq S c (clm g).1 (clm g).2.1 ∧ ge U 25 t 3 = lot ∧ (∀ j : Nat, 4 ≤ j → j < 10 → ge U 25 t j = ge S 25 t j) ∧ ge U 25 t 10 = ge S 40 0 30 ∧ (mis S c ∨ TYq U t c (hoN S) (upq S c) (wsm S (gL S c)))
section ATC
variable {S T U : fS} {c m t : Nat} {p lot : Int32} {g : G3} {x : Option Nat}
theorem y_keep (hm : (ge U 1 0 12).toInt = (m : Int)) (hm2 : m < 200) : pk (F_X0_keep 0 t U) (fun _ T => T = KPq U m t) := by
  have l200 : (200 : Int32).toInt = 200 := by decide
  unfold F_X0_keep
  refine pq_iv fun x1 e1 => pq_le (fun c => absurd c (by rw [e1]; omega)) (fun _ => ?_)
  refine pq_iv fun x3 e3 => pq_gd fun _ => ?_
  rw [cnNq (y := x3) (m := m) (by rw [e3]; exact hm)]
  refine pq_sv fun S5 E5 => pq_iv fun x6 e6 => pq_iv fun x7 e7 => pq_sv fun S8 E8 => pq_some ?_
  rw [E8, e7, e6, E5]
  rfl
theorem y_at78 (H : HVq S) (hO : HOq S) (B : BVq S 0) (N : NBq S 0) (C : COq S (ge S 40 0 15).toInt x) (hT : TLq S lot g) (n4 : ge S 25 t 4 = ge S 1 0 7 + 1) (n5 : ge S 25 t 5 = ge S 1 0 8 + 1) (n6 : ge S 25 t 6 = ge S 1 0 9 + ge S 1 0 3) (n7 : ge S 25 t 7 = ge S 1 0 10) (n8 : ge S 25 t 8 = ge S 1 0 4) (hp : p.toInt = (c : Int)) (hc : c < 64) (hm : (ge S 1 0 12).toInt = (m : Int)) (hm2 : m < 200) : pk (B_X6_tryAt_78 p t x lot t S) (fun v T => ∃ U : fS, KAq S U t c lot g ∧ T = KPq U m t ∧ v = oq S c (clm g).1 (clm g).2.1) := by
  unfold B_X6_tryAt_78
  refine pq_sv fun S1 E1 => pq_iv fun x2 e2 => ?_
  rw [E1, ge_pus] at e2
  have F1 : FX (WscR t) S S1 := by
    rw [E1]
    exact FX.rf.wr (by show ((Nat.beq t t) || _) = true; rw [Nat.beq_refl]; rfl)
  have s1 : SRq S S1 := F1.sr Ws_r
  have C1 : COq S1 (ge S 40 0 15).toInt x := by
    rcases C with q | ⟨t', c', a1, a2, a3, a4⟩
    · exact Or.inl q
    · exact Or.inr ⟨t', c', a1, a2, a3, a4.fx F1 rfl (fun _ => rfl) (fun _ => rfl)⟩
  rw [e2]
  refine pq_bd (y_runq (r := t) C1 lot) (fun _ S8 q => ?_)
  obtain ⟨F8, st, g', m8, t8⟩ := q
  have k1 : ∀ j : Nat, j ≠ 3 → ge S1 25 t j = ge S 25 t j := fun j h => by rw [E1, ge_puj h]
  have eg : g' = g := by
    have t9 : TLq S1 lot g' := by
      unfold TLq
      rw [s1 40 0 15 (by decide)]
      refine t8.cg (fun i hi => ?_)
      rw [envT_1 (S := S) (U := S1) (r := t) (lot := lot) N (by rw [k1 4 (by decide)]; exact n4) (by rw [k1 5 (by decide)]; exact n5) (by rw [k1 6 (by decide)]; exact n6) (by rw [k1 7 (by decide)]; exact n7) (by rw [k1 8 (by decide)]; exact n8) i hi, s1.env1E]
    exact t9.un (s1.TL hT)
  rw [eg] at m8
  have G8 : FX (WscR t) S S8 := F1.tr (F8.sub Wm_s)
  have s8 : SRq S S8 := G8.sr Ws_r
  have B8 : BVq S8 0 := s8.BV B (fun a j ha => G8.1 a 0 j (Ws_l a 0 j ha))
  refine pq_bd (y_look (s8.HV H) B8 hp hc (by rw [s8 40 0 30 (by decide)]; exact hO)) (fun _ S11 q => ?_)
  obtain ⟨F11, L11⟩ := q
  have m11 := m8.fx F11 rfl (fun _ => rfl) (fun _ => rfl)
  refine pq_bd (y_grip m11) (fun v13 U q => ?_)
  obtain ⟨rfl, q13⟩ := q
  refine pq_bd (y_slip m11) (fun v16 U q => ?_)
  obtain ⟨rfl, q16⟩ := q
  refine pq_bd (y_carryq L11) (fun _ U q => ?_)
  obtain ⟨FU, cU⟩ := q
  rw [q13, q16] at cU
  have G2 : FX (WscR t) S U := (G8.tr (F11.sub Wl_s)).tr (FU.sub Wc_s)
  obtain ⟨a0, a10, a1, a2, a16, a26, aT⟩ := s8.CA cU
  have s2 : SRq S U := G2.sr Ws_r
  have kU : ∀ j : Nat, 3 ≤ j → j < 10 → ge U 25 t j = ge S1 25 t j := by
    intro j h3 h10
    have : j = 3 ∨ j = 4 ∨ j = 5 ∨ j = 6 ∨ j = 7 ∨ j = 8 ∨ j = 9 := by omega
    rcases this with rfl | rfl | rfl | rfl | rfl | rfl | rfl <;> rw [FU.1 25 t _ rfl, F11.1 25 t _ rfl, F8.1 25 t _ rfl]
  obtain ⟨z1, z2, z3⟩ := glq_ok H hc (S := S)
  have CV2 : CVq U 0 (nq S) (hw S) (hq S) (hh S) := B.1.fx G2 (fun _ => rfl) (fun _ => rfl) (fun _ => rfl) (fun _ => rfl)
  have vs : vsm U (glq S c) = vsm S (glq S c) := s2.vsmE _
  refine pq_bd (y_move (L := glq S c) CV2 z1 z2 ⟨a16, a26, z3⟩ (lcq S c (clm g).1 (clm g).2.1) ?_ (fun u hu => by rw [G2.1 5 0 u rfl, s2 48 0 u (by decide)]; exact (B.2.1 u hu).2.2.1)) (fun _ V q => ?_)
  · rw [a1]
    by_cases z : oq S c (clm g).1 (clm g).2.1 = 3
    · obtain ⟨l, l1, l2⟩ := lgq_bd H hc hO z
      refine Or.inl ⟨z, l, ?_, l1, by rw [a2]; exact l2⟩
      unfold lcq
      rw [if_pos z, l2, Int.toNat_natCast]
    · by_cases z5 : oq S c (clm g).1 (clm g).2.1 = 5
      · refine Or.inr (Or.inl ⟨z5, ?_⟩)
        unfold lcq
        rw [if_neg z]
      · exact Or.inr (Or.inr ⟨z, z5⟩)
  · obtain ⟨F5, ⟨w, hp', ht', q1, q2⟩, q3⟩ := q
    have FA : FX (W78 t) S V := (G2.sub (fun a i j h => (Bool.or_eq_false_iff.1 h).1)).tr (F5.sub (fun a i j h => (Bool.or_eq_false_iff.1 h).2))
    rw [a1] at q2 q3
    refine pq_bd (y_keep (m := m) (t := t) (by rw [F5.1 1 0 12 rfl, G2.1 1 0 12 rfl]; exact hm) hm2) (fun _ W q => ?_)
    refine pq_iv fun x24 e24 => pq_some ⟨V, ⟨FA, ⟨w, hp', ht', q1, q2⟩, ?_, ?_, ?_, ?_, ?_, fun j h4 h10 => ?_, ?_, ?_⟩, q, ?_⟩
    · obtain ⟨c7, c8, c9, c10⟩ := q3
      refine ⟨by rw [c7, G2.1 1 0 7 rfl], by rw [c8, G2.1 1 0 8 rfl]; rfl, by rw [c9, G2.1 1 0 9 rfl, G2.1 1 0 3 rfl], ?_⟩
      rw [c10, G2.1 1 0 10 rfl, vs]
      rfl
    · rw [F5.1 25 t 0 rfl]
      exact a0
    · rw [F5.1 25 t 1 rfl]
      exact a1
    · rw [F5.1 25 t 2 rfl]
      exact a2
    · rw [F5.1 25 t 3 rfl, kU 3 (by decide) (by decide), E1, ge_pus]
    · rw [F5.1 25 t j rfl, kU j (by omega) h10, k1 j (by omega)]
    · rw [F5.1 25 t 10 rfl]
      exact a10
    · rcases aT with z | z
      · exact Or.inl z
      · refine Or.inr ?_
        unfold TYq at z ⊢
        rw [F5.1 25 t 0 rfl, F5.1 25 t 10 rfl, F5.1 25 t 11 rfl, F5.1 25 t 12 rfl, F5.1 25 t 13 rfl, F5.1 25 t 14 rfl]
        exact z
    · rw [e24, q]
      show ge V 25 t 1 = _
      rw [F5.1 25 t 1 rfl]
      exact a1
end ATC
