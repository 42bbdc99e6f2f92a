/-! the invariant: ranges, references, heaps, and what both keep alike -/
def Inv0 (S : fS) : Prop := RI S ∧ GI S ∧ HI S
section INV
variable {S T : fS} {m : Nat}
theorem Inv0.c (h : Inv0 S) (R : RI T) (F : Fr m S T) (G : GI T) (hm : m &&& 35518152704 = 0) : Inv0 T := ⟨R, G, h.2.2.fr F hm⟩
theorem Inv0.c0 (h : Inv0 S) (R : RI T) (F : Fr m S T) (hm : m &&& 35518152704 = 0) (h5 : m.testBit 5 = false) (h31 : m.testBit 31 = false) : Inv0 T := h.c R F (h.2.1.fr F h5 h31) hm
theorem Inv0.md (h : Inv0 S) (R : RI T) (F : Fr m S T) (H : HI T) (h5 : m.testBit 5 = false) (h31 : m.testBit 31 = false) : Inv0 T := ⟨R, h.2.1.fr F h5 h31, H⟩
theorem IV.i0 (h : IV S) : Inv0 S := ⟨h.1, h.2.1, h.2.2.1⟩
theorem Inv0.v (h : Inv0 S) (r : RLv S) : IV S := ⟨h.1, h.2.1, h.2.2, r⟩
end INV
section CMB
variable {c : Nat → Prop} {x : Option ((Nat × Int32) × fS)} {x0 : Option (Int32 × fS)} {y : fS → Option (Int32 × fS)} {I : fS → Prop} {R : Nat → Int32}
theorem comb (h1 : zk x (fun v S1 => I S1 ∧ c v.1)) (h2 : ∀ S1 : fS, I S1 → zk (y S1) (fun _ S2 => I S2)) : ∃ (ec : Nat) (v : Int32) (S1 : fS) (v2 : Int32) (S2 : fS), c ec ∧ x = some ((ec, v), S1) ∧ y S1 = some (v2, S2) ∧ I S2 := by
  obtain ⟨⟨ec, v⟩, S1, e, i1, hc⟩ := h1
  obtain ⟨v2, S2, e2, i2⟩ := h2 S1 i1
  exact ⟨ec, v, S1, v2, S2, hc, e, e2, i2⟩
theorem comb0 (h1 : zk x0 (fun _ S1 => I S1)) (h2 : ∀ S1 : fS, I S1 → zk (y S1) (fun _ S2 => I S2)) : ∃ (v : Int32) (S1 : fS) (v2 : Int32) (S2 : fS), x0 = some (v, S1) ∧ y S1 = some (v2, S2) ∧ I S2 := by
  obtain ⟨v, S1, e, i1⟩ := h1
  obtain ⟨v2, S2, e2, i2⟩ := h2 S1 i1
  exact ⟨v, S1, v2, S2, e, e2, i2⟩
theorem cmb (h1 : ∃ (ec : Nat) (v : Int32) (S1 : fS) (v2 : Int32) (S2 : fS), c ec ∧ x = some ((ec, v), S1) ∧ y S1 = some (v2, S2) ∧ Inv0 S2) (hk : RKv x y) : ∃ (ec : Nat) (v : Int32) (S1 : fS) (v2 : Int32) (S2 : fS), c ec ∧ x = some ((ec, v), S1) ∧ y S1 = some (v2, S2) ∧ IV S2 := by
  obtain ⟨ec, v, S1, v2, S2, hc, e, e2, i2⟩ := h1
  exact ⟨ec, v, S1, v2, S2, hc, e, e2, i2.v (hk _ _ e _ _ e2)⟩
theorem cmb0 (h1 : ∃ (v : Int32) (S1 : fS) (v2 : Int32) (S2 : fS), x0 = some (v, S1) ∧ y S1 = some (v2, S2) ∧ Inv0 S2) (hk : RKv x0 y) : ∃ (v : Int32) (S1 : fS) (v2 : Int32) (S2 : fS), x0 = some (v, S1) ∧ y S1 = some (v2, S2) ∧ IV S2 := by
  obtain ⟨v, S1, v2, S2, e, e2, i2⟩ := h1
  exact ⟨v, S1, v2, S2, e, e2, i2.v (hk _ _ e _ _ e2)⟩
theorem cmbR (h1 : ∃ (ec : Nat) (v : Int32) (S1 : fS) (v2 : Int32) (S2 : fS), c ec ∧ x = some ((ec, v), S1) ∧ y S1 = some (v2, S2) ∧ Inv0 S2) (hk : RK R x y) : ∃ (ec : Nat) (v : Int32) (S1 : fS) (v2 : Int32) (S2 : fS), c ec ∧ x = some ((ec, v), S1) ∧ y S1 = some (v2, S2) ∧ IV S2 ∧ ge S2 40 0 0 = R ec ∧ (ec = 0 → v = v2) := by
  obtain ⟨ec, v, S1, v2, S2, hc, e, e2, i2⟩ := h1
  obtain ⟨k1, k2, k3⟩ := hk _ _ e _ _ e2
  exact ⟨ec, v, S1, v2, S2, hc, e, e2, i2.v k1, k2, k3⟩
theorem cmbR0 (h1 : ∃ (v : Int32) (S1 : fS) (v2 : Int32) (S2 : fS), x0 = some (v, S1) ∧ y S1 = some (v2, S2) ∧ Inv0 S2) (hk : RK0 x0 y) : ∃ (v : Int32) (S1 : fS) (v2 : Int32) (S2 : fS), x0 = some (v, S1) ∧ y S1 = some (v2, S2) ∧ IV S2 ∧ v = v2 := by
  obtain ⟨v, S1, v2, S2, e, e2, i2⟩ := h1
  obtain ⟨k1, k2⟩ := hk _ _ e _ _ e2
  exact ⟨v, S1, v2, S2, e, e2, i2.v k1, k2⟩
end CMB
theorem b01 (a : Int32) : 0 ≤ (if a = 0 then (0 : Int32) else 1).toInt ∧ (if a = 0 then (0 : Int32) else 1).toInt ≤ 1 := by
  by_cases z : a = 0
  · rw [if_pos z]; decide
  · rw [if_neg z]; decide
theorem i01 (a : Int32) : (if a = 0 then (0 : Int32) else 1) = 0 ∨ (if a = 0 then (0 : Int32) else 1) = 1 := by
  by_cases z : a = 0
  · exact Or.inl (if_pos z)
  · exact Or.inr (if_neg z)
theorem st_0 : St_0 IV := fun S h a1 a2 a3 a4 => cmb (comb (zk_imp (s_F_X6_lay a1 a2 a3 a4 S h.i0.1) (fun v T q => ⟨h.i0.c0 q.1 q.2.1 rfl rfl rfl, q.2.2⟩)) (fun T i => zk_imp (h7_lay a1 a2 a3 a4 i.1 i.2.2) (fun v U q => i.md q.1 q.2.1 q.2.2 rfl rfl))) ((RK.lift (f6 := F_X6_lay a1 a2 a3 a4) (fun G S => m_F_X6_lay (G := G) (S := S) a1 a2 a3 a4) (fun T => by unfold F_X7_lay e0; rw [pu_pu]) (fun S h z => rk_lay h z) h).v)
theorem st_1 : St_1 IV := fun S h a1 a2 => cmb (comb (zk_imp (s_F_X6_wire a1 (if a2 = 0 then 0 else 1) S h.i0.1) (fun v T q => ⟨h.i0.c0 q.1 q.2.1 rfl rfl rfl, q.2.2⟩)) (fun T i => zk_imp (s_F_X7_wire a1 (if a2 = 0 then 0 else 1) T i.1 (b01 _)) (fun v U q => i.c0 q.1 q.2.1 rfl rfl rfl))) ((RK.lift (f6 := F_X6_wire a1 (if a2 = 0 then 0 else 1)) (fun G S => m_F_X6_wire (G := G) (S := S) a1 (if a2 = 0 then 0 else 1)) (fun T => by unfold F_X7_wire e0; rw [pu_pu]) (fun S h z => rk_wire h z (i01 _)) h).v)
theorem st_2 : St_2 IV := fun S h a1 => cmb (comb (zk_imp (s_F_X6_key a1 S h.i0.1) (fun v T q => ⟨h.i0.c0 q.1 q.2.1 rfl rfl rfl, q.2.2⟩)) (fun T i => zk_imp (h7_key a1 i.1 i.2.2) (fun v U q => i.md q.1 q.2.1 q.2.2 rfl rfl))) ((RK.lift (f6 := F_X6_key a1) (fun G S => m_F_X6_key (G := G) (S := S) a1) (fun T => by unfold F_X7_key e0; rw [pu_pu]) (fun S h z => rk_key h z) h).v)
theorem st_3 : St_3 IV := fun S h a1 a2 => cmb (comb (zk_imp (s_F_X6_thing a1 a2 S h.i0.1) (fun v T q => ⟨q.1 ▸ h.i0, q.2⟩)) (fun T i => zk_imp (h7_thing a1 a2 i.1 i.2.2) (fun v U q => i.c0 q.1 q.2 rfl rfl rfl))) ((RK.lift (f6 := F_X6_thing a1 a2) (fun G S => m_F_X6_thing (G := G) (S := S) a1 a2) (fun T => by unfold F_X7_thing e0; rw [pu_pu]) (fun S h z => rk_thing h z) h).v)
theorem st_4 : St_4 IV := fun S h a1 a2 => cmb (comb (zk_imp (s_F_X6_top a1 (if a2 = 0 then 0 else 1) S h.i0.1) (fun v T q => ⟨q.1 ▸ h.i0, q.2⟩)) (fun T i => zk_imp (s_F_X7_top a1 (if a2 = 0 then 0 else 1) T i.1) (fun v U q => i.c0 q.1 q.2.1 rfl rfl rfl))) ((RK.lift (f6 := F_X6_top a1 (if a2 = 0 then 0 else 1)) (fun G S => m_F_X6_top (G := G) (S := S) a1 (if a2 = 0 then 0 else 1)) (fun T => by unfold F_X7_top e0; rw [pu_pu]) (fun S h z => rk_top h z) h).v)
theorem st_5 : St_5 IV := fun S h a1 => cmb (comb (zk_imp (s_F_X6_hole a1 S h.i0.1) (fun v T q => ⟨h.i0.c0 q.1 q.2.1 rfl rfl rfl, q.2.2⟩)) (fun T i => zk_imp (s_F_X7_hole a1 T i.1) (fun v U q => i.c0 q.1 q.2.1 rfl rfl rfl))) ((RK.lift (f6 := F_X6_hole a1) (fun G S => m_F_X6_hole (G := G) (S := S) a1) (fun T => by unfold F_X7_hole e0; rw [pu_pu]) (fun S h z => rk_hole h z) h).v)
theorem st_6 : St_6 IV := fun S h a1 a2 => cmbR (comb (zk_imp (s_F_X6_set a1 a2 S h.i0.1) (fun v T q => ⟨h.i0.c0 q.1 q.2.1 rfl rfl rfl, q.2.2⟩)) (fun T i => zk_imp (s_F_X7_set a1 a2 T i.1) (fun v U q => i.c0 q.1 q.2.1 rfl rfl rfl))) (RK.lift (f6 := F_X6_set a1 a2) (fun G S => m_F_X6_set (G := G) (S := S) a1 a2) (fun T => by unfold F_X7_set e0; rw [pu_pu]) (fun S h z => rk_set h z) h)
theorem st_7 : St_7 IV := fun S h a1 => cmb0 (comb0 (zk_imp (s_F_X6_seed a1 S h.i0.1) (fun v T q => h.i0.c0 q.1 q.2.1 rfl rfl rfl)) (fun T i => zk_imp (s_F_X7_seed a1 T i.1) (fun v U q => i.c0 q.1 q.2.1 rfl rfl rfl))) ((RK0.lift (f6 := F_X6_seed a1) (fun G S => m_F_X6_seed (G := G) (S := S) a1) (fun T => by unfold F_X7_seed e0; rw [pu_pu]) (fun S h z => rk_seed h z) h).v)
theorem st_8 : St_8 IV := fun S h a1 a2 a3 a4 a5 => cmb0 (comb0 (zk_imp (s_F_X6_feed a1 a2 a3 a4 a5 S h.i0.1) (fun v T q => h.i0.c0 q.1 q.2.1 rfl rfl rfl)) (fun T i => zk_imp (s_F_X7_feed a1 a2 a3 a4 a5 T i.1) (fun v U q => i.c0 q.1 q.2.1 rfl rfl rfl))) ((RK0.lift (f6 := F_X6_feed a1 a2 a3 a4 a5) (fun G S => m_F_X6_feed (G := G) (S := S) a1 a2 a3 a4 a5) (fun T => by unfold F_X7_feed e0; rw [pu_pu]) (fun S h z => rk_feed h z) h).v)
theorem st_9 : St_9 IV := fun S h a1 a2 => cmb (comb (zk_imp (s_F_X6_program a1 (if a2 = 0 then 0 else 1) S h.i0.1 h.i0.2.1) (fun v T q => ⟨h.i0.c q.1 q.2.1 q.2.2.1 rfl, q.2.2.2⟩)) (fun T i => zk_imp (s_F_X7_program a1 (if a2 = 0 then 0 else 1) T i.1 (b01 _)) (fun v U q => i.c0 q.1 q.2.1 rfl rfl rfl))) ((RKw.lift (f6 := F_X6_program a1 (if a2 = 0 then 0 else 1)) (fun G S => m_F_X6_program (G := G) (S := S) a1 (if a2 = 0 then 0 else 1)) (fun T => by unfold F_X7_program e0; rw [pu_pu]) (fun S h z => rk_program h z (i01 _)) h).v)
theorem st_10 : St_10 IV := fun S h => cmb0 (comb0 (zk_imp (s_F_X6_fault  S h.i0.1) (fun v T q => q.1 ▸ h.i0)) (fun T i => zk_imp (s_F_X7_fault  T i.1) (fun v U q => i.c0 q.1 q.2.1 rfl rfl rfl))) (RKv.lift (f6 := F_X6_fault ) (fun G S => m_F_X6_fault (G := G) (S := S)) (fun T => by unfold F_X7_fault e0; rw [pu_pu]) (fun S h z => rk_fault h z) h)
theorem st_11 : St_11 IV := fun S h a1 => cmb (comb (zk_imp (s_F_X6_force a1 S h.i0.1) (fun v T q => ⟨h.i0.c0 q.1 q.2.1 rfl rfl rfl, q.2.2⟩)) (fun T i => zk_imp (s_F_X7_force a1 T i.1) (fun v U q => i.c0 q.1 q.2.1 rfl rfl rfl))) ((RK.lift (f6 := F_X6_force a1) (fun G S => m_F_X6_force (G := G) (S := S) a1) (fun T => by unfold F_X7_force e0; rw [pu_pu]) (fun S h z => rk_force h z) h).v)
theorem st_12 : St_12 IV := fun S h a1 a2 => cmb (comb (zk_imp (s_F_X6_tells a1 a2 S h.i0.1 h.i0.2.1) (fun v T q => ⟨h.i0.c0 q.1 q.2.1 rfl rfl rfl, q.2.2⟩)) (fun T i => zk_imp (s_F_X7_tells a1 a2 T i.1) (fun v U q => i.c0 q.1 q.2.1 rfl rfl rfl))) ((RK.lift (f6 := F_X6_tells a1 a2) (fun G S => m_F_X6_tells (G := G) (S := S) a1 a2) (fun T => by unfold F_X7_tells e0; rw [pu_pu]) (fun S h z => rk_tells h z) h).v)
theorem st_13 : St_13 IV := fun S h a1 => cmb (comb (zk_imp (s_F_X6_attempt a1 S h.i0.1 h.i0.2.1) (fun v T q => ⟨h.i0.c q.1 q.2.1 q.2.2.1 rfl, q.2.2.2⟩)) (fun T i => zk_imp (s_F_X7_attempt a1 T i.1 i.2.2) (fun v U q => i.md q.1 q.2.1 q.2.2.1 rfl rfl))) ((RK.lift (f6 := F_X6_attempt a1) (fun G S => m_F_X6_attempt (G := G) (S := S) a1) (fun T => by unfold F_X7_attempt e0; rw [pu_pu]) (fun S h z => rk_attempt h z) h).v)
theorem st_14 : St_14 IV := fun S h a1 a2 => cmb (comb (zk_imp (s_F_X6_record a1 a2 S h.i0.1 h.i0.2.1) (fun v T q => ⟨q.1 ▸ h.i0, q.2⟩)) (fun T i => zk_imp (s_F_X7_record a1 a2 T i.1) (fun v U q => i.c0 q.1 q.2.1 rfl rfl rfl))) ((RK.lift (f6 := F_X6_record a1 a2) (fun G S => m_F_X6_record (G := G) (S := S) a1 a2) (fun T => by unfold F_X7_record e0; rw [pu_pu]) (fun S h z => rk_record h z) h).v)
theorem st_15 : St_15 IV := fun S h a1 => cmb (comb (zk_imp (s_F_X6_hand a1 S h.i0.1) (fun v T q => ⟨h.i0.c0 q.1 q.2.1 rfl rfl rfl, q.2.2⟩)) (fun T i => zk_imp (h7_hand a1 i.1 i.2.2) (fun v U q => i.md q.1 q.2.1 q.2.2.1 rfl rfl))) ((RK.lift (f6 := F_X6_hand a1) (fun G S => m_F_X6_hand (G := G) (S := S) a1) (fun T => by unfold F_X7_hand e0; rw [pu_pu]) (fun S h z => rk_hand h z) h).v)
theorem st_16 : St_16 IV := fun S h a1 a2 => cmb (comb (zk_imp (s_F_X6_play a1 a2 S h.i0.1 h.i0.2.1) (fun v T q => ⟨h.i0.c q.1 q.2.1 q.2.2.1 rfl, q.2.2.2⟩)) (fun T i => zk_imp (h7_play a1 a2 i.1 i.2.2) (fun v U q => i.md q.1 q.2.1 q.2.2 rfl rfl))) ((RK.lift (f6 := F_X6_play a1 a2) (fun G S => m_F_X6_play (G := G) (S := S) a1 a2) (fun T => by unfold F_X7_play e0; rw [pu_pu]) (fun S h z => rk_play h z) h).v)
theorem st_17 : St_17 IV := fun S h a1 => cmb0 (comb0 (zk_imp (s_F_X6_can (if a1 = 0 then 0 else 1) S h.i0.1 h.i0.2.1 (b01 _)) (fun v T q => h.i0.c0 q.1 q.2.1 rfl rfl rfl)) (fun T i => zk_imp (s_F_X7_can (if a1 = 0 then 0 else 1) T i.1 (b01 _)) (fun v U q => i.c0 q.1 q.2.1 rfl rfl rfl))) ((RK0.lift (f6 := F_X6_can (if a1 = 0 then 0 else 1)) (fun G S => m_F_X6_can (G := G) (S := S) (if a1 = 0 then 0 else 1)) (fun T => by unfold F_X7_can e0; rw [pu_pu]) (fun S h z => rk_can h z (i01 _)) h).v)
theorem st_18 : St_18 IV := fun S h a1 a2 a3 => cmb (comb (zk_imp (s_F_X6_odds a1 a2 a3 S h.i0.1 h.i0.2.1) (fun v T q => ⟨h.i0.c0 q.1 q.2.1 rfl rfl rfl, q.2.2⟩)) (fun T i => zk_imp (s_F_X7_odds a1 a2 a3 T i.1) (fun v U q => i.c0 q.1 q.2.1 rfl rfl rfl))) ((RK.lift (f6 := F_X6_odds a1 a2 a3) (fun G S => m_F_X6_odds (G := G) (S := S) a1 a2 a3) (fun T => by unfold F_X7_odds e0; rw [pu_pu]) (fun S h z => rk_odds h z) h).v)
theorem st_19 : St_19 IV := fun S h a1 => cmb (comb (zk_imp (s_F_X6_weights a1 S h.i0.1) (fun v T q => ⟨q.1 ▸ h.i0, q.2⟩)) (fun T i => zk_imp (h7_weights a1 i.1 i.2.2) (fun v U q => i.c0 q.1 q.2.1 rfl rfl rfl))) ((RK.lift (f6 := F_X6_weights a1) (fun G S => m_F_X6_weights (G := G) (S := S) a1) (fun T => by unfold F_X7_weights e0; rw [pu_pu]) (fun S h z => rk_weights h z) h).v)
theorem st_20 : St_20 IV := fun S h a1 a2 => cmb (comb (zk_imp (s_F_X6_when a1 a2 S h.i0.1 h.i0.2.1) (fun v T q => ⟨h.i0.c0 q.1 q.2.1 rfl rfl rfl, q.2.2⟩)) (fun T i => zk_imp (s_F_X7_when a1 a2 T i.1) (fun v U q => i.c0 q.1 q.2.1 rfl rfl rfl))) ((RK.lift (f6 := F_X6_when a1 a2) (fun G S => m_F_X6_when (G := G) (S := S) a1 a2) (fun T => by unfold F_X7_when e0; rw [pu_pu]) (fun S h z => rk_when h z) h).v)
theorem st_21 : St_21 IV := fun S h => cmb0 (comb0 (zk_imp (s_F_X6_fitting  S h.i0.1 h.i0.2.1) (fun v T q => h.i0.c0 q.1 q.2.1 rfl rfl rfl)) (fun T i => zk_imp (s_F_X7_fitting  T i.1) (fun v U q => i.c0 q.1 q.2.1 rfl rfl rfl))) ((RK0.lift (f6 := F_X6_fitting ) (fun G S => m_F_X6_fitting (G := G) (S := S)) (fun T => by unfold F_X7_fitting e0; rw [pu_pu]) (fun S h z => rk_fitting h z) h).v)
theorem st_22 : St_22 IV := fun S h a1 => cmb (comb (zk_imp (s_F_X6_strange a1 S h.i0.1 h.i0.2.1) (fun v T q => ⟨h.i0.c0 q.1 q.2.1 rfl rfl rfl, q.2.2⟩)) (fun T i => zk_imp (s_F_X7_strange a1 T i.1) (fun v U q => i.c0 q.1 q.2.1 rfl rfl rfl))) ((RK.lift (f6 := F_X6_strange a1) (fun G S => m_F_X6_strange (G := G) (S := S) a1) (fun T => by unfold F_X7_strange e0; rw [pu_pu]) (fun S h z => rk_strange h z) h).v)
theorem st_23 : St_23 IV := fun S h a1 => cmb (comb (zk_imp (s_F_X6_guess a1 S h.i0.1 h.i0.2.1) (fun v T q => ⟨h.i0.c0 q.1 q.2.1 rfl rfl rfl, q.2.2⟩)) (fun T i => zk_imp (s_F_X7_guess a1 T i.1) (fun v U q => i.c0 q.1 q.2.1 rfl rfl rfl))) ((RK.lift (f6 := F_X6_guess a1) (fun G S => m_F_X6_guess (G := G) (S := S) a1) (fun T => by unfold F_X7_guess e0; rw [pu_pu]) (fun S h z => rk_guess h z) h).v)
theorem st_24 : St_24 IV := fun S h => cmb0 (comb0 (zk_imp (s_F_X6_refill  S h.i0.1 h.i0.2.1) (fun v T q => h.i0.c q.1 q.2.1 q.2.2.1 rfl)) (fun T i => zk_imp (h7_refill  i.1 i.2.2) (fun v U q => i.md q.1 q.2.1 q.2.2 rfl rfl))) ((RK0.lift (f6 := F_X6_refill ) (fun G S => m_F_X6_refill (G := G) (S := S)) (fun T => by unfold F_X7_refill e0; rw [pu_pu]) (fun S h z => rk_refill h z) h).v)
theorem st_25 : St_25 IV := fun S h a1 a2 a3 => cmb (comb (zk_imp (s_F_X6_worth a1 a2 a3 S h.i0.1 h.i0.2.1) (fun v T q => ⟨h.i0.c q.1 q.2.1 q.2.2.1 rfl, q.2.2.2⟩)) (fun T i => zk_imp (s_F_X7_worth a1 a2 a3 T i.1 i.2.2) (fun v U q => i.md q.1 q.2.1 q.2.2.1 rfl rfl))) ((RK.lift (f6 := F_X6_worth a1 a2 a3) (fun G S => m_F_X6_worth (G := G) (S := S) a1 a2 a3) (fun T => by unfold F_X7_worth e0; rw [pu_pu]) (fun S h z => rk_worth h z) h).v)
theorem st_26 : St_26 IV := fun S h a1 a2 => cmb (comb (zk_imp (s_F_X6_bide a1 a2 S h.i0.1 h.i0.2.1) (fun v T q => ⟨h.i0.c q.1 q.2.1 q.2.2.1 rfl, q.2.2.2⟩)) (fun T i => zk_imp (s_F_X7_bide a1 a2 T i.1 i.2.2) (fun v U q => i.md q.1 q.2.1 q.2.2.1 rfl rfl))) ((RK.lift (f6 := F_X6_bide a1 a2) (fun G S => m_F_X6_bide (G := G) (S := S) a1 a2) (fun T => by unfold F_X7_bide e0; rw [pu_pu]) (fun S h z => rk_bide h z) h).v)
theorem st_27 : St_27 IV := fun S h a1 a2 a3 => cmb (comb (zk_imp (s_F_X6_settle a1 a2 a3 S h.i0.1) (fun v T q => ⟨q.1 ▸ h.i0, q.2⟩)) (fun T i => zk_imp (s_F_X7_settle a1 a2 a3 T i.1) (fun v U q => i.c0 q.1 q.2.1 rfl rfl rfl))) ((RK.lift (f6 := F_X6_settle a1 a2 a3) (fun G S => m_F_X6_settle (G := G) (S := S) a1 a2 a3) (fun T => by unfold F_X7_settle e0; rw [pu_pu]) (fun S h z => rk_settle h z) h).v)
theorem st_28 : St_28 IV := fun S h a1 a2 => cmb (comb (zk_imp (s_F_X6_back a1 a2 S h.i0.1) (fun v T q => ⟨q.1 ▸ h.i0, q.2⟩)) (fun T i => zk_imp (s_F_X7_back a1 a2 T i.1) (fun v U q => i.c0 q.1 q.2.1 rfl rfl rfl))) (RKv.lift (f6 := F_X6_back a1 a2) (fun G S => m_F_X6_back (G := G) (S := S) a1 a2) (fun T => by unfold F_X7_back e0; rw [pu_pu]) (fun S h z => rk_back h z) h)
theorem st_29 : St_29 IV := fun S h a1 => cmb (comb (zk_imp (s_F_X6_broken a1 S h.i0.1 h.i0.2.1) (fun v T q => ⟨h.i0.c0 q.1 q.2.1 rfl rfl rfl, q.2.2⟩)) (fun T i => zk_imp (s_F_X7_broken a1 T i.1) (fun v U q => i.c0 q.1 q.2.1 rfl rfl rfl))) ((RK.lift (f6 := F_X6_broken a1) (fun G S => m_F_X6_broken (G := G) (S := S) a1) (fun T => by unfold F_X7_broken e0; rw [pu_pu]) (fun S h z => rk_broken h z) h).v)
theorem st_30 : St_30 IV := fun S h a1 a2 a3 a4 a5 => cmb (comb (zk_imp (s_F_X6_cut a1 a2 a3 a4 a5 S h.i0.1) (fun v T q => ⟨q.1 ▸ h.i0, q.2⟩)) (fun T i => zk_imp (s_F_X7_cut a1 a2 a3 a4 a5 T i.1) (fun v U q => i.c0 q.1 q.2.1 rfl rfl rfl))) ((RK.lift (f6 := F_X6_cut a1 a2 a3 a4 a5) (fun G S => m_F_X6_cut (G := G) (S := S) a1 a2 a3 a4 a5) (fun T => by unfold F_X7_cut e0; rw [pu_pu]) (fun S h z => rk_cut h z) h).v)
theorem st_31 : St_31 IV := fun S h a1 a2 a3 a4 => cmb (comb (zk_imp (s_F_X6_player a1 a2 a3 a4 S h.i0.1 h.i0.2.1) (fun v T q => ⟨h.i0.c q.1 q.2.1 q.2.2.1 rfl, q.2.2.2⟩)) (fun T i => zk_imp (h7_player a1 a2 a3 a4 _ i.1 i.2.2) (fun v U q => i.md q.1 q.2.1 q.2.2 rfl rfl))) ((RK.lift (f6 := F_X6_player a1 a2 a3 a4) (fun G S => m_F_X6_player (G := G) (S := S) a1 a2 a3 a4) (fun T => by unfold F_X7_player e0; rw [pu_pu]) (fun S h z => rk_player h z) h).v)
theorem st_32 : St_32 IV := fun S h a1 => cmb (comb (zk_imp (s_F_X6_fair a1 S h.i0.1) (fun v T q => ⟨h.i0.c0 q.1 q.2.1 rfl rfl rfl, q.2.2⟩)) (fun T i => zk_imp (s_F_X7_fair a1 T i.1) (fun v U q => i.c0 q.1 q.2.1 rfl rfl rfl))) ((RK.lift (f6 := F_X6_fair a1) (fun G S => m_F_X6_fair (G := G) (S := S) a1) (fun T => by unfold F_X7_fair e0; rw [pu_pu]) (fun S h z => rk_fair h z) h).v)
theorem st_33 : St_33 IV := fun S h => cmb0 (comb0 (zk_imp (s_F_X6_image  S h.i0.1 h.i0.2.1) (fun v T q => h.i0.c q.1 q.2.1 q.2.2.1 rfl)) (fun T i => zk_imp (h7_image  i.1 i.2.2) (fun v U q => i.md q.1 q.2.1 q.2.2.1 rfl rfl))) ((RK0.lift (f6 := F_X6_image ) (fun G S => m_F_X6_image (G := G) (S := S)) (fun T => by unfold F_X7_image e0; rw [pu_pu]) (fun S h z => rk_image h z) h).v)
theorem st_34 : St_34 IV := fun S h => cmb0 (comb0 (zk_imp (s_F_X6_restore  S h.i0.1 h.i0.2.1) (fun v T q => h.i0.c q.1 q.2.1 q.2.2.1 rfl)) (fun T i => zk_imp (h7_restore  i.1 i.2.2) (fun v U q => i.md q.1 q.2.1 q.2.2.1 rfl rfl))) ((RK0.lift (f6 := F_X6_restore ) (fun G S => m_F_X6_restore (G := G) (S := S)) (fun T => by unfold F_X7_restore e0; rw [pu_pu]) (fun S h z => rk_restore h z) h).v)
theorem st_35 : St_35 IV := fun S h a1 => cmb0 (comb0 (zk_imp (s_F_X6_count a1 S h.i0.1) (fun v T q => q.1 ▸ h.i0)) (fun T i => zk_imp (s_F_X7_count a1 T i.1) (fun v U q => i.c0 q.1 q.2.1 rfl rfl rfl))) ((RK0.lift (f6 := F_X6_count a1) (fun G S => m_F_X6_count (G := G) (S := S) a1) (fun T => by unfold F_X7_count e0; rw [pu_pu]) (fun S h z => rk_count h z) h).v)
theorem ini_rg : ∀ a : Nat, a < 92 → a ≠ 10 → ∀ j : Nat, j < 64 → (rg a j).1 ≤ ((iniL.getD a []).getD j 0).toInt ∧ ((iniL.getD a []).getD j 0).toInt ≤ (rg a j).2 := by decide +kernel
theorem ini_len : ∀ a : Nat, a < 92 → (iniL.getD a []).length ≤ 64 := by decide +kernel
def P0 (p : Int × Int) : Prop := p.1 ≤ 0 ∧ 0 ≤ p.2
theorem P0.mk {x y : Int} (h1 : x ≤ 0) (h2 : 0 ≤ y) : P0 (x, y) := ⟨h1, h2⟩
theorem P0.it {c : Prop} {ins : Decidable c} {x y : Int × Int} (hx : P0 x) (hy : P0 y) : P0 (@ite (Int × Int) c ins x y) := by
  by_cases q : c
  · rw [if_pos q]; exact hx
  · rw [if_neg q]; exact hy
theorem rg_0 (a j : Nat) : P0 (rg a j) := by
  unfold rg rgF
  repeat' (first | exact P0.mk (by decide) (by decide) | refine P0.it ?_ ?_)
theorem inv0_SI : Inv0 SI := by
  have z0 : (0 : Int32).toInt = 0 := by decide
  refine ⟨fun a i j => ?_, ⟨⟨fun i j t q => (by cases q), fun a i j t _ q => (by cases q)⟩, fun i k q => ?_, fun i => Nat.zero_le _⟩, ⟨⟨fun c k hc q => ?_, fun c k k' hc q _ _ => ?_, fun t q _ => ?_⟩, fun k q => ?_, fun k q => ?_⟩⟩
  · show (rg a j).1 ≤ (if a = 10 then (if j < 64 then (-1 : Int32) else 0) else (iniL.getD a []).getD j 0).toInt ∧ (if a = 10 then (if j < 64 then (-1 : Int32) else 0) else (iniL.getD a []).getD j 0).toInt ≤ (rg a j).2
    by_cases h10 : a = 10
    · rw [h10]
      exact ti_bd _
    · rw [if_neg h10]
      by_cases ha : a < 92
      · by_cases hj : j < 64
        · exact ini_rg a ha h10 j hj
        · have e : (iniL.getD a []).getD j 0 = 0 := by
            rw [List.getD_eq_getElem?_getD, List.getElem?_eq_none (by have := ini_len a ha; omega)]
            rfl
          rw [e, z0]
          exact rg_0 a j
      · have e : iniL.getD a [] = [] := by
          rw [List.getD_eq_getElem?_getD, List.getElem?_eq_none (by show 92 ≤ a; omega)]
          rfl
        rw [e]
        show (rg a j).1 ≤ (0 : Int32).toInt ∧ (0 : Int32).toInt ≤ (rg a j).2
        rw [z0]
        exact rg_0 a j
  · have q : (k : Int) < (0 : Int32).toInt := q
    omega
  · have q : (k : Int) < (0 : Int32).toInt := q
    omega
  · have q : (k : Int) < (0 : Int32).toInt := q
    omega
  · have q : (t : Int) < (0 : Int32).toInt := q
    omega
  · have q : (k : Int) < (0 : Int32).toInt := q
    omega
  · have q : (k : Int) < (0 : Int32).toInt := q
    omega
theorem z_lt {k : Nat} {P : Prop} (q : (k : Int) < (0 : Int32).toInt) : P := by
  have z0 : (0 : Int32).toInt = 0 := by decide
  exact absurd q (by omega)
theorem hb_SI : HB (nq SI) (hw SI) (hq SI) (hh SI) := ⟨fun c k _ q => z_lt q, fun c k k' _ q _ _ => z_lt q, fun t q _ => z_lt q⟩
theorem rla_SI : RLa SI := by
  have z0 : (0 : Int32).toInt = 0 := by decide
  have hh0 : ∀ c : Nat, hh SI c = 0 := fun c => z0
  have hv : HVq SI := ⟨hb_SI, fun c _ => by rw [hh0]; exact Int.le_refl _, by show (0 : Int32).toInt ≤ 24; rw [z0]; decide, fun t q => z_lt q⟩
  refine ⟨hv, by unfold HOq; exact ⟨by show 0 ≤ (63 : Int32).toInt; decide, by show (63 : Int32).toInt ≤ 63; decide⟩, ⟨⟨hb_SI, fun c hc => ⟨?_, fun k q => z_lt q⟩, rfl, hv.2.2.1, fun t q => z_lt q, hv.2.1⟩, fun t q => z_lt q, rfl, rfl⟩, ⟨rfl, rfl, rfl, rfl, rfl, rfl⟩, ⟨⟨0, by decide, z0, z0, fun t h => absurd h (Nat.not_lt_zero _)⟩, ⟨0, by decide, z0, z0, fun t h => absurd h (Nat.not_lt_zero _)⟩⟩, ⟨rfl, by show -1 ≤ (-1 : Int32).toInt; decide, by show (-1 : Int32).toInt < (0 : Int32).toInt; decide⟩, rfl, ⟨0, by decide, z0, z0, fun t h => absurd h (Nat.not_lt_zero _)⟩, by decide, ⟨rfl, fun x k hx _ => z_lt hx⟩⟩
  rw [hh0]
  show (if c < 64 then (-1 : Int32) else 0).toInt = _
  rw [if_pos hc, if_pos (Int.le_refl _)]
  rfl
theorem inv_SI : IV SI := inv0_SI.v ⟨rla_SI, ⟨rfl, fun k q => z_lt q⟩, ⟨rfl, fun k q _ => z_lt q⟩⟩
theorem good_Inv : Good IV := ⟨inv_SI, st_0, st_1, st_2, st_3, st_4, st_5, st_6, st_7, st_8, st_9, st_10, st_11, st_12, st_13, st_14, st_15, st_16, st_17, st_18, st_19, st_20, st_21, st_22, st_23, st_24, st_25, st_26, st_27, st_28, st_29, st_30, st_31, st_32, st_33, st_34, st_35⟩
