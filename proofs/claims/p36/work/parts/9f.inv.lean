/-! the invariant: ranges, references, heaps, images, hands; what both keep alike -/
def Inv (S : fS) : Prop := RI S ∧ GI S ∧ HI S ∧ (ge S 0 0 3).toInt = (ge S 40 0 56).toInt
section INV
variable {S T : fS} {m : Nat}
theorem Inv.c (h : Inv S) (R : RI T) (F : Fr m S T) (G : GI T) (hm : m &&& 35518152704 = 0) (b3 : m.testBit 3 = false) (b19 : m.testBit 19 = false) : Inv T := ⟨R, G, h.2.2.1.fr F hm, by rw [F.1 0 0 3 b3, F.1 40 0 56 b19]; exact h.2.2.2⟩
theorem Inv.c0 (h : Inv S) (R : RI T) (F : Fr m S T) (hm : m &&& 35518152704 = 0) (b3 : m.testBit 3 = false) (b19 : m.testBit 19 = false) (h5 : m.testBit 5 = false) (h31 : m.testBit 31 = false) : Inv T := h.c R F (h.2.1.fr F h5 h31) hm b3 b19
theorem Inv.md (h : Inv S) (R : RI T) (F : Fr m S T) (H : HI T) (b3 : m.testBit 3 = false) (b19 : m.testBit 19 = false) (h5 : m.testBit 5 = false) (h31 : m.testBit 31 = false) : Inv T := ⟨R, h.2.1.fr F h5 h31, H, by rw [F.1 0 0 3 b3, F.1 40 0 56 b19]; exact h.2.2.2⟩
end INV
theorem comb {c : Nat → Prop} {x : Option ((Nat × Int32) × fS)} {y : fS → Option (Int32 × fS)} {I : fS → Prop} (h1 : zk x (fun v S1 => I S1 ∧ c v.1)) (h2 : ∀ S1 : fS, I S1 → zk (y S1) (fun _ S2 => I S2)) : ∃ (ec : Nat) (v : Int32) (S1 : fS) (v2 : Int32) (S2 : fS), c ec ∧ x = some ((ec, v), S1) ∧ y S1 = some (v2, S2) ∧ I S2 := by
  obtain ⟨⟨ec, v⟩, S1, e, i1, hc⟩ := h1
  obtain ⟨v2, S2, e2, i2⟩ := h2 S1 i1
  exact ⟨ec, v, S1, v2, S2, hc, e, e2, i2⟩
theorem comb0 {x : Option (Int32 × fS)} {y : fS → Option (Int32 × fS)} {I : fS → Prop} (h1 : zk x (fun _ S1 => I S1)) (h2 : ∀ S1 : fS, I S1 → zk (y S1) (fun _ S2 => I S2)) : ∃ (v : Int32) (S1 : fS) (v2 : Int32) (S2 : fS), x = some (v, S1) ∧ y S1 = some (v2, S2) ∧ I S2 := by
  obtain ⟨v, S1, e, i1⟩ := h1
  obtain ⟨v2, S2, e2, i2⟩ := h2 S1 i1
  exact ⟨v, S1, v2, S2, e, e2, i2⟩
theorem b01 (a : Int32) : 0 ≤ (if a = 0 then (0 : Int32) else 1).toInt ∧ (if a = 0 then (0 : Int32) else 1).toInt ≤ 1 := by
  by_cases z : a = 0
  · rw [if_pos z]; decide
  · rw [if_neg z]; decide
theorem st_0 : St_0 Inv := fun S h a1 a2 a3 a4 => comb (zk_imp (s_F_X6_lay a1 a2 a3 a4 S h.1) (fun v T q => ⟨h.c0 q.1 q.2.1 rfl rfl rfl rfl rfl, q.2.2⟩)) (fun T i => zk_imp (h7_lay a1 a2 a3 a4 i.1 i.2.2.1) (fun v U q => i.md q.1 q.2.1 q.2.2 rfl rfl rfl rfl))
theorem st_1 : St_1 Inv := fun S h a1 a2 => comb (zk_imp (s_F_X6_wire a1 (if a2 = 0 then 0 else 1) S h.1) (fun v T q => ⟨h.c0 q.1 q.2.1 rfl rfl rfl rfl rfl, q.2.2⟩)) (fun T i => zk_imp (s_F_X7_wire a1 (if a2 = 0 then 0 else 1) T i.1 (b01 _)) (fun v U q => i.c0 q.1 q.2.1 rfl rfl rfl rfl rfl))
theorem st_2 : St_2 Inv := fun S h a1 => comb (zk_imp (s_F_X6_key a1 S h.1) (fun v T q => ⟨h.c0 q.1 q.2.1 rfl rfl rfl rfl rfl, q.2.2⟩)) (fun T i => zk_imp (h7_key a1 i.1 i.2.2.1) (fun v U q => i.md q.1 q.2.1 q.2.2 rfl rfl rfl rfl))
theorem st_3 : St_3 Inv := fun S h a1 a2 => comb (zk_imp (s_F_X6_thing a1 a2 S h.1) (fun v T q => ⟨q.1 ▸ h, q.2⟩)) (fun T i => zk_imp (h7_thing a1 a2 i.1 i.2.2.1) (fun v U q => i.c0 q.1 q.2 rfl rfl rfl rfl rfl))
theorem st_4 : St_4 Inv := fun S h a1 a2 => comb (zk_imp (s_F_X6_top a1 (if a2 = 0 then 0 else 1) S h.1) (fun v T q => ⟨q.1 ▸ h, q.2⟩)) (fun T i => zk_imp (s_F_X7_top a1 (if a2 = 0 then 0 else 1) T i.1) (fun v U q => i.c0 q.1 q.2.1 rfl rfl rfl rfl rfl))
theorem st_5 : St_5 Inv := fun S h a1 => comb (zk_imp (s_F_X6_hole a1 S h.1) (fun v T q => ⟨h.c0 q.1 q.2.1 rfl rfl rfl rfl rfl, q.2.2⟩)) (fun T i => zk_imp (s_F_X7_hole a1 T i.1) (fun v U q => i.c0 q.1 q.2.1 rfl rfl rfl rfl rfl))
theorem st_6 : St_6 Inv := fun S h a1 a2 => comb (zk_imp (s_F_X6_set a1 a2 S h.1) (fun v T q => ⟨h.c0 q.1 q.2.1 rfl rfl rfl rfl rfl, q.2.2⟩)) (fun T i => zk_imp (s_F_X7_set a1 a2 T i.1) (fun v U q => i.c0 q.1 q.2.1 rfl rfl rfl rfl rfl))
theorem st_7 : St_7 Inv := fun S h a1 => comb0 (zk_imp (s_F_X6_seed a1 S h.1) (fun v T q => h.c0 q.1 q.2.1 rfl rfl rfl rfl rfl)) (fun T i => zk_imp (s_F_X7_seed a1 T i.1) (fun v U q => i.c0 q.1 q.2.1 rfl rfl rfl rfl rfl))
theorem st_8 : St_8 Inv := fun S h a1 a2 a3 a4 a5 => comb0 (zk_imp (s_F_X6_feed a1 a2 a3 a4 a5 S h.1) (fun v T q => h.c0 q.1 q.2.1 rfl rfl rfl rfl rfl)) (fun T i => zk_imp (s_F_X7_feed a1 a2 a3 a4 a5 T i.1) (fun v U q => i.c0 q.1 q.2.1 rfl rfl rfl rfl rfl))
theorem st_9 : St_9 Inv := fun S h a1 a2 => comb (zk_imp (s_F_X6_program a1 (if a2 = 0 then 0 else 1) S h.1 h.2.1) (fun v T q => ⟨h.c q.1 q.2.1 q.2.2.1 rfl rfl rfl, q.2.2.2⟩)) (fun T i => zk_imp (s_F_X7_program a1 (if a2 = 0 then 0 else 1) T i.1 (b01 _)) (fun v U q => i.c0 q.1 q.2.1 rfl rfl rfl rfl rfl))
theorem st_10 : St_10 Inv := fun S h => comb0 (zk_imp (s_F_X6_fault  S h.1) (fun v T q => q.1 ▸ h)) (fun T i => zk_imp (s_F_X7_fault  T i.1) (fun v U q => i.c0 q.1 q.2.1 rfl rfl rfl rfl rfl))
theorem st_11 : St_11 Inv := fun S h a1 => comb (zk_imp (s_F_X6_force a1 S h.1) (fun v T q => ⟨h.c0 q.1 q.2.1 rfl rfl rfl rfl rfl, q.2.2⟩)) (fun T i => zk_imp (s_F_X7_force a1 T i.1) (fun v U q => i.c0 q.1 q.2.1 rfl rfl rfl rfl rfl))
theorem st_12 : St_12 Inv := fun S h a1 a2 => comb (zk_imp (s_F_X6_tells a1 a2 S h.1 h.2.1) (fun v T q => ⟨h.c0 q.1 q.2.1 rfl rfl rfl rfl rfl, q.2.2⟩)) (fun T i => zk_imp (s_F_X7_tells a1 a2 T i.1) (fun v U q => i.c0 q.1 q.2.1 rfl rfl rfl rfl rfl))
theorem st_13 : St_13 Inv := fun S h a1 => comb (zk_imp (s_F_X6_attempt a1 S h.1 h.2.1) (fun v T q => ⟨h.c q.1 q.2.1 q.2.2.1 rfl rfl rfl, q.2.2.2⟩)) (fun T i => zk_imp (s_F_X7_attempt a1 T i.1 i.2.2.1) (fun v U q => i.md q.1 q.2.1 q.2.2.1 rfl rfl rfl rfl))
theorem st_14 : St_14 Inv := fun S h a1 a2 => comb (zk_imp (s_F_X6_record a1 a2 S h.1 h.2.1) (fun v T q => ⟨q.1 ▸ h, q.2⟩)) (fun T i => zk_imp (s_F_X7_record a1 a2 T i.1) (fun v U q => i.c0 q.1 q.2.1 rfl rfl rfl rfl rfl))
theorem st_15 : St_15 Inv := fun S h a1 => comb (zk_imp (s_F_X6_hand a1 S h.1) (fun v T q => ⟨h.c0 q.1 q.2.1 rfl rfl rfl rfl rfl, q.2.2⟩)) (fun T i => zk_imp (h7_hand a1 i.1 i.2.2.1) (fun v U q => i.md q.1 q.2.1 q.2.2 rfl rfl rfl rfl))
theorem st_16 : St_16 Inv := fun S h a1 a2 => comb (zk_imp (s_F_X6_play a1 a2 S h.1 h.2.1) (fun v T q => ⟨h.c q.1 q.2.1 q.2.2.1 rfl rfl rfl, q.2.2.2⟩)) (fun T i => zk_imp (h7_play a1 a2 i.1 i.2.2.1) (fun v U q => i.md q.1 q.2.1 q.2.2 rfl rfl rfl rfl))
theorem st_17 : St_17 Inv := fun S h a1 => comb0 (zk_imp (s_F_X6_can (if a1 = 0 then 0 else 1) S h.1 h.2.1 (b01 _)) (fun v T q => h.c0 q.1 q.2.1 rfl rfl rfl rfl rfl)) (fun T i => zk_imp (s_F_X7_can (if a1 = 0 then 0 else 1) T i.1 (b01 _)) (fun v U q => i.c0 q.1 q.2.1 rfl rfl rfl rfl rfl))
theorem st_18 : St_18 Inv := fun S h a1 a2 a3 => comb (zk_imp (s_F_X6_odds a1 a2 a3 S h.1 h.2.1) (fun v T q => ⟨h.c0 q.1 q.2.1 rfl rfl rfl rfl rfl, q.2.2⟩)) (fun T i => zk_imp (s_F_X7_odds a1 a2 a3 T i.1) (fun v U q => i.c0 q.1 q.2.1 rfl rfl rfl rfl rfl))
theorem st_19 : St_19 Inv := fun S h a1 => comb (zk_imp (s_F_X6_weights a1 S h.1) (fun v T q => ⟨q.1 ▸ h, q.2⟩)) (fun T i => zk_imp (s_F_X7_weights a1 T i.1) (fun v U q => i.c0 q.1 q.2.1 rfl rfl rfl rfl rfl))
theorem st_20 : St_20 Inv := fun S h a1 a2 => comb (zk_imp (s_F_X6_when a1 a2 S h.1 h.2.1) (fun v T q => ⟨h.c0 q.1 q.2.1 rfl rfl rfl rfl rfl, q.2.2⟩)) (fun T i => zk_imp (s_F_X7_when a1 a2 T i.1) (fun v U q => i.c0 q.1 q.2.1 rfl rfl rfl rfl rfl))
theorem st_21 : St_21 Inv := fun S h => comb0 (zk_imp (s_F_X6_fitting  S h.1 h.2.1) (fun v T q => h.c0 q.1 q.2.1 rfl rfl rfl rfl rfl)) (fun T i => zk_imp (s_F_X7_fitting  T i.1) (fun v U q => i.c0 q.1 q.2.1 rfl rfl rfl rfl rfl))
theorem st_22 : St_22 Inv := fun S h a1 => comb (zk_imp (s_F_X6_strange a1 S h.1 h.2.1) (fun v T q => ⟨h.c0 q.1 q.2.1 rfl rfl rfl rfl rfl, q.2.2⟩)) (fun T i => zk_imp (s_F_X7_strange a1 T i.1) (fun v U q => i.c0 q.1 q.2.1 rfl rfl rfl rfl rfl))
theorem st_23 : St_23 Inv := fun S h a1 => comb (zk_imp (s_F_X6_guess a1 S h.1 h.2.1) (fun v T q => ⟨h.c0 q.1 q.2.1 rfl rfl rfl rfl rfl, q.2.2⟩)) (fun T i => zk_imp (s_F_X7_guess a1 T i.1) (fun v U q => i.c0 q.1 q.2.1 rfl rfl rfl rfl rfl))
theorem st_24 : St_24 Inv := fun S h => comb0 (zk_imp (s_F_X6_refill  S h.1 h.2.1) (fun v T q => h.c q.1 q.2.1 q.2.2.1 rfl rfl rfl)) (fun T i => zk_imp (h7_refill  i.1 i.2.2.1) (fun v U q => i.md q.1 q.2.1 q.2.2 rfl rfl rfl rfl))
theorem st_25 : St_25 Inv := fun S h a1 a2 a3 => comb (zk_imp (s_F_X6_worth a1 a2 a3 S h.1 h.2.1) (fun v T q => ⟨h.c q.1 q.2.1 q.2.2.1 rfl rfl rfl, q.2.2.2⟩)) (fun T i => zk_imp (s_F_X7_worth a1 a2 a3 T i.1 i.2.2.1) (fun v U q => i.md q.1 q.2.1 q.2.2.1 rfl rfl rfl rfl))
theorem st_26 : St_26 Inv := fun S h a1 a2 => comb (zk_imp (s_F_X6_bide a1 a2 S h.1 h.2.1) (fun v T q => ⟨h.c q.1 q.2.1 q.2.2.1 rfl rfl rfl, q.2.2.2⟩)) (fun T i => zk_imp (s_F_X7_bide a1 a2 T i.1 i.2.2.1) (fun v U q => i.md q.1 q.2.1 q.2.2.1 rfl rfl rfl rfl))
theorem st_27 : St_27 Inv := fun S h a1 a2 a3 => comb (zk_imp (s_F_X6_settle a1 a2 a3 S h.1) (fun v T q => ⟨q.1 ▸ h, q.2⟩)) (fun T i => zk_imp (s_F_X7_settle a1 a2 a3 T i.1) (fun v U q => i.c0 q.1 q.2.1 rfl rfl rfl rfl rfl))
theorem st_28 : St_28 Inv := fun S h a1 a2 => comb (zk_imp (s_F_X6_back a1 a2 S h.1) (fun v T q => ⟨q.1 ▸ h, q.2⟩)) (fun T i => zk_imp (s_F_X7_back a1 a2 T i.1) (fun v U q => i.c0 q.1 q.2.1 rfl rfl rfl rfl rfl))
theorem st_29 : St_29 Inv := fun S h a1 => comb (zk_imp (s_F_X6_broken a1 S h.1 h.2.1) (fun v T q => ⟨h.c0 q.1 q.2.1 rfl rfl rfl rfl rfl, q.2.2⟩)) (fun T i => zk_imp (s_F_X7_broken a1 T i.1) (fun v U q => i.c0 q.1 q.2.1 rfl rfl rfl rfl rfl))
theorem st_30 : St_30 Inv := fun S h a1 a2 a3 a4 a5 => comb (zk_imp (s_F_X6_cut a1 a2 a3 a4 a5 S h.1) (fun v T q => ⟨q.1 ▸ h, q.2⟩)) (fun T i => zk_imp (s_F_X7_cut a1 a2 a3 a4 a5 T i.1) (fun v U q => i.c0 q.1 q.2.1 rfl rfl rfl rfl rfl))
theorem st_31 : St_31 Inv := fun S h a1 a2 a3 a4 => comb (zk_imp (s_F_X6_player a1 a2 a3 a4 S h.1 h.2.1) (fun v T q => ⟨h.c q.1 q.2.1 q.2.2.1 rfl rfl rfl, q.2.2.2⟩)) (fun T i => zk_imp (h7_player a1 a2 a3 a4 _ i.1 i.2.2.1) (fun v U q => i.md q.1 q.2.1 q.2.2 rfl rfl rfl rfl))
theorem st_32 : St_32 Inv := fun S h a1 => comb (zk_imp (s_F_X6_fair a1 S h.1) (fun v T q => ⟨h.c0 q.1 q.2.1 rfl rfl rfl rfl rfl, q.2.2⟩)) (fun T i => zk_imp (s_F_X7_fair a1 T i.1) (fun v U q => i.c0 q.1 q.2.1 rfl rfl rfl rfl rfl))
theorem st_35 : St_35 Inv := fun S h a1 => comb0 (zk_imp (s_F_X6_count a1 S h.1) (fun v T q => q.1 ▸ h)) (fun T i => zk_imp (s_F_X7_count a1 T i.1) (fun v U q => i.c0 q.1 q.2.1 rfl rfl rfl rfl rfl))
theorem st_33 : St_33 Inv := by
  intro S h
  obtain ⟨v, S1, e, R1, F1, G1, p1⟩ := s2_F_X6_image S h.1 h.2.1
  have H1 : HI S1 := h.2.2.1.fr F1 rfl
  obtain ⟨v2, S2, e2, R2, F2, H2, p2⟩ := h7_image R1 H1
  have t1 : ge S1 40 0 56 = ge S 40 0 56 := F1.1 40 0 56 rfl
  have t2 : ge S2 0 0 3 = ge S1 0 0 3 := F2.1 0 0 3 rfl
  have ht := h.2.2.2
  rw [t1] at p2
  have hv : v.toInt = v2.toInt ∧ (ge S2 0 0 3).toInt = (ge S2 40 0 56).toInt := by
    rw [t2]
    rcases p2 with ⟨q1, q2, q3⟩ | ⟨q1, q2, q3⟩
    · omega
    · rw [q3]
      omega
  exact ⟨v, S1, v2, S2, e, e2, ⟨R2, G1.fr F2 rfl rfl, H2, hv.2⟩⟩
theorem st_34 : St_34 Inv := by
  intro S h
  obtain ⟨v, S1, e, R1, F1, G1, p1⟩ := s2_F_X6_restore S h.1 h.2.1
  have H1 : HI S1 := h.2.2.1.fr F1 rfl
  obtain ⟨v2, S2, e2, R2, F2, H2, p2⟩ := h7_restore R1 H1
  have t1 : ge S1 40 0 56 = ge S 40 0 56 := F1.1 40 0 56 rfl
  have t2 : ge S2 0 0 3 = ge S1 0 0 3 := F2.1 0 0 3 rfl
  have ht := h.2.2.2
  rw [t1] at p2
  have hv : v.toInt = v2.toInt ∧ (ge S2 0 0 3).toInt = (ge S2 40 0 56).toInt := by
    rw [t2]
    rcases p2 with ⟨q1, q2, q3⟩ | ⟨q1, q2, q3⟩
    · omega
    · rw [q3]
      omega
  exact ⟨v, S1, v2, S2, e, e2, ⟨R2, G1.fr F2 rfl rfl, H2, hv.2⟩, of_toInt hv.1⟩
def rgl (a : Nat) : List (List Int32) := [iniL.getD a []]
theorem ini_rg : ∀ a : Nat, a < 92 → a ≠ 10 → ∀ j : Nat, j < 64 → (rg a j).1 ≤ ((iniL.getD a []).getD j 0).toInt ∧ ((iniL.getD a []).getD j 0).toInt ≤ (rg a j).2 := by decide +kernel
theorem ini_len : ∀ a : Nat, a < 92 → (iniL.getD a []).length ≤ 64 := by decide +kernel
def P0 (p : Int × Int) : Prop := p.1 ≤ 0 ∧ 0 ≤ p.2
theorem P0.mk {x y : Int} (h1 : x ≤ 0) (h2 : 0 ≤ y) : P0 (x, y) := ⟨h1, h2⟩
theorem P0.it {c : Prop} {ins : Decidable c} {x y : Int × Int} (hx : P0 x) (hy : P0 y) : P0 (@ite (Int × Int) c ins x y) := by
  by_cases q : c
  · rw [if_pos q]; exact hx
  · rw [if_neg q]; exact hy
theorem rg_0 (a j : Nat) : P0 (rg a j) := by
  unfold rg rgF
  repeat' (first | exact P0.mk (by decide) (by decide) | refine P0.it ?_ ?_)
theorem inv_SI : Inv SI := by
  have z0 : (0 : Int32).toInt = 0 := by decide
  refine ⟨fun a i j => ?_, ⟨⟨fun i j t q => (by cases q), fun a i j t _ q => (by cases q)⟩, fun i k q => ?_, fun i => Nat.zero_le _⟩, ⟨⟨fun c k hc q => ?_, fun c k k' hc q _ _ => ?_, fun t q _ => ?_⟩, fun k q => ?_, fun k q => ?_⟩, rfl⟩
  · show (rg a j).1 ≤ (if a = 10 then (if j < 64 then (-1 : Int32) else 0) else (iniL.getD a []).getD j 0).toInt ∧ (if a = 10 then (if j < 64 then (-1 : Int32) else 0) else (iniL.getD a []).getD j 0).toInt ≤ (rg a j).2
    by_cases h10 : a = 10
    · rw [h10]
      exact ti_bd _
    · rw [if_neg h10]
      by_cases ha : a < 92
      · by_cases hj : j < 64
        · exact ini_rg a ha h10 j hj
        · have e : (iniL.getD a []).getD j 0 = 0 := by
            rw [List.getD_eq_getElem?_getD, List.getElem?_eq_none (by have := ini_len a ha; omega)]
            rfl
          rw [e, z0]
          exact rg_0 a j
      · have e : iniL.getD a [] = [] := by
          rw [List.getD_eq_getElem?_getD, List.getElem?_eq_none (by show 92 ≤ a; omega)]
          rfl
        rw [e]
        show (rg a j).1 ≤ (0 : Int32).toInt ∧ (0 : Int32).toInt ≤ (rg a j).2
        rw [z0]
        exact rg_0 a j
  · have q : (k : Int) < (0 : Int32).toInt := q
    omega
  · have q : (k : Int) < (0 : Int32).toInt := q
    omega
  · have q : (k : Int) < (0 : Int32).toInt := q
    omega
  · have q : (t : Int) < (0 : Int32).toInt := q
    omega
  · have q : (k : Int) < (0 : Int32).toInt := q
    omega
  · have q : (k : Int) < (0 : Int32).toInt := q
    omega
theorem good_Inv : Good Inv := ⟨inv_SI, st_0, st_1, st_2, st_3, st_4, st_5, st_6, st_7, st_8, st_9, st_10, st_11, st_12, st_13, st_14, st_15, st_16, st_17, st_18, st_19, st_20, st_21, st_22, st_23, st_24, st_25, st_26, st_27, st_28, st_29, st_30, st_31, st_32, st_33, st_34, st_35⟩
