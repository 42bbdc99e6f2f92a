/-! the reference's walker, exactly: conditions joined, the recursion -/
section RU10
variable {b : Nat → Int} {law : Bool} {env : Nat → Int32} {R : Nat → Int32 → fS → Option (Int32 × fS)} {r : Nat → Nat → Nat → RS7} {d : Int} {S T U : fS}
theorem lA_s (b : Nat → Int) (r : Nat → Nat → Nat → RS7) (o f q : Nat) (v : Int32) : lA b r o (f + 1) q v = if wc b (sk b q) = 1111 then (match r 3 (rn b 97 122 (sk b q)) o with | .error e => .error e | .ok z => lA b r o f z.1 (if v = 0 then 0 else if z.2 = 0 then 0 else 1)) else .ok (sk b q, v) := rfl
theorem lO_s (b : Nat → Int) (r : Nat → Nat → Nat → RS7) (o f q : Nat) (v : Int32) : lO b r o (f + 1) q v = if wc b (sk b q) = 423 then (match r 4 (rn b 97 122 (sk b q)) o with | .error e => .error e | .ok z => lO b r o f z.1 (if v = 0 then (if z.2 = 0 then 0 else 1) else 1)) else .ok (sk b q, v) := rfl
theorem XT.rf (RS : RI S) (hA : AK S) : XT S S := ⟨TS.rf RS hA, NF.rf, fun _ => ⟨rfl, rfl⟩⟩
theorem g_lands (H : HX b law env R r d) (z : Int32) {S : fS} (h : PRE S 1 4 d) (hz : 0 ≤ z.toInt ∧ z.toInt ≤ 1) : zk (lp (B_X7_ands_5 R) fuel z S) (fun v T => (XT S T ∧ 0 ≤ v.toInt ∧ v.toInt ≤ 1) ∧ (GD S b law env → ∀ f : Nat, 302 - at7 S ≤ f → OUT T v (lA b r (op7 S) f (at7 S) z))) := by
  have l0 : (0 : Int32).toInt = 0 := by decide
  have l1 : (1 : Int32).toInt = 1 := by decide
  refine zk_lp (fun z S => PRE S 1 4 d ∧ 0 ≤ z.toInt ∧ z.toInt ≤ 1) (fun _ S => (302 - (ge S 40 0 4).toInt).toNat) (fun z S (v : Int32) T => (XT S T ∧ 0 ≤ v.toInt ∧ v.toInt ≤ 1) ∧ (GD S b law env → ∀ f : Nat, 302 - at7 S ≤ f → OUT T v (lA b r (op7 S) f (at7 S) z))) ?_ z S ⟨h, hz⟩ (by have := h.1.at; show (302 - (ge S 40 0 4).toInt).toNat < 4294967296; omega)
  clear h hz
  intro k z S hI hk
  obtain ⟨h, hz⟩ := hI
  have RS := h.1
  have ga := RS.at
  have hat := at7_eq RS
  have hle := at7_le RS
  unfold B_X7_ands_5
  refine zk_iv fun x e => ?_
  refine zk_eq (fun c => ?_) (fun c => zk_gd (z01 (by omega)) (zk_some ⟨⟨XT.rf RS h.2.1, hz⟩, fun g => absurd (by rw [e, g.2.2, l0]) c⟩))
  have hf : (ge S 40 0 6).toInt = 0 := by rw [← e]; omega
  refine zk_bd (e_isWord _ _ _ _ _ RS) (fun w S1 q => ?_)
  obtain ⟨p1, hw⟩ := q
  rw [show (wd 1 14 4 0 0).toInt = 1111 from by decide] at hw
  have x1 := p1.xs RS (sk_le _) (sk_in RS _)
  refine zk_eq (fun c1 => zk_gd (z01 (by omega)) (zk_some ⟨⟨x1.xt h.2.1, hz⟩, fun g f hfu => ?_⟩)) (fun c1 => ?_)
  · obtain ⟨f1, rfl⟩ : ∃ f1 : Nat, f = f1 + 1 := ⟨f - 1, by omega⟩
    have nw : ¬ wc b (sk b (at7 S)) = 1111 := by
      rw [← g.1]
      rcases hw with q | q
      · omega
      · exact q.2
    rw [lA_s, if_neg nw]
    exact ⟨by rw [p1.2.1.1 40 0 6 rfl]; exact hf, by rw [p1.2.2, g.1], rfl⟩
  have hq : wc (bt S) (sk (bt S) (at7 S)) = 1111 := by
    rcases hw with q | q
    · exact q.2
    · omega
  have hin := wc_len (b := bt S) (q := sk (bt S) (at7 S)) (n := 0) (by rw [hq]; decide)
  have hskl := sk_le (b := bt S) (at7 S)
  refine zk_bd (e_skipWord p1.1) (fun _ T2 q => ?_)
  have x2 := q.xs p1.1 (rn_le _) (rn_inT p1.1 (by decide) _)
  have e2 := q.2.2
  rw [p1.tx, p1.2.2] at e2
  have t2 := at7_eq q.1
  have p := x1.tr x2
  refine zk_bd (H.2.2.2.1 _ _ (h.ps p.1 (by omega) (by omega) (by omega))) (fun v3 T3 q3 => ?_)
  obtain ⟨⟨t3, hv3⟩, o3⟩ := q3
  have t : XT S T3 := (p.xt h.2.1).tr t3
  have a3 := t3.1.2.2.1
  have g3 := t.1.1.at
  have t4 := at7_eq t.1.1
  have J : ∀ y : Int32, 0 ≤ y.toInt ∧ y.toInt ≤ 1 → y = (if z = 0 then 0 else if v3 = 0 then 0 else 1) → zk (k y T3) (fun v U => (XT S U ∧ 0 ≤ v.toInt ∧ v.toInt ≤ 1) ∧ (GD S b law env → ∀ f : Nat, 302 - at7 S ≤ f → OUT U v (lA b r (op7 S) f (at7 S) z))) := by
    intro y hy ey
    refine zk_imp (hk y T3 ⟨h.ts t.1 (by omega) (by omega) (by omega), hy⟩ (by show (302 - (ge T3 40 0 4).toInt).toNat < (302 - (ge S 40 0 4).toInt).toNat; omega)) (fun v U q4 => ⟨⟨t.tr q4.1.1, q4.1.2⟩, fun g f hfu => ?_⟩)
    obtain ⟨f1, rfl⟩ : ∃ f1 : Nat, f = f1 + 1 := ⟨f - 1, by omega⟩
    rw [lA_s, if_pos (by rw [← g.1]; exact hq)]
    have o := o3 (g.xs p (by rw [q.2.1.1 40 0 6 rfl, p1.2.1.1 40 0 6 rfl]; exact hf))
    rw [e2, p.op, g.1] at o
    cases hr : r 3 (rn b 97 122 (sk b (at7 S))) (op7 S) with
    | error e =>
      rw [hr] at o
      exact o.fz (u := v) q4.1.1.2.2
    | ok zz =>
      rw [hr] at o
      obtain ⟨o1, o2, o4⟩ := o
      have f2 := q4.2 (g.xt t o1) f1 (by omega)
      rw [t.op, o2, ey, o4] at f2
      exact f2
  have K : ∀ y : Int32, 0 ≤ y.toInt ∧ y.toInt ≤ 1 → y = (if z = 0 then 0 else if v3 = 0 then 0 else 1) → zk (B_X7_ands_47 R k y T3) (fun v U => (XT S U ∧ 0 ≤ v.toInt ∧ v.toInt ≤ 1) ∧ (GD S b law env → ∀ f : Nat, 302 - at7 S ≤ f → OUT U v (lA b r (op7 S) f (at7 S) z))) := J
  refine zk_eq (fun c5 => ?_) (fun c5 => zk_eq (fun c6 => ?_) (fun c6 => K 1 (by decide) (by rw [if_neg (fun q => c5 (by rw [q])), if_neg (fun q => c6 (by rw [q]))])))
  · unfold B_X7_ands_46
    exact K 0 (by decide) (by rw [if_pos (of_toInt c5)])
  · unfold B_X7_ands_46
    exact K 0 (by decide) (by rw [if_neg (fun q => c5 (by rw [q])), if_pos (of_toInt c6)])
theorem g_ands (H : HX b law env R r d) {S : fS} (h : PRE S 2 5 (d + 1)) : zk (N_X7_ands R S) (fun v T => (XT S T ∧ 0 ≤ v.toInt ∧ v.toInt ≤ 1) ∧ (GD S b law env → OUT T v (nA b r (at7 S) (op7 S)))) := by
  unfold N_X7_ands
  have h1 : PRE S 1 4 d := h.ps (PS.rf h.1) (by omega) (by omega) (by omega)
  refine zk_bd (H.2.2.2.1 _ _ h1) (fun v T q => ?_)
  refine zk_imp (g_lands H v (h1.ts q.1.1.1 (by omega) (by omega) (by omega)) q.1.2) (fun v3 U q2 => ⟨⟨q.1.1.tr q2.1.1, q2.1.2⟩, fun g => ?_⟩)
  have o := q.2 g
  unfold nA
  cases hr : r 3 (at7 S) (op7 S) with
  | error e =>
    rw [hr] at o
    exact o.fz (u := v3) q2.1.1.2.2
  | ok zz =>
    rw [hr] at o
    obtain ⟨o1, o2, o3⟩ := o
    have f2 := q2.2 (g.xt q.1.1 o1) 302 (by omega)
    rw [o2, q.1.1.op, o3] at f2
    exact f2
theorem g_lors (H : HX b law env R r d) (z : Int32) {S : fS} (h : PRE S 2 5 d) (hz : 0 ≤ z.toInt ∧ z.toInt ≤ 1) : zk (lp (B_X7_ors_5 R) fuel z S) (fun v T => (XT S T ∧ 0 ≤ v.toInt ∧ v.toInt ≤ 1) ∧ (GD S b law env → ∀ f : Nat, 302 - at7 S ≤ f → OUT T v (lO b r (op7 S) f (at7 S) z))) := by
  have l0 : (0 : Int32).toInt = 0 := by decide
  have l1 : (1 : Int32).toInt = 1 := by decide
  refine zk_lp (fun z S => PRE S 2 5 d ∧ 0 ≤ z.toInt ∧ z.toInt ≤ 1) (fun _ S => (302 - (ge S 40 0 4).toInt).toNat) (fun z S (v : Int32) T => (XT S T ∧ 0 ≤ v.toInt ∧ v.toInt ≤ 1) ∧ (GD S b law env → ∀ f : Nat, 302 - at7 S ≤ f → OUT T v (lO b r (op7 S) f (at7 S) z))) ?_ z S ⟨h, hz⟩ (by have := h.1.at; show (302 - (ge S 40 0 4).toInt).toNat < 4294967296; omega)
  clear h hz
  intro k z S hI hk
  obtain ⟨h, hz⟩ := hI
  have RS := h.1
  have ga := RS.at
  have hat := at7_eq RS
  have hle := at7_le RS
  unfold B_X7_ors_5
  refine zk_iv fun x e => ?_
  refine zk_eq (fun c => ?_) (fun c => zk_gd (z01 (by omega)) (zk_some ⟨⟨XT.rf RS h.2.1, hz⟩, fun g => absurd (by rw [e, g.2.2, l0]) c⟩))
  have hf : (ge S 40 0 6).toInt = 0 := by rw [← e]; omega
  refine zk_bd (e_isWord _ _ _ _ _ RS) (fun w S1 q => ?_)
  obtain ⟨p1, hw⟩ := q
  rw [show (wd 15 18 0 0 0).toInt = 423 from by decide] at hw
  have x1 := p1.xs RS (sk_le _) (sk_in RS _)
  refine zk_eq (fun c1 => zk_gd (z01 (by omega)) (zk_some ⟨⟨x1.xt h.2.1, hz⟩, fun g f hfu => ?_⟩)) (fun c1 => ?_)
  · obtain ⟨f1, rfl⟩ : ∃ f1 : Nat, f = f1 + 1 := ⟨f - 1, by omega⟩
    have nw : ¬ wc b (sk b (at7 S)) = 423 := by
      rw [← g.1]
      rcases hw with q | q
      · omega
      · exact q.2
    rw [lO_s, if_neg nw]
    exact ⟨by rw [p1.2.1.1 40 0 6 rfl]; exact hf, by rw [p1.2.2, g.1], rfl⟩
  have hq : wc (bt S) (sk (bt S) (at7 S)) = 423 := by
    rcases hw with q | q
    · exact q.2
    · omega
  have hin := wc_len (b := bt S) (q := sk (bt S) (at7 S)) (n := 0) (by rw [hq]; decide)
  have hskl := sk_le (b := bt S) (at7 S)
  refine zk_bd (e_skipWord p1.1) (fun _ T2 q => ?_)
  have x2 := q.xs p1.1 (rn_le _) (rn_inT p1.1 (by decide) _)
  have e2 := q.2.2
  rw [p1.tx, p1.2.2] at e2
  have t2 := at7_eq q.1
  have p := x1.tr x2
  refine zk_bd (H.2.2.2.2.1 _ _ (h.ps p.1 (by omega) (by omega) (by omega))) (fun v3 T3 q3 => ?_)
  obtain ⟨⟨t3, hv3⟩, o3⟩ := q3
  have t : XT S T3 := (p.xt h.2.1).tr t3
  have a3 := t3.1.2.2.1
  have g3 := t.1.1.at
  have t4 := at7_eq t.1.1
  have J : ∀ y : Int32, 0 ≤ y.toInt ∧ y.toInt ≤ 1 → y = (if z = 0 then (if v3 = 0 then 0 else 1) else 1) → zk (k y T3) (fun v U => (XT S U ∧ 0 ≤ v.toInt ∧ v.toInt ≤ 1) ∧ (GD S b law env → ∀ f : Nat, 302 - at7 S ≤ f → OUT U v (lO b r (op7 S) f (at7 S) z))) := by
    intro y hy ey
    refine zk_imp (hk y T3 ⟨h.ts t.1 (by omega) (by omega) (by omega), hy⟩ (by show (302 - (ge T3 40 0 4).toInt).toNat < (302 - (ge S 40 0 4).toInt).toNat; omega)) (fun v U q4 => ⟨⟨t.tr q4.1.1, q4.1.2⟩, fun g f hfu => ?_⟩)
    obtain ⟨f1, rfl⟩ : ∃ f1 : Nat, f = f1 + 1 := ⟨f - 1, by omega⟩
    rw [lO_s, if_pos (by rw [← g.1]; exact hq)]
    have o := o3 (g.xs p (by rw [q.2.1.1 40 0 6 rfl, p1.2.1.1 40 0 6 rfl]; exact hf))
    rw [e2, p.op, g.1] at o
    cases hr : r 4 (rn b 97 122 (sk b (at7 S))) (op7 S) with
    | error e =>
      rw [hr] at o
      exact o.fz (u := v) q4.1.1.2.2
    | ok zz =>
      rw [hr] at o
      obtain ⟨o1, o2, o4⟩ := o
      have f2 := q4.2 (g.xt t o1) f1 (by omega)
      rw [t.op, o2, ey, o4] at f2
      exact f2
  have K : ∀ y : Int32, 0 ≤ y.toInt ∧ y.toInt ≤ 1 → y = (if z = 0 then (if v3 = 0 then 0 else 1) else 1) → zk (B_X7_ors_48 R k y T3) (fun v U => (XT S U ∧ 0 ≤ v.toInt ∧ v.toInt ≤ 1) ∧ (GD S b law env → ∀ f : Nat, 302 - at7 S ≤ f → OUT U v (lO b r (op7 S) f (at7 S) z))) := J
  refine zk_eq (fun c5 => zk_eq (fun c6 => K 0 (by decide) (by rw [if_pos (of_toInt c5), if_pos (of_toInt c6)])) (fun c6 => ?_)) (fun c5 => ?_)
  · unfold B_X7_ors_43
    exact K 1 (by decide) (by rw [if_pos (of_toInt c5), if_neg (fun q => c6 (by rw [q]))])
  · unfold B_X7_ors_43
    exact K 1 (by decide) (by rw [if_neg (fun q => c5 (by rw [q]))])
theorem g_ors (H : HX b law env R r d) {S : fS} (h : PRE S 3 6 (d + 1)) : zk (N_X7_ors R S) (fun v T => (XT S T ∧ 0 ≤ v.toInt ∧ v.toInt ≤ 1) ∧ (GD S b law env → OUT T v (nO b r (at7 S) (op7 S)))) := by
  unfold N_X7_ors
  have h1 : PRE S 2 5 d := h.ps (PS.rf h.1) (by omega) (by omega) (by omega)
  refine zk_bd (H.2.2.2.2.1 _ _ h1) (fun v T q => ?_)
  refine zk_imp (g_lors H v (h1.ts q.1.1.1 (by omega) (by omega) (by omega)) q.1.2) (fun v3 U q2 => ⟨⟨q.1.1.tr q2.1.1, q2.1.2⟩, fun g => ?_⟩)
  have o := q.2 g
  unfold nO
  cases hr : r 4 (at7 S) (op7 S) with
  | error e =>
    rw [hr] at o
    exact o.fz (u := v3) q2.1.1.2.2
  | ok zz =>
    rw [hr] at o
    obtain ⟨o1, o2, o3⟩ := o
    have f2 := q2.2 (g.xt q.1.1 o1) 302 (by omega)
    rw [o2, q.1.1.op, o3] at f2
    exact f2
end RU10
theorem g_R7 (b : Nat → Int) (law : Bool) (env : Nat → Int32) : ∀ d : Nat, HX b law env (R_X7r d) (Wk b law env d) d
  | 0 => by
    have Z : ∀ (S : fS) (c k : Int), 1 ≤ c → 1 ≤ k → PRE S c k ((0 : Nat) : Int) → False := by
      intro S c k hc hk h
      rcases h.2.2 with q | q
      · omega
      · omega
    exact ⟨fun q S h => (Z S 1 1 (by omega) (by omega) h).elim, fun q S h => (Z S 2 2 (by omega) (by omega) h).elim, fun q S h => (Z S 3 3 (by omega) (by omega) h).elim, fun q S h => (Z S 1 4 (by omega) (by omega) h).elim, fun q S h => (Z S 2 5 (by omega) (by omega) h).elim, fun q S h => (Z S 3 6 (by omega) (by omega) h).elim⟩
  | d + 1 => by
    have H := g_R7 b law env d
    have e : (((d + 1 : Nat) : Nat) : Int) = (d : Int) + 1 := by omega
    rw [e]
    exact ⟨fun q S h => g_unit H h, fun q S h => g_product H h, fun q S h => g_sum H h, fun q S h => g_test H h, fun q S h => g_ands H h, fun q S h => g_ors H h⟩
/-! what a sum, what a condition means -/
def wS (b : Nat → Int) (law : Bool) (env : Nat → Int32) (p : Nat) : RS7 := Wk b law env 64 2 p 0
def wO (b : Nat → Int) (law : Bool) (env : Nat → Int32) (p : Nat) : RS7 := Wk b law env 64 5 p 0
theorem g_F_X7_sum {b : Nat → Int} {law : Bool} {env : Nat → Int32} {S : fS} (RS : RI S) (hA : AK S) (hop : (ge S 40 0 5).toInt = 0) : zk (F_X7_sum S) (fun v T => XS S T ∧ (GD S b law env → OUT T v (wS b law env (at7 S)))) := by
  unfold F_X7_sum
  have o := op7_un RS (p := 0) (by omega)
  refine zk_imp ((g_R7 b law env 64).2.2.1 0 S ⟨RS, hA, Or.inr ⟨by omega, by omega⟩⟩) (fun v T q => ⟨q.1, fun g => ?_⟩)
  have f := q.2 g
  rw [o] at f
  exact f
theorem g_F_X7_ors {b : Nat → Int} {law : Bool} {env : Nat → Int32} {S : fS} (RS : RI S) (hA : AK S) (hop : (ge S 40 0 5).toInt = 0) : zk (F_X7_ors S) (fun v T => (XT S T ∧ 0 ≤ v.toInt ∧ v.toInt ≤ 1) ∧ (GD S b law env → OUT T v (wO b law env (at7 S)))) := by
  unfold F_X7_ors
  have o := op7_un RS (p := 0) (by omega)
  refine zk_imp ((g_R7 b law env 64).2.2.2.2.2 0 S ⟨RS, hA, Or.inr ⟨by omega, by omega⟩⟩) (fun v T q => ⟨q.1, fun g => ?_⟩)
  have f := q.2 g
  rw [o] at f
  exact f
