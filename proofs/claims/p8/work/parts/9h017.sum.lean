/-! the reference's walker, exactly: products, sums -/
section RU8
variable {b : Nat → Int} {law : Bool} {env : Nat → Int32} {R : Nat → Int32 → fS → Option (Int32 × fS)} {r : Nat → Nat → Nat → RS7} {d : Int} {S T U : fS}
theorem lP_s (b : Nat → Int) (r : Nat → Nat → Nat → RS7) (o f q : Nat) (v : Int32) : lP b r o (f + 1) q v = if b q = 42 ∨ b q = 47 then (match r 0 (q + 1) o with | .error e => .error e | .ok z => lP b r o f (sk b z.1) (if b q = 42 then v * z.2 else if z.2 = 0 then 0 else v / z.2)) else .ok (q, v) := rfl
theorem lS_s (b : Nat → Int) (r : Nat → Nat → Nat → RS7) (o f q : Nat) (v : Int32) : lS b r o (f + 1) q v = if b q = 43 ∨ b q = 45 then (match r 1 (q + 1) o with | .error e => .error e | .ok z => lS b r o f (sk b z.1) (if b q = 43 then v + z.2 else v - z.2)) else .ok (q, v) := rfl
theorem g_lproduct (H : HX b law env R r d) (z : Int32) {S : fS} (h : PRE S 1 1 d) : zk (lp (B_X7_product_9 R) fuel z S) (fun v T => XS S T ∧ (GD S b law env → ∀ f : Nat, 302 - at7 S ≤ f → OUT T v (lP b r (op7 S) f (at7 S) z))) := by
  have l0 : (0 : Int32).toInt = 0 := by decide
  have l1 : (1 : Int32).toInt = 1 := by decide
  have lc1 : (42 : Int32).toInt = 42 := by decide
  have lc2 : (47 : Int32).toInt = 47 := by decide
  refine zk_lp (fun _ S => PRE S 1 1 d) (fun _ S => (302 - (ge S 40 0 4).toInt).toNat) (fun z S (v : Int32) T => XS S T ∧ (GD S b law env → ∀ f : Nat, 302 - at7 S ≤ f → OUT T v (lP b r (op7 S) f (at7 S) z))) ?_ z S h (by have := h.1.at; show (302 - (ge S 40 0 4).toInt).toNat < 4294967296; omega)
  clear h
  intro k z S h hk
  have RS := h.1
  have ga := RS.at
  have gs := RS.sz
  have hat := at7_eq RS
  have hle := at7_le RS
  unfold B_X7_product_9
  refine zk_iv fun x e => ?_
  refine zk_eq (fun c => ?_) (fun c => zk_some ⟨XS.rf RS, fun g => absurd (by rw [e, g.2.2, l0]) c⟩)
  have hf : (ge S 40 0 6).toInt = 0 := by rw [← e]; omega
  have M : bt S (at7 S) = 42 ∨ bt S (at7 S) = 47 → zk (B_X7_product_42 R k z S) (fun v T => XS S T ∧ (GD S b law env → ∀ f : Nat, 302 - at7 S ≤ f → OUT T v (lP b r (op7 S) f (at7 S) z))) := by
    intro hb
    have hl := bt_lt RS (p := at7 S) (by omega)
    unfold B_X7_product_42
    refine zk_iv fun x e => ?_
    subst e
    refine zk_bd (e_byteAt _ RS (p := at7 S) (by omega) hle) (fun v5 U q => ?_)
    obtain ⟨rfl, hv⟩ := q
    refine zk_iv fun x e => ?_
    subst e
    refine zk_iv fun y e => ?_
    have gy : y.toInt = ((at7 S + 1 : Nat) : Int) := by rw [e, ti_add (by omega) (by omega), l1]; omega
    refine zk_sv fun T E => ?_
    have w : MV S T (at7 S + 1) := by rw [E]; exact MV.up RS gy (by omega)
    have u := w.xs RS (by omega) (Or.inl (by omega))
    refine zk_bd (H.1 _ _ (h.ps u.1 (by omega) (by omega) (by omega))) (fun v2 T2 p2 => ?_)
    have J : ∀ t : Int32, t = (if bt S (at7 S) = 42 then z * v2 else if v2 = 0 then 0 else z / v2) → zk (B_X7_product_89 R k t T2) (fun v U => XS S U ∧ (GD S b law env → ∀ f : Nat, 302 - at7 S ≤ f → OUT U v (lP b r (op7 S) f (at7 S) z))) := by
      intro t ht
      unfold B_X7_product_89
      refine zk_bd (x_blanks p2.1.1.1) (fun v3 T3 p3 => ?_)
      obtain ⟨p3, pa, pf⟩ := p3
      have p := (u.tr p2.1).tr p3
      have a2 := p2.1.1.2.2.1
      have a3 := p3.1.2.2.1
      have t0 := at7_eq w.1
      have t3 := at7_eq p3.1.1
      have w2 := w.2.2
      refine zk_imp (hk t T3 (h.ps p.1 (by omega) (by omega) (by omega)) (by show (302 - (ge T3 40 0 4).toInt).toNat < (302 - (ge S 40 0 4).toInt).toNat; omega)) (fun v U q => ⟨p.tr q.1, fun g f hfu => ?_⟩)
      obtain ⟨f1, rfl⟩ : ∃ f1 : Nat, f = f1 + 1 := ⟨f - 1, by omega⟩
      rw [lP_s, if_pos (by rw [← g.1]; exact hb)]
      have o := p2.2 (g.xs u (by rw [w.2.1.1 40 0 6 rfl]; exact hf))
      rw [w2, u.op] at o
      cases hr : r 0 (at7 S + 1) (op7 S) with
      | error e =>
        rw [hr] at o
        exact o.fz (u := v) (p3.2.2.tr q.1.2.2)
      | ok zz =>
        rw [hr] at o
        obtain ⟨o1, o2, o3⟩ := o
        have g2 := (g.xs (u.tr p2.1) o1)
        have f2 := q.2 (g2.xs p3 (by rw [pf]; exact o1)) f1 (by omega)
        rw [pa, g2.1, o2, p.op, ht, o3, g.1] at f2
        exact f2
    refine zk_eq (fun c4 => zk_iv fun y ey => J y (by rw [ey, if_pos (by omega)])) (fun c4 => ?_)
    refine zk_eq (fun c5 => J 0 (by rw [if_neg (by omega), if_pos (of_toInt c5)])) (fun hn => ?_)
    have hn0 : ¬ v2 = 0 := fun q => hn (by rw [q])
    exact zk_gd (zn0 (by omega)) (zk_iv fun y ey => J y (by rw [ey, if_neg (by omega), if_neg hn0]))
  refine zk_iv fun x e => ?_
  subst e
  refine zk_bd (e_byteAt _ RS (p := at7 S) (by omega) hle) (fun v _ q => ?_)
  obtain ⟨rfl, hv⟩ := q
  refine zk_eq (fun c => M (by omega)) (fun c1 => ?_)
  refine zk_iv fun x e => ?_
  subst e
  refine zk_bd (e_byteAt _ RS (p := at7 S) (by omega) hle) (fun v2 _ q => ?_)
  obtain ⟨rfl, hv2⟩ := q
  refine zk_eq (fun c => M (by omega)) (fun c2 => zk_some ⟨XS.rf RS, fun g f hfu => ?_⟩)
  obtain ⟨f1, rfl⟩ : ∃ f1 : Nat, f = f1 + 1 := ⟨f - 1, by omega⟩
  rw [lP_s, if_neg (by rw [← g.1]; omega)]
  exact ⟨hf, rfl, rfl⟩
theorem g_product (H : HX b law env R r d) {S : fS} (h : PRE S 2 2 (d + 1)) : zk (N_X7_product R S) (fun v T => XS S T ∧ (GD S b law env → OUT T v (nP b r (at7 S) (op7 S)))) := by
  unfold N_X7_product
  have h1 : PRE S 1 1 d := h.ps (PS.rf h.1) (by omega) (by omega) (by omega)
  refine zk_bd (H.1 _ _ h1) (fun v T p => ?_)
  refine zk_bd (x_blanks p.1.1.1) (fun v2 T2 p2 => ?_)
  obtain ⟨p2, pa, pf⟩ := p2
  have p3 := p.1.tr p2
  refine zk_imp (g_lproduct H v (h1.ps p3.1 (by omega) (by omega) (by omega))) (fun v3 U q => ⟨p3.tr q.1, fun g => ?_⟩)
  have o := p.2 g
  unfold nP
  cases hr : r 0 (at7 S) (op7 S) with
  | error e =>
    rw [hr] at o
    exact o.fz (u := v3) (p2.2.2.tr q.1.2.2)
  | ok zz =>
    rw [hr] at o
    obtain ⟨o1, o2, o3⟩ := o
    have g2 := g.xs p.1 o1
    have f2 := q.2 (g2.xs p2 (by rw [pf]; exact o1)) 302 (by omega)
    rw [pa, g2.1, o2, p3.op, o3] at f2
    exact f2
theorem g_lsum (H : HX b law env R r d) (z : Int32) {S : fS} (h : PRE S 2 2 d) : zk (lp (B_X7_sum_9 R) fuel z S) (fun v T => XS S T ∧ (GD S b law env → ∀ f : Nat, 302 - at7 S ≤ f → OUT T v (lS b r (op7 S) f (at7 S) z))) := by
  have l0 : (0 : Int32).toInt = 0 := by decide
  have l1 : (1 : Int32).toInt = 1 := by decide
  have lc1 : (43 : Int32).toInt = 43 := by decide
  have lc2 : (45 : Int32).toInt = 45 := by decide
  refine zk_lp (fun _ S => PRE S 2 2 d) (fun _ S => (302 - (ge S 40 0 4).toInt).toNat) (fun z S (v : Int32) T => XS S T ∧ (GD S b law env → ∀ f : Nat, 302 - at7 S ≤ f → OUT T v (lS b r (op7 S) f (at7 S) z))) ?_ z S h (by have := h.1.at; show (302 - (ge S 40 0 4).toInt).toNat < 4294967296; omega)
  clear h
  intro k z S h hk
  have RS := h.1
  have ga := RS.at
  have gs := RS.sz
  have hat := at7_eq RS
  have hle := at7_le RS
  unfold B_X7_sum_9
  refine zk_iv fun x e => ?_
  refine zk_eq (fun c => ?_) (fun c => zk_some ⟨XS.rf RS, fun g => absurd (by rw [e, g.2.2, l0]) c⟩)
  have hf : (ge S 40 0 6).toInt = 0 := by rw [← e]; omega
  have M : bt S (at7 S) = 43 ∨ bt S (at7 S) = 45 → zk (B_X7_sum_42 R k z S) (fun v T => XS S T ∧ (GD S b law env → ∀ f : Nat, 302 - at7 S ≤ f → OUT T v (lS b r (op7 S) f (at7 S) z))) := by
    intro hb
    have hl := bt_lt RS (p := at7 S) (by omega)
    unfold B_X7_sum_42
    refine zk_iv fun x e => ?_
    subst e
    refine zk_bd (e_byteAt _ RS (p := at7 S) (by omega) hle) (fun v5 U q => ?_)
    obtain ⟨rfl, hv⟩ := q
    refine zk_iv fun x e => ?_
    subst e
    refine zk_iv fun y e => ?_
    have gy : y.toInt = ((at7 S + 1 : Nat) : Int) := by rw [e, ti_add (by omega) (by omega), l1]; omega
    refine zk_sv fun T E => ?_
    have w : MV S T (at7 S + 1) := by rw [E]; exact MV.up RS gy (by omega)
    have u := w.xs RS (by omega) (Or.inl (by omega))
    refine zk_bd (H.2.1 _ _ (h.ps u.1 (by omega) (by omega) (by omega))) (fun v2 T2 p2 => ?_)
    have J : ∀ t : Int32, t = (if bt S (at7 S) = 43 then z + v2 else z - v2) → zk (B_X7_sum_81 R k t T2) (fun v U => XS S U ∧ (GD S b law env → ∀ f : Nat, 302 - at7 S ≤ f → OUT U v (lS b r (op7 S) f (at7 S) z))) := by
      intro t ht
      unfold B_X7_sum_81
      refine zk_bd (x_blanks p2.1.1.1) (fun v3 T3 p3 => ?_)
      obtain ⟨p3, pa, pf⟩ := p3
      have p := (u.tr p2.1).tr p3
      have a2 := p2.1.1.2.2.1
      have a3 := p3.1.2.2.1
      have t0 := at7_eq w.1
      have t3 := at7_eq p3.1.1
      have w2 := w.2.2
      refine zk_imp (hk t T3 (h.ps p.1 (by omega) (by omega) (by omega)) (by show (302 - (ge T3 40 0 4).toInt).toNat < (302 - (ge S 40 0 4).toInt).toNat; omega)) (fun v U q => ⟨p.tr q.1, fun g f hfu => ?_⟩)
      obtain ⟨f1, rfl⟩ : ∃ f1 : Nat, f = f1 + 1 := ⟨f - 1, by omega⟩
      rw [lS_s, if_pos (by rw [← g.1]; exact hb)]
      have o := p2.2 (g.xs u (by rw [w.2.1.1 40 0 6 rfl]; exact hf))
      rw [w2, u.op] at o
      cases hr : r 1 (at7 S + 1) (op7 S) with
      | error e =>
        rw [hr] at o
        exact o.fz (u := v) (p3.2.2.tr q.1.2.2)
      | ok zz =>
        rw [hr] at o
        obtain ⟨o1, o2, o3⟩ := o
        have g2 := (g.xs (u.tr p2.1) o1)
        have f2 := q.2 (g2.xs p3 (by rw [pf]; exact o1)) f1 (by omega)
        rw [pa, g2.1, o2, p.op, ht, o3, g.1] at f2
        exact f2
    exact zk_eq (fun c4 => zk_iv fun y ey => J y (by rw [ey, if_pos (by omega)])) (fun c4 => zk_iv fun y ey => J y (by rw [ey, if_neg (by omega)]))
  refine zk_iv fun x e => ?_
  subst e
  refine zk_bd (e_byteAt _ RS (p := at7 S) (by omega) hle) (fun v _ q => ?_)
  obtain ⟨rfl, hv⟩ := q
  refine zk_eq (fun c => M (by omega)) (fun c1 => ?_)
  refine zk_iv fun x e => ?_
  subst e
  refine zk_bd (e_byteAt _ RS (p := at7 S) (by omega) hle) (fun v2 _ q => ?_)
  obtain ⟨rfl, hv2⟩ := q
  refine zk_eq (fun c => M (by omega)) (fun c2 => zk_some ⟨XS.rf RS, fun g f hfu => ?_⟩)
  obtain ⟨f1, rfl⟩ : ∃ f1 : Nat, f = f1 + 1 := ⟨f - 1, by omega⟩
  rw [lS_s, if_neg (by rw [← g.1]; omega)]
  exact ⟨hf, rfl, rfl⟩
theorem g_sum (H : HX b law env R r d) {S : fS} (h : PRE S 3 3 (d + 1)) : zk (N_X7_sum R S) (fun v T => XS S T ∧ (GD S b law env → OUT T v (nS b r (at7 S) (op7 S)))) := by
  unfold N_X7_sum
  have h1 : PRE S 2 2 d := h.ps (PS.rf h.1) (by omega) (by omega) (by omega)
  refine zk_bd (H.2.1 _ _ h1) (fun v T p => ?_)
  refine zk_bd (x_blanks p.1.1.1) (fun v2 T2 p2 => ?_)
  obtain ⟨p2, pa, pf⟩ := p2
  have p3 := p.1.tr p2
  refine zk_imp (g_lsum H v (h1.ps p3.1 (by omega) (by omega) (by omega))) (fun v3 U q => ⟨p3.tr q.1, fun g => ?_⟩)
  have o := p.2 g
  unfold nS
  cases hr : r 1 (at7 S) (op7 S) with
  | error e =>
    rw [hr] at o
    exact o.fz (u := v3) (p2.2.2.tr q.1.2.2)
  | ok zz =>
    rw [hr] at o
    obtain ⟨o1, o2, o3⟩ := o
    have g2 := g.xs p.1 o1
    have f2 := q.2 (g2.xs p2 (by rw [pf]; exact o1)) 302 (by omega)
    rw [pa, g2.1, o2, p3.op, o3] at f2
    exact f2
end RU8
