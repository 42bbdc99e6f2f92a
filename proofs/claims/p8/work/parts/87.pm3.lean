/-! the pure part: the reference, products to conditions, the recursion -/
section NX7
variable {R : Nat → Int32 → fS → Option (Int32 × fS)} {d : Int}
theorem n7_lproduct (H : HR R d) (z : Int32) {S : fS} (h : PRE S 1 1 d) : zk (lp (B_X7_product_9 R) fuel z S) (fun _ T => PS S T) := by
  have l0 : (0 : Int32).toInt = 0 := by decide
  have l1 : (1 : Int32).toInt = 1 := by decide
  have lc1 : (42 : Int32).toInt = 42 := by decide
  have lc2 : (47 : Int32).toInt = 47 := by decide
  refine zk_lp (fun _ S => PRE S 1 1 d) (fun _ S => (302 - (ge S 40 0 4).toInt).toNat) (fun _ S (_ : Int32) T => PS S T) ?_ z S h (by have := h.1.at; show (302 - (ge S 40 0 4).toInt).toNat < 4294967296; omega)
  clear h
  intro k z S h hk
  have RS := h.1
  have ga := RS.at
  have gs := RS.sz
  unfold B_X7_product_9
  refine zk_iv fun x e => ?_
  refine zk_eq (fun c => ?_) (fun c => zk_some (PS.rf RS))
  have hf : (ge S 40 0 6).toInt = 0 := by rw [← e]; omega
  have M : 0 ≤ byv S (ge S 40 0 4) → zk (B_X7_product_42 R k z S) (fun _ T => PS S T) := by
    intro hb
    have hl := byv_lt RS hb
    unfold B_X7_product_42
    refine zk_iv fun x e => ?_
    subst e
    refine zk_bd (s_F_X7_byteAt _ S RS (by omega)) (fun v _ q => ?_)
    obtain ⟨rfl, hv⟩ := q
    refine zk_iv fun x e => ?_
    subst e
    refine zk_iv fun y e => ?_
    have gy : y.toInt = (ge S 40 0 4).toInt + 1 := by rw [e, ti_add (by omega) (by omega), l1]
    refine zk_sv fun T E => ?_
    have u : BS S T := by rw [E]; exact BS.up RS gy (by omega) (by omega)
    have e4 : ge T 40 0 4 = y := by rw [E]; exact ge_pus
    refine zk_bd (H.1 _ _ (h.ps u.ps (by omega) (by omega) (by omega))) (fun v2 T2 p2 => ?_)
    have J : ∀ t : Int32, zk (B_X7_product_89 R k t T2) (fun _ U => PS S U) := by
      intro t
      unfold B_X7_product_89
      refine zk_bd (s_F_X7_blanks _ p2.1) (fun v3 T3 p3 => ?_)
      have p := (u.ps.tr p2).tr p3.ps
      have a2 := p2.2.2.1
      have a3 := p3.2.2.1
      rw [e4] at a2
      refine zk_imp (hk t T3 (h.ps p (by omega) (by omega) (by omega)) (by show (302 - (ge T3 40 0 4).toInt).toNat < (302 - (ge S 40 0 4).toInt).toNat; omega)) (fun v U q => p.tr q)
    refine zk_eq (fun _ => zk_iv fun y _ => J y) (fun _ => ?_)
    refine zk_eq (fun _ => J 0) (fun hn => ?_)
    exact zk_gd (zn0 (by omega)) (zk_iv fun y _ => J y)
  refine zk_iv fun x e => ?_
  subst e
  refine zk_bd (s_F_X7_byteAt _ S RS (by omega)) (fun v _ q => ?_)
  obtain ⟨rfl, hv⟩ := q
  refine zk_eq (fun c => M (by omega)) (fun _ => ?_)
  refine zk_iv fun x e => ?_
  subst e
  refine zk_bd (s_F_X7_byteAt _ S RS (by omega)) (fun v2 _ q => ?_)
  obtain ⟨rfl, hv2⟩ := q
  exact zk_eq (fun c => M (by omega)) (fun _ => zk_some (PS.rf RS))
theorem n7_product (H : HR R d) {S : fS} (h : PRE S 2 2 (d + 1)) : zk (N_X7_product R S) (fun _ T => PS S T) := by
  unfold N_X7_product
  have h1 : PRE S 1 1 d := h.ps (PS.rf h.1) (by omega) (by omega) (by omega)
  refine zk_bd (H.1 _ _ h1) (fun v T p => ?_)
  refine zk_bd (s_F_X7_blanks _ p.1) (fun v2 T2 p2 => ?_)
  have p3 := p.tr p2.ps
  exact zk_imp (n7_lproduct H v (h1.ps p3 (by omega) (by omega) (by omega))) (fun v U q => p3.tr q)
theorem n7_lsum (H : HR R d) (z : Int32) {S : fS} (h : PRE S 2 2 d) : zk (lp (B_X7_sum_9 R) fuel z S) (fun _ T => PS S T) := by
  have l0 : (0 : Int32).toInt = 0 := by decide
  have l1 : (1 : Int32).toInt = 1 := by decide
  have lc1 : (43 : Int32).toInt = 43 := by decide
  have lc2 : (45 : Int32).toInt = 45 := by decide
  refine zk_lp (fun _ S => PRE S 2 2 d) (fun _ S => (302 - (ge S 40 0 4).toInt).toNat) (fun _ S (_ : Int32) T => PS S T) ?_ z S h (by have := h.1.at; show (302 - (ge S 40 0 4).toInt).toNat < 4294967296; omega)
  clear h
  intro k z S h hk
  have RS := h.1
  have ga := RS.at
  have gs := RS.sz
  unfold B_X7_sum_9
  refine zk_iv fun x e => ?_
  refine zk_eq (fun c => ?_) (fun c => zk_some (PS.rf RS))
  have hf : (ge S 40 0 6).toInt = 0 := by rw [← e]; omega
  have M : 0 ≤ byv S (ge S 40 0 4) → zk (B_X7_sum_42 R k z S) (fun _ T => PS S T) := by
    intro hb
    have hl := byv_lt RS hb
    unfold B_X7_sum_42
    refine zk_iv fun x e => ?_
    subst e
    refine zk_bd (s_F_X7_byteAt _ S RS (by omega)) (fun v _ q => ?_)
    obtain ⟨rfl, hv⟩ := q
    refine zk_iv fun x e => ?_
    subst e
    refine zk_iv fun y e => ?_
    have gy : y.toInt = (ge S 40 0 4).toInt + 1 := by rw [e, ti_add (by omega) (by omega), l1]
    refine zk_sv fun T E => ?_
    have u : BS S T := by rw [E]; exact BS.up RS gy (by omega) (by omega)
    have e4 : ge T 40 0 4 = y := by rw [E]; exact ge_pus
    refine zk_bd (H.2.1 _ _ (h.ps u.ps (by omega) (by omega) (by omega))) (fun v2 T2 p2 => ?_)
    have J : ∀ t : Int32, zk (B_X7_sum_81 R k t T2) (fun _ U => PS S U) := by
      intro t
      unfold B_X7_sum_81
      refine zk_bd (s_F_X7_blanks _ p2.1) (fun v3 T3 p3 => ?_)
      have p := (u.ps.tr p2).tr p3.ps
      have a2 := p2.2.2.1
      have a3 := p3.2.2.1
      rw [e4] at a2
      refine zk_imp (hk t T3 (h.ps p (by omega) (by omega) (by omega)) (by show (302 - (ge T3 40 0 4).toInt).toNat < (302 - (ge S 40 0 4).toInt).toNat; omega)) (fun v U q => p.tr q)
    exact zk_eq (fun _ => zk_iv fun y _ => J y) (fun _ => zk_iv fun y _ => J y)
  refine zk_iv fun x e => ?_
  subst e
  refine zk_bd (s_F_X7_byteAt _ S RS (by omega)) (fun v _ q => ?_)
  obtain ⟨rfl, hv⟩ := q
  refine zk_eq (fun c => M (by omega)) (fun _ => ?_)
  refine zk_iv fun x e => ?_
  subst e
  refine zk_bd (s_F_X7_byteAt _ S RS (by omega)) (fun v2 _ q => ?_)
  obtain ⟨rfl, hv2⟩ := q
  exact zk_eq (fun c => M (by omega)) (fun _ => zk_some (PS.rf RS))
theorem n7_sum (H : HR R d) {S : fS} (h : PRE S 3 3 (d + 1)) : zk (N_X7_sum R S) (fun _ T => PS S T) := by
  unfold N_X7_sum
  have h1 : PRE S 2 2 d := h.ps (PS.rf h.1) (by omega) (by omega) (by omega)
  refine zk_bd (H.2.1 _ _ h1) (fun v T p => ?_)
  refine zk_bd (s_F_X7_blanks _ p.1) (fun v2 T2 p2 => ?_)
  have p3 := p.tr p2.ps
  exact zk_imp (n7_lsum H v (h1.ps p3 (by omega) (by omega) (by omega))) (fun v U q => p3.tr q)
theorem n7_140 (H : HR R d) {S T : fS} {a b : Int32} (h : PRE S 1 4 (d + 1)) (hf : (ge S 40 0 6).toInt = 0) (p : PS S T) (hz : ¬ (ge T 40 0 6).toInt = 0 ∨ (ge T 40 0 4).toInt < (ge T 40 0 2).toInt) : zk (B_X7_test_140 R a b T) (fun v U => TS S U ∧ 0 ≤ v.toInt ∧ v.toInt ≤ 1) := by
  have l1 : (1 : Int32).toInt = 1 := by decide
  have hA := p.ak h.2.1
  have hz0 := h.2.1.2 hf
  have e := p.sz
  obtain ⟨RT, f1, a1, b1, c1, d1⟩ := p
  have ga := RT.at
  have gs := RT.sz
  unfold B_X7_test_140
  refine zk_iv fun x e => ?_
  subst e
  refine zk_iv fun y e => ?_
  have gy : y.toInt = (ge T 40 0 4).toInt + 1 := by rw [e, ti_add (by omega) (by omega), l1]
  refine zk_sv fun V E => ?_
  have a4 : ge V 40 0 4 = y := by rw [E]; exact ge_pus
  have a5 : ge V 40 0 5 = ge T 40 0 5 := by rw [E]; exact ge_puj (by decide)
  have a6 : ge V 40 0 6 = ge T 40 0 6 := by rw [E]; exact ge_puj (by decide)
  have a2 : ge V 40 0 2 = ge T 40 0 2 := by rw [E]; exact ge_puj (by decide)
  have RV : RI V := by rw [E]; exact RT.wr (show (0 : Int) ≤ y.toInt by omega) (show y.toInt ≤ 301 by omega)
  have FV : Fr 13421838336 S V := by rw [E]; exact f1.wr (k := 29) rfl rfl
  have t : TS S V := ⟨RV, FV, by rw [a4]; omega, ⟨by rw [a4, a2]; omega, fun q => by rw [a6] at q; rw [a4, a2]; omega⟩, by rw [a5]; exact c1, fun q => absurd hf q⟩
  have h2 : PRE S 3 3 d := h.zz hf (by omega) (by omega)
  refine zk_bd (H.2.2.1 _ _ (h2.ts t (by omega) (by omega) (by omega))) (fun v U q => ?_)
  have t2 := t.ps q
  have k0 : zk (some ((0 : Int32), U)) (fun v U => TS S U ∧ 0 ≤ v.toInt ∧ v.toInt ≤ 1) := zk_some ⟨t2, by decide, by decide⟩
  have k1 : zk (some ((1 : Int32), U)) (fun v U => TS S U ∧ 0 ≤ v.toInt ∧ v.toInt ≤ 1) := zk_some ⟨t2, by decide, by decide⟩
  refine zk_eq (fun _ => zk_le (fun _ => k0) (fun _ => k1)) (fun _ => ?_)
  exact zk_eq (fun _ => zk_le (fun _ => k0) (fun _ => k1)) (fun _ => zk_eq (fun _ => k1) (fun _ => k0))
theorem n7_op (H : HR R d) {S S1 : fS} {n : Int32} {c k : Int} (h : PRE S 1 4 (d + 1)) (hf : (ge S 40 0 6).toInt = 0) (p : BS S S1) (h1 : 0 ≤ n.toInt) (h2 : (ge S1 40 0 4).toInt + n.toInt ≤ (ge S1 40 0 2).toInt) (hk : k ≤ 6) (hc : c ≤ 3) : zk (F_X7_opens n S1) (fun _ T => MT S T ∧ PRE T c k d) := by
  have hz := h.z hf
  have hop := p.op
  have hsz := p.sz
  refine zk_imp (s_F_X7_opens n S1 p.1 h1 h2 (by omega)) (fun _ T2 p2 => ?_)
  obtain ⟨R2, f2, a2, b2, c2, d2, e2⟩ := p2
  have hs2 : (ge T2 40 0 2).toInt = (ge S1 40 0 2).toInt := congrArg Int32.toInt (f2.1 40 0 2 rfl)
  have hsS := p.2.2.1
  have hA : AK T2 := ⟨by omega, fun _ => by omega⟩
  refine ⟨⟨R2, (p.ps.2.1).tr f2, by omega, hA, by omega, fun z => absurd hf z⟩, R2, hA, ?_⟩
  rcases e2 with q | q
  · exact Or.inl ⟨q, by omega⟩
  · exact Or.inr ⟨q, by omega⟩
theorem n7_test (H : HR R d) {S : fS} (h : PRE S 1 4 (d + 1)) : zk (N_X7_test R S) (fun v T => TS S T ∧ 0 ≤ v.toInt ∧ v.toInt ≤ 1) := by
  have l0 : (0 : Int32).toInt = 0 := by decide
  have l1 : (1 : Int32).toInt = 1 := by decide
  have l3 : (3 : Int32).toInt = 3 := by decide
  have l60 : (60 : Int32).toInt = 60 := by decide
  have l61 : (61 : Int32).toInt = 61 := by decide
  have l62 : (62 : Int32).toInt = 62 := by decide
  have l91 : (91 : Int32).toInt = 91 := by decide
  have RS := h.1
  unfold N_X7_test
  refine zk_iv fun x e => ?_
  refine zk_eq (fun c => ?_) (fun c => zk_some ⟨TS.rf RS h.2.1, by decide, by decide⟩)
  have hf : (ge S 40 0 6).toInt = 0 := by rw [← e]; omega
  refine zk_bd (s_F_X7_isWord _ _ _ _ _ S RS) (fun w S1 q => ?_)
  obtain ⟨p1, hw⟩ := q
  have R1 := p1.1
  have ga := R1.at
  have gs := R1.sz
  have hsz := p1.sz
  refine zk_eq (fun c1 => ?_) (fun c1 => ?_)
  · refine zk_iv fun x e => ?_
    subst e
    refine zk_bd (s_F_X7_byteAt _ S1 R1 (by omega)) (fun v _ q => ?_)
    obtain ⟨rfl, hv⟩ := q
    have hb := byv_bd R1 (ge S1 40 0 4)
    refine zk_eq (fun c2 => ?_) (fun c2 => ?_)
    · refine zk_bd (n7_op H (n := 1) (c := 3) (k := 6) h hf p1 (by omega) (by omega) (by omega) (by omega)) (fun _ T2 q => ?_)
      obtain ⟨m2, pr2⟩ := q
      refine zk_bd (H.2.2.2.2.2 _ _ pr2) (fun v3 T3 q => ?_)
      obtain ⟨t3, hv3⟩ := q
      have m3 := m2.ts t3
      refine zk_bd (s_F_X7_sign _ T3 t3.1 (by decide)) (fun _ T4 q => ?_)
      have m4 := m3.ts (q.1.ts t3.2.2.2.1)
      refine zk_iv fun x e => ?_
      refine zk_iv fun y ey => ?_
      exact zk_sv fun V E => zk_gd (z01 (by omega)) (zk_some ⟨by rw [E]; exact m4.dn RS e ey, hv3⟩)
    · refine zk_bd (H.2.2.1 _ _ ((h.zz (c' := 3) (k' := 3) (d' := d) hf (by omega) (by omega)).ps p1.ps (by omega) (by omega) (by omega))) (fun v3 T3 p3 => ?_)
      refine zk_bd (s_F_X7_blanks T3 p3.1) (fun _ T4 p4 => ?_)
      have p := (p1.ps.tr p3).tr p4.ps
      have R4 := p4.1
      have g4 := R4.at
      refine zk_iv fun x e => ?_
      subst e
      refine zk_bd (s_F_X7_byteAt _ T4 R4 (by omega)) (fun v5 _ q => ?_)
      obtain ⟨rfl, hv5⟩ := q
      have hb5 := byv_bd R4 (ge T4 40 0 4)
      refine zk_eq (fun c => n7_140 H h hf p (Or.inr (by omega))) (fun _ => ?_)
      refine zk_eq (fun c => n7_140 H h hf p (Or.inr (by omega))) (fun _ => ?_)
      refine zk_eq (fun c => n7_140 H h hf p (Or.inr (by omega))) (fun _ => ?_)
      refine zk_iv fun x e => ?_
      exact zk_bd (s_F_X7_wrong _ _ T4 R4 (by decide)) (fun v T q => n7_140 H h hf (p.tr q.1) (Or.inl q.2.1))
  · have hq : w.toInt = 1 ∧ WQ S1 (wd 14 15 20 0 0).toInt := hw.resolve_left (by omega)
    have h3 := hq.2.2 (by decide)
    refine zk_bd (n7_op H (n := 3) (c := 1) (k := 4) h hf p1 (by omega) (by omega) (by omega) (by omega)) (fun _ T2 q => ?_)
    obtain ⟨m2, pr2⟩ := q
    refine zk_bd (H.2.2.2.1 _ _ pr2) (fun v3 T3 q => ?_)
    obtain ⟨t3, hv3⟩ := q
    have m3 := m2.ts t3
    have K : ∀ t : Int32, (t = 0 ∨ t = 1) → zk (B_X7_test_41 R t T3) (fun v T => TS S T ∧ 0 ≤ v.toInt ∧ v.toInt ≤ 1) := by
      intro t ht
      unfold B_X7_test_41
      refine zk_iv fun x e => ?_
      refine zk_iv fun y ey => ?_
      refine zk_sv fun V E => zk_gd ht (zk_some ⟨by rw [E]; exact m3.dn RS e ey, ?_⟩)
      rcases ht with rfl | rfl <;> decide
    exact zk_eq (fun _ => K _ (by decide)) (fun _ => K _ (by decide))
theorem n7_lands (H : HR R d) (z : Int32) {S : fS} (h : PRE S 1 4 d) (hz : 0 ≤ z.toInt ∧ z.toInt ≤ 1) : zk (lp (B_X7_ands_5 R) fuel z S) (fun v T => TS S T ∧ 0 ≤ v.toInt ∧ v.toInt ≤ 1) := by
  have l0 : (0 : Int32).toInt = 0 := by decide
  have l1 : (1 : Int32).toInt = 1 := by decide
  refine zk_lp (fun z S => PRE S 1 4 d ∧ 0 ≤ z.toInt ∧ z.toInt ≤ 1) (fun _ S => (302 - (ge S 40 0 4).toInt).toNat) (fun _ S (v : Int32) T => TS S T ∧ 0 ≤ v.toInt ∧ v.toInt ≤ 1) ?_ z S ⟨h, hz⟩ (by have := h.1.at; show (302 - (ge S 40 0 4).toInt).toNat < 4294967296; omega)
  clear h hz
  intro k z S hI hk
  obtain ⟨h, hz⟩ := hI
  have RS := h.1
  have ga := RS.at
  unfold B_X7_ands_5
  refine zk_iv fun x e => ?_
  refine zk_eq (fun c => ?_) (fun c => zk_gd (z01 (by omega)) (zk_some ⟨TS.rf RS h.2.1, hz⟩))
  have hf : (ge S 40 0 6).toInt = 0 := by rw [← e]; omega
  refine zk_bd (s_F_X7_isWord _ _ _ _ _ S RS) (fun w S1 q => ?_)
  obtain ⟨p1, hw⟩ := q
  refine zk_eq (fun c1 => zk_gd (z01 (by omega)) (zk_some ⟨p1.ps.ts h.2.1, hz⟩)) (fun c1 => ?_)
  have hq := hw.resolve_left (by omega)
  have hl := hq.2.let (by decide)
  refine zk_bd (s_F_X7_skipWord S1 p1.1) (fun _ T2 q => ?_)
  obtain ⟨p2, hp2⟩ := q
  have hs := hp2 hl
  have p := p1.tr p2
  refine zk_bd (H.2.2.2.1 _ _ (h.ps p.ps (by omega) (by omega) (by omega))) (fun v3 T3 q => ?_)
  obtain ⟨t3, hv3⟩ := q
  have t : TS S T3 := (p.ps.ts h.2.1).tr t3
  have a1 := p1.2.2.1
  have a3 := t3.2.2.1
  have g3 := t.1.at
  have J : ∀ t : Int32, 0 ≤ t.toInt ∧ t.toInt ≤ 1 → zk (k t T3) (fun v U => TS S U ∧ 0 ≤ v.toInt ∧ v.toInt ≤ 1) := fun y hy => zk_imp (hk y T3 ⟨h.ts t (by omega) (by omega) (by omega), hy⟩ (by show (302 - (ge T3 40 0 4).toInt).toNat < (302 - (ge S 40 0 4).toInt).toNat; omega)) (fun v U q => ⟨t.tr q.1, q.2⟩)
  have Z : True := trivial
  · clear Z
    have K : ∀ t : Int32, 0 ≤ t.toInt ∧ t.toInt ≤ 1 → zk (B_X7_ands_47 R k t T3) (fun v U => TS S U ∧ 0 ≤ v.toInt ∧ v.toInt ≤ 1) := J
    refine zk_eq (fun _ => ?_) (fun _ => zk_eq (fun _ => ?_) (fun _ => K 1 (by decide)))
    · unfold B_X7_ands_46
      exact K 0 (by decide)
    · unfold B_X7_ands_46
      exact K 0 (by decide)
theorem n7_ands (H : HR R d) {S : fS} (h : PRE S 2 5 (d + 1)) : zk (N_X7_ands R S) (fun v T => TS S T ∧ 0 ≤ v.toInt ∧ v.toInt ≤ 1) := by
  unfold N_X7_ands
  have h1 : PRE S 1 4 d := h.ps (PS.rf h.1) (by omega) (by omega) (by omega)
  refine zk_bd (H.2.2.2.1 _ _ h1) (fun v T q => ?_)
  exact zk_imp (n7_lands H v (h1.ts q.1 (by omega) (by omega) (by omega)) q.2) (fun v U q2 => ⟨q.1.tr q2.1, q2.2⟩)
theorem n7_lors (H : HR R d) (z : Int32) {S : fS} (h : PRE S 2 5 d) (hz : 0 ≤ z.toInt ∧ z.toInt ≤ 1) : zk (lp (B_X7_ors_5 R) fuel z S) (fun v T => TS S T ∧ 0 ≤ v.toInt ∧ v.toInt ≤ 1) := by
  have l0 : (0 : Int32).toInt = 0 := by decide
  have l1 : (1 : Int32).toInt = 1 := by decide
  refine zk_lp (fun z S => PRE S 2 5 d ∧ 0 ≤ z.toInt ∧ z.toInt ≤ 1) (fun _ S => (302 - (ge S 40 0 4).toInt).toNat) (fun _ S (v : Int32) T => TS S T ∧ 0 ≤ v.toInt ∧ v.toInt ≤ 1) ?_ z S ⟨h, hz⟩ (by have := h.1.at; show (302 - (ge S 40 0 4).toInt).toNat < 4294967296; omega)
  clear h hz
  intro k z S hI hk
  obtain ⟨h, hz⟩ := hI
  have RS := h.1
  have ga := RS.at
  unfold B_X7_ors_5
  refine zk_iv fun x e => ?_
  refine zk_eq (fun c => ?_) (fun c => zk_gd (z01 (by omega)) (zk_some ⟨TS.rf RS h.2.1, hz⟩))
  have hf : (ge S 40 0 6).toInt = 0 := by rw [← e]; omega
  refine zk_bd (s_F_X7_isWord _ _ _ _ _ S RS) (fun w S1 q => ?_)
  obtain ⟨p1, hw⟩ := q
  refine zk_eq (fun c1 => zk_gd (z01 (by omega)) (zk_some ⟨p1.ps.ts h.2.1, hz⟩)) (fun c1 => ?_)
  have hq := hw.resolve_left (by omega)
  have hl := hq.2.let (by decide)
  refine zk_bd (s_F_X7_skipWord S1 p1.1) (fun _ T2 q => ?_)
  obtain ⟨p2, hp2⟩ := q
  have hs := hp2 hl
  have p := p1.tr p2
  refine zk_bd (H.2.2.2.2.1 _ _ (h.ps p.ps (by omega) (by omega) (by omega))) (fun v3 T3 q => ?_)
  obtain ⟨t3, hv3⟩ := q
  have t : TS S T3 := (p.ps.ts h.2.1).tr t3
  have a1 := p1.2.2.1
  have a3 := t3.2.2.1
  have g3 := t.1.at
  have J : ∀ t : Int32, 0 ≤ t.toInt ∧ t.toInt ≤ 1 → zk (k t T3) (fun v U => TS S U ∧ 0 ≤ v.toInt ∧ v.toInt ≤ 1) := fun y hy => zk_imp (hk y T3 ⟨h.ts t (by omega) (by omega) (by omega), hy⟩ (by show (302 - (ge T3 40 0 4).toInt).toNat < (302 - (ge S 40 0 4).toInt).toNat; omega)) (fun v U q => ⟨t.tr q.1, q.2⟩)
  have Z : True := trivial
  · clear Z
    have K : ∀ t : Int32, 0 ≤ t.toInt ∧ t.toInt ≤ 1 → zk (B_X7_ors_48 R k t T3) (fun v U => TS S U ∧ 0 ≤ v.toInt ∧ v.toInt ≤ 1) := J
    refine zk_eq (fun _ => zk_eq (fun _ => K 0 (by decide)) (fun _ => ?_)) (fun _ => ?_)
    · unfold B_X7_ors_43
      exact K 1 (by decide)
    · unfold B_X7_ors_43
      exact K 1 (by decide)
theorem n7_ors (H : HR R d) {S : fS} (h : PRE S 3 6 (d + 1)) : zk (N_X7_ors R S) (fun v T => TS S T ∧ 0 ≤ v.toInt ∧ v.toInt ≤ 1) := by
  unfold N_X7_ors
  have h1 : PRE S 2 5 d := h.ps (PS.rf h.1) (by omega) (by omega) (by omega)
  refine zk_bd (H.2.2.2.2.1 _ _ h1) (fun v T q => ?_)
  exact zk_imp (n7_lors H v (h1.ts q.1 (by omega) (by omega) (by omega)) q.2) (fun v U q2 => ⟨q.1.tr q2.1, q2.2⟩)
end NX7
theorem s_R7 : ∀ d : Nat, HR (R_X7r d) d
  | 0 => by
    have Z : ∀ (S : fS) (c k : Int), 1 ≤ c → 1 ≤ k → PRE S c k ((0 : Nat) : Int) → False := by
      intro S c k hc hk h
      rcases h.2.2 with q | q
      · omega
      · omega
    exact ⟨fun q S h => (Z S 1 1 (by omega) (by omega) h).elim, fun q S h => (Z S 2 2 (by omega) (by omega) h).elim, fun q S h => (Z S 3 3 (by omega) (by omega) h).elim, fun q S h => (Z S 1 4 (by omega) (by omega) h).elim, fun q S h => (Z S 2 5 (by omega) (by omega) h).elim, fun q S h => (Z S 3 6 (by omega) (by omega) h).elim⟩
  | d + 1 => by
    have H := s_R7 d
    have e : (((d + 1 : Nat) : Nat) : Int) = (d : Int) + 1 := by omega
    rw [e]
    exact ⟨fun q S h => n7_unit H h, fun q S h => n7_product H h, fun q S h => n7_sum H h, fun q S h => n7_test H h, fun q S h => n7_ands H h, fun q S h => n7_ors H h⟩
theorem s_F_X7_sum (S : fS) (RS : RI S) (hA : AK S) (hop : (ge S 40 0 5).toInt ≤ 6) : zk (F_X7_sum S) (fun _ T => PS S T) := by
  have g := RS.op
  unfold F_X7_sum
  exact (s_R7 64).2.2.1 0 S ⟨RS, hA, Or.inr ⟨hop, by omega⟩⟩
theorem s_F_X7_ors (S : fS) (RS : RI S) (hA : AK S) (hop : (ge S 40 0 5).toInt ≤ 6) : zk (F_X7_ors S) (fun v T => TS S T ∧ 0 ≤ v.toInt ∧ v.toInt ≤ 1) := by
  have g := RS.op
  unfold F_X7_ors
  exact (s_R7 64).2.2.2.2.2 0 S ⟨RS, hA, Or.inr ⟨hop, by omega⟩⟩
