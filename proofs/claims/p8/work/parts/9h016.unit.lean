/-! the reference's walker, exactly: a unit -/
section RU7
variable {b : Nat → Int} {law : Bool} {env : Nat → Int32} {R : Nat → Int32 → fS → Option (Int32 × fS)} {r : Nat → Nat → Nat → RS7} {d : Int} {S T U : fS}
/-- a sign, where no fault is -/
theorem g_sign (p1 : Int32) (R : RI S) (hp : 0 ≤ p1.toInt) : zk (F_X7_sign p1 S) (fun _ T => XS S T ∧ (GD S b law env → (b (sk b (at7 S)) = p1.toInt ∧ GD T b law env ∧ at7 T = sk b (at7 S) + 1) ∨ (¬ b (sk b (at7 S)) = p1.toInt ∧ ∀ u : Int32, OUT T u (.error (1, sk b (at7 S)))))) := by
  refine zk_imp (x_sign p1 R hp) (fun v T q => ⟨q.1, fun g => ?_⟩)
  rw [← g.1]
  rcases q.2 g.2.2 with ⟨c1, c2, c3⟩ | ⟨c1, c2, c3⟩
  · refine Or.inl ⟨c1, ?_, c3⟩
    rw [g.1]
    exact g.xs q.1 c2
  · exact Or.inr ⟨c1, fun u => ⟨by rw [c2]; rfl, c3, n1z⟩⟩
theorem g_176 {a : Int32} (RS : RI S) (h : MX S T) : zk (B_X7_unit_176 R a T) (fun v U => XS S U ∧ FZ T U ∧ (GD T b law env → OUT U v (if b (sk b (at7 T)) ≠ 41 then .error (1, sk b (at7 T)) else .ok (sk b (at7 T) + 1, a)))) := by
  have l41 : (41 : Int32).toInt = 41 := by decide
  unfold B_X7_unit_176
  refine zk_bd (g_sign (b := b) (law := law) (env := env) 41 h.1.1 (by decide)) (fun v U p => ?_)
  have h2 := h.xs p.1
  refine zk_iv fun x e => ?_
  refine zk_iv fun y ey => ?_
  refine zk_sv fun V E => ?_
  have e4 : at7 V = at7 U := by unfold at7; rw [E, ge_puj (by decide)]
  have e6 : ge V 40 0 6 = ge U 40 0 6 := by rw [E, ge_puj (by decide)]
  have e7 : ge V 40 0 7 = ge U 40 0 7 := by rw [E, ge_puj (by decide)]
  have fz : FZ U V := fun _ => ⟨e6, e7⟩
  refine zk_some ⟨by rw [E]; exact h2.dn RS e ey, p.1.2.2.tr fz, fun g => ?_⟩
  rcases p.2 g with ⟨c1, c2, c3⟩ | ⟨c1, c2⟩
  · rw [if_neg (by rw [c1, l41]; exact fun q => q rfl)]
    exact ⟨by rw [e6]; exact c2.2.2, by rw [e4]; exact c3, rfl⟩
  · rw [if_pos (by rw [← l41]; exact c1)]
    exact (c2 a).fz fz
theorem g_139 (H : HX b law env R r d) {a c : Int32} {ls : Bool} (hls : ls = true ↔ a.toInt = 1) (ha : a.toInt = 0 ∨ a.toInt = 1) (RS : RI S) (h : MX S T) (hp : PRE T 3 3 d) : zk (B_X7_unit_139 R a c T) (fun v U => XS S U ∧ FZ T U ∧ (GD T b law env → OUT U v (nCm b r ls (at7 T) c (op7 T)))) := by
  have l0 : (0 : Int32).toInt = 0 := by decide
  have l1 : (1 : Int32).toInt = 1 := by decide
  have l44 : (44 : Int32).toInt = 44 := by decide
  unfold B_X7_unit_139
  refine zk_bd (g_sign (b := b) (law := law) (env := env) 44 h.1.1 (by decide)) (fun v U p => ?_)
  refine zk_bd (H.2.2.1 _ _ (hp.ps p.1.1 (by omega) (by omega) (by omega))) (fun v2 V p2 => ?_)
  have h2 := (h.xs p.1).xs p2.1
  have K : ∀ w : Int32, w = (if ls then (if v2 < c then v2 else c) else (if v2 < c then c else v2)) → zk (B_X7_unit_176 R w V) (fun v U => XS S U ∧ FZ T U ∧ (GD T b law env → OUT U v (nCm b r ls (at7 T) c (op7 T)))) := by
    intro w hw
    refine zk_imp (g_176 (b := b) (law := law) (env := env) RS h2) (fun v3 W q => ⟨q.1, (p.1.2.2.tr p2.1.2.2).tr q.2.1, fun g => ?_⟩)
    unfold nCm
    rcases p.2 g with ⟨c1, c2, c3⟩ | ⟨c1, c2⟩
    · rw [if_neg (by rw [c1, l44]; exact fun z => z rfl)]
      have o := p2.2 c2
      rw [c3, p.1.op] at o
      cases hr : r 2 (sk b (at7 T) + 1) (op7 T) with
      | error e =>
        rw [hr] at o
        exact o.fz (u := v3) q.2.1
      | ok z =>
        rw [hr] at o
        obtain ⟨o1, o2, o3⟩ := o
        have f := q.2.2 (c2.xs p2.1 o1)
        rw [hw, o2, o3] at f
        exact f
    · rw [if_pos (by rw [← l44]; exact c1)]
      exact (c2 v).fz (u := v3) (p2.1.2.2.tr q.2.1)
  have J : ∀ t : Int32, ((t.toInt = 0 ∧ c.toInt ≤ v2.toInt) ∨ (t.toInt = 1 ∧ v2.toInt < c.toInt)) → zk (B_X7_unit_164 R c v2 t a V) (fun v U => XS S U ∧ FZ T U ∧ (GD T b law env → OUT U v (nCm b r ls (at7 T) c (op7 T)))) := by
    intro t ht
    unfold B_X7_unit_164 B_X7_unit_174
    have lt : v2 < c ↔ v2.toInt < c.toInt := Int32.lt_iff_toInt_lt
    refine zk_eq (fun q => K v2 ?_) (fun q => K c ?_)
    · rcases ht with ⟨t1, t2⟩ | ⟨t1, t2⟩
      · rw [if_neg (fun z => by have := hls.1 z; omega), if_neg (fun z => by have := lt.1 z; omega)]
      · rw [if_pos (hls.2 (by omega)), if_pos (lt.2 t2)]
    · rcases ht with ⟨t1, t2⟩ | ⟨t1, t2⟩
      · rw [if_pos (hls.2 (by omega)), if_neg (fun z => by have := lt.1 z; omega)]
      · rw [if_neg (fun z => by have := hls.1 z; omega), if_pos (lt.2 t2)]
  exact zk_le (fun q => J 0 (Or.inl ⟨l0, q⟩)) (fun q => J 1 (Or.inr ⟨l1, q⟩))
theorem g_92 (H : HX b law env R r d) {a c : Int32} {lm ls : Bool} (hlm : lm = true ↔ ¬ (a.toInt = 0 ∧ c.toInt = 0)) (hls : ls = true ↔ a.toInt = 1) (ha : a.toInt = 0 ∨ a.toInt = 1) (h : PRE S 1 1 (d + 1)) (hf : (ge S 40 0 6).toInt = 0) (p : XS S T) : zk (B_X7_unit_92 R a c T) (fun v U => XS S U ∧ (GD T b law env → OUT U v (nB b r lm ls (sk b (at7 T)) (op7 T)))) := by
  have l0 : (0 : Int32).toInt = 0 := by decide
  have l1 : (1 : Int32).toInt = 1 := by decide
  have l3 : (3 : Int32).toInt = 3 := by decide
  have l40 : (40 : Int32).toInt = 40 := by decide
  have hz := h.z hf
  have RS := h.1
  unfold B_X7_unit_92
  refine zk_bd (x_blanks p.1.1) (fun v T1 p1 => ?_)
  obtain ⟨p1, pa, pf⟩ := p1
  have q1 := p.tr p1
  have R1 := q1.1.1
  have ga := R1.at
  have gs := R1.sz
  have go := R1.op
  have hop := q1.1.2.2.2.2.1
  have hsS := q1.1.2.2.1
  have hsz : (ge T1 40 0 2).toInt = (ge S 40 0 2).toInt := congrArg Int32.toInt (q1.1.2.1.1 40 0 2 rfl)
  have hat := at7_eq R1
  have hle := at7_le R1
  have gp : GD T b law env → GD T1 b law env ∧ at7 T1 = sk b (at7 T) ∧ op7 T1 = op7 T := fun g => ⟨g.xs p1 (by rw [pf]; exact g.2.2), by rw [pa, g.1], p1.op⟩
  refine zk_iv fun x e => ?_
  subst e
  refine zk_bd (e_byteAt _ R1 (p := at7 T1) (by omega) hle) (fun v2 U q => ?_)
  obtain ⟨rfl, hv⟩ := q
  refine zk_eq (fun c4 => ?_) (fun c4 => ?_)
  · have hlt := bt_lt R1 (p := at7 T1) (by omega)
    refine zk_bd (x_opens 1 R1 (by omega) (by omega) (by omega)) (fun v3 T2 p2 => ?_)
    obtain ⟨R2, f2, a2, c2, n2, z2, d2, e2⟩ := p2
    have hs2 : (ge T2 40 0 2).toInt = (ge T1 40 0 2).toInt := congrArg Int32.toInt (f2.1 40 0 2 rfl)
    have m2 : MX S T2 := ⟨⟨R2, q1.1.2.1.tr f2, by omega, by omega, by omega, fun z => absurd hf z⟩, q1.2.1.tr n2, q1.2.2.tr z2⟩
    have pr2 : PRE T2 3 3 d := ⟨R2, ⟨by omega, fun _ => by omega⟩, by
      by_cases f1 : (ge T1 40 0 6).toInt = 0
      · rcases e2 f1 with q | q
        · exact Or.inl ⟨by rw [q.2.1]; decide, by omega⟩
        · exact Or.inr ⟨by omega, by omega⟩
      · exact Or.inl ⟨d2 f1, by omega⟩⟩
    refine zk_bd (H.2.2.1 _ _ pr2) (fun v4 T3 p3 => ?_)
    have m3 := m2.xs p3.1
    have pr3 : PRE T3 3 3 d := pr2.ps p3.1.1 (by omega) (by omega) (by omega)
    have K : ∀ (v : Int32) (U : fS), XS S U → FZ T3 U → (GD T3 b law env → OUT U v (nE b r lm ls (at7 T3) v4 (op7 T3))) → XS S U ∧ (GD T b law env → OUT U v (nB b r lm ls (sk b (at7 T)) (op7 T))) := by
      intro v U x fz k
      refine ⟨x, fun g => ?_⟩
      obtain ⟨g1, gat, gop⟩ := gp g
      have b40 : b (sk b (at7 T)) = 40 := by rw [← gat, ← g1.1]; omega
      have ho := op7_eq R1
      have o2 := op7_eq R2
      have t2 := at7_eq R2
      unfold nB
      rw [if_neg (by rw [b40]; exact fun q => q rfl)]
      rcases e2 g1.2.2 with ⟨s1, s2, s3⟩ | ⟨s1, s2⟩
      · rw [if_pos (by omega)]
        have o : OUT T2 v (.error (3, sk b (at7 T))) := ⟨by rw [s2]; exact l3, by rw [s3, ← gat]; omega, n3z⟩
        exact o.fz (p3.1.2.2.tr fz)
      · rw [if_neg (by omega)]
        have g2 : GD T2 b law env := ⟨(bt_fr f2 rfl).trans g1.1, g1.2.1.nf n2, s2⟩
        have o := p3.2 g2
        rw [show at7 T2 = sk b (at7 T) + 1 from by omega, show op7 T2 = op7 T + 1 from by omega] at o
        have e3 := p3.1.op
        rw [show op7 T2 = op7 T + 1 from by omega] at e3
        cases hr : r 2 (sk b (at7 T) + 1) (op7 T + 1) with
        | error e =>
          rw [hr] at o
          exact o.fz (u := v) fz
        | ok z =>
          rw [hr] at o
          obtain ⟨o1, o4, o5⟩ := o
          have f := k (g2.xs p3.1 o1)
          rw [o4, o5, e3] at f
          exact f
    have K139 : lm = true → zk (B_X7_unit_139 R a v4 T3) (fun v U => XS S U ∧ (GD T b law env → OUT U v (nB b r lm ls (sk b (at7 T)) (op7 T)))) := fun hl => zk_imp (g_139 H hls ha RS m3 pr3) (fun v U q => K v U q.1 q.2.1 (fun g => by unfold nE; rw [if_pos hl]; exact q.2.2 g))
    refine zk_eq (fun c5 => zk_eq (fun c6 => ?_) (fun c6 => K139 (hlm.2 (by omega)))) (fun c5 => K139 (hlm.2 (by omega)))
    exact zk_imp (g_176 (b := b) (law := law) (env := env) RS m3) (fun v U q => K v U q.1 q.2.1 (fun g => by unfold nE; rw [if_neg (fun hl => hlm.1 hl ⟨by omega, by omega⟩)]; exact q.2.2 g))
  · refine zk_iv fun x e => ?_
    refine zk_bd (x_wrong 1 x R1 (by decide)) (fun v U q => zk_some ⟨q1.tr q.1, fun g => ?_⟩)
    obtain ⟨g1, gat, gop⟩ := gp g
    have w := q.2.2.2 g1.2.2
    unfold nB
    rw [if_pos (by rw [← gat, ← g1.1]; omega)]
    exact ⟨by rw [w.1]; exact l1, by rw [w.2, e, ← gat]; omega, n1z⟩
theorem g_unit (H : HX b law env R r d) (h : PRE S 1 1 (d + 1)) : zk (N_X7_unit R S) (fun v T => XS S T ∧ (GD S b law env → OUT T v (nU b law env r (at7 S) (op7 S)))) := by
  have l0 : (0 : Int32).toInt = 0 := by decide
  have lm1 : (-1 : Int32).toInt = -1 := by decide
  have l2 : (2 : Int32).toInt = 2 := by decide
  have RS := h.1
  have htx := bt_txt RS
  unfold N_X7_unit
  refine zk_iv fun x e => ?_
  refine zk_eq (fun c => ?_) (fun c => zk_some ⟨XS.rf RS, fun g => absurd (by rw [e, g.2.2, l0]) c⟩)
  have hf : (ge S 40 0 6).toInt = 0 := by rw [← e]; omega
  refine zk_bd (x_blanks RS) (fun _ T1 h1 => ?_)
  obtain ⟨h1, ha1, hf1⟩ := h1
  have R1 := h1.1.1
  have hat := at7_eq R1
  have hle := at7_le R1
  have hb1 := h1.tx
  have hss : sk (bt T1) (at7 T1) = at7 T1 := by rw [hb1, ha1]; exact sk_sk htx _
  refine zk_iv fun x1 e1 => ?_
  subst e1
  refine zk_bd (e_byteAt _ R1 (p := at7 T1) (by omega) hle) (fun v U q => ?_)
  obtain ⟨rfl, hv⟩ := q
  refine zk_bd (e_isDigit v T1) (fun v2 U q => ?_)
  obtain ⟨rfl, hd2⟩ := q
  have gp : GD S b law env → b = bt T1 ∧ sk b (at7 S) = at7 T1 ∧ GD T1 b law env ∧ op7 T1 = op7 S := fun g => ⟨by rw [hb1, g.1], by rw [ha1, g.1], g.xs h1 (by rw [hf1]; exact g.2.2), h1.op⟩
  refine zk_eq (fun c2 => ?_) (fun c2 => ?_)
  · have nd : GD S b law env → ¬ (48 ≤ b (sk b (at7 S)) ∧ b (sk b (at7 S)) ≤ 57) := by
      intro g
      obtain ⟨g1, g2, g3, g4⟩ := gp g
      rw [g2, g1, ← hv]
      omega
    refine zk_bd (x_nameHere R1 _ rfl) (fun nm T2 q => ?_)
    obtain ⟨h2, hn⟩ := q
    rw [hss] at h2 hn
    have x2 := h2.xs R1 (Nat.le_refl _) (Or.inr rfl)
    have R2 := h2.1
    have hnm : GD S b law env → nm.toInt = nmv b law (sk b (at7 S)) := by
      intro g
      obtain ⟨g1, g2, g3, g4⟩ := gp g
      rw [hn, g2, g1, g3.2.1.2]
    refine zk_eq (fun c3 => ?_) (fun c3 => ?_)
    · refine zk_bd (e_isWord _ _ _ _ _ R2) (fun w1 T3 q => ?_)
      obtain ⟨h3, hw1⟩ := q
      rw [h2.tx, h2.2.2, hss, show (wd 12 5 1 19 20).toInt = 6476969 from by decide] at hw1
      rw [h2.tx, h2.2.2, hss] at h3
      have m3 := h2.tr h3
      refine zk_bd (e_isWord _ _ _ _ _ h3.1) (fun w2 T4 q => ?_)
      obtain ⟨h4, hw2⟩ := q
      rw [m3.tx, m3.2.2, hss, show (wd 13 15 19 20 0).toInt = 267347 from by decide] at hw2
      rw [m3.tx, m3.2.2, hss] at h4
      have m4 := m3.tr h4
      have x4 := m4.xs R1 (Nat.le_refl _) (Or.inr rfl)
      have R4 := m4.1
      have s4 := h1.tr x4
      have K88 : ∀ ls : Bool, (ls = true ↔ w1.toInt = 1) → ¬ (w1.toInt = 0 ∧ w2.toInt = 0) → zk (B_X7_unit_88 R w1 w2 T4) (fun v U => XS S U ∧ (GD S b law env → OUT U v (nB b r true ls (sk b (rn b 97 122 (sk b (at7 S)))) (op7 S)))) := by
        intro ls hls hlm
        unfold B_X7_unit_88
        refine zk_bd (e_skipWord R4) (fun v T5 q => ?_)
        have x5 := q.xs R4 (rn_le _) (rn_inT R4 (by decide) _)
        refine zk_imp (g_92 H (lm := true) ⟨fun _ => hlm, fun _ => rfl⟩ hls (by omega) h hf (s4.tr x5)) (fun v U z => ⟨z.1, fun g => ?_⟩)
        obtain ⟨g1, g2, g3, g4⟩ := gp g
        have f := z.2 ((g3.xs x4 (by rw [m4.2.1.1 40 0 6 rfl]; exact g3.2.2)).xs x5 (by rw [q.2.1.1 40 0 6 rfl, m4.2.1.1 40 0 6 rfl]; exact g3.2.2))
        rw [q.2.2, m4.2.2, m4.tx, x5.op, x4.op, g4, ← g1, ← g2] at f
        exact f
      have nn : GD S b law env → ¬ ¬ nmv b law (sk b (at7 S)) = -1 := fun g => by rw [← hnm g]; omega
      have cw1 : GD S b law env → (w1.toInt = 1 ∧ wc b (sk b (at7 S)) = 6476969) ∨ (w1.toInt = 0 ∧ ¬ wc b (sk b (at7 S)) = 6476969) := fun g => by
        obtain ⟨g1, g2, g3, g4⟩ := gp g
        rw [g2, g1]
        exact hw1
      have cw2 : GD S b law env → (w2.toInt = 1 ∧ wc b (sk b (at7 S)) = 267347) ∨ (w2.toInt = 0 ∧ ¬ wc b (sk b (at7 S)) = 267347) := fun g => by
        obtain ⟨g1, g2, g3, g4⟩ := gp g
        rw [g2, g1]
        exact hw2
      refine zk_eq (fun c4 => zk_eq (fun c5 => ?_) (fun c5 => ?_)) (fun c4 => ?_)
      · refine zk_imp (g_92 H (lm := false) (ls := false) ⟨fun z => absurd z (by decide), fun z => absurd ⟨by omega, by omega⟩ z⟩ ⟨fun z => absurd z (by decide), fun z => by omega⟩ (by omega) h hf s4) (fun v U z => ⟨z.1, fun g => ?_⟩)
        obtain ⟨g1, g2, g3, g4⟩ := gp g
        have f := z.2 (g3.xs x4 (by rw [m4.2.1.1 40 0 6 rfl]; exact g3.2.2))
        rw [m4.2.2, x4.op, g4, ← g2, sk_sk (by rw [g1]; exact bt_txt R1)] at f
        unfold nU
        have u1 := cw1 g
        have u2 := cw2 g
        rw [if_neg (nd g), if_neg (nn g), if_neg (by omega), if_neg (by omega)]
        exact f
      · refine zk_imp (K88 false ⟨fun z => absurd z (by decide), fun z => by omega⟩ (by omega)) (fun v U z => ⟨z.1, fun g => ?_⟩)
        unfold nU
        have u1 := cw1 g
        have u2 := cw2 g
        rw [if_neg (nd g), if_neg (nn g), if_neg (by omega), if_pos (by omega)]
        exact z.2 g
      · refine zk_imp (K88 true ⟨fun _ => by omega, fun _ => rfl⟩ (by omega)) (fun v U z => ⟨z.1, fun g => ?_⟩)
        unfold nU
        have u1 := cw1 g
        rw [if_neg (nd g), if_neg (nn g), if_pos (by omega)]
        exact z.2 g
    · refine zk_bd (e_skipWord R2) (fun v T3 q => ?_)
      have x3 := q.xs R2 (rn_le _) (rn_inT R2 (by decide) _)
      have hnb : 0 ≤ nm.toInt ∧ nm.toInt ≤ 6 := by
        rw [hn] at c3 ⊢
        unfold nmv at c3 ⊢
        split at c3 <;> split <;> omega
      refine zk_gd ⟨by omega, by omega⟩ ?_
      refine zk_iv fun x e => zk_some ⟨(h1.tr x2).tr x3, fun g => ?_⟩
      obtain ⟨g1, g2, g3, g4⟩ := gp g
      unfold nU
      rw [if_neg (nd g), if_pos (by rw [← hnm g]; omega)]
      have hc := cn_eq hnb.1
      have g5 := ((g3.xs x2 (by rw [h2.2.1.1 40 0 6 rfl]; exact g3.2.2)).xs x3 (by rw [q.2.1.1 40 0 6 rfl, h2.2.1.1 40 0 6 rfl]; exact g3.2.2))
      refine ⟨g5.2.2, by rw [q.2.2, h2.2.2, h2.tx, g2, ← g1], ?_⟩
      rw [e, g5.2.1.1 _ (by omega), ← hnm g]
      congr 1 <;> omega
  · refine zk_bd (x_number R1 (by rw [hf1]; exact hf)) (fun v3 T3 q => zk_some ⟨h1.tr q.1, fun g => ?_⟩)
    obtain ⟨g1, g2, g3, g4⟩ := gp g
    unfold nU
    rw [if_pos (by rw [g2, g1, ← hv]; omega), g2, g1]
    rcases q.2 with ⟨c4, c5, c6, c7⟩ | ⟨c4, c5, c6⟩
    · rw [if_neg (by omega)]
      exact ⟨c5, c6, by rw [← c7]; exact (Int32.ofInt_toInt _).symm⟩
    · rw [if_pos c4]
      exact ⟨by rw [c5]; exact l2, c6, n2z⟩
end RU7
