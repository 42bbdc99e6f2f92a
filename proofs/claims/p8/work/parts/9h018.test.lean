/-! the reference's walker, exactly: a test -/
section RU9
variable {b : Nat → Int} {law : Bool} {env : Nat → Int32} {R : Nat → Int32 → fS → Option (Int32 × fS)} {r : Nat → Nat → Nat → RS7} {d : Int} {S T U : fS}
def MY (S T : fS) : Prop := MT S T ∧ NF S T ∧ FZ S T
theorem MY.xt (h : MY S T) (p : XT T U) : MY S U := ⟨h.1.ts p.1, h.2.1.tr p.2.1, h.2.2.tr p.2.2⟩
theorem MY.dn {x y : Int32} (h : MY S T) (RS : RI S) (e1 : x = ge T 40 0 5) (e2 : y = x - 1) : XT S (pu T 40 0 5 y) := ⟨h.1.dn RS e1 e2, h.2.1.tr ⟨fun i => ge_pua (by decide), ge_puj (by decide)⟩, h.2.2.tr (fun _ => ⟨ge_puj (by decide), ge_puj (by decide)⟩)⟩
theorem g_140 (H : HX b law env R r d) {a c : Int32} (h : PRE S 1 4 (d + 1)) (hf : (ge S 40 0 6).toInt = 0) (p : XS S T) (hz : ¬ (ge T 40 0 6).toInt = 0 ∨ (ge T 40 0 4).toInt < (ge T 40 0 2).toInt) : zk (B_X7_test_140 R a c T) (fun v U => (XT S U ∧ 0 ≤ v.toInt ∧ v.toInt ≤ 1) ∧ FZ T U ∧ (GD T b law env → OUT U v (match r 2 (at7 T + 1) (op7 T) with | .error e => .error e | .ok z => .ok (z.1, cmp7 c.toInt a z.2)))) := by
  have l1 : (1 : Int32).toInt = 1 := by decide
  have l60 : (60 : Int32).toInt = 60 := by decide
  have l62 : (62 : Int32).toInt = 62 := by decide
  have hA := p.1.ak h.2.1
  have hz0 := h.2.1.2 hf
  have esz := p.1.sz
  have pn := p.2.1
  have pz := p.2.2
  have hat := at7_eq p.1.1
  obtain ⟨⟨RT, f1, a1, b1, c1, d1⟩, _, _⟩ := p
  have ga := RT.at
  have gs := RT.sz
  unfold B_X7_test_140
  refine zk_iv fun x e => ?_
  subst e
  refine zk_iv fun y e => ?_
  have gy : y.toInt = (ge T 40 0 4).toInt + 1 := by rw [e, ti_add (by omega) (by omega), l1]
  refine zk_sv fun V E => ?_
  have a4 : ge V 40 0 4 = y := by rw [E]; exact ge_pus
  have a5 : ge V 40 0 5 = ge T 40 0 5 := by rw [E]; exact ge_puj (by decide)
  have a6 : ge V 40 0 6 = ge T 40 0 6 := by rw [E]; exact ge_puj (by decide)
  have a7 : ge V 40 0 7 = ge T 40 0 7 := by rw [E]; exact ge_puj (by decide)
  have a2 : ge V 40 0 2 = ge T 40 0 2 := by rw [E]; exact ge_puj (by decide)
  have RV : RI V := by rw [E]; exact RT.wr (show (0 : Int) ≤ y.toInt by omega) (show y.toInt ≤ 301 by omega)
  have F1 : Fr 536870912 T V := by rw [E]; exact Fr.rf.wr (k := 29) rfl rfl
  have FV : Fr 13421838336 S V := by rw [E]; exact f1.wr (k := 29) rfl rfl
  have fz : FZ T V := fun _ => ⟨a6, a7⟩
  have nf : NF T V := NF.fr F1 rfl
  have t : XT S V := ⟨⟨RV, FV, by rw [a4]; omega, ⟨by rw [a4, a2]; omega, fun q => by rw [a6] at q; rw [a4, a2]; omega⟩, by rw [a5]; exact c1, fun q => absurd hf q⟩, pn.tr nf, pz.tr fz⟩
  have h2 : PRE S 3 3 d := h.zz hf (by omega) (by omega)
  refine zk_bd (H.2.2.1 _ _ (h2.ts t.1 (by omega) (by omega) (by omega))) (fun v2 U q => ?_)
  have t2 := t.xs q.1
  have fu : FZ T U := fz.tr q.1.2.2
  have K : ∀ w : Int32, w = cmp7 c.toInt a v2 → (0 ≤ w.toInt ∧ w.toInt ≤ 1) → zk (some (w, U)) (fun v U => (XT S U ∧ 0 ≤ v.toInt ∧ v.toInt ≤ 1) ∧ FZ T U ∧ (GD T b law env → OUT U v (match r 2 (at7 T + 1) (op7 T) with | .error e => .error e | .ok z => .ok (z.1, cmp7 c.toInt a z.2)))) := by
    intro w hw hb
    refine zk_some ⟨⟨t2, hb⟩, fu, fun g => ?_⟩
    have g2 : GD V b law env := ⟨(bt_fr F1 rfl).trans g.1, g.2.1.nf nf, by rw [a6]; exact g.2.2⟩
    have o := q.2 g2
    rw [at7_un RV (p := at7 T + 1) (by rw [a4, gy]; omega), show op7 V = op7 T from by unfold op7; rw [a5]] at o
    cases hr : r 2 (at7 T + 1) (op7 T) with
    | error e =>
      rw [hr] at o
      exact o
    | ok z =>
      rw [hr] at o
      exact ⟨o.1, o.2.1, by rw [hw, o.2.2]⟩
  have lt1 : a < v2 ↔ a.toInt < v2.toInt := Int32.lt_iff_toInt_lt
  have lt2 : v2 < a ↔ v2.toInt < a.toInt := Int32.lt_iff_toInt_lt
  refine zk_eq (fun c5 => ?_) (fun c5 => ?_)
  · have e1 : cmp7 c.toInt a v2 = if a < v2 then 1 else 0 := by unfold cmp7; rw [if_pos (by omega)]
    exact zk_le (fun c6 => K 0 (by rw [e1, if_neg (fun z => by have := lt1.1 z; omega)]) (by decide)) (fun c6 => K 1 (by rw [e1, if_pos (lt1.2 c6)]) (by decide))
  · refine zk_eq (fun c6 => ?_) (fun c6 => ?_)
    · have e1 : cmp7 c.toInt a v2 = if v2 < a then 1 else 0 := by unfold cmp7; rw [if_neg (by omega), if_pos (by omega)]
      exact zk_le (fun c7 => K 0 (by rw [e1, if_neg (fun z => by have := lt2.1 z; omega)]) (by decide)) (fun c7 => K 1 (by rw [e1, if_pos (lt2.2 c7)]) (by decide))
    · have e1 : cmp7 c.toInt a v2 = if a = v2 then 1 else 0 := by unfold cmp7; rw [if_neg (by omega), if_neg (by omega)]
      exact zk_eq (fun c7 => K 1 (by rw [e1, if_pos (of_toInt c7)]) (by decide)) (fun c7 => K 0 (by rw [e1, if_neg (fun z => c7 (by rw [z]))]) (by decide))
theorem g_op (H : HX b law env R r d) {S1 : fS} {n : Int32} {c k : Int} (h : PRE S 1 4 (d + 1)) (hf : (ge S 40 0 6).toInt = 0) (p : MV S S1 (at7 S1)) (ha : at7 S ≤ at7 S1) (h1 : 0 ≤ n.toInt) (h2 : (ge S1 40 0 4).toInt + n.toInt ≤ (ge S1 40 0 2).toInt) (hk : k ≤ 6) (hc : c ≤ 3) : zk (F_X7_opens n S1) (fun _ T => MY S T ∧ PRE T c k d ∧ (GD S b law env → (op7 S = 6 ∧ ∀ u : Int32, OUT T u (.error (3, at7 S1))) ∨ (¬ op7 S = 6 ∧ GD T b law env ∧ (at7 T : Int) = (at7 S1 : Int) + n.toInt ∧ op7 T = op7 S + 1))) := by
  have l3 : (3 : Int32).toInt = 3 := by decide
  have hz := h.z hf
  have hop : (ge S1 40 0 5).toInt = (ge S 40 0 5).toInt := congrArg Int32.toInt (p.2.1.1 40 0 5 rfl)
  have hsz : (ge S1 40 0 2).toInt = (ge S 40 0 2).toInt := congrArg Int32.toInt (p.2.1.1 40 0 2 rfl)
  have hfl : (ge S1 40 0 6).toInt = 0 := by rw [p.2.1.1 40 0 6 rfl]; exact hf
  have t0 := at7_eq h.1
  have t1 := at7_eq p.1
  have o0 := op7_eq h.1
  refine zk_imp (x_opens n p.1 h1 h2 (by omega)) (fun _ T2 p2 => ?_)
  obtain ⟨R2, f2, a2, c2, n2, z2, d2, e2⟩ := p2
  have hs2 : (ge T2 40 0 2).toInt = (ge S1 40 0 2).toInt := congrArg Int32.toInt (f2.1 40 0 2 rfl)
  have hA : AK T2 := ⟨by omega, fun _ => by omega⟩
  have f02 : Fr 13421838336 S T2 := (p.2.1.sub (by decide)).tr f2
  have t2 := at7_eq R2
  have o2 := op7_eq R2
  have nf := (NF.fr p.2.1 rfl).tr n2
  refine ⟨⟨⟨R2, f02, by omega, hA, by omega, fun z => absurd hf z⟩, nf, fun z => absurd hf z⟩, ⟨R2, hA, ?_⟩, fun g => ?_⟩
  · rcases e2 hfl with q | q
    · exact Or.inl ⟨by rw [q.2.1]; decide, by omega⟩
    · exact Or.inr ⟨by omega, by omega⟩
  · rcases e2 hfl with q | q
    · exact Or.inl ⟨by omega, fun u => ⟨by rw [q.2.1]; exact l3, by rw [q.2.2]; omega, n3z⟩⟩
    · exact Or.inr ⟨by omega, ⟨(bt_fr f2 rfl).trans (p.tx.trans g.1), g.2.1.nf nf, q.2⟩, by omega, by omega⟩
theorem g_test (H : HX b law env R r d) (h : PRE S 1 4 (d + 1)) : zk (N_X7_test R S) (fun v T => (XT S T ∧ 0 ≤ v.toInt ∧ v.toInt ≤ 1) ∧ (GD S b law env → OUT T v (nT7 b r (at7 S) (op7 S)))) := by
  have l0 : (0 : Int32).toInt = 0 := by decide
  have l1 : (1 : Int32).toInt = 1 := by decide
  have l3 : (3 : Int32).toInt = 3 := by decide
  have l60 : (60 : Int32).toInt = 60 := by decide
  have l61 : (61 : Int32).toInt = 61 := by decide
  have l62 : (62 : Int32).toInt = 62 := by decide
  have l91 : (91 : Int32).toInt = 91 := by decide
  have l93 : (93 : Int32).toInt = 93 := by decide
  have RS := h.1
  have htx := bt_txt RS
  unfold N_X7_test
  refine zk_iv fun x e => ?_
  refine zk_eq (fun c => ?_) (fun c => zk_some ⟨⟨⟨TS.rf RS h.2.1, NF.rf, fun _ => ⟨rfl, rfl⟩⟩, by decide, by decide⟩, fun g => absurd (by rw [e, g.2.2, l0]) c⟩)
  have hf : (ge S 40 0 6).toInt = 0 := by rw [← e]; omega
  refine zk_bd (e_isWord _ _ _ _ _ RS) (fun w S1 q => ?_)
  obtain ⟨p1, hw⟩ := q
  rw [show (wd 14 15 20 0 0).toInt = 10631 from by decide] at hw
  have R1 := p1.1
  have ga := R1.at
  have gs := R1.sz
  have hat := at7_eq R1
  have hle := at7_le R1
  have x1 := p1.xs RS (sk_le _) (sk_in RS _)
  have hsz : (ge S1 40 0 2).toInt = (ge S 40 0 2).toInt := congrArg Int32.toInt (p1.2.1.1 40 0 2 rfl)
  have hskl := sk_le (b := bt S) (at7 S)
  have gp : GD S b law env → b = bt S ∧ sk b (at7 S) = at7 S1 ∧ GD S1 b law env ∧ op7 S1 = op7 S := fun g => ⟨g.1.symm, by rw [← g.1]; exact p1.2.2.symm, g.xs x1 (by rw [p1.2.1.1 40 0 6 rfl]; exact hf), x1.op⟩
  have mv1 : MV S S1 (at7 S1) := ⟨p1.1, p1.2.1, rfl⟩
  have hle1 : at7 S ≤ at7 S1 := by rw [p1.2.2]; exact hskl
  refine zk_eq (fun c1 => ?_) (fun c1 => ?_)
  · have nw : ¬ wc (bt S) (sk (bt S) (at7 S)) = 10631 := by
      rcases hw with q | q
      · omega
      · exact q.2
    refine zk_iv fun x e => ?_
    subst e
    refine zk_bd (e_byteAt _ R1 (p := at7 S1) (by omega) hle) (fun v _ q => ?_)
    obtain ⟨rfl, hv⟩ := q
    rw [p1.tx] at hv
    refine zk_eq (fun c2 => ?_) (fun c2 => ?_)
    · have hlt := bt_lt R1 (p := at7 S1) (by rw [p1.tx]; omega)
      refine zk_bd (g_op H (n := 1) (c := 3) (k := 6) h hf mv1 hle1 (by omega) (by omega) (by omega) (by omega)) (fun _ T2 q => ?_)
      obtain ⟨m2, pr2, g2⟩ := q
      refine zk_bd (H.2.2.2.2.2 _ _ pr2) (fun v3 T3 q => ?_)
      obtain ⟨⟨t3, hv3⟩, o3⟩ := q
      have m3 := m2.xt t3
      refine zk_bd (g_sign (b := b) (law := law) (env := env) 93 t3.1.1 (by decide)) (fun _ T4 q => ?_)
      have m4 := m3.xt (q.1.xt t3.1.2.2.2.1)
      refine zk_iv fun x e => ?_
      refine zk_iv fun y ey => ?_
      refine zk_sv fun V E => zk_gd (z01 (by omega)) (zk_some ⟨⟨by rw [E]; exact m4.dn RS e ey, hv3⟩, fun g => ?_⟩)
      have e4 : at7 V = at7 T4 := by unfold at7; rw [E, ge_puj (by decide)]
      have e6 : ge V 40 0 6 = ge T4 40 0 6 := by rw [E, ge_puj (by decide)]
      have e7 : ge V 40 0 7 = ge T4 40 0 7 := by rw [E, ge_puj (by decide)]
      have fz : FZ T4 V := fun _ => ⟨e6, e7⟩
      obtain ⟨g1, ge1, gd1, gop⟩ := gp g
      have b91 : b (at7 S1) = 91 := by rw [g1]; omega
      unfold nT7
      rw [if_neg (by rw [g1]; exact nw), ge1, if_pos b91]
      rcases g2 g with ⟨s1, s2⟩ | ⟨s1, s2, s3, s4⟩
      · rw [if_pos s1]
        exact (s2 v3).fz ((t3.2.2.tr q.1.2.2).tr fz)
      · rw [if_neg s1]
        have o := o3 s2
        rw [show at7 T2 = at7 S1 + 1 from by omega, s4] at o
        cases hr : r 5 (at7 S1 + 1) (op7 S + 1) with
        | error e =>
          rw [hr] at o
          exact o.fz (u := v3) (q.1.2.2.tr fz)
        | ok z =>
          rw [hr] at o
          obtain ⟨o1, o4, o5⟩ := o
          show OUT V v3 (if b (sk b z.1) ≠ 93 then .error (1, sk b z.1) else .ok (sk b z.1 + 1, z.2))
          rw [← o4, ← o5]
          rcases q.2 (s2.xt t3 o1) with ⟨y1, y2, y3⟩ | ⟨y1, y2⟩
          · rw [if_neg (by rw [y1, l93]; exact fun z => z rfl)]
            exact ⟨by rw [e6]; exact y2.2.2, by rw [e4]; exact y3, rfl⟩
          · rw [if_pos (by rw [← l93]; exact y1)]
            exact (y2 v3).fz fz
    · refine zk_bd (H.2.2.1 _ _ ((h.zz (c' := 3) (k' := 3) (d' := d) hf (by omega) (by omega)).ps x1.1 (by omega) (by omega) (by omega))) (fun v3 T3 p3 => ?_)
      refine zk_bd (x_blanks p3.1.1.1) (fun _ T4 p4 => ?_)
      obtain ⟨p4, pa, pf⟩ := p4
      have p := (x1.tr p3.1).tr p4
      have R4 := p4.1.1
      have g4 := R4.at
      have t4 := at7_eq R4
      have l4 := at7_le R4
      refine zk_iv fun x e => ?_
      subst e
      refine zk_bd (e_byteAt _ R4 (p := at7 T4) (by omega) l4) (fun v5 _ q => ?_)
      obtain ⟨rfl, hv5⟩ := q
      have b91 : GD S b law env → ¬ b (at7 S1) = 91 := fun g => by rw [(gp g).1]; omega
      have K : ∀ (v : Int32) (U : fS), FZ T4 U → (GD T4 b law env → OUT U v (nQ b r (at7 T4) (op7 T4) v3)) → GD S b law env → OUT U v (nT7 b r (at7 S) (op7 S)) := by
        intro v U fz k g
        obtain ⟨g1, ge1, gd1, gop⟩ := gp g
        unfold nT7
        rw [if_neg (by rw [g1]; exact nw), ge1, if_neg (b91 g)]
        have o := p3.2 gd1
        rw [gop] at o
        cases hr : r 2 (at7 S1) (op7 S) with
        | error e =>
          rw [hr] at o
          exact o.fz (u := v) (p4.2.2.tr fz)
        | ok z =>
          rw [hr] at o
          obtain ⟨o1, o4, o5⟩ := o
          have g3 := gd1.xs p3.1 o1
          have f := k (g3.xs p4 (by rw [pf]; exact o1))
          rw [pa, g3.1, o4, p.op, o5] at f
          exact f
      have Y : v5.toInt = 60 ∨ v5.toInt = 62 ∨ v5.toInt = 61 → zk (B_X7_test_140 R v3 v5 T4) (fun v T => (XT S T ∧ 0 ≤ v.toInt ∧ v.toInt ≤ 1) ∧ (GD S b law env → OUT T v (nT7 b r (at7 S) (op7 S)))) := by
        intro hy
        have hlt := bt_lt R4 (p := at7 T4) (by omega)
        refine zk_imp (g_140 H h hf p (Or.inr (by omega))) (fun v U q => ⟨q.1, K v U q.2.1 (fun g => ?_)⟩)
        unfold nQ
        rw [if_pos (by rw [← g.1, ← hv5]; exact hy), ← g.1, ← hv5]
        rw [← g.1] at q
        exact q.2.2 ⟨rfl, g.2⟩
      refine zk_eq (fun c => Y (by omega)) (fun c6 => ?_)
      refine zk_eq (fun c => Y (by omega)) (fun c7 => ?_)
      refine zk_eq (fun c => Y (by omega)) (fun c8 => ?_)
      refine zk_iv fun x e => ?_
      refine zk_bd (x_wrong 1 x R4 (by decide)) (fun v T q => ?_)
      refine zk_imp (g_140 H h hf (p.tr q.1) (Or.inl q.2.2.1)) (fun v9 U z => ⟨z.1, K v9 U (q.1.2.2.tr z.2.1) (fun g => ?_)⟩)
      unfold nQ
      rw [if_neg (by rw [← g.1, ← hv5]; omega)]
      have w := q.2.2.2 g.2.2
      have o : OUT T v9 (.error (1, at7 T4)) := ⟨by rw [w.1]; exact l1, by rw [w.2, e]; omega, n1z⟩
      exact o.fz z.2.1
  · have hq : wc (bt S) (sk (bt S) (at7 S)) = 10631 := by
      rcases hw with q | q
      · exact q.2
      · omega
    have hin := wc_len (b := bt S) (q := sk (bt S) (at7 S)) (n := 2) (by rw [hq]; decide)
    have hlt := bt_lt R1 (p := at7 S1 + 2) (by rw [p1.tx, p1.2.2]; have := rn_in (b := bt S) (lo := 97) (hi := 122) (p := sk (bt S) (at7 S)) (i := sk (bt S) (at7 S) + 2) (by omega) (by omega); omega)
    refine zk_bd (g_op H (n := 3) (c := 1) (k := 4) h hf mv1 hle1 (by omega) (by omega) (by omega) (by omega)) (fun _ T2 q => ?_)
    obtain ⟨m2, pr2, g2⟩ := q
    refine zk_bd (H.2.2.2.1 _ _ pr2) (fun v3 T3 q => ?_)
    obtain ⟨⟨t3, hv3⟩, o3⟩ := q
    have m3 := m2.xt t3
    have K : ∀ t : Int32, (t = 0 ∨ t = 1) → t = (if v3 = 0 then 1 else 0) → zk (B_X7_test_41 R t T3) (fun v T => (XT S T ∧ 0 ≤ v.toInt ∧ v.toInt ≤ 1) ∧ (GD S b law env → OUT T v (nT7 b r (at7 S) (op7 S)))) := by
      intro t ht htv
      unfold B_X7_test_41
      refine zk_iv fun x e => ?_
      refine zk_iv fun y ey => ?_
      refine zk_sv fun V E => zk_gd ht (zk_some ⟨⟨by rw [E]; exact m3.dn RS e ey, ?_⟩, fun g => ?_⟩)
      · rcases ht with q | q <;> rw [q] <;> decide
      · have e4 : at7 V = at7 T3 := by unfold at7; rw [E, ge_puj (by decide)]
        have e6 : ge V 40 0 6 = ge T3 40 0 6 := by rw [E, ge_puj (by decide)]
        have e7 : ge V 40 0 7 = ge T3 40 0 7 := by rw [E, ge_puj (by decide)]
        have fz : FZ T3 V := fun _ => ⟨e6, e7⟩
        obtain ⟨g1, ge1, gd1, gop⟩ := gp g
        unfold nT7
        rw [if_pos (by rw [g1]; exact hq), ge1]
        rcases g2 g with ⟨s1, s2⟩ | ⟨s1, s2, s3, s4⟩
        · rw [if_pos s1]
          exact (s2 t).fz (t3.2.2.tr fz)
        · rw [if_neg s1]
          have o := o3 s2
          rw [show at7 T2 = at7 S1 + 3 from by omega, s4] at o
          cases hr : r 3 (at7 S1 + 3) (op7 S + 1) with
          | error e =>
            rw [hr] at o
            exact o.fz (u := t) fz
          | ok z =>
            rw [hr] at o
            obtain ⟨o1, o4, o5⟩ := o
            exact ⟨by rw [e6]; exact o1, by rw [e4]; exact o4, by rw [htv, o5]⟩
    exact zk_eq (fun c3 => K _ (by decide) (by rw [if_pos (of_toInt c3)])) (fun c3 => K _ (by decide) (by rw [if_neg (fun z => c3 (by rw [z]))]))
end RU9
