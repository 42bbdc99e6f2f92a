/-! the reference's walker, exactly: what is open, units -/
def op7 (S : fS) : Nat := (ge S 40 0 5).toNatClampNeg
def NM (S : fS) (law : Bool) (env : Nat → Int32) : Prop := (∀ i : Nat, i < 7 → ge S 45 0 i = env i) ∧ law = decide (¬ ge S 40 0 16 = 0)
def OUT (T : fS) (v : Int32) (w : RS7) : Prop := match w with
  | .error e => (ge T 40 0 6).toInt = e.1 ∧ (ge T 40 0 7).toInt = (e.2 : Int) ∧ ¬ e.1 = 0
  | .ok z => (ge T 40 0 6).toInt = 0 ∧ at7 T = z.1 ∧ v = z.2
def GD (S : fS) (b : Nat → Int) (law : Bool) (env : Nat → Int32) : Prop := bt S = b ∧ NM S law env ∧ (ge S 40 0 6).toInt = 0
def HX (b : Nat → Int) (law : Bool) (env : Nat → Int32) (R : Nat → Int32 → fS → Option (Int32 × fS)) (r : Nat → Nat → Nat → RS7) (d : Int) : Prop :=
  (∀ (q : Int32) (S : fS), PRE S 1 1 d → zk (R 0 q S) (fun v T => XS S T ∧ (GD S b law env → OUT T v (r 0 (at7 S) (op7 S))))) ∧
  (∀ (q : Int32) (S : fS), PRE S 2 2 d → zk (R 1 q S) (fun v T => XS S T ∧ (GD S b law env → OUT T v (r 1 (at7 S) (op7 S))))) ∧
  (∀ (q : Int32) (S : fS), PRE S 3 3 d → zk (R 2 q S) (fun v T => XS S T ∧ (GD S b law env → OUT T v (r 2 (at7 S) (op7 S))))) ∧
  (∀ (q : Int32) (S : fS), PRE S 1 4 d → zk (R 3 q S) (fun v T => (XT S T ∧ 0 ≤ v.toInt ∧ v.toInt ≤ 1) ∧ (GD S b law env → OUT T v (r 3 (at7 S) (op7 S))))) ∧
  (∀ (q : Int32) (S : fS), PRE S 2 5 d → zk (R 4 q S) (fun v T => (XT S T ∧ 0 ≤ v.toInt ∧ v.toInt ≤ 1) ∧ (GD S b law env → OUT T v (r 4 (at7 S) (op7 S))))) ∧
  (∀ (q : Int32) (S : fS), PRE S 3 6 d → zk (R 5 q S) (fun v T => (XT S T ∧ 0 ≤ v.toInt ∧ v.toInt ≤ 1) ∧ (GD S b law env → OUT T v (r 5 (at7 S) (op7 S)))))
theorem n1z : ¬ (1 : Int) = 0 := by decide
theorem n2z : ¬ (2 : Int) = 0 := by decide
theorem n3z : ¬ (3 : Int) = 0 := by decide
section RX
variable {b : Nat → Int} {law : Bool} {env : Nat → Int32} {R : Nat → Int32 → fS → Option (Int32 × fS)} {r : Nat → Nat → Nat → RS7} {d : Int} {S T U : fS}
theorem op7_eq (R : RI S) : ((op7 S : Nat) : Int) = (ge S 40 0 5).toInt := cn_eq R.op.1
theorem op7_un (R : RI S) {p : Nat} (h : (ge S 40 0 5).toInt = (p : Int)) : op7 S = p := by
  have h1 := op7_eq R
  omega
theorem NM.nf (h : NM S law env) (n : NF S T) : NM T law env := ⟨fun i hi => (n.1 i).trans (h.1 i hi), by rw [n.2]; exact h.2⟩
theorem GD.xs (h : GD S b law env) (x : XS S T) (hf : (ge T 40 0 6).toInt = 0) : GD T b law env := ⟨x.tx.trans h.1, h.2.1.nf x.2.1, hf⟩
theorem GD.xt (h : GD S b law env) (x : XT S T) (hf : (ge T 40 0 6).toInt = 0) : GD T b law env := ⟨x.tx.trans h.1, h.2.1.nf x.2.1, hf⟩
theorem OUT.fz {v u : Int32} {e : Int × Nat} (h : OUT T v (.error e)) (f : FZ T U) : OUT U u (.error e) := by
  have a := f (by rw [h.1]; exact h.2.2)
  exact ⟨by rw [a.1]; exact h.1, by rw [a.2]; exact h.2.1, h.2.2⟩
theorem XS.op (h : XS S T) : op7 T = op7 S := by
  unfold op7
  rw [of_toInt h.1.2.2.2.2.1]
theorem XT.op (h : XT S T) : op7 T = op7 S := by
  unfold op7
  rw [of_toInt h.1.2.2.2.2.1]
theorem x_opens (p1 : Int32) (RS : RI S) (h1 : 0 ≤ p1.toInt) (h2 : (ge S 40 0 4).toInt + p1.toInt ≤ (ge S 40 0 2).toInt) (h3 : (ge S 40 0 5).toInt ≤ 6) : zk (F_X7_opens p1 S) (fun _ T => RI T ∧ Fr 13421838336 S T ∧ (ge T 40 0 4).toInt = (ge S 40 0 4).toInt + p1.toInt ∧ (ge T 40 0 5).toInt = (ge S 40 0 5).toInt + 1 ∧ NF S T ∧ FZ S T ∧ (¬ (ge S 40 0 6).toInt = 0 → ¬ (ge T 40 0 6).toInt = 0) ∧ ((ge S 40 0 6).toInt = 0 → ((ge S 40 0 5).toInt = 6 ∧ ge T 40 0 6 = 3 ∧ ge T 40 0 7 = ge S 40 0 4) ∨ ((ge S 40 0 5).toInt ≤ 5 ∧ (ge T 40 0 6).toInt = 0))) := by
  have l1 : (1 : Int32).toInt = 1 := by decide
  have l6 : (6 : Int32).toInt = 6 := by decide
  have g := RS.op
  have ga := RS.at
  have gs := RS.sz
  have J : ∀ T : fS, XS S T → (ge T 40 0 4).toInt = (ge S 40 0 4).toInt → zk (B_X7_opens_18 p1 T) (fun _ U => RI U ∧ Fr 13421838336 S U ∧ (ge U 40 0 4).toInt = (ge S 40 0 4).toInt + p1.toInt ∧ (ge U 40 0 5).toInt = (ge S 40 0 5).toInt + 1 ∧ NF S U ∧ ge U 40 0 6 = ge T 40 0 6 ∧ ge U 40 0 7 = ge T 40 0 7) := by
    intro T p hat
    obtain ⟨⟨RT, FT, _, _, hop, hf⟩, n, z⟩ := p
    unfold B_X7_opens_18
    refine zk_iv fun x1 e1 => ?_
    subst e1
    refine zk_iv fun x2 e2 => ?_
    have g2 : x2.toInt = (ge S 40 0 5).toInt + 1 := by rw [e2, ti_add (by omega) (by omega), l1, hop]
    refine zk_sv fun S3 E3 => ?_
    refine zk_iv fun x4 e4 => ?_
    have e4 : x4 = ge T 40 0 4 := by rw [e4, E3, ge_puj (by decide)]
    refine zk_iv fun x5 e5 => ?_
    have g5 : x5.toInt = (ge S 40 0 4).toInt + p1.toInt := by rw [e5, e4, ti_add (by omega) (by omega), hat]
    refine zk_sv fun S6 E6 => ?_
    have R3 : RI S3 := by rw [E3]; exact RT.wr (show (0 : Int) ≤ x2.toInt by omega) (show x2.toInt ≤ 7 by omega)
    have R6 : RI S6 := by rw [E6]; exact R3.wr (show (0 : Int) ≤ x5.toInt by omega) (show x5.toInt ≤ 301 by omega)
    have F3 : Fr 13421838336 S S3 := by rw [E3]; exact FT.wr (k := 32) rfl rfl
    have F6 : Fr 13421838336 S S6 := by rw [E6]; exact F3.wr (k := 29) rfl rfl
    have a4 : ge S6 40 0 4 = x5 := by rw [E6]; exact ge_pus
    have a5 : ge S6 40 0 5 = x2 := by rw [E6, ge_puj (by decide), E3]; exact ge_pus
    have a6 : ge S6 40 0 6 = ge T 40 0 6 := by rw [E6, ge_puj (by decide), E3, ge_puj (by decide)]
    have a7 : ge S6 40 0 7 = ge T 40 0 7 := by rw [E6, ge_puj (by decide), E3, ge_puj (by decide)]
    have n6 : NF S S6 := n.tr ⟨fun i => by rw [E6, ge_pua (by decide), E3, ge_pua (by decide)], by rw [E6, ge_puj (by decide), E3, ge_puj (by decide)]⟩
    exact zk_some ⟨R6, F6, by rw [a4]; exact g5, by rw [a5]; exact g2, n6, a6, a7⟩
  unfold F_X7_opens
  refine zk_iv fun x e => ?_
  refine zk_eq (fun c => ?_) (fun c => ?_)
  · refine zk_iv fun x2 e2 => ?_
    refine zk_bd (x_wrong 3 x2 RS (by decide)) (fun v T h => ?_)
    obtain ⟨hx, ha, hn, hz⟩ := h
    have hat : (ge T 40 0 4).toInt = (ge S 40 0 4).toInt := by
      have h1 := at7_eq RS
      have h2 := at7_eq hx.1.1
      omega
    refine zk_imp (J T hx hat) (fun v U q => ?_)
    obtain ⟨q1, q2, q3, q4, q5, q6, q7⟩ := q
    refine ⟨q1, q2, q3, q4, q5, fun z => ?_, fun _ => by rw [q6]; exact hn, fun z => Or.inl ⟨by rw [← e]; omega, by rw [q6]; exact (hz z).1, by rw [q7, (hz z).2, e2]⟩⟩
    have a := hx.2.2 z
    exact ⟨q6.trans a.1, q7.trans a.2⟩
  · refine zk_imp (J S (XS.rf RS) rfl) (fun v U q => ?_)
    obtain ⟨q1, q2, q3, q4, q5, q6, q7⟩ := q
    rw [e] at c
    exact ⟨q1, q2, q3, q4, q5, fun _ => ⟨q6, q7⟩, fun z => by rw [q6]; exact z, fun z => Or.inr ⟨by omega, by rw [q6]; exact z⟩⟩
def MX (S T : fS) : Prop := MS S T ∧ NF S T ∧ FZ S T
theorem MX.xs (h : MX S T) (p : XS T U) : MX S U := ⟨h.1.ps p.1, h.2.1.tr p.2.1, h.2.2.tr p.2.2⟩
theorem MX.dn {x y : Int32} (h : MX S T) (RS : RI S) (e1 : x = ge T 40 0 5) (e2 : y = x - 1) : XS S (pu T 40 0 5 y) := ⟨h.1.dn RS e1 e2, h.2.1.tr ⟨fun i => ge_pua (by decide), ge_puj (by decide)⟩, h.2.2.tr (fun _ => ⟨ge_puj (by decide), ge_puj (by decide)⟩)⟩
end RX
