/-! the reader, exactly: sums -/
def eb (w : RS7) (k : Nat → Int32 → RS7) : RS7 := match w with
  | .error e => .error e
  | .ok z => k z.1 z.2
theorem eb_eb (w : RS7) (k k2 : Nat → Int32 → RS7) : eb (eb w k) k2 = eb w (fun q v => eb (k q v) k2) := by cases w <;> rfl
theorem eb_k {w : RS7} {k : Nat → Int32 → RS7} {q : Nat} {y : Int32} (h : w = .ok (q, y)) : eb w k = k q y := by rw [h]; rfl
theorem eb_e {w : RS7} {k : Nat → Int32 → RS7} {e : Int × Nat} (h : w = .error e) : eb w k = .error e := by rw [h]; rfl
section SUM
variable {b : Nat → Int} {law : Bool} {n N i o d : Nat} {l : List Int32} {S T : fS} {R : Nat → Int32 → fS → Option (Int32 × fS)}
theorem RD.un {i' : Nat} {l' : List Int32} (h : RD S b law n N i o l) (h' : RD S b law n N i' o l') : i = i' ∧ l = l' := by
  have a1 := h.2.2.1
  have a2 := h'.2.2.1
  have c1 := h.2.2.2.2.2.2.1
  have c2 := h'.2.2.2.2.2.2.1
  have e : l.length = l'.length := by have := c1.1; have := c2.1; omega
  refine ⟨by omega, List.ext_getElem e (fun k h1 h2 => ?_)⟩
  have d1 := c1.2 k h1
  have d2 := c2.2 k h2
  rw [List.getD_eq_getElem?_getD, List.getElem?_eq_getElem h1] at d1
  rw [List.getD_eq_getElem?_getD, List.getElem?_eq_getElem h2] at d2
  exact (show l[k] = ge S 21 0 k from d1.symm).trans d2
/-- one piece behind another -/
theorem PO.sq {X X2 : Type} {pd pd2 i1 : Nat} {V : Int32 → Prop} {G : X → Prop} {G2 : X2 → Prop} {en : X → Nat → Int32} {en2 : X2 → Nat → Int32} {pre : X → List Int32} {pre2 : X2 → List Int32} {w : X → RS7} {w2 : X2 → RS7} {v : Int32} (m1 : List Int32) (h : PO b law n N i1 o (l ++ m1) pd2 V G2 en2 pre2 w2 v T) (hi : i ≤ i1) (hlen : m1.length + i + pd2 ≤ i1 + pd) (hx : ∀ x : X, G x → ∃ x2 : X2, G2 x2 ∧ w x = w2 x2 ∧ en2 x2 = en x ∧ ∀ (st : List Int32) (g : Int32 × Int32 × Int32), xs (en x) m1 (pre x ++ st, g) = (pre2 x2 ++ st, g)) : PO b law n N i o l pd V G en pre w v T := by
  rcases h with ⟨h1, h2⟩ | ⟨h1, i', m, t1, t2, t3, t4⟩
  · refine Or.inl ⟨h1, fun x gx => ?_⟩
    obtain ⟨x2, g2, e1, _, _⟩ := hx x gx
    rw [e1]
    exact h2 x2 g2
  · refine Or.inr ⟨h1, i', m1 ++ m, by rw [← List.append_assoc]; exact t1, by omega, by rw [List.length_append]; omega, fun x gx => ?_⟩
    obtain ⟨x2, g2, e1, e2, e3⟩ := hx x gx
    obtain ⟨q, y, w1, w2, w3, w4⟩ := t4 x2 g2
    refine ⟨q, y, e1.trans w1, w2, w3, fun st g => ?_⟩
    rw [xs_app, e3, ← e2]
    exact w4 st g
def rsS (b : Nat → Int) (law : Bool) (env : Nat → Int32) (D o : Nat) (ad sc v0 v1 : Int32) (f1 f2 q : Nat) : RS7 :=
  eb (Wk b law env D 0 q o) (fun p u => eb (lP b (Wk b law env D) o f1 (sk b p) (if sc.toInt = -1 then u else jn sc v1 u)) (fun p2 w => lS b (Wk b law env (D + 1)) o f2 (sk b p2) (if ad.toInt = -1 then w else jn ad v0 w)))
theorem lP_no {r : Nat → Nat → Nat → RS7} {f q : Nat} {v : Int32} (h : ¬ (b q = 42 ∨ b q = 47)) : lP b r o f q v = .ok (q, v) := by
  match f with
  | 0 => rfl
  | f + 1 => unfold lP; rw [if_neg h]
theorem lP_go {r : Nat → Nat → Nat → RS7} {f q : Nat} {v : Int32} (h : b q = 42 ∨ b q = 47) : lP b r o (f + 1) q v = eb (r 0 (q + 1) o) (fun p u => lP b r o f (sk b p) (if b q = 42 then v * u else if u = 0 then 0 else v / u)) := by
  conv => lhs; unfold lP
  rw [if_pos h]
  cases r 0 (q + 1) o <;> rfl
theorem lS_no {r : Nat → Nat → Nat → RS7} {f q : Nat} {v : Int32} (h : ¬ (b q = 43 ∨ b q = 45)) : lS b r o f q v = .ok (q, v) := by
  match f with
  | 0 => rfl
  | f + 1 => unfold lS; rw [if_neg h]
theorem lS_go {r : Nat → Nat → Nat → RS7} {f q : Nat} {v : Int32} (h : b q = 43 ∨ b q = 45) : lS b r o (f + 1) q v = eb (r 1 (q + 1) o) (fun p u => lS b r o f (sk b p) (if b q = 43 then v + u else v - u)) := by
  conv => lhs; unfold lS
  rw [if_pos h]
  cases r 1 (q + 1) o <;> rfl
theorem Wk_1 (env : Nat → Int32) (D q : Nat) : Wk b law env (D + 1) 1 q o = eb (Wk b law env D 0 q o) (fun p u => lP b (Wk b law env D) o 302 (sk b p) u) := by
  show nP b (Wk b law env D) q o = _
  unfold nP
  cases Wk b law env D 0 q o <;> rfl
theorem Wk_2 (env : Nat → Int32) (D q : Nat) (v0 v1 : Int32) : Wk b law env (D + 1 + 1) 2 q o = rsS b law env D o (-1) (-1) v0 v1 302 302 q := by
  have e : nS b (Wk b law env (D + 1)) q o = eb (Wk b law env (D + 1) 1 q o) (fun p u => lS b (Wk b law env (D + 1)) o 302 (sk b p) u) := by
    unfold nS
    cases Wk b law env (D + 1) 1 q o <;> rfl
  show nS b (Wk b law env (D + 1)) q o = _
  rw [e, Wk_1, eb_eb]
  rfl
abbrev XL : Type := (Nat → Int32) × Nat × Nat × Int32 × Int32 × Nat × Nat
def GL (b : Nat → Int) (i o k : Nat) (x : XL) : Prop := 3 * (6 - o) + k ≤ x.2.1 ∧ sk b x.2.2.1 = tpos b i ∧ 301 ≤ x.2.2.2.2.2.1 + tpos b i ∧ 301 ≤ x.2.2.2.2.2.2 + tpos b i
def p1 (c v : Int32) : List Int32 := if c.toInt = -1 then [] else [v]
def pn (c : Int32) : Nat := if c.toInt = -1 then 0 else 1
def PS8 (b : Nat → Int) (law : Bool) (n N i o : Nat) (l : List Int32) (ad sc : Int32) (v : Int32) (T : fS) : Prop :=
  PO b law n N i o l (pn sc + pn ad) V1 (GL b i o 1) (fun x => x.1) (fun x => p1 sc x.2.2.2.2.1 ++ p1 ad x.2.2.2.1) (fun x => rsS b law x.1 x.2.1 o ad sc x.2.2.2.1 x.2.2.2.2.1 x.2.2.2.2.2.1 x.2.2.2.2.2.2 x.2.2.1) v T
def okA (c : Int32) : Prop := c = -1 ∨ c = 2000 ∨ c = 2001
def okM (c : Int32) : Prop := c = -1 ∨ c = 2002 ∨ c = 2003
theorem okA.jn {c : Int32} (h : okA c) (hc : ¬ c.toInt = -1) : 2000 ≤ c.toInt ∧ c.toInt < 2011 := by
  rcases h with rfl | rfl | rfl
  · exact absurd (by decide) hc
  · decide
  · decide
theorem okM.jn {c : Int32} (h : okM c) (hc : ¬ c.toInt = -1) : 2000 ≤ c.toInt ∧ c.toInt < 2011 := by
  rcases h with rfl | rfl | rfl
  · exact absurd (by decide) hc
  · decide
  · decide
/-- a pending operation is emitted, if there is one -/
theorem x_pend (c : Int32) (hc : c = -1 ∨ (2000 ≤ c.toInt ∧ c.toInt < 2011)) (h : RD S b law n N i o l) (hl : l.length + pn c ≤ i) {K : fS → Option (Int32 × fS)} {Q : Int32 → fS → Prop} (hK : ∀ (T : fS) (m : List Int32), FX Wr S T → RD T b law n N i o (l ++ m) → m.length = pn c → (∀ (env : Nat → Int32) (x y : Int32) (st : List Int32) (g : Int32 × Int32 × Int32), xs env m (y :: (p1 c x ++ st), g) = ((if c.toInt = -1 then y else jn c x y) :: st, g)) → zk (K T) Q) : zk (bb (c = ((-1) : Int32)) (K S) (bd (F_X4_emit c S) (fun _ T => K T))) Q := by
  have lm1 : (-1 : Int32).toInt = -1 := by decide
  refine zk_bb (fun e => ?_) (fun e => ?_)
  · refine hK S [] FX.rf (by rw [List.append_nil]; exact h) (by unfold pn; rw [e, if_pos lm1]; rfl) (fun env x y st g => ?_)
    unfold p1
    rw [e, if_pos lm1, if_pos lm1]
    rfl
  · have hc2 : 2000 ≤ c.toInt ∧ c.toInt < 2011 := hc.elim (fun q => absurd q e) id
    have hn : ¬ c.toInt = -1 := by omega
    have e1 : pn c = 1 := by unfold pn; rw [if_neg hn]
    refine zk_bd (x_emit c h (by omega)) (fun _ T q => ?_)
    refine hK T [c] q.1 q.2 (by rw [e1]; rfl) (fun env x y st g => ?_)
    unfold p1
    rw [if_neg hn, if_neg hn, xs_one]
    exact xw_jn hc2.1 hc2.2
theorem tp_300 (h : RD S b law n N i o l) (hi : i < N) : tpos b i < 300 := by
  have a := h.tpm (j := i) (k := N) hi (Nat.le_refl _)
  have c := h.tpn (Nat.le_refl N)
  have := h.1.1.1
  omega
theorem n_lsum (H : HC b law n N R d) (hd : 3 * (6 - o) + 2 ≤ d) : ∀ (z : Int32 × Int32 × Int32) (S : fS), (∃ (i : Nat) (l : List Int32), RD S b law n N i o l ∧ l.length + (pn z.2.1 + pn z.1) ≤ i ∧ okA z.1 ∧ okM z.2.1 ∧ 0 ≤ z.2.2.toInt ∧ z.2.2.toInt ≤ (i : Int)) → zk (lp (B_X4_sum_6 R) fuel z S) (fun v T => ∀ (i : Nat) (l : List Int32), RD S b law n N i o l → FX Wr S T ∧ PS8 b law n N i o l z.1 z.2.1 v T) := by
  have l0 : (0 : Int32).toInt = 0 := by decide
  have l1 : (1 : Int32).toInt = 1 := by decide
  have l300 : (300 : Int32).toInt = 300 := by decide
  have lm1 : (-1 : Int32).toInt = -1 := by decide
  intro z S hI
  refine zk_lp (fun (z : Int32 × Int32 × Int32) S => ∃ (i : Nat) (l : List Int32), RD S b law n N i o l ∧ l.length + (pn z.2.1 + pn z.1) ≤ i ∧ okA z.1 ∧ okM z.2.1 ∧ 0 ≤ z.2.2.toInt ∧ z.2.2.toInt ≤ (i : Int)) (fun _ T => (302 - (ge T 17 0 4).toInt).toNat) (fun (z : Int32 × Int32 × Int32) S (v : Int32) T => ∀ (i : Nat) (l : List Int32), RD S b law n N i o l → FX Wr S T ∧ PS8 b law n N i o l z.1 z.2.1 v T) ?_ z S hI (by obtain ⟨i, l, h, _⟩ := hI; have := h.2.2.1; show (302 - (ge S 17 0 4).toInt).toNat < 4294967296; omega)
  clear hI
  intro k z S hI hk
  obtain ⟨a1, a2, a3⟩ := z
  obtain ⟨i, l, h, hl, hA, hM, h3a, h3b⟩ := hI
  dsimp only at hl hA hM h3a h3b
  have hN := h.N300
  have hiN := h.2.2.2.1
  have htx := h.tx
  have at0 := h.2.2.1
  refine zk_imp (Q' := fun v T => FX Wr S T ∧ PS8 b law n N i o l a1 a2 v T) ?_ (fun v T q i' l' h' => by obtain ⟨rfl, rfl⟩ := h.un h'; exact q)
  unfold B_X4_sum_6
  dsimp only
  refine zk_lt (fun c => absurd c (by omega)) (fun _ => ?_)
  refine zk_bd (H.2.2.2.2.1 0 S i o l h hd) (fun v29 S30 q => ?_)
  obtain ⟨F0, P0⟩ := q
  refine zk_eq (fun c => ?_) (fun c => ?_)
  · refine zk_some ⟨F0, PO.fw (by omega) P0 (fun x hx => ⟨(x.1, x.2.1, x.2.2.1), ⟨hx.1, hx.2.1⟩, fun e he => ?_⟩) l0⟩
    exact eb_e he
  · obtain ⟨i1, mu, t1, t2, t3, t4⟩ := P0.t (by omega)
    have l1N := t1.2.2.2.1
    have hlu : (l ++ mu).length + pn a2 ≤ i1 := by rw [List.length_append]; omega
    refine x_pend a2 (by by_cases e : a2 = -1
                         · exact Or.inl e
                         · exact Or.inr (hM.jn (fun q => e (of_toInt (by rw [q, lm1]))))) t1 hlu (K := fun T => B_X4_sum_32 R k a1 a3 T) (fun S1 ms F1 h1 hms xms => ?_)
    rw [List.append_assoc] at h1
    -- the product so far
    have K1 : ∀ x : XL, GL b i o 1 x → ∃ pr : Int32, rsS b law x.1 x.2.1 o a1 a2 x.2.2.2.1 x.2.2.2.2.1 x.2.2.2.2.2.1 x.2.2.2.2.2.2 x.2.2.1 = eb (lP b (Wk b law x.1 x.2.1) o x.2.2.2.2.2.1 (tpos b i1) pr) (fun p2 w => lS b (Wk b law x.1 (x.2.1 + 1)) o x.2.2.2.2.2.2 (sk b p2) (if a1.toInt = -1 then w else jn a1 x.2.2.2.1 w)) ∧ ∀ (st : List Int32) (g : Int32 × Int32 × Int32), xs x.1 (mu ++ ms) ((p1 a2 x.2.2.2.2.1 ++ p1 a1 x.2.2.2.1) ++ st, g) = (pr :: (p1 a1 x.2.2.2.1 ++ st), g) := by
      intro x hx
      obtain ⟨p, u, w1, w2, _, w4⟩ := t4 (x.1, x.2.1, x.2.2.1) ⟨hx.1, hx.2.1⟩
      refine ⟨if a2.toInt = -1 then u else jn a2 x.2.2.2.2.1 u, ?_, fun st g => ?_⟩
      · unfold rsS
        rw [eb_k w1, w2]
      · have w4 : ∀ (st : List Int32) (g : Int32 × Int32 × Int32), xs x.1 mu (st, g) = (u :: st, g) := w4
        rw [xs_app, w4, List.append_assoc, xms]
    have b3 : (mu ++ ms).length + i ≤ i1 + pn a2 := by rw [List.length_append]; omega
    -- on with a factor
    have go1 : ∀ (t0 : Int32) (T : fS), (t0 = 2002 ∨ t0 = 2003) → (t0 = 2002 ↔ b (tpos b i1) = 42) → (b (tpos b i1) = 42 ∨ b (tpos b i1) = 47) → i1 < N → tpos b (i1 + 1) = sk b (tpos b i1 + 1) → FX Wr S1 T → RD T b law n N (i1 + 1) o (l ++ (mu ++ ms)) → zk (B_X4_sum_118 R k a1 t0 a3 T) (fun v T => FX Wr S T ∧ PS8 b law n N i o l a1 a2 v T) := by
      intro t0 T ht0 hb hb2 hiN1 hnx FT hT
      unfold B_X4_sum_118
      refine zk_iv fun x1 e1 => ?_
      have g1 : x1.toInt = a3.toInt + 1 := by rw [e1]; exact ti_inc (by omega)
      have hpt : pn t0 = 1 := by rcases ht0 with rfl | rfl <;> rfl
      have atT := hT.2.2.1
      have hlen : (l ++ (mu ++ ms)).length + (pn t0 + pn a1) ≤ i1 + 1 := by
        rw [List.length_append]
        omega
      refine zk_imp (hk (a1, t0, x1) T ⟨i1 + 1, l ++ (mu ++ ms), hT, hlen, hA, Or.inr ht0, by dsimp only; omega, by dsimp only; omega⟩ (by show (302 - (ge T 17 0 4).toInt).toNat < (302 - (ge S 17 0 4).toInt).toNat; omega)) (fun v U q => ?_)
      obtain ⟨FU, PU⟩ := q _ _ hT
      refine ⟨((F0.tr F1).tr FT).tr FU, PO.sq (mu ++ ms) PU (by omega) (by dsimp only; omega) (fun x hx => ?_)⟩
      obtain ⟨pr, k1, k2⟩ := K1 x hx
      have hf : 0 < x.2.2.2.2.2.1 := by have a := hx.2.2.1; have c := tp_300 h (by omega); omega
      have hp1 := h.tpm (j := i) (k := i1) t2 l1N
      have hp2 := t1.tp1 hiN1
      obtain ⟨f, hf⟩ : ∃ f : Nat, x.2.2.2.2.2.1 = f + 1 := ⟨x.2.2.2.2.2.1 - 1, by omega⟩
      refine ⟨(x.1, x.2.1, tpos b i1 + 1, x.2.2.2.1, pr, f, x.2.2.2.2.2.2), ⟨hx.1, hnx.symm, ?_, ?_⟩, ?_, rfl, fun st g => ?_⟩
      · have := hx.2.2.1
        dsimp only
        omega
      · have := hx.2.2.2
        dsimp only
        omega
      · dsimp only
        rw [k1, hf, lP_go hb2, eb_eb]
        unfold rsS
        congr 1
        funext p u
        have ej : (if b (tpos b i1) = 42 then pr * u else if u = 0 then 0 else pr / u) = (if t0.toInt = -1 then u else jn t0 pr u) := by
          rcases ht0 with e | e
          · rw [if_pos (hb.1 e), e]; rfl
          · rw [if_neg (fun q => absurd (hb.2 q) (by rw [e]; decide)), e]; rfl
        rw [ej]
      · dsimp only
        rw [k2]
        show _ = ((p1 t0 pr ++ p1 a1 x.2.2.2.1) ++ st, g)
        have : p1 t0 pr = [pr] := by unfold p1; rw [if_neg (by rcases ht0 with e | e <;> rw [e] <;> decide)]
        rw [this]
        rfl
    -- the product is done
    have fin : ∀ T : fS, ¬ (b (tpos b i1) = 42 ∨ b (tpos b i1) = 47) → FX Wr S1 T → RD T b law n N i1 o (l ++ (mu ++ ms)) → zk (B_X4_sum_63 R k a1 a3 (-1) T) (fun v T => FX Wr S T ∧ PS8 b law n N i o l a1 a2 v T) := by
      intro T hb FT hT
      unfold B_X4_sum_63
      refine zk_bbt rfl ?_
      have hl2 : (l ++ (mu ++ ms)).length + pn a1 ≤ i1 := by rw [List.length_append]; omega
      refine x_pend a1 (by by_cases e : a1 = -1
                           · exact Or.inl e
                           · exact Or.inr (hA.jn (fun q => e (of_toInt (by rw [q, lm1]))))) hT hl2 (K := fun T => B_X4_sum_79 R k (-1) a3 T) (fun S2 ma F2 h2 hma xma => ?_)
      rw [List.append_assoc] at h2
      have K2 : ∀ x : XL, GL b i o 1 x → ∃ s : Int32, rsS b law x.1 x.2.1 o a1 a2 x.2.2.2.1 x.2.2.2.2.1 x.2.2.2.2.2.1 x.2.2.2.2.2.2 x.2.2.1 = lS b (Wk b law x.1 (x.2.1 + 1)) o x.2.2.2.2.2.2 (tpos b i1) s ∧ ∀ (st : List Int32) (g : Int32 × Int32 × Int32), xs x.1 (mu ++ ms ++ ma) ((p1 a2 x.2.2.2.2.1 ++ p1 a1 x.2.2.2.1) ++ st, g) = (s :: st, g) := by
        intro x hx
        obtain ⟨pr, k1, k2⟩ := K1 x hx
        refine ⟨if a1.toInt = -1 then pr else jn a1 x.2.2.2.1 pr, ?_, fun st g => ?_⟩
        · rw [k1, lP_no hb, eb_k rfl, tp_sk htx]
        · rw [xs_app, k2, xma]
      have b4 : (mu ++ ms ++ ma).length + i ≤ i1 + (pn a2 + pn a1) := by rw [List.length_append]; omega
      have FF := ((F0.tr F1).tr FT).tr F2
      have go2 : ∀ (t0 : Int32) (U : fS), (t0 = 2000 ∨ t0 = 2001) → (t0 = 2000 ↔ b (tpos b i1) = 43) → (b (tpos b i1) = 43 ∨ b (tpos b i1) = 45) → i1 < N → tpos b (i1 + 1) = sk b (tpos b i1 + 1) → FX Wr S2 U → RD U b law n N (i1 + 1) o (l ++ (mu ++ ms ++ ma)) → zk (B_X4_sum_110 R k (-1) a3 t0 U) (fun v T => FX Wr S T ∧ PS8 b law n N i o l a1 a2 v T) := by
        intro t0 U ht0 hb3 hb4 hiN1 hnx FU hU
        unfold B_X4_sum_110
        refine zk_bbf (by rcases ht0 with rfl | rfl <;> decide) ?_
        unfold B_X4_sum_118
        refine zk_iv fun x1 e1 => ?_
        have g1 : x1.toInt = a3.toInt + 1 := by rw [e1]; exact ti_inc (by omega)
        have hpt : pn t0 = 1 := by rcases ht0 with rfl | rfl <;> rfl
        have hpm : pn (-1) = 0 := rfl
        have atU := hU.2.2.1
        have hlen : (l ++ (mu ++ ms ++ ma)).length + (pn (-1) + pn t0) ≤ i1 + 1 := by
          rw [List.length_append]
          omega
        refine zk_imp (hk (t0, -1, x1) U ⟨i1 + 1, l ++ (mu ++ ms ++ ma), hU, hlen, Or.inr ht0, Or.inl rfl, by dsimp only; omega, by dsimp only; omega⟩ (by show (302 - (ge U 17 0 4).toInt).toNat < (302 - (ge S 17 0 4).toInt).toNat; omega)) (fun v V q => ?_)
        obtain ⟨FV, PV⟩ := q _ _ hU
        refine ⟨(FF.tr FU).tr FV, PO.sq (mu ++ ms ++ ma) PV (by omega) (by dsimp only; omega) (fun x hx => ?_)⟩
        obtain ⟨s, k1, k2⟩ := K2 x hx
        have hf : 0 < x.2.2.2.2.2.2 := by have a := hx.2.2.2; have c := tp_300 h (by omega); omega
        have hp1 := h.tpm (j := i) (k := i1) t2 l1N
        have hp2 := t1.tp1 hiN1
        obtain ⟨f, hf⟩ : ∃ f : Nat, x.2.2.2.2.2.2 = f + 1 := ⟨x.2.2.2.2.2.2 - 1, by omega⟩
        refine ⟨(x.1, x.2.1, tpos b i1 + 1, s, 0, 302, f), ⟨hx.1, hnx.symm, ?_, ?_⟩, ?_, rfl, fun st g => ?_⟩
        · dsimp only
          omega
        · have := hx.2.2.2
          dsimp only
          omega
        · dsimp only
          rw [k1, hf, lS_go hb4, Wk_1, eb_eb]
          unfold rsS
          congr 1
          funext p u
          rw [if_pos (c := (-1 : Int32).toInt = -1) lm1]
          congr 1
          funext p2 u2
          have ej : (if b (tpos b i1) = 43 then s + u2 else s - u2) = (if t0.toInt = -1 then u2 else jn t0 s u2) := by
            rcases ht0 with e | e
            · rw [if_pos (hb3.1 e), e]; rfl
            · rw [if_neg (fun q => absurd (hb3.2 q) (by rw [e]; decide)), e]; rfl
          rw [ej]
        · dsimp only
          rw [k2]
          show _ = ((p1 (-1) 0 ++ p1 t0 s) ++ st, g)
          have : p1 t0 s = [s] := by unfold p1; rw [if_neg (by rcases ht0 with e | e <;> rw [e] <;> decide)]
          rw [this]
          rfl
      unfold B_X4_sum_79
      refine zk_bd (x_passed 43 (by decide) h2) (fun v3 S4 q => ?_)
      rcases q with ⟨q1, rfl, q3⟩ | ⟨q1, q2, q3, q4, q5⟩
      · refine zk_bbt (of_toInt (by rw [q1]; exact l0.symm)) ?_
        have n43 := h2.ns q3 (by decide) (by decide) (by decide) (by decide)
        rw [show (43 : Int32).toInt = 43 from by decide] at n43
        refine zk_bd (x_passed 45 (by decide) h2) (fun v7 S8 q => ?_)
        rcases q with ⟨r1, rfl, r3⟩ | ⟨r1, r2, r3, r4, r5⟩
        · refine zk_bbt (of_toInt (by rw [r1]; exact l0.symm)) ?_
          have n45 := h2.ns r3 (by decide) (by decide) (by decide) (by decide)
          rw [show (45 : Int32).toInt = 45 from by decide] at n45
          unfold B_X4_sum_110
          refine zk_bbt rfl (zk_some ⟨FF, Or.inr ⟨l1, i1, mu ++ ms ++ ma, h2, t2, b4, fun x hx => ?_⟩⟩)
          obtain ⟨s, k1, k2⟩ := K2 x hx
          exact ⟨tpos b i1, s, by dsimp only; rw [k1, lS_no (by omega)], tp_sk htx i1, trivial, k2⟩
        · refine zk_bbf (fun e => by rw [e] at r1; omega) ?_
          obtain ⟨c1, c2⟩ := h2.sg r2 (by decide) (by decide) (by decide) (by decide)
          rw [show (45 : Int32).toInt = 45 from by decide] at c1
          exact go2 2001 _ (Or.inr rfl) ⟨fun q => absurd q (by decide), fun q => by omega⟩ (Or.inr c1) r3 c2 r4 r5
      · refine zk_bbf (fun e => by rw [e] at q1; omega) ?_
        obtain ⟨c1, c2⟩ := h2.sg q2 (by decide) (by decide) (by decide) (by decide)
        rw [show (43 : Int32).toInt = 43 from by decide] at c1
        exact go2 2000 _ (Or.inl rfl) ⟨fun _ => c1, fun _ => rfl⟩ (Or.inl c1) q3 c2 q4 q5
    unfold B_X4_sum_32
    refine zk_bd (x_passed 42 (by decide) h1) (fun v16 S17 q => ?_)
    rcases q with ⟨q1, rfl, q3⟩ | ⟨q1, q2, q3, q4, q5⟩
    · refine zk_bbt (of_toInt (by rw [q1]; exact l0.symm)) ?_
      have n42 := h1.ns q3 (by decide) (by decide) (by decide) (by decide)
      rw [show (42 : Int32).toInt = 42 from by decide] at n42
      refine zk_bd (x_passed 47 (by decide) h1) (fun v20 S21 q => ?_)
      rcases q with ⟨r1, rfl, r3⟩ | ⟨r1, r2, r3, r4, r5⟩
      · refine zk_bbt (of_toInt (by rw [r1]; exact l0.symm)) ?_
        have n47 := h1.ns r3 (by decide) (by decide) (by decide) (by decide)
        rw [show (47 : Int32).toInt = 47 from by decide] at n47
        exact fin _ (by omega) FX.rf h1
      · refine zk_bbf (fun e => by rw [e] at r1; omega) ?_
        obtain ⟨c1, c2⟩ := h1.sg r2 (by decide) (by decide) (by decide) (by decide)
        rw [show (47 : Int32).toInt = 47 from by decide] at c1
        unfold B_X4_sum_63
        exact zk_bbf (by decide) (go1 2003 _ (Or.inr rfl) ⟨fun q => absurd q (by decide), fun q => by omega⟩ (Or.inr c1) r3 c2 r4 r5)
    · refine zk_bbf (fun e => by rw [e] at q1; omega) ?_
      obtain ⟨c1, c2⟩ := h1.sg q2 (by decide) (by decide) (by decide) (by decide)
      rw [show (42 : Int32).toInt = 42 from by decide] at c1
      unfold B_X4_sum_63
      exact zk_bbf (by decide) (go1 2002 _ (Or.inl rfl) ⟨fun _ => c1, fun _ => rfl⟩ (Or.inl c1) q3 c2 q4 q5)
theorem u_sum (H : HC b law n N R d) (h : RD S b law n N i o l) (hd : 3 * (6 - o) + 2 ≤ d) : zk (N_X4_sum R S) (fun v T => FX Wr S T ∧ PQ b law n N i o l 2 3 V1 v T) := by
  have l0 : (0 : Int32).toInt = 0 := by decide
  unfold N_X4_sum
  refine zk_imp (n_lsum H hd (-1, -1, 0) S ⟨i, l, h, h.2.2.2.2.2.2.2, Or.inl rfl, Or.inl rfl, by dsimp only; omega, by dsimp only; omega⟩) (fun v T q => ?_)
  obtain ⟨F, P⟩ := q i l h
  refine ⟨F, PO.sq (pd2 := pn (-1) + pn (-1)) (i1 := i) [] (by rw [List.append_nil]; exact P) (Nat.le_refl _) (by show 0 + i + 0 ≤ i + 0; omega) (fun x hx => ?_)⟩
  obtain ⟨env, D, q⟩ := x
  obtain ⟨hD, hq⟩ := hx
  dsimp only at hD hq
  match D, hD with
  | D + 2, hD =>
    exact ⟨(env, D, q, 0, 0, 302, 302), ⟨by dsimp only; omega, hq, by dsimp only; omega, by dsimp only; omega⟩, Wk_2 env D q 0 0, rfl, fun st g => rfl⟩
end SUM
