/-! the reader, exactly: and, or; the recursion -/
def an (v z : Int32) : Int32 := if v = 0 then 0 else if z = 0 then 0 else 1
def orr (v z : Int32) : Int32 := if v = 0 then (if z = 0 then 0 else 1) else 1
theorem an_V2 (v z : Int32) : V2 (an v z) := by
  unfold an
  by_cases c : v = 0
  · rw [if_pos c]; exact Or.inl rfl
  · rw [if_neg c]
    by_cases c2 : z = 0
    · rw [if_pos c2]; exact Or.inl rfl
    · rw [if_neg c2]; exact Or.inr rfl
theorem orr_V2 (v z : Int32) : V2 (orr v z) := by
  unfold orr
  by_cases c : v = 0
  · rw [if_pos c]
    by_cases c2 : z = 0
    · rw [if_pos c2]; exact Or.inl rfl
    · rw [if_neg c2]; exact Or.inr rfl
  · rw [if_neg c]; exact Or.inr rfl
theorem an_jn {v z : Int32} (h : V2 v) (h2 : V2 z) : jn 2009 v z = an v z := by
  rcases h with rfl | rfl <;> rcases h2 with rfl | rfl <;> decide
theorem orr_jn {v z : Int32} (h : V2 v) (h2 : V2 z) : jn 2010 v z = orr v z := by
  rcases h with rfl | rfl <;> rcases h2 with rfl | rfl <;> decide
section ORS
variable {b : Nat → Int} {law : Bool} {n N i o d : Nat} {l : List Int32} {S T : fS} {R : Nat → Int32 → fS → Option (Int32 × fS)}
def rsC (b : Nat → Int) (law : Bool) (env : Nat → Int32) (D o : Nat) (ei bo v0 v1 : Int32) (f1 f2 q : Nat) : RS7 :=
  eb (Wk b law env D 3 q o) (fun p u => eb (lA b (Wk b law env D) o f1 p (if bo.toInt = 0 then u else an v1 u)) (fun p2 w => lO b (Wk b law env (D + 1)) o f2 p2 (if ei.toInt = 0 then w else orr v0 w)))
theorem lA_no {r : Nat → Nat → Nat → RS7} {f q : Nat} {v : Int32} (h : ¬ wc b (sk b q) = 1111) : lA b r o (f + 1) q v = .ok (sk b q, v) := by
  unfold lA
  rw [if_neg h]
theorem lA_go {r : Nat → Nat → Nat → RS7} {f q : Nat} {v : Int32} (h : wc b (sk b q) = 1111) : lA b r o (f + 1) q v = eb (r 3 (rn b 97 122 (sk b q)) o) (fun p u => lA b r o f p (an v u)) := by
  conv => lhs; unfold lA
  rw [if_pos h]
  cases r 3 (rn b 97 122 (sk b q)) o <;> rfl
theorem lO_no {r : Nat → Nat → Nat → RS7} {f q : Nat} {v : Int32} (h : ¬ wc b (sk b q) = 423) : lO b r o (f + 1) q v = .ok (sk b q, v) := by
  unfold lO
  rw [if_neg h]
theorem lO_go {r : Nat → Nat → Nat → RS7} {f q : Nat} {v : Int32} (h : wc b (sk b q) = 423) : lO b r o (f + 1) q v = eb (r 4 (rn b 97 122 (sk b q)) o) (fun p u => lO b r o f p (orr v u)) := by
  conv => lhs; unfold lO
  rw [if_pos h]
  cases r 4 (rn b 97 122 (sk b q)) o <;> rfl
theorem Wk_4 (env : Nat → Int32) (D q : Nat) : Wk b law env (D + 1) 4 q o = eb (Wk b law env D 3 q o) (fun p u => lA b (Wk b law env D) o 302 p u) := by
  show nA b (Wk b law env D) q o = _
  unfold nA
  cases Wk b law env D 3 q o <;> rfl
theorem Wk_5 (env : Nat → Int32) (D q : Nat) (v0 v1 : Int32) : Wk b law env (D + 1 + 1) 5 q o = rsC b law env D o 0 0 v0 v1 302 302 q := by
  have e : nO b (Wk b law env (D + 1)) q o = eb (Wk b law env (D + 1) 4 q o) (fun p u => lO b (Wk b law env (D + 1)) o 302 p u) := by
    unfold nO
    cases Wk b law env (D + 1) 4 q o <;> rfl
  show nO b (Wk b law env (D + 1)) q o = _
  rw [e, Wk_4, eb_eb]
  rfl
def GcX (b : Nat → Int) (i o k : Nat) (ei bo : Int32) (x : XL) : Prop := GL b i o k x ∧ (bo.toInt = 0 ∨ V2 x.2.2.2.2.1) ∧ (ei.toInt = 0 ∨ V2 x.2.2.2.1)
def p0 (c v : Int32) : List Int32 := if c.toInt = 0 then [] else [v]
def pz (c : Int32) : Nat := if c.toInt = 0 then 0 else 1
def PC8 (b : Nat → Int) (law : Bool) (n N i o : Nat) (l : List Int32) (ei bo : Int32) (v : Int32) (T : fS) : Prop :=
  PO b law n N i o l (pz bo + pz ei) V2 (GcX b i o 4 ei bo) (fun x => x.1) (fun x => p0 bo x.2.2.2.2.1 ++ p0 ei x.2.2.2.1) (fun x => rsC b law x.1 x.2.1 o ei bo x.2.2.2.1 x.2.2.2.2.1 x.2.2.2.2.2.1 x.2.2.2.2.2.2 x.2.2.1) v T
theorem x_pendz (c e : Int32) (f : Int32 → Int32 → Int32) (he : 2000 ≤ e.toInt ∧ e.toInt < 2011) (hf : ∀ x y : Int32, V2 x → V2 y → jn e x y = f x y) (h : RD S b law n N i o l) (hl : l.length + pz c ≤ i) {K : fS → Option (Int32 × fS)} {Q : Int32 → fS → Prop} (hK : ∀ (T : fS) (m : List Int32), FX Wr S T → RD T b law n N i o (l ++ m) → m.length = pz c → (∀ (env : Nat → Int32) (x y : Int32) (st : List Int32) (g : Int32 × Int32 × Int32), (c.toInt = 0 ∨ V2 x) → V2 y → xs env m (y :: (p0 c x ++ st), g) = ((if c.toInt = 0 then y else f x y) :: st, g)) → zk (K T) Q) : zk (bb (c = (0 : Int32)) (K S) (bd (F_X4_emit e S) (fun _ T => K T))) Q := by
  have l0 : (0 : Int32).toInt = 0 := by decide
  refine zk_bb (fun e => ?_) (fun e => ?_)
  · refine hK S [] FX.rf (by rw [List.append_nil]; exact h) (by unfold pz; rw [e, if_pos l0]; rfl) (fun env x y st g _ _ => ?_)
    unfold p0
    rw [e, if_pos l0, if_pos l0]
    rfl
  · have hn : ¬ c.toInt = 0 := fun q => e (of_toInt (by rw [q, l0]))
    have e1 : pz c = 1 := by unfold pz; rw [if_neg hn]
    refine zk_bd (x_emit _ h (by omega)) (fun _ T q => ?_)
    refine hK T _ q.1 q.2 (by rw [e1]; rfl) (fun env x y st g hx hy => ?_)
    unfold p0
    rw [if_neg hn, if_neg hn, xs_one, ← hf x y (hx.elim (fun q => absurd q hn) id) hy]
    exact xw_jn he.1 he.2
theorem n_lcon (H : HC b law n N R d) (hd : 3 * (6 - o) + 4 ≤ d) : ∀ (z : Int32 × Int32 × Int32) (S : fS), (∃ (i : Nat) (l : List Int32), RD S b law n N i o l ∧ l.length + (pz z.2.1 + pz z.1) ≤ i ∧ V2 z.1 ∧ V2 z.2.1 ∧ 0 ≤ z.2.2.toInt ∧ z.2.2.toInt ≤ (i : Int)) → zk (lp (B_X4_condition_6 R) fuel z S) (fun v T => ∀ (i : Nat) (l : List Int32), RD S b law n N i o l → FX Wr S T ∧ PC8 b law n N i o l z.1 z.2.1 v T) := by
  have l0 : (0 : Int32).toInt = 0 := by decide
  have l1 : (1 : Int32).toInt = 1 := by decide
  have l300 : (300 : Int32).toInt = 300 := by decide
  intro z S hI
  refine zk_lp (fun (z : Int32 × Int32 × Int32) S => ∃ (i : Nat) (l : List Int32), RD S b law n N i o l ∧ l.length + (pz z.2.1 + pz z.1) ≤ i ∧ V2 z.1 ∧ V2 z.2.1 ∧ 0 ≤ z.2.2.toInt ∧ z.2.2.toInt ≤ (i : Int)) (fun _ T => (302 - (ge T 17 0 4).toInt).toNat) (fun (z : Int32 × Int32 × Int32) S (v : Int32) T => ∀ (i : Nat) (l : List Int32), RD S b law n N i o l → FX Wr S T ∧ PC8 b law n N i o l z.1 z.2.1 v T) ?_ z S hI (by obtain ⟨i, l, h, _⟩ := hI; have := h.2.2.1; show (302 - (ge S 17 0 4).toInt).toNat < 4294967296; omega)
  clear hI
  intro k z S hI hk
  obtain ⟨a1, a2, a3⟩ := z
  obtain ⟨i, l, h, hl, hA, hM, h3a, h3b⟩ := hI
  dsimp only at hl hA hM h3a h3b
  have hN := h.N300
  have hiN := h.2.2.2.1
  have htx := h.tx
  have at0 := h.2.2.1
  refine zk_imp (Q' := fun v T => FX Wr S T ∧ PC8 b law n N i o l a1 a2 v T) ?_ (fun v T q i' l' h' => by obtain ⟨rfl, rfl⟩ := h.un h'; exact q)
  unfold B_X4_condition_6
  dsimp only
  refine zk_lt (fun c => absurd c (by omega)) (fun _ => ?_)
  refine zk_bd (H.2.1 0 S i o l h hd) (fun v19 S20 q => ?_)
  obtain ⟨F0, P0⟩ := q
  refine zk_eq (fun c => ?_) (fun c => ?_)
  · refine zk_some ⟨F0, PO.fw (by omega) P0 (fun x hx => ⟨(x.1, x.2.1, x.2.2.1), ⟨hx.1.1, hx.1.2.1⟩, fun e he => ?_⟩) l0⟩
    exact eb_e he
  · obtain ⟨i1, mu, t1, t2, t3, t4⟩ := P0.t (by omega)
    have l1N := t1.2.2.2.1
    have hlu : (l ++ mu).length + pz a2 ≤ i1 := by rw [List.length_append]; omega
    refine x_pendz a2 2009 an (by decide) (fun x y => an_jn) t1 hlu (K := fun T => B_X4_condition_33 R k a1 a3 T) (fun S1 ms F1 h1 hms xms => ?_)
    rw [List.append_assoc] at h1
    have K1 : ∀ x : XL, GcX b i o 4 a1 a2 x → ∃ (pr : Int32) (p : Nat), sk b p = tpos b i1 ∧ V2 pr ∧ rsC b law x.1 x.2.1 o a1 a2 x.2.2.2.1 x.2.2.2.2.1 x.2.2.2.2.2.1 x.2.2.2.2.2.2 x.2.2.1 = eb (lA b (Wk b law x.1 x.2.1) o x.2.2.2.2.2.1 p pr) (fun p2 w => lO b (Wk b law x.1 (x.2.1 + 1)) o x.2.2.2.2.2.2 p2 (if a1.toInt = 0 then w else orr x.2.2.2.1 w)) ∧ ∀ (st : List Int32) (g : Int32 × Int32 × Int32), xs x.1 (mu ++ ms) ((p0 a2 x.2.2.2.2.1 ++ p0 a1 x.2.2.2.1) ++ st, g) = (pr :: (p0 a1 x.2.2.2.1 ++ st), g) := by
      intro x hx
      obtain ⟨p, u, w1, w2, w3, w4⟩ := t4 (x.1, x.2.1, x.2.2.1) ⟨hx.1.1, hx.1.2.1⟩
      refine ⟨if a2.toInt = 0 then u else an x.2.2.2.2.1 u, p, w2, ?_, ?_, fun st g => ?_⟩
      · by_cases c : a2.toInt = 0
        · rw [if_pos c]; exact w3
        · rw [if_neg c]; exact an_V2 _ _
      · unfold rsC
        rw [eb_k w1]
      · have w4 : ∀ (st : List Int32) (g : Int32 × Int32 × Int32), xs x.1 mu (st, g) = (u :: st, g) := w4
        rw [xs_app, w4, List.append_assoc, xms _ _ _ _ _ hx.2.1 w3]
    have b3 : (mu ++ ms).length + i ≤ i1 + pz a2 := by rw [List.length_append]; omega
    have fuelp : ∀ f : Nat, 301 ≤ f + tpos b i → ∃ f' : Nat, f = f' + 1 ∧ 301 ≤ f' + 1 + tpos b i1 ∧ ∀ j : Nat, i1 < j → j ≤ N → 301 ≤ f' + tpos b j := by
      intro f hf
      have hp1 := h.tpm (j := i) (k := i1) t2 l1N
      have hp2 := t1.tpn l1N
      have hn := h.1.1.1
      refine ⟨f - 1, by omega, by omega, fun j h1 h2 => ?_⟩
      have := t1.tpm (j := i1) (k := j) h1 h2
      omega
    -- on, with a test
    have go1 : ∀ (v6 : Int32) (T : fS), v6.toInt = 1 → kd b (tpos b i1) = 265 → i1 < N → FX Wr S1 T → RD T b law n N (i1 + 1) o (l ++ (mu ++ ms)) → zk (B_X4_condition_70 R k a1 v6 a3 T) (fun v T => FX Wr S T ∧ PC8 b law n N i o l a1 a2 v T) := by
      intro v6 T hv6 hb hiN1 FT hT
      obtain ⟨wk1, _, hnx⟩ := h1.wd hb (by decide)
      have hw := (wkd_in wk1).2.2.2.2.2.1 rfl
      unfold B_X4_condition_70
      refine zk_iv fun x1 e1 => ?_
      have g1 : x1.toInt = a3.toInt + 1 := by rw [e1]; exact ti_inc (by omega)
      have hpt : pz v6 = 1 := by unfold pz; rw [if_neg (by omega)]
      have atT := hT.2.2.1
      have hlen : (l ++ (mu ++ ms)).length + (pz v6 + pz a1) ≤ i1 + 1 := by
        rw [List.length_append]
        omega
      refine zk_imp (hk (a1, v6, x1) T ⟨i1 + 1, l ++ (mu ++ ms), hT, hlen, hA, Or.inr (of_toInt (by rw [hv6, l1])), by dsimp only; omega, by dsimp only; omega⟩ (by show (302 - (ge T 17 0 4).toInt).toNat < (302 - (ge S 17 0 4).toInt).toNat; omega)) (fun v U q => ?_)
      obtain ⟨FU, PU⟩ := q _ _ hT
      refine ⟨((F0.tr F1).tr FT).tr FU, PO.sq (mu ++ ms) PU (by omega) (by dsimp only; omega) (fun x hx => ?_)⟩
      obtain ⟨pr, p, k0, kv, k1, k2⟩ := K1 x hx
      obtain ⟨f, hf, _, hf2⟩ := fuelp x.2.2.2.2.2.1 hx.1.2.2.1
      refine ⟨(x.1, x.2.1, rn b 97 122 (tpos b i1), x.2.2.2.1, pr, f, x.2.2.2.2.2.2), ⟨⟨hx.1.1, hnx.symm, ?_, ?_⟩, Or.inr kv, hx.2.2⟩, ?_, rfl, fun st g => ?_⟩
      · exact hf2 (i1 + 1) (by omega) (by omega)
      · have a := hx.1.2.2.2
        have c := h.tpm (j := i) (k := i1 + 1) (by omega) (by omega)
        dsimp only
        omega
      · dsimp only
        rw [k1, hf, lA_go (by rw [k0]; exact hw), k0, eb_eb]
        unfold rsC
        have hv6n : ¬ v6.toInt = 0 := by omega
        simp only [if_neg hv6n]
      · dsimp only
        rw [k2]
        show _ = ((p0 v6 pr ++ p0 a1 x.2.2.2.1) ++ st, g)
        have : p0 v6 pr = [pr] := by unfold p0; rw [if_neg (by omega)]
        rw [this]
        rfl
    have fin : ∀ (v6 : Int32) (T : fS), v6.toInt = 0 → ¬ wc b (tpos b i1) = 1111 → FX Wr S1 T → RD T b law n N i1 o (l ++ (mu ++ ms)) → zk (bb (a1 = (0 : Int32)) (B_X4_condition_56 R k v6 a3 T) (bd (F_X4_emit 2010 T) (fun v11 S12 => B_X4_condition_56 R k v6 a3 S12))) (fun v T => FX Wr S T ∧ PC8 b law n N i o l a1 a2 v T) := by
      intro v6 T hv6 hb FT hT
      have hl2 : (l ++ (mu ++ ms)).length + pz a1 ≤ i1 := by rw [List.length_append]; omega
      refine x_pendz a1 2010 orr (by decide) (fun x y => orr_jn) hT hl2 (K := fun T => B_X4_condition_56 R k v6 a3 T) (fun S2 ma F2 h2 hma xma => ?_)
      rw [List.append_assoc] at h2
      have K2 : ∀ x : XL, GcX b i o 4 a1 a2 x → ∃ s : Int32, V2 s ∧ rsC b law x.1 x.2.1 o a1 a2 x.2.2.2.1 x.2.2.2.2.1 x.2.2.2.2.2.1 x.2.2.2.2.2.2 x.2.2.1 = lO b (Wk b law x.1 (x.2.1 + 1)) o x.2.2.2.2.2.2 (tpos b i1) s ∧ ∀ (st : List Int32) (g : Int32 × Int32 × Int32), xs x.1 (mu ++ ms ++ ma) ((p0 a2 x.2.2.2.2.1 ++ p0 a1 x.2.2.2.1) ++ st, g) = (s :: st, g) := by
        intro x hx
        obtain ⟨pr, p, k0, kv, k1, k2⟩ := K1 x hx
        obtain ⟨f, hf, _, _⟩ := fuelp x.2.2.2.2.2.1 hx.1.2.2.1
        refine ⟨if a1.toInt = 0 then pr else orr x.2.2.2.1 pr, ?_, ?_, fun st g => ?_⟩
        · by_cases c : a1.toInt = 0
          · rw [if_pos c]; exact kv
          · rw [if_neg c]; exact orr_V2 _ _
        · rw [k1, hf, lA_no (by rw [k0]; exact hb), eb_k rfl, k0]
        · rw [xs_app, k2, xma _ _ _ _ _ hx.2.2 kv]
      have b4 : (mu ++ ms ++ ma).length + i ≤ i1 + (pz a2 + pz a1) := by rw [List.length_append]; omega
      have FF := ((F0.tr F1).tr FT).tr F2
      unfold B_X4_condition_56
      refine zk_bd (x_passed 264 (by decide) h2) (fun v2 S3 q => ?_)
      rcases q with ⟨q1, rfl, q3⟩ | ⟨q1, q2, q3, q4, q5⟩
      · refine zk_bbt (of_toInt (by rw [q1]; exact l0.symm)) ?_
        have nw : ¬ wc b (tpos b i1) = 423 := h2.nw q3 (by decide) (by decide)
        refine zk_some ⟨FF, Or.inr ⟨l1, i1, mu ++ ms ++ ma, h2, t2, b4, fun x hx => ?_⟩⟩
        obtain ⟨s, kv, k1, k2⟩ := K2 x hx
        obtain ⟨f, hf, _, _⟩ := fuelp x.2.2.2.2.2.2 hx.1.2.2.2
        exact ⟨tpos b i1, s, by dsimp only; rw [k1, hf, lO_no (by rw [tp_sk htx]; exact nw), tp_sk htx], tp_sk htx i1, kv, k2⟩
      · refine zk_bbf (fun e => by rw [e] at q1; omega) ?_
        obtain ⟨wk1, _, hnx⟩ := h2.wd (c := 264) q2 (by decide)
        have hw := (wkd_in wk1).2.2.2.2.1 rfl
        unfold B_X4_condition_70
        refine zk_iv fun x1 e1 => ?_
        have g1 : x1.toInt = a3.toInt + 1 := by rw [e1]; exact ti_inc (by omega)
        have hpt : pz v2 = 1 := by unfold pz; rw [if_neg (by omega)]
        have hpm : pz v6 = 0 := by unfold pz; rw [if_pos hv6]
        have atU := q5.2.2.1
        have hlen : (l ++ (mu ++ ms ++ ma)).length + (pz v6 + pz v2) ≤ i1 + 1 := by
          rw [List.length_append]
          omega
        refine zk_imp (hk (v2, v6, x1) S3 ⟨i1 + 1, l ++ (mu ++ ms ++ ma), q5, hlen, Or.inr (of_toInt (by rw [q1, l1])), Or.inl (of_toInt (by rw [hv6, l0])), by dsimp only; omega, by dsimp only; omega⟩ (by show (302 - (ge S3 17 0 4).toInt).toNat < (302 - (ge S 17 0 4).toInt).toNat; omega)) (fun v V q => ?_)
        obtain ⟨FV, PV⟩ := q _ _ q5
        refine ⟨(FF.tr q4).tr FV, PO.sq (mu ++ ms ++ ma) PV (by omega) (by dsimp only; omega) (fun x hx => ?_)⟩
        obtain ⟨s, kv, k1, k2⟩ := K2 x hx
        obtain ⟨f, hf, _, hf2⟩ := fuelp x.2.2.2.2.2.2 hx.1.2.2.2
        refine ⟨(x.1, x.2.1, rn b 97 122 (tpos b i1), s, 0, 302, f), ⟨⟨hx.1.1, hnx.symm, ?_, ?_⟩, Or.inl hv6, Or.inr kv⟩, ?_, rfl, fun st g => ?_⟩
        · dsimp only
          omega
        · exact hf2 (i1 + 1) (by omega) (by omega)
        · dsimp only
          rw [k1, hf, lO_go (by rw [tp_sk htx]; exact hw), tp_sk htx, Wk_4, eb_eb]
          unfold rsC
          have hv2n : ¬ v2.toInt = 0 := by omega
          simp only [if_pos hv6, if_neg hv2n]
        · dsimp only
          rw [k2]
          show _ = ((p0 v6 0 ++ p0 v2 s) ++ st, g)
          have e1 : p0 v2 s = [s] := by unfold p0; rw [if_neg (by omega)]
          have e2 : p0 v6 0 = [] := by unfold p0; rw [if_pos hv6]
          rw [e1, e2]
          rfl
    unfold B_X4_condition_33
    refine zk_bd (x_passed 265 (by decide) h1) (fun v6 S7 q => ?_)
    rcases q with ⟨q1, rfl, q3⟩ | ⟨q1, q2, q3, q4, q5⟩
    · refine zk_bbt (of_toInt (by rw [q1]; exact l0.symm)) ?_
      have nw : ¬ wc b (tpos b i1) = 1111 := h1.nw q3 (by decide) (by decide)
      exact fin v6 _ q1 nw FX.rf h1
    · refine zk_bbf (fun e => by rw [e] at q1; omega) ?_
      exact go1 v6 _ q1 q2 q3 q4 q5
theorem u_condition (H : HC b law n N R d) (h : RD S b law n N i o l) (hd : 3 * (6 - o) + 4 ≤ d) : zk (N_X4_condition R S) (fun v T => FX Wr S T ∧ PQ b law n N i o l 5 6 V2 v T) := by
  have l0 : (0 : Int32).toInt = 0 := by decide
  unfold N_X4_condition
  refine zk_imp (n_lcon H hd (0, 0, 0) S ⟨i, l, h, h.2.2.2.2.2.2.2, Or.inl rfl, Or.inl rfl, by dsimp only; omega, by dsimp only; omega⟩) (fun v T q => ?_)
  obtain ⟨F, P⟩ := q i l h
  refine ⟨F, PO.sq (pd2 := pz 0 + pz 0) (i1 := i) [] (by rw [List.append_nil]; exact P) (Nat.le_refl _) (by show 0 + i + 0 ≤ i + 0; omega) (fun x hx => ?_)⟩
  obtain ⟨env, D, q⟩ := x
  obtain ⟨hD, hq⟩ := hx
  dsimp only at hD hq
  match D, hD with
  | D + 2, hD =>
    exact ⟨(env, D, q, 0, 0, 302, 302), ⟨⟨by dsimp only; omega, hq, by dsimp only; omega, by dsimp only; omega⟩, Or.inl l0, Or.inl l0⟩, Wk_5 env D q 0 0, rfl, fun st g => rfl⟩
end ORS
/-- the whole recursion -/
theorem n_R4 (b : Nat → Int) (law : Bool) (n N : Nat) : ∀ d : Nat, HC b law n N (R_X4r d) d
  | 0 => by
    refine ⟨?_, ?_, ?_, ?_, ?_, ?_⟩
    · intro q S i o l h hd
      omega
    · intro q S i o l h hd
      omega
    · intro q S i o l h _ hd
      omega
    · intro q S i o l h hd
      omega
    · intro q S i o l h hd
      omega
    · intro q S i o l h _ hd
      omega
  | d + 1 => by
    have H := n_R4 b law n N d
    refine ⟨?_, ?_, ?_, ?_, ?_, ?_⟩
    · intro q S i o l h hd
      exact u_condition H h (by omega)
    · intro q S i o l h hd
      exact u_claim H h (by omega)
    · intro q S i o l h hk hd
      exact u_denial H h hk (by omega)
    · intro q S i o l h hd
      exact u_sum H h (by omega)
    · intro q S i o l h hd
      exact u_unit H h (by omega)
    · intro q S i o l h hk hd
      exact u_choice H q h hk (by omega)
