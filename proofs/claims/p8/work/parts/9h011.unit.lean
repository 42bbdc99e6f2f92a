/-! the reader, exactly: units -/
/-- what a piece of reading gives: a fault, for all x alike, or a code m that works to y for each x -/
def PO {X : Type} (b : Nat → Int) (law : Bool) (n N i o : Nat) (l : List Int32) (pd : Nat) (V : Int32 → Prop) (G : X → Prop) (en : X → Nat → Int32) (pre : X → List Int32) (w : X → RS7) (v : Int32) (T : fS) : Prop :=
  (v.toInt = 0 ∧ ∀ x : X, G x → ∃ e : Int × Nat, w x = .error e ∧ (ge T 17 0 10).toInt = e.1 ∧ (ge T 17 0 11).toInt = (e.2 : Int)) ∨
  (v.toInt = 1 ∧ ∃ (i' : Nat) (m : List Int32), RD T b law n N i' o (l ++ m) ∧ i < i' ∧ m.length + i ≤ i' + pd ∧ ∀ x : X, G x → ∃ (q : Nat) (y : Int32), w x = .ok (q, y) ∧ sk b q = tpos b i' ∧ V y ∧ ∀ (st : List Int32) (g : Int32 × Int32 × Int32), xs (en x) m (pre x ++ st, g) = (y :: st, g))
abbrev XE : Type := (Nat → Int32) × Nat × Nat
/-- nonterminal j of the walk, which wants k -/
def PQ (b : Nat → Int) (law : Bool) (n N i o : Nat) (l : List Int32) (j k : Nat) (V : Int32 → Prop) (v : Int32) (T : fS) : Prop := PO b law n N i o l 0 V (fun x : XE => 3 * (6 - o) + k ≤ x.2.1 ∧ sk b x.2.2 = tpos b i) (fun x => x.1) (fun _ => []) (fun x => Wk b law x.1 x.2.1 j x.2.2 o) v T
def V1 (_ : Int32) : Prop := True
def V2 (y : Int32) : Prop := y = 0 ∨ y = 1
def HC (b : Nat → Int) (law : Bool) (n N : Nat) (R : Nat → Int32 → fS → Option (Int32 × fS)) (d : Nat) : Prop :=
  (∀ (q : Int32) (S : fS) (i o : Nat) (l : List Int32), RD S b law n N i o l → 3 * (6 - o) + 5 ≤ d → zk (R 0 q S) (fun v T => FX Wr S T ∧ PQ b law n N i o l 5 6 V2 v T)) ∧
  (∀ (q : Int32) (S : fS) (i o : Nat) (l : List Int32), RD S b law n N i o l → 3 * (6 - o) + 4 ≤ d → zk (R 1 q S) (fun v T => FX Wr S T ∧ PQ b law n N i o l 3 4 V2 v T)) ∧
  (∀ (q : Int32) (S : fS) (i o : Nat) (l : List Int32), RD S b law n N i o l → kd b (tpos b i) = 266 → 3 * (6 - o) + 2 ≤ d → zk (R 2 q S) (fun v T => FX Wr S T ∧ PQ b law n N i o l 3 4 V2 v T)) ∧
  (∀ (q : Int32) (S : fS) (i o : Nat) (l : List Int32), RD S b law n N i o l → 3 * (6 - o) + 3 ≤ d → zk (R 3 q S) (fun v T => FX Wr S T ∧ PQ b law n N i o l 2 3 V1 v T)) ∧
  (∀ (q : Int32) (S : fS) (i o : Nat) (l : List Int32), RD S b law n N i o l → 3 * (6 - o) + 2 ≤ d → zk (R 4 q S) (fun v T => FX Wr S T ∧ PQ b law n N i o l 0 1 V1 v T)) ∧
  (∀ (q : Int32) (S : fS) (i o : Nat) (l : List Int32), RD S b law n N i o l → ((kd b (tpos b i) = 267 ∧ q = 2004) ∨ (kd b (tpos b i) = 268 ∧ q = 2005)) → 3 * (6 - o) + 1 ≤ d → zk (R 5 q S) (fun v T => FX Wr S T ∧ PQ b law n N i o l 0 1 V1 v T))
section RUN
variable {b : Nat → Int} {law : Bool} {n N i o d : Nat} {l : List Int32} {S T : fS} {R : Nat → Int32 → fS → Option (Int32 × fS)} {X : Type} {pd : Nat} {V : Int32 → Prop} {G : X → Prop} {en : X → Nat → Int32} {pre : X → List Int32} {w : X → RS7} {v : Int32}
theorem PO.v01 (h : PO b law n N i o l pd V G en pre w v T) : v = 0 ∨ v = 1 := by
  rcases h with h | h
  · exact Or.inl (of_toInt (by rw [h.1]; decide))
  · exact Or.inr (of_toInt (by rw [h.1]; decide))
theorem PO.f (h : PO b law n N i o l pd V G en pre w v T) (hv : v.toInt = 0) : ∀ x : X, G x → ∃ e : Int × Nat, w x = .error e ∧ (ge T 17 0 10).toInt = e.1 ∧ (ge T 17 0 11).toInt = (e.2 : Int) := by
  rcases h with h | h
  · exact h.2
  · exact absurd h.1 (by omega)
theorem PO.t (h : PO b law n N i o l pd V G en pre w v T) (hv : ¬ v.toInt = 0) : ∃ (i' : Nat) (m : List Int32), RD T b law n N i' o (l ++ m) ∧ i < i' ∧ m.length + i ≤ i' + pd ∧ ∀ x : X, G x → ∃ (q : Nat) (y : Int32), w x = .ok (q, y) ∧ sk b q = tpos b i' ∧ V y ∧ ∀ (st : List Int32) (g : Int32 × Int32 × Int32), xs (en x) m (pre x ++ st, g) = (y :: st, g) := by
  rcases h with h | h
  · exact absurd h.1 hv
  · exact h.2
/-- a fault at token i0 -/
theorem PO.ft {i0 : Nat} {k : Int32} {T0 : fS} (hv : v.toInt = 0) (h : FT b T0 T i0 k) (hw : ∀ x : X, G x → w x = .error (k.toInt, tpos b i0)) : PO b law n N i o l pd V G en pre w v T := Or.inl ⟨hv, fun x hx => ⟨_, hw x hx, by rw [h.2.1], h.2.2⟩⟩
/-- a fault passed on -/
theorem PO.fw {X2 : Type} {pd2 i2 o2 : Nat} {l2 : List Int32} {V2 : Int32 → Prop} {G2 : X2 → Prop} {en2 : X2 → Nat → Int32} {pre2 : X2 → List Int32} {w2 : X2 → RS7} {v2 : Int32} (hv : v2.toInt = 0) (h : PO b law n N i2 o2 l2 pd2 V2 G2 en2 pre2 w2 v2 T) (hw : ∀ x : X, G x → ∃ x2 : X2, G2 x2 ∧ ∀ e : Int × Nat, w2 x2 = .error e → w x = .error e) (hz : v.toInt = 0) : PO b law n N i o l pd V G en pre w v T := by
  refine Or.inl ⟨hz, fun x hx => ?_⟩
  obtain ⟨x2, g2, k⟩ := hw x hx
  obtain ⟨e, e1, e2⟩ := h.f hv x2 g2
  exact ⟨e, k e e1, e2⟩
theorem tp_nx (h : RD S b law n N i o l) (hi : i < N) : tpos b (i + 1) = sk b (te b (tpos b i)) := rfl
theorem RD.bd (h : RD S b law n N i o l) : -1 ≤ b (tpos b i) ∧ b (tpos b i) ≤ 255 := h.byt _
/-- a sign's token -/
theorem RD.sg (h : RD S b law n N i o l) {c : Int} (hk : kd b (tpos b i) = c) (h0 : 0 ≤ c) (h1 : ¬ (48 ≤ c ∧ c ≤ 57)) (h2 : ¬ (97 ≤ c ∧ c ≤ 122)) (h3 : c ≤ 255) : b (tpos b i) = c ∧ tpos b (i + 1) = sk b (tpos b i + 1) := by
  have e := (kd_sign h.bd.2 h0 h1 h2 h3).1 hk
  refine ⟨e, ?_⟩
  show sk b (te b (tpos b i)) = _
  rw [te_sg (by omega) (by omega) (by omega)]
theorem RD.ns (h : RD S b law n N i o l) {c : Int} (hk : ¬ kd b (tpos b i) = c) (h0 : 0 ≤ c) (h1 : ¬ (48 ≤ c ∧ c ≤ 57)) (h2 : ¬ (97 ≤ c ∧ c ≤ 122)) (h3 : c ≤ 255) : ¬ b (tpos b i) = c := fun q => hk ((kd_sign h.bd.2 h0 h1 h2 h3).2 q)
/-- a word's token -/
theorem RD.wd (h : RD S b law n N i o l) {c : Int} (hk : kd b (tpos b i) = c) (h1 : 259 ≤ c) : wkd (wc b (tpos b i)) = c ∧ (97 ≤ b (tpos b i) ∧ b (tpos b i) ≤ 122) ∧ tpos b (i + 1) = sk b (rn b 97 122 (tpos b i)) := by
  have e := (kd_word h.tx h.bd.2 h1).1 hk
  have yl : 97 ≤ b (tpos b i) ∧ b (tpos b i) ≤ 122 := by
    by_cases c1 : 97 ≤ b (tpos b i) ∧ b (tpos b i) ≤ 122
    · exact c1
    · rw [wc_no h.tx c1, show wkd 0 = 258 from by decide] at e
      omega
  refine ⟨e, yl, ?_⟩
  show sk b (te b (tpos b i)) = _
  rw [te_lt2 yl]
theorem RD.nw (h : RD S b law n N i o l) {c k : Int} (hk : ¬ kd b (tpos b i) = k) (h1 : 259 ≤ k) (hc : wkd c = k) : ¬ wc b (tpos b i) = c := fun q => hk ((kd_word h.tx h.bd.2 h1).2 (by rw [q]; exact hc))
theorem wkd_in {c k : Int} (h : wkd c = k) : (k = 260 → c = 151162) ∧ (k = 261 → c = 382984) ∧ (k = 262 → c = 247690) ∧ (k = 263 → c = 249) ∧ (k = 264 → c = 423) ∧ (k = 265 → c = 1111) ∧ (k = 266 → c = 10631) ∧ (k = 267 → c = 6476969) ∧ (k = 268 → c = 267347) := by
  unfold wkd at h
  refine ⟨fun q => ?_, fun q => ?_, fun q => ?_, fun q => ?_, fun q => ?_, fun q => ?_, fun q => ?_, fun q => ?_, fun q => ?_⟩ <;> omega
/-- names: the walk's and the kinds -/
theorem nmv_wkd (b : Nat → Int) (law : Bool) (q : Nat) : nmv b law q = if 270 ≤ wkd (wc b q) ∧ wkd (wc b q) ≤ (if law = true then 276 else 275) then wkd (wc b q) - 270 else -1 := by
  unfold nmv
  cases law
  · rw [if_neg (c := false = true) (by decide), if_neg (c := false = true ∧ wc b q = 2228) (fun h => by cases h.1)]
    unfold wkd
    omega
  · have e : (if true = true ∧ wc b q = 2228 then (6 : Int) else -1) = if wc b q = 2228 then 6 else -1 := by
      by_cases c : wc b q = 2228
      · rw [if_pos ⟨rfl, c⟩, if_pos c]
      · rw [if_neg (fun h => c h.2), if_neg c]
    rw [if_pos (c := true = true) rfl, e]
    unfold wkd
    omega
theorem nme_env {env : Nat → Int32} {k : Int} (h1 : 270 ≤ k) (h2 : k ≤ 276) : nme env k = env (k - 270).toNat := by
  have : k = 270 ∨ k = 271 ∨ k = 272 ∨ k = 273 ∨ k = 274 ∨ k = 275 ∨ k = 276 := by omega
  rcases this with rfl | rfl | rfl | rfl | rfl | rfl | rfl <;> rfl
theorem app3 (l m : List Int32) (c : Int32) : l ++ m ++ [c] = l ++ (m ++ [c]) := List.append_assoc l m [c]
/-- a number's token -/
theorem u_number (h : RD S b law n N i o l) (hk : kd b (tpos b i) = 257) : zk (bd (F_X4_number S) (fun v T => gd (v = 0 ∨ v = 1) (some (v, T)))) (fun v T => FX Wr S T ∧ PQ b law n N i o l 0 1 V1 v T) := by
  have l1 : (1 : Int32).toInt = 1 := by decide
  have l999 : (999 : Int32).toInt = 999 := by decide
  have hN := h.N300
  have hdg := (kd_257 h.bd.2).1 hk
  have hi : i < N := h.lt (by omega)
  have hnb := (h.1.2.2.2.2.1 i hi).2.2.1
  have nn := nuv_bd (b := b) (p := tpos b i) (fun k h1 h2 => rn_in (b := b) (lo := 48) (hi := 57) h1 h2) (rn b 48 57 (tpos b i) - tpos b i) (by have := rn_le (b := b) (lo := 48) (hi := 57) (tpos b i); omega)
  have hnx : tpos b (i + 1) = sk b (rn b 48 57 (tpos b i)) := by
    show sk b (te b (tpos b i)) = _
    rw [te_dg hdg]
  unfold nb at hnb
  rw [if_pos hdg] at hnb
  refine zk_bd (Q1 := fun v T => FX Wr S T ∧ PQ b law n N i o l 0 1 V1 v T) ?_ (fun v T q => zk_gd q.2.v01 (zk_some q))
  unfold F_X4_number
  refine zk_iv fun x12 e12 => ?_
  have g12 : x12.toInt = (i : Int) := by rw [e12]; exact h.2.2.1
  refine zk_lt (fun c => absurd c (by have : (0 : Int32).toInt = 0 := by decide
                                      omega)) (fun _ => ?_)
  refine zk_ivq (x := x12) e12.symm ?_
  refine zk_iv fun x15 e15 => ?_
  have g15 : x15.toInt = (N : Int) := by rw [e15]; exact h.1.2.2.1
  refine zk_le (fun c => absurd c (by omega)) (fun _ => ?_)
  refine zk_ivq (x := x12) e12.symm ?_
  refine zk_gd ⟨by omega, by omega⟩ ?_
  refine zk_iv fun x19 e19 => ?_
  rw [show x12.toNatClampNeg = i from by have := cn_eq (x := x12) (by omega); omega] at e19
  rw [← e19] at hnb
  unfold B_X4_number_31
  refine zk_le (fun c => ?_) (fun c => ?_)
  · have hv : x19.toInt = nuv b (tpos b i) (rn b 48 57 (tpos b i) - tpos b i) := by
      rw [hnb] at c ⊢
      unfold c1k at c ⊢
      omega
    refine zk_imp (x_emitat x19 h hi) (fun v U q => ?_)
    obtain ⟨q1, F, hR⟩ := q
    refine ⟨F, Or.inr ⟨q1, i + 1, [x19], hR, by omega, by show 1 + i ≤ i + 1 + 0; omega, fun x hx => ?_⟩⟩
    obtain ⟨env, D, q⟩ := x
    obtain ⟨hD, hq⟩ := hx
    dsimp only at hD hq
    refine ⟨rn b 48 57 (tpos b i), x19, ?_, hnx.symm, trivial, fun st g => ?_⟩
    · match D, hD with
      | D + 1, _ =>
        show nU b law env (Wk b law env D) q o = _
        unfold nU
        rw [hq, if_pos hdg, if_neg (by omega), ← hv, Int32.ofInt_toInt]
    · rw [xs_one, xw_num (by omega)]
      rfl
  · have hv : 999 < nuv b (tpos b i) (rn b 48 57 (tpos b i) - tpos b i) := by
      rw [hnb] at c
      unfold c1k at c
      omega
    refine zk_imp (x_failg 2 h) (fun v T q => ⟨q.2.1, PO.ft q.1 q.2 (fun x hx => ?_)⟩)
    obtain ⟨env, D, q⟩ := x
    obtain ⟨hD, hq⟩ := hx
    dsimp only at hD hq
    match D, hD with
    | D + 1, _ =>
      show nU b law env (Wk b law env D) q o = _
      unfold nU
      rw [hq, if_pos hdg, if_pos hv]
      rfl
end RUN
