/-! things that fall, exactly, on both sides -/
def RVq (S : fS) (n : Int) : Prop := HB n (hw S) (hq S) (hh S) ∧ (∀ c : Nat, c < 64 → 0 ≤ hh S c) ∧ ∀ t : Nat, (t : Int) < n → -2 ≤ hw S t ∧ hw S t ≤ 63
def HS (S : fS) (c : Nat) : List Nat := HLv (hq S) (hh S) c
def flt (L X : List Nat) : List Nat := X.filter (fun u => decide (u ∉ L))
theorem flt_nil (X : List Nat) : flt [] X = X := by
  unfold flt
  exact List.filter_eq_self.2 (fun u _ => decide_eq_true (fun q => nomatch q))
theorem flt_snoc (L X : List Nat) (t : Nat) : (flt L X).filter (fun u => decide (u ≠ t)) = flt (L ++ [t]) X := by
  unfold flt
  rw [List.filter_filter]
  apply List.filter_congr
  intro u _
  rw [← Bool.decide_and]
  apply decide_eq_decide.2
  rw [List.mem_append, List.mem_singleton]
  constructor
  · rintro ⟨a, b⟩ (q | q)
    · exact b q
    · exact a q
  · intro q
    exact ⟨fun z => q (Or.inr z), fun z => q (Or.inl z)⟩
theorem flt_self {L X : List Nat} (h : ∀ u, u ∈ X → u ∉ L) : flt L X = X := by
  unfold flt
  exact List.filter_eq_self.2 (fun u hu => decide_eq_true (h u hu))
theorem take_sn {L : List Nat} {i : Nat} (h : i < L.length) : L.take (i + 1) = L.take i ++ [L.getD i 0] := by
  rw [List.take_succ, List.getD_eq_getElem?_getD, List.getElem?_eq_getElem h]
  rfl
theorem nd_at {L : List Nat} (hn : L.Nodup) {i : Nat} (h : i < L.length) : L.getD i 0 ∉ L.take i := by
  intro q
  obtain ⟨k, hk⟩ := List.getElem?_of_mem q
  have hki : k < i := by
    by_cases z : k < i
    · exact z
    · rw [List.getElem?_eq_none (by rw [List.length_take]; omega)] at hk
      cases hk
  rw [List.getElem?_take_of_lt hki, List.getD_eq_getElem?_getD, List.getElem?_eq_getElem h, List.getElem?_eq_getElem (by omega)] at hk
  have hk := Option.some.inj hk
  have hk : L[k]'(by omega) = L[i] := hk
  have hk2 : L[k]? = L[i]? := by rw [List.getElem?_eq_getElem (by omega), List.getElem?_eq_getElem h, hk]
  have := (List.getElem?_inj (by omega) hn).1 hk2
  omega
theorem getD_mem {L : List Nat} {i : Nat} (h : i < L.length) : L.getD i 0 ∈ L := by
  rw [List.getD_eq_getElem?_getD, List.getElem?_eq_getElem h]
  exact List.getElem_mem h
section RVS
variable {S T : fS} {n : Int} {c t j : Nat} {p x : Int32}
/-- where a thing that lies somewhere lies -/
theorem RVq.at (h : RVq S n) (ht : (t : Int) < n) (hw0 : 0 ≤ hw S t) : ∃ c j : Nat, c < 64 ∧ hw S t = (c : Int) ∧ (j : Int) < hh S c ∧ hq S c j = (t : Int) := by
  obtain ⟨k, hk, e⟩ := h.1.2.2 t ht hw0
  have a := h.2.2 t ht
  exact ⟨(hw S t).toNat, k, by omega, by omega, hk, e⟩
theorem r_goes (h : RVq S n) (hp : p.toInt = (t : Int)) (htn : (t : Int) < n) (hw0 : 0 ≤ hw S t) (hx : x.toInt < 0 ∧ -2 ≤ x.toInt) : pk (F_X7_goes p x S) (fun _ T => FX Wg S T ∧ RVq T n ∧ (∀ c : Nat, c < 64 → HS T c = (HS S c).filter (fun u => decide (u ≠ t))) ∧ ∀ u : Nat, hw T u = if u = t then x.toInt else hw S u) := by
  obtain ⟨c, j, hc, hwc, hj, htj⟩ := h.at htn hw0
  refine pq_imp (q_goes h.1 hp hwc hc hj htj) (fun _ T q => ?_)
  obtain ⟨F, q1, q2, q3⟩ := q
  have e1 : hh T = htT (hh S) c := funext q1
  have e2 : hq T = hpT (hq S) (hh S) c j := funext fun c' => funext fun k => q2 c' k
  have e3 : hw T = wU (hw S) t x.toInt := funext q3
  refine ⟨F, ⟨?_, fun c' hc' => ?_, fun u hu => ?_⟩, fun c' hc' => ?_, q3⟩
  · rw [e1, e2, e3]
    refine h.1.take (k0 := j) hc hwc htn hj htj hx.1 (fun _ => rfl) (fun _ => rfl) (fun i k hne => by unfold hpT; rw [if_neg (fun q => hne q.1)]) (fun k hk => ?_) (fun i hi => (h.2.2 i hi).2)
    unfold hpT
    by_cases d : k < j
    · rw [if_pos d, if_neg (by omega)]
    · rw [if_neg d, if_pos ⟨rfl, by omega, hk⟩]
  · rw [q1]
    by_cases d : c' = c
    · rw [if_pos d]; omega
    · rw [if_neg d]; exact h.2.1 c' hc'
  · rw [q3]
    by_cases d : u = t
    · rw [if_pos d]; omega
    · rw [if_neg d]; exact h.2.2 u hu
  · show HLv (hq T) (hh T) c' = _
    rw [e1, e2]
    exact HLv_T h.1 hc hj htj hc'
theorem r_puts (h : RVq S n) (hp : p.toInt = (t : Int)) (htn : (t : Int) < n) (hw0 : hw S t < 0) (hx : x.toInt = (c : Int)) (hc : c < 64) : pk (F_X7_puts p x S) (fun _ T => FX Wg S T ∧ RVq T n ∧ (∀ c' : Nat, c' < 64 → HS T c' = if c' = c then HS S c ++ [t] else HS S c') ∧ ∀ u : Nat, hw T u = if u = t then (c : Int) else hw S u) := by
  have h0 := h.2.1 c hc
  refine pq_imp (q_puts hp hx h0) (fun _ T q => ?_)
  obtain ⟨F, q1, q2, q3⟩ := q
  have e1 : hh T = htP (hh S) c := funext q1
  have e2 : hq T = hpP (hq S) (hh S) c t := funext fun c' => funext fun k => by
    rw [q2]
    unfold hpP
    by_cases d : c' = c ∧ k = (hh S c).toNat
    · rw [if_pos d, if_pos ⟨d.1, by omega⟩]
    · rw [if_neg d, if_neg (fun q => d ⟨q.1, by omega⟩)]
  have e3 : hw T = wU (hw S) t (c : Int) := funext q3
  refine ⟨F, ⟨?_, fun c' hc' => ?_, fun u hu => ?_⟩, fun c' hc' => ?_, q3⟩
  · rw [e1, e2, e3]
    exact h.1.put (t := t) (c := c) (Int.le_refl n) (fun i hi _ => Or.inl hi) htn (fun _ => hw0) hc h0 (fun i hi => (h.2.2 i hi).2) (fun _ => rfl) (fun _ => rfl) (fun _ _ => rfl)
  · rw [q1]
    by_cases d : c' = c
    · rw [if_pos d]; omega
    · rw [if_neg d]; exact h.2.1 c' hc'
  · rw [q3]
    by_cases d : u = t
    · rw [if_pos d]; omega
    · rw [if_neg d]; exact h.2.2 u hu
  · show HLv (hq T) (hh T) c' = _
    rw [e1, e2]
    exact HLv_P h0
end RVS
/-- the gripped ones fall: w0, X0 are how it lay; lc: where they fall (none: out of the box) -/
def MVq (L : List Nat) (lc : Option Nat) (w0 : Nat → Int) (X0 : Nat → List Nat) (w : Nat → Int) (X : Nat → List Nat) (n : Int) : Prop :=
  (∀ c : Nat, c < 64 → X c = flt L (X0 c) ++ (if lc = some c then L else [])) ∧ ∀ u : Nat, (u : Int) < n → w u = if u ∈ L then (match lc with | some c => (c : Int) | none => -1) else w0 u
def vsm (S : fS) (L : List Nat) : Int32 := L.foldl (fun a t => a + ge S 48 0 t) 0
theorem vsm_app (S : fS) (L : List Nat) (t : Nat) : vsm S (L ++ [t]) = vsm S L + ge S 48 0 t := by
  unfold vsm
  rw [List.foldl_append]
  rfl
def Wtr (a i j : Nat) : Bool := Wg a i j || (Nat.beq a 40 && (Nat.beq j 43 || (Nat.beq j 35 || (Nat.beq j 36 || (Nat.beq j 37 || Nat.beq j 38)))))
theorem Wg_tr : ∀ a i j : Nat, Wtr a i j = false → Wg a i j = false := fun a i j h => (Bool.or_eq_false_iff.1 h).1
section RMV
variable {S T : fS} {n : Int} {L : List Nat} {o : Int32}
/-- the counters of a try -/
def CNq (S T : fS) (o fell : Int32) : Prop := ge T 40 0 43 = fell ∧ ge T 40 0 35 = ge S 40 0 35 + 1 ∧ ge T 40 0 36 = (if o = 5 then 0 else ge S 40 0 36 + 1) ∧ ge T 40 0 37 = ge S 40 0 37 + ge S 40 0 32 ∧ ge T 40 0 38 = ge S 40 0 38 + fell
theorem r_116 {fell : Int32} (F : FX Wtr S T) (h35 : ge T 40 0 35 = ge S 40 0 35) (h36 : ge T 40 0 36 = ge S 40 0 36) (h37 : ge T 40 0 37 = ge S 40 0 37) (h38 : ge T 40 0 38 = ge S 40 0 38) (hf : ge T 40 0 43 = fell) : pk (B_X7_triesAt_116 o T) (fun _ U => FX Wtr S U ∧ CNq S U o fell ∧ (∀ a i j : Nat, a ≠ 40 → ge U a i j = ge T a i j)) := by
  unfold B_X7_triesAt_116
  refine pq_iv fun x26 e26 => pq_iv fun x27 e27 => pq_sv fun S28 E28 => ?_
  have F28 : FX Wtr S S28 := by rw [E28]; exact F.wr rfl
  have J : ∀ v : Int32, v = (if o = 5 then 0 else ge S 40 0 36 + 1) → pk (B_X7_triesAt_142 v S28) (fun _ U => FX Wtr S U ∧ CNq S U o fell ∧ (∀ a i j : Nat, a ≠ 40 → ge U a i j = ge T a i j)) := by
    intro v hv
    unfold B_X7_triesAt_142
    refine pq_sv fun S17 E17 => pq_iv fun x18 e18 => pq_iv fun x19 e19 => pq_iv fun x20 e20 => pq_sv fun S21 E21 => pq_iv fun x22 e22 => pq_iv fun x23 e23 => pq_iv fun x24 e24 => pq_sv fun S25 E25 => pq_some ?_
    have F17 : FX Wtr S S17 := by rw [E17]; exact F28.wr rfl
    have F21 : FX Wtr S S21 := by rw [E21]; exact F17.wr rfl
    have F25 : FX Wtr S S25 := by rw [E25]; exact F21.wr rfl
    rw [E17, ge_puj (by decide), E28, ge_puj (by decide), h37] at e18
    rw [F17.1 40 0 32 rfl] at e19
    rw [E21, ge_puj (by decide), E17, ge_puj (by decide), E28, ge_puj (by decide), h38] at e22
    rw [E21, ge_puj (by decide), E17, ge_puj (by decide), E28, ge_puj (by decide), hf] at e23
    refine ⟨F25, ⟨?_, ?_, ?_, ?_, ?_⟩, fun a i j hne => ?_⟩
    · rw [E25, ge_puj (by decide), E21, ge_puj (by decide), E17, ge_puj (by decide), E28, ge_puj (by decide), hf]
    · rw [E25, ge_puj (by decide), E21, ge_puj (by decide), E17, ge_puj (by decide), E28, ge_pus, e27, e26, h35]
    · rw [E25, ge_puj (by decide), E21, ge_puj (by decide), E17, ge_pus, hv]
    · rw [E25, ge_puj (by decide), E21, ge_pus, e20, e18, e19]
    · rw [E25, ge_pus, e24, e22, e23]
    · rw [E25, ge_pua hne, E21, ge_pua hne, E17, ge_pua hne, E28, ge_pua hne]
  refine pq_bb (fun c => J 0 (by rw [if_pos c])) (fun c => ?_)
  refine pq_iv fun x30 e30 => pq_iv fun x31 e31 => J x31 ?_
  rw [if_neg c, e31, e30, E28, ge_puj (by decide), h36]
theorem HS_ne {a : Nat} (h : ∀ a i j : Nat, a ≠ 40 → ge T a i j = ge S a i j) : HS T a = HS S a := by
  unfold HS
  have e1 : hq T = hq S := funext fun c => funext fun k => by unfold hq; rw [h 53 c k (by decide)]
  have e2 : hh T = hh S := funext fun c => by unfold hh; rw [h 54 0 c (by decide)]
  rw [e1, e2]
theorem hw_ne (h : ∀ a i j : Nat, a ≠ 40 → ge T a i j = ge S a i j) : hw T = hw S := funext fun t => by unfold hw; rw [h 50 0 t (by decide)]
theorem RV_ne (h : ∀ a i j : Nat, a ≠ 40 → ge T a i j = ge S a i j) (R : RVq S n) : RVq T n := by
  have e1 : hq T = hq S := funext fun c => funext fun k => by unfold hq; rw [h 53 c k (by decide)]
  have e2 : hh T = hh S := funext fun c => by unfold hh; rw [h 54 0 c (by decide)]
  unfold RVq
  rw [e1, e2, hw_ne h]
  exact R
/-- the reference's fall: o is the outcome -/
theorem r_fall (R : RVq S n) (hlen : (ge S 40 0 40).toInt = (L.length : Int)) (hat : ∀ k : Nat, k < L.length → (ge S 55 0 k).toInt = ((L.getD k 0 : Nat) : Int)) (h5 : L.length ≤ 5) (hnd : L.Nodup) (hin : ∀ u, u ∈ L → (u : Int) < n ∧ 0 ≤ hw S u) (lc : Option Nat) (ho : (o = 3 ∧ ∃ c : Nat, lc = some c ∧ c < 64 ∧ (ge S 40 0 42).toInt = (c : Int)) ∨ (o = 5 ∧ lc = none) ∨ (o ≠ 3 ∧ o ≠ 5 ∧ L = [] ∧ lc = none) ) (hf0 : ge S 40 0 43 = 0) : pk (lp (B_X7_triesAt_41) fuel (o, 0) S) (fun _ T => FX Wtr S T ∧ RVq T n ∧ MVq L lc (hw S) (HS S) (hw T) (HS T) n ∧ CNq S T o (if o = 5 then vsm S L else 0)) := by
  have l0 : (0 : Int32).toInt = 0 := by decide
  have lm1 : (-1 : Int32).toInt = -1 := by decide
  refine pq_lp (fun (z : Int32 × Int32) T => z.1 = o ∧ FX Wtr S T ∧ RVq T n ∧ ge T 40 0 35 = ge S 40 0 35 ∧ ge T 40 0 36 = ge S 40 0 36 ∧ ge T 40 0 37 = ge S 40 0 37 ∧ ge T 40 0 38 = ge S 40 0 38 ∧ ∃ i : Nat, z.2.toInt = (i : Int) ∧ i ≤ L.length ∧ MVq (L.take i) lc (hw S) (HS S) (hw T) (HS T) n ∧ ge T 40 0 43 = (if o = 5 then vsm S (L.take i) else 0)) (fun _ _ (_ : Int32) T => FX Wtr S T ∧ RVq T n ∧ MVq L lc (hw S) (HS S) (hw T) (HS T) n ∧ CNq S T o (if o = 5 then vsm S L else 0)) ?_ fuel (o, 0) S ⟨rfl, FX.rf, R, rfl, rfl, rfl, rfl, 0, l0, Nat.zero_le _, ⟨fun c _ => by rw [List.take_zero, flt_nil]; split <;> rw [List.append_nil], fun u _ => by rw [List.take_zero, if_neg (by intro q; cases q)]⟩, by rw [List.take_zero, hf0]; split <;> rfl⟩
  intro k hk z T hI
  obtain ⟨a3, a4⟩ := z
  obtain ⟨e1, F, RT, h35, h36, h37, h38, i, i1, i2, i3, i4⟩ := hI
  dsimp only at e1 i1
  subst e1
  unfold B_X7_triesAt_41
  dsimp only
  refine pq_iv fun x32 e32 => ?_
  rw [F.1 40 0 40 rfl] at e32
  have g32 : x32.toInt = (L.length : Int) := by rw [e32]; exact hlen
  have stop : i = L.length → pk (B_X7_triesAt_116 a3 T) (fun _ T => FX Wtr S T ∧ RVq T n ∧ MVq L lc (hw S) (HS S) (hw T) (HS T) n ∧ CNq S T a3 (if a3 = 5 then vsm S L else 0)) := by
    intro e
    rw [e, List.take_length] at i3 i4
    refine pq_imp (r_116 F h35 h36 h37 h38 i4) (fun _ U q => ?_)
    obtain ⟨q1, q2, q3⟩ := q
    refine ⟨q1, RV_ne q3 RT, ?_, q2⟩
    have e9 : HS U = HS T := funext fun c => HS_ne q3
    rw [hw_ne q3, e9]
    exact i3
  refine pq_le (fun c0 => stop (by omega)) (fun c0 => ?_)
  have hiL : i < L.length := by omega
  have mem := getD_mem hiL
  have notin := nd_at hnd hiL
  obtain ⟨t, htt⟩ : ∃ t : Nat, t = L.getD i 0 := ⟨_, rfl⟩
  rw [← htt] at mem notin
  have hti := hin t mem
  have tk := take_sn hiL
  rw [← htt] at tk
  have go : a3 = 3 ∨ a3 = 5 → pk (B_X7_triesAt_60 k a3 a4 T) (fun _ T => FX Wtr S T ∧ RVq T n ∧ MVq L lc (hw S) (HS S) (hw T) (HS T) n ∧ CNq S T a3 (if a3 = 5 then vsm S L else 0)) := by
    intro h35o
    unfold B_X7_triesAt_60
    rw [cnNq i1]
    refine pq_gd fun _ => ?_
    refine pq_iv fun x3 e3 => ?_
    rw [F.1 55 0 i rfl] at e3
    have g3 : x3.toInt = (t : Int) := by rw [e3, htt]; exact hat i hiL
    have hwt : hw T t = hw S t := by rw [i3.2 t hti.1, if_neg notin]
    refine pq_bd (r_goes RT g3 hti.1 (by rw [hwt]; exact hti.2) (x := -1) (by decide)) (fun _ U q => ?_)
    obtain ⟨FU, RU, xU, wU'⟩ := q
    have FU' : FX Wtr S U := F.tr (FU.sub Wg_tr)
    have e40 : ∀ j : Nat, ge U 40 0 j = ge T 40 0 j := fun j => FU.1 40 0 j rfl
    have XU : ∀ c : Nat, c < 64 → HS U c = flt (L.take (i + 1)) (HS S c) ++ (if lc = some c then L.take i else []) := by
      intro c hc
      rw [xU c hc, i3.1 c hc, List.filter_append, flt_snoc, tk]
      congr 1
      apply List.filter_eq_self.2
      intro u hu
      refine decide_eq_true (fun e => notin ?_)
      rw [← e]
      by_cases z : lc = some c
      · rw [if_pos z] at hu; exact hu
      · rw [if_neg z] at hu; cases hu
    have nx : ∀ V : fS, FX Wtr S V → RVq V n → (∀ j : Nat, j ≠ 43 → ge V 40 0 j = ge U 40 0 j) → MVq (L.take (i + 1)) lc (hw S) (HS S) (hw V) (HS V) n → (ge V 40 0 43 = if a3 = 5 then vsm S (L.take (i + 1)) else 0) → pk (B_X7_triesAt_110 k a3 a4 V) (fun _ T => FX Wtr S T ∧ RVq T n ∧ MVq L lc (hw S) (HS S) (hw T) (HS T) n ∧ CNq S T a3 (if a3 = 5 then vsm S L else 0)) := by
      intro V FV RV eV mV fV
      unfold B_X7_triesAt_110
      refine pq_iv fun x1 e1 => ?_
      have g1 : x1.toInt = a4.toInt + 1 := by rw [e1]; exact ti_inc (by omega)
      exact hk (a3, x1) V ⟨rfl, FV, RV, by rw [eV 35 (by decide), e40]; exact h35, by rw [eV 36 (by decide), e40]; exact h36, by rw [eV 37 (by decide), e40]; exact h37, by rw [eV 38 (by decide), e40]; exact h38, i + 1, by dsimp only; omega, by omega, mV, fV⟩
    refine pq_bb (fun c3 => ?_) (fun c3 => ?_)
    · subst c3
      rcases ho with ⟨_, c, hlc, hc, h42⟩ | ⟨h, _⟩ | ⟨h, _⟩
      · refine pq_iv fun x13 e13 => ?_
        rw [e40, F.1 40 0 42 rfl] at e13
        refine pq_bd (r_puts RU g3 hti.1 (by rw [wU', if_pos rfl, lm1]; decide) (by rw [e13]; exact h42) hc) (fun _ V q => ?_)
        obtain ⟨FV, RV, xV, wV⟩ := q
        refine nx V (FU'.tr (FV.sub Wg_tr)) RV (fun j _ => FV.1 40 0 j rfl) ⟨fun c' hc' => ?_, fun u hu => ?_⟩ (by rw [FV.1 40 0 43 rfl, e40, i4, if_neg (by decide), if_neg (by decide)])
        · rw [xV c' hc', XU c' hc', XU c hc, hlc]
          by_cases z : c' = c
          · rw [if_pos z, z, if_pos rfl, tk, List.append_assoc, if_pos rfl]
          · rw [if_neg z, if_neg (fun q => z (Option.some.inj q).symm), if_neg (fun q => z (Option.some.inj q).symm)]
        · rw [wV, hlc]
          by_cases z : u = t
          · rw [if_pos z, tk, if_pos (by rw [z]; exact List.mem_append.2 (Or.inr (List.mem_singleton.2 rfl)))]
          · rw [if_neg z, wU', if_neg z, i3.2 u hu, hlc, tk]
            by_cases z2 : u ∈ L.take i
            · rw [if_pos z2, if_pos (List.mem_append.2 (Or.inl z2))]
            · rw [if_neg z2, if_neg (fun q => (List.mem_append.1 q).elim z2 (fun q => z (List.mem_singleton.1 q)))]
      · exact absurd h (by decide)
      · exact absurd rfl h
    · have a5 : a3 = 5 := h35o.resolve_left c3
      have hlc : lc = none := by
        rcases ho with ⟨h, _⟩ | ⟨_, h⟩ | ⟨_, _, _, h⟩
        · exact absurd h c3
        · exact h
        · exact h
      refine pq_iv fun x8 e8 => ?_
      rw [e40, i4, if_pos a5] at e8
      rw [cnNq g3]
      refine pq_gd fun _ => ?_
      refine pq_iv fun x10 e10 => ?_
      rw [FU'.1 48 0 t rfl] at e10
      refine pq_iv fun x11 e11 => ?_
      refine pq_sv fun S12 E12 => ?_
      have eV : ∀ a i j : Nat, a ≠ 40 → ge S12 a i j = ge U a i j := fun a i j hne => by rw [E12, ge_pua hne]
      have e9 : HS S12 = HS U := funext fun c => HS_ne eV
      refine nx S12 (by rw [E12]; exact FU'.wr rfl) (RV_ne eV RU) (fun j hj => by rw [E12, ge_puj hj]) ?_ (by rw [E12, ge_pus, if_pos a5, e11, e8, e10, tk, vsm_app])
      rw [hw_ne eV, e9]
      refine ⟨fun c hc => ?_, fun u hu => ?_⟩
      · rw [XU c hc, hlc, if_neg (fun q => nomatch q), if_neg (fun q => nomatch q)]
      · rw [wU', hlc]
        by_cases z : u = t
        · rw [if_pos z, tk, if_pos (by rw [z]; exact List.mem_append.2 (Or.inr (List.mem_singleton.2 rfl)))]
          exact lm1
        · rw [if_neg z, i3.2 u hu, hlc, tk]
          by_cases z2 : u ∈ L.take i
          · rw [if_pos z2, if_pos (List.mem_append.2 (Or.inl z2))]
          · rw [if_neg z2, if_neg (fun q => (List.mem_append.1 q).elim z2 (fun q => z (List.mem_singleton.1 q)))]
  refine pq_bb (fun c1 => go (Or.inl c1)) (fun c1 => ?_)
  refine pq_bb (fun c2 => go (Or.inr c2)) (fun c2 => ?_)
  exfalso
  rcases ho with ⟨h, _⟩ | ⟨h, _⟩ | ⟨_, _, h, _⟩
  · exact c1 h
  · exact c2 h
  · rw [h] at hiL
    exact absurd hiL (Nat.not_lt_zero _)
end RMV
