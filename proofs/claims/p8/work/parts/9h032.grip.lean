/-! what is gripped, exactly, on both sides -/
def tq (S : fS) (c : Nat) : Int := if hh S c ≤ 0 then -1 else hq S c (hh S c - 1).toNat
def nbI (c d : Nat) : Int := if d = 0 then (if c % 8 = 7 then -1 else (c : Int) + 1) else if d = 1 then (if c / 8 = 7 then -1 else (c : Int) + 8) else if d = 2 then (if c % 8 = 0 then -1 else (c : Int) - 1) else if c / 8 = 0 then -1 else (c : Int) - 8
def gn (S : fS) (c : Nat) (lk : Int32) (d : Nat) : List Nat := if nbI c d = -1 then [] else if tq S (nbI c d).toNat = -1 then [] else if ge S 47 0 (tq S (nbI c d).toNat).toNat = lk then [(tq S (nbI c d).toNat).toNat] else []
def gF (S : fS) (c : Nat) (lk : Int32) : Nat → List Nat
  | 0 => []
  | d + 1 => gF S c lk d ++ gn S c lk d
/-- what is gripped at c -/
def gL (S : fS) (c : Nat) : List Nat := (tq S c).toNat :: (if 0 < (ge S 47 0 (tq S c).toNat).toInt then gF S c (ge S 47 0 (tq S c).toNat) 4 else [])
def wsm (S : fS) (L : List Nat) : Int32 := L.foldl (fun a t => a + ge S 46 0 t) 0
def wrd (S : fS) (L : List Nat) : Bool := L.any (fun t => decide (¬ ge S 51 0 t = 0))
def upq (S : fS) (c : Nat) : Nat := (10 - hh S c).toNat
def mis (S : fS) (c : Nat) : Prop := (ge S 40 0 30).toInt = (c : Int) ∨ tq S c = -1 ∨ (ge S 40 0 31).toInt < ((c % 8 + c / 8 : Nat) : Int)
def nq (S : fS) : Int := (ge S 40 0 21).toInt
/-- the reference's heaps stand well -/
def HVq (S : fS) : Prop := HB (nq S) (hw S) (hq S) (hh S) ∧ (∀ c : Nat, c < 64 → 0 ≤ hh S c) ∧ nq S ≤ 24 ∧ ∀ t : Nat, (t : Int) < nq S → (0 ≤ (ge S 47 0 t).toInt ∧ (ge S 51 0 t = 0 ∨ ge S 51 0 t = 1)) ∧ -2 ≤ hw S t ∧ hw S t ≤ 63
/-- class box r against the reference: heaps and things -/
def BVq (S : fS) (r : Nat) : Prop := CVq S r (nq S) (hw S) (hq S) (hh S) ∧ (∀ t : Nat, (t : Int) < nq S → ge S 3 r t = ge S 46 0 t ∧ ge S 4 r t = ge S 47 0 t ∧ ge S 5 r t = ge S 48 0 t ∧ ge S 6 r t = ge S 51 0 t ∧ ge S 7 r t = ge S 49 0 t) ∧ ge S 1 r 1 = ge S 40 0 30 ∧ ge S 1 r 2 = ge S 40 0 31
section GRI
variable {S T : fS} {r r0 c d t : Nat} {p lk : Int32} {L : List Nat}
theorem wsm_app (S : fS) (L : List Nat) (t : Nat) : wsm S (L ++ [t]) = wsm S L + ge S 46 0 t := by
  unfold wsm
  rw [List.foldl_append]
  rfl
theorem wrd_app (S : fS) (L : List Nat) (t : Nat) : wrd S (L ++ [t]) = (wrd S L || decide (¬ ge S 51 0 t = 0)) := by
  unfold wrd
  rw [List.any_append]
  show (_ || (decide (¬ ge S 51 0 t = 0) || false)) = _
  rw [Bool.or_false]
theorem tq_in (H : HVq S) (hc : c < 64) (h : ¬ tq S c = -1) : 0 ≤ tq S c ∧ tq S c < nq S := by
  unfold tq at h ⊢
  by_cases z : hh S c ≤ 0
  · rw [if_pos z] at h; exact absurd rfl h
  · rw [if_neg z]
    have a := H.1.1 c (hh S c - 1).toNat hc (by omega)
    exact ⟨a.1, a.2.1⟩
theorem nbI_in (hc : c < 64) : nbI c d = -1 ∨ (0 ≤ nbI c d ∧ nbI c d < 64) := by
  unfold nbI
  omega
theorem gn_len : (gn S c lk d).length ≤ 1 := by
  unfold gn
  by_cases h1 : nbI c d = -1
  · rw [if_pos h1]; exact Nat.zero_le _
  · rw [if_neg h1]
    by_cases h2 : tq S (nbI c d).toNat = -1
    · rw [if_pos h2]; exact Nat.zero_le _
    · rw [if_neg h2]
      by_cases h3 : ge S 47 0 (tq S (nbI c d).toNat).toNat = lk
      · rw [if_pos h3]; exact Nat.le_refl _
      · rw [if_neg h3]; exact Nat.zero_le _
theorem gF_len : ∀ d : Nat, (gF S c lk d).length ≤ d
  | 0 => Nat.le_refl _
  | d + 1 => by
    show (gF S c lk d ++ gn S c lk d).length ≤ d + 1
    have a := gF_len d
    have b := gn_len (S := S) (c := c) (lk := lk) (d := d)
    rw [List.length_append]
    omega
theorem getD_app (L : List Nat) (t k : Nat) (h : k < (L ++ [t]).length) : (L ++ [t]).getD k 0 = if k = L.length then t else L.getD k 0 := by
  rw [List.length_append] at h
  have h : k < L.length + 1 := h
  by_cases d : k = L.length
  · rw [if_pos d, d, List.getD_eq_getElem?_getD, List.getElem?_append_right (Nat.le_refl _), Nat.sub_self]
    rfl
  · rw [if_neg d, List.getD_eq_getElem?_getD, List.getElem?_append_left (by omega), ← List.getD_eq_getElem?_getD]
/-- the reference has gripped L -/
def RGq (S T : fS) (L : List Nat) : Prop := (ge T 40 0 40).toInt = (L.length : Int) ∧ (∀ k : Nat, k < L.length → (ge T 55 0 k).toInt = ((L.getD k 0 : Nat) : Int)) ∧ ge T 40 0 44 = wsm S L
def Wgr (a _ j : Nat) : Bool := Nat.beq a 55 || (Nat.beq a 40 && (Nat.beq j 40 || (Nat.beq j 41 || (Nat.beq j 42 || (Nat.beq j 44 || Nat.beq j 45)))))
def Wgt (a _ j : Nat) : Bool := Nat.beq a 55 || (Nat.beq a 40 && (Nat.beq j 40 || Nat.beq j 44))
theorem q_takes (h : RGq S T L) (F : FX Wgr S T) (hp : p.toInt = (t : Int)) : pk (F_X7_takes p T) (fun _ U => FX Wgt T U ∧ RGq S U (L ++ [t])) := by
  have l1 : (1 : Int32).toInt = 1 := by decide
  obtain ⟨h1, h2, h3⟩ := h
  unfold F_X7_takes
  refine pq_iv fun x1 e1 => ?_
  have g1 : x1.toInt = (L.length : Int) := by rw [e1]; exact h1
  rw [cnNq g1]
  refine pq_gd fun g5 => ?_
  refine pq_sv fun S3 E3 => ?_
  refine pq_iv fun x4 e4 => ?_
  rw [E3, ge_pua (by decide)] at e4
  refine pq_iv fun x5 e5 => ?_
  have g5' := g5.2
  have gx5 : x5.toInt = ((L.length + 1 : Nat) : Int) := by rw [e5, e4, ← e1, ti_add (by omega) (by omega), l1]; omega
  refine pq_sv fun S6 E6 => ?_
  refine pq_iv fun x7 e7 => ?_
  rw [E6, ge_puj (by decide), E3, ge_pua (by decide)] at e7
  rw [cnNq hp]
  refine pq_gd fun _ => ?_
  refine pq_iv fun x9 e9 => ?_
  rw [E6, ge_pua (by decide), E3, ge_pua (by decide), F.1 46 0 t rfl] at e9
  refine pq_iv fun x10 e10 => ?_
  refine pq_sv fun S11 E11 => pq_some ?_
  have F3 : FX Wgt T S3 := by rw [E3]; exact FX.rf.wr rfl
  have F6 : FX Wgt T S6 := by rw [E6]; exact F3.wr rfl
  refine ⟨by rw [E11]; exact F6.wr rfl, ?_, fun k hk => ?_, ?_⟩
  · rw [E11, ge_puj (by decide), E6, ge_pus, List.length_append]
    exact gx5
  · rw [getD_app L t k hk, E11, ge_pua (by decide), E6, ge_pua (by decide), E3]
    by_cases d : k = L.length
    · rw [if_pos d, d, ge_pus]; exact hp
    · rw [if_neg d, ge_puj d]
      rw [List.length_append] at hk
      have hk : k < L.length + 1 := hk
      exact h2 k (by omega)
  · rw [E11, ge_pus, wsm_app, e10, e7, e9, h3]
theorem q_beside {x : Int32} (hc : p.toInt = (c : Int)) (hc64 : c < 64) (hx : x.toInt = (d : Int)) (hd : d < 4) : pk (F_X7_beside p x S) (fun v T => S = T ∧ v.toInt = nbI c d) := by
  have l0 : (0 : Int32).toInt = 0 := by decide
  have l1 : (1 : Int32).toInt = 1 := by decide
  have l2 : (2 : Int32).toInt = 2 := by decide
  have l7 : (7 : Int32).toInt = 7 := by decide
  have l8 : (8 : Int32).toInt = 8 := by decide
  have lm1 : (-1 : Int32).toInt = -1 := by decide
  unfold F_X7_beside nbI
  refine pq_iv fun x1 e1 => pq_iv fun x2 e2 => ?_
  have g1 : x1.toInt = ((c % 8 : Nat) : Int) := by rw [e1]; exact md8 hc
  have g2 : x2.toInt = ((c / 8 : Nat) : Int) := by rw [e2]; exact dv8 hc
  refine pq_eq (fun c0 => ?_) (fun c0 => ?_)
  · rw [if_pos (by omega)]
    refine pq_eq (fun c1 => pq_some ⟨rfl, by rw [if_pos (by omega)]; exact lm1⟩) (fun c1 => pq_iv fun v e => pq_some ⟨rfl, by rw [if_neg (by omega), e, ti_add (by omega) (by omega), hc, l1]⟩)
  · rw [if_neg (by omega)]
    refine pq_eq (fun c1 => ?_) (fun c1 => ?_)
    · rw [if_pos (by omega)]
      refine pq_eq (fun c1 => pq_some ⟨rfl, by rw [if_pos (by omega)]; exact lm1⟩) (fun c1 => pq_iv fun v e => pq_some ⟨rfl, by rw [if_neg (by omega), e, ti_add (by omega) (by omega), hc, l8]⟩)
    · rw [if_neg (by omega)]
      refine pq_eq (fun c2 => ?_) (fun c2 => ?_)
      · rw [if_pos (by omega)]
        refine pq_eq (fun c1 => pq_some ⟨rfl, by rw [if_pos (by omega)]; exact lm1⟩) (fun c1 => pq_iv fun v e => pq_some ⟨rfl, by rw [if_neg (by omega), e, ti_sub (by omega) (by omega), hc, l1]⟩)
      · rw [if_neg (by omega)]
        refine pq_eq (fun c1 => pq_some ⟨rfl, by rw [if_pos (by omega)]; exact lm1⟩) (fun c1 => pq_iv fun v e => pq_some ⟨rfl, by rw [if_neg (by omega), e, ti_sub (by omega) (by omega), hc, l8]⟩)
theorem hh_fx {V : Nat → Nat → Nat → Bool} (F : FX V S T) (h : V 54 0 c = false) : hh T c = hh S c := by unfold hh; rw [F.1 54 0 c h]
theorem hq_fx {V : Nat → Nat → Nat → Bool} {k : Nat} (F : FX V S T) (h : V 53 c k = false) : hq T c k = hq S c k := by unfold hq; rw [F.1 53 c k h]
theorem tq_fx {V : Nat → Nat → Nat → Bool} (F : FX V S T) (h : V 54 0 c = false) (h2 : ∀ k : Nat, V 53 c k = false) : tq T c = tq S c := by unfold tq; rw [hh_fx F h, hq_fx F (h2 _)]
/-- the reference's grips -/
def GOq (S T : fS) (c : Nat) : Prop := ge T 40 0 42 = -1 ∧ ((mis S c ∧ ge T 40 0 41 = 0 ∧ ge T 40 0 40 = 0 ∧ ge T 40 0 44 = 0 ∧ ge T 40 0 45 = 0) ∨ (¬ mis S c ∧ RGq S T (gL S c) ∧ ge T 40 0 41 = (if wrd S (gL S c) then 4 else 5) ∧ (ge T 40 0 45).toInt = (upq S c : Int)))
theorem q_gend {a1 : Int32} {L : List Nat} (H : HVq S) (hc : c < 64) (ha : a1.toInt = (c : Int)) (hm : ¬ mis S c) (h : RGq S T L) (hLn : ∀ t : Nat, t ∈ L → (t : Int) < nq S) (F : FX Wgr S T) (h42 : ge T 40 0 42 = -1) (hL : L = gL S c) : pk (B_X7_grips_141 a1 T) (fun _ U => FX Wgr S U ∧ GOq S U c) := by
  have l0 : (0 : Int32).toInt = 0 := by decide
  have l9 : (9 : Int32).toInt = 9 := by decide
  have l10 : (10 : Int32).toInt = 10 := by decide
  have hh0 := H.2.1 c hc
  have J : ∀ (v : Int32), v.toInt = (upq S c : Int) → pk (B_X7_grips_166 v T) (fun _ U => FX Wgr S U ∧ GOq S U c) := by
    intro v hv
    unfold B_X7_grips_166
    refine pq_sv fun S20 E20 => pq_sv fun S21 E21 => ?_
    have F20 : FX Wgr S S20 := by rw [E20]; exact F.wr rfl
    have F21 : FX Wgr S S21 := by rw [E21]; exact F20.wr rfl
    have a45 : (ge S21 40 0 45).toInt = (upq S c : Int) := by rw [E21, ge_puj (by decide), E20, ge_pus]; exact hv
    have a41 : ge S21 40 0 41 = 5 := by rw [E21, ge_pus]
    have a42 : ge S21 40 0 42 = -1 := by rw [E21, ge_puj (by decide), E20, ge_puj (by decide)]; exact h42
    have r21 : RGq S S21 L := ⟨by rw [E21, ge_puj (by decide), E20, ge_puj (by decide)]; exact h.1, fun k hk => by rw [E21, ge_pua (by decide), E20, ge_pua (by decide)]; exact h.2.1 k hk, by rw [E21, ge_puj (by decide), E20, ge_puj (by decide)]; exact h.2.2⟩
    refine pq_lp (fun (z : Int32) U => FX Wgr S U ∧ RGq S U L ∧ (ge U 40 0 45).toInt = (upq S c : Int) ∧ ge U 40 0 42 = -1 ∧ ∃ k : Nat, z.toInt = (k : Int) ∧ k ≤ L.length ∧ ge U 40 0 41 = if wrd S (L.take k) then 4 else 5) (fun _ _ (_ : Int32) U => FX Wgr S U ∧ GOq S U c) ?_ fuel 0 S21 ⟨F21, r21, a45, a42, 0, l0, Nat.zero_le _, a41⟩
    intro k hk z U hI
    obtain ⟨FU, rU, u45, u42, i, i1, i2, i3⟩ := hI
    unfold B_X7_grips_176
    refine pq_iv fun x12 e12 => ?_
    have g12 : x12.toInt = (L.length : Int) := by rw [e12]; exact rU.1
    refine pq_le (fun c0 => ?_) (fun c0 => ?_)
    · have e : i = L.length := by omega
      rw [e, List.take_length] at i3
      rw [hL] at i3 rU
      exact pq_some ⟨FU, u42, Or.inr ⟨hm, rU, i3, u45⟩⟩
    · rw [cnNq i1]
      have hiL : i < L.length := by omega
      refine pq_gd fun _ => ?_
      refine pq_iv fun x15 e15 => ?_
      have g15 : x15.toInt = ((L.getD i 0 : Nat) : Int) := by rw [e15]; exact rU.2.1 i hiL
      rw [cnNq g15]
      refine pq_gd fun _ => ?_
      refine pq_iv fun x17 e17 => ?_
      rw [FU.1 51 0 _ rfl] at e17
      have nx : ∀ V : fS, FX Wgr S V → RGq S V L → (ge V 40 0 45).toInt = (upq S c : Int) → ge V 40 0 42 = -1 → (ge V 40 0 41 = if wrd S (L.take (i + 1)) then 4 else 5) → pk (B_X7_grips_203 k z V) (fun _ U => FX Wgr S U ∧ GOq S U c) := by
        intro V FV rV v45 v42 v41
        unfold B_X7_grips_203
        refine pq_iv fun x11 e11 => ?_
        have g11 : x11.toInt = z.toInt + 1 := by rw [e11]; exact ti_inc (by omega)
        exact hk x11 V ⟨FV, rV, v45, v42, i + 1, by omega, by omega, v41⟩
      have tk : wrd S (L.take (i + 1)) = (wrd S (L.take i) || decide (¬ ge S 51 0 (L.getD i 0) = 0)) := by
        have e : L.take (i + 1) = L.take i ++ [L.getD i 0] := by
          rw [List.take_succ, List.getD_eq_getElem?_getD, List.getElem?_eq_getElem hiL]
          rfl
        rw [e, wrd_app]
      refine pq_bb (fun c1 => nx U FU rU u45 u42 ?_) (fun c1 => ?_)
      · rw [i3, tk, ← e17, c1]
        cases wrd S (L.take i) <;> rfl
      · refine pq_sv fun S19 E19 => nx S19 (by rw [E19]; exact FU.wr rfl) ⟨by rw [E19, ge_puj (by decide)]; exact rU.1, fun k hk => by rw [E19, ge_pua (by decide)]; exact rU.2.1 k hk, by rw [E19, ge_puj (by decide)]; exact rU.2.2⟩ (by rw [E19, ge_puj (by decide)]; exact u45) (by rw [E19, ge_puj (by decide)]; exact u42) ?_
        rw [E19, ge_pus, tk, ← e17, decide_eq_true c1, Bool.or_true]
        rfl
  unfold B_X7_grips_141
  rw [cnNq ha]
  refine pq_gd fun _ => ?_
  refine pq_iv fun x23 e23 => ?_
  rw [F.1 54 0 c rfl] at e23
  have g23 : x23.toInt = hh S c := by rw [e23]; rfl
  refine pq_le (fun c0 => ?_) (fun c0 => J 0 (by unfold upq; omega))
  refine pq_gd fun _ => ?_
  refine pq_iv fun x26 e26 => ?_
  rw [F.1 54 0 c rfl] at e26
  have g26 : x26.toInt = hh S c := by rw [e26]; rfl
  refine pq_iv fun x27 e27 => J x27 ?_
  rw [e27, ti_sub (by omega) (by omega), l10, g26]
  unfold upq
  omega
theorem gn_in (H : HVq S) (hc : c < 64) : ∀ u : Nat, u ∈ gn S c lk d → (u : Int) < nq S := by
  intro u hu
  unfold gn at hu
  by_cases h1 : nbI c d = -1
  · rw [if_pos h1] at hu; cases hu
  · rw [if_neg h1] at hu
    by_cases h2 : tq S (nbI c d).toNat = -1
    · rw [if_pos h2] at hu; cases hu
    · rw [if_neg h2] at hu
      have a := tq_in H (c := (nbI c d).toNat) (by have := nbI_in (c := c) (d := d) hc; omega) h2
      by_cases h3 : ge S 47 0 (tq S (nbI c d).toNat).toNat = lk
      · rw [if_pos h3] at hu
        have := List.mem_singleton.1 hu
        omega
      · rw [if_neg h3] at hu; cases hu
theorem gF_in (H : HVq S) (hc : c < 64) : ∀ (d u : Nat), u ∈ gF S c lk d → (u : Int) < nq S
  | 0, _, h => nomatch h
  | d + 1, u, h => (List.mem_append.1 h).elim (gF_in H hc d u) (gn_in H hc u)
theorem gL_in (H : HVq S) (hc : c < 64) (hm : ¬ tq S c = -1) : ∀ u : Nat, u ∈ gL S c → (u : Int) < nq S := by
  intro u hu
  have a := tq_in H hc hm
  unfold gL at hu
  rcases List.mem_cons.1 hu with e | e
  · rw [e]; omega
  · by_cases z : 0 < (ge S 47 0 (tq S c).toNat).toInt
    · rw [if_pos z] at e; exact gF_in H hc 4 u e
    · rw [if_neg z] at e; cases e
theorem q_grips (H : HVq S) (hp : p.toInt = (c : Int)) (hc : c < 64) : pk (F_X7_grips p S) (fun _ T => FX Wgr S T ∧ GOq S T c) := by
  have l0 : (0 : Int32).toInt = 0 := by decide
  have l4 : (4 : Int32).toInt = 4 := by decide
  have lm1 : (-1 : Int32).toInt = -1 := by decide
  unfold F_X7_grips
  refine pq_sv fun S39 E39 => pq_sv fun S40 E40 => pq_sv fun S41 E41 => pq_sv fun S42 E42 => pq_sv fun S43 E43 => ?_
  have F39 : FX Wgr S S39 := by rw [E39]; exact FX.rf.wr rfl
  have F40 : FX Wgr S S40 := by rw [E40]; exact F39.wr rfl
  have F41 : FX Wgr S S41 := by rw [E41]; exact F40.wr rfl
  have F42 : FX Wgr S S42 := by rw [E42]; exact F41.wr rfl
  have F43 : FX Wgr S S43 := by rw [E43]; exact F42.wr rfl
  have b40 : ge S43 40 0 40 = 0 := by rw [E43, ge_puj (by decide), E42, ge_puj (by decide), E41, ge_puj (by decide), E40, ge_puj (by decide), E39, ge_pus]
  have b44 : ge S43 40 0 44 = 0 := by rw [E43, ge_puj (by decide), E42, ge_puj (by decide), E41, ge_puj (by decide), E40, ge_pus]
  have b45 : ge S43 40 0 45 = 0 := by rw [E43, ge_puj (by decide), E42, ge_puj (by decide), E41, ge_pus]
  have b42 : ge S43 40 0 42 = -1 := by rw [E43, ge_puj (by decide), E42, ge_pus]
  have b41 : ge S43 40 0 41 = 0 := by rw [E43, ge_pus]
  refine pq_bd (q_topOf (c := c) hp (by rw [hh_fx F43 rfl]; exact H.2.1 c hc)) (fun v44 T q => ?_)
  obtain ⟨rfl, q44⟩ := q
  have q44 : v44.toInt = tq S c := by
    rw [q44]
    show tq S43 c = tq S c
    exact tq_fx F43 rfl (fun _ => rfl)
  have done : mis S c → FX Wgr S S43 ∧ GOq S S43 c := fun hm => ⟨F43, b42, Or.inl ⟨hm, b41, b40, b44, b45⟩⟩
  refine pq_iv fun x47 e47 => ?_
  rw [F43.1 40 0 30 rfl] at e47
  refine pq_eq (fun c0 => pq_some (done (Or.inl (by rw [← e47]; omega)))) (fun c0 => ?_)
  refine pq_eq (fun c1 => pq_some (done (Or.inr (Or.inl (by omega))))) (fun c1 => ?_)
  refine pq_iv fun x50 e50 => pq_iv fun x51 e51 => pq_iv fun x52 e52 => ?_
  have g50 : x50.toInt = ((c % 8 : Nat) : Int) := by rw [e50]; exact md8 hp
  have g51 : x51.toInt = ((c / 8 : Nat) : Int) := by rw [e51]; exact dv8 hp
  have g52 : x52.toInt = ((c % 8 + c / 8 : Nat) : Int) := by rw [e52, ti_add (by omega) (by omega)]; omega
  refine pq_iv fun x53 e53 => ?_
  rw [F43.1 40 0 31 rfl] at e53
  refine pq_le (fun c2 => ?_) (fun c2 => pq_some (done (Or.inr (Or.inr (by rw [← e53]; omega)))))
  have hm : ¬ mis S c := by
    unfold mis
    rw [← e47, ← e53]
    omega
  have ht1 : ¬ tq S c = -1 := by omega
  have htn := tq_in H hc ht1
  obtain ⟨t, ht⟩ : ∃ t : Nat, t = (tq S c).toNat := ⟨_, rfl⟩
  have gt : v44.toInt = (t : Int) := by omega
  refine pq_bd (q_takes (S := S) (T := S43) (L := []) ⟨by rw [b40]; exact l0, fun k hk => absurd hk (Nat.not_lt_zero _), b44⟩ F43 gt) (fun _ S56 q => ?_)
  obtain ⟨F56, r56⟩ := q
  have hsub : ∀ a i j : Nat, Wgr a i j = false → Wgt a i j = false := by
    intro a i j h
    unfold Wgr at h
    unfold Wgt
    cases h1 : Nat.beq a 55 <;> cases h2 : Nat.beq a 40 <;> cases h3 : Nat.beq j 40 <;> cases h4 : Nat.beq j 44 <;> rw [h1, h2, h3, h4] at h <;> first | rfl | (cases h) | (cases h5 : Nat.beq j 41 <;> cases h6 : Nat.beq j 42 <;> rw [h5, h6] at h <;> cases h)
  have G56 : FX Wgr S S56 := F43.tr (F56.sub hsub)
  have c42 : ge S56 40 0 42 = -1 := by rw [F56.1 40 0 42 rfl]; exact b42
  obtain ⟨lk, hlk⟩ : ∃ lk : Int32, lk = ge S 47 0 t := ⟨_, rfl⟩
  have hgL : gL S c = t :: (if 0 < lk.toInt then gF S c lk 4 else []) := by unfold gL; rw [hlk, ht]
  refine pq_lp (fun (z : Int32 × Int32 × Int32) U => z.1 = p ∧ z.2.1 = v44 ∧ FX Wgr S U ∧ ge U 40 0 42 = -1 ∧ ∃ d : Nat, z.2.2.toInt = (d : Int) ∧ d ≤ 4 ∧ RGq S U (t :: gF S c lk d) ∧ (0 < lk.toInt ∨ d = 0)) (fun _ _ (_ : Int32) U => FX Wgr S U ∧ GOq S U c) ?_ fuel (p, v44, 0) S56 ⟨rfl, rfl, G56, c42, 0, l0, Nat.zero_le _, r56, Or.inr rfl⟩
  intro k hk z U hI
  obtain ⟨a1, a2, a3⟩ := z
  obtain ⟨e1, e2, FU, u42, d, d1, d2, rU, d3⟩ := hI
  dsimp only at e1 e2 d1
  subst e1
  subst e2
  have inL : ∀ u : Nat, u ∈ t :: gF S c lk d → (u : Int) < nq S := by
    intro u hu
    rcases List.mem_cons.1 hu with e | e
    · omega
    · exact gF_in H hc d u e
  unfold B_X7_grips_68
  dsimp only
  refine pq_le (fun c3 => ?_) (fun c3 => ?_)
  · have e : d = 4 := by omega
    rw [e] at rU inL d3
    refine q_gend H hc hp hm rU inL FU u42 ?_
    rw [hgL, if_pos (by omega)]
  · rw [cnNq gt]
    refine pq_gd fun _ => ?_
    refine pq_iv fun x30 e30 => ?_
    rw [FU.1 47 0 t rfl, ← hlk] at e30
    refine pq_le (fun c4 => ?_) (fun c4 => ?_)
    · have e : d = 0 := by rw [e30] at c4; omega
      rw [e] at rU inL
      refine q_gend H hc hp hm rU inL FU u42 ?_
      rw [hgL, if_neg (by rw [← e30]; omega)]
      rfl
    · have hpos : 0 < lk.toInt := by rw [← e30]; omega
      have nx : ∀ V : fS, FX Wgr S V → ge V 40 0 42 = -1 → RGq S V (t :: gF S c lk (d + 1)) → pk (B_X7_grips_135 k a1 a2 a3 V) (fun _ U => FX Wgr S U ∧ GOq S U c) := by
        intro V FV v42 rV
        unfold B_X7_grips_135
        refine pq_iv fun x1 e1 => ?_
        have g1 : x1.toInt = a3.toInt + 1 := by rw [e1]; exact ti_inc (by omega)
        exact hk (a1, a2, x1) V ⟨rfl, rfl, FV, v42, d + 1, by dsimp only; omega, by omega, rV, Or.inl hpos⟩
      have none : gn S c lk d = [] → RGq S U (t :: gF S c lk (d + 1)) := by
        intro e
        show RGq S U (t :: (gF S c lk d ++ gn S c lk d))
        rw [e, List.append_nil]
        exact rU
      refine pq_bd (q_beside hp hc d1 (by omega)) (fun v32 V q => ?_)
      obtain ⟨rfl, q32⟩ := q
      refine pq_eq (fun c5 => ?_) (fun c5 => ?_)
      · unfold B_X7_grips_105
        refine pq_bb (fun _ => nx U FU u42 (none ?_)) (fun n => absurd rfl n)
        unfold gn
        rw [if_pos (by omega)]
      · have hn1 : ¬ nbI c d = -1 := by omega
        have hin := nbI_in (c := c) (d := d) hc
        obtain ⟨cb, hcb⟩ : ∃ cb : Nat, cb = (nbI c d).toNat := ⟨_, rfl⟩
        have hcb64 : cb < 64 := by omega
        have g32 : v32.toInt = (cb : Int) := by omega
        refine pq_bd (q_topOf (c := cb) g32 (by rw [hh_fx FU rfl]; exact H.2.1 cb hcb64)) (fun v36 V q => ?_)
        obtain ⟨rfl, q36⟩ := q
        have q36 : v36.toInt = tq S cb := by
          rw [q36]
          show tq U cb = tq S cb
          exact tq_fx FU rfl (fun _ => rfl)
        unfold B_X7_grips_105
        refine pq_eq (fun c6 => nx U FU u42 (none ?_)) (fun c6 => ?_)
        · unfold gn
          rw [if_neg hn1, ← hcb, if_pos (by omega)]
        · have hb1 : ¬ tq S cb = -1 := by omega
          have hbn := tq_in H hcb64 hb1
          obtain ⟨u, hu⟩ : ∃ u : Nat, u = (tq S cb).toNat := ⟨_, rfl⟩
          have g36 : v36.toInt = (u : Int) := by omega
          rw [cnNq g36]
          refine pq_gd fun _ => ?_
          refine pq_iv fun x4 e4 => ?_
          rw [FU.1 47 0 u rfl] at e4
          rw [cnNq gt]
          refine pq_gd fun _ => ?_
          refine pq_iv fun x6 e6 => ?_
          rw [FU.1 47 0 t rfl, ← hlk] at e6
          refine pq_bb (fun c7 => ?_) (fun c7 => nx U FU u42 (none ?_))
          · refine pq_bd (q_takes rU FU g36) (fun _ V q => ?_)
            obtain ⟨FV, rV⟩ := q
            refine nx V (FU.tr (FV.sub hsub)) (by rw [FV.1 40 0 42 rfl]; exact u42) ?_
            show RGq S V (t :: (gF S c lk d ++ gn S c lk d))
            have e : gn S c lk d = [u] := by
              unfold gn
              rw [if_neg hn1, ← hcb, if_neg hb1, ← hu, if_pos (by rw [← e4, ← e6]; exact c7)]
            rw [e]
            exact rV
          · unfold gn
            rw [if_neg hn1, ← hcb, if_neg hb1, ← hu, if_neg (by rw [← e4, ← e6]; exact c7)]
end GRI
