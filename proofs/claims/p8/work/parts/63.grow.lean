/-! the world grows while the program runs -/
noncomputable def gdc {A : Type} (c : Prop) (k : Option A) : Option A := @gd A c (Classical.propDecidable c) k
theorem gdc_some {A : Type} {c : Prop} {k : Option A} {r : A} (h : gdc c k = some r) : c ∧ k = some r := gd_some h
def nv {A : Type} (v : Nat) (k : Nat → Option A) : Option A := k v
theorem nv_some {A : Type} {v : Nat} {k : Nat → Option A} {r : A} (h : nv v k = some r) : ∃ x : Nat, x = v ∧ k x = some r := ⟨v, rfl, h⟩
theorem lt_nT {S : fS} {n : Nat × Nat} {t : Nat} (hn : S.2.2.1 = n) (h : t < n.1) : t < nT S := by rw [← hn] at h; exact h
theorem lt_nC {S : fS} {n : Nat × Nat} {t : Nat} (hn : S.2.2.1 = n) (h : t < n.2) : t < nC S := by rw [← hn] at h; exact h
/-- all references are to blocks that are there -/
def Cl (S : fS) : Prop := (∀ i j t : Nat, gr S 11 i j = some t → t < nT S) ∧ ∀ a i j t : Nat, a = 13 ∨ a = 14 → gr S a i j = some t → t < nC S
/-- a new try, a new code -/
def newT (S : fS) : fS := (fun a i j => if a = 25 ∧ i = nT S then tI j else if a = 26 ∧ i = nT S then 0 else S.1 a i j, S.2.1, (nT S + 1, nC S), S.2.2.2)
def newC (S : fS) (x : Int32) : fS := (fun a i j => if a = 30 ∧ i = nC S then (if j < x.toNatClampNeg then ge S 21 0 j else 0) else S.1 a i j, S.2.1, (nT S, nC S + 1), fun i => if i = nC S then x.toNatClampNeg else S.2.2.2 i)
theorem getD_all {α : Type} {p : α → Prop} {d : α} (hd : p d) : ∀ (l : List α), (∀ x ∈ l, p x) → ∀ j : Nat, p (l.getD j d)
  | [], _, _ => by simpa using hd
  | x :: l, h, 0 => by simpa using h x List.mem_cons_self
  | x :: l, h, j + 1 => by
    have := getD_all hd l (fun y hy => h y (List.mem_cons_of_mem _ hy)) j
    simpa using this
theorem fo_lt (a j : Nat) : ((foL.getD a []).getD j (0, 0, 0)).1 < 72 := getD_all (p := fun e : Nat × Nat × Nat => e.1 < 72) (by decide) _ (getD_all (p := fun l : List (Nat × Nat × Nat) => ∀ x ∈ l, x.1 < 72) (by simp) foL (by decide) a) j
theorem fa_lt (a : Nat) : (faL.getD a (0, 0)).1 < 72 := getD_all (p := fun e : Nat × Nat => e.1 < 72) (by decide) faL (by decide) a
theorem rf_lt {S : fS} {a i b c : Nat} (h : Rf S a i b c) : b < 72 := by
  have hq : ∀ j : Nat, (fq a i j).1 < 72 := by
    intro j
    unfold fq
    by_cases q : fk a = 2
    · rw [if_pos q]; exact fa_lt a
    · rw [if_neg q]; exact fo_lt a j
  rcases h with ⟨-, j, -, -, h⟩ | ⟨-, j, -, h⟩ | ⟨-, h, -⟩ | ⟨-, h, -⟩
  · have := hq j; rw [h] at this; exact this
  · have := hq j; rw [h] at this; exact this
  · omega
  · omega
theorem fam_out {a : Nat} (h : famL.length ≤ a) : fam a = (9, 0, 0, 0) := by
  unfold fam
  rw [List.getD_eq_getElem?_getD, List.getElem?_eq_none h]
  rfl
def spc (a : Nat) : Bool := a == 25 || a == 26 || a == 29 || a == 30
/-- where the fixed references of family a go to -/
def tabO (a j : Nat) : Bool :=
  let e := (foL.getD a []).getD j (0, 0, 0)
  !(fk a == 0 && decide (j < fN a) && !(fd a j == 0)) || (e.2.1 == 0 && !(spc e.1) && decide (e.2.2 < (fam e.1).2.2.2)) || (e.2.1 == 0 && e.1 == 25 && e.2.2 == 0) || (!(e.2.1 == 0) && ((a == 25 && e.1 == 26) || (a == 29 && e.1 == 30) || (!(spc a) && !(spc e.1) && decide ((fam a).2.2.2 ≤ (fam e.1).2.2.2))))
def tabA (a : Nat) : Bool := !(fk a == 2) || (!(spc (faL.getD a (0, 0)).1) && decide ((faL.getD a (0, 0)).2 + fx a ≤ (fam (faL.getD a (0, 0)).1).2.2.2))
theorem tabO_ok : ∀ a : Nat, a < 92 → ∀ j : Nat, j < 60 → tabO a j = true := by decide +kernel
theorem tabA_ok : ∀ a : Nat, a < 92 → tabA a = true := by decide +kernel
theorem fN_ok : ∀ a : Nat, a < 92 → fN a ≤ 60 := by decide +kernel
theorem kd3_ok : ∀ a : Nat, a < 92 → fk a = 3 → a = 11 := by decide +kernel
theorem kd4_ok : ∀ a : Nat, a < 92 → fk a = 4 → a = 13 ∨ a = 14 := by decide +kernel
theorem kd9_ok : ∀ a : Nat, a < 92 → 4 < fk a → (fam a).2.2.2 = 0 := by decide +kernel
theorem isn_n {n : Nat × Nat} {a i : Nat} (hs : spc a = false) : isn n a i ↔ i < (fam a).2.2.2 := by
  unfold spc at hs
  simp only [Bool.or_eq_false_iff, beq_eq_false_iff_ne] at hs
  unfold isn
  rw [if_neg (by omega), if_neg (by omega)]
theorem spc_f {a : Nat} (h : (!(spc a)) = true) : spc a = false := by simpa using h
theorem rc_isn {S : fS} {n : Nat × Nat} (hc : Cl S) (hn : S.2.2.1 = n) (h0 : 0 < n.1) : RC (isn n) S := by
  intro a i b c hp hr
  have ha : a < 92 := by
    rcases Nat.lt_or_ge a 92 with h | h
    · exact h
    · have e9 : fam a = (9, 0, 0, 0) := fam_out (by exact h)
      unfold isn at hp
      rw [if_neg (by omega), if_neg (by omega), e9] at hp
      exact absurd hp (Nat.not_lt_zero _)
  rcases hr with ⟨hk, j, hj, hd, hq⟩ | ⟨hk, j, hj, hq⟩ | ⟨hk, e1, j, hj⟩ | ⟨hk, e1, j, hj⟩
  · have ht := tabO_ok a ha j (Nat.lt_of_lt_of_le hj (fN_ok a ha))
    have hq2 : (((foL.getD a []).getD j (0, 0, 0)).1, if ((foL.getD a []).getD j (0, 0, 0)).2.1 = 0 then ((foL.getD a []).getD j (0, 0, 0)).2.2 else i) = (b, c) := by
      rw [← hq]
      exact (if_neg (show ¬ fk a = 2 by rw [hk]; decide)).symm
    unfold tabO at ht
    generalize (foL.getD a []).getD j (0, 0, 0) = e at ht hq2
    obtain ⟨e1, e2, e3⟩ := e
    obtain ⟨rfl, hc2⟩ := Prod.mk.inj hq2
    simp only [Bool.or_eq_true, Bool.and_eq_true, decide_eq_true_eq, beq_iff_eq, Bool.not_eq_true'] at ht
    simp only at hc2
    rcases ht with ((ht | ⟨⟨h1, h2⟩, h3⟩) | ⟨⟨h1, h2⟩, h3⟩) | ⟨h1, h2⟩
    · exfalso
      have h5 : (fk a == 0 && decide (j < fN a) && !(fd a j == 0)) = true := by
        simp only [Bool.and_eq_true, beq_iff_eq, decide_eq_true_eq, Bool.not_eq_true', beq_eq_false_iff_ne]
        exact ⟨⟨hk, hj⟩, hd⟩
      rw [h5] at ht
      cases ht
    · rw [if_pos h1] at hc2
      subst hc2
      exact (isn_n h2).mpr h3
    · rw [if_pos h1] at hc2
      subst h2 h3 hc2
      exact h0
    · have h1' : ¬ e2 = 0 := by simpa using h1
      rw [if_neg h1'] at hc2
      subst hc2
      rcases h2 with (⟨h3, h4⟩ | ⟨h3, h4⟩) | ⟨⟨h3, h4⟩, h5⟩
      · subst h3 h4
        exact hp
      · subst h3 h4
        exact hp
      · exact (isn_n h4).mpr (Nat.lt_of_lt_of_le ((isn_n h3).mp hp) h5)
  · have ht := tabA_ok a ha
    have hq2 : ((faL.getD a (0, 0)).1, (faL.getD a (0, 0)).2 + j) = (b, c) := by
      rw [← hq]
      unfold fq
      rw [if_pos hk]
    unfold tabA at ht
    simp only [Bool.or_eq_true, Bool.and_eq_true, decide_eq_true_eq, Bool.not_eq_true'] at ht
    obtain ⟨e1, e2⟩ := Prod.mk.inj hq2
    rcases ht with ht | ⟨h1, h2⟩
    · exfalso
      rw [hk] at ht
      cases ht
    · subst e1 e2
      exact (isn_n h1).mpr (by omega)
  · have h11 := kd3_ok a ha hk
    subst h11 e1
    have h1 := hc.1 i j c hj
    show c < n.1
    rw [← hn]
    exact h1
  · by_cases h4 : fk a = 4
    · subst e1
      have h1 := hc.2 a i j c (kd4_ok a ha h4) hj
      show c < n.2
      rw [← hn]
      exact h1
    · have h0 := kd9_ok a ha (by omega)
      have hs : spc a = false := by
        cases hs : spc a with
        | false => rfl
        | true =>
          exfalso
          unfold spc at hs
          simp only [Bool.or_eq_true, beq_iff_eq] at hs
          rcases hs with ((rfl | rfl) | rfl) | rfl
          · exact absurd hk (by decide)
          · exact absurd hk (by decide)
          · exact absurd hk (by decide)
          · exact absurd hk (by decide)
      have := (isn_n hs).mp hp
      rw [h0] at this
      exact absurd this (Nat.not_lt_zero _)
/-- the cells of old blocks are the same in the memory with a new try -/
theorem cell_newT {K : Nat → ClassId} {ad : Nat → Nat → Nat} {S : fS} {a i : Nat} (h : ¬ ((a = 25 ∨ a = 26) ∧ i = nT S)) : cellOf K ad (newT S) a i = cellOf K ad S a i := by
  have hg : ∀ j : Nat, ge (newT S) a i j = ge S a i j := by
    intro j
    show (if a = 25 ∧ i = nT S then tI j else if a = 26 ∧ i = nT S then 0 else S.1 a i j) = S.1 a i j
    rw [if_neg (fun q => h ⟨Or.inl q.1, q.2⟩), if_neg (fun q => h ⟨Or.inr q.1, q.2⟩)]
  have hv : fvs ad (newT S) a i = fvs ad S a i := by
    unfold fvs
    apply List.map_congr_left
    intro j _
    unfold fv
    rw [hg]
  unfold cellOf
  generalize fk a = k
  match k with
  | 0 => show (Sum.inr (fx a, fvs ad (newT S) a i) : va_E) = _; rw [hv]; rfl
  | 1 => show (Sum.inl (K (fy a), flen S a i, Sum.inl (fun j => ge (newT S) a i j)) : va_E) = _; rw [show (fun j => ge (newT S) a i j) = fun j => ge S a i j from funext hg]; rfl
  | 2 => rfl
  | 3 => rfl
  | (_ + 4) => rfl
theorem cell_newC {K : Nat → ClassId} {ad : Nat → Nat → Nat} {S : fS} {x : Int32} {a i : Nat} (h : ¬ (a = 30 ∧ i = nC S)) : cellOf K ad (newC S x) a i = cellOf K ad S a i := by
  have hg : ∀ j : Nat, ge (newC S x) a i j = ge S a i j := by
    intro j
    show (if a = 30 ∧ i = nC S then _ else S.1 a i j) = S.1 a i j
    rw [if_neg h]
  have hl : flen (newC S x) a i = flen S a i := by
    unfold flen
    by_cases q : a = 30
    · rw [if_pos q, if_pos q]
      show (if i = nC S then _ else S.2.2.2 i) = S.2.2.2 i
      rw [if_neg (fun e => h ⟨q, e⟩)]
    · rw [if_neg q, if_neg q]
  have hv : fvs ad (newC S x) a i = fvs ad S a i := by
    unfold fvs
    apply List.map_congr_left
    intro j _
    unfold fv
    rw [hg]
  unfold cellOf
  generalize fk a = k
  match k with
  | 0 => show (Sum.inr (fx a, fvs ad (newC S x) a i) : va_E) = _; rw [hv]; rfl
  | 1 => show (Sum.inl (K (fy a), flen (newC S x) a i, Sum.inl (fun j => ge (newC S x) a i j)) : va_E) = _; rw [show (fun j => ge (newC S x) a i j) = fun j => ge S a i j from funext hg, hl]; rfl
  | 2 => rfl
  | 3 => rfl
  | (_ + 4) => rfl
theorem isn_up {n n2 : Nat × Nat} (h1 : n.1 ≤ n2.1) (h2 : n.2 ≤ n2.2) {a i : Nat} (h : isn n a i) : isn n2 a i := by
  unfold isn at h ⊢
  by_cases q : a = 25 ∨ a = 26
  · rw [if_pos q] at h ⊢; omega
  · rw [if_neg q] at h ⊢
    by_cases q2 : a = 29 ∨ a = 30
    · rw [if_pos q2] at h ⊢; omega
    · rw [if_neg q2] at h ⊢; exact h
/-- what is known at a point of a method in whose course the world grows -/
def GC (K : Nat → ClassId) (nO : Nat × Nat) (adO : Nat → Nat → Nat) (LO : List Nat) (fO : Nat → va_E) (E : (Nat → Nat → Prop) → Prop) (S : fS) (ad : Nat → Nat → Nat) (P : Nat → Nat → Prop) (n : Nat × Nat) (L : List Nat) (f : Nat → va_E) : Prop :=
  PW K ad P S L f ∧ S.2.2.1 = n ∧ 0 < n.1 ∧ (∀ a i : Nat, isn n a i → P a i) ∧ (∀ a i : Nat, isn nO a i → isn n a i) ∧ Gr (fun _ => False) (isn nO) adO LO fO P ad L f ∧ E P
section GG
variable {K : Nat → ClassId} {nO n : Nat × Nat} {adO ad : Nat → Nat → Nat} {LO L : List Nat} {fO f : Nat → va_E} {E : (Nat → Nat → Prop) → Prop} {S S1 : fS} {P : Nat → Nat → Prop} {B : Type} {a v : B}
theorem gq_w (h : some (a, S) = some (v, S1)) (hw : PW K ad P S L f) (hn : S.2.2.1 = n) (hP : ∀ a i : Nat, isn n a i → P a i) : PW K ad (isn S1.2.2.1) S1 L f := by
  cases h
  rw [hn]
  exact hw.mono hP
theorem gq_g (h : some (a, S) = some (v, S1)) (hn : S.2.2.1 = n) (hP : ∀ a i : Nat, isn n a i → P a i) (hle : ∀ a i : Nat, isn nO a i → isn n a i) (hG : Gr (fun _ => False) (isn nO) adO LO fO P ad L f) : Gr (fun _ => False) (isn nO) adO LO fO (isn S1.2.2.1) ad L f := by
  cases h
  rw [hn]
  exact hG.sub hP hle
theorem gz_w (h : (v, S1) = (a, S)) (hw : PW K ad P S L f) (hn : S.2.2.1 = n) (hP : ∀ a i : Nat, isn n a i → P a i) : PW K ad (isn S1.2.2.1) S1 L f := by
  cases h
  rw [hn]
  exact hw.mono hP
theorem gz_g (h : (v, S1) = (a, S)) (hn : S.2.2.1 = n) (hP : ∀ a i : Nat, isn n a i → P a i) (hle : ∀ a i : Nat, isn nO a i → isn n a i) (hG : Gr (fun _ => False) (isn nO) adO LO fO P ad L f) : Gr (fun _ => False) (isn nO) adO LO fO (isn S1.2.2.1) ad L f := by
  cases h
  rw [hn]
  exact hG.sub hP hle
end GG
section GX
variable (D : va_G) (K : Nat → ClassId) (b0 : Nat) (sa : sT) (nO : Nat × Nat) (adO : Nat → Nat → Nat) (LO : List Nat) (fO : Nat → va_E) (E : (Nat → Nat → Prop) → Prop) (p : Program) (l : Launch) (e : Env) (rm : Room) (s : State) (m : MethodId) (args : Array Value) (below : List Frame) (meth : Method) (c : Code) (nL : Nat) (Q : State → Prop) (cells slots : Nat)
def GwG (pc : Nat) (lv : (Nat → Nat → Nat) → List (Nat × Value)) (stk : (Nat → Nat → Nat) → List Value) (S : fS) : Prop :=
  ∀ (ad : Nat → Nat → Nat) (P : Nat → Nat → Prop) (n : Nat × Nat) (L : List Nat) (f : Nat → va_E) (H : Heap) (locs : List Loc), Wh D K b0 sa s H locs L f → GC K nO adO LO fO E S ad P n L f → ∀ ls : Array Slot, lv_has ls nL (lv ad) → W p l e rm s m args below meth c H locs cells slots Q (F0 m pc ls (stk ad))
end GX
