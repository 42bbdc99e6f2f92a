-- families: kind, class or length, type, how many
def famL : List (Nat × Nat × Nat × Nat) := [(0, 6, 0, 1), (0, 0, 0, 5), (0, 2, 0, 5), (1, 24, 0, 5), (1, 24, 0, 5), (1, 24, 0, 5), (1, 24, 0, 5), (1, 24, 0, 5), (1, 24, 0, 5), (1, 24, 0, 5), (1, 64, 0, 5), (3, 200, 4, 5), (2, 3, 2, 1), (4, 6, 3, 1), (4, 3, 3, 1), (1, 6, 0, 1), (1, 300, 0, 1), (0, 4, 0, 1), (1, 300, 0, 1), (1, 300, 0, 1), (1, 300, 0, 1), (1, 300, 0, 1), (0, 3, 0, 1), (1, 300, 0, 1), (1, 3, 0, 1), (0, 5, 0, 0), (1, 5, 0, 0), (1, 36, 0, 1), (1, 36, 0, 1), (0, 1, 0, 0), (1, 0, 0, 0), (9, 0, 0, 0), (9, 0, 0, 0), (9, 0, 0, 0), (9, 0, 0, 0), (9, 0, 0, 0), (9, 0, 0, 0), (9, 0, 0, 0), (9, 0, 0, 0), (9, 0, 0, 0), (0, 7, 0, 1), (1, 300, 0, 1), (2, 9, 5, 1), (1, 300, 0, 9), (1, 9, 0, 1), (1, 7, 0, 1), (1, 24, 0, 1), (1, 24, 0, 1), (1, 24, 0, 1), (1, 24, 0, 1), (1, 24, 0, 1), (1, 24, 1, 1), (2, 64, 5, 1), (1, 24, 0, 64), (1, 64, 0, 1), (1, 5, 0, 1), (2, 200, 5, 1), (1, 14, 0, 200), (2, 6, 5, 1), (1, 9, 0, 6), (2, 256, 5, 1), (1, 24, 0, 256), (2, 4, 5, 1), (1, 64, 0, 4), (2, 4, 5, 1), (1, 24, 0, 4), (2, 4, 5, 1), (1, 11, 0, 4), (2, 15, 5, 1), (1, 24, 0, 15), (2, 600, 5, 1), (1, 14, 0, 600), (9, 0, 0, 0), (9, 0, 0, 0), (9, 0, 0, 0), (9, 0, 0, 0), (9, 0, 0, 0), (9, 0, 0, 0), (9, 0, 0, 0), (9, 0, 0, 0), (9, 0, 0, 0), (9, 0, 0, 0), (9, 0, 0, 0), (9, 0, 0, 0), (9, 0, 0, 0), (9, 0, 0, 0), (9, 0, 0, 0), (9, 0, 0, 0), (9, 0, 0, 0), (9, 0, 0, 0), (1, 36, 0, 0), (1, 36, 0, 0)]
def foL : List (List (Nat × Nat × Nat)) := [[(1, 0, 0), (1, 0, 1), (12, 0, 0), (0, 0, 0), (13, 0, 0), (0, 0, 0), (14, 0, 0), (0, 0, 0), (15, 0, 0), (0, 0, 0), (16, 0, 0), (0, 0, 0), (0, 0, 0), (17, 0, 0), (22, 0, 0), (25, 0, 0), (27, 0, 0), (28, 0, 0)], [(2, 1, 0), (0, 0, 0), (0, 0, 0), (0, 0, 0), (0, 0, 0), (0, 0, 0), (0, 0, 0), (0, 0, 0), (0, 0, 0), (0, 0, 0), (0, 0, 0), (11, 1, 0), (0, 0, 0)], [(0, 0, 0), (3, 1, 0), (4, 1, 0), (5, 1, 0), (6, 1, 0), (7, 1, 0), (8, 1, 0), (9, 1, 0), (10, 1, 0)], [], [], [], [], [], [], [], [], [], [], [], [], [], [], [(18, 0, 0), (19, 0, 0), (20, 0, 0), (0, 0, 0), (0, 0, 0), (0, 0, 0), (21, 0, 0), (0, 0, 0), (0, 0, 0), (0, 0, 0), (0, 0, 0), (0, 0, 0)], [], [], [], [], [(23, 0, 0), (0, 0, 0), (24, 0, 0)], [], [], [(0, 0, 0), (0, 0, 0), (0, 0, 0), (0, 0, 0), (0, 0, 0), (0, 0, 0), (0, 0, 0), (0, 0, 0), (0, 0, 0), (0, 0, 0), (0, 0, 0), (0, 0, 0), (0, 0, 0), (0, 0, 0), (0, 0, 0), (26, 1, 0), (0, 0, 0)], [], [], [], [(30, 1, 0)], [], [], [], [], [], [], [], [], [], [], [(0, 0, 0), (0, 0, 0), (0, 0, 0), (0, 0, 0), (0, 0, 0), (0, 0, 0), (0, 0, 0), (0, 0, 0), (0, 0, 0), (0, 0, 0), (41, 0, 0), (42, 0, 0), (44, 0, 0), (0, 0, 0), (0, 0, 0), (0, 0, 0), (0, 0, 0), (45, 0, 0), (0, 0, 0), (0, 0, 0), (0, 0, 0), (0, 0, 0), (46, 0, 0), (47, 0, 0), (48, 0, 0), (49, 0, 0), (50, 0, 0), (51, 0, 0), (52, 0, 0), (54, 0, 0), (0, 0, 0), (0, 0, 0), (0, 0, 0), (0, 0, 0), (0, 0, 0), (0, 0, 0), (0, 0, 0), (0, 0, 0), (0, 0, 0), (55, 0, 0), (0, 0, 0), (0, 0, 0), (0, 0, 0), (0, 0, 0), (0, 0, 0), (0, 0, 0), (0, 0, 0), (56, 0, 0), (0, 0, 0), (58, 0, 0), (60, 0, 0), (62, 0, 0), (64, 0, 0), (66, 0, 0), (68, 0, 0), (70, 0, 0), (0, 0, 0)], [], [], [], [], [], [], [], [], [], [], [], [], [], [], [], [], [], [], [], [], [], [], [], [], [], [], [], [], [], [], [], [], [], [], [], [], [], [], [], [], [], [], [], [], [], [], [], [], [], [], []]
def faL : List (Nat × Nat) := [(0, 0), (0, 0), (0, 0), (0, 0), (0, 0), (0, 0), (0, 0), (0, 0), (0, 0), (0, 0), (0, 0), (0, 0), (1, 2), (0, 0), (0, 0), (0, 0), (0, 0), (0, 0), (0, 0), (0, 0), (0, 0), (0, 0), (0, 0), (0, 0), (0, 0), (0, 0), (0, 0), (0, 0), (0, 0), (0, 0), (0, 0), (0, 0), (0, 0), (0, 0), (0, 0), (0, 0), (0, 0), (0, 0), (0, 0), (0, 0), (0, 0), (0, 0), (43, 0), (0, 0), (0, 0), (0, 0), (0, 0), (0, 0), (0, 0), (0, 0), (0, 0), (0, 0), (53, 0), (0, 0), (0, 0), (0, 0), (57, 0), (0, 0), (59, 0), (0, 0), (61, 0), (0, 0), (63, 0), (0, 0), (65, 0), (0, 0), (67, 0), (0, 0), (69, 0), (0, 0), (71, 0), (0, 0), (0, 0), (0, 0), (0, 0), (0, 0), (0, 0), (0, 0), (0, 0), (0, 0), (0, 0), (0, 0), (0, 0), (0, 0), (0, 0), (0, 0), (0, 0), (0, 0), (0, 0), (0, 0), (0, 0), (0, 0)]
/-! a flat memory: families of blocks, of each block its ints by offset; refs that change; how many tries and codes there are; the codes' lengths -/
abbrev fS : Type := (Nat → Nat → Nat → Int32) × (Nat → Nat → Nat → Option Nat) × (Nat × Nat) × (Nat → Nat)
def ge (S : fS) (a i j : Nat) : Int32 := S.1 a i j
def gr (S : fS) (a i j : Nat) : Option Nat := S.2.1 a i j
def nT (S : fS) : Nat := S.2.2.1.1
def nC (S : fS) : Nat := S.2.2.1.2
def ln (S : fS) (i : Nat) : Nat := S.2.2.2 i
def pu (S : fS) (a i j : Nat) (v : Int32) : fS := (fun a' i' j' => if a' = a ∧ i' = i ∧ j' = j then v else S.1 a' i' j', S.2)
def pb (S : fS) (a i : Nat) (g : Nat → Int32) : fS := (fun a' i' j' => if a' = a ∧ i' = i then g j' else S.1 a' i' j', S.2)
def pr (S : fS) (a i j : Nat) (v : Option Nat) : fS := (S.1, fun a' i' j' => if a' = a ∧ i' = i ∧ j' = j then v else S.2.1 a' i' j', S.2.2)
theorem ge_pu (S : fS) (a i j : Nat) (v : Int32) (a' i' j' : Nat) : ge (pu S a i j v) a' i' j' = if a' = a ∧ i' = i ∧ j' = j then v else ge S a' i' j' := rfl
theorem ge_pb (S : fS) (a i : Nat) (g : Nat → Int32) (a' i' j' : Nat) : ge (pb S a i g) a' i' j' = if a' = a ∧ i' = i then g j' else ge S a' i' j' := rfl
theorem ge_pr (S : fS) (a i j : Nat) (v : Option Nat) (a' i' j' : Nat) : ge (pr S a i j v) a' i' j' = ge S a' i' j' := rfl
theorem gr_pu (S : fS) (a i j : Nat) (v : Int32) (a' i' j' : Nat) : gr (pu S a i j v) a' i' j' = gr S a' i' j' := rfl
theorem gr_pb (S : fS) (a i : Nat) (g : Nat → Int32) (a' i' j' : Nat) : gr (pb S a i g) a' i' j' = gr S a' i' j' := rfl
theorem gr_pr (S : fS) (a i j : Nat) (v : Option Nat) (a' i' j' : Nat) : gr (pr S a i j v) a' i' j' = if a' = a ∧ i' = i ∧ j' = j then v else gr S a' i' j' := rfl
def fam (a : Nat) : Nat × Nat × Nat × Nat := famL.getD a (9, 0, 0, 0)
abbrev fk (a : Nat) : Nat := (fam a).1
abbrev fx (a : Nat) : Nat := (fam a).2.1
abbrev fy (a : Nat) : Nat := (fam a).2.2.1
def fcnt (S : fS) (a : Nat) : Nat := if a = 25 ∨ a = 26 then nT S else if a = 29 ∨ a = 30 then nC S else (fam a).2.2.2
def isb (S : fS) (a i : Nat) : Prop := i < fcnt S a
def flen (S : fS) (a i : Nat) : Nat := if a = 30 then ln S i else fx a
def fd (a j : Nat) : Nat := ((tob (fx a)).getD j (9, 9)).1
def fN (a : Nat) : Nat := (tob (fx a)).length
def fq (a i j : Nat) : Nat × Nat := if fk a = 2 then ((faL.getD a (0, 0)).1, (faL.getD a (0, 0)).2 + j) else (((foL.getD a []).getD j (0, 0, 0)).1, if ((foL.getD a []).getD j (0, 0, 0)).2.1 = 0 then ((foL.getD a []).getD j (0, 0, 0)).2.2 else i)
def fv (ad : Nat → Nat → Nat) (S : fS) (a i j : Nat) : Value := if fd a j = 0 then .int (ge S a i j) else .ref (ad (fq a i j).1 (fq a i j).2)
def fvs (ad : Nat → Nat → Nat) (S : fS) (a i : Nat) : List Value := (List.range (fN a)).map (fv ad S a i)
def cellOf (K : Nat → ClassId) (ad : Nat → Nat → Nat) (S : fS) (a i : Nat) : va_E := match fk a with
  | 0 => .inr (fx a, fvs ad S a i)
  | 1 => .inl (K (fy a), flen S a i, .inl (fun j => ge S a i j))
  | 2 => .inl (K (fy a), fx a, .inr (.inr (.inr (.inr (fun j => if j < fx a then some (ad (fq a i j).1 (fq a i j).2) else none)))))
  | 3 => .inl (K (fy a), fx a, .inr (.inr (.inr (.inr (fun j => (gr S a i j).map (ad 25))))))
  | _ => .inl (K (fy a), fx a, .inr (.inr (.inr (.inr (fun j => (gr S a i j).map (ad 29))))))
/-- the blocks that P names lie in the pool, each as the memory says, apart from each other -/
def PW (K : Nat → ClassId) (ad : Nat → Nat → Nat) (P : Nat → Nat → Prop) (S : fS) (L : List Nat) (f : Nat → va_E) : Prop :=
  (∀ a i : Nat, P a i → ad a i ∈ L ∧ f (ad a i) = cellOf K ad S a i) ∧ ∀ a i a' i' : Nat, P a i → P a' i' → ad a i = ad a' i' → a = a' ∧ i = i'
abbrev LW (K : Nat → ClassId) (ad : Nat → Nat → Nat) (S : fS) (L : List Nat) (f : Nat → va_E) : Prop := PW K ad (isb S) S L f
/-- all other cells of the pool are as they were -/
def Kp (ad : Nat → Nat → Nat) (P : Nat → Nat → Prop) (L : List Nat) (f f' : Nat → va_E) : Prop := ∀ q : Nat, q ∈ L → (∀ a i : Nat, P a i → ad a i ≠ q) → f' q = f q
theorem Kp.rf {ad : Nat → Nat → Nat} {P : Nat → Nat → Prop} {L : List Nat} {f : Nat → va_E} : Kp ad P L f f := fun _ _ _ => rfl
theorem Kp.tr {ad : Nat → Nat → Nat} {P : Nat → Nat → Prop} {L : List Nat} {f f' f2 : Nat → va_E} (h : Kp ad P L f f') (h2 : Kp ad P L f' f2) : Kp ad P L f f2 := fun q hq hn => (h2 q hq hn).trans (h q hq hn)
theorem Kp.up {ad : Nat → Nat → Nat} {P : Nat → Nat → Prop} {L : List Nat} {f : Nat → va_E} {a i : Nat} (hp : P a i) {e : va_E} : Kp ad P L f (va_up f (ad a i) e) := fun q _ hn => va_up_ne _ _ (Ne.symm (hn a i hp))
def lU (L : List Nat) (f : Nat → va_E) : tU := (fun _ _ _ => True, fun _ => 0, L, f)
section FW
variable {K : Nat → ClassId} {ad : Nat → Nat → Nat} {P : Nat → Nat → Prop} {S S2 : fS} {L : List Nat} {f : Nat → va_E}
theorem cell_0 {a i : Nat} (h : fk a = 0) : cellOf K ad S a i = .inr (fx a, fvs ad S a i) := by unfold cellOf; rw [h]; rfl
theorem cell_1 {a i : Nat} (h : fk a = 1) : cellOf K ad S a i = .inl (K (fy a), flen S a i, .inl (fun j => ge S a i j)) := by unfold cellOf; rw [h]; rfl
theorem cell_2 {a i : Nat} (h : fk a = 2) : cellOf K ad S a i = .inl (K (fy a), fx a, .inr (.inr (.inr (.inr (fun j => if j < fx a then some (ad (fq a i j).1 (fq a i j).2) else none))))) := by unfold cellOf; rw [h]; rfl
theorem cell_3 {a i : Nat} (h : fk a = 3) : cellOf K ad S a i = .inl (K (fy a), fx a, .inr (.inr (.inr (.inr (fun j => (gr S a i j).map (ad 25)))))) := by unfold cellOf; rw [h]; rfl
theorem cell_4 {a i : Nat} (h : fk a = 4) : cellOf K ad S a i = .inl (K (fy a), fx a, .inr (.inr (.inr (.inr (fun j => (gr S a i j).map (ad 29)))))) := by unfold cellOf; rw [h]; rfl
theorem fvs_at {a i j : Nat} (hj : j < fN a) : (fvs ad S a i)[j]? = some (fv ad S a i j) := by
  unfold fvs
  rw [List.getElem?_map, List.getElem?_range hj]
  rfl
theorem fvs_len {a i : Nat} : (fvs ad S a i).length = fN a := by
  unfold fvs
  rw [List.length_map, List.length_range]
theorem list_ext {α : Type} {l l2 : List α} (h : ∀ k : Nat, l[k]? = l2[k]?) : l = l2 := List.ext_getElem? h
theorem fvs_set {a i j : Nat} {v : Int32} (hj : j < fN a) (hd : fd a j = 0) : (fvs ad S a i).set j (.int v) = fvs ad (pu S a i j v) a i := by
  apply list_ext
  intro k
  by_cases hk : k < fN a
  · rw [fvs_at hk]
    by_cases e : k = j
    · subst e
      rw [List.getElem?_set_self (by rw [fvs_len]; exact hk)]
      unfold fv
      rw [if_pos hd, ge_pu, if_pos ⟨rfl, rfl, rfl⟩]
    · rw [List.getElem?_set_ne (Ne.symm e), fvs_at hk]
      have q9 : ge (pu S a i j v) a i k = ge S a i k := by rw [ge_pu, if_neg (fun h => e h.2.2)]
      unfold fv
      rw [q9]
  · rw [List.getElem?_eq_none (by rw [List.length_set, fvs_len]; omega), List.getElem?_eq_none (by rw [fvs_len]; omega)]
/-- another block is not touched -/
theorem cell_pu {a i j a' i' : Nat} {v : Int32} (h : ¬ (a' = a ∧ i' = i)) : cellOf K ad (pu S a i j v) a' i' = cellOf K ad S a' i' := by
  have hg : ∀ j' : Nat, ge (pu S a i j v) a' i' j' = ge S a' i' j' := fun j' => by rw [ge_pu, if_neg (fun q => h ⟨q.1, q.2.1⟩)]
  have hv : fvs ad (pu S a i j v) a' i' = fvs ad S a' i' := by
    unfold fvs
    apply List.map_congr_left
    intro j' _
    unfold fv
    rw [hg]
  unfold cellOf
  generalize fk a' = k
  match k with
  | 0 => show (Sum.inr (fx a', fvs ad (pu S a i j v) a' i') : va_E) = _; rw [hv]; rfl
  | 1 => show (Sum.inl (K (fy a'), flen S a' i', Sum.inl (fun j' => ge (pu S a i j v) a' i' j')) : va_E) = _; rw [show (fun j' => ge (pu S a i j v) a' i' j') = fun j' => ge S a' i' j' from funext hg]; rfl
  | 2 => rfl
  | 3 => rfl
  | (_ + 4) => rfl
theorem cell_pb {a i a' i' : Nat} {g : Nat → Int32} (h : ¬ (a' = a ∧ i' = i)) : cellOf K ad (pb S a i g) a' i' = cellOf K ad S a' i' := by
  have hg : ∀ j' : Nat, ge (pb S a i g) a' i' j' = ge S a' i' j' := fun j' => by rw [ge_pb, if_neg h]
  have hv : fvs ad (pb S a i g) a' i' = fvs ad S a' i' := by
    unfold fvs
    apply List.map_congr_left
    intro j' _
    unfold fv
    rw [hg]
  unfold cellOf
  generalize fk a' = k
  match k with
  | 0 => show (Sum.inr (fx a', fvs ad (pb S a i g) a' i') : va_E) = _; rw [hv]; rfl
  | 1 => show (Sum.inl (K (fy a'), flen S a' i', Sum.inl (fun j' => ge (pb S a i g) a' i' j')) : va_E) = _; rw [show (fun j' => ge (pb S a i g) a' i' j') = fun j' => ge S a' i' j' from funext hg]; rfl
  | 2 => rfl
  | 3 => rfl
  | (_ + 4) => rfl
theorem cell_pr {a i j a' i' : Nat} {v : Option Nat} (h : ¬ (a' = a ∧ i' = i)) : cellOf K ad (pr S a i j v) a' i' = cellOf K ad S a' i' := by
  have hg : ∀ j' : Nat, gr (pr S a i j v) a' i' j' = gr S a' i' j' := fun j' => by rw [gr_pr, if_neg (fun q => h ⟨q.1, q.2.1⟩)]
  unfold cellOf
  generalize fk a' = k
  match k with
  | 0 => rfl
  | 1 => rfl
  | 2 => rfl
  | 3 => show (Sum.inl (K (fy a'), fx a', Sum.inr (Sum.inr (Sum.inr (Sum.inr (fun j' => (gr (pr S a i j v) a' i' j').map (ad 25)))))) : va_E) = _; rw [show (fun j' => (gr (pr S a i j v) a' i' j').map (ad 25)) = fun j' => (gr S a' i' j').map (ad 25) from funext fun j' => by rw [hg]]; rfl
  | (_ + 4) => show (Sum.inl (K (fy a'), fx a', Sum.inr (Sum.inr (Sum.inr (Sum.inr (fun j' => (gr (pr S a i j v) a' i' j').map (ad 29)))))) : va_E) = _; rw [show (fun j' => (gr (pr S a i j v) a' i' j').map (ad 29)) = fun j' => (gr S a' i' j').map (ad 29) from funext fun j' => by rw [hg]]; rfl
/-- a block gets another content -/
theorem PW.set {a i : Nat} {e : va_E} (h : PW K ad P S L f) (hp : P a i) (he : cellOf K ad S2 a i = e) (ho : ∀ a' i' : Nat, ¬ (a' = a ∧ i' = i) → cellOf K ad S2 a' i' = cellOf K ad S a' i') : PW K ad P S2 L (va_up f (ad a i) e) := by
  refine ⟨fun a' i' hp' => ⟨(h.1 a' i' hp').1, ?_⟩, h.2⟩
  by_cases q : a' = a ∧ i' = i
  · obtain ⟨rfl, rfl⟩ := q
    rw [va_up_self, he]
  · rw [va_up_ne _ _ (fun e9 => q (h.2 a' i' a i hp' hp e9)), ho a' i' q]
    exact (h.1 a' i' hp').2
end FW
section FR
variable {p : Program} {l : Launch} {e : Env} {R : Room} {s : State} {m : MethodId} {args : Array Value} {below : List Frame} {meth : Method} {c : Code} {H : Heap} {locs : List Loc} {cells slots : Nat} {Q : State → Prop}
variable {cc : ByteArray} {pc nL : Nat} {ls : Array Slot} {rest st0 : List Value} {D : va_G} {K : Nat → ClassId} {b0 : Nat} {sa : sT} {L : List Nat} {f : Nat → va_E} {own : String} {ad : Nat → Nat → Nat} {P : Nat → Nat → Prop} {S : fS}
theorem u_obj (hw : PW K ad P S L f) {a i : Nat} (hp : P a i) (hk : fk a = 0) : f (ad a i) = .inr (fx a, fvs ad S a i) := by rw [(hw.1 a i hp).2, cell_0 hk]
/-- an int field -/
theorem u_geti (C : CallFix p m c cc nL s args gt own) (w : Wh D K b0 sa s H locs L f) (hw : PW K ad P S L f) {a i : Nat} (hp : P a i) (hk : fk a = 0) {CN : String} {T : u_T} {N : Nat} (hcl : vwCl[fx a]? = some (CN, T, N)) (hN : fN a = N) (hin : ∀ w ∈ u_ws CN T N, w ∈ gt) (j : Nat) (hj : j < N) (hd : fd a j = 0) {index : Nat} (hlk : Cond.fieldLink own index (T j).1 (T j).2.1 (T j).2.2.1 ∈ gt) (hdg : decode cc pc = .ok (.getfield index, 3))
    (kk : W p l e R s m args below meth c H locs cells slots Q (F0 m (pc + 3) ls (.int (ge S a i j) :: rest))) : W p l e R s m args below meth c H locs cells slots Q (F0 m pc ls (.ref (ad a i) :: rest)) :=
  t_getv C w (hw.1 a i hp).1 (u_obj hw hp hk) hcl hin j hj (by rw [fvs_at (by rw [hN]; exact hj)]; unfold fv; rw [if_pos hd]) hlk hdg kk
/-- a field that is a fixed reference -/
theorem u_getr (C : CallFix p m c cc nL s args gt own) (w : Wh D K b0 sa s H locs L f) (hw : PW K ad P S L f) {a i : Nat} (hp : P a i) (hk : fk a = 0) {CN : String} {T : u_T} {N : Nat} (hcl : vwCl[fx a]? = some (CN, T, N)) (hN : fN a = N) (hin : ∀ w ∈ u_ws CN T N, w ∈ gt) (j : Nat) (hj : j < N) (hd : ¬ fd a j = 0) {a2 i2 : Nat} (hq : fq a i j = (a2, i2)) {index : Nat} (hlk : Cond.fieldLink own index (T j).1 (T j).2.1 (T j).2.2.1 ∈ gt) (hdg : decode cc pc = .ok (.getfield index, 3))
    (kk : W p l e R s m args below meth c H locs cells slots Q (F0 m (pc + 3) ls (.ref (ad a2 i2) :: rest))) : W p l e R s m args below meth c H locs cells slots Q (F0 m pc ls (.ref (ad a i) :: rest)) :=
  t_getv C w (hw.1 a i hp).1 (u_obj hw hp hk) hcl hin j hj (by rw [fvs_at (by rw [hN]; exact hj)]; unfold fv; rw [if_neg hd, hq]) hlk hdg kk
theorem u_puti (C : CallFix p m c cc nL s args gt own) (w : Wh D K b0 sa s H locs L f) (hw : PW K ad P S L f) {a i : Nat} (hp : P a i) (hk : fk a = 0) {CN : String} {T : u_T} {N : Nat} (hcl : vwCl[fx a]? = some (CN, T, N)) (hN : fN a = N) (hin : ∀ w ∈ u_ws CN T N, w ∈ gt) (ty0 : Nat → FieldType) (hty : ∀ k, k < N → parseFieldDescriptor (T k).2.2.1 = some (ty0 k)) (hnm : ∀ a, a < N → ∀ b, b < N → a ≠ b → (T a).2.1 ≠ (T b).2.1) (j : Nat) (hj : j < N) (hd : fd a j = 0) (hfin : (T j).2.2.2 = false) {v : Int32} (hn : narrow (ty0 j) (.int v) = .int v) (hfit : fits (ty0 j) (.int v) = true) {index : Nat} (hlk : Cond.fieldLink own index (T j).1 (T j).2.1 (T j).2.2.1 ∈ gt) (hdg : decode cc pc = .ok (.putfield index, 3))
    (kk : ∀ (f' : Nat → va_E) (H1 : Heap) (locs1 : List Loc), Wh D K b0 sa s H1 locs1 L f' → PW K ad P (pu S a i j v) L f' → Kp ad P L f f' → W p l e R s m args below meth c H1 locs1 cells slots Q (F0 m (pc + 3) ls rest)) : W p l e R s m args below meth c H locs cells slots Q (F0 m pc ls (.int v :: .ref (ad a i) :: rest)) := by
  have hjN : j < fN a := by rw [hN]; exact hj
  refine t_putv C w (hw.1 a i hp).1 (u_obj hw hp hk) hcl hin ty0 hty hnm j hj (by rw [fvs_len]; exact hjN) hfin hn hfit hlk hdg (fun H1 locs1 w' => kk _ H1 locs1 w' (hw.set hp ?_ (fun a' i' q => cell_pu q)) (Kp.up hp))
  rw [cell_0 hk, fvs_set hjN hd]
theorem u_arr (hw : PW K ad P S L f) {a i : Nat} (hp : P a i) (hk : fk a = 1) : f (ad a i) = .inl (K (fy a), flen S a i, .inl (fun j => ge S a i j)) := by rw [(hw.1 a i hp).2, cell_1 hk]
/-- an int array's place -/
theorem u_iald (C : CallFix p m c cc nL s args gt own) (w : Wh D K b0 sa s H locs L f) (hw : PW K ad P S L f) {a i : Nat} (hp : P a i) (hk : fk a = 1) (hty : fy a = 0) {n : Nat} (hn : flen S a i = n) {k : Int32} (hin : vp_in k n) (hdg : decode cc pc = .ok (.iaload, 1))
    (kk : W p l e R s m args below meth c H locs cells slots Q (F0 m (pc + 1) ls (.int (ge S a i k.toNatClampNeg) :: rest))) : W p l e R s m args below meth c H locs cells slots Q (F0 m pc ls (.int k :: .ref (ad a i) :: rest)) := by
  obtain ⟨hx, hb, hml, hown, hts⟩ := C
  obtain ⟨w1, w2, w3, w4, w5, w6, w7⟩ := w
  obtain ⟨k0, hk0⟩ := va_pl_get (X := []) (f := f) (hw.1 a i hp).1
  rw [u_arr hw hp hk, hty, hn] at hk0
  exact va_iald (ws := [] ++ va_pl L f) hx hb w2 w3 k0 0 hk0 rfl hin hdg kk
theorem u_zald (C : CallFix p m c cc nL s args gt own) (w : Wh D K b0 sa s H locs L f) (hw : PW K ad P S L f) {a i : Nat} (hp : P a i) (hk : fk a = 1) (hty : fy a = 1) {n : Nat} (hn : flen S a i = n) {k : Int32} (hin : vp_in k n) (hdg : decode cc pc = .ok (.baload, 1))
    (kk : W p l e R s m args below meth c H locs cells slots Q (F0 m (pc + 1) ls (.int (ge S a i k.toNatClampNeg) :: rest))) : W p l e R s m args below meth c H locs cells slots Q (F0 m pc ls (.int k :: .ref (ad a i) :: rest)) := by
  obtain ⟨hx, hb, hml, hown, hts⟩ := C
  obtain ⟨w1, w2, w3, w4, w5, w6, w7⟩ := w
  obtain ⟨k0, hk0⟩ := va_pl_get (X := []) (f := f) (hw.1 a i hp).1
  rw [u_arr hw hp hk, hty, hn] at hk0
  exact va_zald (ws := [] ++ va_pl L f) hx hb w2 w3 k0 1 hk0 rfl hin hdg kk
theorem arr_upd {a i k : Nat} {v : Int32} : (fun j => ge (pu S a i k v) a i j) = upd (fun j => ge S a i j) k v := by
  funext j
  rw [ge_pu]
  by_cases e : j = k
  · subst e
    rw [if_pos ⟨rfl, rfl, rfl⟩, pk_us]
  · rw [if_neg (fun h => e h.2.2), pk_un e]
theorem u_iast (C : CallFix p m c cc nL s args gt own) (w : Wh D K b0 sa s H locs L f) (hw : PW K ad P S L f) {a i : Nat} (hp : P a i) (hk : fk a = 1) (hty : fy a = 0) {n : Nat} (hn : flen S a i = n) {k v : Int32} (hin : vp_in k n) (hdg : decode cc pc = .ok (.iastore, 1))
    (kk : ∀ (f' : Nat → va_E) (H1 : Heap) (locs1 : List Loc), Wh D K b0 sa s H1 locs1 L f' → PW K ad P (pu S a i k.toNatClampNeg v) L f' → Kp ad P L f f' → W p l e R s m args below meth c H1 locs1 cells slots Q (F0 m (pc + 1) ls rest)) : W p l e R s m args below meth c H locs cells slots Q (F0 m pc ls (.int v :: .int k :: .ref (ad a i) :: rest)) := by
  obtain ⟨hx, hb, hml, hown, hts⟩ := C
  obtain ⟨w1, w2, w3, w4, w5, w6, w7⟩ := w
  obtain ⟨k0, hk0⟩ := va_pl_get (X := []) (f := f) (hw.1 a i hp).1
  have hk1 : ([] ++ va_pl L f)[k0]? = some (ad a i, .inl (K 0, n, .inl (fun j => ge S a i j))) := by rw [hk0, u_arr hw hp hk, hty, hn]
  refine va_iast (A := fun q => b0 ≤ q) (ws := [] ++ va_pl L f) hx hb w2 w3 w4 w5 k0 0 hk1 rfl hin hdg (fun H1 locs1 hP hD hS => ?_)
  rw [va_pl_set (X := []) w4 (hw.1 a i hp).1 hk0] at hP hD
  refine kk _ H1 locs1 ⟨w1, w2, hP, hD, hS, w6, w7⟩ (hw.set hp ?_ (fun a' i' q => cell_pu q)) (Kp.up hp)
  rw [cell_1 hk, hty, arr_upd]
  show (Sum.inl (K 0, flen S a i, _) : va_E) = _
  rw [hn]
theorem u_zast (C : CallFix p m c cc nL s args gt own) (w : Wh D K b0 sa s H locs L f) (hw : PW K ad P S L f) {a i : Nat} (hp : P a i) (hk : fk a = 1) (hty : fy a = 1) {n : Nat} (hn : flen S a i = n) {k v : Int32} (hin : vp_in k n) (hdg : decode cc pc = .ok (.bastore, 1))
    (kk : ∀ (f' : Nat → va_E) (H1 : Heap) (locs1 : List Loc), Wh D K b0 sa s H1 locs1 L f' → PW K ad P (pu S a i k.toNatClampNeg (vp_nar .boolean v)) L f' → Kp ad P L f f' → W p l e R s m args below meth c H1 locs1 cells slots Q (F0 m (pc + 1) ls rest)) : W p l e R s m args below meth c H locs cells slots Q (F0 m pc ls (.int v :: .int k :: .ref (ad a i) :: rest)) := by
  obtain ⟨hx, hb, hml, hown, hts⟩ := C
  obtain ⟨w1, w2, w3, w4, w5, w6, w7⟩ := w
  obtain ⟨k0, hk0⟩ := va_pl_get (X := []) (f := f) (hw.1 a i hp).1
  have hk1 : ([] ++ va_pl L f)[k0]? = some (ad a i, .inl (K 1, n, .inl (fun j => ge S a i j))) := by rw [hk0, u_arr hw hp hk, hty, hn]
  refine va_zast (A := fun q => b0 ≤ q) (ws := [] ++ va_pl L f) hx hb w2 w3 w4 w5 k0 1 hk1 rfl hin hdg (fun H1 locs1 hP hD hS => ?_)
  rw [va_pl_set (X := []) w4 (hw.1 a i hp).1 hk0] at hP hD
  refine kk _ H1 locs1 ⟨w1, w2, hP, hD, hS, w6, w7⟩ (hw.set hp ?_ (fun a' i' q => cell_pu q)) (Kp.up hp)
  rw [cell_1 hk, hty, arr_upd]
  show (Sum.inl (K 1, flen S a i, _) : va_E) = _
  rw [hn]
theorem u_alen (C : CallFix p m c cc nL s args gt own) (w : Wh D K b0 sa s H locs L f) (hw : PW K ad P S L f) {a i : Nat} (hp : P a i) (hk : fk a = 1) {ty : FieldType} (hty : (tyl K)[fy a]? = some (K (fy a), ty)) {v : Int32} (hv : Int32.ofNat (flen S a i) = v) (hdg : decode cc pc = .ok (.arraylength, 1))
    (kk : W p l e R s m args below meth c H locs cells slots Q (F0 m (pc + 1) ls (.int v :: rest))) : W p l e R s m args below meth c H locs cells slots Q (F0 m pc ls (.ref (ad a i) :: rest)) := by
  obtain ⟨hx, hb, hml, hown, hts⟩ := C
  obtain ⟨w1, w2, w3, w4, w5, w6, w7⟩ := w
  obtain ⟨k0, hk0⟩ := va_pl_get (X := []) (f := f) (hw.1 a i hp).1
  rw [u_arr hw hp hk] at hk0
  exact va_alen (ws := [] ++ va_pl L f) hx hb w2 w3 k0 (fy a) hk0 hty hv hdg kk
/-- a row of rows, an array of fixed references -/
theorem u_aald (C : CallFix p m c cc nL s args gt own) (w : Wh D K b0 sa s H locs L f) (hw : PW K ad P S L f) {a i : Nat} (hp : P a i) (hk : fk a = 2) {ty : FieldType} (hty : (tyl K)[fy a]? = some (K (fy a), ty)) (href : refKind ty = true) {n : Nat} (hn : fx a = n) {k : Int32} (hin : vp_in k n) {a2 i2 : Nat} (hq : fq a i k.toNatClampNeg = (a2, i2)) (hdg : decode cc pc = .ok (.aaload, 1))
    (kk : W p l e R s m args below meth c H locs cells slots Q (F0 m (pc + 1) ls (.ref (ad a2 i2) :: rest))) : W p l e R s m args below meth c H locs cells slots Q (F0 m pc ls (.int k :: .ref (ad a i) :: rest)) := by
  refine t_aaldW C w (hw.1 a i hp).1 ((hw.1 a i hp).2.trans (cell_2 hk)) hty href (by rw [hn]; exact hin) hdg ?_
  show W p l e R s m args below meth c H locs cells slots Q (F0 m (pc + 1) ls (va_rf (if k.toNatClampNeg < fx a then some (ad (fq a i k.toNatClampNeg).1 (fq a i k.toNatClampNeg).2) else none) :: rest))
  rw [if_pos (by rw [hn]; exact Nat.not_le.mp fun q => hin (Or.inr q)), hq]
  exact kk
/-- an array of tries or of codes, or null -/
theorem u_aald3 (C : CallFix p m c cc nL s args gt own) (w : Wh D K b0 sa s H locs L f) (hw : PW K ad P S L f) {a i : Nat} (hp : P a i) (hk : fk a = 3) {ty : FieldType} (hty : (tyl K)[fy a]? = some (K (fy a), ty)) (href : refKind ty = true) {n : Nat} (hn : fx a = n) {k : Int32} (hin : vp_in k n) (hdg : decode cc pc = .ok (.aaload, 1))
    (kk : W p l e R s m args below meth c H locs cells slots Q (F0 m (pc + 1) ls (va_rf ((gr S a i k.toNatClampNeg).map (ad 25)) :: rest))) : W p l e R s m args below meth c H locs cells slots Q (F0 m pc ls (.int k :: .ref (ad a i) :: rest)) :=
  t_aaldW C w (hw.1 a i hp).1 ((hw.1 a i hp).2.trans (cell_3 hk)) hty href (by rw [hn]; exact hin) hdg kk
theorem u_aald4 (C : CallFix p m c cc nL s args gt own) (w : Wh D K b0 sa s H locs L f) (hw : PW K ad P S L f) {a i : Nat} (hp : P a i) (hk : fk a = 4) {ty : FieldType} (hty : (tyl K)[fy a]? = some (K (fy a), ty)) (href : refKind ty = true) {n : Nat} (hn : fx a = n) {k : Int32} (hin : vp_in k n) (hdg : decode cc pc = .ok (.aaload, 1))
    (kk : W p l e R s m args below meth c H locs cells slots Q (F0 m (pc + 1) ls (va_rf ((gr S a i k.toNatClampNeg).map (ad 29)) :: rest))) : W p l e R s m args below meth c H locs cells slots Q (F0 m pc ls (.int k :: .ref (ad a i) :: rest)) :=
  t_aaldW C w (hw.1 a i hp).1 ((hw.1 a i hp).2.trans (cell_4 hk)) hty href (by rw [hn]; exact hin) hdg kk
variable {y : MethodName} {bytes : ByteArray} {maxL n mc ms index : Nat} {ret : Option FieldType} {rm : Room} {As : List Value} {post : Option Value → tU → Prop} {px : String → tU → Prop}
/-- a call of an object's method -/
theorem u_callV (C : CallFix p m c cc nL s args gt own) (w : Wh D K b0 sa s H locs L f) (hw : PW K ad P S L f) {a i : Nat} (hp : P a i) (hk : fk a = 0) {q : vw_C} (hcl : vwCl[fx a]? = some q) (hq : q.1 = y.cls) (hM : Met l y (.code y bytes maxL ret :: gt) rm (va_Pc (.ref (ad a i) :: As) (hPre D K b0 sa H.size L f)) (hQ D K b0 post) mc ms (fun q => b0 ≤ q))
    (k1 : Cond.code y bytes maxL ret ∈ gt) (k2 : Cond.methodLink own index y ∈ gt) (k3 : Cond.instanceMethod y ∈ gt) (k5 : Cond.selects y.cls y y ∈ gt) (k4 : Cond.initialized y.cls ∈ gt) (hd : plainY y n) (hrc : rm.cells = mc) (hrs : rm.slots = ms) (hR : rm.frames + 1 ≤ R.frames ∧ 8 + (maxL + 11) + rm.locals ≤ R.locals)
    (hn : As.length = n) (hsz : ls.size = nL) (hst : st0 = As.reverse ++ .ref (ad a i) :: rest) (hW : (rest.map fun v => v.category).sum ≤ 8) (hdg : decode cc pc = .ok (.invokevirtual index, 3)) (hf : cells + mc ≤ R.cells ∧ slots + ms ≤ R.slots)
    (kk : ∀ (v : Option Value) (u : tU) (H1 : Heap) (locs1 : List Loc), post v u → Wh D K b0 sa s H1 locs1 u.2.2.1 u.2.2.2 → W p l e R s m args below meth c H1 locs1 (cells + mc) (slots + ms) Q (F0 m (pc + 3) ls (v.toList ++ rest))) : W p l e R s m args below meth c H locs cells slots Q (F0 m pc ls st0) := by
  have hrv := t_recv w (hw.1 a i hp).1 (u_obj hw hp hk) hcl
  rw [hq] at hrv
  exact t_go w (va_runV (As := As) (rest := rest) C hM ⟨callB_of n C.2.2.2.2 (gt_in k1) rfl hrc hrs (C.2.2.2.2 _ k4) (C.2.2.2.2 _ k2) hd hR, C.2.2.2.2 _ k3, C.2.2.2.2 _ k5⟩ ⟨hPre.blind, hrv, fun U hU hW => ⟨rfl, w.pre hU hW⟩⟩ rfl hn hsz hst (lv_room hW) hdg hf) kk
theorem u_xcallV (C : CallFix p m c cc nL s args gt own) (w : Wh D K b0 sa s H locs L f) (hw : PW K ad P S L f) {a i : Nat} (hp : P a i) (hk : fk a = 0) {q : vw_C} (hcl : vwCl[fx a]? = some q) (hq : q.1 = y.cls) (hM : vx_Met l y (.code y bytes maxL ret :: gt) rm (va_Pc (.ref (ad a i) :: As) (hPre D K b0 sa H.size L f)) (hQ D K b0 post) (hX D K b0 px) mc ms (fun q => b0 ≤ q))
    (k1 : Cond.code y bytes maxL ret ∈ gt) (k2 : Cond.methodLink own index y ∈ gt) (k3 : Cond.instanceMethod y ∈ gt) (k5 : Cond.selects y.cls y y ∈ gt) (k4 : Cond.initialized y.cls ∈ gt) (hd : plainY y n) (hrc : rm.cells = mc) (hrs : rm.slots = ms) (hR : rm.frames + 1 ≤ R.frames ∧ 8 + (maxL + 11) + rm.locals ≤ R.locals)
    (hn : As.length = n) (hsz : ls.size = nL) (hst : st0 = As.reverse ++ .ref (ad a i) :: rest) (hW : (rest.map fun v => v.category).sum ≤ 8) (hdg : decode cc pc = .ok (.invokevirtual index, 3)) (hf : cells + mc ≤ R.cells ∧ slots + ms ≤ R.slots)
    (kx : ∀ (E : String) (ce : Cell) (q9 : Addr) (u : tU) (H1 : Heap) (locs1 : List Loc), px E u → Wh D K b0 sa s H1 locs1 u.2.2.1 u.2.2.2 → H1[q9]? = some ce → ce.vm = .none → s.vm.findClass E = some ce.cls → vx_W p l e R s m args below meth c H1 locs1 (cells + mc) (slots + ms) Q (F0 m pc ls rest) q9)
    (kk : ∀ (v : Option Value) (u : tU) (H1 : Heap) (locs1 : List Loc), post v u → Wh D K b0 sa s H1 locs1 u.2.2.1 u.2.2.2 → W p l e R s m args below meth c H1 locs1 (cells + mc) (slots + ms) Q (F0 m (pc + 3) ls (v.toList ++ rest))) : W p l e R s m args below meth c H locs cells slots Q (F0 m pc ls st0) := by
  have hrv := t_recv w (hw.1 a i hp).1 (u_obj hw hp hk) hcl
  rw [hq] at hrv
  exact t_xgo w (vx_runV (As := As) (rest := rest) C hM ⟨callB_of n C.2.2.2.2 (gt_in k1) rfl hrc hrs (C.2.2.2.2 _ k4) (C.2.2.2.2 _ k2) hd hR, C.2.2.2.2 _ k3, C.2.2.2.2 _ k5⟩ ⟨hPre.blind, hrv, fun U hU hW => ⟨rfl, w.pre hU hW⟩⟩ rfl hn hsz hst (lv_room hW) hdg hf) kx kk
end FR
/-! the words of the functions -/
abbrev ib (i : Int32) (n : Nat) : Prop := 0 ≤ i.toInt ∧ i.toInt < ((n : Nat) : Int)
def gd {A : Type} (c : Prop) [Decidable c] (k : Option A) : Option A := if c then k else none
def iv {A : Type} (v : Int32) (k : Int32 → Option A) : Option A := k v
def sv {A : Type} (S : fS) (k : fS → Option A) : Option A := k S
def bb {A : Type} (c : Prop) [Decidable c] (x y : Option A) : Option A := if c then x else y
def bd {A B : Type} (x : Option (B × fS)) (k : B → fS → Option A) : Option A := match x with
  | none => none
  | some (v, S) => k v S
theorem gd_some {A : Type} {c : Prop} {ins : Decidable c} {k : Option A} {r : A} (h : @gd A c ins k = some r) : c ∧ k = some r := by
  unfold gd at h
  by_cases q : c
  · rw [if_pos q] at h
    exact ⟨q, h⟩
  · rw [if_neg q] at h
    cases h
theorem iv_some {A : Type} {v : Int32} {k : Int32 → Option A} {r : A} (h : iv v k = some r) : ∃ x : Int32, x = v ∧ k x = some r := ⟨v, rfl, h⟩
theorem sv_some {A : Type} {S : fS} {k : fS → Option A} {r : A} (h : sv S k = some r) : ∃ x : fS, x = S ∧ k x = some r := ⟨S, rfl, h⟩
theorem bb_t {A : Type} {c : Prop} {ins : Decidable c} {x y : Option A} {r : A} (h : @bb A c ins x y = some r) (q : c) : x = some r := by
  unfold bb at h
  rw [if_pos q] at h
  exact h
theorem bb_f {A : Type} {c : Prop} {ins : Decidable c} {x y : Option A} {r : A} (h : @bb A c ins x y = some r) (q : ¬ c) : y = some r := by
  unfold bb at h
  rw [if_neg q] at h
  exact h
theorem bd_some {A B : Type} {x : Option (B × fS)} {k : B → fS → Option A} {r : A} (h : bd x k = some r) : ∃ (v : B) (S : fS), x = some (v, S) ∧ k v S = some r := by
  unfold bd at h
  match x, h with
  | none, h => cases h
  | some (v, S), h => exact ⟨v, S, rfl, h⟩
/-! the walk of a function -/
def isn (n : Nat × Nat) (a i : Nat) : Prop := i < (if a = 25 ∨ a = 26 then n.1 else if a = 29 ∨ a = 30 then n.2 else (fam a).2.2.2)
theorem isn_f {n : Nat × Nat} {a i k : Nat} (ha : (a == 25 || a == 26 || a == 29 || a == 30) = false) (hk : (fam a).2.2.2 = k) (hi : i < k) : isn n a i := by
  have h1 : ¬ (a = 25 ∨ a = 26) := by rintro (rfl | rfl) <;> cases ha
  have h2 : ¬ (a = 29 ∨ a = 30) := by rintro (rfl | rfl) <;> cases ha
  unfold isn
  rw [if_neg h1, if_neg h2, hk]
  exact hi
theorem isn_t25 {n : Nat × Nat} {i : Nat} (hi : i < n.1) : isn n 25 i := hi
theorem isn_t26 {n : Nat × Nat} {i : Nat} (hi : i < n.1) : isn n 26 i := hi
theorem isn_c29 {n : Nat × Nat} {i : Nat} (hi : i < n.2) : isn n 29 i := hi
theorem isn_c30 {n : Nat × Nat} {i : Nat} (hi : i < n.2) : isn n 30 i := hi
theorem ib_lt {i : Int32} {n : Nat} (h : ib i n) : i.toNatClampNeg < n := by
  have e : i.toNatClampNeg = i.toInt.toNat := rfl
  rw [e]
  have h1 := h.1
  have h2 := h.2
  omega
theorem narb {v : Int32} (h : v = 0 ∨ v = 1) : narrow .boolean (.int v) = .int v := by rcases h with rfl | rfl <;> decide
def lp {A Z : Type} (body : (Z → fS → Option A) → Z → fS → Option A) : Nat → Z → fS → Option A
  | 0 => fun _ _ => none
  | n + 1 => body (lp body n)
theorem lp_some {A Z : Type} {body : (Z → fS → Option A) → Z → fS → Option A} {r : A} {G : Z → fS → Prop} (hb : ∀ k : Z → fS → Option A, (∀ q S, k q S = some r → G q S) → ∀ q S, body k q S = some r → G q S) : ∀ (n : Nat) (q : Z) (S : fS), lp body n q S = some r → G q S
  | 0, _, _, h => by cases h
  | n + 1, q, S, h => hb (lp body n) (fun q S h => lp_some hb n q S h) q S h
theorem fuel_is : ∃ n : Nat, 4294967296 ≤ n := ⟨4294967296, Nat.le_refl _⟩
/-- more steps than any count of 32 bits has; no one may count them out -/
noncomputable def fuel : Nat := Classical.choose fuel_is
theorem fuel_ge : 4294967296 ≤ fuel := Classical.choose_spec fuel_is
section GW
variable (D : va_G) (K : Nat → ClassId) (b0 : Nat) (sa : sT) (ad : Nat → Nat → Nat) (P : Nat → Nat → Prop) (n : Nat × Nat) (L : List Nat) (f0 : Nat → va_E) (p : Program) (l : Launch) (e : Env) (rm : Room) (s : State) (m : MethodId) (args : Array Value) (below : List Frame) (meth : Method) (c : Code) (nL : Nat) (Q : State → Prop) (cells slots : Nat)
def Gw (pc : Nat) (lv : List (Nat × Value)) (stk : List Value) (S : fS) : Prop :=
  ∀ (f : Nat → va_E) (H : Heap) (locs : List Loc), Wh D K b0 sa s H locs L f → PW K ad P S L f → S.2.2.1 = n → Kp ad P L f0 f → ∀ ls : Array Slot, lv_has ls nL lv → W p l e rm s m args below meth c H locs cells slots Q (F0 m pc ls stk)
end GW
section UW
variable {p : Program} {l : Launch} {e : Env} {R : Room} {s : State} {m : MethodId} {args : Array Value} {below : List Frame} {meth : Method} {c : Code} {H : Heap} {locs : List Loc} {cells slots : Nat} {Q : State → Prop} {pc : Nat} {ls : Array Slot} {rest : List Value}
theorem u_iv {A : Type} {v : Int32} {k : Int32 → Option A} {r : A} (h : iv v k = some r) (kk : ∀ x : Int32, k x = some r → W p l e R s m args below meth c H locs cells slots Q (F0 m pc ls (.int x :: rest))) : W p l e R s m args below meth c H locs cells slots Q (F0 m pc ls (.int v :: rest)) := kk v h
theorem u_sv {A : Type} {S : fS} {k : fS → Option A} {r : A} {K : Nat → ClassId} {ad : Nat → Nat → Nat} {P : Nat → Nat → Prop} {L : List Nat} {f : Nat → va_E} {n : Nat × Nat} {G : Prop} (h : sv S k = some r) (hw : PW K ad P S L f) (hn : S.2.2.1 = n) (kk : ∀ S' : fS, k S' = some r → PW K ad P S' L f → S'.2.2.1 = n → G) : G := kk S h hw hn
end UW
theorem fitb {v : Int32} (h : v = 0 ∨ v = 1) : fits .boolean (.int v) = true := by rcases h with rfl | rfl <;> decide
theorem so_v {a v : Int32} {S S1 : fS} (h : some (a, S) = some (v, S1)) : some (Value.int a) = some (Value.int v) := by cases h; rfl
theorem so_w {K : Nat → ClassId} {ad : Nat → Nat → Nat} {P : Nat → Nat → Prop} {L : List Nat} {f : Nat → va_E} {a v : Int32} {S S1 : fS} (h : some (a, S) = some (v, S1)) (hw : PW K ad P S L f) : PW K ad P S1 L f := by cases h; exact hw
theorem so_n {n : Nat × Nat} {a v : Int32} {S S1 : fS} (h : some (a, S) = some (v, S1)) (hn : S.2.2.1 = n) : S1.2.2.1 = n := by cases h; exact hn
