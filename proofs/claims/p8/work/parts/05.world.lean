def tobL : List (List (Nat × Nat)) := [[(1, 2), (0, 0), (0, 0), (0, 0), (0, 0), (0, 0), (0, 0), (0, 0), (0, 0), (0, 0), (0, 0), (1, 21), (0, 0)], [(1, 17)], [(0, 0), (1, 10), (1, 10), (1, 10), (1, 10), (1, 10), (1, 10), (1, 10), (1, 11)], [(1, 13), (0, 0), (1, 14)], [(1, 13), (1, 13), (1, 13), (0, 0), (0, 0), (0, 0), (1, 13), (0, 0), (0, 0), (0, 0), (0, 0), (0, 0)], [(0, 0), (0, 0), (0, 0), (0, 0), (0, 0), (0, 0), (0, 0), (0, 0), (0, 0), (0, 0), (0, 0), (0, 0), (0, 0), (0, 0), (0, 0), (1, 15), (0, 0)], [(1, 0), (1, 0), (1, 18), (0, 0), (1, 19), (0, 0), (1, 20), (0, 0), (1, 12), (0, 0), (1, 13), (0, 0), (0, 0), (1, 4), (1, 3), (1, 5), (1, 16), (1, 16)], [(0, 0), (0, 0), (0, 0), (0, 0), (0, 0), (0, 0), (0, 0), (0, 0), (0, 0), (0, 0), (1, 30), (1, 50), (1, 31), (0, 0), (0, 0), (0, 0), (0, 0), (1, 32), (0, 0), (0, 0), (0, 0), (0, 0), (1, 33), (1, 33), (1, 33), (1, 33), (1, 33), (1, 34), (1, 51), (1, 35), (0, 0), (0, 0), (0, 0), (0, 0), (0, 0), (0, 0), (0, 0), (0, 0), (0, 0), (1, 36), (0, 0), (0, 0), (0, 0), (0, 0), (0, 0), (0, 0), (0, 0), (1, 52), (0, 0), (1, 53), (1, 54), (1, 55), (1, 56), (1, 57), (1, 58), (1, 59), (0, 0)]]
def tarL : List (Nat × Nat × Nat × Nat × Nat) := [(10, 1, 24, 0, 0), (11, 1, 64, 0, 0), (12, 1, 6, 0, 0), (13, 1, 300, 0, 0), (14, 1, 3, 0, 0), (15, 1, 5, 0, 0), (16, 1, 36, 0, 0), (17, 1, 0, 0, 0), (18, 2, 3, 0, 2), (19, 3, 6, 1, 3), (20, 3, 3, 1, 3), (21, 3, 200, 5, 4), (30, 1, 300, 0, 0), (31, 1, 9, 0, 0), (32, 1, 7, 0, 0), (33, 1, 24, 0, 0), (34, 1, 24, 0, 1), (35, 1, 64, 0, 0), (36, 1, 5, 0, 0), (37, 1, 14, 0, 0), (38, 1, 9, 0, 0), (39, 1, 11, 0, 0), (40, 1, 36, 0, 0), (50, 2, 9, 30, 5), (51, 2, 64, 33, 5), (52, 2, 200, 37, 5), (53, 2, 6, 38, 5), (54, 2, 256, 33, 5), (55, 2, 4, 35, 5), (56, 2, 4, 33, 5), (57, 2, 4, 39, 5), (58, 2, 15, 33, 5), (59, 2, 600, 37, 5)]
def tob (t : Nat) : List (Nat × Nat) := tobL.getD t []
def tar (t : Nat) : Nat × Nat × Nat × Nat := (tarL.lookup t).getD (9, 0, 0, 0)
def tkd (t : Nat) : Nat := if t < 8 then 0 else (tar t).1
abbrev tln (t : Nat) : Nat := (tar t).2.1
abbrev tpr (t : Nat) : Nat := (tar t).2.2.1
abbrev tti (t : Nat) : Nat := (tar t).2.2.2
/-- what is known of the ints: place's number, index, value -/
abbrev tG : Type := Nat → Nat → Int32 → Prop
def gset (G : tG) (id : Nat) (v : Int32) : tG := fun k i x => if k = id then x = v else G k i x
theorem gset_at {G : tG} {id i : Nat} {v x : Int32} (h : gset G id v id i x) : x = v := by unfold gset at h; rw [if_pos rfl] at h; exact h
theorem gset_ne {G : tG} {id k i : Nat} {v x : Int32} (hk : k ≠ id) : gset G id v k i x = G k i x := by unfold gset; rw [if_neg hk]
def tyv (G : tG) (Ψ : Nat → Nat) (L : List Nat) (id : Nat) (d : Nat × Nat) (v : Value) : Prop := match d.1 with
  | 0 => ∃ x : Int32, v = .int x ∧ G id 0 x
  | 1 => ∃ q : Nat, v = .ref q ∧ q ∈ L ∧ Ψ q = d.2
  | _ => v = .null ∨ ∃ q : Nat, v = .ref q ∧ q ∈ L ∧ Ψ q = d.2
def tyo (G : tG) (Ψ : Nat → Nat) (L : List Nat) (t : Nat) (e : va_E) : Prop := ∃ fs : List Value, e = .inr (t, fs) ∧ fs.length = (tob t).length ∧ ∀ (j : Nat) (d : Nat × Nat), (tob t)[j]? = some d → ∃ v : Value, fs[j]? = some v ∧ tyv G Ψ L (100 * t + j) d v
def tya (K : Nat → ClassId) (G : tG) (t : Nat) (e : va_E) : Prop := ∃ g : Nat → Int32, e = .inl (K (tti t), tln t, .inl g) ∧ ∀ i : Nat, i < tln t → G (100 * t) i (g i)
def tyq (K : Nat → ClassId) (Ψ : Nat → Nat) (L : List Nat) (t : Nat) (e : va_E) : Prop := ∃ g : Nat → Option Nat, e = .inl (K (tti t), tln t, .inr (.inr (.inr (.inr g)))) ∧ ∀ i : Nat, i < tln t → ∃ q : Nat, g i = some q ∧ q ∈ L ∧ Ψ q = tpr t
def tyn (K : Nat → ClassId) (Ψ : Nat → Nat) (L : List Nat) (t : Nat) (e : va_E) : Prop := ∃ g : Nat → Option Nat, e = .inl (K (tti t), tln t, .inr (.inr (.inr (.inr g)))) ∧ ∀ i : Nat, i < tln t → g i = none ∨ ∃ q : Nat, g i = some q ∧ q ∈ L ∧ Ψ q = tpr t
def tye (K : Nat → ClassId) (G : tG) (Ψ : Nat → Nat) (L : List Nat) (t : Nat) (e : va_E) : Prop := match tkd t with
  | 0 => tyo G Ψ L t e
  | 1 => tya K G t e
  | 2 => tyq K Ψ L t e
  | 3 => tyn K Ψ L t e
  | _ => True
theorem tye_0 {K : Nat → ClassId} {G : tG} {Ψ : Nat → Nat} {L : List Nat} {t : Nat} {e : va_E} (h : tkd t = 0) : tye K G Ψ L t e = tyo G Ψ L t e := by simp only [tye, h]
theorem tye_1 {K : Nat → ClassId} {G : tG} {Ψ : Nat → Nat} {L : List Nat} {t : Nat} {e : va_E} (h : tkd t = 1) : tye K G Ψ L t e = tya K G t e := by simp only [tye, h]
theorem tye_2 {K : Nat → ClassId} {G : tG} {Ψ : Nat → Nat} {L : List Nat} {t : Nat} {e : va_E} (h : tkd t = 2) : tye K G Ψ L t e = tyq K Ψ L t e := by simp only [tye, h]
theorem tye_3 {K : Nat → ClassId} {G : tG} {Ψ : Nat → Nat} {L : List Nat} {t : Nat} {e : va_E} (h : tkd t = 3) : tye K G Ψ L t e = tyn K Ψ L t e := by simp only [tye, h]
theorem tye_9 {K : Nat → ClassId} {G : tG} {Ψ : Nat → Nat} {L : List Nat} {e : va_E} : tye K G Ψ L 9 e := by
  have h : tkd 9 = 9 := by decide
  simp only [tye, h]
def TW (K : Nat → ClassId) (G : tG) (Ψ : Nat → Nat) (L : List Nat) (f : Nat → va_E) : Prop := ∀ a : Nat, a ∈ L → tye K G Ψ L (Ψ a) (f a)
/-- cells as they are stay as they are -/
def rawk (Ψ : Nat → Nat) (L : List Nat) (f f' : Nat → va_E) : Prop := ∀ b : Nat, b ∈ L → Ψ b = 9 → f' b = f b
theorem rawk.rf {Ψ : Nat → Nat} {L : List Nat} {f : Nat → va_E} : rawk Ψ L f f := fun _ _ _ => rfl
theorem rawk.tr {Ψ : Nat → Nat} {L : List Nat} {f f' f2 : Nat → va_E} (h : rawk Ψ L f f') (h2 : rawk Ψ L f' f2) : rawk Ψ L f f2 := fun b hb ht => (h2 b hb ht).trans (h b hb ht)
theorem rawk.up {Ψ : Nat → Nat} {L : List Nat} {f f' : Nat → va_E} (h : rawk Ψ L f f') {a : Nat} {e : va_E} (ha : Ψ a ≠ 9) : rawk Ψ L f (va_up f' a e) := fun b hb ht => by
  rw [va_up_ne _ _ (fun q : b = a => ha (by rw [← q]; exact ht))]; exact h b hb ht
theorem TW.up {K : Nat → ClassId} {G : tG} {Ψ : Nat → Nat} {L : List Nat} {f : Nat → va_E} (h : TW K G Ψ L f) {a : Nat} {e : va_E} (he : tye K G Ψ L (Ψ a) e) : TW K G Ψ L (va_up f a e) := by
  intro b hb
  by_cases hba : b = a
  · subst hba
    rw [va_up_self]
    exact he
  · rw [va_up_ne _ _ hba]
    exact h b hb
theorem tyv.mono {G G' : tG} {Ψ : Nat → Nat} {L : List Nat} {id : Nat} {d : Nat × Nat} {v : Value} (hG : ∀ x, G id 0 x → G' id 0 x) (h : tyv G Ψ L id d v) : tyv G' Ψ L id d v := by
  obtain ⟨k, n⟩ := d
  match k, h with
  | 0, h =>
    obtain ⟨x, e, hx⟩ := h
    exact ⟨x, e, hG x hx⟩
  | 1, h => exact h
  | (_ + 2), h => exact h
theorem TW.mono {K : Nat → ClassId} {G G' : tG} {Ψ : Nat → Nat} {L : List Nat} {f : Nat → va_E} (h : TW K G Ψ L f) (hG : ∀ k i x, G k i x → G' k i x) : TW K G' Ψ L f := by
  intro a ha
  have h1 := h a ha
  unfold tye at h1 ⊢
  generalize tkd (Ψ a) = k at h1 ⊢
  match k, h1 with
  | 0, h1 =>
    obtain ⟨fs, e, hl, hf⟩ := h1
    refine ⟨fs, e, hl, fun j d hd => ?_⟩
    obtain ⟨v, hv, ht⟩ := hf j d hd
    exact ⟨v, hv, ht.mono (hG _ 0)⟩
  | 1, h1 =>
    obtain ⟨g, e, hg⟩ := h1
    exact ⟨g, e, fun i hi => hG _ _ _ (hg i hi)⟩
  | 2, h1 => exact h1
  | 3, h1 => exact h1
  | (_ + 4), _ => trivial
theorem tob_9 : (tobL.all fun l => l.all fun d => decide (d.2 ≠ 9)) = true := by decide
theorem tar_9 : (tarL.all fun q => decide (q.2.2.2.1 ≠ 9)) = true := by decide
theorem tob_ne {t j : Nat} {d : Nat × Nat} (h : (tob t)[j]? = some d) : d.2 ≠ 9 := by
  unfold tob at h
  rcases Nat.lt_or_ge t tobL.length with hl | hl
  · have h1 := List.all_eq_true.mp tob_9 (tobL[t]) (List.getElem_mem hl)
    have h2 := List.all_eq_true.mp h1 d (by
      have : tobL.getD t [] = tobL[t] := by simp [List.getD, List.getElem?_eq_getElem hl]
      rw [this] at h
      exact List.mem_of_getElem? h)
    simpa using h2
  · have : tobL.getD t [] = [] := by simp [List.getD, List.getElem?_eq_none hl]
    rw [this] at h
    simp at h
theorem tob_len : (tobL.all fun l => decide (l.length ≤ 60)) = true := by decide
theorem tob_lt {t j : Nat} {d : Nat × Nat} (h : (tob t)[j]? = some d) : j < 60 := by
  unfold tob at h
  have hj : j < (tobL.getD t []).length := (List.getElem?_eq_some_iff.mp h).1
  rcases Nat.lt_or_ge t tobL.length with hl | hl
  · have h1 := List.all_eq_true.mp tob_len (tobL[t]) (List.getElem_mem hl)
    have e : tobL.getD t [] = tobL[t] := by simp [List.getD, List.getElem?_eq_getElem hl]
    rw [e] at hj
    have h2 : (tobL[t]).length ≤ 60 := by simpa using h1
    omega
  · have e : tobL.getD t [] = [] := by simp [List.getD, List.getElem?_eq_none hl]
    rw [e] at hj
    simp at hj
theorem lk_mem {α : Type} : ∀ (l : List (Nat × α)) (t : Nat) (v : α), l.lookup t = some v → (t, v) ∈ l
  | [], _, _, h => by simp at h
  | (a, b) :: l, t, v, h => by
    rw [List.lookup_cons] at h
    by_cases e : t == a
    · rw [e] at h
      cases h
      rw [beq_iff_eq.mp e]
      exact List.mem_cons_self
    · rw [Bool.eq_false_iff.mpr e] at h
      exact List.mem_cons_of_mem _ (lk_mem l t v h)
theorem tpr_ne (t : Nat) : tpr t ≠ 9 := by
  unfold tpr tar
  cases h : tarL.lookup t with
  | none => decide
  | some v =>
    have h1 := List.all_eq_true.mp tar_9 (t, v) (lk_mem tarL t v h)
    simpa using h1
theorem tyv.ext {G : tG} {Ψ Ψ' : Nat → Nat} {L L' : List Nat} {id : Nat} {d : Nat × Nat} {v : Value} (hd : d.2 ≠ 9) (hE : ∀ q : Nat, q ∈ L → q ∈ L' ∧ (Ψ q ≠ 9 → Ψ' q = Ψ q)) (h : tyv G Ψ L id d v) : tyv G Ψ' L' id d v := by
  obtain ⟨k, n⟩ := d
  match k, h with
  | 0, h => exact h
  | 1, h =>
    obtain ⟨q, e, hq, ht⟩ := h
    exact ⟨q, e, (hE q hq).1, ((hE q hq).2 (by rw [ht]; exact hd)).trans ht⟩
  | (_ + 2), h =>
    rcases h with h | ⟨q, e, hq, ht⟩
    · exact Or.inl h
    · exact Or.inr ⟨q, e, (hE q hq).1, ((hE q hq).2 (by rw [ht]; exact hd)).trans ht⟩
theorem tye.ext {K : Nat → ClassId} {G : tG} {Ψ Ψ' : Nat → Nat} {L L' : List Nat} {t : Nat} {e : va_E} (hE : ∀ q : Nat, q ∈ L → q ∈ L' ∧ (Ψ q ≠ 9 → Ψ' q = Ψ q)) (h : tye K G Ψ L t e) : tye K G Ψ' L' t e := by
  have hp := tpr_ne t
  unfold tye at h ⊢
  generalize tkd t = k at h ⊢
  match k, h with
  | 0, h1 =>
    obtain ⟨fs, e, hl, hf⟩ := h1
    refine ⟨fs, e, hl, fun j d hd => ?_⟩
    obtain ⟨v, hv, ht⟩ := hf j d hd
    exact ⟨v, hv, ht.ext (tob_ne hd) hE⟩
  | 1, h1 => exact h1
  | 2, h1 =>
    obtain ⟨g, e, hg⟩ := h1
    refine ⟨g, e, fun i hi => ?_⟩
    obtain ⟨q, e1, hq, ht⟩ := hg i hi
    exact ⟨q, e1, (hE q hq).1, ((hE q hq).2 (by rw [ht]; exact hp)).trans ht⟩
  | 3, h1 =>
    obtain ⟨g, e, hg⟩ := h1
    refine ⟨g, e, fun i hi => ?_⟩
    rcases hg i hi with h | ⟨q, e1, hq, ht⟩
    · exact Or.inl h
    · exact Or.inr ⟨q, e1, (hE q hq).1, ((hE q hq).2 (by rw [ht]; exact hp)).trans ht⟩
  | (_ + 4), _ => trivial
/-- the array types of the pool -/
abbrev tyl (K : Nat → ClassId) : List (ClassId × FieldType) := [(K 0, .int), (K 1, .boolean), (K 2, .object RX0), (K 3, .object RX1), (K 4, .object RX5), (K 5, .array .int), (K 6, .long)]
/-- words that no list of words carries: calls of a nest mate's members, arrays over our classes -/
def nwl : List Cond := [.methodLinkNest RX6 9 yX0_init RX6, .methodLinkNest RX6 60 yX4_init RX6, .methodLinkNest RX6 67 yX3_init RX6, .methodLinkNest RX6 74 yX5_init RX6, .methodLinkNest RX5 80 yX6_within RX6, .methodLinkNest RX0 83 yX5_init RX6, .methodLinkNest RX2 54 yX6_within RX6, .methodLinkNest RX4 90 yX6_within RX6, .fieldLinkNest RX5 116 RX6 "BESIDE_X" "[I" RX6, .fieldLinkNest RX5 119 RX6 "BESIDE_Y" "[I" RX6]
abbrev xatS (ic : Nat) (X : String) : List Cond := vx_atS RX6 ic X ["java/lang/RuntimeException", "java/lang/Exception"]
/-- the words of the three throws that no list carries -/
abbrev xatN : List Cond := (nx_at RX6 328 "java/util/NoSuchElementException").filter vx_no
def nw3 : List Cond := (xatS 316 "java/lang/IllegalArgumentException" ++ (xatS 323 "java/lang/IndexOutOfBoundsException" ++ (xatN ++ [Cond.castable "[I" "java/lang/Cloneable"]))).filter (fun w => !goodWord w)
theorem nw3_ok : (nw3.all fun w => w.keepsFace && w.onTables) = true := by decide +kernel
/-- the class of int[][] is over that of int[] -/
def aoI (U : State) : Prop := ∃ (c0 c5 : ClassId) (kA : Class), U.vm.findClass "[I" = some c0 ∧ U.vm.findClass "[[I" = some c5 ∧ U.vm.classes[c5]? = some kA ∧ kA.kind = .array c0 (.array .int)
theorem aoI.moved {u U : State} (hvm : u.vm.Alike U.vm) (h : aoI u) : aoI U := by
  obtain ⟨c0, c5, kA, h1, h2, h3, h4⟩ := h
  obtain ⟨k', hk', he⟩ := hvm.2.2 _ _ h3
  exact ⟨c0, c5, k', by rw [hvm.findClass]; exact h1, by rw [hvm.findClass]; exact h2, hk', by rw [he]; exact h4⟩
/-- arrays over Try and over int[]; an IllegalArgumentException is no IndexOutOfBoundsException -/
def aoX (U : State) : Prop := va_AO RX5 U ∧ aoI U ∧ (va_Nc "java/lang/IllegalArgumentException" "java/lang/IndexOutOfBoundsException" U ∧ va_Nc "java/lang/IndexOutOfBoundsException" "java/util/NoSuchElementException" U ∧ va_Nc "java/lang/IllegalArgumentException" "java/util/NoSuchElementException" U)
theorem aoX.moved {u U : State} (hvm : u.vm.Alike U.vm) (h : aoX u) : aoX U := ⟨va_AO.moved hvm h.1, aoI.moved hvm h.2.1, va_Nc.moved hvm h.2.2.1, va_Nc.moved hvm h.2.2.2.1, va_Nc.moved hvm h.2.2.2.2⟩
def Nx (U : State) : Prop := (∀ w ∈ nwl, va_Nw w U) ∧ va_AO RX0 U ∧ va_AO RX1 U ∧ aoX U ∧ ∀ w ∈ nw3, va_Nw w U
/-- the two static arrays of the class, the Reader's strings -/
def bsx (j : Nat) : Value := .int (([1, 0, -1, 0] : List Int32).getD j 0)
def bsy (j : Nat) : Value := .int (([0, 1, 0, -1] : List Int32).getD j 0)
def rsL : List (Nat × String) := [(117, "grip"), (123, "slip"), (125, "lots"), (127, "if"), (129, "or"), (131, "and"), (133, "not"), (135, "least"), (137, "most"), (142, "tries"), (144, "since"), (146, "coins"), (148, "paid"), (150, "hour"), (152, "lot"), (154, "can")]
def rsN : List Nat := [4, 4, 4, 2, 2, 3, 3, 5, 4, 5, 5, 5, 4, 4, 3, 3]
def rsB : List (List Int32) := [[103, 114, 105, 112], [115, 108, 105, 112], [108, 111, 116, 115], [105, 102], [111, 114], [97, 110, 100], [110, 111, 116], [108, 101, 97, 115, 116], [109, 111, 115, 116], [116, 114, 105, 101, 115], [115, 105, 110, 99, 101], [99, 111, 105, 110, 115], [112, 97, 105, 100], [104, 111, 117, 114], [108, 111, 116], [99, 97, 110]]
/-- addresses: the three texts, the Reader's strings, their bytes -/
abbrev sT : Type := Nat × Nat × Nat × (Nat → Nat) × (Nat → Nat)
def Zy (b0 : Nat) (sa : sT) (U : State) : Prop := (∃ ax ay : Nat, (va_Z RX6 "BESIDE_X" "[I" (.ref ax) (fun q => b0 ≤ q) U U.heap ∧ va_T .int ax 4 bsx (fun q => b0 ≤ q) U U.heap) ∧ va_Z RX6 "BESIDE_Y" "[I" (.ref ay) (fun q => b0 ≤ q) U U.heap ∧ va_T .int ay 4 bsy (fun q => b0 ≤ q) U U.heap) ∧ (vk_S 16 rsN rsB sa.2.2.2.1 sa.2.2.2.2 (fun q => b0 ≤ q) U U.heap ∧ ∀ (i : Nat) (q : Nat × String), rsL[i]? = some q → vk_R RX4 q.1 q.2 (sa.2.2.2.1 i) U) ∧ va_Z RJ0 "COMPACT_STRINGS" "Z" (.int 1) (fun q => b0 ≤ q) U U.heap ∧ va_Zq RJ3 "SIOOBE_FORMATTER" "Ljava/util/function/BiFunction;" (fun q => b0 ≤ q) U U.heap
theorem Zy.to {b0 : Nat} {sa : sT} {s U : State} (hW : s.WarmedH U.vm) (hk : ∀ a : Nat, a < s.heap.size → ¬ b0 ≤ a → U.heap[a]? = s.heap[a]?) (h : Zy b0 sa s) : Zy b0 sa U := by
  obtain ⟨⟨ax, ay, ⟨h1, h2⟩, h3, h4⟩, ⟨h5, h6⟩, h7, h8⟩ := h
  exact ⟨⟨ax, ay, ⟨(h1.kept hk).moved hW.alike, (h2.kept hk).moved hW.alike⟩, (h3.kept hk).moved hW.alike, (h4.kept hk).moved hW.alike⟩, ⟨(h5.kept hk).moved hW.alike, fun i q hq => (h6 i q hq).warm hW⟩, (h7.kept hk).moved hW.alike, (h8.kept hk).moved hW.alike⟩
theorem Zy.calls {b0 : Nat} {sa : sT} {U : State} {g : JFrame} {mk : MethodId} {a : Array Value} (h : Zy b0 sa U) : Zy b0 sa (U.calling g mk a) := by
  obtain ⟨⟨ax, ay, ⟨h1, h2⟩, h3, h4⟩, ⟨h5, h6⟩, h7, h8⟩ := h
  have hA : U.vm.Alike (U.calling g mk a).vm := Vm.Alike.refl U.vm
  exact ⟨⟨ax, ay, ⟨h1.moved hA, h2.moved hA⟩, h3.moved hA, h4.moved hA⟩, ⟨h5.moved hA, fun i q hq => (h6 i q hq).same rfl⟩, h7.moved hA, h8.moved hA⟩
/-- what a throw asks: the three texts, Throwable's two statics -/
def Zx (b0 : Nat) (sa : sT) (U : State) : Prop := vk_R RX6 314 "outside its range" sa.1 U ∧ vk_R RX6 321 "no such cell" sa.2.1 U ∧ vk_R RX6 326 "no such number" sa.2.2.1 U ∧ vx_Zq Bundle.tN "UNASSIGNED_STACK" Bundle.steD (fun q => b0 ≤ q) U U.heap ∧ vx_Zq Bundle.tN "SUPPRESSED_SENTINEL" Bundle.listD (fun q => b0 ≤ q) U U.heap ∧ Zy b0 sa U
theorem Nx.warm {s U : State} (hW : s.WarmedH U.vm) (h : Nx s) : Nx U := by
  refine ⟨fun w hw => ?_, va_AO.moved hW.alike h.2.1, va_AO.moved hW.alike h.2.2.1, aoX.moved hW.alike h.2.2.2.1, fun w hw => ?_⟩
  · have h1 := h.1 w hw
    simp only [nwl, List.mem_cons, List.not_mem_nil, or_false] at hw
    rcases hw with rfl | rfl | rfl | rfl | rfl | rfl | rfl | rfl | rfl | rfl <;> first | exact va_Nw.warmM hW h1 | exact va_Nw.warmF hW h1
  · have h1 := List.all_eq_true.mp nw3_ok w hw
    rw [Bool.and_eq_true] at h1
    have h2 : w.before #[] (s.setVm U.vm) = true := Cond.before_shiftedFace (State.Shifted.of_warmed hW) w h1.1 (h.2.2.2.2 w hw)
    exact va_tabs h1.2 (rfl : (s.setVm U.vm).vm = U.vm) h2
theorem Nx.same {s U : State} (hv : s.vm = U.vm) (h : Nx s) : Nx U := by
  have hA : s.vm.Alike U.vm := by rw [hv]; exact Vm.Alike.refl _
  refine ⟨fun w hw => ?_, va_AO.moved hA h.2.1, va_AO.moved hA h.2.2.1, aoX.moved hA h.2.2.2.1, fun w hw => ?_⟩
  · have h1 := h.1 w hw
    simp only [nwl, List.mem_cons, List.not_mem_nil, or_false] at hw
    rcases hw with rfl | rfl | rfl | rfl | rfl | rfl | rfl | rfl | rfl | rfl <;> exact va_Nw.same rfl hv h1
  · have h1 := List.all_eq_true.mp nw3_ok w hw
    rw [Bool.and_eq_true] at h1
    exact va_Nw.same h1.2 hv (h.2.2.2.2 w hw)
theorem Zx.to {b0 : Nat} {sa : sT} {s U : State} (hW : s.WarmedH U.vm) (hk : ∀ a : Nat, a < s.heap.size → ¬ b0 ≤ a → U.heap[a]? = s.heap[a]?) (h : Zx b0 sa s) : Zx b0 sa U :=
  ⟨h.1.warm hW, h.2.1.warm hW, h.2.2.1.warm hW, (h.2.2.2.1.kept hk).moved hW.alike, (h.2.2.2.2.1.kept hk).moved hW.alike, h.2.2.2.2.2.to hW hk⟩
theorem Zx.calls {b0 : Nat} {sa : sT} {U : State} {g : JFrame} {mk : MethodId} {a : Array Value} (h : Zx b0 sa U) : Zx b0 sa (U.calling g mk a) :=
  ⟨h.1.same rfl, h.2.1.same rfl, h.2.2.1.same rfl, vx_Zq.moved (u := U) (U := U.calling g mk a) (Vm.Alike.refl U.vm) h.2.2.2.1, vx_Zq.moved (u := U) (U := U.calling g mk a) (Vm.Alike.refl U.vm) h.2.2.2.2.1, h.2.2.2.2.2.calls⟩
/-- the pool in the heap -/
def hB (D : va_G) (K : Nat → ClassId) (b0 : Nat) (L : List Nat) (f : Nat → va_E) (U : State) : Prop := va_P D vwCl (va_pl L f) U.heap ∧ va_K D vwCl (tyl K) U ∧ va_D (fun q => b0 ≤ q) (va_pl L f)
def hPre (D : va_G) (K : Nat → ClassId) (b0 : Nat) (sa : sT) (sz : Nat) (L : List Nat) (f : Nat → va_E) : State → Prop := fun U => U.heap.size = sz ∧ b0 ≤ sz ∧ hB D K b0 L f U ∧ Nx U ∧ Zx b0 sa U
abbrev tU : Type := tG × (Nat → Nat) × List Nat × (Nat → va_E)
def hQ (D : va_G) (K : Nat → ClassId) (b0 : Nat) (post : Option Value → tU → Prop) : Array Value → State → Outcome → State → Prop := fun _ st oc t => (∃ (v : Option Value) (u : tU), oc = .returned v ∧ post v u ∧ hB D K b0 u.2.2.1 u.2.2.2 t) ∧ va_F (fun q => b0 ≤ q) st t
def hX (D : va_G) (K : Nat → ClassId) (b0 : Nat) (px : String → tU → Prop) : String → State → State → Prop := fun E st t => (∃ u : tU, px E u ∧ hB D K b0 u.2.2.1 u.2.2.2 t) ∧ va_F (fun q => b0 ≤ q) st t
/-- at a point of a walk -/
def Wh (D : va_G) (K : Nat → ClassId) (b0 : Nat) (sa : sT) (s : State) (H : Heap) (locs : List Loc) (L : List Nat) (f : Nat → va_E) : Prop := b0 ≤ s.heap.size ∧ va_K D vwCl (tyl K) s ∧ va_P D vwCl (va_pl L f) H ∧ va_D (fun q => b0 ≤ q) (va_pl L f) ∧ va_S (fun q => b0 ≤ q) s.heap H locs ∧ Nx s ∧ Zx b0 sa s
theorem hPre.blind {D : va_G} {K : Nat → ClassId} {b0 sz : Nat} {sa : sT} {L : List Nat} {f : Nat → va_E} {As : List Value} : FrameBlind (va_Pc As (hPre D K b0 sa sz L f)) := by
  intro a U g mk h
  obtain ⟨h0, h1, h2, ⟨q1, q2, q3⟩, hN, hZ⟩ := h
  exact ⟨h0, h1, h2, ⟨q1, va_K.moved (u := U) (U := U.calling g mk a) (Vm.Alike.refl U.vm) q2, q3⟩, Nx.same (s := U) (U := U.calling g mk a) rfl hN, hZ.calls⟩
theorem Wh.pre {D : va_G} {K : Nat → ClassId} {b0 : Nat} {sa : sT} {s : State} {H : Heap} {locs : List Loc} {L : List Nat} {f : Nat → va_E} (w : Wh D K b0 sa s H locs L f) {U : State} (hU : U.heap = H) (hW : s.WarmedH U.vm) : hPre D K b0 sa H.size L f U := by
  obtain ⟨w1, w2, w3, w4, w5, w6, w7⟩ := w
  exact ⟨by rw [hU], Nat.le_trans w1 w5.1, ⟨by rw [hU]; exact w3, va_K.moved hW.alike w2, w4⟩, w6.warm hW, w7.to hW (fun a h1 h2 => by rw [hU]; exact w5.2.1 a h1 h2)⟩
