/-! functions of methods that throw: a code ahead of the answer (0: none) -/
def exn : Nat → String
  | 1 => "java/lang/IllegalArgumentException"
  | 2 => "java/lang/IndexOutOfBoundsException"
  | _ => "java/util/NoSuchElementException"
def bx (x : Option ((Nat × Int32) × fS)) (k : Int32 → fS → Option ((Nat × Int32) × fS)) : Option ((Nat × Int32) × fS) := match x with
  | none => none
  | some ((0, v), S) => k v S
  | some ((e + 1, v), S) => some ((e + 1, v), S)
theorem bx_some {x : Option ((Nat × Int32) × fS)} {k : Int32 → fS → Option ((Nat × Int32) × fS)} {r : (Nat × Int32) × fS} (h : bx x k = some r) : (∃ (v : Int32) (S : fS), x = some ((0, v), S) ∧ k v S = some r) ∨ ∃ (e : Nat) (v : Int32) (S : fS), x = some ((e + 1, v), S) ∧ r = ((e + 1, v), S) := by
  match x, h with
  | none, h => cases h
  | some ((0, v), S), h => exact Or.inl ⟨v, S, rfl, h⟩
  | some ((e + 1, v), S), h => exact Or.inr ⟨e, v, S, rfl, (Option.some.inj h).symm⟩
section SX
variable {K : Nat → ClassId} {ad : Nat → Nat → Nat} {P : Nat → Nat → Prop} {L : List Nat} {f : Nat → va_E} {a ec : Nat} {x v : Int32} {S S1 : fS} {n : Nat × Nat} {E : String}
theorem sx_e (h : some ((a, x), S) = some ((ec, v), S1)) : ec = a := by cases h; rfl
theorem sx_v (h : some ((a, x), S) = some ((ec, v), S1)) : some (Value.int x) = some (Value.int v) := by cases h; rfl
theorem sx_w (h : some ((a, x), S) = some ((ec, v), S1)) (hw : PW K ad P S L f) : PW K ad P S1 L f := by cases h; exact hw
theorem sx_n (h : some ((a, x), S) = some ((ec, v), S1)) (hn : S.2.2.1 = n) : S1.2.2.1 = n := by cases h; exact hn
theorem sy_n (h : some ((a + 1, x), S) = some ((ec, v), S1)) : ec ≠ 0 := by cases h; exact Nat.succ_ne_zero _
theorem sy_E (h : some ((a, x), S) = some ((ec, v), S1)) : exn a = exn ec := by cases h; rfl
theorem sz_e (h : ((ec, v), S1) = ((a, x), S)) (he : a ≠ 0) (hE : E = exn a) : ec ≠ 0 ∧ E = exn ec := by cases h; exact ⟨he, hE⟩
theorem sz_w (h : ((ec, v), S1) = ((a, x), S)) (hw : PW K ad P S L f) : PW K ad P S1 L f := by cases h; exact hw
theorem sz_n (h : ((ec, v), S1) = ((a, x), S)) (hn : S.2.2.1 = n) : S1.2.2.1 = n := by cases h; exact hn
end SX
