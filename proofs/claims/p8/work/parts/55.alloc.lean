/-! the world grows -/
def au (ad : Nat → Nat → Nat) (a i q : Nat) : Nat → Nat → Nat := fun a' i' => if a' = a ∧ i' = i then q else ad a' i'
theorem au_self {ad : Nat → Nat → Nat} {a i q : Nat} : au ad a i q a i = q := if_pos ⟨rfl, rfl⟩
theorem au_ne {ad : Nat → Nat → Nat} {a i q a' i' : Nat} (h : ¬ (a' = a ∧ i' = i)) : au ad a i q a' i' = ad a' i' := if_neg h
def Pu (P : Nat → Nat → Prop) (a i : Nat) : Nat → Nat → Prop := fun a' i' => P a' i' ∨ (a' = a ∧ i' = i)
/-- block (a, i) refers to block (b, c) -/
def Rf (S : fS) (a i b c : Nat) : Prop := (fk a = 0 ∧ ∃ j : Nat, j < fN a ∧ fd a j ≠ 0 ∧ fq a i j = (b, c)) ∨ (fk a = 2 ∧ ∃ j : Nat, j < fx a ∧ fq a i j = (b, c)) ∨ (fk a = 3 ∧ b = 25 ∧ ∃ j : Nat, gr S a i j = some c) ∨ (4 ≤ fk a ∧ b = 29 ∧ ∃ j : Nat, gr S a i j = some c)
def RC (P : Nat → Nat → Prop) (S : fS) : Prop := ∀ a i b c : Nat, P a i → Rf S a i b c → P b c
section GB
variable {K : Nat → ClassId} {ad ad1 ad2 : Nat → Nat → Nat} {P P1 P2 : Nat → Nat → Prop} {S S2 : fS} {L L1 L2 : List Nat} {f f1 f2 : Nat → va_E} {X : Nat → Prop}
theorem cell_ext {a i : Nat} (h : ∀ b c : Nat, Rf S a i b c → ad2 b c = ad b c) : cellOf K ad2 S a i = cellOf K ad S a i := by
  unfold cellOf
  generalize hk : fk a = k
  match k, hk with
  | 0, hk =>
    have hv : fvs ad2 S a i = fvs ad S a i := by
      unfold fvs
      apply List.map_congr_left
      intro j hj
      unfold fv
      by_cases q : fd a j = 0
      · rw [if_pos q, if_pos q]
      · rw [if_neg q, if_neg q, h (fq a i j).1 (fq a i j).2 (Or.inl ⟨hk, j, List.mem_range.mp hj, q, rfl⟩)]
    show (Sum.inr (fx a, fvs ad2 S a i) : va_E) = Sum.inr (fx a, fvs ad S a i)
    rw [hv]
  | 1, _ => rfl
  | 2, hk =>
    have hv : (fun j => if j < fx a then some (ad2 (fq a i j).1 (fq a i j).2) else none) = fun j => if j < fx a then some (ad (fq a i j).1 (fq a i j).2) else none := by
      funext j
      by_cases q : j < fx a
      · rw [if_pos q, if_pos q, h (fq a i j).1 (fq a i j).2 (Or.inr (Or.inl ⟨hk, j, q, rfl⟩))]
      · rw [if_neg q, if_neg q]
    show (Sum.inl (K (fy a), fx a, Sum.inr (Sum.inr (Sum.inr (Sum.inr (fun j => if j < fx a then some (ad2 (fq a i j).1 (fq a i j).2) else none))))) : va_E) = _
    rw [hv]
    rfl
  | 3, hk =>
    have hv : (fun j => (gr S a i j).map (ad2 25)) = fun j => (gr S a i j).map (ad 25) := by
      funext j
      cases e : gr S a i j with
      | none => rfl
      | some t => exact congrArg some (h 25 t (Or.inr (Or.inr (Or.inl ⟨hk, rfl, j, e⟩))))
    show (Sum.inl (K (fy a), fx a, Sum.inr (Sum.inr (Sum.inr (Sum.inr (fun j => (gr S a i j).map (ad2 25)))))) : va_E) = _
    rw [hv]
    rfl
  | (k + 4), hk =>
    have hv : (fun j => (gr S a i j).map (ad2 29)) = fun j => (gr S a i j).map (ad 29) := by
      funext j
      cases e : gr S a i j with
      | none => rfl
      | some t => exact congrArg some (h 29 t (Or.inr (Or.inr (Or.inr ⟨by omega, rfl, j, e⟩))))
    show (Sum.inl (K (fy a), fx a, Sum.inr (Sum.inr (Sum.inr (Sum.inr (fun j => (gr S a i j).map (ad2 29)))))) : va_E) = _
    rw [hv]
    rfl
/-- a cell of the pool becomes a block -/
theorem PW.add (h : PW K ad P S L f) (hR : RC P S) {a i q : Nat} (hn : ¬ P a i) (hq : q ∈ L) (hne : ∀ a i : Nat, P a i → ad a i ≠ q) (he : f q = cellOf K (au ad a i q) S a i) : PW K (au ad a i q) (Pu P a i) S L f := by
  have hag : ∀ a' i' : Nat, P a' i' → au ad a i q a' i' = ad a' i' := fun a' i' hp => au_ne (fun e => hn (by rw [← e.1, ← e.2]; exact hp))
  refine ⟨fun a' i' hp => ?_, fun a1 i1 a2 i2 h1 h2 e => ?_⟩
  · rcases hp with hp | ⟨e1, e2⟩
    · rw [hag a' i' hp, cell_ext (fun b c hr => hag b c (hR a' i' b c hp hr))]
      exact h.1 a' i' hp
    · rw [e1, e2, au_self]
      exact ⟨hq, he⟩
  · rcases h1 with h1 | ⟨e1, e2⟩
    · rcases h2 with h2 | ⟨e3, e4⟩
      · rw [hag _ _ h1, hag _ _ h2] at e
        exact h.2 _ _ _ _ h1 h2 e
      · rw [e3, e4, hag _ _ h1, au_self] at e
        exact absurd e (hne _ _ h1)
    · rcases h2 with h2 | ⟨e3, e4⟩
      · rw [e1, e2, hag _ _ h2, au_self] at e
        exact absurd e.symm (hne _ _ h2)
      · exact ⟨e1.trans e3.symm, e2.trans e4.symm⟩
theorem RC.add (hR : RC P S) {a i : Nat} (h : ∀ b c : Nat, Rf S a i b c → P b c ∨ (b = a ∧ c = i)) : RC (Pu P a i) S := by
  intro a' i' b c hp hr
  rcases hp with hp | ⟨e1, e2⟩
  · exact Or.inl (hR a' i' b c hp hr)
  · rw [e1, e2] at hr
    exact h b c hr
theorem PW.pool (h : PW K ad P S L f) {q : Nat} {e : va_E} (hq : q ∉ L) : PW K ad P S (L ++ [q]) (va_up f q e) := by
  refine ⟨fun a i hp => ⟨List.mem_append_left _ (h.1 a i hp).1, ?_⟩, h.2⟩
  rw [va_up_ne _ _ (show ad a i ≠ q from fun e9 => hq (by rw [← e9]; exact (h.1 a i hp).1))]
  exact (h.1 a i hp).2
theorem PW.fr (h : PW K ad P S L f) {q : Nat} (hq : q ∉ L) : ∀ a i : Nat, P a i → ad a i ≠ q := fun a i hp e9 => hq (by rw [← e9]; exact (h.1 a i hp).1)
theorem PW.rw_ (h : PW K ad P S L f) {q : Nat} {e : va_E} (hne : ∀ a i : Nat, P a i → ad a i ≠ q) : PW K ad P S L (va_up f q e) :=
  ⟨fun a i hp => ⟨(h.1 a i hp).1, by rw [va_up_ne _ _ (hne a i hp)]; exact (h.1 a i hp).2⟩, h.2⟩
theorem PW.mono (h : PW K ad P S L f) (hs : ∀ a i : Nat, P2 a i → P a i) : PW K ad P2 S L f := ⟨fun a i hp => h.1 a i (hs a i hp), fun a i a' i' h1 h2 e => h.2 a i a' i' (hs a i h1) (hs a' i' h2) e⟩
theorem PW.cong (h : PW K ad P S L f) (hc : ∀ a i : Nat, P a i → cellOf K ad S2 a i = cellOf K ad S a i) : PW K ad P S2 L f := ⟨fun a i hp => ⟨(h.1 a i hp).1, by rw [hc a i hp]; exact (h.1 a i hp).2⟩, h.2⟩
theorem PW.sup (h : PW K ad P S L f) (hL : ∀ b : Nat, b ∈ L → b ∈ L2) (hf : ∀ b : Nat, b ∈ L → f2 b = f b) : PW K ad P S L2 f2 := ⟨fun a i hp => ⟨hL _ (h.1 a i hp).1, by rw [hf _ (h.1 a i hp).1]; exact (h.1 a i hp).2⟩, h.2⟩
theorem PW.kp (h : PW K ad P S L f) (hf : ∀ a i : Nat, P a i → f2 (ad a i) = f (ad a i)) : PW K ad P S L f2 := ⟨fun a i hp => ⟨(h.1 a i hp).1, by rw [hf a i hp]; exact (h.1 a i hp).2⟩, h.2⟩
/-- from a world to a later one: blocks stay where they are, cells that are no block stay as they are (but those of X) -/
def Gr (X : Nat → Prop) (P : Nat → Nat → Prop) (ad : Nat → Nat → Nat) (L : List Nat) (f : Nat → va_E) (P2 : Nat → Nat → Prop) (ad2 : Nat → Nat → Nat) (L2 : List Nat) (f2 : Nat → va_E) : Prop :=
  (∀ a i : Nat, P a i → P2 a i ∧ ad2 a i = ad a i) ∧ ∀ b : Nat, b ∈ L → b ∈ L2 ∧ ((∀ a i : Nat, P a i → ad a i ≠ b) → ¬ X b → f2 b = f b ∧ ∀ a i : Nat, P2 a i → ad2 a i ≠ b)
theorem Gr.rf : Gr X P ad L f P ad L f := ⟨fun a i hp => ⟨hp, rfl⟩, fun b hb => ⟨hb, fun h _ => ⟨rfl, h⟩⟩⟩
theorem Gr.tr {X' : Nat → Prop} (h : Gr X P ad L f P1 ad1 L1 f1) (h2 : Gr X' P1 ad1 L1 f1 P2 ad2 L2 f2) (hx : ∀ b : Nat, b ∈ L → X' b → X b) : Gr X P ad L f P2 ad2 L2 f2 := by
  refine ⟨fun a i hp => ⟨(h2.1 a i (h.1 a i hp).1).1, (h2.1 a i (h.1 a i hp).1).2.trans (h.1 a i hp).2⟩, fun b hb => ⟨(h2.2 b (h.2 b hb).1).1, fun hn hX => ?_⟩⟩
  obtain ⟨g1, g2⟩ := (h.2 b hb).2 hn hX
  obtain ⟨g3, g4⟩ := (h2.2 b (h.2 b hb).1).2 g2 (fun q => hX (hx b hb q))
  exact ⟨g3.trans g1, g4⟩
theorem Gr.kp (h : Gr X P ad L f P1 ad1 L1 f1) (hk : Kp ad1 P1 L1 f1 f2) : Gr X P ad L f P1 ad1 L1 f2 :=
  ⟨h.1, fun b hb => ⟨(h.2 b hb).1, fun hn hX => ⟨(hk b (h.2 b hb).1 ((h.2 b hb).2 hn hX).2).trans ((h.2 b hb).2 hn hX).1, ((h.2 b hb).2 hn hX).2⟩⟩⟩
theorem Gr.new (h : Gr X P ad L f P1 ad1 L1 f1) {q : Nat} {e : va_E} (hq : q ∉ L1) : Gr X P ad L f P1 ad1 (L1 ++ [q]) (va_up f1 q e) :=
  ⟨h.1, fun b hb => ⟨List.mem_append_left _ (h.2 b hb).1, fun hn hX => ⟨(va_up_ne _ _ (show b ≠ q from fun e9 => hq (by rw [← e9]; exact (h.2 b hb).1))).trans ((h.2 b hb).2 hn hX).1, ((h.2 b hb).2 hn hX).2⟩⟩⟩
theorem Gr.put (h : Gr X P ad L f P1 ad1 L1 f1) {q : Nat} (hq : q ∈ L → X q) (hk : ∀ b : Nat, b ≠ q → f2 b = f1 b) : Gr X P ad L f P1 ad1 L1 f2 :=
  ⟨h.1, fun b hb => ⟨(h.2 b hb).1, fun hn hX => ⟨(hk b (fun e9 => hX (e9 ▸ hq (e9 ▸ hb)))).trans ((h.2 b hb).2 hn hX).1, ((h.2 b hb).2 hn hX).2⟩⟩⟩
theorem Gr.add (h : Gr X P ad L f P1 ad1 L1 f1) {a i q : Nat} (hn : ¬ P1 a i) (hq : q ∈ L → X q) : Gr X P ad L f (Pu P1 a i) (au ad1 a i q) L1 f1 := by
  refine ⟨fun a' i' hp => ⟨Or.inl (h.1 a' i' hp).1, (au_ne (fun e => hn (by rw [← e.1, ← e.2]; exact (h.1 a' i' hp).1))).trans (h.1 a' i' hp).2⟩, fun b hb => ⟨(h.2 b hb).1, fun hf hX => ⟨((h.2 b hb).2 hf hX).1, fun a' i' hp => ?_⟩⟩⟩
  rcases hp with hp | ⟨e1, e2⟩
  · rw [au_ne (fun e => hn (by rw [← e.1, ← e.2]; exact hp))]
    exact ((h.2 b hb).2 hf hX).2 a' i' hp
  · rw [e1, e2, au_self]
    exact fun e9 => hX (e9 ▸ hq (e9 ▸ hb))
theorem Gr.sub (h : Gr X P ad L f P1 ad1 L1 f1) (hs : ∀ a i : Nat, P2 a i → P1 a i) (h0 : ∀ a i : Nat, P a i → P2 a i) : Gr X P ad L f P2 ad1 L1 f1 :=
  ⟨fun a i hp => ⟨h0 a i hp, (h.1 a i hp).2⟩, fun b hb => ⟨(h.2 b hb).1, fun hn hX => ⟨((h.2 b hb).2 hn hX).1, fun a i hp => ((h.2 b hb).2 hn hX).2 a i (hs a i hp)⟩⟩⟩
end GB
theorem va_RA.uniq {s : State} {c c2 : ClassId} {ty : FieldType} (h : va_RA s c ty) (h2 : va_RA s c2 ty) : c = c2 := by
  cases ty with
  | object C =>
    obtain ⟨_, _, _, _, _, q1⟩ := h
    obtain ⟨_, _, _, _, _, q2⟩ := h2
    exact Option.some.inj (q1.symm.trans q2)
  | _ => exact Option.some.inj (Eq.trans (Eq.symm h) h2)
section AL
variable {p : Program} {l : Launch} {e : Env} {R : Room} {s : State} {m : MethodId} {args : Array Value} {below : List Frame} {meth : Method} {c : Code} {H : Heap} {locs : List Loc} {cells slots : Nat} {Q : State → Prop}
variable {cc : ByteArray} {pc nL : Nat} {ls : Array Slot} {rest st0 : List Value} {D : va_G} {K : Nat → ClassId} {b0 : Nat} {sa : sT} {L : List Nat} {f : Nat → va_E} {own : String}
/-- new C -/
theorem g_new (C : CallFix p m c cc nL s args gt own) (w : Wh D K b0 sa s H locs L f) {t : Nat} {CN : String} {Tt : u_T} {N : Nat} (hcl : vwCl[t]? = some (CN, Tt, N)) (hin : ∀ w ∈ u_ws CN Tt N, w ∈ gt) (ty0 : Nat → FieldType) (hty : ∀ k, k < N → parseFieldDescriptor (Tt k).2.2.1 = some (ty0 k)) {index : Nat}
    (k1 : Cond.classLink own index CN ∈ gt) (k2 : Cond.instantiable CN N ∈ gt) (k3 : Cond.initialized CN ∈ gt) {fs : List Value} (hfs : ∀ j, j < N → defaultValue (ty0 j) = vp_V fs j) (hc : cells + 1 ≤ R.cells) (hs : slots + N ≤ R.slots) (hdg : decode cc pc = .ok (.new index, 3))
    (kk : ∀ (q : Nat) (H1 : Heap), q ∉ L → Wh D K b0 sa s H1 locs (L ++ [q]) (va_up f q (.inr (t, fs))) → W p l e R s m args below meth c H1 locs (cells + 1) (slots + N) Q (F0 m (pc + 3) ls (.ref q :: rest))) :
    W p l e R s m args below meth c H locs cells slots Q (F0 m pc ls rest) := by
  obtain ⟨hx, hb, hml, hown, hts⟩ := C
  obtain ⟨w1, w2, w3, w4, w5, w6, w7⟩ := w
  refine va_new (A := fun q => b0 ≤ q) (ws := [] ++ va_pl L f) hx hb hts hin ty0 hty hown (hts _ k1) (hts _ k2) (hts _ k3) w2 w3 w4 w5 (fun q h => Nat.le_trans w1 h) hcl hfs hc hs hdg (fun q H1 hP hD hS => ?_)
  have hq := va_pl_fresh2 (X := []) hD
  have e2 := va_pl_push (e := .inr (t, fs)) (f := f) hq
  rw [List.nil_append, e2] at hP hD
  exact kk q H1 hq ⟨w1, w2, hP, hD, hS, w6, w7⟩
/-- new int[n], new boolean[n] -/
theorem g_newI (C : CallFix p m c cc nL s args gt own) (w : Wh D K b0 sa s H locs L f) {at_ : ArrayType} {ti : Nat} {ty : FieldType} (hat : newarray.typeOf at_ = ty) (hty : (tyl K)[ti]? = some (K ti, ty)) (hint : ty = .int ∨ ty = .boolean) (k1 : Cond.arrayClass ty ∈ gt)
    {n : Int32} {N : Nat} (hn : ¬ n < 0) (hN : n.toNatClampNeg = N) (hbytes : N * componentBytes ty ≤ 536870912) (hc : cells + 1 ≤ R.cells) (hs : slots + N ≤ R.slots) (hdg : decode cc pc = .ok (.newarray at_, 2))
    (kk : ∀ (q : Nat) (H1 : Heap), q ∉ L → Wh D K b0 sa s H1 locs (L ++ [q]) (va_up f q (.inl (K ti, N, .inl (fun _ => 0)))) → W p l e R s m args below meth c H1 locs (cells + 1) (slots + N) Q (F0 m (pc + 2) ls (.ref q :: rest))) :
    W p l e R s m args below meth c H locs cells slots Q (F0 m pc ls (.int n :: rest)) := by
  obtain ⟨hx, hb, hml, hown, hts⟩ := C
  obtain ⟨w1, w2, w3, w4, w5, w6, w7⟩ := w
  have hd : defaultValue ty = .int 0 := by rcases hint with rfl | rfl <;> rfl
  refine va_newa (A := fun q => b0 ≤ q) (ws := [] ++ va_pl L f) (a0 := (N, .inl (fun _ => 0))) hx hb (by rw [hat]; exact hts _ k1) hat w2 w3 w4 w5 (fun q h => Nat.le_trans w1 h) (fun cA => by rw [hd]; exact vp_cell_i _ _ _) hn hN hbytes hc hs hdg (fun q cA H1 hK hP hD hS => ?_)
  have hcA : cA = K ti := by
    have h1 := (hK.2 (tyl K).length (cA, ty) (by rw [List.getElem?_append_right (Nat.le_refl _), Nat.sub_self]; rfl)).2
    exact va_RA.uniq h1 (w2.2 ti _ hty).2
  subst hcA
  have hq := va_pl_fresh2 (X := []) hD
  have e2 := va_pl_push (e := .inl (K ti, N, .inl (fun _ => 0))) (f := f) hq
  rw [List.nil_append, e2] at hP hD
  exact kk q H1 hq ⟨w1, w2, hP, hD, hS, w6, w7⟩
/-- new C[n] -/
theorem g_newQ (C : CallFix p m c cc nL s args gt own) (w : Wh D K b0 sa s H locs L f) {ti : Nat} {CN : String} {index : Nat} (hty : (tyl K)[ti]? = some (K ti, .object CN)) (k1 : Cond.classLink own index CN ∈ gt) (hover : va_AO CN s)
    {n : Int32} {N : Nat} (hn : ¬ n < 0) (hN : n.toNatClampNeg = N) (hbytes : N * 4 ≤ 536870912) (hc : cells + 1 ≤ R.cells) (hs : slots + N ≤ R.slots) (hdg : decode cc pc = .ok (.anewarray index, 3))
    (kk : ∀ (q : Nat) (H1 : Heap), q ∉ L → Wh D K b0 sa s H1 locs (L ++ [q]) (va_up f q (.inl (K ti, N, .inr (.inr (.inr (.inr (fun _ => none))))))) → W p l e R s m args below meth c H1 locs (cells + 1) (slots + N) Q (F0 m (pc + 3) ls (.ref q :: rest))) :
    W p l e R s m args below meth c H locs cells slots Q (F0 m pc ls (.int n :: rest)) := by
  obtain ⟨hx, hb, hml, hown, hts⟩ := C
  obtain ⟨w1, w2, w3, w4, w5, w6, w7⟩ := w
  refine va_newq (A := fun q => b0 ≤ q) (ws := [] ++ va_pl L f) hx hb hown (hts _ k1) hover w2 w3 w4 w5 (fun q h => Nat.le_trans w1 h) hn hN hbytes hc hs hdg (fun q cA H1 hK hP hD hS => ?_)
  have hcA : cA = K ti := by
    have h1 := (hK.2 (tyl K).length (cA, .object CN) (by rw [List.getElem?_append_right (Nat.le_refl _), Nat.sub_self]; rfl)).2
    exact va_RA.uniq h1 (w2.2 ti _ hty).2
  subst hcA
  have hq := va_pl_fresh2 (X := []) hD
  have e2 := va_pl_push (e := .inl (K ti, N, .inr (.inr (.inr (.inr (fun _ => none)))))) (f := f) hq
  rw [List.nil_append, e2] at hP hD
  exact kk q H1 hq ⟨w1, w2, hP, hD, hS, w6, w7⟩
/-- an object into a raw array -/
theorem g_aast (C : CallFix p m c cc nL s args gt own) (w : Wh D K b0 sa s H locs L f) {a ti n v t : Nat} {fs : List Value} {g : Nat → Option Nat} (ha : a ∈ L) (hf : f a = .inl (K ti, n, .inr (.inr (.inr (.inr g))))) (hv : v ∈ L) (hfv : f v = .inr (t, fs)) {q : vw_C} (hcl : vwCl[t]? = some q) (hty : (tyl K)[ti]? = some (K ti, .object q.1)) {i : Int32} (hin : vp_in i n) (hdg : decode cc pc = .ok (.aastore, 1))
    (kk : ∀ (H1 : Heap) (locs1 : List Loc), Wh D K b0 sa s H1 locs1 L (va_up f a (.inl (K ti, n, .inr (.inr (.inr (.inr (va_up g i.toNatClampNeg (some v)))))))) → W p l e R s m args below meth c H1 locs1 cells slots Q (F0 m (pc + 1) ls rest)) : W p l e R s m args below meth c H locs cells slots Q (F0 m pc ls (.ref v :: .int i :: .ref a :: rest)) := by
  obtain ⟨hx, hb, hml, hown, hts⟩ := C
  obtain ⟨w1, w2, w3, w4, w5, w6, w7⟩ := w
  obtain ⟨k0, hk0⟩ := va_pl_get (X := []) (f := f) ha
  obtain ⟨kv, hkv⟩ := va_pl_get (X := []) (f := f) hv
  have hk1 : ([] ++ va_pl L f)[k0]? = some (a, .inl (K ti, n, .inr (.inr (.inr (.inr g))))) := by rw [hk0, hf]
  rw [hfv] at hkv
  refine va_astq (A := fun q => b0 ≤ q) (ws := [] ++ va_pl L f) hx hb w2 w3 w4 w5 k0 ti kv t hk1 hty hkv hcl hin hdg (fun H1 locs1 hP hD hS => ?_)
  rw [va_pl_set (X := []) w4 ha hk0] at hP hD
  exact kk H1 locs1 ⟨w1, w2, hP, hD, hS, w6, w7⟩
/-- raw int arrays -/
theorem g_alen (C : CallFix p m c cc nL s args gt own) (w : Wh D K b0 sa s H locs L f) {a n ti : Nat} {g : Nat → Int32} {ty : FieldType} (ha : a ∈ L) (hf : f a = .inl (K ti, n, .inl g)) (hty : (tyl K)[ti]? = some (K ti, ty)) {v : Int32} (hv : Int32.ofNat n = v) (hdg : decode cc pc = .ok (.arraylength, 1))
    (kk : W p l e R s m args below meth c H locs cells slots Q (F0 m (pc + 1) ls (.int v :: rest))) : W p l e R s m args below meth c H locs cells slots Q (F0 m pc ls (.ref a :: rest)) := by
  obtain ⟨hx, hb, hml, hown, hts⟩ := C
  obtain ⟨w1, w2, w3, w4, w5, w6, w7⟩ := w
  obtain ⟨k0, hk0⟩ := va_pl_get (X := []) (f := f) ha
  rw [hf] at hk0
  exact va_alen (ws := [] ++ va_pl L f) hx hb w2 w3 k0 ti hk0 hty hv hdg kk
theorem g_iast (C : CallFix p m c cc nL s args gt own) (w : Wh D K b0 sa s H locs L f) {a n : Nat} {g : Nat → Int32} (ha : a ∈ L) (hf : f a = .inl (K 0, n, .inl g)) {i x : Int32} (hin : vp_in i n) (hdg : decode cc pc = .ok (.iastore, 1))
    (kk : ∀ (H1 : Heap) (locs1 : List Loc), Wh D K b0 sa s H1 locs1 L (va_up f a (.inl (K 0, n, .inl (upd g i.toNatClampNeg x)))) → W p l e R s m args below meth c H1 locs1 cells slots Q (F0 m (pc + 1) ls rest)) : W p l e R s m args below meth c H locs cells slots Q (F0 m pc ls (.int x :: .int i :: .ref a :: rest)) := by
  obtain ⟨hx, hb, hml, hown, hts⟩ := C
  obtain ⟨w1, w2, w3, w4, w5, w6, w7⟩ := w
  obtain ⟨k0, hk0⟩ := va_pl_get (X := []) (f := f) ha
  have hk1 : ([] ++ va_pl L f)[k0]? = some (a, .inl (K 0, n, .inl g)) := by rw [hk0, hf]
  refine va_iast (A := fun q => b0 ≤ q) (ws := [] ++ va_pl L f) hx hb w2 w3 w4 w5 k0 0 hk1 rfl hin hdg (fun H1 locs1 hP hD hS => ?_)
  rw [va_pl_set (X := []) w4 ha hk0] at hP hD
  exact kk H1 locs1 ⟨w1, w2, hP, hD, hS, w6, w7⟩
/-- System.arraycopy(a, 0, b, 0, n) between two cells of the pool -/
theorem g_copy (C : CallFix p m c cc nL s args gt own) (w : Wh D K b0 sa s H locs L f) {a b n1 n2 : Nat} {ga gb : Nat → Int32} (ha : a ∈ L) (hfa : f a = .inl (K 0, n1, .inl ga)) (hb : b ∈ L) (hfb : f b = .inl (K 0, n2, .inl gb)) {index : Nat} (hsz : ls.size = nL)
    (k1 : Cond.methodLink own index arraycopyName ∈ gt) (k2 : Cond.native arraycopyName ∈ gt) (k3 : Cond.static arraycopyName ∈ gt) (k4 : Cond.initialized "java/lang/System" ∈ gt) {n : Int32} (h3 : ¬ n < 0) (h4 : n.toNatClampNeg ≤ n1) (h5 : n.toNatClampNeg ≤ n2)
    (hframes : 1 ≤ R.frames) (hlocals : (rest.map fun v => v.category).sum + (nativeFrameWords "java/lang/System" "arraycopy" 5 + 11) ≤ R.locals) (hdg : decode cc pc = .ok (.invokestatic index, 3))
    (kk : ∀ (H1 : Heap) (locs1 : List Loc), Wh D K b0 sa s H1 locs1 L (va_up f b (.inl (K 0, n2, .inl (fun j => if j < n.toNatClampNeg then ga j else gb j)))) → W p l e R s m args below meth c H1 locs1 cells slots Q (F0 m (pc + 3) ls rest)) : W p l e R s m args below meth c H locs cells slots Q (F0 m pc ls (.int n :: .int 0 :: .ref b :: .int 0 :: .ref a :: rest)) := by
  obtain ⟨hx, hbb, hml, hown, hts⟩ := C
  obtain ⟨w1, w2, w3, w4, w5, w6, w7⟩ := w
  obtain ⟨ka, hka⟩ := va_pl_get (X := []) (f := f) ha
  obtain ⟨kb, hkb⟩ := va_pl_get (X := []) (f := f) hb
  have hka1 : ([] ++ va_pl L f)[ka]? = some (a, .inl (K 0, n1, .inl ga)) := by rw [hka, hfa]
  have hkb1 : ([] ++ va_pl L f)[kb]? = some (b, .inl (K 0, n2, .inl gb)) := by rw [hkb, hfb]
  have z0 : (0 : Int32).toNatClampNeg = 0 := by decide
  refine va_copyi (A := fun q => b0 ≤ q) (ws := [] ++ va_pl L f) hx hbb (hml.trans hsz.symm) hown (hts _ k1) (hts _ k2) (hts _ k3) (hts _ k4) w2 w3 w4 w5 ka kb 0 0 hka1 hkb1 rfl rfl rfl (by decide) (by decide) h3 (by rw [z0]; omega) (by rw [z0]; omega) (fun i _ => rfl) hframes hlocals hdg (fun H1 locs1 hP hD hS => ?_)
  rw [va_pl_set (X := []) w4 hb hkb] at hP hD
  have e9 : va_cpy ga gb (0 : Int32).toNatClampNeg (0 : Int32).toNatClampNeg n.toNatClampNeg = fun j => if j < n.toNatClampNeg then ga j else gb j := by
    funext j
    rw [z0]
    by_cases q : j < n.toNatClampNeg
    · rw [if_pos q, pk_cpy_in (by omega) (by omega)]
      have : 0 + (j - 0) = j := by omega
      rw [this]
    · rw [if_neg q, pk_cpy_out (by omega)]
  rw [e9] at hP hD
  exact kk H1 locs1 ⟨w1, w2, hP, hD, hS, w6, w7⟩
variable {y : MethodName} {bytes : ByteArray} {maxL n mc ms index : Nat} {rm : Room} {As : List Value} {post : Option Value → tU → Prop}
/-- the call of a constructor -/
theorem t_callI (C : CallFix p m c cc nL s args gt own) (w : Wh D K b0 sa s H locs L f) {b : Nat} (hM : Met l y (.code y bytes maxL none :: gt) rm (va_Pc (.ref b :: As) (hPre D K b0 sa H.size L f)) (hQ D K b0 post) mc ms (fun q => b0 ≤ q))
    (k1 : Cond.code y bytes maxL none ∈ gt) (k2 : Cond.methodLink own index y ∈ gt) (hyn : y.name = "<init>") (k3 : Cond.instanceMethod y ∈ gt) (k4 : Cond.initialized y.cls ∈ gt) (hd : plainY y n) (hrc : rm.cells = mc) (hrs : rm.slots = ms) (hR : rm.frames + 1 ≤ R.frames ∧ 8 + (maxL + 11) + rm.locals ≤ R.locals)
    (hn : As.length = n) (hsz : ls.size = nL) (hst : st0 = As.reverse ++ .ref b :: rest) (hW : (rest.map fun v => v.category).sum ≤ 8) (hdg : decode cc pc = .ok (.invokespecial index, 3)) (hf : cells + mc ≤ R.cells ∧ slots + ms ≤ R.slots)
    (kk : ∀ (v : Option Value) (u : tU) (H1 : Heap) (locs1 : List Loc), post v u → Wh D K b0 sa s H1 locs1 u.2.2.1 u.2.2.2 → W p l e R s m args below meth c H1 locs1 (cells + mc) (slots + ms) Q (F0 m (pc + 3) ls (v.toList ++ rest))) : W p l e R s m args below meth c H locs cells slots Q (F0 m pc ls st0) :=
  t_go w (va_runI (As := As) (rest := rest) C hM ⟨callB_of n C.2.2.2.2 (gt_in k1) rfl hrc hrs (C.2.2.2.2 _ k4) (C.2.2.2.2 _ k2) hd hR, hyn, C.2.2.2.2 _ k3⟩ ⟨hPre.blind, fun U hU hW => ⟨rfl, w.pre hU hW⟩⟩ rfl hn hsz hst (lv_room hW) hdg hf) kk
theorem t_callIN (C : CallFix p m c cc nL s args gt own) {host : String} (w : Wh D K b0 sa s H locs L f) {b : Nat} (hM : Met l y (.code y bytes maxL none :: gt) rm (va_Pc (.ref b :: As) (hPre D K b0 sa H.size L f)) (hQ D K b0 post) mc ms (fun q => b0 ≤ q))
    (k1 : Cond.code y bytes maxL none ∈ gt) (k2 : Cond.methodLinkNest own index y host ∈ nwl) (hyn : y.name = "<init>") (k3 : Cond.instanceMethod y ∈ gt) (k4 : Cond.initialized y.cls ∈ gt) (hd : plainY y n) (hrc : rm.cells = mc) (hrs : rm.slots = ms) (hR : rm.frames + 1 ≤ R.frames ∧ 8 + (maxL + 11) + rm.locals ≤ R.locals)
    (hn : As.length = n) (hsz : ls.size = nL) (hst : st0 = As.reverse ++ .ref b :: rest) (hW : (rest.map fun v => v.category).sum ≤ 8) (hdg : decode cc pc = .ok (.invokespecial index, 3)) (hf : cells + mc ≤ R.cells ∧ slots + ms ≤ R.slots)
    (kk : ∀ (v : Option Value) (u : tU) (H1 : Heap) (locs1 : List Loc), post v u → Wh D K b0 sa s H1 locs1 u.2.2.1 u.2.2.2 → W p l e R s m args below meth c H1 locs1 (cells + mc) (slots + ms) Q (F0 m (pc + 3) ls (v.toList ++ rest))) : W p l e R s m args below meth c H locs cells slots Q (F0 m pc ls st0) :=
  t_go w (va_runIN (As := As) (rest := rest) C hM ⟨va_cnB n C.2.2.2.2 (gt_in k1) rfl hrc hrs (w.2.2.2.2.2.1.1 _ k2) (C.2.2.2.2 _ k4) hd hR, hyn, C.2.2.2.2 _ k3⟩ ⟨hPre.blind, fun U hU hW => ⟨rfl, w.pre hU hW⟩⟩ rfl hn hsz hst (lv_room hW) hdg hf) kk
/-- Object's constructor -/
theorem t_obj0 (C : CallFix p m c cc nL s args gt own) (hsz : ls.size = nL) {a idx : Nat} (k1 : Cond.methodLink own idx Lib.objectInit ∈ gt) (k2 : Cond.instanceMethod Lib.objectInit ∈ gt) (k3 : Cond.code Lib.objectInit ⟨#[0xb1]⟩ 1 none ∈ gt) (hdg : decode cc pc = .ok (.invokespecial idx, 3)) (hframes : 1 ≤ R.frames) (hlocals : (rest.map fun v => v.category).sum + 12 ≤ R.locals)
    (kk : W p l e R s m args below meth c H locs cells slots Q (F0 m (pc + 3) ls rest)) : W p l e R s m args below meth c H locs cells slots Q (F0 m pc ls (.ref a :: rest)) := by
  obtain ⟨hx, hb, hml, hown, hts⟩ := C
  exact W.objInit hx hb hown (hts _ k1) (hts _ k2) (hts _ k3) rfl (hsz.trans hml.symm) rfl hdg hframes (by show 2 * 0 + _ + 12 ≤ _; omega) kk
end AL
theorem dfl_0 : ∀ j, j < 13 → defaultValue (tyX0 j) = vp_V [.null, .int 0, .int 0, .int 0, .int 0, .int 0, .int 0, .int 0, .int 0, .int 0, .int 0, .null, .int 0] j := by
  intro j hj
  match j, hj with
  | 0, _ => rfl
  | 1, _ => rfl
  | 2, _ => rfl
  | 3, _ => rfl
  | 4, _ => rfl
  | 5, _ => rfl
  | 6, _ => rfl
  | 7, _ => rfl
  | 8, _ => rfl
  | 9, _ => rfl
  | 10, _ => rfl
  | 11, _ => rfl
  | 12, _ => rfl
  | (_ + 13), h => exact absurd h (by omega)
theorem dfl_1 : ∀ j, j < 1 → defaultValue (tyX1 j) = vp_V [.null] j := by
  intro j hj
  match j, hj with
  | 0, _ => rfl
  | (_ + 1), h => exact absurd h (by omega)
theorem dfl_2 : ∀ j, j < 9 → defaultValue (tyX2 j) = vp_V [.int 0, .null, .null, .null, .null, .null, .null, .null, .null] j := by
  intro j hj
  match j, hj with
  | 0, _ => rfl
  | 1, _ => rfl
  | 2, _ => rfl
  | 3, _ => rfl
  | 4, _ => rfl
  | 5, _ => rfl
  | 6, _ => rfl
  | 7, _ => rfl
  | 8, _ => rfl
  | (_ + 9), h => exact absurd h (by omega)
theorem dfl_3 : ∀ j, j < 3 → defaultValue (tyX3 j) = vp_V [.null, .int 0, .null] j := by
  intro j hj
  match j, hj with
  | 0, _ => rfl
  | 1, _ => rfl
  | 2, _ => rfl
  | (_ + 3), h => exact absurd h (by omega)
theorem dfl_4 : ∀ j, j < 12 → defaultValue (tyX4 j) = vp_V [.null, .null, .null, .int 0, .int 0, .int 0, .null, .int 0, .int 0, .int 0, .int 0, .int 0] j := by
  intro j hj
  match j, hj with
  | 0, _ => rfl
  | 1, _ => rfl
  | 2, _ => rfl
  | 3, _ => rfl
  | 4, _ => rfl
  | 5, _ => rfl
  | 6, _ => rfl
  | 7, _ => rfl
  | 8, _ => rfl
  | 9, _ => rfl
  | 10, _ => rfl
  | 11, _ => rfl
  | (_ + 12), h => exact absurd h (by omega)
theorem dfl_5 : ∀ j, j < 17 → defaultValue (tyX5 j) = vp_V [.int 0, .int 0, .int 0, .int 0, .int 0, .int 0, .int 0, .int 0, .int 0, .int 0, .int 0, .int 0, .int 0, .int 0, .int 0, .null, .int 0] j := by
  intro j hj
  match j, hj with
  | 0, _ => rfl
  | 1, _ => rfl
  | 2, _ => rfl
  | 3, _ => rfl
  | 4, _ => rfl
  | 5, _ => rfl
  | 6, _ => rfl
  | 7, _ => rfl
  | 8, _ => rfl
  | 9, _ => rfl
  | 10, _ => rfl
  | 11, _ => rfl
  | 12, _ => rfl
  | 13, _ => rfl
  | 14, _ => rfl
  | 15, _ => rfl
  | 16, _ => rfl
  | (_ + 17), h => exact absurd h (by omega)
theorem dfl_6 : ∀ j, j < 18 → defaultValue (tyX6 j) = vp_V [.null, .null, .null, .int 0, .null, .int 0, .null, .int 0, .null, .int 0, .null, .int 0, .int 0, .null, .null, .null, .null, .null] j := by
  intro j hj
  match j, hj with
  | 0, _ => rfl
  | 1, _ => rfl
  | 2, _ => rfl
  | 3, _ => rfl
  | 4, _ => rfl
  | 5, _ => rfl
  | 6, _ => rfl
  | 7, _ => rfl
  | 8, _ => rfl
  | 9, _ => rfl
  | 10, _ => rfl
  | 11, _ => rfl
  | 12, _ => rfl
  | 13, _ => rfl
  | 14, _ => rfl
  | 15, _ => rfl
  | 16, _ => rfl
  | 17, _ => rfl
  | (_ + 18), h => exact absurd h (by omega)
theorem dfl_7 : ∀ j, j < 57 → defaultValue (tyX7 j) = vp_V [.int 0, .int 0, .int 0, .int 0, .int 0, .int 0, .int 0, .int 0, .int 0, .int 0, .null, .null, .null, .int 0, .int 0, .int 0, .int 0, .null, .int 0, .int 0, .int 0, .int 0, .null, .null, .null, .null, .null, .null, .null, .null, .int 0, .int 0, .int 0, .int 0, .int 0, .int 0, .int 0, .int 0, .int 0, .null, .int 0, .int 0, .int 0, .int 0, .int 0, .int 0, .int 0, .null, .int 0, .null, .null, .null, .null, .null, .null, .null, .int 0] j := by
  intro j hj
  match j, hj with
  | 0, _ => rfl
  | 1, _ => rfl
  | 2, _ => rfl
  | 3, _ => rfl
  | 4, _ => rfl
  | 5, _ => rfl
  | 6, _ => rfl
  | 7, _ => rfl
  | 8, _ => rfl
  | 9, _ => rfl
  | 10, _ => rfl
  | 11, _ => rfl
  | 12, _ => rfl
  | 13, _ => rfl
  | 14, _ => rfl
  | 15, _ => rfl
  | 16, _ => rfl
  | 17, _ => rfl
  | 18, _ => rfl
  | 19, _ => rfl
  | 20, _ => rfl
  | 21, _ => rfl
  | 22, _ => rfl
  | 23, _ => rfl
  | 24, _ => rfl
  | 25, _ => rfl
  | 26, _ => rfl
  | 27, _ => rfl
  | 28, _ => rfl
  | 29, _ => rfl
  | 30, _ => rfl
  | 31, _ => rfl
  | 32, _ => rfl
  | 33, _ => rfl
  | 34, _ => rfl
  | 35, _ => rfl
  | 36, _ => rfl
  | 37, _ => rfl
  | 38, _ => rfl
  | 39, _ => rfl
  | 40, _ => rfl
  | 41, _ => rfl
  | 42, _ => rfl
  | 43, _ => rfl
  | 44, _ => rfl
  | 45, _ => rfl
  | 46, _ => rfl
  | 47, _ => rfl
  | 48, _ => rfl
  | 49, _ => rfl
  | 50, _ => rfl
  | 51, _ => rfl
  | 52, _ => rfl
  | 53, _ => rfl
  | 54, _ => rfl
  | 55, _ => rfl
  | 56, _ => rfl
  | (_ + 57), h => exact absurd h (by omega)
