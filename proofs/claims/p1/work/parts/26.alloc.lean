/-! the world grows -/
/-- T the tags of new cells (9 among them), X the cells whose making is under way -/
def Ex (T : List Nat) (X : Nat → Prop) (Ψ0 : Nat → Nat) (L0 : List Nat) (f0 : Nat → va_E) (Ψ : Nat → Nat) (L : List Nat) (f : Nat → va_E) : Prop :=
  (∀ b : Nat, b ∈ L0 → b ∈ L ∧ (¬ X b → Ψ b = Ψ0 b ∧ (Ψ0 b = 9 → f b = f0 b))) ∧ ∀ b : Nat, b ∈ L → b ∈ L0 ∨ Ψ b ∈ T
/-- a step of growth -/
def Sp (Ψ : Nat → Nat) (L : List Nat) (f : Nat → va_E) (Ψ1 : Nat → Nat) (L1 : List Nat) (f1 : Nat → va_E) : Prop := ∀ b : Nat, b ∈ L → b ∈ L1 ∧ Ψ1 b = Ψ b ∧ (Ψ b = 9 → f1 b = f b)
section EX
variable {T T' : List Nat} {X X' : Nat → Prop} {Ψ0 Ψ Ψ1 Ψ2 : Nat → Nat} {L0 L L1 L2 : List Nat} {f0 f f1 f2 : Nat → va_E} {K : Nat → ClassId} {G : tG}
theorem Ex.rf : Ex T X Ψ L f Ψ L f := ⟨fun b hb => ⟨hb, fun _ => ⟨rfl, fun _ => rfl⟩⟩, fun b hb => Or.inl hb⟩
theorem Ex.up (h : Ex T X Ψ0 L0 f0 Ψ L f) (hr : rawk Ψ L f f1) : Ex T X Ψ0 L0 f0 Ψ L f1 :=
  ⟨fun b hb => ⟨(h.1 b hb).1, fun hx => ⟨((h.1 b hb).2 hx).1, fun h9 => (hr b (h.1 b hb).1 (((h.1 b hb).2 hx).1.trans h9)).trans (((h.1 b hb).2 hx).2 h9)⟩⟩, h.2⟩
theorem Ex.raw (h : Ex T X Ψ0 L0 f0 Ψ L f) {q : Nat} {e : va_E} (hz : q ∈ L0 → X q) : Ex T X Ψ0 L0 f0 Ψ L (va_up f q e) :=
  ⟨fun b hb => ⟨(h.1 b hb).1, fun hx => ⟨((h.1 b hb).2 hx).1, fun h9 => by
    rw [va_up_ne _ _ (fun e : b = q => hx (by rw [e]; exact hz (e ▸ hb)))]
    exact ((h.1 b hb).2 hx).2 h9⟩⟩, h.2⟩
theorem Ex.new (h : Ex T X Ψ0 L0 f0 Ψ L f) {q t : Nat} {e : va_E} (hq : q ∉ L) (ht : t ∈ T) : Ex T X Ψ0 L0 f0 (va_up Ψ q t) (L ++ [q]) (va_up f q e) := by
  refine ⟨fun b hb => ?_, fun b hb => ?_⟩
  · have h1 := h.1 b hb
    have hne : b ≠ q := fun e => hq (e ▸ h1.1)
    refine ⟨List.mem_append_left _ h1.1, fun hx => ?_⟩
    rw [va_up_ne _ _ hne, va_up_ne _ _ hne]
    exact h1.2 hx
  · rcases List.mem_append.mp hb with h1 | h1
    · have hne : b ≠ q := fun e => hq (e ▸ h1)
      rw [va_up_ne _ _ hne]
      exact h.2 b h1
    · cases List.mem_singleton.mp h1
      rw [va_up_self]
      exact Or.inr ht
theorem Ex.tag (h : Ex T X Ψ0 L0 f0 Ψ L f) {q t : Nat} (hz : q ∈ L0 → X q) (ht : t ∈ T) : Ex T X Ψ0 L0 f0 (va_up Ψ q t) L f := by
  refine ⟨fun b hb => ?_, fun b hb => ?_⟩
  · have h1 := h.1 b hb
    refine ⟨h1.1, fun hx => ?_⟩
    have hne : b ≠ q := fun e => hx (by rw [e]; exact hz (e ▸ hb))
    rw [va_up_ne _ _ hne]
    exact h1.2 hx
  · by_cases e : b = q
    · subst e
      rw [va_up_self]
      exact Or.inr ht
    · rw [va_up_ne _ _ e]
      exact h.2 b hb
theorem Ex.tr (h1 : Ex T X Ψ0 L0 f0 Ψ1 L1 f1) (h2 : Ex T' X' Ψ1 L1 f1 Ψ2 L2 f2) (hT : ∀ t ∈ T', t ∈ T) (hX : ∀ b, X' b → b ∈ L0 → X b) (hx : ∀ b, X' b → Ψ2 b ∈ T) : Ex T X Ψ0 L0 f0 Ψ2 L2 f2 := by
  refine ⟨fun b hb => ?_, fun b hb => ?_⟩
  · have q1 := h1.1 b hb
    have q2 := h2.1 b q1.1
    refine ⟨q2.1, fun hn => ?_⟩
    have hn2 : ¬ X' b := fun e => hn (hX b e hb)
    have a1 := q1.2 hn
    have a2 := q2.2 hn2
    exact ⟨a2.1.trans a1.1, fun h9 => (a2.2 (a1.1.trans h9)).trans (a1.2 h9)⟩
  · rcases h2.2 b hb with q | q
    · by_cases hn : X' b
      · exact Or.inr (hx b hn)
      · have a2 := ((h2.1 b q).2 hn).1
        rw [a2]
        exact h1.2 b q
    · exact Or.inr (hT _ q)
theorem Ex.sp (h : Ex T X Ψ L f Ψ1 L1 f1) {b : Nat} (hb : b ∈ L) (hx : ¬ X b) : b ∈ L1 ∧ Ψ1 b = Ψ b ∧ (Ψ b = 9 → f1 b = f b) := ⟨(h.1 b hb).1, (h.1 b hb).2 hx⟩
theorem TW.new (h : TW K G Ψ L f) {q : Nat} {e : va_E} (hq : q ∉ L) : TW K G (va_up Ψ q 9) (L ++ [q]) (va_up f q e) := by
  intro b hb
  rcases List.mem_append.mp hb with h1 | h1
  · have hne : b ≠ q := fun e => hq (e ▸ h1)
    rw [va_up_ne _ _ hne, va_up_ne _ _ hne]
    exact (h b h1).ext (fun a ha => ⟨List.mem_append_left _ ha, fun _ => va_up_ne _ _ (fun e : a = q => hq (e ▸ ha))⟩)
  · cases List.mem_singleton.mp h1
    rw [va_up_self]
    exact tye_9
theorem t_tag (hT : TW K G Ψ L f) (hE : Ex T X Ψ0 L0 f0 Ψ L f) {q t : Nat} (h9 : Ψ q = 9) (hz : q ∈ L0 → X q) (ht : t ∈ T) (he : tye K G Ψ L t (f q)) : ∃ Ψ1 : Nat → Nat, TW K G Ψ1 L f ∧ Ex T X Ψ0 L0 f0 Ψ1 L f ∧ (∀ b : Nat, Ψ b ≠ 9 → Ψ1 b = Ψ b) ∧ (∀ b : Nat, b ≠ q → Ψ1 b = Ψ b) ∧ Ψ1 q = t := by
  refine ⟨va_up Ψ q t, fun b hb => ?_, hE.tag hz ht, fun b hb => va_up_ne _ _ (fun e : b = q => hb (by rw [e]; exact h9)), fun b hb => va_up_ne _ _ hb, va_up_self _ _ _⟩
  have hx : ∀ a : Nat, a ∈ L → a ∈ L ∧ (Ψ a ≠ 9 → va_up Ψ q t a = Ψ a) := fun a ha => ⟨ha, fun hn => va_up_ne _ _ (fun e : a = q => hn (by rw [e]; exact h9))⟩
  by_cases e : b = q
  · subst e
    rw [va_up_self]
    exact he.ext hx
  · rw [va_up_ne _ _ e]
    exact (hT b hb).ext hx
/-- fields by a list -/
def tyL (G : tG) (Ψ : Nat → Nat) (L : List Nat) : Nat → List (Nat × Nat) → List Value → Prop
  | _, [], [] => True
  | id, d :: ds, v :: vs => tyv G Ψ L id d v ∧ tyL G Ψ L (id + 1) ds vs
  | _, _, _ => False
theorem tyL.at : ∀ {ds : List (Nat × Nat)} {vs : List Value} {id : Nat}, tyL G Ψ L id ds vs → vs.length = ds.length ∧ ∀ (j : Nat) (d : Nat × Nat), ds[j]? = some d → ∃ v : Value, vs[j]? = some v ∧ tyv G Ψ L (id + j) d v
  | [], [], _, _ => ⟨rfl, fun j d h => by simp at h⟩
  | d :: ds, v :: vs, id, h => by
    obtain ⟨h1, h2⟩ := h
    obtain ⟨q1, q2⟩ := tyL.at h2
    refine ⟨by rw [List.length_cons, List.length_cons, q1], fun j d2 hd => ?_⟩
    cases j with
    | zero =>
      cases hd
      exact ⟨v, rfl, h1⟩
    | succ j =>
      obtain ⟨v2, hv, ht⟩ := q2 j d2 hd
      exact ⟨v2, hv, by rw [show id + (j + 1) = id + 1 + j by omega]; exact ht⟩
  | [], _ :: _, _, h => h.elim
  | _ :: _, [], _, h => h.elim
theorem t_tyo {t : Nat} {e : va_E} {ds : List (Nat × Nat)} {vs : List Value} (hk : tkd t = 0) (he : e = .inr (t, vs)) (hd : tob t = ds) (h : tyL G Ψ L (100 * t) ds vs) : tye K G Ψ L t e := by
  rw [tye_0 hk]
  subst hd
  exact ⟨vs, he, h.at.1, h.at.2⟩
theorem t_tya {t : Nat} {e : va_E} {v : Int32} {g : Nat → Int32} {n : Nat} {c : ClassId} (hk : tkd t = 1) (he : e = .inl (c, n, .inl g)) (hc : K (tti t) = c) (hn : tln t = n) (hg : ∀ i : Nat, i < n → g i = v) (hG : ∀ i : Nat, G (100 * t) i v) : tye K G Ψ L t e := by
  rw [tye_1 hk]
  subst hn
  subst hc
  exact ⟨g, he, fun i hi => by rw [hg i hi]; exact hG i⟩
theorem t_tyn {t : Nat} {e : va_E} {n : Nat} {c : ClassId} (hk : tkd t = 3) (he : e = .inl (c, n, .inr (.inr (.inr (.inr (fun _ => none)))))) (hc : K (tti t) = c) (hn : tln t = n) : tye K G Ψ L t e := by
  rw [tye_3 hk]
  subst hn
  subst hc
  exact ⟨_, he, fun i _ => Or.inl rfl⟩
theorem t_tyq {t : Nat} {e : va_E} {n : Nat} {c : ClassId} {g : Nat → Option Nat} {t2 : Nat} (hk : tkd t = 2) (he : e = .inl (c, n, .inr (.inr (.inr (.inr g))))) (hc : K (tti t) = c) (hn : tln t = n) (hp : tpr t = t2) (hg : ∀ i : Nat, i < n → ∃ q : Nat, g i = some q ∧ q ∈ L ∧ Ψ q = t2) : tye K G Ψ L t e := by
  rw [tye_2 hk]
  subst hn
  subst hc
  subst hp
  exact ⟨_, he, hg⟩
theorem tyL_c {id : Nat} {d : Nat × Nat} {ds : List (Nat × Nat)} {v : Value} {vs : List Value} (h : tyv G Ψ L id d v) (h2 : tyL G Ψ L (id + 1) ds vs) : tyL G Ψ L id (d :: ds) (v :: vs) := ⟨h, h2⟩
theorem tyv_i {id d2 : Nat} {x : Int32} (h : G id 0 x) : tyv G Ψ L id (0, d2) (.int x) := ⟨x, rfl, h⟩
theorem tyv_r {id t q : Nat} (h : q ∈ L) (h2 : Ψ q = t) : tyv G Ψ L id (1, t) (.ref q) := ⟨q, rfl, h, h2⟩
/-- the cells of a tag -/
def No (P : Nat → Prop) (t : Nat) (Ψ : Nat → Nat) (L : List Nat) : Prop := ∀ b : Nat, b ∈ L → Ψ b = t → P b
theorem No.mono {P P' : Nat → Prop} {t : Nat} (h : No P t Ψ L) (hp : ∀ b, P b → P' b) : No P' t Ψ L := fun b hb ht => hp b (h b hb ht)
theorem No.grow {P : Nat → Prop} {t q : Nat} (h : No P t Ψ L) (hsp : Sp Ψ L f Ψ1 L1 f1) (hbk : ∀ b : Nat, b ∈ L1 → b = q ∨ b ∈ L) (hq : Ψ1 q = 9) (ht : 9 ≠ t) : No P t Ψ1 L1 := fun b hb hb2 => by
  rcases hbk b hb with e | e
  · rw [e, hq] at hb2
    exact absurd hb2 ht
  · exact h b e ((hsp b e).2.1.symm.trans hb2)
theorem No.tag {P : Nat → Prop} {t t' q : Nat} (h : No P t Ψ L) (hs : ∀ b : Nat, b ≠ q → Ψ1 b = Ψ b) (hq : Ψ1 q = t') (ht : t' ≠ t) : No P t Ψ1 L := fun b hb hb2 => by
  by_cases e : b = q
  · rw [e, hq] at hb2
    exact absurd hb2 ht
  · exact h b hb ((hs b e).symm.trans hb2)
theorem No.call {P : Nat → Prop} {t : Nat} (h : No P t Ψ L) (hE : Ex T' X' Ψ L f Ψ1 L1 f1) (ht : t ∉ T') (hX : ∀ b, X' b → Ψ1 b = t → P b) : No P t Ψ1 L1 := fun b hb hb2 => by
  by_cases e : X' b
  · exact hX b e hb2
  · rcases hE.2 b hb with q | q
    · exact h b q (((hE.1 b q).2 e).1.symm.trans hb2)
    · rw [hb2] at q
      exact absurd q ht
theorem va_RA.uniq {s : State} {c c2 : ClassId} {ty : FieldType} (h : va_RA s c ty) (h2 : va_RA s c2 ty) : c = c2 := by
  cases ty with
  | object C =>
    obtain ⟨_, _, _, _, _, q1⟩ := h
    obtain ⟨_, _, _, _, _, q2⟩ := h2
    exact Option.some.inj (q1.symm.trans q2)
  | _ => exact Option.some.inj (Eq.trans (Eq.symm h) h2)
end EX
section AL
variable {p : Program} {l : Launch} {e : Env} {R : Room} {s : State} {m : MethodId} {args : Array Value} {below : List Frame} {meth : Method} {c : Code} {H : Heap} {locs : List Loc} {cells slots : Nat} {Q : State → Prop}
variable {cc : ByteArray} {pc nL : Nat} {ls : Array Slot} {rest st0 : List Value} {D : va_G} {K : Nat → ClassId} {b0 : Nat} {sa : Nat × Nat × Nat} {L L0 : List Nat} {f f0 : Nat → va_E} {G : tG} {Ψ Ψ0 : Nat → Nat} {own : String} {T : List Nat} {X : Nat → Prop}
theorem t_grow (hT : TW K G Ψ L f) (hE : Ex T X Ψ0 L0 f0 Ψ L f) (h9 : 9 ∈ T) {q : Nat} {e1 : va_E} (hq : q ∉ L) : TW K G (va_up Ψ q 9) (L ++ [q]) (va_up f q e1) ∧ Ex T X Ψ0 L0 f0 (va_up Ψ q 9) (L ++ [q]) (va_up f q e1) ∧ Sp Ψ L f (va_up Ψ q 9) (L ++ [q]) (va_up f q e1) ∧ q ∈ L ++ [q] ∧ va_up Ψ q 9 q = 9 ∧ va_up f q e1 q = e1 ∧ (q ∈ L0 → X q) ∧ (∀ b : Nat, b ∈ L → b ≠ q) ∧ ∀ b : Nat, b ∈ L ++ [q] → b = q ∨ b ∈ L := by
  have hne : ∀ b : Nat, b ∈ L → b ≠ q := fun b hb e => hq (e ▸ hb)
  exact ⟨hT.new hq, hE.new hq h9, fun b hb => ⟨List.mem_append_left _ hb, va_up_ne _ _ (hne b hb), fun _ => va_up_ne _ _ (hne b hb)⟩, List.mem_append_right _ (List.mem_singleton.mpr rfl), va_up_self _ _ _, va_up_self _ _ _, fun h => absurd (hE.1 q h).1 hq, hne, fun b hb => (List.mem_append.mp hb).elim Or.inr (fun h => Or.inl (List.mem_singleton.mp h))⟩
/-- new C -/
theorem t_new (C : CallFix p m c cc nL s args gt own) (w : Wh D K b0 sa s H locs L f) (hT : TW K G Ψ L f) (hE : Ex T X Ψ0 L0 f0 Ψ L f) (h9 : 9 ∈ T) {t : Nat} {CN : String} {Tt : u_T} {N : Nat} (hcl : vwCl[t]? = some (CN, Tt, N)) (hin : ∀ w ∈ u_ws CN Tt N, w ∈ gt) (ty0 : Nat → FieldType) (hty : ∀ k, k < N → parseFieldDescriptor (Tt k).2.2.1 = some (ty0 k)) {index : Nat}
    (k1 : Cond.classLink own index CN ∈ gt) (k2 : Cond.instantiable CN N ∈ gt) (k3 : Cond.initialized CN ∈ gt) {fs : List Value} (hfs : ∀ j, j < N → defaultValue (ty0 j) = vp_V fs j) (hc : cells + 1 ≤ R.cells) (hs : slots + N ≤ R.slots) (hdg : decode cc pc = .ok (.new index, 3))
    (kk : ∀ (q : Nat) (Ψ1 : Nat → Nat) (L1 : List Nat) (f1 : Nat → va_E) (H1 : Heap), Wh D K b0 sa s H1 locs L1 f1 → TW K G Ψ1 L1 f1 → Ex T X Ψ0 L0 f0 Ψ1 L1 f1 → Sp Ψ L f Ψ1 L1 f1 → q ∈ L1 → Ψ1 q = 9 → f1 q = .inr (t, fs) → (q ∈ L0 → X q) → (∀ b : Nat, b ∈ L → b ≠ q) → (∀ b : Nat, b ∈ L1 → b = q ∨ b ∈ L) → W p l e R s m args below meth c H1 locs (cells + 1) (slots + N) Q (F0 m (pc + 3) ls (.ref q :: rest))) :
    W p l e R s m args below meth c H locs cells slots Q (F0 m pc ls rest) := by
  obtain ⟨hx, hb, hml, hown, hts⟩ := C
  obtain ⟨w1, w2, w3, w4, w5, w6, w7⟩ := w
  refine va_new (A := fun q => b0 ≤ q) (ws := [] ++ va_pl L f) hx hb hts hin ty0 hty hown (hts _ k1) (hts _ k2) (hts _ k3) w2 w3 w4 w5 (fun q h => Nat.le_trans w1 h) hcl hfs hc hs hdg (fun q H1 hP hD hS => ?_)
  have hq := va_pl_fresh2 (X := []) hD
  obtain ⟨g1, g2, g3, g4, g5, g6, g7, g8, g9⟩ := t_grow (e1 := .inr (t, fs)) hT hE h9 hq
  have e2 := va_pl_push (e := .inr (t, fs)) (f := f) hq
  rw [List.nil_append, e2] at hP hD
  exact kk q _ _ _ H1 ⟨w1, w2, hP, hD, hS, w6, w7⟩ g1 g2 g3 g4 g5 g6 g7 g8 g9
/-- new int[n], new boolean[n] -/
theorem t_newI (C : CallFix p m c cc nL s args gt own) (w : Wh D K b0 sa s H locs L f) (hT : TW K G Ψ L f) (hE : Ex T X Ψ0 L0 f0 Ψ L f) (h9 : 9 ∈ T) {at_ : ArrayType} {ti : Nat} {ty : FieldType} (hat : newarray.typeOf at_ = ty) (hty : (tyl K)[ti]? = some (K ti, ty)) (hint : ty = .int ∨ ty = .boolean) (k1 : Cond.arrayClass ty ∈ gt)
    {n : Int32} {N : Nat} (hn : ¬ n < 0) (hN : n.toNatClampNeg = N) (hbytes : N * componentBytes ty ≤ 536870912) (hc : cells + 1 ≤ R.cells) (hs : slots + N ≤ R.slots) (hdg : decode cc pc = .ok (.newarray at_, 2))
    (kk : ∀ (q : Nat) (Ψ1 : Nat → Nat) (L1 : List Nat) (f1 : Nat → va_E) (H1 : Heap), Wh D K b0 sa s H1 locs L1 f1 → TW K G Ψ1 L1 f1 → Ex T X Ψ0 L0 f0 Ψ1 L1 f1 → Sp Ψ L f Ψ1 L1 f1 → q ∈ L1 → Ψ1 q = 9 → f1 q = .inl (K ti, N, .inl (fun _ => 0)) → (q ∈ L0 → X q) → (∀ b : Nat, b ∈ L → b ≠ q) → (∀ b : Nat, b ∈ L1 → b = q ∨ b ∈ L) → W p l e R s m args below meth c H1 locs (cells + 1) (slots + N) Q (F0 m (pc + 2) ls (.ref q :: rest))) :
    W p l e R s m args below meth c H locs cells slots Q (F0 m pc ls (.int n :: rest)) := by
  obtain ⟨hx, hb, hml, hown, hts⟩ := C
  obtain ⟨w1, w2, w3, w4, w5, w6, w7⟩ := w
  have hd : defaultValue ty = .int 0 := by rcases hint with rfl | rfl <;> rfl
  refine va_newa (A := fun q => b0 ≤ q) (ws := [] ++ va_pl L f) (a0 := (N, .inl (fun _ => 0))) hx hb (by rw [hat]; exact hts _ k1) hat w2 w3 w4 w5 (fun q h => Nat.le_trans w1 h) (fun cA => by rw [hd]; exact vp_cell_i _ _ _) hn hN hbytes hc hs hdg (fun q cA H1 hK hP hD hS => ?_)
  have hcA : cA = K ti := by
    have h1 := (hK.2 (tyl K).length (cA, ty) (by rw [List.getElem?_append_right (Nat.le_refl _), Nat.sub_self]; rfl)).2
    exact va_RA.uniq h1 (w2.2 ti _ hty).2
  subst hcA
  have hq := va_pl_fresh2 (X := []) hD
  obtain ⟨g1, g2, g3, g4, g5, g6, g7, g8, g9⟩ := t_grow (e1 := .inl (K ti, N, .inl (fun _ => 0))) hT hE h9 hq
  have e2 := va_pl_push (e := .inl (K ti, N, .inl (fun _ => 0))) (f := f) hq
  rw [List.nil_append, e2] at hP hD
  exact kk q _ _ _ H1 ⟨w1, w2, hP, hD, hS, w6, w7⟩ g1 g2 g3 g4 g5 g6 g7 g8 g9
/-- new C[n] -/
theorem t_newQ (C : CallFix p m c cc nL s args gt own) (w : Wh D K b0 sa s H locs L f) (hT : TW K G Ψ L f) (hE : Ex T X Ψ0 L0 f0 Ψ L f) (h9 : 9 ∈ T) {ti : Nat} {CN : String} {index : Nat} (hty : (tyl K)[ti]? = some (K ti, .object CN)) (k1 : Cond.classLink own index CN ∈ gt) (hover : va_AO CN s)
    {n : Int32} {N : Nat} (hn : ¬ n < 0) (hN : n.toNatClampNeg = N) (hbytes : N * 4 ≤ 536870912) (hc : cells + 1 ≤ R.cells) (hs : slots + N ≤ R.slots) (hdg : decode cc pc = .ok (.anewarray index, 3))
    (kk : ∀ (q : Nat) (Ψ1 : Nat → Nat) (L1 : List Nat) (f1 : Nat → va_E) (H1 : Heap), Wh D K b0 sa s H1 locs L1 f1 → TW K G Ψ1 L1 f1 → Ex T X Ψ0 L0 f0 Ψ1 L1 f1 → Sp Ψ L f Ψ1 L1 f1 → q ∈ L1 → Ψ1 q = 9 → f1 q = .inl (K ti, N, .inr (.inr (.inr (.inr (fun _ => none))))) → (q ∈ L0 → X q) → (∀ b : Nat, b ∈ L → b ≠ q) → (∀ b : Nat, b ∈ L1 → b = q ∨ b ∈ L) → W p l e R s m args below meth c H1 locs (cells + 1) (slots + N) Q (F0 m (pc + 3) ls (.ref q :: rest))) :
    W p l e R s m args below meth c H locs cells slots Q (F0 m pc ls (.int n :: rest)) := by
  obtain ⟨hx, hb, hml, hown, hts⟩ := C
  obtain ⟨w1, w2, w3, w4, w5, w6, w7⟩ := w
  refine va_newq (A := fun q => b0 ≤ q) (ws := [] ++ va_pl L f) hx hb hown (hts _ k1) hover w2 w3 w4 w5 (fun q h => Nat.le_trans w1 h) hn hN hbytes hc hs hdg (fun q cA H1 hK hP hD hS => ?_)
  have hcA : cA = K ti := by
    have h1 := (hK.2 (tyl K).length (cA, .object CN) (by rw [List.getElem?_append_right (Nat.le_refl _), Nat.sub_self]; rfl)).2
    exact va_RA.uniq h1 (w2.2 ti _ hty).2
  subst hcA
  have hq := va_pl_fresh2 (X := []) hD
  obtain ⟨g1, g2, g3, g4, g5, g6, g7, g8, g9⟩ := t_grow (e1 := .inl (K ti, N, .inr (.inr (.inr (.inr (fun _ => none)))))) hT hE h9 hq
  have e2 := va_pl_push (e := .inl (K ti, N, .inr (.inr (.inr (.inr (fun _ => none)))))) (f := f) hq
  rw [List.nil_append, e2] at hP hD
  exact kk q _ _ _ H1 ⟨w1, w2, hP, hD, hS, w6, w7⟩ g1 g2 g3 g4 g5 g6 g7 g8 g9
theorem TW.raw (hT : TW K G Ψ L f) {a : Nat} {e : va_E} (h9 : Ψ a = 9) : TW K G Ψ L (va_up f a e) := hT.up (by rw [h9]; exact tye_9)
/-- a field of an object that is being made -/
theorem t_putR (C : CallFix p m c cc nL s args gt own) (w : Wh D K b0 sa s H locs L f) (hT : TW K G Ψ L f) (hE : Ex T X Ψ0 L0 f0 Ψ L f) {a t : Nat} {fs fs2 : List Value} (ha : a ∈ L) (h9 : Ψ a = 9) (hf : f a = .inr (t, fs)) (hz : a ∈ L0 → X a) {CN : String} {Tt : u_T} {N : Nat} (hcl : vwCl[t]? = some (CN, Tt, N)) (hin : ∀ w ∈ u_ws CN Tt N, w ∈ gt) (ty0 : Nat → FieldType) (hty : ∀ k, k < N → parseFieldDescriptor (Tt k).2.2.1 = some (ty0 k)) (hnm : ∀ a, a < N → ∀ b, b < N → a ≠ b → (Tt a).2.1 ≠ (Tt b).2.1) (j : Nat) (hj : j < N) (hl : j < fs.length) (hfin : (Tt j).2.2.2 = false) {v : Value} (hn : narrow (ty0 j) v = v) (hfit : fits (ty0 j) v = true) (hset : fs.set j v = fs2) {index : Nat} (hlk : Cond.fieldLink own index (Tt j).1 (Tt j).2.1 (Tt j).2.2.1 ∈ gt) (hdg : decode cc pc = .ok (.putfield index, 3))
    (kk : ∀ (f1 : Nat → va_E) (H1 : Heap) (locs1 : List Loc), Wh D K b0 sa s H1 locs1 L f1 → TW K G Ψ L f1 → Ex T X Ψ0 L0 f0 Ψ L f1 → f1 a = .inr (t, fs2) → (∀ b : Nat, b ≠ a → f1 b = f b) → W p l e R s m args below meth c H1 locs1 cells slots Q (F0 m (pc + 3) ls rest)) : W p l e R s m args below meth c H locs cells slots Q (F0 m pc ls (v :: .ref a :: rest)) := by
  subst hset
  exact t_putv C w ha hf hcl hin ty0 hty hnm j hj hl hfin hn hfit hlk hdg (fun H1 locs1 w1 => kk _ H1 locs1 w1 (hT.raw h9) (hE.raw hz) (va_up_self _ _ _) (fun b hb => va_up_ne _ _ hb))
theorem t_putRF (C : CallFix p m c cc nL s args gt own) (hini : meth.name = "<init>") (w : Wh D K b0 sa s H locs L f) (hT : TW K G Ψ L f) (hE : Ex T X Ψ0 L0 f0 Ψ L f) {a t : Nat} {fs fs2 : List Value} (ha : a ∈ L) (h9 : Ψ a = 9) (hf : f a = .inr (t, fs)) (hz : a ∈ L0 → X a) {CN : String} {Tt : u_T} {N : Nat} (hcl : vwCl[t]? = some (CN, Tt, N)) (hin : ∀ w ∈ u_ws CN Tt N, w ∈ gt) (ty0 : Nat → FieldType) (hty : ∀ k, k < N → parseFieldDescriptor (Tt k).2.2.1 = some (ty0 k)) (hnm : ∀ a, a < N → ∀ b, b < N → a ≠ b → (Tt a).2.1 ≠ (Tt b).2.1) (j : Nat) (hj : j < N) (hl : j < fs.length) (hfin : (Tt j).2.2.2 = true) (hdecl : (Tt j).1 = own) {v : Value} (hn : narrow (ty0 j) v = v) (hfit : fits (ty0 j) v = true) (hset : fs.set j v = fs2) {index : Nat} (hlk : Cond.fieldLink own index (Tt j).1 (Tt j).2.1 (Tt j).2.2.1 ∈ gt) (hdg : decode cc pc = .ok (.putfield index, 3))
    (kk : ∀ (f1 : Nat → va_E) (H1 : Heap) (locs1 : List Loc), Wh D K b0 sa s H1 locs1 L f1 → TW K G Ψ L f1 → Ex T X Ψ0 L0 f0 Ψ L f1 → f1 a = .inr (t, fs2) → (∀ b : Nat, b ≠ a → f1 b = f b) → W p l e R s m args below meth c H1 locs1 cells slots Q (F0 m (pc + 3) ls rest)) : W p l e R s m args below meth c H locs cells slots Q (F0 m pc ls (v :: .ref a :: rest)) := by
  subst hset
  exact t_putF C hini w ha hf hcl hin ty0 hty hnm j hj hl hfin hdecl hn hfit hlk hdg (fun H1 locs1 w1 => kk _ H1 locs1 w1 (hT.raw h9) (hE.raw hz) (va_up_self _ _ _) (fun b hb => va_up_ne _ _ hb))
/-- an object into an array that is being filled -/
theorem t_aastR (C : CallFix p m c cc nL s args gt own) (w : Wh D K b0 sa s H locs L f) (hT : TW K G Ψ L f) (hE : Ex T X Ψ0 L0 f0 Ψ L f) {a ti n v t : Nat} {g g2 : Nat → Option Nat} (ha : a ∈ L) (h9 : Ψ a = 9) (hf : f a = .inl (K ti, n, .inr (.inr (.inr (.inr g))))) (hz : a ∈ L0 → X a) (hv : v ∈ L) (htv : Ψ v = t) (hk : tkd t = 0) {q : vw_C} (hcl : vwCl[t]? = some q) (hty : (tyl K)[ti]? = some (K ti, .object q.1)) {i : Int32} (hin : vp_in i n) (hg : va_up g i.toNatClampNeg (some v) = g2) (hdg : decode cc pc = .ok (.aastore, 1))
    (kk : ∀ (f1 : Nat → va_E) (H1 : Heap) (locs1 : List Loc), Wh D K b0 sa s H1 locs1 L f1 → TW K G Ψ L f1 → Ex T X Ψ0 L0 f0 Ψ L f1 → f1 a = .inl (K ti, n, .inr (.inr (.inr (.inr g2)))) → (∀ b : Nat, b ≠ a → f1 b = f b) → W p l e R s m args below meth c H1 locs1 cells slots Q (F0 m (pc + 1) ls rest)) : W p l e R s m args below meth c H locs cells slots Q (F0 m pc ls (.ref v :: .int i :: .ref a :: rest)) := by
  subst hg
  obtain ⟨fs, hfv, -, -⟩ := t_obj hT hv htv hk
  obtain ⟨hx, hb, hml, hown, hts⟩ := C
  obtain ⟨w1, w2, w3, w4, w5, w6, w7⟩ := w
  obtain ⟨k0, hk0⟩ := va_pl_get (X := []) (f := f) ha
  obtain ⟨kv, hkv⟩ := va_pl_get (X := []) (f := f) hv
  have hk1 : ([] ++ va_pl L f)[k0]? = some (a, .inl (K ti, n, .inr (.inr (.inr (.inr g))))) := by rw [hk0, hf]
  rw [hfv] at hkv
  refine va_astq (A := fun q => b0 ≤ q) (ws := [] ++ va_pl L f) hx hb w2 w3 w4 w5 k0 ti kv t hk1 hty hkv hcl hin hdg (fun H1 locs1 hP hD hS => ?_)
  rw [va_pl_set (X := []) w4 ha hk0] at hP hD
  exact kk _ H1 locs1 ⟨w1, w2, hP, hD, hS, w6, w7⟩ (hT.raw h9) (hE.raw hz) (va_up_self _ _ _) (fun b hb => va_up_ne _ _ hb)
/-- an object into an array that may hold null -/
theorem t_aast (C : CallFix p m c cc nL s args gt own) (w : Wh D K b0 sa s H locs L f) (hT : TW K G Ψ L f) {a ta v t : Nat} (ha : a ∈ L) (hta : Ψ a = ta) (hka : tkd ta = 3) (hv : v ∈ L) (htv : Ψ v = t) (htp : tpr ta = t) (hk : tkd t = 0) {q : vw_C} (hcl : vwCl[t]? = some q) (hty : (tyl K)[tti ta]? = some (K (tti ta), .object q.1)) {i : Int32} (hin : vp_in i (tln ta)) (hdg : decode cc pc = .ok (.aastore, 1))
    (kk : ∀ (f1 : Nat → va_E) (H1 : Heap) (locs1 : List Loc), Wh D K b0 sa s H1 locs1 L f1 → TW K G Ψ L f1 → rawk Ψ L f f1 → W p l e R s m args below meth c H1 locs1 cells slots Q (F0 m (pc + 1) ls rest)) : W p l e R s m args below meth c H locs cells slots Q (F0 m pc ls (.ref v :: .int i :: .ref a :: rest)) := by
  obtain ⟨fs, hfv, -, -⟩ := t_obj hT hv htv hk
  obtain ⟨hx, hb, hml, hown, hts⟩ := C
  obtain ⟨w1, w2, w3, w4, w5, w6, w7⟩ := w
  have h := hT a ha
  rw [hta, tye_3 hka] at h
  obtain ⟨g, e1, hg⟩ := h
  obtain ⟨k0, hk0⟩ := va_pl_get (X := []) (f := f) ha
  obtain ⟨kv, hkv⟩ := va_pl_get (X := []) (f := f) hv
  have hk1 : ([] ++ va_pl L f)[k0]? = some (a, .inl (K (tti ta), tln ta, .inr (.inr (.inr (.inr g))))) := by rw [hk0, e1]
  rw [hfv] at hkv
  refine va_astq (A := fun q => b0 ≤ q) (ws := [] ++ va_pl L f) hx hb w2 w3 w4 w5 k0 (tti ta) kv t hk1 hty hkv hcl hin hdg (fun H1 locs1 hP hD hS => ?_)
  rw [va_pl_set (X := []) w4 ha hk0] at hP hD
  refine kk _ H1 locs1 ⟨w1, w2, hP, hD, hS, w6, w7⟩ (hT.up ?_) (rawk.rf.up (by rw [hta]; exact tkd_ne hka (by decide)))
  rw [hta, tye_3 hka]
  refine ⟨_, rfl, fun j hj => ?_⟩
  by_cases qj : j = i.toNatClampNeg
  · subst qj
    rw [va_up_self]
    exact Or.inr ⟨v, rfl, hv, htv.trans htp.symm⟩
  · rw [va_up_ne _ _ qj]
    exact hg j hj
/-- raw int arrays -/
theorem t_alenR (C : CallFix p m c cc nL s args gt own) (w : Wh D K b0 sa s H locs L f) {a n ti : Nat} {g : Nat → Int32} {ty : FieldType} (ha : a ∈ L) (hf : f a = .inl (K ti, n, .inl g)) (hty : (tyl K)[ti]? = some (K ti, ty)) {v : Int32} (hv : Int32.ofNat n = v) (hdg : decode cc pc = .ok (.arraylength, 1))
    (kk : W p l e R s m args below meth c H locs cells slots Q (F0 m (pc + 1) ls (.int v :: rest))) : W p l e R s m args below meth c H locs cells slots Q (F0 m pc ls (.ref a :: rest)) := by
  obtain ⟨hx, hb, hml, hown, hts⟩ := C
  obtain ⟨w1, w2, w3, w4, w5, w6, w7⟩ := w
  obtain ⟨k0, hk0⟩ := va_pl_get (X := []) (f := f) ha
  rw [hf] at hk0
  exact va_alen (ws := [] ++ va_pl L f) hx hb w2 w3 k0 ti hk0 hty hv hdg kk
theorem t_iastR (C : CallFix p m c cc nL s args gt own) (w : Wh D K b0 sa s H locs L f) (hT : TW K G Ψ L f) {a n : Nat} {g : Nat → Int32} (ha : a ∈ L) (h9 : Ψ a = 9) (hf : f a = .inl (K 0, n, .inl g)) {i x : Int32} (hin : vp_in i n) (hdg : decode cc pc = .ok (.iastore, 1))
    (kk : ∀ (f1 : Nat → va_E) (H1 : Heap) (locs1 : List Loc), Wh D K b0 sa s H1 locs1 L f1 → TW K G Ψ L f1 → f1 a = .inl (K 0, n, .inl (upd g i.toNatClampNeg x)) → (∀ b : Nat, b ≠ a → f1 b = f b) → W p l e R s m args below meth c H1 locs1 cells slots Q (F0 m (pc + 1) ls rest)) : W p l e R s m args below meth c H locs cells slots Q (F0 m pc ls (.int x :: .int i :: .ref a :: rest)) := by
  obtain ⟨hx, hb, hml, hown, hts⟩ := C
  obtain ⟨w1, w2, w3, w4, w5, w6, w7⟩ := w
  obtain ⟨k0, hk0⟩ := va_pl_get (X := []) (f := f) ha
  have hk1 : ([] ++ va_pl L f)[k0]? = some (a, .inl (K 0, n, .inl g)) := by rw [hk0, hf]
  refine va_iast (A := fun q => b0 ≤ q) (ws := [] ++ va_pl L f) hx hb w2 w3 w4 w5 k0 0 hk1 rfl hin hdg (fun H1 locs1 hP hD hS => ?_)
  rw [va_pl_set (X := []) w4 ha hk0] at hP hD
  exact kk _ H1 locs1 ⟨w1, w2, hP, hD, hS, w6, w7⟩ (hT.raw h9) (va_up_self _ _ _) (fun b hb => va_up_ne _ _ hb)
/-- System.arraycopy(a, 0, b, 0, 0) -/
theorem t_copy0 (C : CallFix p m c cc nL s args gt own) (w : Wh D K b0 sa s H locs L f) (hT : TW K G Ψ L f) {a b ta t : Nat} (ha : a ∈ L) (hta : Ψ a = ta) (hb : b ∈ L) (htb : Ψ b = t) (hka : tkd ta = 1) (htia : tti ta = 0) (hk : tkd t = 1) (hti : tti t = 0) {index : Nat} (hsz : ls.size = nL)
    (k1 : Cond.methodLink own index arraycopyName ∈ gt) (k2 : Cond.native arraycopyName ∈ gt) (k3 : Cond.static arraycopyName ∈ gt) (k4 : Cond.initialized "java/lang/System" ∈ gt)
    (hframes : 1 ≤ R.frames) (hlocals : (rest.map fun v => v.category).sum + (nativeFrameWords "java/lang/System" "arraycopy" 5 + 11) ≤ R.locals) (hdg : decode cc pc = .ok (.invokestatic index, 3))
    (kk : ∀ (f' : Nat → va_E) (H1 : Heap) (locs1 : List Loc), Wh D K b0 sa s H1 locs1 L f' → TW K G Ψ L f' → rawk Ψ L f f' → W p l e R s m args below meth c H1 locs1 cells slots Q (F0 m (pc + 3) ls rest)) : W p l e R s m args below meth c H locs cells slots Q (F0 m pc ls (.int 0 :: .int 0 :: .ref b :: .int 0 :: .ref a :: rest)) := by
  obtain ⟨hx, hbb, hml, hown, hts⟩ := C
  obtain ⟨w1, w2, w3, w4, w5, w6, w7⟩ := w
  have h := hT a ha
  rw [hta, tye_1 hka] at h
  obtain ⟨ga, ea, hga⟩ := h
  have h := hT b hb
  rw [htb, tye_1 hk] at h
  obtain ⟨gb, eb, hgb⟩ := h
  obtain ⟨ka, hka⟩ := va_pl_get (X := []) (f := f) ha
  obtain ⟨kb, hkb⟩ := va_pl_get (X := []) (f := f) hb
  have hka1 : ([] ++ va_pl L f)[ka]? = some (a, .inl (K 0, tln ta, .inl ga)) := by rw [hka, ea, htia]
  have hkb1 : ([] ++ va_pl L f)[kb]? = some (b, .inl (K 0, tln t, .inl gb)) := by rw [hkb, eb, hti]
  have z0 : (0 : Int32).toNatClampNeg = 0 := by decide
  refine va_copyi (A := fun q => b0 ≤ q) (ws := [] ++ va_pl L f) hx hbb (hml.trans hsz.symm) hown (hts _ k1) (hts _ k2) (hts _ k3) (hts _ k4) w2 w3 w4 w5 ka kb 0 0 hka1 hkb1 rfl rfl rfl (by decide) (by decide) (by decide) (by rw [z0]; omega) (by rw [z0]; omega) (fun i _ => rfl) hframes hlocals hdg (fun H1 locs1 hP hD hS => ?_)
  rw [va_pl_set (X := []) w4 hb hkb] at hP hD
  refine kk _ H1 locs1 ⟨w1, w2, hP, hD, hS, w6, w7⟩ (hT.up ?_) (rawk.rf.up (by rw [htb]; exact tkd_ne hk (by decide)))
  rw [htb, tye_1 hk]
  refine ⟨_, by rw [hti], fun j hj => ?_⟩
  rw [z0, pk_cpy_out (by omega)]
  exact hgb j hj
variable {y : MethodName} {bytes : ByteArray} {maxL n mc ms index : Nat} {rm : Room} {As : List Value} {post : Option Value → tU → Prop}
/-- the call of a constructor -/
theorem t_callI (C : CallFix p m c cc nL s args gt own) (w : Wh D K b0 sa s H locs L f) {b : Nat} (hM : Met l y (.code y bytes maxL none :: gt) rm (va_Pc (.ref b :: As) (hPre D K b0 sa H.size L f)) (hQ D K b0 post) mc ms (fun q => b0 ≤ q))
    (k1 : Cond.code y bytes maxL none ∈ gt) (k2 : Cond.methodLink own index y ∈ gt) (hyn : y.name = "<init>") (k3 : Cond.instanceMethod y ∈ gt) (k4 : Cond.initialized y.cls ∈ gt) (hd : plainY y n) (hrc : rm.cells = mc) (hrs : rm.slots = ms) (hR : rm.frames + 1 ≤ R.frames ∧ 8 + (maxL + 11) + rm.locals ≤ R.locals)
    (hn : As.length = n) (hsz : ls.size = nL) (hst : st0 = As.reverse ++ .ref b :: rest) (hW : (rest.map fun v => v.category).sum ≤ 8) (hdg : decode cc pc = .ok (.invokespecial index, 3)) (hf : cells + mc ≤ R.cells ∧ slots + ms ≤ R.slots)
    (kk : ∀ (v : Option Value) (u : tU) (H1 : Heap) (locs1 : List Loc), post v u → Wh D K b0 sa s H1 locs1 u.2.2.1 u.2.2.2 → W p l e R s m args below meth c H1 locs1 (cells + mc) (slots + ms) Q (F0 m (pc + 3) ls (v.toList ++ rest))) : W p l e R s m args below meth c H locs cells slots Q (F0 m pc ls st0) :=
  t_go w (va_runI (As := As) (rest := rest) C hM ⟨callB_of n C.2.2.2.2 (gt_in k1) rfl hrc hrs (C.2.2.2.2 _ k4) (C.2.2.2.2 _ k2) hd hR, hyn, C.2.2.2.2 _ k3⟩ ⟨hPre.blind, fun U hU hW => ⟨rfl, w.pre hU hW⟩⟩ rfl hn hsz hst (lv_room hW) hdg hf) kk
theorem t_callIN (C : CallFix p m c cc nL s args gt own) {host : String} (w : Wh D K b0 sa s H locs L f) {b : Nat} (hM : Met l y (.code y bytes maxL none :: gt) rm (va_Pc (.ref b :: As) (hPre D K b0 sa H.size L f)) (hQ D K b0 post) mc ms (fun q => b0 ≤ q))
    (k1 : Cond.code y bytes maxL none ∈ gt) (k2 : Cond.methodLinkNest own index y host ∈ nwl) (hyn : y.name = "<init>") (k3 : Cond.instanceMethod y ∈ gt) (k4 : Cond.initialized y.cls ∈ gt) (hd : plainY y n) (hrc : rm.cells = mc) (hrs : rm.slots = ms) (hR : rm.frames + 1 ≤ R.frames ∧ 8 + (maxL + 11) + rm.locals ≤ R.locals)
    (hn : As.length = n) (hsz : ls.size = nL) (hst : st0 = As.reverse ++ .ref b :: rest) (hW : (rest.map fun v => v.category).sum ≤ 8) (hdg : decode cc pc = .ok (.invokespecial index, 3)) (hf : cells + mc ≤ R.cells ∧ slots + ms ≤ R.slots)
    (kk : ∀ (v : Option Value) (u : tU) (H1 : Heap) (locs1 : List Loc), post v u → Wh D K b0 sa s H1 locs1 u.2.2.1 u.2.2.2 → W p l e R s m args below meth c H1 locs1 (cells + mc) (slots + ms) Q (F0 m (pc + 3) ls (v.toList ++ rest))) : W p l e R s m args below meth c H locs cells slots Q (F0 m pc ls st0) :=
  t_go w (va_runIN (As := As) (rest := rest) C hM ⟨va_cnB n C.2.2.2.2 (gt_in k1) rfl hrc hrs (w.2.2.2.2.2.1.1 _ k2) (C.2.2.2.2 _ k4) hd hR, hyn, C.2.2.2.2 _ k3⟩ ⟨hPre.blind, fun U hU hW => ⟨rfl, w.pre hU hW⟩⟩ rfl hn hsz hst (lv_room hW) hdg hf) kk
/-- Object's constructor -/
theorem t_obj0 (C : CallFix p m c cc nL s args gt own) (hsz : ls.size = nL) {a idx : Nat} (k1 : Cond.methodLink own idx Lib.objectInit ∈ gt) (k2 : Cond.instanceMethod Lib.objectInit ∈ gt) (k3 : Cond.code Lib.objectInit ⟨#[0xb1]⟩ 1 none ∈ gt) (hdg : decode cc pc = .ok (.invokespecial idx, 3)) (hframes : 1 ≤ R.frames) (hlocals : (rest.map fun v => v.category).sum + 12 ≤ R.locals)
    (kk : W p l e R s m args below meth c H locs cells slots Q (F0 m (pc + 3) ls rest)) : W p l e R s m args below meth c H locs cells slots Q (F0 m pc ls (.ref a :: rest)) := by
  obtain ⟨hx, hb, hml, hown, hts⟩ := C
  exact W.objInit hx hb hown (hts _ k1) (hts _ k2) (hts _ k3) rfl (hsz.trans hml.symm) rfl hdg hframes (by show 2 * 0 + _ + 12 ≤ _; omega) kk
end AL
