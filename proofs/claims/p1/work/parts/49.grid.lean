/-! new int[n][k] in the typed pool -/
section GR
variable {A : Nat → Prop} {L : List Nat} {f f1 : Nat → va_E}
theorem gr_at {k : Nat} {q : Nat × va_E} : (va_pl L f)[k]? = some q ↔ ∃ a : Nat, L[k]? = some a ∧ q = (a, f a) := by
  unfold va_pl
  rw [List.getElem?_map]
  cases h : L[k]? with
  | none => simp
  | some a => simp [eq_comm]
theorem gr_re (h : va_D A (va_pl L f)) : va_D A (va_pl L f1) := by
  refine ⟨fun i j p q hi hj hpq => ?_, fun k q hk => ?_⟩
  · obtain ⟨a, ha, rfl⟩ := gr_at.mp hi
    obtain ⟨b, hb, rfl⟩ := gr_at.mp hj
    exact h.1 i j (a, f a) (b, f b) (gr_at.mpr ⟨a, ha, rfl⟩) (gr_at.mpr ⟨b, hb, rfl⟩) hpq
  · obtain ⟨a, ha, rfl⟩ := gr_at.mp hk
    exact h.2 k (a, f a) (gr_at.mpr ⟨a, ha, rfl⟩)
theorem gr_one {a : Nat} (h : va_D A (va_pl L f)) (hlt : ∀ b : Nat, b ∈ L → b < a) (hA : A a) : va_D A (va_pl (L ++ [a]) f) := by
  have key : ∀ (k b : Nat), (L ++ [a])[k]? = some b → (L[k]? = some b ∧ b < a) ∨ (k = L.length ∧ b = a) := by
    intro k b hk
    by_cases hl : k < L.length
    · rw [List.getElem?_append_left hl] at hk
      exact Or.inl ⟨hk, hlt b (List.mem_of_getElem? hk)⟩
    · rw [List.getElem?_append_right (by omega)] at hk
      have hz : k - L.length < 1 := (List.getElem?_eq_some_iff.mp hk).1
      have e : k = L.length := by omega
      subst e
      rw [Nat.sub_self] at hk
      cases hk
      exact Or.inr ⟨rfl, rfl⟩
  refine ⟨fun i j p q hi hj hpq => ?_, fun k q hk => ?_⟩
  · obtain ⟨x, hx, rfl⟩ := gr_at.mp hi
    obtain ⟨y, hy, rfl⟩ := gr_at.mp hj
    have hxy : x = y := hpq
    rcases key i x hx with ⟨q1, q2⟩ | ⟨q1, q2⟩ <;> rcases key j y hy with ⟨r1, r2⟩ | ⟨r1, r2⟩
    · exact h.1 i j (x, f x) (y, f y) (gr_at.mpr ⟨x, q1, rfl⟩) (gr_at.mpr ⟨y, r1, rfl⟩) hpq
    · omega
    · omega
    · omega
  · obtain ⟨x, hx, rfl⟩ := gr_at.mp hk
    rcases key k x hx with ⟨q1, q2⟩ | ⟨q1, q2⟩
    · exact h.2 k (x, f x) (gr_at.mpr ⟨x, q1, rfl⟩)
    · show A x
      rw [q2]
      exact hA
def grL (L : List Nat) (h : Nat) : Nat → List Nat
  | 0 => L ++ [h]
  | j + 1 => grL L h j ++ [h + 1 + j]
theorem gr_mem {h b : Nat} : ∀ {j : Nat}, b ∈ grL L h j ↔ b ∈ L ∨ (h ≤ b ∧ b < h + 1 + j)
  | 0 => by
    show b ∈ L ++ [h] ↔ _
    rw [List.mem_append, List.mem_singleton]
    constructor
    · rintro (q | q)
      · exact Or.inl q
      · exact Or.inr (by omega)
    · rintro (q | q)
      · exact Or.inl q
      · exact Or.inr (by omega)
  | j + 1 => by
    show b ∈ grL L h j ++ [h + 1 + j] ↔ _
    rw [List.mem_append, List.mem_singleton, gr_mem (j := j)]
    constructor
    · rintro ((q | q) | q)
      · exact Or.inl q
      · exact Or.inr (by omega)
      · exact Or.inr (by omega)
    · rintro (q | q)
      · exact Or.inl (Or.inl q)
      · by_cases e : b = h + 1 + j
        · exact Or.inr e
        · exact Or.inl (Or.inr (by omega))
theorem gr_D {h : Nat} (hD : va_D A (va_pl L f)) (hlt : ∀ b : Nat, b ∈ L → b < h) (hA : ∀ q : Nat, h ≤ q → A q) : ∀ j : Nat, va_D A (va_pl (grL L h j) f)
  | 0 => gr_one hD hlt (hA h (Nat.le_refl _))
  | j + 1 => gr_one (gr_D hD hlt hA j) (fun b hb => by rcases gr_mem.mp hb with q | q; · have := hlt b q; omega
                                                       · omega) (hA _ (by omega))
def grF {α : Type} (f : Nat → α) (h : Nat) (eo er : α) : Nat → α := fun a => if a < h then f a else if a = h then eo else er
theorem grF_lt {α : Type} {f : Nat → α} {h : Nat} {eo er : α} {a : Nat} (q : a < h) : grF f h eo er a = f a := by unfold grF; rw [if_pos q]
theorem grF_h {α : Type} {f : Nat → α} {h : Nat} {eo er : α} : grF f h eo er h = eo := by unfold grF; rw [if_neg (Nat.lt_irrefl _), if_pos rfl]
theorem grF_gt {α : Type} {f : Nat → α} {h : Nat} {eo er : α} {a : Nat} (q : h < a) : grF f h eo er a = er := by unfold grF; rw [if_neg (by omega), if_neg (by omega)]
theorem arrV_ext {c : ClassId} {N : Nat} {g g2 : Nat → Value} (h : ∀ j : Nat, j < N → g j = g2 j) : arrV c N g = arrV c N g2 := by
  unfold arrV
  congr 1
  congr 1
  funext j
  exact h j.1 j.2
end GR
section GM
variable {p : Program} {l : Launch} {e : Env} {R : Room} {s : State} {m : MethodId} {args : Array Value} {below : List Frame} {meth : Method} {c : Code} {H : Heap} {locs : List Loc} {cells slots : Nat} {Q : State → Prop}
variable {cc : ByteArray} {pc nL : Nat} {ls : Array Slot} {rest : List Value} {D : va_G} {K : Nat → ClassId} {b0 : Nat} {sa : Nat × Nat × Nat} {L L0 : List Nat} {f f0 : Nat → va_E} {G : tG} {Ψ Ψ0 : Nat → Nat} {own : String} {T : List Nat} {X : Nat → Prop}
theorem t_multi (C : CallFix p m c cc nL s args gt own) (w : Wh D K b0 sa s H locs L f) (hT : TW K G Ψ L f) (hE : Ex T X Ψ0 L0 f0 Ψ L f) {t t2 N M : Nat} (ht : t ∈ T) (ht2 : t2 ∈ T) (hkt : tkd t = 2) (hti : tti t = 5) (hln : tln t = N) (hpr : tpr t = t2) (hk2 : tkd t2 = 1) (hti2 : tti t2 = 0) (hln2 : tln t2 = M) (hG : ∀ i : Nat, G (100 * t2) i 0) {index : Nat} (k1 : Cond.classLink own index "[[I" ∈ gt) (hao : aoI s)
    {n k : Int32} (hn : ¬ n < 0) (hk : ¬ k < 0) (hN : n.toNatClampNeg = N) (hM : k.toNatClampNeg = M) (hb1 : N * 4 ≤ 536870912) (hb2 : M * 4 ≤ 536870912) (hc : cells + (1 + N) ≤ R.cells) (hs : slots + (N + N * M) ≤ R.slots) (hdg : decode cc pc = .ok (.multianewarray index 2, 4))
    (kk : ∀ (q : Nat) (Ψ1 : Nat → Nat) (L1 : List Nat) (f1 : Nat → va_E) (H1 : Heap) (locs1 : List Loc), Wh D K b0 sa s H1 locs1 L1 f1 → TW K G Ψ1 L1 f1 → Ex T X Ψ0 L0 f0 Ψ1 L1 f1 → Sp Ψ L f Ψ1 L1 f1 → q ∈ L1 → Ψ1 q = t → (∀ b : Nat, b ∈ L1 → b ∈ L ∨ Ψ1 b = t ∨ Ψ1 b = t2) → W p l e R s m args below meth c H1 locs1 (cells + 1 + N) (slots + N + N * M) Q (F0 m (pc + 4) ls (.ref q :: rest))) :
    W p l e R s m args below meth c H locs cells slots Q (F0 m pc ls (.int k :: .int n :: rest)) := by
  obtain ⟨hx, hb, hml, hown, hts⟩ := C
  obtain ⟨w1, w2, w3, w4, w5, w6, w7⟩ := w
  obtain ⟨c0, c5, kA, a1, a2, a3, a4⟩ := hao
  have n0 : s.vm.findClass "[I" = some (K 0) := va_nm_int (w2.2 0 _ rfl).2
  have n5 : s.vm.findClass "[[I" = some (K 5) := (w2.2 5 _ rfl).2
  cases Option.some.inj (a1.symm.trans n0)
  cases Option.some.inj (a2.symm.trans n5)
  obtain ⟨-, k0, hk0, cc0, hkk0⟩ := (w2.2 0 _ rfl).1 0 (fun _ => .null)
  refine mm_row (c5 := K 5) (c0 := K 0) (N := N) (M := M) hx hb hown (hts _ k1) n5 a3 a4 hk0 hkk0 hn hk hN hM hb1 hb2 hc hs hdg (fun H1 locs1 hsz hlc hout hrow hold => ?_)
  have hlt : ∀ b : Nat, b ∈ L → b < H.size := fun b hb => va_pl_lt (X := []) w3 hb
  generalize hh : H.size = h at *
  refine kk h (grF Ψ h t t2) (grL L h N) (grF f h (.inl (K 5, N, .inr (.inr (.inr (.inr (fun j => some (h + 1 + j))))))) (.inl (K 0, M, .inl (fun _ => 0)))) H1 locs1 ⟨w1, w2, fun k9 q hq => ?_, gr_D (gr_re w4) hlt (fun q hq => Nat.le_trans w1 (Nat.le_trans (by rw [← hh]; exact w5.1) hq)) N, ⟨by rw [hsz]; have := w5.1; omega, fun q h1 h2 => (hold q (by have := w5.1; omega)).trans (w5.2.1 q h1 h2), fun z hz => (hlc z hz).elim (w5.2.2 z) (fun e9 => by rw [e9]; have := w5.1; omega)⟩, w6, w7⟩ (fun b hb => ?_) ⟨fun b hb => ?_, fun b hb => ?_⟩ (fun b hb => ?_) (gr_mem.mpr (Or.inr ⟨Nat.le_refl _, by omega⟩)) grF_h (fun b hb => ?_)
  · obtain ⟨a, ha, rfl⟩ := gr_at.mp hq
    rcases gr_mem.mp (List.mem_of_getElem? ha) with h1 | ⟨h1, h2⟩
    · obtain ⟨k', hk'⟩ := va_pl_get (X := []) (f := f) h1
      rw [grF_lt (hlt a h1)]
      exact (w3 k' _ hk').kept (hold a (hlt a h1))
    · by_cases e9 : a = h
      · subst e9
        rw [grF_h]
        show H1[a]? = some (vp_cell _ _)
        rw [hout, vp_cell_q]
        congr 1
        exact arrV_ext (fun j hj => by rw [if_pos hj]; rfl)
      · rw [grF_gt (by omega)]
        obtain ⟨j, rfl⟩ : ∃ j : Nat, a = h + 1 + j := ⟨a - (h + 1), by omega⟩
        exact hrow j (by omega)
  · rcases gr_mem.mp hb with h1 | ⟨h1, h2⟩
    · rw [grF_lt (hlt b h1), grF_lt (hlt b h1)]
      exact (hT b h1).ext (fun a ha => ⟨gr_mem.mpr (Or.inl ha), fun _ => grF_lt (hlt a ha)⟩)
    · by_cases e9 : b = h
      · subst e9
        rw [grF_h, grF_h]
        exact t_tyq hkt rfl (by rw [hti]) hln hpr (fun i hi => ⟨b + 1 + i, rfl, gr_mem.mpr (Or.inr ⟨by omega, by omega⟩), grF_gt (by omega)⟩)
      · rw [grF_gt (by omega), grF_gt (by omega)]
        exact t_tya (v := 0) hk2 rfl (by rw [hti2]) hln2 (fun i _ => rfl) hG
  · have q := hE.1 b hb
    refine ⟨gr_mem.mpr (Or.inl q.1), fun hx9 => ?_⟩
    rw [grF_lt (hlt b q.1), grF_lt (hlt b q.1)]
    exact q.2 hx9
  · rcases gr_mem.mp hb with h1 | ⟨h1, h2⟩
    · rw [grF_lt (hlt b h1)]
      exact hE.2 b h1
    · by_cases e9 : b = h
      · subst e9
        rw [grF_h]
        exact Or.inr ht
      · rw [grF_gt (by omega)]
        exact Or.inr ht2
  · exact ⟨gr_mem.mpr (Or.inl hb), grF_lt (hlt b hb), fun _ => grF_lt (hlt b hb)⟩
  · rcases gr_mem.mp hb with h1 | ⟨h1, h2⟩
    · exact Or.inl h1
    · by_cases e9 : b = h
      · subst e9
        exact Or.inr (Or.inl grF_h)
      · exact Or.inr (Or.inr (grF_gt (by omega)))
end GM
