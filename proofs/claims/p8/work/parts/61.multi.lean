/-! new int[n][k], in one instruction -/
section MM
/-- the heap's state while the rows are made: i of them stand, behind the array of rows at h -/
def mmC (c5 : ClassId) (N h i : Nat) : Cell := arrV c5 N (fun j => if j < i then .ref (h + 1 + j) else .null)
def mmR (c0 : ClassId) (M : Nat) : Cell := arrV c0 M (fun _ => .int 0)
def mmS (c5 c0 : ClassId) (N M : Nat) (T : State) : Nat → State
  | 0 => T.pushCell (mmC c5 N T.heap.size 0)
  | i + 1 => ((mmS c5 c0 N M T i).pushCell (mmR c0 M)).setCell T.heap.size (mmC c5 N T.heap.size (i + 1))
variable {c5 c0 : ClassId} {N M : Nat}
theorem mmC_set (h i : Nat) : (mmC c5 N h i).setSlot i (.ref (h + 1 + i)) = mmC c5 N h (i + 1) := by
  unfold mmC
  rw [arrV_store]
  congr 1
  funext j
  unfold updV
  by_cases e : j = i
  · subst e
    rw [if_pos rfl, if_pos (by omega)]
  · rw [if_neg e]
    show (if j < i then Value.ref (h + 1 + j) else Value.null) = _
    by_cases q : j < i
    · rw [if_pos q, if_pos (by omega)]
    · rw [if_neg q, if_neg (by omega)]
theorem mmS_vm (T : State) : ∀ i : Nat, (mmS c5 c0 N M T i).vm = T.vm
  | 0 => rfl
  | i + 1 => mmS_vm T i
theorem mmS_size (T : State) : ∀ i : Nat, (mmS c5 c0 N M T i).heap.size = T.heap.size + 1 + i
  | 0 => by show (T.heap.push _).size = _; rw [Array.size_push]
  | i + 1 => by
    show (((mmS c5 c0 N M T i).heap.push _).setIfInBounds _ _).size = _
    rw [Array.size_setIfInBounds, Array.size_push, mmS_size T i]
    omega
theorem mmS_used (T : State) : ∀ i : Nat, (mmS c5 c0 N M T i).slotsUsed = T.slotsUsed + N + i * M
  | 0 => by show T.slotsUsed + (arrV _ _ _).slots.size = _; rw [arrV_size]; omega
  | i + 1 => by
    show (mmS c5 c0 N M T i).slotsUsed + (arrV _ _ _).slots.size = _
    rw [arrV_size, mmS_used T i, Nat.succ_mul]
    omega
theorem mmS_top (T : State) (fr : JFrame) : ∀ i : Nat, mmS c5 c0 N M (T.setTop fr) i = (mmS c5 c0 N M T i).setTop fr
  | 0 => rfl
  | i + 1 => by
    show ((mmS c5 c0 N M (T.setTop fr) i).pushCell _).setCell _ _ = _
    rw [mmS_top T fr i]
    rfl
theorem mmS_out (T : State) : ∀ i : Nat, (mmS c5 c0 N M T i).heap[T.heap.size]? = some (mmC c5 N T.heap.size i)
  | 0 => by show (T.heap.push _)[T.heap.size]? = _; exact Array.getElem?_push_size
  | i + 1 => by
    have h1 := mmS_size (c5 := c5) (c0 := c0) (N := N) (M := M) T i
    show (((mmS c5 c0 N M T i).heap.push _).setIfInBounds T.heap.size _)[T.heap.size]? = _
    rw [Array.getElem?_setIfInBounds_self_of_lt (by rw [Array.size_push]; omega)]
theorem mmS_old (T : State) {q : Nat} (hq : q < T.heap.size) : ∀ i : Nat, (mmS c5 c0 N M T i).heap[q]? = T.heap[q]?
  | 0 => by show (T.heap.push _)[q]? = _; rw [Array.getElem?_push, if_neg (Nat.ne_of_lt hq)]
  | i + 1 => by
    have h1 := mmS_size (c5 := c5) (c0 := c0) (N := N) (M := M) T i
    show (((mmS c5 c0 N M T i).heap.push _).setIfInBounds T.heap.size _)[q]? = _
    rw [Array.getElem?_setIfInBounds_ne (by omega), Array.getElem?_push, if_neg (by omega)]
    exact mmS_old T hq i
theorem mmS_row (T : State) : ∀ i j : Nat, j < i → (mmS c5 c0 N M T i).heap[T.heap.size + 1 + j]? = some (mmR c0 M)
  | 0, _, h => absurd h (Nat.not_lt_zero _)
  | i + 1, j, h => by
    have h1 := mmS_size (c5 := c5) (c0 := c0) (N := N) (M := M) T i
    show (((mmS c5 c0 N M T i).heap.push _).setIfInBounds T.heap.size _)[T.heap.size + 1 + j]? = _
    rw [Array.getElem?_setIfInBounds_ne (by omega), Array.getElem?_push]
    by_cases e : j = i
    · rw [if_pos (by omega)]
    · rw [if_neg (by omega)]
      exact mmS_row T i j (by omega)
variable {p : Program} {l : Launch} {e : Env} {R : Room} {s : State} {m : MethodId} {args : Array Value} {below : List Frame} {meth : Method} {c : Code} {H : Heap} {locs : List Loc} {cells slots : Nat} {Q : State → Prop}
theorem mmS_stand {T : State} (X : Stand p l e R s m args below meth c T locs cells slots) : ∀ i : Nat, ∃ locs1 : List Loc, (∀ z ∈ locs1, z ∈ locs ∨ z.base = T.heap.size) ∧ Stand p l e R s m args below meth c (mmS c5 c0 N M T i) locs1 (cells + 1 + i) (slots + N + i * M)
  | 0 => ⟨locs, fun z h => Or.inl h, by
    have h := X.pushed (mmC c5 N T.heap.size 0)
    have e1 : (mmC c5 N T.heap.size 0).slots.size = N := arrV_size _ _ _
    rw [e1] at h
    rw [Nat.zero_mul]
    exact h⟩
  | i + 1 => by
    obtain ⟨l1, h1, X1⟩ := mmS_stand X i
    have h := X1.pushed (mmR c0 M)
    have e1 : (mmR c0 M).slots.size = M := arrV_size _ _ _
    rw [e1] at h
    have hs := mmS_size (c5 := c5) (c0 := c0) (N := N) (M := M) T i
    have hc : ((mmS c5 c0 N M T i).pushCell (mmR c0 M)).heap[T.heap.size]? = some (mmC c5 N T.heap.size i) := by
      show ((mmS c5 c0 N M T i).heap.push _)[T.heap.size]? = _
      rw [Array.getElem?_push, if_neg (by omega)]
      exact mmS_out T i
    have h2 := h.stored hc i (.ref (T.heap.size + 1 + i))
    rw [mmC_set] at h2
    refine ⟨l1 ++ [⟨T.heap.size, i⟩], fun z hz => ?_, ?_⟩
    · rcases List.mem_append.mp hz with q | q
      · exact h1 z q
      · rw [List.mem_singleton.mp q]
        exact Or.inr rfl
    · have e3 : slots + N + (i + 1) * M = slots + N + i * M + M := by rw [Nat.succ_mul]; omega
      rw [e3]
      exact h2
section
variable {E : CtlPost} {d : Bool} {acts : List Action} {t : State}
/-- the instruction's own loop -/
theorem mm_make {k5 k0 : Class} {cc0 : ClassId} {n k : Int32} (h5 : t.vm.classes[c5]? = some k5) (h5k : k5.kind = .array c0 (.array .int)) (h0 : t.vm.classes[c0]? = some k0) (h0k : k0.kind = .array cc0 .int) (hn : ¬ n < 0) (hk : ¬ k < 0) (hN : n.toNatClampNeg = N) (hM : k.toNatClampNeg = M)
    (hl1 : ¬ N > e.platform.arrayLengthLimit) (hl2 : ¬ M > e.platform.arrayLengthLimit) (hh1 : ¬ N * 4 > e.platform.maxHeapBytes) (hh2 : ¬ M * 4 > e.platform.maxHeapBytes) (hc : t.heap.size + (1 + N) ≤ e.platform.maxCells) (hs : t.slotsUsed + (N + N * M) ≤ e.platform.maxSlots)
    {Q : Addr → Pre} (hq : ∀ (d' : Bool) (acts' : List Action), Q t.heap.size d' acts' (mmS c5 c0 N M t N)) : wp (Op.multianewarray.make c5 [n, k]) Q E e d acts t := by
  have hfind : ([k].find? (· < 0)) = none := by simp [hk]
  rw [Op.multianewarray.make]
  simp only [wp_bind', W.ite, hn, if_false, wp_pure', W.theClass, h5, h5k, Option.some.injEq, exists_eq_left', hN]
  refine W.newArray_of h5 h5k hl1 hh1 (by omega) (by have := Nat.zero_le (N * M); omega) rfl (fun acts1 => ?_)
  have e0 : t.pushCell ({ cls := c5, slots := Array.replicate N .null } : Cell) = mmS c5 c0 N M t 0 := by
    show t.pushCell _ = t.pushCell _
    congr 1
    exact (arrV_new c5 N .null).trans (by unfold mmC; congr 1)
  simp only [hfind]
  rw [ite_self, wp_bind', Std.Legacy.Range.forIn_eq_forIn_range', e0]
  have hsz : ([:N] : Std.Legacy.Range).size = N := by simp [Std.Legacy.Range.size]
  rw [hsz]
  show wp (forIn (List.range' 0 N 1) PUnit.unit _) _ E e d acts1 _
  refine wp_forIn_inv (fun rest s1 => ∃ i : Nat, i + rest.length = N ∧ rest = List.range' i rest.length ∧ s1 = mmS c5 c0 N M t i) _ _ ⟨0, by rw [List.length_range']; omega, by rw [List.length_range'], rfl⟩ ?_ ?_
  · rintro x rest s1 d1 acts1 Q1 ⟨i, hi, hl, rfl⟩ hnext
    rw [List.length_cons, List.range'_succ] at hl
    obtain ⟨rfl, hl2'⟩ := List.cons.inj hl
    rw [List.length_cons] at hi
    have z1 := mmS_size (c5 := c5) (c0 := c0) (N := N) (M := M) t x
    have z2 := mmS_used (c5 := c5) (c0 := c0) (N := N) (M := M) t x
    have z3 := mmS_vm (c5 := c5) (c0 := c0) (N := N) (M := M) t x
    have z4 := mmS_out (c5 := c5) (c0 := c0) (N := N) (M := M) t x
    have hmul : x * M + M ≤ N * M := by
      have := Nat.mul_le_mul_right M (show x + 1 ≤ N by omega)
      rw [Nat.succ_mul] at this
      exact this
    simp only [wp_bind']
    rw [Op.multianewarray.make]
    simp only [wp_bind', W.ite, hk, if_false, wp_pure', W.theClass, z3, h0, h0k, Option.some.injEq, exists_eq_left', hM]
    refine W.newArray_of (by rw [z3]; exact h0) h0k hl2 hh2 (by omega) (by omega) rfl (fun acts2 => ?_)
    have e1 : (mmS c5 c0 N M t x).pushCell ({ cls := c0, slots := Array.replicate M (defaultValue .int) } : Cell) = (mmS c5 c0 N M t x).pushCell (mmR c0 M) := by
      congr 1
      exact arrV_new c0 M _
    rw [e1]
    simp only [wp_bind', W.writeLoc, wp_pure']
    refine ⟨mmC c5 N t.heap.size x, ?_, by unfold mmC arrV; simp, ?_, ?_, hnext _ _ _ ⟨x + 1, by omega, hl2', ?_⟩⟩
    · show ((mmS c5 c0 N M t x).heap.push _)[t.heap.size]? = _
      rw [Array.getElem?_push, if_neg (by omega)]
      exact z4
    · unfold mmC; rw [arrV_size]; omega
    · have e2 : ((mmS c5 c0 N M t x).pushCell (mmR c0 M)).vm = t.vm := z3
      unfold mmC arrV
      simp [State.fitsSlot, State.slotType?, z3, e2, h5, h5k, fits]
    · rw [z1]
      show _ = ((mmS c5 c0 N M t x).pushCell _).setCell _ _
      rw [← mmC_set]
  · rintro s1 d1 acts1 ⟨i, hi, -, rfl⟩
    have : i = N := by simpa using hi
    subst this
    simp only [wp_pure']
    exact hq _ _
end
/-- the row -/
theorem mm_row {cc : ByteArray} {pc : Nat} {ls : Array Slot} {rest : List Value} (hexec : p.tables.exec = Jvm.exec) (hb : c.code = cc) {own : String} {index : Nat} (hown : s.vm.findClass own = some m.cls) (hlink : (Cond.classLink own index "[[I").before args s = true) {k5 k0 : Class} {cc0 : ClassId} (h5n : s.vm.findClass "[[I" = some c5)
    (h5 : s.vm.classes[c5]? = some k5) (h5k : k5.kind = .array c0 (.array .int)) (h0 : s.vm.classes[c0]? = some k0) (h0k : k0.kind = .array cc0 .int) {n k : Int32} (hn : ¬ n < 0) (hk : ¬ k < 0) (hN : n.toNatClampNeg = N) (hM : k.toNatClampNeg = M) (hb1 : N * 4 ≤ 536870912) (hb2 : M * 4 ≤ 536870912)
    (hc : cells + (1 + N) ≤ R.cells) (hs : slots + (N + N * M) ≤ R.slots) (hdg : decode cc pc = .ok (.multianewarray index 2, 4))
    (kk : ∀ (H1 : Heap) (locs1 : List Loc), H1.size = H.size + 1 + N → (∀ z ∈ locs1, z ∈ locs ∨ z.base = H.size) → H1[H.size]? = some (mmC c5 N H.size N) → (∀ j : Nat, j < N → H1[H.size + 1 + j]? = some (mmR c0 M)) → (∀ q : Nat, q < H.size → H1[q]? = H[q]?) →
      W p l e R s m args below meth c H1 locs1 (cells + 1 + N) (slots + N + N * M) Q (F0 m (pc + 4) ls (.ref H.size :: rest))) :
    W p l e R s m args below meth c H locs cells slots Q (F0 m pc ls (.int k :: .int n :: rest)) := by
  intro T hT X
  subst hb
  have hpl : e.platform.magicAccessors = ({} : Platform).magicAccessors := by rw [X.admits.platform]
  obtain ⟨cX, hfX, hcl⟩ := Cond.classLink_spec hown hlink e.platform hpl
  cases Option.some.inj (h5n.symm.trans hfX)
  obtain ⟨hg1, hw1, -⟩ := State.classEntry (e := e) X.warmed hcl
  generalize T.vm.noted m.cls index (.cls c5) = vm1 at hg1 hw1
  obtain ⟨k5', h5', he5⟩ := hw1.alike.2.2 _ _ h5
  obtain ⟨k0', h0', he0⟩ := hw1.alike.2.2 _ _ h0
  have X1 := X.noted hw1
  obtain ⟨hr1, hr2⟩ := X.roomAbove hc hs
  obtain ⟨locs1, hl1, X2⟩ := mmS_stand (c5 := c5) (c0 := c0) (N := N) (M := M) X1 N
  have hh : (T.setVm vm1).heap = H := hT
  obtain ⟨t, a1, b1⟩ := kk (mmS c5 c0 N M (T.setVm vm1) N).heap locs1 (by rw [mmS_size, hh]) (by rw [hh] at hl1; exact hl1) (by have := mmS_out (c5 := c5) (c0 := c0) (N := N) (M := M) (T.setVm vm1) N; rw [hh] at this; exact this) (fun j hj => by have := mmS_row (c5 := c5) (c0 := c0) (N := N) (M := M) (T.setVm vm1) N j hj; rw [hh] at this; exact this) (fun q hq => by have := mmS_old (c5 := c5) (c0 := c0) (N := N) (M := M) (T.setVm vm1) (q := q) (by rw [hh]; exact hq) N; rw [hh] at this; exact this) (mmS c5 c0 N M (T.setVm vm1) N) rfl X2
  refine ⟨t, ?_, b1⟩
  jvm_step X.here [hexec, hdg]
  simp only [Op.multianewarray.sem, wp_bind', W.resolveClassAt_links (State.method?_setTop (F0 m pc ls (.int k :: .int n :: rest)) X.here.top) hg1]
  rw [W.popN, if_neg (by decide)]
  refine ⟨F0 m pc ls (.int k :: .int n :: rest), State.topJava?_setTop' (s := T.setVm vm1) _ X.here.top, [.int n, .int k], rest, rfl, rfl, ?_⟩
  simp only [List.mapM_cons, List.mapM_nil, wp_bind', wp_pure']
  refine mm_make (k5 := k5') (k0 := k0') (cc0 := cc0) h5' (by rw [he5]; exact h5k) h0' (by rw [he0]; exact h0k) hn hk hN hM (by rw [Launch.admits_arrayLengthLimit X.admits]; omega) (by rw [Launch.admits_arrayLengthLimit X.admits]; omega) (by rw [Launch.admits_maxHeapBytes X.admits]; omega) (by rw [Launch.admits_maxHeapBytes X.admits]; omega) (by show T.heap.size + _ ≤ _; exact hr1) (by show T.slotsUsed + _ ≤ _; exact hr2) (fun d1 acts1 => ?_)
  have e1 : ((T.setTop (F0 m pc ls (.int k :: .int n :: rest))).setVm vm1).setTop (F0 m pc ls rest) = (T.setVm vm1).setTop (F0 m pc ls rest) := by
    show ((T.setVm vm1).setTop _).setTop _ = _
    rw [State.setTop_setTop]
  show wp _ _ _ _ _ _ (mmS c5 c0 N M (((T.setTop (F0 m pc ls (.int k :: .int n :: rest))).setVm vm1).setTop (F0 m pc ls rest)) N)
  rw [e1, mmS_top]
  simp only [wp_bind', W.mark, W.pushRef, State.topJava?_setTop' _ X2.here.top, Option.some.injEq, exists_eq_left', State.setTop_setTop, State.heap_setTop]
  intro acts
  simp [jvm, X2.here.top]
  have e5 : T.heap.size = H.size := by rw [hT]
  rw [← e5] at a1
  exact a1
end MM
section GR
variable {A : Nat → Prop} {L : List Nat} {f f1 : Nat → va_E}
theorem gr_at {k : Nat} {q : Nat × va_E} : (va_pl L f)[k]? = some q ↔ ∃ a : Nat, L[k]? = some a ∧ q = (a, f a) := by
  unfold va_pl
  rw [List.getElem?_map]
  cases h : L[k]? with
  | none => simp
  | some a => simp [eq_comm]
theorem gr_re (h : va_D A (va_pl L f)) : va_D A (va_pl L f1) := by
  refine ⟨fun i j p q hi hj hpq => ?_, fun k q hk => ?_⟩
  · obtain ⟨a, ha, rfl⟩ := gr_at.mp hi
    obtain ⟨b, hb, rfl⟩ := gr_at.mp hj
    exact h.1 i j (a, f a) (b, f b) (gr_at.mpr ⟨a, ha, rfl⟩) (gr_at.mpr ⟨b, hb, rfl⟩) hpq
  · obtain ⟨a, ha, rfl⟩ := gr_at.mp hk
    exact h.2 k (a, f a) (gr_at.mpr ⟨a, ha, rfl⟩)
theorem gr_one {a : Nat} (h : va_D A (va_pl L f)) (hlt : ∀ b : Nat, b ∈ L → b < a) (hA : A a) : va_D A (va_pl (L ++ [a]) f) := by
  have key : ∀ (k b : Nat), (L ++ [a])[k]? = some b → (L[k]? = some b ∧ b < a) ∨ (k = L.length ∧ b = a) := by
    intro k b hk
    by_cases hl : k < L.length
    · rw [List.getElem?_append_left hl] at hk
      exact Or.inl ⟨hk, hlt b (List.mem_of_getElem? hk)⟩
    · rw [List.getElem?_append_right (by omega)] at hk
      have hz : k - L.length < 1 := (List.getElem?_eq_some_iff.mp hk).1
      have e : k = L.length := by omega
      subst e
      rw [Nat.sub_self] at hk
      cases hk
      exact Or.inr ⟨rfl, rfl⟩
  refine ⟨fun i j p q hi hj hpq => ?_, fun k q hk => ?_⟩
  · obtain ⟨x, hx, rfl⟩ := gr_at.mp hi
    obtain ⟨y, hy, rfl⟩ := gr_at.mp hj
    have hxy : x = y := hpq
    rcases key i x hx with ⟨q1, q2⟩ | ⟨q1, q2⟩ <;> rcases key j y hy with ⟨r1, r2⟩ | ⟨r1, r2⟩
    · exact h.1 i j (x, f x) (y, f y) (gr_at.mpr ⟨x, q1, rfl⟩) (gr_at.mpr ⟨y, r1, rfl⟩) hpq
    · omega
    · omega
    · omega
  · obtain ⟨x, hx, rfl⟩ := gr_at.mp hk
    rcases key k x hx with ⟨q1, q2⟩ | ⟨q1, q2⟩
    · exact h.2 k (x, f x) (gr_at.mpr ⟨x, q1, rfl⟩)
    · show A x
      rw [q2]
      exact hA
def grL (L : List Nat) (h : Nat) : Nat → List Nat
  | 0 => L ++ [h]
  | j + 1 => grL L h j ++ [h + 1 + j]
theorem gr_mem {h b : Nat} : ∀ {j : Nat}, b ∈ grL L h j ↔ b ∈ L ∨ (h ≤ b ∧ b < h + 1 + j)
  | 0 => by
    show b ∈ L ++ [h] ↔ _
    rw [List.mem_append, List.mem_singleton]
    constructor
    · rintro (q | q)
      · exact Or.inl q
      · exact Or.inr (by omega)
    · rintro (q | q)
      · exact Or.inl q
      · exact Or.inr (by omega)
  | j + 1 => by
    show b ∈ grL L h j ++ [h + 1 + j] ↔ _
    rw [List.mem_append, List.mem_singleton, gr_mem (j := j)]
    constructor
    · rintro ((q | q) | q)
      · exact Or.inl q
      · exact Or.inr (by omega)
      · exact Or.inr (by omega)
    · rintro (q | q)
      · exact Or.inl (Or.inl q)
      · by_cases e : b = h + 1 + j
        · exact Or.inr e
        · exact Or.inl (Or.inr (by omega))
theorem gr_D {h : Nat} (hD : va_D A (va_pl L f)) (hlt : ∀ b : Nat, b ∈ L → b < h) (hA : ∀ q : Nat, h ≤ q → A q) : ∀ j : Nat, va_D A (va_pl (grL L h j) f)
  | 0 => gr_one hD hlt (hA h (Nat.le_refl _))
  | j + 1 => gr_one (gr_D hD hlt hA j) (fun b hb => by rcases gr_mem.mp hb with q | q; · have := hlt b q; omega
                                                       · omega) (hA _ (by omega))
def grF {α : Type} (f : Nat → α) (h : Nat) (eo er : α) : Nat → α := fun a => if a < h then f a else if a = h then eo else er
theorem grF_lt {α : Type} {f : Nat → α} {h : Nat} {eo er : α} {a : Nat} (q : a < h) : grF f h eo er a = f a := by unfold grF; rw [if_pos q]
theorem grF_h {α : Type} {f : Nat → α} {h : Nat} {eo er : α} : grF f h eo er h = eo := by unfold grF; rw [if_neg (Nat.lt_irrefl _), if_pos rfl]
theorem grF_gt {α : Type} {f : Nat → α} {h : Nat} {eo er : α} {a : Nat} (q : h < a) : grF f h eo er a = er := by unfold grF; rw [if_neg (by omega), if_neg (by omega)]
theorem arrV_ext {c : ClassId} {N : Nat} {g g2 : Nat → Value} (h : ∀ j : Nat, j < N → g j = g2 j) : arrV c N g = arrV c N g2 := by
  unfold arrV
  congr 1
  congr 1
  funext j
  exact h j.1 j.2
end GR
section GM
variable {p : Program} {l : Launch} {e : Env} {R : Room} {s : State} {m : MethodId} {args : Array Value} {below : List Frame} {meth : Method} {c : Code} {H : Heap} {locs : List Loc} {cells slots : Nat} {Q : State → Prop}
variable {cc : ByteArray} {pc nL : Nat} {ls : Array Slot} {rest : List Value} {D : va_G} {K : Nat → ClassId} {b0 : Nat} {sa : sT} {L : List Nat} {f : Nat → va_E} {own : String}
theorem g_multi (C : CallFix p m c cc nL s args gt own) (w : Wh D K b0 sa s H locs L f) {N M : Nat} {index : Nat} (k1 : Cond.classLink own index "[[I" ∈ gt)
    {n k : Int32} (hn : ¬ n < 0) (hk : ¬ k < 0) (hN : n.toNatClampNeg = N) (hM : k.toNatClampNeg = M) (hb1 : N * 4 ≤ 536870912) (hb2 : M * 4 ≤ 536870912) (hc : cells + (1 + N) ≤ R.cells) (hs : slots + (N + N * M) ≤ R.slots) (hdg : decode cc pc = .ok (.multianewarray index 2, 4))
    (kk : ∀ (h : Nat) (H1 : Heap) (locs1 : List Loc), (∀ b : Nat, b ∈ L → b < h) → Wh D K b0 sa s H1 locs1 (grL L h N) (grF f h (.inl (K 5, N, .inr (.inr (.inr (.inr (fun j => if j < N then some (h + 1 + j) else none)))))) (.inl (K 0, M, .inl (fun _ => 0)))) → W p l e R s m args below meth c H1 locs1 (cells + 1 + N) (slots + N + N * M) Q (F0 m (pc + 4) ls (.ref h :: rest))) :
    W p l e R s m args below meth c H locs cells slots Q (F0 m pc ls (.int k :: .int n :: rest)) := by
  obtain ⟨hx, hb, hml, hown, hts⟩ := C
  obtain ⟨w1, w2, w3, w4, w5, w6, w7⟩ := w
  obtain ⟨c0, c5, kA, a1, a2, a3, a4⟩ := w6.2.2.2.1.2.1
  have n0 : s.vm.findClass "[I" = some (K 0) := va_nm_int (w2.2 0 _ rfl).2
  have n5 : s.vm.findClass "[[I" = some (K 5) := (w2.2 5 _ rfl).2
  cases Option.some.inj (a1.symm.trans n0)
  cases Option.some.inj (a2.symm.trans n5)
  obtain ⟨-, k0, hk0, cc0, hkk0⟩ := (w2.2 0 _ rfl).1 0 (fun _ => .null)
  refine mm_row (c5 := K 5) (c0 := K 0) (N := N) (M := M) hx hb hown (hts _ k1) n5 a3 a4 hk0 hkk0 hn hk hN hM hb1 hb2 hc hs hdg (fun H1 locs1 hsz hlc hout hrow hold => ?_)
  have hlt : ∀ b : Nat, b ∈ L → b < H.size := fun b hb => va_pl_lt (X := []) w3 hb
  generalize hh : H.size = h at *
  refine kk h H1 locs1 hlt ⟨w1, w2, fun k9 q hq => ?_, gr_D (gr_re w4) hlt (fun q hq => Nat.le_trans w1 (Nat.le_trans (by rw [← hh]; exact w5.1) hq)) N, ⟨by rw [hsz]; have := w5.1; omega, fun q h1 h2 => (hold q (by have := w5.1; omega)).trans (w5.2.1 q h1 h2), fun z hz => (hlc z hz).elim (w5.2.2 z) (fun e9 => by rw [e9]; have := w5.1; omega)⟩, w6, w7⟩
  obtain ⟨a, ha, rfl⟩ := gr_at.mp hq
  rcases gr_mem.mp (List.mem_of_getElem? ha) with h1 | ⟨h1, h2⟩
  · obtain ⟨k', hk'⟩ := va_pl_get (X := []) (f := f) h1
    rw [grF_lt (hlt a h1)]
    exact (w3 k' _ hk').kept (hold a (hlt a h1))
  · by_cases e9 : a = h
    · subst e9
      rw [grF_h]
      show H1[a]? = some (vp_cell _ _)
      rw [hout, vp_cell_q]
      congr 1
      exact arrV_ext (fun j hj => by rw [if_pos hj, if_pos hj]; rfl)
    · rw [grF_gt (by omega)]
      obtain ⟨j, rfl⟩ : ∃ j : Nat, a = h + 1 + j := ⟨a - (h + 1), by omega⟩
      exact hrow j (by omega)
end GM
/-! an array of rows becomes blocks: (a, 0), and (a + 1, j) below N -/
def ag (ad : Nat → Nat → Nat) (a N h : Nat) : Nat → Nat → Nat := fun b c => if b = a + 1 ∧ c < N then h + 1 + c else if b = a ∧ c = 0 then h else ad b c
def Pg (P : Nat → Nat → Prop) (a N : Nat) : Nat → Nat → Prop := fun b c => P b c ∨ (b = a ∧ c = 0) ∨ (b = a + 1 ∧ c < N)
theorem ag_r {ad : Nat → Nat → Nat} {a N h c : Nat} (hc : c < N) : ag ad a N h (a + 1) c = h + 1 + c := if_pos ⟨rfl, hc⟩
theorem ag_o {ad : Nat → Nat → Nat} {a N h : Nat} : ag ad a N h a 0 = h := by
  unfold ag
  rw [if_neg (by omega), if_pos ⟨rfl, rfl⟩]
theorem ag_ne {ad : Nat → Nat → Nat} {a N h b c : Nat} (h1 : ¬ (b = a + 1 ∧ c < N)) (h2 : ¬ (b = a ∧ c = 0)) : ag ad a N h b c = ad b c := by
  unfold ag
  rw [if_neg h1, if_neg h2]
section BG
variable {K : Nat → ClassId} {S : fS} {X : Nat → Prop} {P0 P : Nat → Nat → Prop} {ad0 ad : Nat → Nat → Nat} {L0 L : List Nat} {f0 f : Nat → va_E} {x t : Nat} {fs : List Value}
theorem Bd.grid (hB : Bd K S X P0 ad0 L0 f0 P ad L f x t fs) {a N h : Nat} {eo er : va_E} (hn1 : ¬ P a 0) (hn2 : ∀ j : Nat, ¬ P (a + 1) j) (hlt : ∀ b : Nat, b ∈ L → b < h) (ho : eo = cellOf K (ag ad a N h) S a 0) (hr : ∀ j : Nat, j < N → er = cellOf K (ag ad a N h) S (a + 1) j) (hk1 : ∀ b c : Nat, Rf S a 0 b c → b = a + 1 ∧ c < N) (hk2 : ∀ j b c : Nat, ¬ Rf S (a + 1) j b c) : Bd K S X P0 ad0 L0 f0 (Pg P a N) (ag ad a N h) (grL L h N) (grF f h eo er) x t fs := by
  obtain ⟨h1, h2, h3, h4, h5, h6, h7⟩ := hB
  have hag : ∀ b c : Nat, P b c → ag ad a N h b c = ad b c := fun b c hp => ag_ne (fun e => hn2 c (by rw [← e.1]; exact hp)) (fun e => hn1 (by rw [← e.1, ← e.2]; exact hp))
  refine ⟨⟨fun b c hp => ?_, fun b1 c1 b2 c2 p1 p2 e => ?_⟩, fun b1 c1 b2 c2 hp hr1 => ?_, ⟨fun b c hp => ⟨Or.inl (h3.1 b c hp).1, (hag b c (h3.1 b c hp).1).trans (h3.1 b c hp).2⟩, fun b hb => ⟨gr_mem.mpr (Or.inl (h3.2 b hb).1), fun hf hX => ⟨(grF_lt (hlt b (h3.2 b hb).1)).trans ((h3.2 b hb).2 hf hX).1, fun b1 c1 hp => ?_⟩⟩⟩, gr_mem.mpr (Or.inl h4), by rw [grF_lt (hlt x h4)]; exact h5, fun b1 c1 hp => ?_, h7⟩
  · rcases hp with hp | ⟨e1, e2⟩ | ⟨e1, e2⟩
    · rw [hag b c hp, grF_lt (hlt _ (h1.1 b c hp).1), cell_ext (fun b' c' z => hag b' c' (h2 b c b' c' hp z))]
      exact ⟨gr_mem.mpr (Or.inl (h1.1 b c hp).1), (h1.1 b c hp).2⟩
    · subst e1
      subst e2
      rw [ag_o, grF_h]
      exact ⟨gr_mem.mpr (Or.inr ⟨Nat.le_refl _, by omega⟩), ho⟩
    · subst e1
      rw [ag_r e2, grF_gt (by omega)]
      exact ⟨gr_mem.mpr (Or.inr ⟨by omega, by omega⟩), hr c e2⟩
  · have key : ∀ b c : Nat, Pg P a N b c → (P b c ∧ ag ad a N h b c < h) ∨ (b = a ∧ c = 0 ∧ ag ad a N h b c = h) ∨ (b = a + 1 ∧ c < N ∧ ag ad a N h b c = h + 1 + c) := by
      intro b c hp
      rcases hp with hp | ⟨e1, e2⟩ | ⟨e1, e2⟩
      · refine Or.inl ⟨hp, ?_⟩
        rw [hag b c hp]
        exact hlt _ (h1.1 b c hp).1
      · refine Or.inr (Or.inl ⟨e1, e2, ?_⟩)
        rw [e1, e2]
        exact ag_o
      · refine Or.inr (Or.inr ⟨e1, e2, ?_⟩)
        rw [e1]
        exact ag_r e2
    rcases key b1 c1 p1 with ⟨k1, k2⟩ | ⟨k1, k2, k3⟩ | ⟨k1, k2, k3⟩ <;> rcases key b2 c2 p2 with ⟨g1, g2⟩ | ⟨g1, g2, g3⟩ | ⟨g1, g2, g3⟩
    · rw [hag _ _ k1, hag _ _ g1] at e
      exact h1.2 _ _ _ _ k1 g1 e
    all_goals omega
  · rcases hp with hp | ⟨e1, e2⟩ | ⟨e1, e2⟩
    · exact Or.inl (h2 b1 c1 b2 c2 hp hr1)
    · rw [e1, e2] at hr1
      exact Or.inr (Or.inr (hk1 b2 c2 hr1))
    · rw [e1] at hr1
      exact absurd hr1 (hk2 c1 b2 c2)
  · have hbh := hlt b (h3.2 b hb).1
    rcases hp with hp | ⟨e1, e2⟩ | ⟨e1, e2⟩
    · rw [hag b1 c1 hp]
      exact ((h3.2 b hb).2 hf hX).2 b1 c1 hp
    · rw [e1, e2, ag_o]
      omega
    · rw [e1, ag_r e2]
      omega
  · have hbh := hlt x h4
    rcases hp with hp | ⟨e1, e2⟩ | ⟨e1, e2⟩
    · rw [hag b1 c1 hp]
      exact h6 b1 c1 hp
    · rw [e1, e2, ag_o]
      omega
    · rw [e1, ag_r e2]
      omega
theorem Pu_ifm {l : List Nat} {c : Nat} (hc : (fam c).2.2.2 = 1) (h : ∀ a k : Nat, P a k ↔ P0 a k ∨ (a ∈ l ∧ k < (fam a).2.2.2)) : ∀ a k : Nat, Pu P c 0 a k ↔ P0 a k ∨ (a ∈ c :: l ∧ k < (fam a).2.2.2) := by
  intro a k
  unfold Pu
  rw [h a k, List.mem_cons]
  constructor
  · rintro ((q | ⟨q, q2⟩) | ⟨q, q2⟩)
    · exact Or.inl q
    · exact Or.inr ⟨Or.inr q, q2⟩
    · exact Or.inr ⟨Or.inl q, by rw [q, hc, q2]; decide⟩
  · rintro (q | ⟨q | q, q2⟩)
    · exact Or.inl (Or.inl q)
    · exact Or.inr ⟨q, by rw [q, hc] at q2; omega⟩
    · exact Or.inl (Or.inr ⟨q, q2⟩)
theorem Pg_ifm {l : List Nat} {c N : Nat} (hc : (fam c).2.2.2 = 1) (hN : (fam (c + 1)).2.2.2 = N) (h : ∀ a k : Nat, P a k ↔ P0 a k ∨ (a ∈ l ∧ k < (fam a).2.2.2)) : ∀ a k : Nat, Pg P c N a k ↔ P0 a k ∨ (a ∈ (c + 1) :: c :: l ∧ k < (fam a).2.2.2) := by
  intro a k
  unfold Pg
  rw [h a k, List.mem_cons, List.mem_cons]
  constructor
  · rintro ((q | ⟨q, q2⟩) | ⟨q, q2⟩ | ⟨q, q2⟩)
    · exact Or.inl q
    · exact Or.inr ⟨Or.inr (Or.inr q), q2⟩
    · exact Or.inr ⟨Or.inr (Or.inl q), by rw [q, hc, q2]; decide⟩
    · exact Or.inr ⟨Or.inl q, by rw [q, hN]; exact q2⟩
  · rintro (q | ⟨q | q | q, q2⟩)
    · exact Or.inl (Or.inl q)
    · exact Or.inr (Or.inr ⟨q, by rw [q, hN] at q2; exact q2⟩)
    · exact Or.inr (Or.inl ⟨q, by rw [q, hc] at q2; omega⟩)
    · exact Or.inl (Or.inr ⟨q, q2⟩)
end BG
