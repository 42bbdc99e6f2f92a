/-! new int[n][k], in one instruction -/
section MM
/-- the heap's state while the rows are made: i of them stand, behind the array of rows at h -/
def mmC (c5 : ClassId) (N h i : Nat) : Cell := arrV c5 N (fun j => if j < i then .ref (h + 1 + j) else .null)
def mmR (c0 : ClassId) (M : Nat) : Cell := arrV c0 M (fun _ => .int 0)
def mmS (c5 c0 : ClassId) (N M : Nat) (T : State) : Nat → State
  | 0 => T.pushCell (mmC c5 N T.heap.size 0)
  | i + 1 => ((mmS c5 c0 N M T i).pushCell (mmR c0 M)).setCell T.heap.size (mmC c5 N T.heap.size (i + 1))
variable {c5 c0 : ClassId} {N M : Nat}
theorem mmC_set (h i : Nat) : (mmC c5 N h i).setSlot i (.ref (h + 1 + i)) = mmC c5 N h (i + 1) := by
  unfold mmC
  rw [arrV_store]
  congr 1
  funext j
  unfold updV
  by_cases e : j = i
  · subst e
    rw [if_pos rfl, if_pos (by omega)]
  · rw [if_neg e]
    show (if j < i then Value.ref (h + 1 + j) else Value.null) = _
    by_cases q : j < i
    · rw [if_pos q, if_pos (by omega)]
    · rw [if_neg q, if_neg (by omega)]
theorem mmS_vm (T : State) : ∀ i : Nat, (mmS c5 c0 N M T i).vm = T.vm
  | 0 => rfl
  | i + 1 => mmS_vm T i
theorem mmS_size (T : State) : ∀ i : Nat, (mmS c5 c0 N M T i).heap.size = T.heap.size + 1 + i
  | 0 => by show (T.heap.push _).size = _; rw [Array.size_push]
  | i + 1 => by
    show (((mmS c5 c0 N M T i).heap.push _).setIfInBounds _ _).size = _
    rw [Array.size_setIfInBounds, Array.size_push, mmS_size T i]
    omega
theorem mmS_used (T : State) : ∀ i : Nat, (mmS c5 c0 N M T i).slotsUsed = T.slotsUsed + N + i * M
  | 0 => by show T.slotsUsed + (arrV _ _ _).slots.size = _; rw [arrV_size]; omega
  | i + 1 => by
    show (mmS c5 c0 N M T i).slotsUsed + (arrV _ _ _).slots.size = _
    rw [arrV_size, mmS_used T i, Nat.succ_mul]
    omega
theorem mmS_top (T : State) (fr : JFrame) : ∀ i : Nat, mmS c5 c0 N M (T.setTop fr) i = (mmS c5 c0 N M T i).setTop fr
  | 0 => rfl
  | i + 1 => by
    show ((mmS c5 c0 N M (T.setTop fr) i).pushCell _).setCell _ _ = _
    rw [mmS_top T fr i]
    rfl
theorem mmS_out (T : State) : ∀ i : Nat, (mmS c5 c0 N M T i).heap[T.heap.size]? = some (mmC c5 N T.heap.size i)
  | 0 => by show (T.heap.push _)[T.heap.size]? = _; exact Array.getElem?_push_size
  | i + 1 => by
    have h1 := mmS_size (c5 := c5) (c0 := c0) (N := N) (M := M) T i
    show (((mmS c5 c0 N M T i).heap.push _).setIfInBounds T.heap.size _)[T.heap.size]? = _
    rw [Array.getElem?_setIfInBounds_self_of_lt (by rw [Array.size_push]; omega)]
theorem mmS_old (T : State) {q : Nat} (hq : q < T.heap.size) : ∀ i : Nat, (mmS c5 c0 N M T i).heap[q]? = T.heap[q]?
  | 0 => by show (T.heap.push _)[q]? = _; rw [Array.getElem?_push, if_neg (Nat.ne_of_lt hq)]
  | i + 1 => by
    have h1 := mmS_size (c5 := c5) (c0 := c0) (N := N) (M := M) T i
    show (((mmS c5 c0 N M T i).heap.push _).setIfInBounds T.heap.size _)[q]? = _
    rw [Array.getElem?_setIfInBounds_ne (by omega), Array.getElem?_push, if_neg (by omega)]
    exact mmS_old T hq i
theorem mmS_row (T : State) : ∀ i j : Nat, j < i → (mmS c5 c0 N M T i).heap[T.heap.size + 1 + j]? = some (mmR c0 M)
  | 0, _, h => absurd h (Nat.not_lt_zero _)
  | i + 1, j, h => by
    have h1 := mmS_size (c5 := c5) (c0 := c0) (N := N) (M := M) T i
    show (((mmS c5 c0 N M T i).heap.push _).setIfInBounds T.heap.size _)[T.heap.size + 1 + j]? = _
    rw [Array.getElem?_setIfInBounds_ne (by omega), Array.getElem?_push]
    by_cases e : j = i
    · rw [if_pos (by omega)]
    · rw [if_neg (by omega)]
      exact mmS_row T i j (by omega)
variable {p : Program} {l : Launch} {e : Env} {R : Room} {s : State} {m : MethodId} {args : Array Value} {below : List Frame} {meth : Method} {c : Code} {H : Heap} {locs : List Loc} {cells slots : Nat} {Q : State → Prop}
theorem mmS_stand {T : State} (X : Stand p l e R s m args below meth c T locs cells slots) : ∀ i : Nat, ∃ locs1 : List Loc, (∀ z ∈ locs1, z ∈ locs ∨ z.base = T.heap.size) ∧ Stand p l e R s m args below meth c (mmS c5 c0 N M T i) locs1 (cells + 1 + i) (slots + N + i * M)
  | 0 => ⟨locs, fun z h => Or.inl h, by
    have h := X.pushed (mmC c5 N T.heap.size 0)
    have e1 : (mmC c5 N T.heap.size 0).slots.size = N := arrV_size _ _ _
    rw [e1] at h
    rw [Nat.zero_mul]
    exact h⟩
  | i + 1 => by
    obtain ⟨l1, h1, X1⟩ := mmS_stand X i
    have h := X1.pushed (mmR c0 M)
    have e1 : (mmR c0 M).slots.size = M := arrV_size _ _ _
    rw [e1] at h
    have hs := mmS_size (c5 := c5) (c0 := c0) (N := N) (M := M) T i
    have hc : ((mmS c5 c0 N M T i).pushCell (mmR c0 M)).heap[T.heap.size]? = some (mmC c5 N T.heap.size i) := by
      show ((mmS c5 c0 N M T i).heap.push _)[T.heap.size]? = _
      rw [Array.getElem?_push, if_neg (by omega)]
      exact mmS_out T i
    have h2 := h.stored hc i (.ref (T.heap.size + 1 + i))
    rw [mmC_set] at h2
    refine ⟨l1 ++ [⟨T.heap.size, i⟩], fun z hz => ?_, ?_⟩
    · rcases List.mem_append.mp hz with q | q
      · exact h1 z q
      · rw [List.mem_singleton.mp q]
        exact Or.inr rfl
    · have e3 : slots + N + (i + 1) * M = slots + N + i * M + M := by rw [Nat.succ_mul]; omega
      rw [e3]
      exact h2
section
variable {E : CtlPost} {d : Bool} {acts : List Action} {t : State}
/-- the instruction's own loop -/
theorem mm_make {k5 k0 : Class} {cc0 : ClassId} {n k : Int32} (h5 : t.vm.classes[c5]? = some k5) (h5k : k5.kind = .array c0 (.array .int)) (h0 : t.vm.classes[c0]? = some k0) (h0k : k0.kind = .array cc0 .int) (hn : ¬ n < 0) (hk : ¬ k < 0) (hN : n.toNatClampNeg = N) (hM : k.toNatClampNeg = M)
    (hl1 : ¬ N > e.platform.arrayLengthLimit) (hl2 : ¬ M > e.platform.arrayLengthLimit) (hh1 : ¬ N * 4 > e.platform.maxHeapBytes) (hh2 : ¬ M * 4 > e.platform.maxHeapBytes) (hc : t.heap.size + (1 + N) ≤ e.platform.maxCells) (hs : t.slotsUsed + (N + N * M) ≤ e.platform.maxSlots)
    {Q : Addr → Pre} (hq : ∀ (d' : Bool) (acts' : List Action), Q t.heap.size d' acts' (mmS c5 c0 N M t N)) : wp (Op.multianewarray.make c5 [n, k]) Q E e d acts t := by
  have hfind : ([k].find? (· < 0)) = none := by simp [hk]
  rw [Op.multianewarray.make]
  simp only [wp_bind', W.ite, hn, if_false, wp_pure', W.theClass, h5, h5k, Option.some.injEq, exists_eq_left', hN]
  refine W.newArray_of h5 h5k hl1 hh1 (by omega) (by have := Nat.zero_le (N * M); omega) rfl (fun acts1 => ?_)
  have e0 : t.pushCell ({ cls := c5, slots := Array.replicate N .null } : Cell) = mmS c5 c0 N M t 0 := by
    show t.pushCell _ = t.pushCell _
    congr 1
    exact (arrV_new c5 N .null).trans (by unfold mmC; congr 1)
  simp only [hfind]
  rw [ite_self, wp_bind', Std.Legacy.Range.forIn_eq_forIn_range', e0]
  have hsz : ([:N] : Std.Legacy.Range).size = N := by simp [Std.Legacy.Range.size]
  rw [hsz]
  show wp (forIn (List.range' 0 N 1) PUnit.unit _) _ E e d acts1 _
  refine wp_forIn_inv (fun rest s1 => ∃ i : Nat, i + rest.length = N ∧ rest = List.range' i rest.length ∧ s1 = mmS c5 c0 N M t i) _ _ ⟨0, by rw [List.length_range']; omega, by rw [List.length_range'], rfl⟩ ?_ ?_
  · rintro x rest s1 d1 acts1 Q1 ⟨i, hi, hl, rfl⟩ hnext
    rw [List.length_cons, List.range'_succ] at hl
    obtain ⟨rfl, hl2'⟩ := List.cons.inj hl
    rw [List.length_cons] at hi
    have z1 := mmS_size (c5 := c5) (c0 := c0) (N := N) (M := M) t x
    have z2 := mmS_used (c5 := c5) (c0 := c0) (N := N) (M := M) t x
    have z3 := mmS_vm (c5 := c5) (c0 := c0) (N := N) (M := M) t x
    have z4 := mmS_out (c5 := c5) (c0 := c0) (N := N) (M := M) t x
    have hmul : x * M + M ≤ N * M := by
      have := Nat.mul_le_mul_right M (show x + 1 ≤ N by omega)
      rw [Nat.succ_mul] at this
      exact this
    simp only [wp_bind']
    rw [Op.multianewarray.make]
    simp only [wp_bind', W.ite, hk, if_false, wp_pure', W.theClass, z3, h0, h0k, Option.some.injEq, exists_eq_left', hM]
    refine W.newArray_of (by rw [z3]; exact h0) h0k hl2 hh2 (by omega) (by omega) rfl (fun acts2 => ?_)
    have e1 : (mmS c5 c0 N M t x).pushCell ({ cls := c0, slots := Array.replicate M (defaultValue .int) } : Cell) = (mmS c5 c0 N M t x).pushCell (mmR c0 M) := by
      congr 1
      exact arrV_new c0 M _
    rw [e1]
    simp only [wp_bind', W.writeLoc, wp_pure']
    refine ⟨mmC c5 N t.heap.size x, ?_, by unfold mmC arrV; simp, ?_, ?_, hnext _ _ _ ⟨x + 1, by omega, hl2', ?_⟩⟩
    · show ((mmS c5 c0 N M t x).heap.push _)[t.heap.size]? = _
      rw [Array.getElem?_push, if_neg (by omega)]
      exact z4
    · unfold mmC; rw [arrV_size]; omega
    · have e2 : ((mmS c5 c0 N M t x).pushCell (mmR c0 M)).vm = t.vm := z3
      unfold mmC arrV
      simp [State.fitsSlot, State.slotType?, z3, e2, h5, h5k, fits]
    · rw [z1]
      show _ = ((mmS c5 c0 N M t x).pushCell _).setCell _ _
      rw [← mmC_set]
  · rintro s1 d1 acts1 ⟨i, hi, -, rfl⟩
    have : i = N := by simpa using hi
    subst this
    simp only [wp_pure']
    exact hq _ _
end
/-- the row -/
theorem mm_row {cc : ByteArray} {pc : Nat} {ls : Array Slot} {rest : List Value} (hexec : p.tables.exec = Jvm.exec) (hb : c.code = cc) {own : String} {index : Nat} (hown : s.vm.findClass own = some m.cls) (hlink : (Cond.classLink own index "[[I").before args s = true) {k5 k0 : Class} {cc0 : ClassId} (h5n : s.vm.findClass "[[I" = some c5)
    (h5 : s.vm.classes[c5]? = some k5) (h5k : k5.kind = .array c0 (.array .int)) (h0 : s.vm.classes[c0]? = some k0) (h0k : k0.kind = .array cc0 .int) {n k : Int32} (hn : ¬ n < 0) (hk : ¬ k < 0) (hN : n.toNatClampNeg = N) (hM : k.toNatClampNeg = M) (hb1 : N * 4 ≤ 536870912) (hb2 : M * 4 ≤ 536870912)
    (hc : cells + (1 + N) ≤ R.cells) (hs : slots + (N + N * M) ≤ R.slots) (hdg : decode cc pc = .ok (.multianewarray index 2, 4))
    (kk : ∀ (H1 : Heap) (locs1 : List Loc), H1.size = H.size + 1 + N → (∀ z ∈ locs1, z ∈ locs ∨ z.base = H.size) → H1[H.size]? = some (mmC c5 N H.size N) → (∀ j : Nat, j < N → H1[H.size + 1 + j]? = some (mmR c0 M)) → (∀ q : Nat, q < H.size → H1[q]? = H[q]?) →
      W p l e R s m args below meth c H1 locs1 (cells + 1 + N) (slots + N + N * M) Q (F0 m (pc + 4) ls (.ref H.size :: rest))) :
    W p l e R s m args below meth c H locs cells slots Q (F0 m pc ls (.int k :: .int n :: rest)) := by
  intro T hT X
  subst hb
  have hpl : e.platform.magicAccessors = ({} : Platform).magicAccessors := by rw [X.admits.platform]
  obtain ⟨cX, hfX, hcl⟩ := Cond.classLink_spec hown hlink e.platform hpl
  cases Option.some.inj (h5n.symm.trans hfX)
  obtain ⟨hg1, hw1, -⟩ := State.classEntry (e := e) X.warmed hcl
  generalize T.vm.noted m.cls index (.cls c5) = vm1 at hg1 hw1
  obtain ⟨k5', h5', he5⟩ := hw1.alike.2.2 _ _ h5
  obtain ⟨k0', h0', he0⟩ := hw1.alike.2.2 _ _ h0
  have X1 := X.noted hw1
  obtain ⟨hr1, hr2⟩ := X.roomAbove hc hs
  obtain ⟨locs1, hl1, X2⟩ := mmS_stand (c5 := c5) (c0 := c0) (N := N) (M := M) X1 N
  have hh : (T.setVm vm1).heap = H := hT
  obtain ⟨t, a1, b1⟩ := kk (mmS c5 c0 N M (T.setVm vm1) N).heap locs1 (by rw [mmS_size, hh]) (by rw [hh] at hl1; exact hl1) (by have := mmS_out (c5 := c5) (c0 := c0) (N := N) (M := M) (T.setVm vm1) N; rw [hh] at this; exact this) (fun j hj => by have := mmS_row (c5 := c5) (c0 := c0) (N := N) (M := M) (T.setVm vm1) N j hj; rw [hh] at this; exact this) (fun q hq => by have := mmS_old (c5 := c5) (c0 := c0) (N := N) (M := M) (T.setVm vm1) (q := q) (by rw [hh]; exact hq) N; rw [hh] at this; exact this) (mmS c5 c0 N M (T.setVm vm1) N) rfl X2
  refine ⟨t, ?_, b1⟩
  jvm_step X.here [hexec, hdg]
  simp only [Op.multianewarray.sem, wp_bind', W.resolveClassAt_links (State.method?_setTop (F0 m pc ls (.int k :: .int n :: rest)) X.here.top) hg1]
  rw [W.popN, if_neg (by decide)]
  refine ⟨F0 m pc ls (.int k :: .int n :: rest), State.topJava?_setTop' (s := T.setVm vm1) _ X.here.top, [.int n, .int k], rest, rfl, rfl, ?_⟩
  simp only [List.mapM_cons, List.mapM_nil, wp_bind', wp_pure']
  refine mm_make (k5 := k5') (k0 := k0') (cc0 := cc0) h5' (by rw [he5]; exact h5k) h0' (by rw [he0]; exact h0k) hn hk hN hM (by rw [Launch.admits_arrayLengthLimit X.admits]; omega) (by rw [Launch.admits_arrayLengthLimit X.admits]; omega) (by rw [Launch.admits_maxHeapBytes X.admits]; omega) (by rw [Launch.admits_maxHeapBytes X.admits]; omega) (by show T.heap.size + _ ≤ _; exact hr1) (by show T.slotsUsed + _ ≤ _; exact hr2) (fun d1 acts1 => ?_)
  have e1 : ((T.setTop (F0 m pc ls (.int k :: .int n :: rest))).setVm vm1).setTop (F0 m pc ls rest) = (T.setVm vm1).setTop (F0 m pc ls rest) := by
    show ((T.setVm vm1).setTop _).setTop _ = _
    rw [State.setTop_setTop]
  show wp _ _ _ _ _ _ (mmS c5 c0 N M (((T.setTop (F0 m pc ls (.int k :: .int n :: rest))).setVm vm1).setTop (F0 m pc ls rest)) N)
  rw [e1, mmS_top]
  simp only [wp_bind', W.mark, W.pushRef, State.topJava?_setTop' _ X2.here.top, Option.some.injEq, exists_eq_left', State.setTop_setTop, State.heap_setTop]
  intro acts
  simp [jvm, X2.here.top]
  have e5 : T.heap.size = H.size := by rw [hT]
  rw [← e5] at a1
  exact a1
end MM
