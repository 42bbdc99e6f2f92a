/-! THE CLAIM OUT OF ONE WALK OF THE LAW'S BODY. Your part is whole_start (and what it stands on); all else here is the same for every law, but numbers. -/
def R_law : String := "ClawBoxesLaw"
def lw_P (b : Addr) (xs : List Int32) (args : Array Value) (s : State) : Prop := args = #[.ref b] ∧ s.IntsAt b xs ∧ xs.length ≤ 6 ∧ (Jvm.Cond.and given_1 narrow_1).before args s = true
def lw_Q (_ : Array Value) (s : State) (o : Outcome) (t : State) : Prop := o = .returned (some (.int 1)) ∧ Framed s o t [] 600002 7302232
def lw_Z (below : List Frame) (a : Array Value) (s : State) : State → Prop := fun t => ∃ o, t.status = .running ∧ Ended t below o ∧ lw_Q a s o t
/-- the law's own end, with 1 on the stack, nothing written that was there before, its room as the claim has it -/
theorem lw_ret {p : Program} {l : Launch} {e : Env} {s : State} {m : MethodId} {below : List Frame} {meth : Method} {c : Code} {b : Nat} (hx : p.tables.exec = Jvm.exec) (hb : c.code = code) (hr : meth.sig.returnType = ret) (hlocks : meth.locks = false) {pc : Nat} {H : Heap} {ls : Array Slot} (hdg : decode code pc = .ok (.ireturn, 1)) : W p l e room_1 s m #[Value.ref b] below meth c H [] 600002 7302232 (lw_Z below #[Value.ref b] s) (F0 m pc ls [.int 1]) := by
  intro T hT X
  obtain ⟨fs, hret, hrun, hended, hW, hframe⟩ := X.leave (v := some (.int 1)) (hlocks := hlocks) (fun h => by rw [hr] at h; cases h)
  have hmeth' : T.vm.method? m = some meth := X.method'
  refine ⟨T.setFrames fs, ?_, .returned (some (.int 1)), hrun, hended, rfl, ⟨_, rfl⟩, hW, hframe⟩
  jvm_step X.here [X.here.top, hx, hb, hdg, hmeth', hr, ret, narrow_b1]
  (try refine ⟨rfl, ?_⟩); (try refine ⟨rfl, ?_⟩)
  first | (intro acts; rw [hret _ acts rfl rfl rfl]) | rw [hret _ _ rfl rfl rfl]
  exact Steps.refl _
/-- what holds at the law's entry: the machine, the code, the tables' words (any of lw_tbl by 'hts w (by decide +kernel)'), the script of L ints xs at the cell b, what the Statement gives of the start (any of its parts by flat_of_before) -/
def lw_At (p : Program) (s : State) (m : MethodId) (meth : Method) (c : Code) (b L : Nat) (xs : Nat → Int32) : Prop :=
  p.tables.exec = Jvm.exec ∧ c.code = code ∧ meth.sig.returnType = ret ∧ c.maxLocals = 7 ∧ s.vm.findClass R_law = some m.cls ∧ (∀ w ∈ lw_tbl, w.before #[Value.ref b] s = true) ∧ va_X b L xs s s.heap ∧ b < s.heap.size ∧ meth.locks = false ∧ (Jvm.Cond.and given_1 narrow_1).before #[Value.ref b] s = true
theorem dL_law_0 : decode cL_law 0 = .ok (.new 8, 3) := by decide +kernel
theorem dL_law_3 : decode cL_law 3 = .ok (.dup, 1) := by decide +kernel
theorem dL_law_4 : decode cL_law 4 = .ok (.invokespecial 103, 3) := by decide +kernel
theorem dL_law_7 : decode cL_law 7 = .ok (.astore_n 1, 1) := by decide +kernel
theorem dL_law_8 : decode cL_law 8 = .ok (.new 104, 3) := by decide +kernel
theorem dL_law_11 : decode cL_law 11 = .ok (.dup, 1) := by decide +kernel
theorem dL_law_12 : decode cL_law 12 = .ok (.invokespecial 106, 3) := by decide +kernel
theorem dL_law_15 : decode cL_law 15 = .ok (.astore_n 2, 1) := by decide +kernel
theorem dL_law_16 : decode cL_law 16 = .ok (.iconst 1, 1) := by decide +kernel
theorem dL_law_17 : decode cL_law 17 = .ok (.newarray .long, 2) := by decide +kernel
theorem dL_law_19 : decode cL_law 19 = .ok (.astore_n 3, 1) := by decide +kernel
theorem dL_law_20 : decode cL_law 20 = .ok (.iconst 0, 1) := by decide +kernel
theorem dL_law_21 : decode cL_law 21 = .ok (.istore 4, 2) := by decide +kernel
theorem dL_law_23 : decode cL_law 23 = .ok (.iload 4, 2) := by decide +kernel
theorem dL_law_25 : decode cL_law 25 = .ok (.aload_n 0, 1) := by decide +kernel
theorem dL_law_26 : decode cL_law 26 = .ok (.arraylength, 1) := by decide +kernel
theorem dL_law_27 : decode cL_law 27 = .ok (.bipush 6, 2) := by decide +kernel
theorem dL_law_29 : decode cL_law 29 = .ok (.isub, 1) := by decide +kernel
theorem dL_law_30 : decode cL_law 30 = .ok (.if_icmp .gt 2296, 3) := by decide +kernel
theorem dL_law_33 : decode cL_law 33 = .ok (.aload_n 0, 1) := by decide +kernel
theorem dL_law_34 : decode cL_law 34 = .ok (.iload 4, 2) := by decide +kernel
theorem dL_law_36 : decode cL_law 36 = .ok (.iaload, 1) := by decide +kernel
theorem dL_law_37 : decode cL_law 37 = .ok (.bipush 63, 2) := by decide +kernel
theorem dL_law_39 : decode cL_law 39 = .ok (.iand, 1) := by decide +kernel
theorem dL_law_40 : decode cL_law 40 = .ok (.tableswitch 2280 0 35 #[160, 252, 343, 399, 467, 551, 607, 675, 700, 773, 857, 870, 926, 994, 1050, 1118, 1174, 1242, 1283, 1363, 1419, 1487, 1500, 1556, 1612, 1625, 1705, 1773, 1853, 1921, 1977, 2081, 2173, 2229, 2242, 2255], 160) := by decide +kernel
theorem dL_law_2320 : decode cL_law 2320 = .ok (.iinc 4 6, 3) := by decide +kernel
theorem dL_law_2323 : decode cL_law 2323 = .ok (.goto (-2300), 3) := by decide +kernel
theorem dL_law_2326 : decode cL_law 2326 = .ok (.iconst 1, 1) := by decide +kernel
theorem dL_law_2327 : decode cL_law 2327 = .ok (.ireturn, 1) := by decide +kernel
theorem lg_cmp_self (x : Int64) : lg_cmp x x = 0 := by
  unfold lg_cmp
  rw [if_neg (fun h => absurd (Int64.lt_iff_toInt_lt.mp h) (Int.lt_irrefl _)), if_pos rfl]
theorem cs_iae : Cond.castable "java/lang/IllegalArgumentException" "java/lang/IllegalArgumentException" ∈ nw3 := by decide +kernel
theorem cs_iob : Cond.castable "java/lang/IndexOutOfBoundsException" "java/lang/IndexOutOfBoundsException" ∈ nw3 := by decide +kernel
theorem cs_nse : Cond.castable "java/util/NoSuchElementException" "java/util/NoSuchElementException" ∈ nw3 := by decide +kernel
section LB
variable {p : Program} {l : Launch} {e : Env} {R : Room} {s : State} {m : MethodId} {args : Array Value} {below : List Frame} {meth : Method} {c : Code} {H : Heap} {locs : List Loc} {cells slots : Nat} {Q : State → Prop}
variable {cc : ByteArray} {pc nL : Nat} {ls : Array Slot} {rest : List Value} {D : va_G} {K : Nat → ClassId} {b0 : Nat} {sa : Nat × Nat × Nat} {L L0 : List Nat} {f f0 : Nat → va_E} {G : tG} {Ψ Ψ0 : Nat → Nat} {own : String} {T : List Nat} {X : Nat → Prop}
theorem cst (w : Wh D K b0 sa s H locs L f) {E : String} (hw : Cond.castable E E ∈ nw3) : (Cond.castable E E).before args s = true := by
  have h1 := List.all_eq_true.mp nw3_ok _ hw
  rw [Bool.and_eq_true] at h1
  exact va_Nw.use h1.2 (w.2.2.2.2.2.1.2.2.2.2 _ hw)
/-- new long[n] -/
theorem t_newL (C : CallFix p m c cc nL s args gt own) (w : Wh D K b0 sa s H locs L f) (hT : TW K G Ψ L f) (hE : Ex T X Ψ0 L0 f0 Ψ L f) (h9 : 9 ∈ T) (k1 : Cond.arrayClass .long ∈ gt)
    {n : Int32} {N : Nat} (hn : ¬ n < 0) (hN : n.toNatClampNeg = N) (hbytes : N * componentBytes .long ≤ 536870912) (hc : cells + 1 ≤ R.cells) (hs : slots + N ≤ R.slots) (hdg : decode cc pc = .ok (.newarray .long, 2))
    (kk : ∀ (q : Nat) (Ψ1 : Nat → Nat) (L1 : List Nat) (f1 : Nat → va_E) (H1 : Heap), Wh D K b0 sa s H1 locs L1 f1 → TW K G Ψ1 L1 f1 → Ex T X Ψ0 L0 f0 Ψ1 L1 f1 → Sp Ψ L f Ψ1 L1 f1 → q ∈ L1 → Ψ1 q = 9 → f1 q = .inl (K 6, N, .inr (.inl (fun _ => 0))) → (q ∈ L0 → X q) → (∀ b : Nat, b ∈ L → b ≠ q) → (∀ b : Nat, b ∈ L1 → b = q ∨ b ∈ L) → W p l e R s m args below meth c H1 locs (cells + 1) (slots + N) Q (F0 m (pc + 2) ls (.ref q :: rest))) :
    W p l e R s m args below meth c H locs cells slots Q (F0 m pc ls (.int n :: rest)) := by
  obtain ⟨hx, hb, hml, hown, hts⟩ := C
  obtain ⟨w1, w2, w3, w4, w5, w6, w7⟩ := w
  refine va_newa (atype := .long) (A := fun q => b0 ≤ q) (ws := [] ++ va_pl L f) (a0 := (N, .inr (.inl (fun _ => 0)))) (ty := .long) hx hb (hts _ k1) rfl w2 w3 w4 w5 (fun q h => Nat.le_trans w1 h) (fun cA => vp_cell_l _ _ _) hn hN hbytes hc hs hdg (fun q cA H1 hK hP hD hS => ?_)
  have hcA : cA = K 6 := by
    have h1 := (hK.2 (tyl K).length (cA, .long) (by rw [List.getElem?_append_right (Nat.le_refl _), Nat.sub_self]; rfl)).2
    exact va_RA.uniq h1 (w2.2 6 _ rfl).2
  subst hcA
  have hq := va_pl_fresh2 (X := []) hD
  obtain ⟨g1, g2, g3, g4, g5, g6, g7, g8, g9⟩ := t_grow (e1 := .inl (K 6, N, .inr (.inl (fun _ => 0)))) hT hE h9 hq
  have e2 := va_pl_push (e := .inl (K 6, N, .inr (.inl (fun _ => 0)))) (f := f) hq
  rw [List.nil_append, e2] at hP hD
  exact kk q _ _ _ H1 ⟨w1, w2, hP, hD, hS, w6, w7⟩ g1 g2 g3 g4 g5 g6 g7 g8 g9
/-- script[j] -/
theorem t_sld (hx : p.tables.exec = Jvm.exec) (hb : c.code = cc) {b N : Nat} {xs : Nat → Int32} (hX : va_X b N xs s s.heap) (hbl : b < s.heap.size) (w : Wh D K s.heap.size sa s H locs L f) {i : Int32} {j : Nat} (hj : i.toNatClampNeg = j) (hin : vp_in i N) (hdg : decode cc pc = .ok (.iaload, 1))
    (kk : W p l e R s m args below meth c H locs cells slots Q (F0 m (pc + 1) ls (.int (xs j) :: rest))) : W p l e R s m args below meth c H locs cells slots Q (F0 m pc ls (.int i :: .ref b :: rest)) := by
  subst hj
  exact va_sld (A := fun q => s.heap.size ≤ q) hx hb hX hbl (Nat.not_le.mpr hbl) w.2.2.2.2.1 hin hdg kk
end LB
/-- what the law stands on, in its one round: its code, its script of six ints -/
def LwC (p : Program) (s : State) (m : MethodId) (meth : Method) (c : Code) (b : Nat) (xs : Nat → Int32) : Prop := CallFix p m c cL_law 7 s #[Value.ref b] gt RL ∧ va_X b 6 xs s s.heap ∧ b < s.heap.size ∧ meth.sig.returnType = ret ∧ meth.locks = false
/-- class and model as made -/
def LwW (D : va_G) (K : Nat → ClassId) (sa : Nat × Nat × Nat) (s : State) (H : Heap) (locs : List Loc) (L : List Nat) (f : Nat → va_E) (Ψ : Nat → Nat) (x m_ o : Nat) : Prop :=
  Wh D K s.heap.size sa s H locs L f ∧ TW K (gof gX0) Ψ L f ∧ (x ∈ L ∧ Ψ x = 6) ∧ (m_ ∈ L ∧ Ψ m_ = 7) ∧ (o ∈ L ∧ Ψ o = 9 ∧ ∃ g0 : Nat → Int64, f o = .inl (K 6, 1, .inr (.inl g0))) ∧ No (fun b => b = x) 6 Ψ L ∧ No (fun b => b = m_) 7 Ψ L ∧ ∃ z4 : Nat, No (fun b => b = z4) 4 Ψ L
set_option maxRecDepth 100000 in
theorem law_out {p : Program} {l : Launch} {e : Env} {s : State} {m : MethodId} {below : List Frame} {meth : Method} {c : Code} {b : Nat} {D : va_G} {K : Nat → ClassId} {sa : Nat × Nat × Nat} {H : Heap} {locs : List Loc} {L : List Nat} {f : Nat → va_E} {cells slots : Nat} {ls : Array Slot} (hx : p.tables.exec = Jvm.exec) (hb : c.code = cL_law) (hr : meth.sig.returnType = ret) (hlk : meth.locks = false) (w : Wh D K s.heap.size sa s H locs L f) (hc : cells ≤ 600002) (hs : slots ≤ 7302232) :
    W p l e room_1 s m #[Value.ref b] below meth c H locs cells slots (lw_Z below #[Value.ref b] s) (F0 m 2326 ls []) := by
  refine lv_iconst (v := 1) hx hb dL_law_2326 (by decide) ?_
  refine va_forget (fun q hq => w.2.2.2.2.1.2.2 q hq) ?_
  refine W.widen (k := 600002) (n := 7302232) hc hs ?_
  exact lw_ret hx hb hr hlk dL_law_2327
set_option maxRecDepth 100000 in
theorem law_end {p : Program} {l : Launch} {e : Env} {s : State} {m : MethodId} {below : List Frame} {meth : Method} {c : Code} {b : Nat} {xs : Nat → Int32} {D : va_G} {K : Nat → ClassId} {sa : Nat × Nat × Nat} {H : Heap} {locs : List Loc} {L : List Nat} {f : Nat → va_E} {cells slots : Nat} {ls : Array Slot} (A : LwC p s m meth c b xs) (w : Wh D K s.heap.size sa s H locs L f) (hc : cells ≤ 600002) (hs : slots ≤ 7302232) (hl : lv_has ls 7 [(4, .int 0), (0, .ref b)]) :
    W p l e room_1 s m #[Value.ref b] below meth c H locs cells slots (lw_Z below #[Value.ref b] s) (F0 m 2320 ls []) := by
  obtain ⟨C, hX, hbl, hr, hlk⟩ := A
  have hx := C.1
  have hb := C.2.1
  refine lv_iinc (v := 6) (lv' := [(4, .int 6), (0, .ref b)]) hx hb dL_law_2320 hl (k := 0) rfl (by decide) (by decide) rfl (fun ls hl => ?_)
  refine lv_goto (tgt := 23) hx hb dL_law_2323 (by decide) ?_
  refine lv_iload hx hb dL_law_23 (lv_at hl 0 rfl) ?_
  refine lv_aload_n hx hb dL_law_25 rfl (lv_at hl 1 rfl) ?_
  refine va_slen (A := fun q => s.heap.size ≤ q) hx hb hX hbl (Nat.not_le.mpr hbl) w.2.2.2.2.1 dL_law_26 ?_
  refine lv_bipush (v := 6) hx hb dL_law_27 (by decide) ?_
  refine lv_isub hx hb dL_law_29 ?_
  refine lv_topi (fun y1 ey1 => ?_)
  obtain rfl : y1 = 0 := ey1.trans (by decide)
  refine lv_icmp_gt (tgt := 2326) hx hb dL_law_30 (by decide) (fun _ => ?_) (fun c0 => absurd c0 (by decide))
  exact law_out hx hb hr hlk w hc hs
