/-! THE CLAIM OUT OF ONE WALK OF THE LAW'S BODY. Your part is whole_start (and what it stands on); all else here is the same for every law, but numbers. -/
def R_law : String := "ClawBoxesLaw"
def lw_P (b : Addr) (xs : List Int32) (args : Array Value) (s : State) : Prop := args = #[.ref b] ∧ s.IntsAt b xs ∧ xs.length ≤ 3072 ∧ (Jvm.Cond.and given_1 narrow_1).before args s = true
def lw_Q (_ : Array Value) (s : State) (o : Outcome) (t : State) : Prop := o = .returned (some (.int 1)) ∧ Framed s o t [] 601024 7293033
def lw_Z (below : List Frame) (a : Array Value) (s : State) : State → Prop := fun t => ∃ o, t.status = .running ∧ Ended t below o ∧ lw_Q a s o t
/-- the law's own end, with 1 on the stack, nothing written that was there before, its room as the claim has it -/
theorem lw_ret {p : Program} {l : Launch} {e : Env} {s : State} {m : MethodId} {below : List Frame} {meth : Method} {c : Code} {b : Nat} (hx : p.tables.exec = Jvm.exec) (hb : c.code = code) (hr : meth.sig.returnType = ret) (hlocks : meth.locks = false) {pc : Nat} {H : Heap} {ls : Array Slot} (hdg : decode code pc = .ok (.ireturn, 1)) : W p l e room_1 s m #[Value.ref b] below meth c H [] 601024 7293033 (lw_Z below #[Value.ref b] s) (F0 m pc ls [.int 1]) := by
  intro T hT X
  obtain ⟨fs, hret, hrun, hended, hW, hframe⟩ := X.leave (v := some (.int 1)) (hlocks := hlocks) (fun h => by rw [hr] at h; cases h)
  have hmeth' : T.vm.method? m = some meth := X.method'
  refine ⟨T.setFrames fs, ?_, .returned (some (.int 1)), hrun, hended, rfl, ⟨_, rfl⟩, hW, hframe⟩
  jvm_step X.here [X.here.top, hx, hb, hdg, hmeth', hr, ret, narrow_b1]
  (try refine ⟨rfl, ?_⟩); (try refine ⟨rfl, ?_⟩)
  first | (intro acts; rw [hret _ acts rfl rfl rfl]) | rw [hret _ _ rfl rfl rfl]
  exact Steps.refl _
/-- what holds at the law's entry: the machine, the code, the tables' words (any of lw_tbl by 'hts w (by decide +kernel)'), the script of L ints xs at the cell b, what the Statement gives of the start (any of its parts by flat_of_before) -/
def lw_At (p : Program) (s : State) (m : MethodId) (meth : Method) (c : Code) (b L : Nat) (xs : Nat → Int32) : Prop :=
  p.tables.exec = Jvm.exec ∧ c.code = code ∧ meth.sig.returnType = ret ∧ c.maxLocals = 7 ∧ s.vm.findClass R_law = some m.cls ∧ (∀ w ∈ lw_tbl, w.before #[Value.ref b] s = true) ∧ va_X b L xs s s.heap ∧ b < s.heap.size ∧ meth.locks = false ∧ (Jvm.Cond.and given_1 narrow_1).before #[Value.ref b] s = true
theorem dL_law_0 : decode cL_law 0 = .ok (.new 8, 3) := by decide +kernel
theorem dL_law_3 : decode cL_law 3 = .ok (.dup, 1) := by decide +kernel
theorem dL_law_4 : decode cL_law 4 = .ok (.invokespecial 103, 3) := by decide +kernel
theorem dL_law_7 : decode cL_law 7 = .ok (.astore_n 1, 1) := by decide +kernel
theorem dL_law_8 : decode cL_law 8 = .ok (.new 104, 3) := by decide +kernel
theorem dL_law_11 : decode cL_law 11 = .ok (.dup, 1) := by decide +kernel
theorem dL_law_12 : decode cL_law 12 = .ok (.invokespecial 106, 3) := by decide +kernel
theorem dL_law_15 : decode cL_law 15 = .ok (.astore_n 2, 1) := by decide +kernel
theorem dL_law_16 : decode cL_law 16 = .ok (.iconst 1, 1) := by decide +kernel
theorem dL_law_17 : decode cL_law 17 = .ok (.newarray .long, 2) := by decide +kernel
theorem dL_law_19 : decode cL_law 19 = .ok (.astore_n 3, 1) := by decide +kernel
theorem dL_law_20 : decode cL_law 20 = .ok (.iconst 0, 1) := by decide +kernel
theorem dL_law_21 : decode cL_law 21 = .ok (.istore 4, 2) := by decide +kernel
theorem dL_law_23 : decode cL_law 23 = .ok (.iload 4, 2) := by decide +kernel
theorem dL_law_25 : decode cL_law 25 = .ok (.aload_n 0, 1) := by decide +kernel
theorem dL_law_26 : decode cL_law 26 = .ok (.arraylength, 1) := by decide +kernel
theorem dL_law_27 : decode cL_law 27 = .ok (.bipush 6, 2) := by decide +kernel
theorem dL_law_29 : decode cL_law 29 = .ok (.isub, 1) := by decide +kernel
theorem dL_law_30 : decode cL_law 30 = .ok (.if_icmp .gt 1561, 3) := by decide +kernel
theorem dL_law_33 : decode cL_law 33 = .ok (.aload_n 0, 1) := by decide +kernel
theorem dL_law_34 : decode cL_law 34 = .ok (.iload 4, 2) := by decide +kernel
theorem dL_law_36 : decode cL_law 36 = .ok (.iaload, 1) := by decide +kernel
theorem dL_law_37 : decode cL_law 37 = .ok (.bipush 63, 2) := by decide +kernel
theorem dL_law_39 : decode cL_law 39 = .ok (.iand, 1) := by decide +kernel
theorem dL_law_40 : decode cL_law 40 = .ok (.tableswitch 1545 0 35 #[160, 224, 280, 308, 348, 404, 432, 500, 525, 598, 654, 667, 695, 735, 763, 803, 831, 871, 912, 964, 992, 1032, 1045, 1073, 1101, 1114, 1166, 1206, 1258, 1298, 1326, 1402, 1466, 1494, 1507, 1520], 160) := by decide +kernel
theorem dL_law_1585 : decode cL_law 1585 = .ok (.iinc 4 6, 3) := by decide +kernel
theorem dL_law_1588 : decode cL_law 1588 = .ok (.goto (-1565), 3) := by decide +kernel
theorem dL_law_1591 : decode cL_law 1591 = .ok (.iconst 1, 1) := by decide +kernel
theorem dL_law_1592 : decode cL_law 1592 = .ok (.ireturn, 1) := by decide +kernel
/-! the law's own rows: methods with a table of their own that throw nothing, its long array (a raw cell) -/
section LW
variable {p : Program} {l : Launch} {e : Env} {R : Room} {s : State} {m : MethodId} {args : Array Value} {below : List Frame} {meth : Method} {c : Code} {H : Heap} {locs : List Loc} {cells slots : Nat} {Q : State → Prop}
variable {cc : ByteArray} {pc nL : Nat} {ls : Array Slot} {rest st0 : List Value} {D : va_G} {K : Nat → ClassId} {b0 : Nat} {sa : sT} {L : List Nat} {f : Nat → va_E} {own : String}
variable {y : MethodName} {bytes : ByteArray} {maxL n mc ms index : Nat} {ret : Option FieldType} {hh : List (Nat × Nat × Nat × Nat)} {rm : Room} {As : List Value} {post : Option Value → tU → Prop}
theorem t_hof {sz : Nat} (hy : plainName y.cls = true) (hcls : y.cls = own)
    (body : ∀ (p : Program) (e : Env) (s : State) (m : MethodId) (below : List Frame) (meth : Method) (c : Code) (ls : Array Slot), CallFix p m c bytes maxL s As.toArray gt own → Wh D K b0 sa s s.heap [] L f → s.heap.size = sz → meth.sig.returnType = ret → meth.locks = false → c.exceptionTable.toList = tableOf hh → lv_has ls maxL (lv_args 0 As) →
      W p l e rm s m As.toArray below meth c s.heap [] 0 0 (MQ below (hQ D K b0 post) As.toArray s mc ms (fun q => b0 ≤ q)) (F0 m 0 ls [])) (hlen : (lg_sl As).length ≤ maxL) :
    Met l y (.codeWith y bytes maxL ret hh :: gt) rm (va_Pc As (hPre D K b0 sa sz L f)) (hQ D K b0 post) mc ms (fun q => b0 ≤ q) := by
  refine MetFree.of_bodyS (code := bytes) (maxLocals := maxL) (ret := ret) hy ?_ ?_
  · intro args s m h hn
    obtain ⟨m9, meth, c, hn9, h1, h2, h3, h4, -, h5, h6, -⟩ := Cond.codeWith_spec (atoms_spec (ws := .codeWith y bytes maxL ret hh :: gt) h _ List.mem_cons_self)
    cases hn.symm.trans hn9
    exact ⟨meth, c, h1, h2, h3, h4, h5, h6⟩
  · intro p e s m args below meth c s₁ B hml hP _
    have hh0 : s₁.heap = s.heap := by rw [B.state]; rfl
    obtain ⟨rfl, hsz, hb0, ⟨q1, q2, q3⟩, hN, hZ⟩ := hP
    have hts := atoms_spec (ws := .codeWith y bytes maxL ret hh :: gt) B.pre
    have hown : s.vm.findClass own = some m.cls := by rw [← hcls]; exact findClass_of_methodNamed B.named
    have hl := lv_entry As (n := maxL) hlen
    have hW := body p e s m below meth c _ ⟨B.exec, B.bytes, hml, hown, fun w hw => hts w (List.mem_cons_of_mem _ hw)⟩ ⟨by rw [hsz]; exact hb0, q2, q1, q3, va_S.rf, hN, hZ⟩ hsz B.returns B.notSynchronized (vx_table (x := y) B (hts _ List.mem_cons_self)) hl
    rw [← lg_entry_eq] at hW
    obtain ⟨t, a1, o, b1, b2, b3⟩ := hW s₁ hh0 (Stand.of_body B)
    exact ⟨t, o, a1, b1, b2, ⟨b3.1, b3.2⟩⟩
/-- the law's call of such a method -/
theorem t_callH (C : CallFix p m c cc nL s args gt own) (w : Wh D K b0 sa s H locs L f) (hM : Met l y (.codeWith y bytes maxL ret hh :: gt) rm (va_Pc As (hPre D K b0 sa H.size L f)) (hQ D K b0 post) mc ms (fun q => b0 ≤ q))
    (k1 : Cond.codeWith y bytes maxL ret hh ∈ gt) (k2 : Cond.methodLink own index y ∈ gt) (k3 : Cond.static y ∈ gt) (k4 : Cond.initialized y.cls ∈ gt) (hd : plainY y n) (hrc : rm.cells = mc) (hrs : rm.slots = ms) (hR : rm.frames + 1 ≤ R.frames ∧ 8 + (maxL + 11) + rm.locals ≤ R.locals)
    (hn : As.length = n) (hsz : ls.size = nL) (hst : st0 = As.reverse ++ rest) (hW : (rest.map fun v => v.category).sum ≤ 8) (hdg : decode cc pc = .ok (.invokestatic index, 3)) (hf : cells + mc ≤ R.cells ∧ slots + ms ≤ R.slots)
    (kk : ∀ (v : Option Value) (u : tU) (H1 : Heap) (locs1 : List Loc), post v u → Wh D K b0 sa s H1 locs1 u.2.2.1 u.2.2.2 → W p l e R s m args below meth c H1 locs1 (cells + mc) (slots + ms) Q (F0 m (pc + 3) ls (v.toList ++ rest))) : W p l e R s m args below meth c H locs cells slots Q (F0 m pc ls st0) := by
  have hG := gt_in k1
  refine t_go w (vx_runSW (As := As) (rest := rest) (hh := hh) (bytes := bytes) (maxL := maxL) (ret := ret) (n := n) C hM ⟨⟨hrc, hrs, hR.1, hR.2, pay_in C.2.2.2.2 hG, List.mem_cons_self⟩, C.2.2.2.2 _ k1, C.2.2.2.2 _ k4, ⟨hd.1, hd.2.1⟩, fun sig h => ?_, C.2.2.2.2 _ k2, C.2.2.2.2 _ k3⟩ ⟨hPre.blind, fun U hU hW => ⟨rfl, w.pre hU hW⟩⟩ rfl hn hsz hst (lv_room hW) hdg hf) kk
  have h2 := hd.2.2
  rw [h] at h2
  exact (Option.some.inj h2).symm
/-- out[0] = x -/
theorem g_last (C : CallFix p m c cc nL s args gt own) (w : Wh D K b0 sa s H locs L f) {a : Nat} {g : Nat → Int64} (ha : a ∈ L) (hf : f a = .inl (K 6, 1, .inr (.inl g))) {x : Int64} (hdg : decode cc pc = .ok (.lastore, 1))
    (kk : ∀ (f1 : Nat → va_E) (H1 : Heap) (locs1 : List Loc), Wh D K b0 sa s H1 locs1 L f1 → (∃ g1 : Nat → Int64, f1 a = .inl (K 6, 1, .inr (.inl g1)) ∧ g1 0 = x) → (∀ b : Nat, b ≠ a → f1 b = f b) → W p l e R s m args below meth c H1 locs1 cells slots Q (F0 m (pc + 1) ls rest)) : W p l e R s m args below meth c H locs cells slots Q (F0 m pc ls (.long x :: .int 0 :: .ref a :: rest)) := by
  obtain ⟨hx, hb, hml, hown, hts⟩ := C
  obtain ⟨w1, w2, w3, w4, w5, w6, w7⟩ := w
  obtain ⟨k0, hk0⟩ := va_pl_get (X := []) (f := f) ha
  have hk1 : ([] ++ va_pl L f)[k0]? = some (a, .inl (K 6, 1, .inr (.inl g))) := by rw [hk0, hf]
  refine va_last (A := fun q => b0 ≤ q) (ws := [] ++ va_pl L f) hx hb w2 w3 w4 w5 k0 6 hk1 rfl (vp_in_iff.mpr ⟨by decide, by decide⟩) hdg (fun H1 locs1 hP hD hS => ?_)
  rw [va_pl_set (X := []) w4 ha hk0] at hP hD
  exact kk _ H1 locs1 ⟨w1, w2, hP, hD, hS, w6, w7⟩ ⟨_, va_up_self _ _ _, rfl⟩ (fun b hb => va_up_ne _ _ hb)
/-- out[0] -/
theorem g_lald (C : CallFix p m c cc nL s args gt own) (w : Wh D K b0 sa s H locs L f) {a : Nat} {g : Nat → Int64} (ha : a ∈ L) (hf : f a = .inl (K 6, 1, .inr (.inl g))) {x : Int64} (hg : g 0 = x) (hdg : decode cc pc = .ok (.laload, 1))
    (kk : W p l e R s m args below meth c H locs cells slots Q (F0 m (pc + 1) ls (.long x :: rest))) : W p l e R s m args below meth c H locs cells slots Q (F0 m pc ls (.int 0 :: .ref a :: rest)) := by
  obtain ⟨hx, hb, hml, hown, hts⟩ := C
  obtain ⟨w1, w2, w3, w4, w5, w6, w7⟩ := w
  obtain ⟨k0, hk0⟩ := va_pl_get (X := []) (f := f) ha
  rw [hf] at hk0
  subst hg
  exact va_lald (ws := [] ++ va_pl L f) hx hb w2 w3 k0 6 hk0 rfl (vp_in_iff.mpr ⟨by decide, by decide⟩) hdg kk
/-- new long[n] -/
theorem g_newL (C : CallFix p m c cc nL s args gt own) (w : Wh D K b0 sa s H locs L f) (k1 : Cond.arrayClass .long ∈ gt)
    {n : Int32} {N : Nat} (hn : ¬ n < 0) (hN : n.toNatClampNeg = N) (hbytes : N * componentBytes .long ≤ 536870912) (hc : cells + 1 ≤ R.cells) (hs : slots + N ≤ R.slots) (hdg : decode cc pc = .ok (.newarray .long, 2))
    (kk : ∀ (q : Nat) (H1 : Heap), q ∉ L → Wh D K b0 sa s H1 locs (L ++ [q]) (va_up f q (.inl (K 6, N, .inr (.inl (fun _ => 0))))) → W p l e R s m args below meth c H1 locs (cells + 1) (slots + N) Q (F0 m (pc + 2) ls (.ref q :: rest))) :
    W p l e R s m args below meth c H locs cells slots Q (F0 m pc ls (.int n :: rest)) := by
  obtain ⟨hx, hb, hml, hown, hts⟩ := C
  obtain ⟨w1, w2, w3, w4, w5, w6, w7⟩ := w
  refine va_newa (atype := .long) (A := fun q => b0 ≤ q) (ws := [] ++ va_pl L f) (a0 := (N, .inr (.inl (fun _ => 0)))) (ty := .long) hx hb (hts _ k1) rfl w2 w3 w4 w5 (fun q h => Nat.le_trans w1 h) (fun cA => vp_cell_l _ _ _) hn hN hbytes hc hs hdg (fun q cA H1 hK hP hD hS => ?_)
  have hcA : cA = K 6 := by
    have h1 := (hK.2 (tyl K).length (cA, .long) (by rw [List.getElem?_append_right (Nat.le_refl _), Nat.sub_self]; rfl)).2
    exact va_RA.uniq h1 (w2.2 6 _ rfl).2
  subst hcA
  have hq := va_pl_fresh2 (X := []) hD
  have e2 := va_pl_push (e := .inl (K 6, N, .inr (.inl (fun _ => 0)))) (f := f) hq
  rw [List.nil_append, e2] at hP hD
  exact kk q H1 hq ⟨w1, w2, hP, hD, hS, w6, w7⟩
theorem cst (w : Wh D K b0 sa s H locs L f) {E : String} (hw : Cond.castable E E ∈ nw3) : (Cond.castable E E).before args s = true := by
  have h1 := List.all_eq_true.mp nw3_ok _ hw
  rw [Bool.and_eq_true] at h1
  exact va_Nw.use h1.2 (w.2.2.2.2.2.1.2.2.2.2 _ hw)
/-- script[j] -/
theorem t_sld (hx : p.tables.exec = Jvm.exec) (hb : c.code = cc) {b N : Nat} {xs : Nat → Int32} (hX : va_X b N xs s s.heap) (hbl : b < s.heap.size) (w : Wh D K s.heap.size sa s H locs L f) {i : Int32} {j : Nat} (hj : i.toNatClampNeg = j) (hin : vp_in i N) (hdg : decode cc pc = .ok (.iaload, 1))
    (kk : W p l e R s m args below meth c H locs cells slots Q (F0 m (pc + 1) ls (.int (xs j) :: rest))) : W p l e R s m args below meth c H locs cells slots Q (F0 m pc ls (.int i :: .ref b :: rest)) := by
  subst hj
  exact va_sld (A := fun q => s.heap.size ≤ q) hx hb hX hbl (Nat.not_le.mpr hbl) w.2.2.2.2.1 hin hdg kk
end LW
theorem cs_iae : Cond.castable "java/lang/IllegalArgumentException" "java/lang/IllegalArgumentException" ∈ nw3 := by decide +kernel
theorem cs_iob : Cond.castable "java/lang/IndexOutOfBoundsException" "java/lang/IndexOutOfBoundsException" ∈ nw3 := by decide +kernel
theorem cs_nse : Cond.castable "java/util/NoSuchElementException" "java/util/NoSuchElementException" ∈ nw3 := by decide +kernel
theorem nI_ad2 (i j : Nat) : nI i + nI j = nI (i + j) := by
  unfold nI
  exact (Int32.ofNat_add i j).symm
/-- the law's own: its code, its script -/
def LwC (p : Program) (s : State) (m : MethodId) (meth : Method) (c : Code) (b N : Nat) (xs : Nat → Int32) : Prop := CallFix p m c cL_law 7 s #[Value.ref b] gt RL ∧ va_X b N xs s s.heap ∧ b < s.heap.size ∧ meth.sig.returnType = ret ∧ meth.locks = false ∧ N ≤ 3072
/-- class, model and out in the memory S -/
def LwB (D : va_G) (K : Nat → ClassId) (sa : sT) (s : State) (o : Nat) (S : fS) (H : Heap) (locs : List Loc) (ad : Nat → Nat → Nat) (n : Nat × Nat) (L : List Nat) (f : Nat → va_E) : Prop :=
  Wh D K s.heap.size sa s H locs L f ∧ PW K ad (isn n) S L f ∧ S.2.2.1 = n ∧ 0 < n.1 ∧ o ∈ L ∧ (∀ a i : Nat, isn n a i → ad a i ≠ o) ∧ ∃ g : Nat → Int64, f o = .inl (K 6, 1, .inr (.inl g))
def LwK (D : va_G) (K : Nat → ClassId) (sa : sT) (p : Program) (l : Launch) (e : Env) (s : State) (m : MethodId) (below : List Frame) (meth : Method) (c : Code) (b o i : Nat) (S : fS) (cells slots : Nat) (Q : State → Prop) (pc : Nat) : Prop :=
  ∀ (ad : Nat → Nat → Nat) (n : Nat × Nat) (L : List Nat) (f : Nat → va_E) (H : Heap) (locs : List Loc) (ls : Array Slot), LwB D K sa s o S H locs ad n L f → lv_has ls 7 [(0, .ref b), (1, .ref (ad 0 0)), (2, .ref (ad 40 0)), (3, .ref o), (4, .int (nI i))] → W p l e room_1 s m #[Value.ref b] below meth c H locs cells slots Q (F0 m pc ls [])
section NC
variable {s : State} {D : va_G} {K : Nat → ClassId} {b0 : Nat} {sa : sT} {H : Heap} {locs : List Loc} {L : List Nat} {f : Nat → va_E}
theorem hnc_iae_iob (w : Wh D K b0 sa s H locs L f) : va_Nc "java/lang/IllegalArgumentException" "java/lang/IndexOutOfBoundsException" s := w.2.2.2.2.2.1.2.2.2.1.2.2.1
theorem hnc_iob_nse (w : Wh D K b0 sa s H locs L f) : va_Nc "java/lang/IndexOutOfBoundsException" "java/util/NoSuchElementException" s := w.2.2.2.2.2.1.2.2.2.1.2.2.2.1
theorem hnc_iae_nse (w : Wh D K b0 sa s H locs L f) : va_Nc "java/lang/IllegalArgumentException" "java/util/NoSuchElementException" s := w.2.2.2.2.2.1.2.2.2.1.2.2.2.2
end NC
