/-! the law's own rows: methods with a table of their own that throw nothing, its long array (a raw cell) -/
section LW
variable {p : Program} {l : Launch} {e : Env} {R : Room} {s : State} {m : MethodId} {args : Array Value} {below : List Frame} {meth : Method} {c : Code} {H : Heap} {locs : List Loc} {cells slots : Nat} {Q : State → Prop}
variable {cc : ByteArray} {pc nL : Nat} {ls : Array Slot} {rest st0 : List Value} {D : va_G} {K : Nat → ClassId} {b0 : Nat} {sa : Nat × Nat × Nat} {L : List Nat} {f : Nat → va_E} {G : tG} {Ψ : Nat → Nat} {own : String}
variable {y : MethodName} {bytes : ByteArray} {maxL n mc ms index : Nat} {ret : Option FieldType} {hh : List (Nat × Nat × Nat × Nat)} {rm : Room} {As : List Value} {post : Option Value → tU → Prop}
theorem t_hof {sz : Nat} (hy : plainName y.cls = true) (hcls : y.cls = own)
    (body : ∀ (p : Program) (e : Env) (s : State) (m : MethodId) (below : List Frame) (meth : Method) (c : Code) (ls : Array Slot), CallFix p m c bytes maxL s As.toArray gt own → Wh D K b0 sa s s.heap [] L f → s.heap.size = sz → meth.sig.returnType = ret → meth.locks = false → c.exceptionTable.toList = tableOf hh → lv_has ls maxL (lv_args 0 As) →
      W p l e rm s m As.toArray below meth c s.heap [] 0 0 (MQ below (hQ D K b0 post) As.toArray s mc ms (fun q => b0 ≤ q)) (F0 m 0 ls [])) (hlen : (lg_sl As).length ≤ maxL) :
    Met l y (.codeWith y bytes maxL ret hh :: gt) rm (va_Pc As (hPre D K b0 sa sz L f)) (hQ D K b0 post) mc ms (fun q => b0 ≤ q) := by
  refine MetFree.of_bodyS (code := bytes) (maxLocals := maxL) (ret := ret) hy ?_ ?_
  · intro args s m h hn
    obtain ⟨m9, meth, c, hn9, h1, h2, h3, h4, -, h5, h6, -⟩ := Cond.codeWith_spec (atoms_spec (ws := .codeWith y bytes maxL ret hh :: gt) h _ List.mem_cons_self)
    cases hn.symm.trans hn9
    exact ⟨meth, c, h1, h2, h3, h4, h5, h6⟩
  · intro p e s m args below meth c s₁ B hml hP _
    have hh0 : s₁.heap = s.heap := by rw [B.state]; rfl
    obtain ⟨rfl, hsz, hb0, ⟨q1, q2, q3⟩, hN, hZ⟩ := hP
    have hts := atoms_spec (ws := .codeWith y bytes maxL ret hh :: gt) B.pre
    have hown : s.vm.findClass own = some m.cls := by rw [← hcls]; exact findClass_of_methodNamed B.named
    have hl := lv_entry As (n := maxL) hlen
    have hW := body p e s m below meth c _ ⟨B.exec, B.bytes, hml, hown, fun w hw => hts w (List.mem_cons_of_mem _ hw)⟩ ⟨by rw [hsz]; exact hb0, q2, q1, q3, va_S.rf, hN, hZ⟩ hsz B.returns B.notSynchronized (vx_table (x := y) B (hts _ List.mem_cons_self)) hl
    rw [← lg_entry_eq] at hW
    obtain ⟨t, a1, o, b1, b2, b3⟩ := hW s₁ hh0 (Stand.of_body B)
    exact ⟨t, o, a1, b1, b2, ⟨b3.1, b3.2⟩⟩
/-- the law's call of such a method -/
theorem t_callH (C : CallFix p m c cc nL s args gt own) (w : Wh D K b0 sa s H locs L f) (hM : Met l y (.codeWith y bytes maxL ret hh :: gt) rm (va_Pc As (hPre D K b0 sa H.size L f)) (hQ D K b0 post) mc ms (fun q => b0 ≤ q))
    (k1 : Cond.codeWith y bytes maxL ret hh ∈ gt) (k2 : Cond.methodLink own index y ∈ gt) (k3 : Cond.static y ∈ gt) (k4 : Cond.initialized y.cls ∈ gt) (hd : plainY y n) (hrc : rm.cells = mc) (hrs : rm.slots = ms) (hR : rm.frames + 1 ≤ R.frames ∧ 8 + (maxL + 11) + rm.locals ≤ R.locals)
    (hn : As.length = n) (hsz : ls.size = nL) (hst : st0 = As.reverse ++ rest) (hW : (rest.map fun v => v.category).sum ≤ 8) (hdg : decode cc pc = .ok (.invokestatic index, 3)) (hf : cells + mc ≤ R.cells ∧ slots + ms ≤ R.slots)
    (kk : ∀ (v : Option Value) (u : tU) (H1 : Heap) (locs1 : List Loc), post v u → Wh D K b0 sa s H1 locs1 u.2.2.1 u.2.2.2 → W p l e R s m args below meth c H1 locs1 (cells + mc) (slots + ms) Q (F0 m (pc + 3) ls (v.toList ++ rest))) : W p l e R s m args below meth c H locs cells slots Q (F0 m pc ls st0) := by
  have hG := gt_in k1
  refine t_go w (vx_runSW (As := As) (rest := rest) (hh := hh) (bytes := bytes) (maxL := maxL) (ret := ret) (n := n) C hM ⟨⟨hrc, hrs, hR.1, hR.2, pay_in C.2.2.2.2 hG, List.mem_cons_self⟩, C.2.2.2.2 _ k1, C.2.2.2.2 _ k4, ⟨hd.1, hd.2.1⟩, fun sig h => ?_, C.2.2.2.2 _ k2, C.2.2.2.2 _ k3⟩ ⟨hPre.blind, fun U hU hW => ⟨rfl, w.pre hU hW⟩⟩ rfl hn hsz hst (lv_room hW) hdg hf) kk
  have h2 := hd.2.2
  rw [h] at h2
  exact (Option.some.inj h2).symm
/-- out[0] = x -/
theorem t_lastR (C : CallFix p m c cc nL s args gt own) (w : Wh D K b0 sa s H locs L f) (hT : TW K G Ψ L f) {a : Nat} {g : Nat → Int64} (ha : a ∈ L) (h9 : Ψ a = 9) (hf : f a = .inl (K 6, 1, .inr (.inl g))) {x : Int64} (hdg : decode cc pc = .ok (.lastore, 1))
    (kk : ∀ (f1 : Nat → va_E) (H1 : Heap) (locs1 : List Loc), Wh D K b0 sa s H1 locs1 L f1 → TW K G Ψ L f1 → (∃ g1 : Nat → Int64, f1 a = .inl (K 6, 1, .inr (.inl g1)) ∧ g1 0 = x) → (∀ b : Nat, b ≠ a → f1 b = f b) → W p l e R s m args below meth c H1 locs1 cells slots Q (F0 m (pc + 1) ls rest)) : W p l e R s m args below meth c H locs cells slots Q (F0 m pc ls (.long x :: .int 0 :: .ref a :: rest)) := by
  obtain ⟨hx, hb, hml, hown, hts⟩ := C
  obtain ⟨w1, w2, w3, w4, w5, w6, w7⟩ := w
  obtain ⟨k0, hk0⟩ := va_pl_get (X := []) (f := f) ha
  have hk1 : ([] ++ va_pl L f)[k0]? = some (a, .inl (K 6, 1, .inr (.inl g))) := by rw [hk0, hf]
  refine va_last (A := fun q => b0 ≤ q) (ws := [] ++ va_pl L f) hx hb w2 w3 w4 w5 k0 6 hk1 rfl (vp_in_iff.mpr ⟨by decide, by decide⟩) hdg (fun H1 locs1 hP hD hS => ?_)
  rw [va_pl_set (X := []) w4 ha hk0] at hP hD
  exact kk _ H1 locs1 ⟨w1, w2, hP, hD, hS, w6, w7⟩ (hT.raw h9) ⟨_, va_up_self _ _ _, rfl⟩ (fun b hb => va_up_ne _ _ hb)
/-- out[0] -/
theorem t_laldR (C : CallFix p m c cc nL s args gt own) (w : Wh D K b0 sa s H locs L f) {a : Nat} {g : Nat → Int64} (ha : a ∈ L) (hf : f a = .inl (K 6, 1, .inr (.inl g))) {x : Int64} (hg : g 0 = x) (hdg : decode cc pc = .ok (.laload, 1))
    (kk : W p l e R s m args below meth c H locs cells slots Q (F0 m (pc + 1) ls (.long x :: rest))) : W p l e R s m args below meth c H locs cells slots Q (F0 m pc ls (.int 0 :: .ref a :: rest)) := by
  obtain ⟨hx, hb, hml, hown, hts⟩ := C
  obtain ⟨w1, w2, w3, w4, w5, w6, w7⟩ := w
  obtain ⟨k0, hk0⟩ := va_pl_get (X := []) (f := f) ha
  rw [hf] at hk0
  subst hg
  exact va_lald (ws := [] ++ va_pl L f) hx hb w2 w3 k0 6 hk0 rfl (vp_in_iff.mpr ⟨by decide, by decide⟩) hdg kk
end LW
