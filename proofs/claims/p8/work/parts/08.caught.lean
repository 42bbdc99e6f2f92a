/-! a throw that comes back from a call is caught by a row of this method's own table, its classes linked or not -/
section CT
variable {e : Env} {s0 : State} {fr : JFrame} {a : Addr}
/-- what the search for a handler gives, and the tables that it leaves -/
def ct_To (e : Env) (S : State) (fr : JFrame) (a : Addr) (h : Handler) (vm' : Vm) : Prop :=
  ∀ (Q : Handler → Pre) (E : CtlPost) (d : Bool) (acts : List Action), wp (findHandler fr a) Q E e d acts S ↔ Q h d acts (S.setVm vm')
/-- a row that lets the thing by -/
def ct_By (pl : Platform) (s0 : State) (d : ClassId) (pc : Nat) (th : ClassId) (z : ExceptionTableEntry) : Prop :=
  covers z pc = false ∨ (z.catchType ≠ 0 ∧ ∃ k, s0.vm.ClassLinks pl d z.catchType k ∧ s0.vm.assignable th k = false)
theorem ct_row {S : State} {x : ExceptionTableEntry} {t : List ExceptionTableEntry} {k : ClassId} {cell : Cell} {b : Bool} (hx : covers x fr.pc = true) (h0 : x.catchType ≠ 0)
    (hl : S.vm.ClassLinks e.platform fr.method.cls x.catchType k) (hcell : S.heap[a]? = some cell) (hobj : ∀ k, cell.vm ≠ .statics k)
    (h1 : ∃ k, S.vm.classes[cell.cls]? = some k) (h2 : ∃ kk, S.vm.classes[k]? = some kk) (hb : S.vm.assignable cell.cls k = b) (Q : Handler → Pre) (E : CtlPost) (d : Bool) (acts : List Action) :
    wp (findHandler.go fr a (x :: t)) Q E e d acts S ↔ (if b = true then Q (.found x.handlerPc) d acts (S.setVm (S.vm.noted fr.method.cls x.catchType (.cls k))) else wp (findHandler.go fr a t) Q E e d acts (S.setVm (S.vm.noted fr.method.cls x.catchType (.cls k)))) := by
  simp only [covers] at hx
  obtain ⟨r1, r2⟩ := (resolveClass_links e.toSetting hl).op (op := VmOp.resolveClass fr.method.cls x.catchType) rfl
  have al : S.vm.Alike (S.vm.noted fr.method.cls x.catchType (.cls k)) := (Vm.Alike.refl S.vm).noted _ _ _
  obtain ⟨q1, g1⟩ := h1
  obtain ⟨q2, g2⟩ := h2
  obtain ⟨q1', g1', -⟩ := al.2.2 _ _ g1
  obtain ⟨q2', g2', -⟩ := al.2.2 _ _ g2
  have hb' : (S.vm.noted fr.method.cls x.catchType (.cls k)).assignable cell.cls k = b := by rw [al.assignable]; exact hb
  cases b <;> simp [findHandler.go, hx, h0, r1, r2, hcell, hobj, g1', g2', hb', VmOp.dirties, VmOp.acts]
theorem ct_rows {cell : Cell} (hobj : ∀ k, cell.vm ≠ .statics k) (hk0 : ∃ k, s0.vm.classes[cell.cls]? = some k) (x : ExceptionTableEntry) (suf : List ExceptionTableEntry) (hx : covers x fr.pc = true) (h0 : x.catchType ≠ 0) {kx : ClassId}
    (hlx : s0.vm.ClassLinks e.platform fr.method.cls x.catchType kx) (hfit : s0.vm.assignable cell.cls kx = true) : ∀ (pre : List ExceptionTableEntry) (S : State), s0.WarmedH S.vm → S.heap[a]? = some cell → (∀ z ∈ pre, ct_By e.platform s0 fr.method.cls fr.pc cell.cls z) →
      ∃ vm', s0.WarmedH vm' ∧ ∀ (Q : Handler → Pre) (E : CtlPost) (d : Bool) (acts : List Action), wp (findHandler.go fr a (pre ++ x :: suf)) Q E e d acts S ↔ Q (.found x.handlerPc) d acts (S.setVm vm')
  | [], S, hW, hcell, _ => by
    obtain ⟨k0, hk⟩ := hk0
    obtain ⟨k0', hk', -⟩ := hW.alike.2.2 _ _ hk
    obtain ⟨dk, _, _, kt, hd, _, _, _, _, hkt, _, hopen⟩ := hlx.here
    obtain ⟨kt', hkt', -⟩ := hW.alike.2.2 _ _ hkt
    refine ⟨_, hW.noted hd hopen (State.rightAt_cls hlx), fun Q E d acts => ?_⟩
    rw [List.nil_append, ct_row (b := true) hx h0 (hW.classLinks hlx) hcell hobj ⟨k0', hk'⟩ ⟨kt', hkt'⟩ (by rw [hW.alike.assignable]; exact hfit) Q E d acts, if_pos rfl]
  | z :: zs, S, hW, hcell, hby => by
    have hrest : ∀ w ∈ zs, ct_By e.platform s0 fr.method.cls fr.pc cell.cls w := fun w hw => hby w (List.mem_cons_of_mem _ hw)
    by_cases hc : covers z fr.pc = true
    · rcases hby z List.mem_cons_self with h | ⟨hz0, k, hl, hno⟩
      · rw [h] at hc
        cases hc
      · obtain ⟨k0, hk⟩ := id hk0
        obtain ⟨k0', hk', -⟩ := hW.alike.2.2 _ _ hk
        obtain ⟨dk, _, _, kt, hd, _, _, _, _, hkt, _, hopen⟩ := hl.here
        obtain ⟨kt', hkt', -⟩ := hW.alike.2.2 _ _ hkt
        obtain ⟨vm', hW', hq⟩ := ct_rows hobj hk0 x suf hx h0 hlx hfit zs (S.setVm (S.vm.noted fr.method.cls z.catchType (.cls k))) (hW.noted hd hopen (State.rightAt_cls hl)) hcell hrest
        refine ⟨vm', hW', fun Q E d acts => ?_⟩
        rw [List.cons_append, ct_row (b := false) hc hz0 (hW.classLinks hl) hcell hobj ⟨k0', hk'⟩ ⟨kt', hkt'⟩ (by rw [hW.alike.assignable]; exact hno) Q E d acts, if_neg (by decide)]
        exact hq Q E d acts
    · obtain ⟨vm', hW', hq⟩ := ct_rows hobj hk0 x suf hx h0 hlx hfit zs S hW hcell hrest
      refine ⟨vm', hW', fun Q E d acts => ?_⟩
      rw [List.cons_append, Jvm.W.findHandler_go_skip (by simpa using hc)]
      exact hq Q E d acts
theorem ct_step {S : State} {r : List Frame} {pc : Nat} {vm' : Vm} (h : ct_To e S fr a (.found pc) vm') : (stepThrowing e S a (.java fr :: r)).Is ((S.setVm vm').setFrames (.java { fr with pc := pc, stack := [.ref a] } :: r)) [] := by
  simp only [stepThrowing, searchFrame, vmDo]
  generalize hr : Sem.go _ e false [] S = res
  obtain ⟨acts, rfl, hb⟩ := Sem.eq_ok_of hr (a := Handler.found pc) (s' := S.setVm vm') (acts' := []) (by simp [h _ _ _ _])
  exact ⟨rfl, hb⟩
theorem ct_steps {tb : Tables} {S target : State} {c : Code} {below : List Frame} (h : At S fr.method c below) {pc : Nat} {vm' : Vm} (hf : ct_To e ((S.setTop fr).pushFrame (.throwing a)) fr a (.found pc) vm') (hrest : Steps tb e below ((S.setVm vm').setTop { fr with pc := pc, stack := [.ref a] }) target) :
    Steps tb e below ((S.setTop fr).pushFrame (.throwing a)) target := by
  obtain ⟨hgo, hw⟩ := h.throwing a
  refine Steps.head hgo hw ?_
  rw [stepThread_throwing (frames_entered h.top _), (ct_step (S := (S.setTop fr).pushFrame (.throwing a)) hf).1]
  obtain ⟨g0, hg⟩ := Option.isSome_iff_exists.mp h.top
  obtain ⟨r, hr⟩ := State.topJava?_eq_some.mp hg
  have hr' : (S.setVm vm').frames = .java g0 :: r := hr
  have two : ∀ (u : State) (F F2 : List Frame), ((u.setFrames F).setVm vm').setFrames F2 = (u.setVm vm').setFrames F2 := fun u F F2 => by
    show ((u.setVm vm').setFrames F).setFrames F2 = _
    rw [State.setFrames_setFrames]
  rw [State.setTop_of_frames _ hr'] at hrest
  rw [hr, List.tail_cons, State.pushFrame, two, State.setTop_of_frames _ hr, two]
  exact hrest
end CT
section CT2
variable {p : Program} {l : Launch} {e : Env} {R : Room} {s : State} {m : MethodId} {args : Array Value} {below : List Frame} {meth : Method} {c : Code} {H : Heap} {locs : List Loc} {cells slots : Nat} {Q : State → Prop} {pc : Nat} {ls : Array Slot} {rest : List Value}
theorem t_catch {own name E : String} {ce : Cell} {q : Addr} (hown : s.vm.findClass own = some m.cls) (pre : List ExceptionTableEntry) (x : ExceptionTableEntry) (suf : List ExceptionTableEntry) (hsplit : c.exceptionTable.toList = pre ++ x :: suf)
    (hby : ∀ z ∈ pre, covers z pc = false ∨ (z.catchType ≠ 0 ∧ ∃ nm : String, (Cond.classLink own z.catchType nm).before args s = true ∧ va_Nc E nm s)) (hx : covers x pc = true) (h0 : x.catchType ≠ 0)
    (hlink : (Cond.classLink own x.catchType name).before args s = true) (hcast : (Cond.castable E name).before args s = true) (hcell : H[q]? = some ce) (hv : ce.vm = .none) (hcl : s.vm.findClass E = some ce.cls)
    (kk : W p l e R s m args below meth c H locs cells slots Q (F0 m x.handlerPc ls [.ref q])) : vx_W p l e R s m args below meth c H locs cells slots Q (F0 m pc ls rest) q := by
  intro T hT X
  have hpl : e.platform.magicAccessors = ({} : Platform).magicAccessors := by rw [X.admits.platform]
  obtain ⟨c3, c4, hc3, hc4, hasg⟩ := Cond.castable_spec hcast
  cases Option.some.inj (hc3.symm.trans hcl)
  obtain ⟨c5, hc5, hcl5⟩ := Cond.classLink_spec hown hlink e.platform hpl
  cases Option.some.inj (hc4.symm.trans hc5)
  obtain ⟨k9, h9, -⟩ := Vm.findClass_spec hcl
  obtain ⟨vm', hW', hq⟩ := ct_rows (e := e) (s0 := s) (fr := F0 m pc ls rest) (a := q) (cell := ce) (VmData.ne_statics_of (by rw [hv]; rfl)) ⟨k9, h9⟩ x suf hx h0 hcl5 hasg pre ((T.setTop (F0 m pc ls rest)).pushFrame (.throwing q)) X.warmed (by rw [Stand.throwing_heap, hT]; exact hcell) (fun z hz => by
    rcases hby z hz with h | ⟨hz0, nm, hl1, hn1⟩
    · exact Or.inl h
    · obtain ⟨c6, hc6, hcl6⟩ := Cond.classLink_spec hown hl1 e.platform hpl
      obtain ⟨a8, b8, h1, h2, h3⟩ := hn1
      cases Option.some.inj (h1.symm.trans hcl)
      cases Option.some.inj (h2.symm.trans hc6)
      exact Or.inr ⟨hz0, _, hcl6, h3⟩)
  obtain ⟨t, a1, b1⟩ := kk (T.setVm vm') hT (X.noted hW')
  refine ⟨t, ct_steps (fr := F0 m pc ls rest) (a := q) (c := c) X.here (pc := x.handlerPc) (vm' := vm') (fun Q2 E2 d acts => ?_) a1, b1⟩
  rw [Jvm.W.findHandler_eq (meth := meth) (code := c) X.method' X.code, hsplit]
  exact hq Q2 E2 d acts
end CT2
