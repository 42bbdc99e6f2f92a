section TR2
variable {p : Program} {l : Launch} {e : Env} {R : Room} {s : State} {m : MethodId} {args : Array Value} {below : List Frame} {meth : Method} {c : Code} {H : Heap} {locs : List Loc} {cells slots : Nat} {Q : State → Prop}
variable {cc : ByteArray} {pc nL : Nat} {ls : Array Slot} {rest st0 : List Value} {D : va_G} {K : Nat → ClassId} {b0 : Nat} {sa : sT} {L : List Nat} {f : Nat → va_E} {G : tG} {Ψ : Nat → Nat} {own : String}
/-- an int array's place -/
theorem t_iald (C : CallFix p m c cc nL s args gt own) (w : Wh D K b0 sa s H locs L f) (hT : TW K G Ψ L f) {a t : Nat} (ha : a ∈ L) (ht : Ψ a = t) (hk : tkd t = 1) (hti : tti t = 0) {id : Nat} (hid : 100 * t = id) {i : Int32} (hin : vp_in i (tln t)) (hdg : decode cc pc = .ok (.iaload, 1))
    (kk : ∀ x : Int32, G id i.toNatClampNeg x → W p l e R s m args below meth c H locs cells slots Q (F0 m (pc + 1) ls (.int x :: rest))) : W p l e R s m args below meth c H locs cells slots Q (F0 m pc ls (.int i :: .ref a :: rest)) := by
  obtain ⟨hx, hb, hml, hown, hts⟩ := C
  obtain ⟨w1, w2, w3, w4, w5, w6, w7⟩ := w
  have h := hT a ha
  rw [ht, tye_1 hk] at h
  obtain ⟨g, e, hg⟩ := h
  obtain ⟨k0, hk0⟩ := va_pl_get (X := []) (f := f) ha
  rw [e, hti] at hk0
  have hlt : i.toNatClampNeg < tln t := Nat.not_le.mp fun q => hin (Or.inr q)
  subst hid
  exact va_iald (ws := [] ++ va_pl L f) hx hb w2 w3 k0 0 hk0 rfl hin hdg (kk _ (hg _ hlt))
theorem t_zald (C : CallFix p m c cc nL s args gt own) (w : Wh D K b0 sa s H locs L f) (hT : TW K G Ψ L f) {a t : Nat} (ha : a ∈ L) (ht : Ψ a = t) (hk : tkd t = 1) (hti : tti t = 1) {id : Nat} (hid : 100 * t = id) {i : Int32} (hin : vp_in i (tln t)) (hdg : decode cc pc = .ok (.baload, 1))
    (kk : ∀ x : Int32, G id i.toNatClampNeg x → W p l e R s m args below meth c H locs cells slots Q (F0 m (pc + 1) ls (.int x :: rest))) : W p l e R s m args below meth c H locs cells slots Q (F0 m pc ls (.int i :: .ref a :: rest)) := by
  obtain ⟨hx, hb, hml, hown, hts⟩ := C
  obtain ⟨w1, w2, w3, w4, w5, w6, w7⟩ := w
  have h := hT a ha
  rw [ht, tye_1 hk] at h
  obtain ⟨g, e, hg⟩ := h
  obtain ⟨k0, hk0⟩ := va_pl_get (X := []) (f := f) ha
  rw [e, hti] at hk0
  have hlt : i.toNatClampNeg < tln t := Nat.not_le.mp fun q => hin (Or.inr q)
  subst hid
  exact va_zald (ws := [] ++ va_pl L f) hx hb w2 w3 k0 1 hk0 rfl hin hdg (kk _ (hg _ hlt))
theorem t_iast (C : CallFix p m c cc nL s args gt own) (w : Wh D K b0 sa s H locs L f) (hT : TW K G Ψ L f) {a t : Nat} (ha : a ∈ L) (ht : Ψ a = t) (hk : tkd t = 1) (hti : tti t = 0) {id : Nat} (hid : 100 * t = id) {i x : Int32} (hin : vp_in i (tln t)) (hG : G id i.toNatClampNeg x) (hdg : decode cc pc = .ok (.iastore, 1))
    (kk : ∀ (f' : Nat → va_E) (H1 : Heap) (locs1 : List Loc), Wh D K b0 sa s H1 locs1 L f' → TW K G Ψ L f' → rawk Ψ L f f' → W p l e R s m args below meth c H1 locs1 cells slots Q (F0 m (pc + 1) ls rest)) : W p l e R s m args below meth c H locs cells slots Q (F0 m pc ls (.int x :: .int i :: .ref a :: rest)) := by
  obtain ⟨hx, hb, hml, hown, hts⟩ := C
  obtain ⟨w1, w2, w3, w4, w5, w6, w7⟩ := w
  have h := hT a ha
  rw [ht, tye_1 hk] at h
  obtain ⟨g, e, hg⟩ := h
  obtain ⟨k0, hk0⟩ := va_pl_get (X := []) (f := f) ha
  have hk1 : ([] ++ va_pl L f)[k0]? = some (a, .inl (K 0, tln t, .inl g)) := by rw [hk0, e, hti]
  subst hid
  refine va_iast (A := fun q => b0 ≤ q) (ws := [] ++ va_pl L f) hx hb w2 w3 w4 w5 k0 0 hk1 rfl hin hdg (fun H1 locs1 hP hD hS => ?_)
  rw [va_pl_set (X := []) w4 ha hk0] at hP hD
  refine kk _ H1 locs1 ⟨w1, w2, hP, hD, hS, w6, w7⟩ (hT.up ?_) (rawk.rf.up (by rw [ht]; exact tkd_ne hk (by decide)))
  rw [ht, tye_1 hk]
  refine ⟨upd g i.toNatClampNeg x, by rw [hti], fun j hj => ?_⟩
  by_cases q : j = i.toNatClampNeg
  · subst q
    rw [pk_us]
    exact hG
  · rw [pk_un q]
    exact hg j hj
theorem t_zast (C : CallFix p m c cc nL s args gt own) (w : Wh D K b0 sa s H locs L f) (hT : TW K G Ψ L f) {a t : Nat} (ha : a ∈ L) (ht : Ψ a = t) (hk : tkd t = 1) (hti : tti t = 1) {id : Nat} (hid : 100 * t = id) {i x : Int32} (hin : vp_in i (tln t)) (hG : G id i.toNatClampNeg (vp_nar .boolean x)) (hdg : decode cc pc = .ok (.bastore, 1))
    (kk : ∀ (f' : Nat → va_E) (H1 : Heap) (locs1 : List Loc), Wh D K b0 sa s H1 locs1 L f' → TW K G Ψ L f' → rawk Ψ L f f' → W p l e R s m args below meth c H1 locs1 cells slots Q (F0 m (pc + 1) ls rest)) : W p l e R s m args below meth c H locs cells slots Q (F0 m pc ls (.int x :: .int i :: .ref a :: rest)) := by
  obtain ⟨hx, hb, hml, hown, hts⟩ := C
  obtain ⟨w1, w2, w3, w4, w5, w6, w7⟩ := w
  have h := hT a ha
  rw [ht, tye_1 hk] at h
  obtain ⟨g, e, hg⟩ := h
  obtain ⟨k0, hk0⟩ := va_pl_get (X := []) (f := f) ha
  have hk1 : ([] ++ va_pl L f)[k0]? = some (a, .inl (K 1, tln t, .inl g)) := by rw [hk0, e, hti]
  subst hid
  refine va_zast (A := fun q => b0 ≤ q) (ws := [] ++ va_pl L f) hx hb w2 w3 w4 w5 k0 1 hk1 rfl hin hdg (fun H1 locs1 hP hD hS => ?_)
  rw [va_pl_set (X := []) w4 ha hk0] at hP hD
  refine kk _ H1 locs1 ⟨w1, w2, hP, hD, hS, w6, w7⟩ (hT.up ?_) (rawk.rf.up (by rw [ht]; exact tkd_ne hk (by decide)))
  rw [ht, tye_1 hk]
  refine ⟨upd g i.toNatClampNeg (vp_nar .boolean x), by rw [hti], fun j hj => ?_⟩
  by_cases q : j = i.toNatClampNeg
  · subst q
    rw [pk_us]
    exact hG
  · rw [pk_un q]
    exact hg j hj
theorem t_aaldW (C : CallFix p m c cc nL s args gt own) (w : Wh D K b0 sa s H locs L f) {a : Nat} (ha : a ∈ L) {ti n : Nat} {g : Nat → Option Nat} {ty : FieldType} (hf : f a = .inl (K ti, n, .inr (.inr (.inr (.inr g))))) (hty : (tyl K)[ti]? = some (K ti, ty)) (href : refKind ty = true) {i : Int32} (hin : vp_in i n) (hdg : decode cc pc = .ok (.aaload, 1))
    (kk : W p l e R s m args below meth c H locs cells slots Q (F0 m (pc + 1) ls (va_rf (g i.toNatClampNeg) :: rest))) : W p l e R s m args below meth c H locs cells slots Q (F0 m pc ls (.int i :: .ref a :: rest)) := by
  obtain ⟨hx, hb, hml, hown, hts⟩ := C
  obtain ⟨w1, w2, w3, w4, w5, w6, w7⟩ := w
  obtain ⟨k0, hk0⟩ := va_pl_get (X := []) (f := f) ha
  rw [hf] at hk0
  have hlt : i.toNatClampNeg < n := Nat.not_le.mp fun q => hin (Or.inr q)
  exact W.aald (v := va_rf (g i.toNatClampNeg)) (ty := ty) hx hb (w3 k0 _ hk0) ((w2.2 ti _ hty).1 n (fun j => va_rf (g j))) href (fun q => by cases q) (by show ¬ (i < 0 ∨ (arrV _ _ _).slots.size ≤ _); rw [arrV_size]; exact hin) (by show (arrV _ _ _).slots[_]? = _; rw [arrV_read _ _ hlt]) rfl rfl hdg kk
/-- a place of an array of references that are never null -/
theorem t_aald (C : CallFix p m c cc nL s args gt own) (w : Wh D K b0 sa s H locs L f) (hT : TW K G Ψ L f) {a t : Nat} (ha : a ∈ L) (ht : Ψ a = t) (hk : tkd t = 2) {ty : FieldType} (hty : (tyl K)[tti t]? = some (K (tti t), ty)) (href : refKind ty = true) {i : Int32} (hin : vp_in i (tln t)) {t2 : Nat} (ht2 : tpr t = t2) (hdg : decode cc pc = .ok (.aaload, 1))
    (kk : ∀ q : Nat, q ∈ L → Ψ q = t2 → W p l e R s m args below meth c H locs cells slots Q (F0 m (pc + 1) ls (.ref q :: rest))) : W p l e R s m args below meth c H locs cells slots Q (F0 m pc ls (.int i :: .ref a :: rest)) := by
  have h := hT a ha
  rw [ht, tye_2 hk] at h
  obtain ⟨g, e, hg⟩ := h
  have hlt : i.toNatClampNeg < tln t := Nat.not_le.mp fun q => hin (Or.inr q)
  obtain ⟨q, hq, hqL, hqt⟩ := hg _ hlt
  refine t_aaldW C w ha e hty href hin hdg ?_
  rw [hq]
  exact kk q hqL (hqt.trans ht2)
theorem t_alen (C : CallFix p m c cc nL s args gt own) (w : Wh D K b0 sa s H locs L f) (hT : TW K G Ψ L f) {a t : Nat} (ha : a ∈ L) (ht : Ψ a = t) (hk : tkd t = 1) {ty : FieldType} (hty : (tyl K)[tti t]? = some (K (tti t), ty)) {v : Int32} (hv : Int32.ofNat (tln t) = v) (hdg : decode cc pc = .ok (.arraylength, 1))
    (kk : W p l e R s m args below meth c H locs cells slots Q (F0 m (pc + 1) ls (.int v :: rest))) : W p l e R s m args below meth c H locs cells slots Q (F0 m pc ls (.ref a :: rest)) := by
  obtain ⟨hx, hb, hml, hown, hts⟩ := C
  obtain ⟨w1, w2, w3, w4, w5, w6, w7⟩ := w
  have h := hT a ha
  rw [ht, tye_1 hk] at h
  obtain ⟨g, e, hg⟩ := h
  obtain ⟨k0, hk0⟩ := va_pl_get (X := []) (f := f) ha
  rw [e] at hk0
  exact va_alen (ws := [] ++ va_pl L f) hx hb w2 w3 k0 (tti t) hk0 hty hv hdg kk
/-- behind a call -/
theorem t_go {mc ms : Nat} {a : Array Value} {post : Option Value → tU → Prop} (w : Wh D K b0 sa s H locs L f) (hr : va_Run p l e R s m args below meth c H locs cells slots mc ms (F0 m pc ls st0) rest (hQ D K b0 post a) (fun q => b0 ≤ q))
    (kk : ∀ (v : Option Value) (u : tU) (H1 : Heap) (locs1 : List Loc), post v u → Wh D K b0 sa s H1 locs1 u.2.2.1 u.2.2.2 → W p l e R s m args below meth c H1 locs1 (cells + mc) (slots + ms) Q (F0 m (pc + 3) ls (v.toList ++ rest))) : W p l e R s m args below meth c H locs cells slots Q (F0 m pc ls st0) := by
  intro T hT X
  obtain ⟨v, st₀, t, T', L', h0, X', hL, e1, e2, ⟨⟨v', u, hv, hp, hb⟩, hF⟩, st⟩ := hr T hT X
  cases hv
  obtain ⟨w1, w2, w3, w4, w5, w6, w7⟩ := w
  obtain ⟨k1, k2, k3⟩ := vx_keep h0 e1 w5 (fun q _ h => h) (fun q h => h) hL hF
  obtain ⟨t2, a1, b1⟩ := kk v u T'.heap (locs ++ L') hp ⟨w1, w2, by rw [e1]; exact hb.1, hb.2.2, k3, w6, w7⟩ T' rfl X'
  exact ⟨t2, st t2 a1, b1⟩
theorem t_xgo {mc ms : Nat} {a : Array Value} {post : Option Value → tU → Prop} {px : String → tU → Prop} (w : Wh D K b0 sa s H locs L f) (hr : vx_Run p l e R s m args below meth c H locs cells slots mc ms (F0 m pc ls st0) rest (hQ D K b0 post a) (hX D K b0 px) (fun q => b0 ≤ q))
    (kx : ∀ (E : String) (ce : Cell) (q9 : Addr) (u : tU) (H1 : Heap) (locs1 : List Loc), px E u → Wh D K b0 sa s H1 locs1 u.2.2.1 u.2.2.2 → H1[q9]? = some ce → ce.vm = .none → s.vm.findClass E = some ce.cls → vx_W p l e R s m args below meth c H1 locs1 (cells + mc) (slots + ms) Q (F0 m pc ls rest) q9)
    (kk : ∀ (v : Option Value) (u : tU) (H1 : Heap) (locs1 : List Loc), post v u → Wh D K b0 sa s H1 locs1 u.2.2.1 u.2.2.2 → W p l e R s m args below meth c H1 locs1 (cells + mc) (slots + ms) Q (F0 m (pc + 3) ls (v.toList ++ rest))) : W p l e R s m args below meth c H locs cells slots Q (F0 m pc ls st0) := by
  intro T hT X
  obtain ⟨w1, w2, w3, w4, w5, w6, w7⟩ := w
  rcases hr T hT X with ⟨v, st₀, t, T', L', h0, X', hL, e1, e2, ⟨⟨v', u, hv, hp, hb⟩, hF⟩, st⟩ | ⟨q, st₀, t, T', L', E, ce, h0, X', hL, e1, e2, ⟨⟨u, hp, hb⟩, hF⟩, hce, hcv, hcl, st⟩
  · cases hv
    obtain ⟨k1, k2, k3⟩ := vx_keep h0 e1 w5 (fun q _ h => h) (fun q h => h) hL hF
    obtain ⟨t2, a1, b1⟩ := kk v u T'.heap (locs ++ L') hp ⟨w1, w2, by rw [e1]; exact hb.1, hb.2.2, k3, w6, w7⟩ T' rfl X'
    exact ⟨t2, st t2 a1, b1⟩
  · obtain ⟨k1, k2, k3⟩ := vx_keep h0 e1 w5 (fun q _ h => h) (fun q h => h) hL hF
    obtain ⟨t2, a1, b1⟩ := kx E ce q u T'.heap (locs ++ L') hp ⟨w1, w2, by rw [e1]; exact hb.1, hb.2.2, k3, w6, w7⟩ (by rw [e1]; exact hce) hcv hcl T' rfl X'
    exact ⟨t2, st.trans a1, b1⟩
/-- a name that is no handle's -/
abbrev plainY (y : MethodName) (n : Nat) : Prop := y.cls ≠ "java/lang/invoke/MethodHandle" ∧ y.cls ≠ "java/lang/invoke/VarHandle" ∧ (parseMethodDescriptor y.desc).map (fun d => d.parameters.length) = some n
variable {y : MethodName} {bytes : ByteArray} {maxL n mc ms index : Nat} {ret : Option FieldType} {rm : Room} {As : List Value} {post : Option Value → tU → Prop} {px : String → tU → Prop}
theorem t_callS (C : CallFix p m c cc nL s args gt own) (w : Wh D K b0 sa s H locs L f) (hM : Met l y (.code y bytes maxL ret :: gt) rm (va_Pc As (hPre D K b0 sa H.size L f)) (hQ D K b0 post) mc ms (fun q => b0 ≤ q))
    (k1 : Cond.code y bytes maxL ret ∈ gt) (k2 : Cond.methodLink own index y ∈ gt) (k3 : Cond.static y ∈ gt) (k4 : Cond.initialized y.cls ∈ gt) (hd : plainY y n) (hrc : rm.cells = mc) (hrs : rm.slots = ms) (hR : rm.frames + 1 ≤ R.frames ∧ 8 + (maxL + 11) + rm.locals ≤ R.locals)
    (hn : As.length = n) (hsz : ls.size = nL) (hst : st0 = As.reverse ++ rest) (hW : (rest.map fun v => v.category).sum ≤ 8) (hdg : decode cc pc = .ok (.invokestatic index, 3)) (hf : cells + mc ≤ R.cells ∧ slots + ms ≤ R.slots)
    (kk : ∀ (v : Option Value) (u : tU) (H1 : Heap) (locs1 : List Loc), post v u → Wh D K b0 sa s H1 locs1 u.2.2.1 u.2.2.2 → W p l e R s m args below meth c H1 locs1 (cells + mc) (slots + ms) Q (F0 m (pc + 3) ls (v.toList ++ rest))) : W p l e R s m args below meth c H locs cells slots Q (F0 m pc ls st0) :=
  t_go w (va_runS (As := As) (rest := rest) C hM ⟨callB_of n C.2.2.2.2 (gt_in k1) rfl hrc hrs (C.2.2.2.2 _ k4) (C.2.2.2.2 _ k2) hd hR, C.2.2.2.2 _ k3⟩ ⟨hPre.blind, fun U hU hW => ⟨rfl, w.pre hU hW⟩⟩ rfl hn hsz hst (lv_room hW) hdg hf) kk
theorem t_callSN (C : CallFix p m c cc nL s args gt own) {host : String} (w : Wh D K b0 sa s H locs L f) (hM : Met l y (.code y bytes maxL ret :: gt) rm (va_Pc As (hPre D K b0 sa H.size L f)) (hQ D K b0 post) mc ms (fun q => b0 ≤ q))
    (k1 : Cond.code y bytes maxL ret ∈ gt) (k2 : Cond.methodLinkNest own index y host ∈ nwl) (k3 : Cond.static y ∈ gt) (k4 : Cond.initialized y.cls ∈ gt) (hd : plainY y n) (hrc : rm.cells = mc) (hrs : rm.slots = ms) (hR : rm.frames + 1 ≤ R.frames ∧ 8 + (maxL + 11) + rm.locals ≤ R.locals)
    (hn : As.length = n) (hsz : ls.size = nL) (hst : st0 = As.reverse ++ rest) (hW : (rest.map fun v => v.category).sum ≤ 8) (hdg : decode cc pc = .ok (.invokestatic index, 3)) (hf : cells + mc ≤ R.cells ∧ slots + ms ≤ R.slots)
    (kk : ∀ (v : Option Value) (u : tU) (H1 : Heap) (locs1 : List Loc), post v u → Wh D K b0 sa s H1 locs1 u.2.2.1 u.2.2.2 → W p l e R s m args below meth c H1 locs1 (cells + mc) (slots + ms) Q (F0 m (pc + 3) ls (v.toList ++ rest))) : W p l e R s m args below meth c H locs cells slots Q (F0 m pc ls st0) :=
  t_go w (va_runSN (As := As) (rest := rest) C hM ⟨va_cnB n C.2.2.2.2 (gt_in k1) rfl hrc hrs (w.2.2.2.2.2.1.1 _ k2) (C.2.2.2.2 _ k4) hd hR, C.2.2.2.2 _ k3, trivial⟩ ⟨hPre.blind, fun U hU hW => ⟨rfl, w.pre hU hW⟩⟩ rfl hn hsz hst (lv_room hW) hdg hf) kk
theorem t_recv (w : Wh D K b0 sa s H locs L f) {a t : Nat} {fs : List Value} (ha : a ∈ L) (hf : f a = .inr (t, fs)) {q : vw_C} (hcl : vwCl[t]? = some q) : ∃ cell : Cell, H[a]? = some cell ∧ cell.vm.isStatics = false ∧ s.vm.findClass q.1 = some cell.cls := by
  obtain ⟨w1, w2, w3, w4, w5, w6, w7⟩ := w
  obtain ⟨k0, hk0⟩ := va_pl_get (X := []) (f := f) ha
  rw [hf] at hk0
  exact va_recv (ws := [] ++ va_pl L f) w2 w3 hcl hk0
theorem t_callV (C : CallFix p m c cc nL s args gt own) (w : Wh D K b0 sa s H locs L f) (hT : TW K G Ψ L f) {b t : Nat} (ha : b ∈ L) (ht : Ψ b = t) (hk : tkd t = 0) {q : vw_C} (hcl : vwCl[t]? = some q) (hq : q.1 = y.cls) (hM : Met l y (.code y bytes maxL ret :: gt) rm (va_Pc (.ref b :: As) (hPre D K b0 sa H.size L f)) (hQ D K b0 post) mc ms (fun q => b0 ≤ q))
    (k1 : Cond.code y bytes maxL ret ∈ gt) (k2 : Cond.methodLink own index y ∈ gt) (k3 : Cond.instanceMethod y ∈ gt) (k5 : Cond.selects y.cls y y ∈ gt) (k4 : Cond.initialized y.cls ∈ gt) (hd : plainY y n) (hrc : rm.cells = mc) (hrs : rm.slots = ms) (hR : rm.frames + 1 ≤ R.frames ∧ 8 + (maxL + 11) + rm.locals ≤ R.locals)
    (hn : As.length = n) (hsz : ls.size = nL) (hst : st0 = As.reverse ++ .ref b :: rest) (hW : (rest.map fun v => v.category).sum ≤ 8) (hdg : decode cc pc = .ok (.invokevirtual index, 3)) (hf : cells + mc ≤ R.cells ∧ slots + ms ≤ R.slots)
    (kk : ∀ (v : Option Value) (u : tU) (H1 : Heap) (locs1 : List Loc), post v u → Wh D K b0 sa s H1 locs1 u.2.2.1 u.2.2.2 → W p l e R s m args below meth c H1 locs1 (cells + mc) (slots + ms) Q (F0 m (pc + 3) ls (v.toList ++ rest))) : W p l e R s m args below meth c H locs cells slots Q (F0 m pc ls st0) := by
  obtain ⟨fs, hfa, -, -⟩ := t_obj hT ha ht hk
  have hrv := t_recv w ha hfa hcl
  rw [hq] at hrv
  exact t_go w (va_runV (As := As) (rest := rest) C hM ⟨callB_of n C.2.2.2.2 (gt_in k1) rfl hrc hrs (C.2.2.2.2 _ k4) (C.2.2.2.2 _ k2) hd hR, C.2.2.2.2 _ k3, C.2.2.2.2 _ k5⟩ ⟨hPre.blind, hrv, fun U hU hW => ⟨rfl, w.pre hU hW⟩⟩ rfl hn hsz hst (lv_room hW) hdg hf) kk
/-- a call that may throw -/
theorem t_xcallS (C : CallFix p m c cc nL s args gt own) (w : Wh D K b0 sa s H locs L f) (hM : vx_Met l y (.code y bytes maxL ret :: gt) rm (va_Pc As (hPre D K b0 sa H.size L f)) (hQ D K b0 post) (hX D K b0 px) mc ms (fun q => b0 ≤ q))
    (k1 : Cond.code y bytes maxL ret ∈ gt) (k2 : Cond.methodLink own index y ∈ gt) (k3 : Cond.static y ∈ gt) (k4 : Cond.initialized y.cls ∈ gt) (hd : plainY y n) (hrc : rm.cells = mc) (hrs : rm.slots = ms) (hR : rm.frames + 1 ≤ R.frames ∧ 8 + (maxL + 11) + rm.locals ≤ R.locals)
    (hn : As.length = n) (hsz : ls.size = nL) (hst : st0 = As.reverse ++ rest) (hW : (rest.map fun v => v.category).sum ≤ 8) (hdg : decode cc pc = .ok (.invokestatic index, 3)) (hf : cells + mc ≤ R.cells ∧ slots + ms ≤ R.slots)
    (kx : ∀ (E : String) (ce : Cell) (q9 : Addr) (u : tU) (H1 : Heap) (locs1 : List Loc), px E u → Wh D K b0 sa s H1 locs1 u.2.2.1 u.2.2.2 → H1[q9]? = some ce → ce.vm = .none → s.vm.findClass E = some ce.cls → vx_W p l e R s m args below meth c H1 locs1 (cells + mc) (slots + ms) Q (F0 m pc ls rest) q9)
    (kk : ∀ (v : Option Value) (u : tU) (H1 : Heap) (locs1 : List Loc), post v u → Wh D K b0 sa s H1 locs1 u.2.2.1 u.2.2.2 → W p l e R s m args below meth c H1 locs1 (cells + mc) (slots + ms) Q (F0 m (pc + 3) ls (v.toList ++ rest))) : W p l e R s m args below meth c H locs cells slots Q (F0 m pc ls st0) :=
  t_xgo w (vx_runS (As := As) (rest := rest) C hM ⟨callB_of n C.2.2.2.2 (gt_in k1) rfl hrc hrs (C.2.2.2.2 _ k4) (C.2.2.2.2 _ k2) hd hR, C.2.2.2.2 _ k3⟩ ⟨hPre.blind, fun U hU hW => ⟨rfl, w.pre hU hW⟩⟩ rfl hn hsz hst (lv_room hW) hdg hf) kx kk
theorem t_xcallV (C : CallFix p m c cc nL s args gt own) (w : Wh D K b0 sa s H locs L f) (hT : TW K G Ψ L f) {b t : Nat} (ha : b ∈ L) (ht : Ψ b = t) (hk : tkd t = 0) {q : vw_C} (hcl : vwCl[t]? = some q) (hq : q.1 = y.cls) (hM : vx_Met l y (.code y bytes maxL ret :: gt) rm (va_Pc (.ref b :: As) (hPre D K b0 sa H.size L f)) (hQ D K b0 post) (hX D K b0 px) mc ms (fun q => b0 ≤ q))
    (k1 : Cond.code y bytes maxL ret ∈ gt) (k2 : Cond.methodLink own index y ∈ gt) (k3 : Cond.instanceMethod y ∈ gt) (k5 : Cond.selects y.cls y y ∈ gt) (k4 : Cond.initialized y.cls ∈ gt) (hd : plainY y n) (hrc : rm.cells = mc) (hrs : rm.slots = ms) (hR : rm.frames + 1 ≤ R.frames ∧ 8 + (maxL + 11) + rm.locals ≤ R.locals)
    (hn : As.length = n) (hsz : ls.size = nL) (hst : st0 = As.reverse ++ .ref b :: rest) (hW : (rest.map fun v => v.category).sum ≤ 8) (hdg : decode cc pc = .ok (.invokevirtual index, 3)) (hf : cells + mc ≤ R.cells ∧ slots + ms ≤ R.slots)
    (kx : ∀ (E : String) (ce : Cell) (q9 : Addr) (u : tU) (H1 : Heap) (locs1 : List Loc), px E u → Wh D K b0 sa s H1 locs1 u.2.2.1 u.2.2.2 → H1[q9]? = some ce → ce.vm = .none → s.vm.findClass E = some ce.cls → vx_W p l e R s m args below meth c H1 locs1 (cells + mc) (slots + ms) Q (F0 m pc ls rest) q9)
    (kk : ∀ (v : Option Value) (u : tU) (H1 : Heap) (locs1 : List Loc), post v u → Wh D K b0 sa s H1 locs1 u.2.2.1 u.2.2.2 → W p l e R s m args below meth c H1 locs1 (cells + mc) (slots + ms) Q (F0 m (pc + 3) ls (v.toList ++ rest))) : W p l e R s m args below meth c H locs cells slots Q (F0 m pc ls st0) := by
  obtain ⟨fs, hfa, -, -⟩ := t_obj hT ha ht hk
  have hrv := t_recv w ha hfa hcl
  rw [hq] at hrv
  exact t_xgo w (vx_runV (As := As) (rest := rest) C hM ⟨callB_of n C.2.2.2.2 (gt_in k1) rfl hrc hrs (C.2.2.2.2 _ k4) (C.2.2.2.2 _ k2) hd hR, C.2.2.2.2 _ k3, C.2.2.2.2 _ k5⟩ ⟨hPre.blind, hrv, fun U hU hW => ⟨rfl, w.pre hU hW⟩⟩ rfl hn hsz hst (lv_room hW) hdg hf) kx kk
/-- a contract out of the walk of its body -/
theorem t_of {sz : Nat} (hy : plainName y.cls = true) (hcls : y.cls = own)
    (body : ∀ (p : Program) (e : Env) (s : State) (m : MethodId) (below : List Frame) (meth : Method) (c : Code) (ls : Array Slot), CallFix p m c bytes maxL s As.toArray gt own → Wh D K b0 sa s s.heap [] L f → s.heap.size = sz → meth.sig.returnType = ret → meth.locks = false → meth.name = y.name → lv_has ls maxL (lv_args 0 As) →
      W p l e rm s m As.toArray below meth c s.heap [] 0 0 (MQ below (hQ D K b0 post) As.toArray s mc ms (fun q => b0 ≤ q)) (F0 m 0 ls [])) (hlen : (lg_sl As).length ≤ maxL) :
    Met l y (.code y bytes maxL ret :: gt) rm (va_Pc As (hPre D K b0 sa sz L f)) (hQ D K b0 post) mc ms (fun q => b0 ≤ q) := by
  refine Met.ofW (cc := bytes) (maxL := maxL) (ret := ret) hy rfl ?_
  intro p e s m args below meth c s₁ B hml hv
  obtain ⟨rfl, hsz, hb0, ⟨q1, q2, q3⟩, hN, hZ⟩ := hv
  have hts := atoms_spec (ws := .code y bytes maxL ret :: gt) B.pre
  have hown : s.vm.findClass own = some m.cls := by rw [← hcls]; exact findClass_of_methodNamed B.named
  have hl := lv_entry As (n := maxL) hlen
  rw [lg_entry_eq]
  exact body p e s m below meth c _ ⟨B.exec, B.bytes, hml, hown, fun w hw => hts w (List.mem_cons_of_mem _ hw)⟩ ⟨by rw [hsz]; exact hb0, q2, q1, q3, va_S.rf, hN, hZ⟩ hsz B.returns B.notSynchronized (name_of_methodNamed B.named B.method).1 hl
theorem t_xof {sz : Nat} (hy : plainName y.cls = true) (hcls : y.cls = own)
    (body : ∀ (p : Program) (e : Env) (s : State) (m : MethodId) (below : List Frame) (meth : Method) (c : Code) (ls : Array Slot), CallFix p m c bytes maxL s As.toArray gt own → Wh D K b0 sa s s.heap [] L f → s.heap.size = sz → meth.sig.returnType = ret → meth.locks = false → (∀ x ∈ c.exceptionTable.toList, False) → lv_has ls maxL (lv_args 0 As) →
      W p l e rm s m As.toArray below meth c s.heap [] 0 0 (vx_MQ below (hQ D K b0 post) (hX D K b0 px) As.toArray s mc ms (fun q => b0 ≤ q)) (F0 m 0 ls [])) (hlen : (lg_sl As).length ≤ maxL) :
    vx_Met l y (.code y bytes maxL ret :: gt) rm (va_Pc As (hPre D K b0 sa sz L f)) (hQ D K b0 post) (hX D K b0 px) mc ms (fun q => b0 ≤ q) := by
  refine vx_ofW (cc := bytes) (maxL := maxL) (ret := ret) hy rfl ?_
  intro p e s m args below meth c s₁ B hml htb hv
  obtain ⟨rfl, hsz, hb0, ⟨q1, q2, q3⟩, hN, hZ⟩ := hv
  have hts := atoms_spec (ws := .code y bytes maxL ret :: gt) B.pre
  have hown : s.vm.findClass own = some m.cls := by rw [← hcls]; exact findClass_of_methodNamed B.named
  have hl := lv_entry As (n := maxL) hlen
  rw [lg_entry_eq]
  exact body p e s m below meth c _ ⟨B.exec, B.bytes, hml, hown, fun w hw => hts w (List.mem_cons_of_mem _ hw)⟩ ⟨by rw [hsz]; exact hb0, q2, q1, q3, va_S.rf, hN, hZ⟩ hsz B.returns B.notSynchronized htb hl
theorem t_end (w : Wh D K b0 sa s H locs L f) {v : Option Value} {G2 : tG} {Ψ2 : Nat → Nat} (hq : post v (G2, Ψ2, L, f)) : ∀ t : State, t.heap = H → s.WarmedH t.vm → hQ D K b0 post args s (.returned v) t := by
  obtain ⟨w1, w2, w3, w4, w5, w6, w7⟩ := w
  exact fun t ht hW => ⟨⟨v, (G2, Ψ2, L, f), rfl, hq, by rw [ht]; exact w3, va_K.moved hW.alike w2, w4⟩, w5.F ht⟩
theorem t_iret (C : CallFix p m c cc nL s args gt own) (hr : meth.sig.returnType = some .int) (hlk : meth.locks = false) (w : Wh D K b0 sa s H locs L f) {v : Int32} {G2 : tG} {Ψ2 : Nat → Nat} (hq : post (some (.int v)) (G2, Ψ2, L, f)) (hc : cells ≤ mc) (hs : slots ≤ ms) (hdg : decode cc pc = .ok (.ireturn, 1)) :
    W p l e R s m args below meth c H locs cells slots (MQ below (hQ D K b0 post) args s mc ms (fun q => b0 ≤ q)) (F0 m pc ls [.int v]) := by
  refine W.widen (k := mc) (n := ms) hc hs ?_
  exact W.iret C.1 C.2.1 hr (t_end w hq) w.2.2.2.2.1.2.2 hdg
theorem t_zret (C : CallFix p m c cc nL s args gt own) (hr : meth.sig.returnType = some .boolean) (hlk : meth.locks = false) (w : Wh D K b0 sa s H locs L f) {v : Int32} (hn : narrow .boolean (.int v) = .int v) {G2 : tG} {Ψ2 : Nat → Nat} (hq : post (some (.int v)) (G2, Ψ2, L, f)) (hc : cells ≤ mc) (hs : slots ≤ ms) (hdg : decode cc pc = .ok (.ireturn, 1)) :
    W p l e R s m args below meth c H locs cells slots (MQ below (hQ D K b0 post) args s mc ms (fun q => b0 ≤ q)) (F0 m pc ls [.int v]) := by
  refine W.widen (k := mc) (n := ms) hc hs ?_
  exact W.zret C.1 C.2.1 hr hn (t_end w hq) w.2.2.2.2.1.2.2 hdg
theorem t_vret (C : CallFix p m c cc nL s args gt own) (hr : meth.sig.returnType = none) (hlk : meth.locks = false) (w : Wh D K b0 sa s H locs L f) {G2 : tG} {Ψ2 : Nat → Nat} (hq : post none (G2, Ψ2, L, f)) (hc : cells ≤ mc) (hs : slots ≤ ms) (hdg : decode cc pc = .ok (.return_, 1)) :
    W p l e R s m args below meth c H locs cells slots (MQ below (hQ D K b0 post) args s mc ms (fun q => b0 ≤ q)) (F0 m pc ls []) := by
  refine W.widen (k := mc) (n := ms) hc hs ?_
  exact W.vret C.1 C.2.1 hr (t_end w hq) w.2.2.2.2.1.2.2 hdg
theorem t_aret (C : CallFix p m c cc nL s args gt own) {rt : FieldType} (hr : meth.sig.returnType = some rt) (hrt : (∃ n, rt = .object n) ∨ ∃ t, rt = .array t) (hlk : meth.locks = false) (w : Wh D K b0 sa s H locs L f) {v : Value} (hv : v = .null ∨ ∃ a, v = .ref a) {G2 : tG} {Ψ2 : Nat → Nat} (hq : post (some v) (G2, Ψ2, L, f)) (hc : cells ≤ mc) (hs : slots ≤ ms) (hdg : decode cc pc = .ok (.areturn, 1)) :
    W p l e R s m args below meth c H locs cells slots (MQ below (hQ D K b0 post) args s mc ms (fun q => b0 ≤ q)) (F0 m pc ls [v]) := by
  refine W.widen (k := mc) (n := ms) hc hs ?_
  exact W.aret C.1 C.2.1 hr hrt hv (t_end w hq) w.2.2.2.2.1.2.2 hdg
/-- an exception goes on to the caller -/
theorem t_xout (w : Wh D K b0 sa s H locs L f) (htb : ∀ x ∈ c.exceptionTable.toList, False) (hlk : meth.locks = false) {E : String} {ce : Cell} {q : Addr} (hcell : H[q]? = some ce) (hv : ce.vm = .none) (hcl : s.vm.findClass E = some ce.cls) {G2 : tG} {Ψ2 : Nat → Nat} (hq : px E (G2, Ψ2, L, f)) (hc : cells ≤ mc) (hs : slots ≤ ms) :
    vx_W p l e R s m args below meth c H locs cells slots (vx_MQ below (hQ D K b0 post) (hX D K b0 px) args s mc ms (fun q => b0 ≤ q)) (F0 m pc ls rest) q := by
  obtain ⟨w1, w2, w3, w4, w5, w6, w7⟩ := w
  exact vx_out (fun x hx => (htb x hx).elim) hlk hcell hv hcl (fun t ht hA => ⟨⟨(G2, Ψ2, L, f), hq, by rw [ht]; exact w3, va_K.moved hA w2, w4⟩, w5.F ht⟩) w5.2.2 hc hs
end TR2
