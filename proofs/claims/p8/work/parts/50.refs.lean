/-! references that change: null or the number of a block -/
def oc {A : Type} (o : Option Nat) (x : Option A) (k : Nat → Option A) : Option A := match o with
  | none => x
  | some t => k t
theorem oc_some {A : Type} {o : Option Nat} {x : Option A} {k : Nat → Option A} {r : A} (h : oc o x k = some r) : (o = none ∧ x = some r) ∨ ∃ t : Nat, o = some t ∧ k t = some r := by
  match o, h with
  | none, h => exact Or.inl ⟨rfl, h⟩
  | some t, h => exact Or.inr ⟨t, rfl, h⟩
def qv {A : Type} (v : Option Nat) (k : Option Nat → Option A) : Option A := k v
def okb (o : Option Nat) (n : Nat) : Bool := match o with
  | none => true
  | some t => decide (t < n)
theorem okb_t {o : Option Nat} {n t : Nat} (h : okb o n = true) (e : o = some t) : t < n := by
  subst e
  exact of_decide_eq_true h
theorem nT_lt {S : fS} {n : Nat × Nat} {t : Nat} (hn : S.2.2.1 = n) (g : t < nT S) : t < n.1 := by rw [← hn]; exact g
theorem nC_lt {S : fS} {n : Nat × Nat} {t : Nat} (hn : S.2.2.1 = n) (g : t < nC S) : t < n.2 := by rw [← hn]; exact g
theorem no_so {A : Type} {r : A} {G : Prop} (h : (none : Option A) = some r) : G := nomatch h
section SQ
variable {B : Type} {a v : B} {S S1 : fS} {K : Nat → ClassId} {ad : Nat → Nat → Nat} {P : Nat → Nat → Prop} {L : List Nat} {f : Nat → va_E} {n : Nat × Nat}
theorem sq_w (h : some (a, S) = some (v, S1)) (hw : PW K ad P S L f) : PW K ad P S1 L f := by cases h; exact hw
theorem sq_n (h : some (a, S) = some (v, S1)) (hn : S.2.2.1 = n) : S1.2.2.1 = n := by cases h; exact hn
theorem sq_v (h : some (a, S) = some (v, S1)) (g : B → Value) : some (g a) = some (g v) := by cases h; rfl
end SQ
theorem rf_or (o : Option Nat) : va_rf o = .null ∨ ∃ a, va_rf o = .ref a := by
  cases o with
  | none => exact Or.inl rfl
  | some a => exact Or.inr ⟨a, rfl⟩
theorem rf_upd {S : fS} {a i k : Nat} {o : Option Nat} {g : Nat → Nat} : (fun j => (gr (pr S a i k o) a i j).map g) = va_up (fun j => (gr S a i j).map g) k (o.map g) := by
  funext j
  by_cases e : j = k
  · subst e
    rw [va_up_self, gr_pr, if_pos ⟨rfl, rfl, rfl⟩]
  · rw [va_up_ne _ _ e, gr_pr, if_neg (fun h => e h.2.2)]
section FR2
variable {p : Program} {l : Launch} {e : Env} {R : Room} {s : State} {m : MethodId} {args : Array Value} {below : List Frame} {meth : Method} {c : Code} {H : Heap} {locs : List Loc} {cells slots : Nat} {Q : State → Prop}
variable {cc : ByteArray} {pc nL : Nat} {ls : Array Slot} {rest st0 : List Value} {D : va_G} {K : Nat → ClassId} {b0 : Nat} {sa : sT} {L : List Nat} {f : Nat → va_E} {own : String} {ad : Nat → Nat → Nat} {P : Nat → Nat → Prop} {S : fS}
theorem u_qv {A : Type} {v : Option Nat} {k : Option Nat → Option A} {r : A} {g : Nat → Nat} (h : qv v k = some r) (kk : ∀ x : Option Nat, k x = some r → W p l e R s m args below meth c H locs cells slots Q (F0 m pc ls (va_rf (x.map g) :: rest))) : W p l e R s m args below meth c H locs cells slots Q (F0 m pc ls (va_rf (v.map g) :: rest)) := kk v h
section AQ
theorem lv_aload_nQ (hexec : p.tables.exec = Jvm.exec) (hb : c.code = cc) {o : Option Nat} {k : Fin 4} {i : Nat} (hdg : decode cc pc = .ok (.aload_n k, 1)) (hi : (k : Nat) = i) (hl : ls[i]? = some (.val (va_rf o)))
    (k : W p l e R s m args below meth c H locs cells slots Q (F0 m (pc + 1) ls (va_rf o :: rest))) : W p l e R s m args below meth c H locs cells slots Q (F0 m pc ls rest) := by
  cases o with
  | none => exact lv_aload_nN hexec hb hdg hi hl k
  | some x => exact lv_aload_n hexec hb hdg hi hl k
theorem lv_aloadQ (hexec : p.tables.exec = Jvm.exec) (hb : c.code = cc) {o : Option Nat} {i : Nat} (hdg : decode cc pc = .ok (.aload i, 2)) (hl : ls[i]? = some (.val (va_rf o)))
    (k : W p l e R s m args below meth c H locs cells slots Q (F0 m (pc + 2) ls (va_rf o :: rest))) : W p l e R s m args below meth c H locs cells slots Q (F0 m pc ls rest) := by
  cases o with
  | none => exact lv_aloadN hexec hb hdg hl k
  | some x => exact lv_aload hexec hb hdg hl k
theorem lv_astore_nQ (hexec : p.tables.exec = Jvm.exec) (hb : c.code = cc) {o : Option Nat} {k : Fin 4} {i nL : Nat} {lv lv' : List (Nat × Value)} (hdg : decode cc pc = .ok (.astore_n k, 1)) (hi : (k : Nat) = i) (h : lv_has ls nL lv) (hn : i < nL) (hl : (i, va_rf o) :: lv.filter (fun q => !(q.1 == i) && !(q.1 + 1 == i && q.2.category == 2)) = lv')
    (kk : ∀ ls' : Array Slot, lv_has ls' nL lv' → W p l e R s m args below meth c H locs cells slots Q (F0 m (pc + 1) ls' rest)) : W p l e R s m args below meth c H locs cells slots Q (F0 m pc ls (va_rf o :: rest)) := by
  cases o with
  | none => exact lv_astore_nN hexec hb hdg hi h hn hl kk
  | some x => exact lv_astore_n hexec hb hdg hi h hn hl kk
theorem lv_astoreQ (hexec : p.tables.exec = Jvm.exec) (hb : c.code = cc) {o : Option Nat} {i nL : Nat} {lv lv' : List (Nat × Value)} (hdg : decode cc pc = .ok (.astore i, 2)) (h : lv_has ls nL lv) (hn : i < nL) (hl : (i, va_rf o) :: lv.filter (fun q => !(q.1 == i) && !(q.1 + 1 == i && q.2.category == 2)) = lv')
    (kk : ∀ ls' : Array Slot, lv_has ls' nL lv' → W p l e R s m args below meth c H locs cells slots Q (F0 m (pc + 2) ls' rest)) : W p l e R s m args below meth c H locs cells slots Q (F0 m pc ls (va_rf o :: rest)) := by
  cases o with
  | none => exact lv_astoreN hexec hb hdg h hn hl kk
  | some x => exact lv_astore hexec hb hdg h hn hl kk
end AQ
theorem u_aast3 (C : CallFix p m c cc nL s args gt own) (w : Wh D K b0 sa s H locs L f) (hw : PW K ad P S L f) {a i : Nat} (hp : P a i) (hk : fk a = 3) {q : vw_C} (hcl : vwCl[fx 25]? = some q) (hty : (tyl K)[fy a]? = some (K (fy a), .object q.1)) {n : Nat} (hn : fx a = n) {k : Int32} (hin : vp_in k n) {t : Nat} (ht : P 25 t) (hdg : decode cc pc = .ok (.aastore, 1))
    (kk : ∀ (f' : Nat → va_E) (H1 : Heap) (locs1 : List Loc), Wh D K b0 sa s H1 locs1 L f' → PW K ad P (pr S a i k.toNatClampNeg (some t)) L f' → Kp ad P L f f' → W p l e R s m args below meth c H1 locs1 cells slots Q (F0 m (pc + 1) ls rest)) : W p l e R s m args below meth c H locs cells slots Q (F0 m pc ls (.ref (ad 25 t) :: .int k :: .ref (ad a i) :: rest)) := by
  obtain ⟨hx, hb, hml, hown, hts⟩ := C
  obtain ⟨w1, w2, w3, w4, w5, w6, w7⟩ := w
  obtain ⟨k0, hk0⟩ := va_pl_get (X := []) (f := f) (hw.1 a i hp).1
  obtain ⟨kv, hkv⟩ := va_pl_get (X := []) (f := f) (hw.1 25 t ht).1
  have hk1 : ([] ++ va_pl L f)[k0]? = some (ad a i, .inl (K (fy a), n, .inr (.inr (.inr (.inr (fun j => (gr S a i j).map (ad 25))))))) := by rw [hk0, (hw.1 a i hp).2, cell_3 hk, hn]
  rw [u_obj hw ht rfl] at hkv
  refine va_astq (A := fun q => b0 ≤ q) (ws := [] ++ va_pl L f) hx hb w2 w3 w4 w5 k0 (fy a) kv (fx 25) hk1 hty hkv hcl hin hdg (fun H1 locs1 hP hD hS => ?_)
  rw [va_pl_set (X := []) w4 (hw.1 a i hp).1 hk0] at hP hD
  refine kk _ H1 locs1 ⟨w1, w2, hP, hD, hS, w6, w7⟩ (hw.set hp ?_ (fun a' i' q => cell_pr q)) (Kp.up hp)
  rw [cell_3 hk, hn, rf_upd]
  rfl
theorem u_aastN3 (C : CallFix p m c cc nL s args gt own) (w : Wh D K b0 sa s H locs L f) (hw : PW K ad P S L f) {a i : Nat} (hp : P a i) (hk : fk a = 3) {q : vw_C} (hty : (tyl K)[fy a]? = some (K (fy a), .object q.1)) {n : Nat} (hn : fx a = n) {k : Int32} (hin : vp_in k n) (hdg : decode cc pc = .ok (.aastore, 1))
    (kk : ∀ (f' : Nat → va_E) (H1 : Heap) (locs1 : List Loc), Wh D K b0 sa s H1 locs1 L f' → PW K ad P (pr S a i k.toNatClampNeg none) L f' → Kp ad P L f f' → W p l e R s m args below meth c H1 locs1 cells slots Q (F0 m (pc + 1) ls rest)) : W p l e R s m args below meth c H locs cells slots Q (F0 m pc ls (.null :: .int k :: .ref (ad a i) :: rest)) := by
  obtain ⟨hx, hb, hml, hown, hts⟩ := C
  obtain ⟨w1, w2, w3, w4, w5, w6, w7⟩ := w
  obtain ⟨k0, hk0⟩ := va_pl_get (X := []) (f := f) (hw.1 a i hp).1
  have hk1 : ([] ++ va_pl L f)[k0]? = some (ad a i, .inl (K (fy a), n, .inr (.inr (.inr (.inr (fun j => (gr S a i j).map (ad 25))))))) := by rw [hk0, (hw.1 a i hp).2, cell_3 hk, hn]
  refine va_astqN (A := fun q => b0 ≤ q) (ws := [] ++ va_pl L f) hx hb w2 w3 w4 w5 k0 (fy a) hk1 hty hin hdg (fun H1 locs1 hP hD hS => ?_)
  rw [va_pl_set (X := []) w4 (hw.1 a i hp).1 hk0] at hP hD
  refine kk _ H1 locs1 ⟨w1, w2, hP, hD, hS, w6, w7⟩ (hw.set hp ?_ (fun a' i' q => cell_pr q)) (Kp.up hp)
  rw [cell_3 hk, hn, rf_upd]
  rfl
theorem u_aastQ3 (C : CallFix p m c cc nL s args gt own) (w : Wh D K b0 sa s H locs L f) (hw : PW K ad P S L f) {a i : Nat} (hp : P a i) (hk : fk a = 3) {q : vw_C} (hcl : vwCl[fx 25]? = some q) (hty : (tyl K)[fy a]? = some (K (fy a), .object q.1)) {n : Nat} (hn : fx a = n) {k : Int32} (hin : vp_in k n) {o : Option Nat} (ho : ∀ t : Nat, o = some t → P 25 t) (hdg : decode cc pc = .ok (.aastore, 1))
    (kk : ∀ (f' : Nat → va_E) (H1 : Heap) (locs1 : List Loc), Wh D K b0 sa s H1 locs1 L f' → PW K ad P (pr S a i k.toNatClampNeg o) L f' → Kp ad P L f f' → W p l e R s m args below meth c H1 locs1 cells slots Q (F0 m (pc + 1) ls rest)) : W p l e R s m args below meth c H locs cells slots Q (F0 m pc ls (va_rf (o.map (ad 25)) :: .int k :: .ref (ad a i) :: rest)) := by
  cases o with
  | none => exact u_aastN3 C w hw hp hk hty hn hin hdg kk
  | some t => exact u_aast3 C w hw hp hk hcl hty hn hin (ho t rfl) hdg kk
theorem u_aast4 (C : CallFix p m c cc nL s args gt own) (w : Wh D K b0 sa s H locs L f) (hw : PW K ad P S L f) {a i : Nat} (hp : P a i) (hk : fk a = 4) {q : vw_C} (hcl : vwCl[fx 29]? = some q) (hty : (tyl K)[fy a]? = some (K (fy a), .object q.1)) {n : Nat} (hn : fx a = n) {k : Int32} (hin : vp_in k n) {t : Nat} (ht : P 29 t) (hdg : decode cc pc = .ok (.aastore, 1))
    (kk : ∀ (f' : Nat → va_E) (H1 : Heap) (locs1 : List Loc), Wh D K b0 sa s H1 locs1 L f' → PW K ad P (pr S a i k.toNatClampNeg (some t)) L f' → Kp ad P L f f' → W p l e R s m args below meth c H1 locs1 cells slots Q (F0 m (pc + 1) ls rest)) : W p l e R s m args below meth c H locs cells slots Q (F0 m pc ls (.ref (ad 29 t) :: .int k :: .ref (ad a i) :: rest)) := by
  obtain ⟨hx, hb, hml, hown, hts⟩ := C
  obtain ⟨w1, w2, w3, w4, w5, w6, w7⟩ := w
  obtain ⟨k0, hk0⟩ := va_pl_get (X := []) (f := f) (hw.1 a i hp).1
  obtain ⟨kv, hkv⟩ := va_pl_get (X := []) (f := f) (hw.1 29 t ht).1
  have hk1 : ([] ++ va_pl L f)[k0]? = some (ad a i, .inl (K (fy a), n, .inr (.inr (.inr (.inr (fun j => (gr S a i j).map (ad 29))))))) := by rw [hk0, (hw.1 a i hp).2, cell_4 hk, hn]
  rw [u_obj hw ht rfl] at hkv
  refine va_astq (A := fun q => b0 ≤ q) (ws := [] ++ va_pl L f) hx hb w2 w3 w4 w5 k0 (fy a) kv (fx 29) hk1 hty hkv hcl hin hdg (fun H1 locs1 hP hD hS => ?_)
  rw [va_pl_set (X := []) w4 (hw.1 a i hp).1 hk0] at hP hD
  refine kk _ H1 locs1 ⟨w1, w2, hP, hD, hS, w6, w7⟩ (hw.set hp ?_ (fun a' i' q => cell_pr q)) (Kp.up hp)
  rw [cell_4 hk, hn, rf_upd]
  rfl
theorem u_aastN4 (C : CallFix p m c cc nL s args gt own) (w : Wh D K b0 sa s H locs L f) (hw : PW K ad P S L f) {a i : Nat} (hp : P a i) (hk : fk a = 4) {q : vw_C} (hty : (tyl K)[fy a]? = some (K (fy a), .object q.1)) {n : Nat} (hn : fx a = n) {k : Int32} (hin : vp_in k n) (hdg : decode cc pc = .ok (.aastore, 1))
    (kk : ∀ (f' : Nat → va_E) (H1 : Heap) (locs1 : List Loc), Wh D K b0 sa s H1 locs1 L f' → PW K ad P (pr S a i k.toNatClampNeg none) L f' → Kp ad P L f f' → W p l e R s m args below meth c H1 locs1 cells slots Q (F0 m (pc + 1) ls rest)) : W p l e R s m args below meth c H locs cells slots Q (F0 m pc ls (.null :: .int k :: .ref (ad a i) :: rest)) := by
  obtain ⟨hx, hb, hml, hown, hts⟩ := C
  obtain ⟨w1, w2, w3, w4, w5, w6, w7⟩ := w
  obtain ⟨k0, hk0⟩ := va_pl_get (X := []) (f := f) (hw.1 a i hp).1
  have hk1 : ([] ++ va_pl L f)[k0]? = some (ad a i, .inl (K (fy a), n, .inr (.inr (.inr (.inr (fun j => (gr S a i j).map (ad 29))))))) := by rw [hk0, (hw.1 a i hp).2, cell_4 hk, hn]
  refine va_astqN (A := fun q => b0 ≤ q) (ws := [] ++ va_pl L f) hx hb w2 w3 w4 w5 k0 (fy a) hk1 hty hin hdg (fun H1 locs1 hP hD hS => ?_)
  rw [va_pl_set (X := []) w4 (hw.1 a i hp).1 hk0] at hP hD
  refine kk _ H1 locs1 ⟨w1, w2, hP, hD, hS, w6, w7⟩ (hw.set hp ?_ (fun a' i' q => cell_pr q)) (Kp.up hp)
  rw [cell_4 hk, hn, rf_upd]
  rfl
theorem u_aastQ4 (C : CallFix p m c cc nL s args gt own) (w : Wh D K b0 sa s H locs L f) (hw : PW K ad P S L f) {a i : Nat} (hp : P a i) (hk : fk a = 4) {q : vw_C} (hcl : vwCl[fx 29]? = some q) (hty : (tyl K)[fy a]? = some (K (fy a), .object q.1)) {n : Nat} (hn : fx a = n) {k : Int32} (hin : vp_in k n) {o : Option Nat} (ho : ∀ t : Nat, o = some t → P 29 t) (hdg : decode cc pc = .ok (.aastore, 1))
    (kk : ∀ (f' : Nat → va_E) (H1 : Heap) (locs1 : List Loc), Wh D K b0 sa s H1 locs1 L f' → PW K ad P (pr S a i k.toNatClampNeg o) L f' → Kp ad P L f f' → W p l e R s m args below meth c H1 locs1 cells slots Q (F0 m (pc + 1) ls rest)) : W p l e R s m args below meth c H locs cells slots Q (F0 m pc ls (va_rf (o.map (ad 29)) :: .int k :: .ref (ad a i) :: rest)) := by
  cases o with
  | none => exact u_aastN4 C w hw hp hk hty hn hin hdg kk
  | some t => exact u_aast4 C w hw hp hk hcl hty hn hin (ho t rfl) hdg kk

/-- System.arraycopy(a, 0, b, 0, n) between two int blocks -/
theorem u_copy (C : CallFix p m c cc nL s args gt own) (w : Wh D K b0 sa s H locs L f) (hw : PW K ad P S L f) {a i a2 i2 : Nat} (hp : P a i) (hk : fk a = 1) (hty : fy a = 0) (hp2 : P a2 i2) (hk2 : fk a2 = 1) (hty2 : fy a2 = 0) {n1 n2 : Nat} (hn1 : flen S a i = n1) (hn2 : flen S a2 i2 = n2) {index : Nat} (hsz : ls.size = nL)
    (k1 : Cond.methodLink own index arraycopyName ∈ gt) (k2 : Cond.native arraycopyName ∈ gt) (k3 : Cond.static arraycopyName ∈ gt) (k4 : Cond.initialized "java/lang/System" ∈ gt) {n : Int32} (h3 : ¬ n < 0) (h4 : n.toNatClampNeg ≤ n1) (h5 : n.toNatClampNeg ≤ n2)
    (hframes : 1 ≤ R.frames) (hlocals : (rest.map fun v => v.category).sum + (nativeFrameWords "java/lang/System" "arraycopy" 5 + 11) ≤ R.locals) (hdg : decode cc pc = .ok (.invokestatic index, 3))
    (kk : ∀ (f' : Nat → va_E) (H1 : Heap) (locs1 : List Loc), Wh D K b0 sa s H1 locs1 L f' → PW K ad P (pb S a2 i2 (fun j => if j < n.toNatClampNeg then ge S a i j else ge S a2 i2 j)) L f' → Kp ad P L f f' → W p l e R s m args below meth c H1 locs1 cells slots Q (F0 m (pc + 3) ls rest)) : W p l e R s m args below meth c H locs cells slots Q (F0 m pc ls (.int n :: .int 0 :: .ref (ad a2 i2) :: .int 0 :: .ref (ad a i) :: rest)) := by
  obtain ⟨hx, hbb, hml, hown, hts⟩ := C
  obtain ⟨w1, w2, w3, w4, w5, w6, w7⟩ := w
  obtain ⟨ka, hka⟩ := va_pl_get (X := []) (f := f) (hw.1 a i hp).1
  obtain ⟨kb, hkb⟩ := va_pl_get (X := []) (f := f) (hw.1 a2 i2 hp2).1
  have hka1 : ([] ++ va_pl L f)[ka]? = some (ad a i, .inl (K 0, n1, .inl (fun j => ge S a i j))) := by rw [hka, u_arr hw hp hk, hty, hn1]
  have hkb1 : ([] ++ va_pl L f)[kb]? = some (ad a2 i2, .inl (K 0, n2, .inl (fun j => ge S a2 i2 j))) := by rw [hkb, u_arr hw hp2 hk2, hty2, hn2]
  have z0 : (0 : Int32).toNatClampNeg = 0 := by decide
  refine va_copyi (A := fun q => b0 ≤ q) (ws := [] ++ va_pl L f) hx hbb (hml.trans hsz.symm) hown (hts _ k1) (hts _ k2) (hts _ k3) (hts _ k4) w2 w3 w4 w5 ka kb 0 0 hka1 hkb1 rfl rfl rfl (by decide) (by decide) h3 (by rw [z0]; omega) (by rw [z0]; omega) (fun i _ => rfl) hframes hlocals hdg (fun H1 locs1 hP hD hS => ?_)
  rw [va_pl_set (X := []) w4 (hw.1 a2 i2 hp2).1 hkb] at hP hD
  refine kk _ H1 locs1 ⟨w1, w2, hP, hD, hS, w6, w7⟩ (hw.set hp2 ?_ (fun a' i' q => cell_pb q)) (Kp.up hp2)
  rw [cell_1 hk2, hty2]
  show (Sum.inl (K 0, flen S a2 i2, _) : va_E) = _
  rw [hn2]
  have e9 : (fun j => ge (pb S a2 i2 (fun j => if j < n.toNatClampNeg then ge S a i j else ge S a2 i2 j)) a2 i2 j) = va_cpy (fun j => ge S a i j) (fun j => ge S a2 i2 j) (0 : Int32).toNatClampNeg (0 : Int32).toNatClampNeg n.toNatClampNeg := by
    funext j
    rw [ge_pb, if_pos ⟨rfl, rfl⟩, z0]
    by_cases q : j < n.toNatClampNeg
    · rw [if_pos q, pk_cpy_in (by omega) (by omega)]
      have : 0 + (j - 0) = j := by omega
      rw [this]
    · rw [if_neg q, pk_cpy_out (by omega)]
  rw [e9]
end FR2
