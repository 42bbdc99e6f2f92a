section TR
variable {p : Program} {l : Launch} {e : Env} {R : Room} {s : State} {m : MethodId} {args : Array Value} {below : List Frame} {meth : Method} {c : Code} {H : Heap} {locs : List Loc} {cells slots : Nat} {Q : State → Prop}
variable {cc : ByteArray} {pc nL : Nat} {ls : Array Slot} {rest st0 : List Value} {D : va_G} {K : Nat → ClassId} {b0 : Nat} {sa : sT} {L : List Nat} {f : Nat → va_E} {G : tG} {Ψ : Nat → Nat} {own : String}
theorem t_obj (hT : TW K G Ψ L f) {a t : Nat} (ha : a ∈ L) (ht : Ψ a = t) (hk : tkd t = 0) : ∃ fs : List Value, f a = .inr (t, fs) ∧ fs.length = (tob t).length ∧ ∀ (j : Nat) (d : Nat × Nat), (tob t)[j]? = some d → ∃ v : Value, fs[j]? = some v ∧ tyv G Ψ L (100 * t + j) d v := by
  have h := hT a ha
  rw [ht, tye_0 hk] at h
  exact h
theorem tkd_ne {t k : Nat} (h : tkd t = k) (hk : k ≠ 9) : t ≠ 9 := fun q => hk (by rw [← h, q]; decide)
theorem t_getv (C : CallFix p m c cc nL s args gt own) (w : Wh D K b0 sa s H locs L f) {a t : Nat} {fs : List Value} (ha : a ∈ L) (hf : f a = .inr (t, fs)) {CN : String} {T : u_T} {N : Nat} (hcl : vwCl[t]? = some (CN, T, N)) (hin : ∀ w ∈ u_ws CN T N, w ∈ gt) (j : Nat) (hj : j < N) {v : Value} (hv : fs[j]? = some v) {index : Nat} (hlk : Cond.fieldLink own index (T j).1 (T j).2.1 (T j).2.2.1 ∈ gt) (hdg : decode cc pc = .ok (.getfield index, 3))
    (kk : W p l e R s m args below meth c H locs cells slots Q (F0 m (pc + 3) ls (v :: rest))) : W p l e R s m args below meth c H locs cells slots Q (F0 m pc ls (.ref a :: rest)) := by
  obtain ⟨hx, hb, hml, hown, hts⟩ := C
  obtain ⟨w1, w2, w3, w4, w5, w6, w7⟩ := w
  obtain ⟨k0, hk0⟩ := va_pl_get (X := []) (f := f) ha
  rw [hf] at hk0
  exact va_get (ws := [] ++ va_pl L f) hx hb hts hin hown w2 w3 k0 hk0 hcl j hj (hts _ hlk) (fun _ h => h) hv hdg kk
/-- an int field -/
theorem t_geti (C : CallFix p m c cc nL s args gt own) (w : Wh D K b0 sa s H locs L f) (hT : TW K G Ψ L f) {a t : Nat} (ha : a ∈ L) (ht : Ψ a = t) (hk : tkd t = 0) {CN : String} {T : u_T} {N : Nat} (hcl : vwCl[t]? = some (CN, T, N)) (hin : ∀ w ∈ u_ws CN T N, w ∈ gt) (j : Nat) (hj : j < N) {d2 id : Nat} (hd : (tob t)[j]? = some (0, d2)) (hid : 100 * t + j = id) {index : Nat} (hlk : Cond.fieldLink own index (T j).1 (T j).2.1 (T j).2.2.1 ∈ gt) (hdg : decode cc pc = .ok (.getfield index, 3))
    (kk : ∀ x : Int32, G id 0 x → W p l e R s m args below meth c H locs cells slots Q (F0 m (pc + 3) ls (.int x :: rest))) : W p l e R s m args below meth c H locs cells slots Q (F0 m pc ls (.ref a :: rest)) := by
  obtain ⟨fs, hf, hl, hg⟩ := t_obj hT ha ht hk
  obtain ⟨v, hv, x, rfl, hG⟩ := hg j _ hd
  subst hid
  exact t_getv C w ha hf hcl hin j hj hv hlk hdg (kk x hG)
/-- a field that is never null -/
theorem t_getr (C : CallFix p m c cc nL s args gt own) (w : Wh D K b0 sa s H locs L f) (hT : TW K G Ψ L f) {a t : Nat} (ha : a ∈ L) (ht : Ψ a = t) (hk : tkd t = 0) {CN : String} {T : u_T} {N : Nat} (hcl : vwCl[t]? = some (CN, T, N)) (hin : ∀ w ∈ u_ws CN T N, w ∈ gt) (j : Nat) (hj : j < N) {t2 : Nat} (hd : (tob t)[j]? = some (1, t2)) {index : Nat} (hlk : Cond.fieldLink own index (T j).1 (T j).2.1 (T j).2.2.1 ∈ gt) (hdg : decode cc pc = .ok (.getfield index, 3))
    (kk : ∀ q : Nat, q ∈ L → Ψ q = t2 → W p l e R s m args below meth c H locs cells slots Q (F0 m (pc + 3) ls (.ref q :: rest))) : W p l e R s m args below meth c H locs cells slots Q (F0 m pc ls (.ref a :: rest)) := by
  obtain ⟨fs, hf, hl, hg⟩ := t_obj hT ha ht hk
  obtain ⟨v, hv, q, rfl, hq, hq2⟩ := hg j _ hd
  exact t_getv C w ha hf hcl hin j hj hv hlk hdg (kk q hq hq2)
theorem t_putv (C : CallFix p m c cc nL s args gt own) (w : Wh D K b0 sa s H locs L f) {a t : Nat} {fs : List Value} (ha : a ∈ L) (hf : f a = .inr (t, fs)) {CN : String} {T : u_T} {N : Nat} (hcl : vwCl[t]? = some (CN, T, N)) (hin : ∀ w ∈ u_ws CN T N, w ∈ gt) (ty0 : Nat → FieldType) (hty : ∀ k, k < N → parseFieldDescriptor (T k).2.2.1 = some (ty0 k)) (hnm : ∀ a, a < N → ∀ b, b < N → a ≠ b → (T a).2.1 ≠ (T b).2.1) (j : Nat) (hj : j < N) (hl : j < fs.length) (hfin : (T j).2.2.2 = false) {v : Value} (hn : narrow (ty0 j) v = v) (hfit : fits (ty0 j) v = true) {index : Nat} (hlk : Cond.fieldLink own index (T j).1 (T j).2.1 (T j).2.2.1 ∈ gt) (hdg : decode cc pc = .ok (.putfield index, 3))
    (kk : ∀ (H1 : Heap) (locs1 : List Loc), Wh D K b0 sa s H1 locs1 L (va_up f a (.inr (t, fs.set j v))) → W p l e R s m args below meth c H1 locs1 cells slots Q (F0 m (pc + 3) ls rest)) : W p l e R s m args below meth c H locs cells slots Q (F0 m pc ls (v :: .ref a :: rest)) := by
  obtain ⟨hx, hb, hml, hown, hts⟩ := C
  obtain ⟨w1, w2, w3, w4, w5, w6, w7⟩ := w
  obtain ⟨k0, hk0⟩ := va_pl_get (X := []) (f := f) ha
  have hk1 : ([] ++ va_pl L f)[k0]? = some (a, .inr (t, fs)) := by rw [hk0, hf]
  refine va_put (A := fun q => b0 ≤ q) (ws := [] ++ va_pl L f) hx hb hts hin ty0 hty hnm hown w2 w3 w4 w5 k0 hk1 hcl j hj (hts _ hlk) (fun _ h => h) hfin (hty j hj) hn hfit hl hdg (fun H1 locs1 hP hD hS => ?_)
  rw [va_pl_set (X := []) w4 ha hk0] at hP hD
  exact kk H1 locs1 ⟨w1, w2, hP, hD, hS, w6, w7⟩
/-- a final field, in its own constructor -/
theorem t_putF (C : CallFix p m c cc nL s args gt own) (hini : meth.name = "<init>") (w : Wh D K b0 sa s H locs L f) {a t : Nat} {fs : List Value} (ha : a ∈ L) (hf : f a = .inr (t, fs)) {CN : String} {T : u_T} {N : Nat} (hcl : vwCl[t]? = some (CN, T, N)) (hin : ∀ w ∈ u_ws CN T N, w ∈ gt) (ty0 : Nat → FieldType) (hty : ∀ k, k < N → parseFieldDescriptor (T k).2.2.1 = some (ty0 k)) (hnm : ∀ a, a < N → ∀ b, b < N → a ≠ b → (T a).2.1 ≠ (T b).2.1) (j : Nat) (hj : j < N) (hl : j < fs.length) (hfin : (T j).2.2.2 = true) (hdecl : (T j).1 = own) {v : Value} (hn : narrow (ty0 j) v = v) (hfit : fits (ty0 j) v = true) {index : Nat} (hlk : Cond.fieldLink own index (T j).1 (T j).2.1 (T j).2.2.1 ∈ gt) (hdg : decode cc pc = .ok (.putfield index, 3))
    (kk : ∀ (H1 : Heap) (locs1 : List Loc), Wh D K b0 sa s H1 locs1 L (va_up f a (.inr (t, fs.set j v))) → W p l e R s m args below meth c H1 locs1 cells slots Q (F0 m (pc + 3) ls rest)) : W p l e R s m args below meth c H locs cells slots Q (F0 m pc ls (v :: .ref a :: rest)) := by
  obtain ⟨hx, hb, hml, hown, hts⟩ := C
  obtain ⟨w1, w2, w3, w4, w5, w6, w7⟩ := w
  obtain ⟨k0, hk0⟩ := va_pl_get (X := []) (f := f) ha
  have hk1 : ([] ++ va_pl L f)[k0]? = some (a, .inr (t, fs)) := by rw [hk0, hf]
  refine va_putF (A := fun q => b0 ≤ q) (ws := [] ++ va_pl L f) hx hb hts hin ty0 hty hnm hown w2 w3 w4 w5 k0 hk1 hcl j hj (hts _ hlk) (fun _ h => h) hfin hini hdecl (hty j hj) hn hfit hl hdg (fun H1 locs1 hP hD hS => ?_)
  rw [va_pl_set (X := []) w4 ha hk0] at hP hD
  exact kk H1 locs1 ⟨w1, w2, hP, hD, hS, w6, w7⟩
theorem tyo_set {t : Nat} {fs : List Value} {j : Nat} {v : Value} (hl : fs.length = (tob t).length) (hg : ∀ (j2 : Nat) (d : Nat × Nat), j2 ≠ j → (tob t)[j2]? = some d → ∃ v : Value, fs[j2]? = some v ∧ tyv G Ψ L (100 * t + j2) d v) (hj : j < fs.length) (hv : ∀ d : Nat × Nat, (tob t)[j]? = some d → tyv G Ψ L (100 * t + j) d v) : tyo G Ψ L t (.inr (t, fs.set j v)) := by
  refine ⟨fs.set j v, rfl, by rw [List.length_set]; exact hl, fun j2 d hd => ?_⟩
  by_cases e : j2 = j
  · subst e
    exact ⟨v, List.getElem?_set_self hj, hv d hd⟩
  · rw [List.getElem?_set_ne (Ne.symm e)]
    exact hg j2 d e hd
/-- an int field, within what is known of it -/
theorem t_puti (C : CallFix p m c cc nL s args gt own) (w : Wh D K b0 sa s H locs L f) (hT : TW K G Ψ L f) {a t : Nat} (ha : a ∈ L) (ht : Ψ a = t) (hk : tkd t = 0) {CN : String} {T : u_T} {N : Nat} (hcl : vwCl[t]? = some (CN, T, N)) (hin : ∀ w ∈ u_ws CN T N, w ∈ gt) (ty0 : Nat → FieldType) (hty : ∀ k, k < N → parseFieldDescriptor (T k).2.2.1 = some (ty0 k)) (hnm : ∀ a, a < N → ∀ b, b < N → a ≠ b → (T a).2.1 ≠ (T b).2.1) (j : Nat) (hj : j < N) {d2 id : Nat} (hd : (tob t)[j]? = some (0, d2)) (hid : 100 * t + j = id) (hfin : (T j).2.2.2 = false) {v : Int32} (hn : narrow (ty0 j) (.int v) = .int v) (hfit : fits (ty0 j) (.int v) = true) (hG : G id 0 v) {index : Nat} (hlk : Cond.fieldLink own index (T j).1 (T j).2.1 (T j).2.2.1 ∈ gt) (hdg : decode cc pc = .ok (.putfield index, 3))
    (kk : ∀ (f' : Nat → va_E) (H1 : Heap) (locs1 : List Loc), Wh D K b0 sa s H1 locs1 L f' → TW K G Ψ L f' → rawk Ψ L f f' → W p l e R s m args below meth c H1 locs1 cells slots Q (F0 m (pc + 3) ls rest)) : W p l e R s m args below meth c H locs cells slots Q (F0 m pc ls (.int v :: .ref a :: rest)) := by
  obtain ⟨fs, hf, hl, hg⟩ := t_obj hT ha ht hk
  have hjl : j < fs.length := by rw [hl]; exact (List.getElem?_eq_some_iff.mp hd).1
  subst hid
  refine t_putv C w ha hf hcl hin ty0 hty hnm j hj hjl hfin hn hfit hlk hdg (fun H1 locs1 w' => kk _ H1 locs1 w' (hT.up ?_) (rawk.rf.up (by rw [ht]; exact tkd_ne hk (by decide))))
  rw [ht, tye_0 hk]
  refine tyo_set hl (fun j2 d _ h => hg j2 d h) hjl (fun d h => ?_)
  cases Option.some.inj (hd.symm.trans h)
  exact ⟨v, rfl, hG⟩
theorem tye_gset {t t2 j : Nat} {v : Int32} {e2 : va_E} (hj : j < 60) (hne : t2 ≠ t) (h : tye K G Ψ L t2 e2) : tye K (gset G (100 * t + j) v) Ψ L t2 e2 := by
  unfold tye at h ⊢
  generalize tkd t2 = k at h ⊢
  match k, h with
  | 0, h1 =>
    obtain ⟨fs, e, hl, hf⟩ := h1
    refine ⟨fs, e, hl, fun j2 d hd => ?_⟩
    obtain ⟨v2, hv, ht⟩ := hf j2 d hd
    have h60 := tob_lt hd
    exact ⟨v2, hv, ht.mono (fun x hx => by rw [gset_ne (by omega)]; exact hx)⟩
  | 1, h1 =>
    obtain ⟨g, e, hg⟩ := h1
    exact ⟨g, e, fun i hi => by rw [gset_ne (by omega)]; exact hg i hi⟩
  | 2, h1 => exact h1
  | 3, h1 => exact h1
  | (_ + 4), _ => trivial
/-- an int field of the only object of its kind: from here on its value is known -/
theorem t_putS (C : CallFix p m c cc nL s args gt own) (w : Wh D K b0 sa s H locs L f) (hT : TW K G Ψ L f) {a t : Nat} (ha : a ∈ L) (ht : Ψ a = t) (hu : ∀ b : Nat, b ∈ L → Ψ b = t → b = a) (hk : tkd t = 0) {CN : String} {T : u_T} {N : Nat} (hcl : vwCl[t]? = some (CN, T, N)) (hin : ∀ w ∈ u_ws CN T N, w ∈ gt) (ty0 : Nat → FieldType) (hty : ∀ k, k < N → parseFieldDescriptor (T k).2.2.1 = some (ty0 k)) (hnm : ∀ a, a < N → ∀ b, b < N → a ≠ b → (T a).2.1 ≠ (T b).2.1) (j : Nat) (hj : j < N) {d2 id : Nat} (hd : (tob t)[j]? = some (0, d2)) (hid : 100 * t + j = id) (hfin : (T j).2.2.2 = false) {v : Int32} (hn : narrow (ty0 j) (.int v) = .int v) (hfit : fits (ty0 j) (.int v) = true) {index : Nat} (hlk : Cond.fieldLink own index (T j).1 (T j).2.1 (T j).2.2.1 ∈ gt) (hdg : decode cc pc = .ok (.putfield index, 3))
    (kk : ∀ (f' : Nat → va_E) (H1 : Heap) (locs1 : List Loc), Wh D K b0 sa s H1 locs1 L f' → TW K (gset G id v) Ψ L f' → rawk Ψ L f f' → W p l e R s m args below meth c H1 locs1 cells slots Q (F0 m (pc + 3) ls rest)) : W p l e R s m args below meth c H locs cells slots Q (F0 m pc ls (.int v :: .ref a :: rest)) := by
  obtain ⟨fs, hf, hl, hg⟩ := t_obj hT ha ht hk
  have hjl : j < fs.length := by rw [hl]; exact (List.getElem?_eq_some_iff.mp hd).1
  have hj60 := tob_lt hd
  subst hid
  refine t_putv C w ha hf hcl hin ty0 hty hnm j hj hjl hfin hn hfit hlk hdg (fun H1 locs1 w' => kk _ H1 locs1 w' ?_ (rawk.rf.up (by rw [ht]; exact tkd_ne hk (by decide))))
  intro b hb
  by_cases hba : b = a
  · subst hba
    rw [va_up_self, ht, tye_0 hk]
    refine tyo_set hl (fun j2 d e h2 => ?_) hjl (fun d h => ?_)
    · obtain ⟨v2, hv2, ht2⟩ := hg j2 d h2
      have h60 := tob_lt h2
      exact ⟨v2, hv2, ht2.mono (fun x hx => by rw [gset_ne (by omega)]; exact hx)⟩
    · cases Option.some.inj (hd.symm.trans h)
      exact ⟨v, rfl, by unfold gset; rw [if_pos rfl]⟩
  · rw [va_up_ne _ _ hba]
    exact tye_gset hj60 (fun q => hba (hu b hb q)) (hT b hb)
end TR
