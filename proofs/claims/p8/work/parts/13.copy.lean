section TC
variable {p : Program} {l : Launch} {e : Env} {R : Room} {s : State} {m : MethodId} {args : Array Value} {below : List Frame} {meth : Method} {c : Code} {H : Heap} {locs : List Loc} {cells slots : Nat} {Q : State → Prop}
variable {cc : ByteArray} {pc nL : Nat} {ls : Array Slot} {rest : List Value} {D : va_G} {K : Nat → ClassId} {b0 : Nat} {sa : sT} {L : List Nat} {f : Nat → va_E} {G : tG} {Ψ : Nat → Nat} {own : String}
/-- System.arraycopy(a, 0, b, 0, n) between two int arrays of one kind -/
theorem t_copy (C : CallFix p m c cc nL s args gt own) (w : Wh D K b0 sa s H locs L f) (hT : TW K G Ψ L f) {a b t : Nat} (ha : a ∈ L) (hta : Ψ a = t) (hb : b ∈ L) (htb : Ψ b = t) (hk : tkd t = 1) (hti : tti t = 0) {index : Nat} (hsz : ls.size = nL)
    (k1 : Cond.methodLink own index arraycopyName ∈ gt) (k2 : Cond.native arraycopyName ∈ gt) (k3 : Cond.static arraycopyName ∈ gt) (k4 : Cond.initialized "java/lang/System" ∈ gt) {n : Int32} (h3 : ¬ n < 0) (h4 : n.toNatClampNeg ≤ tln t)
    (hframes : 1 ≤ R.frames) (hlocals : (rest.map fun v => v.category).sum + (nativeFrameWords "java/lang/System" "arraycopy" 5 + 11) ≤ R.locals) (hdg : decode cc pc = .ok (.invokestatic index, 3))
    (kk : ∀ (f' : Nat → va_E) (H1 : Heap) (locs1 : List Loc), Wh D K b0 sa s H1 locs1 L f' → TW K G Ψ L f' → rawk Ψ L f f' → W p l e R s m args below meth c H1 locs1 cells slots Q (F0 m (pc + 3) ls rest)) : W p l e R s m args below meth c H locs cells slots Q (F0 m pc ls (.int n :: .int 0 :: .ref b :: .int 0 :: .ref a :: rest)) := by
  obtain ⟨hx, hbb, hml, hown, hts⟩ := C
  obtain ⟨w1, w2, w3, w4, w5, w6, w7⟩ := w
  have h := hT a ha
  rw [hta, tye_1 hk] at h
  obtain ⟨ga, ea, hga⟩ := h
  have h := hT b hb
  rw [htb, tye_1 hk] at h
  obtain ⟨gb, eb, hgb⟩ := h
  obtain ⟨ka, hka⟩ := va_pl_get (X := []) (f := f) ha
  obtain ⟨kb, hkb⟩ := va_pl_get (X := []) (f := f) hb
  have hka1 : ([] ++ va_pl L f)[ka]? = some (a, .inl (K 0, tln t, .inl ga)) := by rw [hka, ea, hti]
  have hkb1 : ([] ++ va_pl L f)[kb]? = some (b, .inl (K 0, tln t, .inl gb)) := by rw [hkb, eb, hti]
  have z0 : (0 : Int32).toNatClampNeg = 0 := by decide
  refine va_copyi (A := fun q => b0 ≤ q) (ws := [] ++ va_pl L f) hx hbb (hml.trans hsz.symm) hown (hts _ k1) (hts _ k2) (hts _ k3) (hts _ k4) w2 w3 w4 w5 ka kb 0 0 hka1 hkb1 rfl rfl rfl (by decide) (by decide) h3 (by rw [z0]; omega) (by rw [z0]; omega) (fun i _ => rfl) hframes hlocals hdg (fun H1 locs1 hP hD hS => ?_)
  rw [va_pl_set (X := []) w4 hb hkb] at hP hD
  refine kk _ H1 locs1 ⟨w1, w2, hP, hD, hS, w6, w7⟩ (hT.up ?_) (rawk.rf.up (by rw [htb]; exact tkd_ne hk (by decide)))
  rw [htb, tye_1 hk]
  refine ⟨_, by rw [hti], fun j hj => ?_⟩
  rw [z0]
  by_cases q : j < n.toNatClampNeg
  · rw [pk_cpy_in (by omega) (by omega)]
    have : 0 + (j - 0) = j := by omega
    rw [this]
    exact hga j hj
  · rw [pk_cpy_out (by omega)]
    exact hgb j hj
end TC
