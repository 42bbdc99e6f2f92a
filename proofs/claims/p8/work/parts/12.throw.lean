theorem xg_316 : ∀ w ∈ (xatS 316 "java/lang/IllegalArgumentException").filter goodWord, w ∈ lw_tbl := by decide +kernel
theorem xg_323 : ∀ w ∈ (xatS 323 "java/lang/IndexOutOfBoundsException").filter goodWord, w ∈ lw_tbl := by decide +kernel
theorem xg_328 : ∀ w ∈ xatN.filter goodWord, w ∈ lw_tbl := by decide +kernel
section TT
variable {p : Program} {l : Launch} {e : Env} {R : Room} {s : State} {m : MethodId} {args : Array Value} {below : List Frame} {meth : Method} {c : Code} {H : Heap} {locs : List Loc} {cells slots mc ms : Nat}
variable {cc : ByteArray} {pc nL : Nat} {ls : Array Slot} {D : va_G} {K : Nat → ClassId} {b0 : Nat} {sa : sT} {L : List Nat} {f : Nat → va_E} {post : Option Value → tU → Prop} {px : String → tU → Prop}
/-- throw new E("..") of the class's own three -/
theorem t_throw (hls : l.stackTraces = false) (C : CallFix p m c cc nL s args gt RX6) (w : Wh D K b0 sa s H locs L f) {cls text : String} {ik is ic ad : Nat} (hcls : Bundle.fit cls = true)
    (k1 : Cond.classLink RX6 ik cls ∈ gt) (k2 : Cond.initialized cls ∈ gt) (hstr : vk_R RX6 is text ad s) (hxg : ∀ w ∈ (xatS ic cls).filter goodWord, w ∈ lw_tbl) (hx3 : ∀ w ∈ xatS ic cls, goodWord w = false → w ∈ nw3)
    (hgood : ∀ w ∈ Cond.classLink RX6 ik cls :: Cond.initialized cls :: xatS ic cls, vx_ot w = true) (hsz : ls.size = nL) (htb : ∀ x ∈ c.exceptionTable.toList, False)
    (d0 : decode cc pc = .ok (.new ik, 3)) (d3 : decode cc (pc + 3) = .ok (.dup, 1)) (d4 : decode cc (pc + 4) = .ok (.ldc_w is, 3)) (d7 : decode cc (pc + 7) = .ok (.invokespecial ic, 3)) (d10 : decode cc (pc + 10) = .ok (.athrow, 1))
    (hRf : 5 < R.frames) (hRl : 82 ≤ R.locals) (hRc : cells + 1 ≤ R.cells) (hRs : slots + 6 ≤ R.slots) (hlk : meth.locks = false) {G2 : tG} {Ψ2 : Nat → Nat} (hq : px cls (G2, Ψ2, L, f)) (hc : cells + 1 ≤ mc) (hs : slots + 6 ≤ ms) :
    W p l e R s m args below meth c H locs cells slots (vx_MQ below (hQ D K b0 post) (hX D K b0 px) args s mc ms (fun q => b0 ≤ q)) (F0 m pc ls []) := by
  obtain ⟨hx, hb, hml, hown, hts⟩ := C
  obtain ⟨w1, w2, w3, w4, w5, w6, w7⟩ := w
  refine vx_throwSW (own := RX6) (cls := cls) (text := text) (names := ["java/lang/RuntimeException", "java/lang/Exception"]) (A := fun q => b0 ≤ q) (rest := []) hx hb hls hown hcls (by decide) (hts _ k1) (hts _ k2) hstr (fun w hw => ?_) hgood w7.2.2.2.1 w7.2.2.2.2.1 w5 (hsz.trans hml.symm) d0 d3 d4 d7 d10 (fun x hx => (htb x hx).elim) hRf hRl hRc hRs hlk (fun t hA hz hk => ?_) w5.2.2 hc hs
  · cases hg : goodWord w with
    | true => exact hts _ (gt_of (hxg w (List.mem_filter.mpr ⟨hw, hg⟩)) hg)
    | false =>
      have h1 := List.all_eq_true.mp nw3_ok w (hx3 w hw hg)
      rw [Bool.and_eq_true] at h1
      exact va_Nw.use h1.2 (w6.2.2.2.2 w (hx3 w hw hg))
  · exact ⟨⟨(G2, Ψ2, L, f), hq, w3.kept (fun k q hkq => hk q.1 ((w3 k q hkq).lt)), va_K.moved hA w2, w4⟩, Nat.le_trans w5.1 hz, fun q h1 h2 => (hk q (Nat.lt_of_lt_of_le h1 w5.1)).trans (w5.2.1 q h1 h2)⟩
/-- throw new NoSuchElementException("..") -/
theorem t_throwN (hls : l.stackTraces = false) (C : CallFix p m c cc nL s args gt RX6) (w : Wh D K b0 sa s H locs L f) {text : String} {ik is ad : Nat}
    (k1 : Cond.classLink RX6 ik "java/util/NoSuchElementException" ∈ gt) (k2 : Cond.initialized "java/util/NoSuchElementException" ∈ gt) (hstr : vk_R RX6 is text ad s) (hxg : ∀ w ∈ xatN.filter goodWord, w ∈ lw_tbl) (hx3 : ∀ w ∈ xatN, goodWord w = false → w ∈ nw3)
    (hgood : ∀ w ∈ Cond.classLink RX6 ik "java/util/NoSuchElementException" :: Cond.initialized "java/util/NoSuchElementException" :: xatN, vx_ot w = true) (hsz : ls.size = nL) (htb : ∀ x ∈ c.exceptionTable.toList, False)
    (d0 : decode cc pc = .ok (.new ik, 3)) (d3 : decode cc (pc + 3) = .ok (.dup, 1)) (d4 : decode cc (pc + 4) = .ok (.ldc_w is, 3)) (d7 : decode cc (pc + 7) = .ok (.invokespecial 328, 3)) (d10 : decode cc (pc + 10) = .ok (.athrow, 1))
    (hRf : 5 < R.frames) (hRl : 82 ≤ R.locals) (hRc : cells + 1 ≤ R.cells) (hRs : slots + 6 ≤ R.slots) (hlk : meth.locks = false) {G2 : tG} {Ψ2 : Nat → Nat} (hq : px "java/util/NoSuchElementException" (G2, Ψ2, L, f)) (hc : cells + 1 ≤ mc) (hs : slots + 6 ≤ ms) :
    W p l e R s m args below meth c H locs cells slots (vx_MQ below (hQ D K b0 post) (hX D K b0 px) args s mc ms (fun q => b0 ≤ q)) (F0 m pc ls []) := by
  obtain ⟨hx, hb, hml, hown, hts⟩ := C
  obtain ⟨w1, w2, w3, w4, w5, w6, w7⟩ := w
  refine nx_throw (own := RX6) (cls := "java/util/NoSuchElementException") (text := text) (A := fun q => b0 ≤ q) (rest := []) hx hb hls hown (by decide) (hts _ k1) (hts _ k2) hstr (fun w hw => ?_) hgood w7.2.2.2.1 w7.2.2.2.2.1 w5 (hsz.trans hml.symm) d0 d3 d4 d7 d10 (fun x hx => (htb x hx).elim) hRf hRl hRc hRs hlk (fun t hA hz hk => ?_) w5.2.2 hc hs
  · cases hg : goodWord w with
    | true => exact hts _ (gt_of (hxg w (List.mem_filter.mpr ⟨hw, hg⟩)) hg)
    | false =>
      have h1 := List.all_eq_true.mp nw3_ok w (hx3 w hw hg)
      rw [Bool.and_eq_true] at h1
      exact va_Nw.use h1.2 (w6.2.2.2.2 w (hx3 w hw hg))
  · exact ⟨⟨(G2, Ψ2, L, f), hq, w3.kept (fun k q hkq => hk q.1 ((w3 k q hkq).lt)), va_K.moved hA w2, w4⟩, Nat.le_trans w5.1 hz, fun q h1 h2 => (hk q (Nat.lt_of_lt_of_le h1 w5.1)).trans (w5.2.1 q h1 h2)⟩
end TT
theorem nw_316 : ∀ w ∈ xatS 316 "java/lang/IllegalArgumentException", goodWord w = false → w ∈ nw3 := fun w h hg => List.mem_filter.mpr ⟨List.mem_append_left _ h, by rw [hg]; rfl⟩
theorem nw_323 : ∀ w ∈ xatS 323 "java/lang/IndexOutOfBoundsException", goodWord w = false → w ∈ nw3 := fun w h hg => List.mem_filter.mpr ⟨List.mem_append_right _ (List.mem_append_left _ h), by rw [hg]; rfl⟩
theorem nw_328 : ∀ w ∈ xatN, goodWord w = false → w ∈ nw3 := fun w h hg => List.mem_filter.mpr ⟨List.mem_append_right _ (List.mem_append_right _ (List.mem_append_left _ h)), by rw [hg]; rfl⟩
theorem og_316 : ∀ w ∈ Cond.classLink RX6 312 "java/lang/IllegalArgumentException" :: Cond.initialized "java/lang/IllegalArgumentException" :: xatS 316 "java/lang/IllegalArgumentException", vx_ot w = true := by decide +kernel
theorem og_323 : ∀ w ∈ Cond.classLink RX6 319 "java/lang/IndexOutOfBoundsException" :: Cond.initialized "java/lang/IndexOutOfBoundsException" :: xatS 323 "java/lang/IndexOutOfBoundsException", vx_ot w = true := by decide +kernel
theorem og_328 : ∀ w ∈ Cond.classLink RX6 324 "java/util/NoSuchElementException" :: Cond.initialized "java/util/NoSuchElementException" :: xatN, vx_ot w = true := by decide +kernel
