theorem dJ0_coder_7d493_0 : decode cJ0_coder_7d493 0 = .ok (.getstatic 38, 3) := by decide +kernel
theorem dJ0_coder_7d493_3 : decode cJ0_coder_7d493 3 = .ok (.ifCond .eq 10, 3) := by decide +kernel
theorem dJ0_coder_7d493_6 : decode cJ0_coder_7d493 6 = .ok (.aload_n 0, 1) := by decide +kernel
theorem dJ0_coder_7d493_7 : decode cJ0_coder_7d493 7 = .ok (.getfield 15, 3) := by decide +kernel
theorem dJ0_coder_7d493_10 : decode cJ0_coder_7d493 10 = .ok (.goto 4, 3) := by decide +kernel
theorem dJ0_coder_7d493_13 : decode cJ0_coder_7d493 13 = .ok (.iconst 1, 1) := by decide +kernel
theorem dJ0_coder_7d493_14 : decode cJ0_coder_7d493 14 = .ok (.ireturn, 1) := by decide +kernel
theorem dJ0_isLatin1_aae02_0 : decode cJ0_isLatin1_aae02 0 = .ok (.getstatic 38, 3) := by decide +kernel
theorem dJ0_isLatin1_aae02_3 : decode cJ0_isLatin1_aae02 3 = .ok (.ifCond .eq 14, 3) := by decide +kernel
theorem dJ0_isLatin1_aae02_6 : decode cJ0_isLatin1_aae02 6 = .ok (.aload_n 0, 1) := by decide +kernel
theorem dJ0_isLatin1_aae02_7 : decode cJ0_isLatin1_aae02 7 = .ok (.getfield 15, 3) := by decide +kernel
theorem dJ0_isLatin1_aae02_10 : decode cJ0_isLatin1_aae02 10 = .ok (.ifCond .ne 7, 3) := by decide +kernel
theorem dJ0_isLatin1_aae02_13 : decode cJ0_isLatin1_aae02 13 = .ok (.iconst 1, 1) := by decide +kernel
theorem dJ0_isLatin1_aae02_14 : decode cJ0_isLatin1_aae02 14 = .ok (.goto 4, 3) := by decide +kernel
theorem dJ0_isLatin1_aae02_17 : decode cJ0_isLatin1_aae02 17 = .ok (.iconst 0, 1) := by decide +kernel
theorem dJ0_isLatin1_aae02_18 : decode cJ0_isLatin1_aae02 18 = .ok (.ireturn, 1) := by decide +kernel
theorem dJ0_length_8abf5_0 : decode cJ0_length_8abf5 0 = .ok (.aload_n 0, 1) := by decide +kernel
theorem dJ0_length_8abf5_1 : decode cJ0_length_8abf5 1 = .ok (.getfield 9, 3) := by decide +kernel
theorem dJ0_length_8abf5_4 : decode cJ0_length_8abf5 4 = .ok (.arraylength, 1) := by decide +kernel
theorem dJ0_length_8abf5_5 : decode cJ0_length_8abf5 5 = .ok (.aload_n 0, 1) := by decide +kernel
theorem dJ0_length_8abf5_6 : decode cJ0_length_8abf5 6 = .ok (.invokevirtual 335, 3) := by decide +kernel
theorem dJ0_length_8abf5_9 : decode cJ0_length_8abf5 9 = .ok (.ishr, 1) := by decide +kernel
theorem dJ0_length_8abf5_10 : decode cJ0_length_8abf5 10 = .ok (.ireturn, 1) := by decide +kernel
theorem dJ3_checkIndex_8e157_0 : decode cJ3_checkIndex_8e157 0 = .ok (.iload_n 0, 1) := by decide +kernel
theorem dJ3_checkIndex_8e157_1 : decode cJ3_checkIndex_8e157 1 = .ok (.ifCond .lt 8, 3) := by decide +kernel
theorem dJ3_checkIndex_8e157_4 : decode cJ3_checkIndex_8e157 4 = .ok (.iload_n 0, 1) := by decide +kernel
theorem dJ3_checkIndex_8e157_5 : decode cJ3_checkIndex_8e157 5 = .ok (.iload_n 1, 1) := by decide +kernel
theorem dJ3_checkIndex_8e157_6 : decode cJ3_checkIndex_8e157 6 = .ok (.if_icmp .lt 10, 3) := by decide +kernel
theorem dJ3_checkIndex_8e157_9 : decode cJ3_checkIndex_8e157 9 = .ok (.aload_n 2, 1) := by decide +kernel
theorem dJ3_checkIndex_8e157_10 : decode cJ3_checkIndex_8e157 10 = .ok (.iload_n 0, 1) := by decide +kernel
theorem dJ3_checkIndex_8e157_11 : decode cJ3_checkIndex_8e157 11 = .ok (.iload_n 1, 1) := by decide +kernel
theorem dJ3_checkIndex_8e157_12 : decode cJ3_checkIndex_8e157 12 = .ok (.invokestatic 95, 3) := by decide +kernel
theorem dJ3_checkIndex_8e157_15 : decode cJ3_checkIndex_8e157 15 = .ok (.athrow, 1) := by decide +kernel
theorem dJ3_checkIndex_8e157_16 : decode cJ3_checkIndex_8e157 16 = .ok (.iload_n 0, 1) := by decide +kernel
theorem dJ3_checkIndex_8e157_17 : decode cJ3_checkIndex_8e157 17 = .ok (.ireturn, 1) := by decide +kernel
theorem dJ0_checkIndex_df160_0 : decode cJ0_checkIndex_df160 0 = .ok (.iload_n 0, 1) := by decide +kernel
theorem dJ0_checkIndex_df160_1 : decode cJ0_checkIndex_df160 1 = .ok (.iload_n 1, 1) := by decide +kernel
theorem dJ0_checkIndex_df160_2 : decode cJ0_checkIndex_df160 2 = .ok (.getstatic 1053, 3) := by decide +kernel
theorem dJ0_checkIndex_df160_5 : decode cJ0_checkIndex_df160 5 = .ok (.invokestatic 1059, 3) := by decide +kernel
theorem dJ0_checkIndex_df160_8 : decode cJ0_checkIndex_df160 8 = .ok (.pop, 1) := by decide +kernel
theorem dJ0_checkIndex_df160_9 : decode cJ0_checkIndex_df160 9 = .ok (.return_, 1) := by decide +kernel
theorem dJ1_charAt_3b067_0 : decode cJ1_charAt_3b067 0 = .ok (.iload_n 1, 1) := by decide +kernel
theorem dJ1_charAt_3b067_1 : decode cJ1_charAt_3b067 1 = .ok (.aload_n 0, 1) := by decide +kernel
theorem dJ1_charAt_3b067_2 : decode cJ1_charAt_3b067 2 = .ok (.arraylength, 1) := by decide +kernel
theorem dJ1_charAt_3b067_3 : decode cJ1_charAt_3b067 3 = .ok (.invokestatic 9, 3) := by decide +kernel
theorem dJ1_charAt_3b067_6 : decode cJ1_charAt_3b067 6 = .ok (.aload_n 0, 1) := by decide +kernel
theorem dJ1_charAt_3b067_7 : decode cJ1_charAt_3b067 7 = .ok (.iload_n 1, 1) := by decide +kernel
theorem dJ1_charAt_3b067_8 : decode cJ1_charAt_3b067 8 = .ok (.baload, 1) := by decide +kernel
theorem dJ1_charAt_3b067_9 : decode cJ1_charAt_3b067 9 = .ok (.sipush 255, 3) := by decide +kernel
theorem dJ1_charAt_3b067_12 : decode cJ1_charAt_3b067 12 = .ok (.iand, 1) := by decide +kernel
theorem dJ1_charAt_3b067_13 : decode cJ1_charAt_3b067 13 = .ok (.i2c, 1) := by decide +kernel
theorem dJ1_charAt_3b067_14 : decode cJ1_charAt_3b067 14 = .ok (.ireturn, 1) := by decide +kernel
theorem dJ0_charAt_5068e_0 : decode cJ0_charAt_5068e 0 = .ok (.aload_n 0, 1) := by decide +kernel
theorem dJ0_charAt_5068e_1 : decode cJ0_charAt_5068e 1 = .ok (.invokevirtual 492, 3) := by decide +kernel
theorem dJ0_charAt_5068e_4 : decode cJ0_charAt_5068e 4 = .ok (.ifCond .eq 12, 3) := by decide +kernel
theorem dJ0_charAt_5068e_7 : decode cJ0_charAt_5068e 7 = .ok (.aload_n 0, 1) := by decide +kernel
theorem dJ0_charAt_5068e_8 : decode cJ0_charAt_5068e 8 = .ok (.getfield 9, 3) := by decide +kernel
theorem dJ0_charAt_5068e_11 : decode cJ0_charAt_5068e 11 = .ok (.iload_n 1, 1) := by decide +kernel
theorem dJ0_charAt_5068e_12 : decode cJ0_charAt_5068e 12 = .ok (.invokestatic 495, 3) := by decide +kernel
theorem dJ0_charAt_5068e_15 : decode cJ0_charAt_5068e 15 = .ok (.ireturn, 1) := by decide +kernel
theorem dJ0_charAt_5068e_16 : decode cJ0_charAt_5068e 16 = .ok (.aload_n 0, 1) := by decide +kernel
theorem dJ0_charAt_5068e_17 : decode cJ0_charAt_5068e 17 = .ok (.getfield 9, 3) := by decide +kernel
theorem dJ0_charAt_5068e_20 : decode cJ0_charAt_5068e 20 = .ok (.iload_n 1, 1) := by decide +kernel
theorem dJ0_charAt_5068e_21 : decode cJ0_charAt_5068e 21 = .ok (.invokestatic 498, 3) := by decide +kernel
theorem dJ0_charAt_5068e_24 : decode cJ0_charAt_5068e 24 = .ok (.ireturn, 1) := by decide +kernel

section JK
variable {p : Program} {l : Launch} {e : Env} {R : Room} {s : State} {m : MethodId} {args : Array Value} {below : List Frame} {meth : Method} {c : Code} {H : Heap} {locs : List Loc} {cells slots : Nat} {Q : State → Prop}
variable {cc : ByteArray} {pc nL : Nat} {ls : Array Slot} {rest st0 : List Value} {D : va_G} {K : Nat → ClassId} {b0 : Nat} {sa : sT} {L : List Nat} {f : Nat → va_E} {own : String}
variable {y : MethodName} {bytes : ByteArray} {maxL n mc ms index : Nat} {ret : Option FieldType} {rm : Room} {As : List Value} {post : Option Value → tU → Prop} {px : String → tU → Prop}
/-- a contract of a method whose class has natives, she herself being none -/
theorem ofWF {ws ws' : List Cond} {Pc : Array Value → State → Prop} {Qc : Array Value → State → Outcome → State → Prop} {free : Addr → Prop}
    (hy : plainFor y = true) (hw : ws = Cond.code y cc maxL ret :: ws')
    (body : ∀ p e s m args below meth c s₁, BodyLoose p l y (headSpec ws rm) cc maxL ret e s m args below meth c s₁ → c.maxLocals = maxL → Pc args s →
      W p l e (headSpec ws rm).room s m args below meth c s.heap [] 0 0 (MQ below Qc args s mc ms free) (entryFrame m args maxL)) : Met l y ws rm Pc Qc mc ms free := by
  refine MetFree.of_bodySF (code := cc) (maxLocals := maxL) (ret := ret) hy ?_ ?_
  · intro args s m h hn
    obtain ⟨meth, c, h1, h2, h3, h4, h5, h6, -, -⟩ := Cond.code_spec hn (atoms_spec (ws := ws) h _ (by rw [hw]; exact List.mem_cons_self))
    exact ⟨meth, c, h1, h2, h3, h4, h5, h6⟩
  · intro p e s m args below meth c s₁ B hml hP _
    have hh0 : s₁.heap = s.heap := by rw [B.state]; rfl
    obtain ⟨t, a1, o, b1, b2, b3⟩ := body p e s m args below meth c s₁ B hml hP s₁ hh0 (Stand.of_body B)
    exact ⟨t, o, a1, b1, b2, ⟨b3.1, b3.2⟩⟩
theorem t_ofF {sz : Nat} (hy : plainFor y = true) (hcls : y.cls = own)
    (body : ∀ (p : Program) (e : Env) (s : State) (m : MethodId) (below : List Frame) (meth : Method) (c : Code) (ls : Array Slot), CallFix p m c bytes maxL s As.toArray gt own → Wh D K b0 sa s s.heap [] L f → s.heap.size = sz → meth.sig.returnType = ret → meth.locks = false → meth.name = y.name → lv_has ls maxL (lv_args 0 As) →
      W p l e rm s m As.toArray below meth c s.heap [] 0 0 (MQ below (hQ D K b0 post) As.toArray s mc ms (fun q => b0 ≤ q)) (F0 m 0 ls [])) (hlen : (lg_sl As).length ≤ maxL) :
    Met l y (.code y bytes maxL ret :: gt) rm (va_Pc As (hPre D K b0 sa sz L f)) (hQ D K b0 post) mc ms (fun q => b0 ≤ q) := by
  refine ofWF (cc := bytes) (maxL := maxL) (ret := ret) hy rfl ?_
  intro p e s m args below meth c s₁ B hml hv
  obtain ⟨rfl, hsz, hb0, ⟨q1, q2, q3⟩, hN, hZ⟩ := hv
  have hts := atoms_spec (ws := .code y bytes maxL ret :: gt) B.pre
  have hown : s.vm.findClass own = some m.cls := by rw [← hcls]; exact findClass_of_methodNamed B.named
  have hl := lv_entry As (n := maxL) hlen
  rw [lg_entry_eq]
  exact body p e s m below meth c _ ⟨B.exec, B.bytes, hml, hown, fun w hw => hts w (List.mem_cons_of_mem _ hw)⟩ ⟨by rw [hsz]; exact hb0, q2, q1, q3, va_S.rf, hN, hZ⟩ hsz B.returns B.notSynchronized (name_of_methodNamed B.named B.method).1 hl
/-- a byte or a char comes back -/
theorem t_nret (C : CallFix p m c cc nL s args gt own) {ty : FieldType} (hr : meth.sig.returnType = some ty) (hlk : meth.locks = false) (w : Wh D K b0 sa s H locs L f) {v : Int32} (hn : narrow ty (.int v) = .int v) {G2 : tG} {Ψ2 : Nat → Nat} (hq : post (some (.int v)) (G2, Ψ2, L, f)) (hc : cells ≤ mc) (hs : slots ≤ ms) (hdg : decode cc pc = .ok (.ireturn, 1)) :
    W p l e R s m args below meth c H locs cells slots (MQ below (hQ D K b0 post) args s mc ms (fun q => b0 ≤ q)) (F0 m pc ls [.int v]) := by
  refine W.widen (k := mc) (n := ms) hc hs ?_
  exact W.zret C.1 C.2.1 hr hn (t_end w hq) w.2.2.2.2.1.2.2 hdg
/-- a call of a method of an object that is not the pool's -/
theorem t_callR (C : CallFix p m c cc nL s args gt own) (w : Wh D K b0 sa s H locs L f) {a : Nat} (hrv : ∃ cell : Cell, H[a]? = some cell ∧ cell.vm.isStatics = false ∧ s.vm.findClass y.cls = some cell.cls) (hM : Met l y (.code y bytes maxL ret :: gt) rm (va_Pc (.ref a :: As) (hPre D K b0 sa H.size L f)) (hQ D K b0 post) mc ms (fun q => b0 ≤ q))
    (k1 : Cond.code y bytes maxL ret ∈ gt) (k2 : Cond.methodLink own index y ∈ gt) (k3 : Cond.instanceMethod y ∈ gt) (k5 : Cond.selects y.cls y y ∈ gt) (k4 : Cond.initialized y.cls ∈ gt) (hd : plainY y n) (hrc : rm.cells = mc) (hrs : rm.slots = ms) (hR : rm.frames + 1 ≤ R.frames ∧ 8 + (maxL + 11) + rm.locals ≤ R.locals)
    (hn : As.length = n) (hsz : ls.size = nL) (hst : st0 = As.reverse ++ .ref a :: rest) (hW : (rest.map fun v => v.category).sum ≤ 8) (hdg : decode cc pc = .ok (.invokevirtual index, 3)) (hf : cells + mc ≤ R.cells ∧ slots + ms ≤ R.slots)
    (kk : ∀ (v : Option Value) (u : tU) (H1 : Heap) (locs1 : List Loc), post v u → Wh D K b0 sa s H1 locs1 u.2.2.1 u.2.2.2 → W p l e R s m args below meth c H1 locs1 (cells + mc) (slots + ms) Q (F0 m (pc + 3) ls (v.toList ++ rest))) : W p l e R s m args below meth c H locs cells slots Q (F0 m pc ls st0) :=
  t_go w (va_runV (As := As) (rest := rest) C hM ⟨callB_of n C.2.2.2.2 (gt_in k1) rfl hrc hrs (C.2.2.2.2 _ k4) (C.2.2.2.2 _ k2) hd hR, C.2.2.2.2 _ k3, C.2.2.2.2 _ k5⟩ ⟨hPre.blind, hrv, fun U hU hW => ⟨rfl, w.pre hU hW⟩⟩ rfl hn hsz hst (lv_room hW) hdg hf) kk
theorem Wh.zy (w : Wh D K b0 sa s H locs L f) : Zy b0 sa s := w.2.2.2.2.2.2.2.2.2.2.2
/-- a string constant takes calls -/
theorem t_recK (w : Wh D K b0 sa s H locs L f) {k : Nat} (hk : k < 16) : ∃ cell : Cell, H[sa.2.2.2.1 k]? = some cell ∧ cell.vm.isStatics = false ∧ s.vm.findClass "java/lang/String" = some cell.cls := vk_recv w.zy.2.1.1 hk w.2.2.2.2.1
/-- the string constant k -/
theorem t_ldcS (C : CallFix p m c cc nL s args gt RX4) (w : Wh D K b0 sa s H locs L f) (k : Nat) {q : Nat × String} (hq : rsL[k]? = some q) (hdg : decode cc pc = .ok (.ldc q.1, 2))
    (kk : W p l e R s m args below meth c H locs cells slots Q (F0 m (pc + 2) ls (.ref (sa.2.2.2.1 k) :: rest))) : W p l e R s m args below meth c H locs cells slots Q (F0 m pc ls rest) := va_ldcS C.1 C.2.1 C.2.2.2.1 (w.zy.2.1.2 k q hq) hdg kk
end JK
theorem sb_n : ∀ k : Nat, k < 16 → Int32.ofNat (rsN.getD k 0) >>> ((0 : Int32) &&& 31) = Int32.ofNat (rsN.getD k 0) := by decide
theorem sb_c : ∀ k : Nat, k < 16 → ∀ j : Nat, j < rsN.getD k 0 → ((((rsB.getD k []).getD j 0) &&& 255).toUInt32 % 65536).toInt32 = (rsB.getD k []).getD j 0 ∧ narrow .char (.int ((rsB.getD k []).getD j 0)) = .int ((rsB.getD k []).getD j 0) := by decide
theorem sb_l : ∀ k : Nat, k < 16 → (Int32.ofNat (rsN.getD k 0)).toInt = ((rsN.getD k 0 : Nat) : Int) := by decide

set_option maxHeartbeats 4000000 in
set_option maxRecDepth 100000 in
theorem c_coder (l : Launch) (D : va_G) (K : Nat → ClassId) (b0 : Nat) (sa : sT) (sz : Nat) (L : List Nat) (f0 : Nat → va_E) (k : Nat) (hk : k < 16) : Met l yJ0_coder_7d493 (.code yJ0_coder_7d493 cJ0_coder_7d493 1 (some .byte) :: gt) { frames := 0, cells := 0, slots := 0, locals := 0 } (va_Pc [.ref (sa.2.2.2.1 k)] (hPre D K b0 sa sz L f0)) (hQ D K b0 (fun v9 u9 => v9 = some (.int 0) ∧ u9 = lU L f0)) 0 0 (fun q => b0 ≤ q) := by
  refine t_ofF (own := RJ0) (by decide +kernel) rfl ?_ (Nat.le_of_ble_eq_true rfl)
  intro p e s m below meth c ls C w hsz hr hlk hnm hl
  have hx := C.1
  have hb := C.2.1
  have hl : lv_has ls 1 [(0, .ref (sa.2.2.2.1 k))] := hl
  refine va_gets (A := fun q => b0 ≤ q) (C := RJ0) hx hb w.zy.2.2.1 w.2.2.2.2.1 C.2.2.2.1 (C.2.2.2.2 _ gw_765) (fun _ h => h) dJ0_coder_7d493_0 ?_
  refine lv_if_eq (tgt := 13) hx hb dJ0_coder_7d493_3 (by decide) (fun c0 => absurd c0 (by decide)) (fun _ => ?_)
  refine lv_aload_n hx hb dJ0_coder_7d493_6 rfl (lv_at hl 0 rfl) ?_
  refine vk_getf (A := fun q => b0 ≤ q) hx hb (w.zy.2.1.1.1 k hk).2.1 w.2.2.2.2.1 C.2.2.2.1 (C.2.2.2.2 _ gw_1707) (fun _ h => h) dJ0_coder_7d493_7 ?_
  refine lv_goto (tgt := 14) hx hb dJ0_coder_7d493_10 (by decide) ?_
  exact t_nret C hr hlk w (by decide) ⟨rfl, rfl⟩ (by decide) (by decide) dJ0_coder_7d493_14

set_option maxHeartbeats 4000000 in
set_option maxRecDepth 100000 in
theorem c_isLatin1 (l : Launch) (D : va_G) (K : Nat → ClassId) (b0 : Nat) (sa : sT) (sz : Nat) (L : List Nat) (f0 : Nat → va_E) (k : Nat) (hk : k < 16) : Met l yJ0_isLatin1_aae02 (.code yJ0_isLatin1_aae02 cJ0_isLatin1_aae02 1 (some .boolean) :: gt) { frames := 0, cells := 0, slots := 0, locals := 0 } (va_Pc [.ref (sa.2.2.2.1 k)] (hPre D K b0 sa sz L f0)) (hQ D K b0 (fun v9 u9 => v9 = some (.int 1) ∧ u9 = lU L f0)) 0 0 (fun q => b0 ≤ q) := by
  refine t_ofF (own := RJ0) (by decide +kernel) rfl ?_ (Nat.le_of_ble_eq_true rfl)
  intro p e s m below meth c ls C w hsz hr hlk hnm hl
  have hx := C.1
  have hb := C.2.1
  have hl : lv_has ls 1 [(0, .ref (sa.2.2.2.1 k))] := hl
  refine va_gets (A := fun q => b0 ≤ q) (C := RJ0) hx hb w.zy.2.2.1 w.2.2.2.2.1 C.2.2.2.1 (C.2.2.2.2 _ gw_765) (fun _ h => h) dJ0_isLatin1_aae02_0 ?_
  refine lv_if_eq (tgt := 17) hx hb dJ0_isLatin1_aae02_3 (by decide) (fun c0 => absurd c0 (by decide)) (fun _ => ?_)
  refine lv_aload_n hx hb dJ0_isLatin1_aae02_6 rfl (lv_at hl 0 rfl) ?_
  refine vk_getf (A := fun q => b0 ≤ q) hx hb (w.zy.2.1.1.1 k hk).2.1 w.2.2.2.2.1 C.2.2.2.1 (C.2.2.2.2 _ gw_1707) (fun _ h => h) dJ0_isLatin1_aae02_7 ?_
  refine lv_if_ne (tgt := 17) hx hb dJ0_isLatin1_aae02_10 (by decide) (fun c0 => absurd rfl c0) (fun _ => ?_)
  refine lv_iconst (v := 1) hx hb dJ0_isLatin1_aae02_13 (by decide) ?_
  refine lv_goto (tgt := 18) hx hb dJ0_isLatin1_aae02_14 (by decide) ?_
  exact t_nret C hr hlk w (by decide) ⟨rfl, rfl⟩ (by decide) (by decide) dJ0_isLatin1_aae02_18

set_option maxHeartbeats 4000000 in
set_option maxRecDepth 100000 in
theorem c_length (l : Launch) (D : va_G) (K : Nat → ClassId) (b0 : Nat) (sa : sT) (sz : Nat) (L : List Nat) (f0 : Nat → va_E) (k : Nat) (hk : k < 16) : Met l yJ0_length_8abf5 (.code yJ0_length_8abf5 cJ0_length_8abf5 1 (some .int) :: gt) { frames := 1, cells := 0, slots := 0, locals := 20 } (va_Pc [.ref (sa.2.2.2.1 k)] (hPre D K b0 sa sz L f0)) (hQ D K b0 (fun v9 u9 => v9 = some (.int (Int32.ofNat (rsN.getD k 0))) ∧ u9 = lU L f0)) 0 0 (fun q => b0 ≤ q) := by
  refine t_ofF (own := RJ0) (by decide +kernel) rfl ?_ (Nat.le_of_ble_eq_true rfl)
  intro p e s m below meth c ls C w hsz hr hlk hnm hl
  have hx := C.1
  have hb := C.2.1
  have hl : lv_has ls 1 [(0, .ref (sa.2.2.2.1 k))] := hl
  refine lv_aload_n hx hb dJ0_length_8abf5_0 rfl (lv_at hl 0 rfl) ?_
  refine vk_getf (A := fun q => b0 ≤ q) hx hb (w.zy.2.1.1.1 k hk).2.2.1 w.2.2.2.2.1 C.2.2.2.1 (C.2.2.2.2 _ gw_1706) (fun _ h => h) dJ0_length_8abf5_1 ?_
  refine va_tlen (A := fun q => b0 ≤ q) hx hb (w.zy.2.1.1.1 k hk).2.2.2 w.2.2.2.2.1 rfl dJ0_length_8abf5_4 ?_
  refine lv_aload_n hx hb dJ0_length_8abf5_5 rfl (lv_at hl 0 rfl) ?_
  refine t_callR (n := 0) (As := []) C w (t_recK w hk) (c_coder l D K b0 sa _ L _ k hk) gw_764 gw_761 gw_762 gw_763 gw_16 ⟨by decide, by decide, by decide +kernel⟩ rfl rfl ⟨by decide, by decide⟩ rfl hl.1 rfl (Nat.le_of_ble_eq_true rfl) dJ0_length_8abf5_6 ⟨Nat.le_of_ble_eq_true rfl, Nat.le_of_ble_eq_true rfl⟩ (fun v9 u H locs hp w => ?_)
  obtain ⟨rfl, rfl⟩ := hp
  refine lv_ishr hx hb dJ0_length_8abf5_9 ?_
  rw [sb_n k hk]
  exact t_iret C hr hlk w ⟨rfl, rfl⟩ (by decide) (by decide) dJ0_length_8abf5_10

set_option maxHeartbeats 4000000 in
set_option maxRecDepth 100000 in
theorem c_checkN (l : Launch) (D : va_G) (K : Nat → ClassId) (b0 : Nat) (sa : sT) (sz : Nat) (L : List Nat) (f0 : Nat → va_E) (i n : Int32) (h0 : ¬ i < 0) (h1 : i < n) : Met l yJ3_checkIndex_8e157 (.code yJ3_checkIndex_8e157 cJ3_checkIndex_8e157 3 (some .int) :: gt) { frames := 0, cells := 0, slots := 0, locals := 0 } (va_Pc [.int i, .int n, .null] (hPre D K b0 sa sz L f0)) (hQ D K b0 (fun v9 u9 => v9 = some (.int i) ∧ u9 = lU L f0)) 0 0 (fun q => b0 ≤ q) := by
  refine t_ofF (own := RJ3) (by decide +kernel) rfl ?_ (Nat.le_of_ble_eq_true rfl)
  intro p e s m below meth c ls C w hsz hr hlk hnm hl
  have hx := C.1
  have hb := C.2.1
  have hl : lv_has ls 3 [(0, .int i), (1, .int n), (2, .null)] := hl
  refine lv_iload_n hx hb dJ3_checkIndex_8e157_0 rfl (lv_at hl 0 rfl) ?_
  refine lv_if_lt (tgt := 9) hx hb dJ3_checkIndex_8e157_1 (by decide) (fun c0 => absurd c0 h0) (fun _ => ?_)
  refine lv_iload_n hx hb dJ3_checkIndex_8e157_4 rfl (lv_at hl 0 rfl) ?_
  refine lv_iload_n hx hb dJ3_checkIndex_8e157_5 rfl (lv_at hl 1 rfl) ?_
  refine lv_icmp_lt (tgt := 16) hx hb dJ3_checkIndex_8e157_6 (by decide) (fun _ => ?_) (fun c0 => absurd h1 c0)
  refine lv_iload_n hx hb dJ3_checkIndex_8e157_16 rfl (lv_at hl 0 rfl) ?_
  exact t_iret C hr hlk w ⟨rfl, rfl⟩ (by decide) (by decide) dJ3_checkIndex_8e157_17

set_option maxHeartbeats 4000000 in
set_option maxRecDepth 100000 in
theorem c_checkR (l : Launch) (D : va_G) (K : Nat → ClassId) (b0 : Nat) (sa : sT) (sz : Nat) (L : List Nat) (f0 : Nat → va_E) (i n : Int32) (h0 : ¬ i < 0) (h1 : i < n) (t : Nat) : Met l yJ3_checkIndex_8e157 (.code yJ3_checkIndex_8e157 cJ3_checkIndex_8e157 3 (some .int) :: gt) { frames := 0, cells := 0, slots := 0, locals := 0 } (va_Pc [.int i, .int n, .ref t] (hPre D K b0 sa sz L f0)) (hQ D K b0 (fun v9 u9 => v9 = some (.int i) ∧ u9 = lU L f0)) 0 0 (fun q => b0 ≤ q) := by
  refine t_ofF (own := RJ3) (by decide +kernel) rfl ?_ (Nat.le_of_ble_eq_true rfl)
  intro p e s m below meth c ls C w hsz hr hlk hnm hl
  have hx := C.1
  have hb := C.2.1
  have hl : lv_has ls 3 [(0, .int i), (1, .int n), (2, .ref t)] := hl
  refine lv_iload_n hx hb dJ3_checkIndex_8e157_0 rfl (lv_at hl 0 rfl) ?_
  refine lv_if_lt (tgt := 9) hx hb dJ3_checkIndex_8e157_1 (by decide) (fun c0 => absurd c0 h0) (fun _ => ?_)
  refine lv_iload_n hx hb dJ3_checkIndex_8e157_4 rfl (lv_at hl 0 rfl) ?_
  refine lv_iload_n hx hb dJ3_checkIndex_8e157_5 rfl (lv_at hl 1 rfl) ?_
  refine lv_icmp_lt (tgt := 16) hx hb dJ3_checkIndex_8e157_6 (by decide) (fun _ => ?_) (fun c0 => absurd h1 c0)
  refine lv_iload_n hx hb dJ3_checkIndex_8e157_16 rfl (lv_at hl 0 rfl) ?_
  exact t_iret C hr hlk w ⟨rfl, rfl⟩ (by decide) (by decide) dJ3_checkIndex_8e157_17

set_option maxHeartbeats 4000000 in
set_option maxRecDepth 100000 in
theorem c_checkI (l : Launch) (D : va_G) (K : Nat → ClassId) (b0 : Nat) (sa : sT) (sz : Nat) (L : List Nat) (f0 : Nat → va_E) (i n : Int32) (h0 : ¬ i < 0) (h1 : i < n) : Met l yJ0_checkIndex_df160 (.code yJ0_checkIndex_df160 cJ0_checkIndex_df160 2 none :: gt) { frames := 1, cells := 0, slots := 0, locals := 22 } (va_Pc [.int i, .int n] (hPre D K b0 sa sz L f0)) (hQ D K b0 (fun v9 u9 => v9 = none ∧ u9 = lU L f0)) 0 0 (fun q => b0 ≤ q) := by
  refine t_ofF (own := RJ0) (by decide +kernel) rfl ?_ (Nat.le_of_ble_eq_true rfl)
  intro p e s m below meth c ls C w hsz hr hlk hnm hl
  have hx := C.1
  have hb := C.2.1
  have hl : lv_has ls 2 [(0, .int i), (1, .int n)] := hl
  refine lv_iload_n hx hb dJ0_checkIndex_df160_0 rfl (lv_at hl 0 rfl) ?_
  refine lv_iload_n hx hb dJ0_checkIndex_df160_1 rfl (lv_at hl 1 rfl) ?_
  rcases w.zy.2.2.2 with hz | ⟨t, hz⟩
  · skip
    refine va_gets (A := fun q => b0 ≤ q) (C := RJ3) hx hb hz w.2.2.2.2.1 C.2.2.2.1 (C.2.2.2.2 _ gw_781) (fun _ h => h) dJ0_checkIndex_df160_2 ?_
    refine t_callS (n := 3) (As := [.int i, .int n, .null]) C w (c_checkN l D K b0 sa _ L _ i n h0 h1) gw_785 gw_783 gw_784 gw_18 ⟨by decide, by decide, by decide +kernel⟩ rfl rfl ⟨by decide, by decide⟩ rfl hl.1 rfl (Nat.le_of_ble_eq_true rfl) dJ0_checkIndex_df160_5 ⟨Nat.le_of_ble_eq_true rfl, Nat.le_of_ble_eq_true rfl⟩ (fun v9 u H locs hp w => ?_)
    obtain ⟨rfl, rfl⟩ := hp
    refine lv_pop hx hb dJ0_checkIndex_df160_8 rfl ?_
    exact t_vret C hr hlk w ⟨rfl, rfl⟩ (by decide) (by decide) dJ0_checkIndex_df160_9
  · skip
    refine va_gets (A := fun q => b0 ≤ q) (C := RJ3) hx hb hz w.2.2.2.2.1 C.2.2.2.1 (C.2.2.2.2 _ gw_781) (fun _ h => h) dJ0_checkIndex_df160_2 ?_
    refine t_callS (n := 3) (As := [.int i, .int n, .ref t]) C w (c_checkR l D K b0 sa _ L _ i n h0 h1 t) gw_785 gw_783 gw_784 gw_18 ⟨by decide, by decide, by decide +kernel⟩ rfl rfl ⟨by decide, by decide⟩ rfl hl.1 rfl (Nat.le_of_ble_eq_true rfl) dJ0_checkIndex_df160_5 ⟨Nat.le_of_ble_eq_true rfl, Nat.le_of_ble_eq_true rfl⟩ (fun v9 u H locs hp w => ?_)
    obtain ⟨rfl, rfl⟩ := hp
    refine lv_pop hx hb dJ0_checkIndex_df160_8 rfl ?_
    exact t_vret C hr hlk w ⟨rfl, rfl⟩ (by decide) (by decide) dJ0_checkIndex_df160_9

theorem ib_ge0 {i : Int32} {n : Nat} (h : ib i n) : ¬ i < 0 := fun q => by have h1 := lt_toInt q; have h2 := h.1; have h3 : (0 : Int32).toInt = 0 := rfl; omega

theorem ib_ltI {i : Int32} {k : Nat} (hk : k < 16) (h : ib i (rsN.getD k 0)) : i < Int32.ofNat (rsN.getD k 0) := Int32.lt_iff_toInt_lt.2 (by rw [sb_l k hk]; exact h.2)

set_option maxHeartbeats 4000000 in
set_option maxRecDepth 100000 in
theorem c_charAt1 (l : Launch) (D : va_G) (K : Nat → ClassId) (b0 : Nat) (sa : sT) (sz : Nat) (L : List Nat) (f0 : Nat → va_E) (k : Nat) (hk : k < 16) (i : Int32) (hi : ib i (rsN.getD k 0)) : Met l yJ1_charAt_3b067 (.code yJ1_charAt_3b067 cJ1_charAt_3b067 2 (some .char) :: gt) { frames := 2, cells := 0, slots := 0, locals := 43 } (va_Pc [.ref (sa.2.2.2.2 k), .int i] (hPre D K b0 sa sz L f0)) (hQ D K b0 (fun v9 u9 => v9 = some (.int ((rsB.getD k []).getD i.toNatClampNeg 0)) ∧ u9 = lU L f0)) 0 0 (fun q => b0 ≤ q) := by
  refine t_ofF (own := RJ1) (by decide +kernel) rfl ?_ (Nat.le_of_ble_eq_true rfl)
  intro p e s m below meth c ls C w hsz hr hlk hnm hl
  have hx := C.1
  have hb := C.2.1
  have hl : lv_has ls 2 [(0, .ref (sa.2.2.2.2 k)), (1, .int i)] := hl
  refine lv_iload_n hx hb dJ1_charAt_3b067_0 rfl (lv_at hl 1 rfl) ?_
  refine lv_aload_n hx hb dJ1_charAt_3b067_1 rfl (lv_at hl 0 rfl) ?_
  refine va_tlen (A := fun q => b0 ≤ q) hx hb (w.zy.2.1.1.1 k hk).2.2.2 w.2.2.2.2.1 rfl dJ1_charAt_3b067_2 ?_
  refine t_callS (n := 2) (As := [.int i, .int (Int32.ofNat (rsN.getD k 0))]) C w (c_checkI l D K b0 sa _ L _ i _ (ib_ge0 hi) (ib_ltI hk hi)) gw_780 gw_778 gw_779 gw_16 ⟨by decide, by decide, by decide +kernel⟩ rfl rfl ⟨by decide, by decide⟩ rfl hl.1 rfl (Nat.le_of_ble_eq_true rfl) dJ1_charAt_3b067_3 ⟨Nat.le_of_ble_eq_true rfl, Nat.le_of_ble_eq_true rfl⟩ (fun v9 u H locs hp w => ?_)
  obtain ⟨rfl, rfl⟩ := hp
  refine lv_aload_n hx hb dJ1_charAt_3b067_6 rfl (lv_at hl 0 rfl) ?_
  refine lv_iload_n hx hb dJ1_charAt_3b067_7 rfl (lv_at hl 1 rfl) ?_
  refine va_tb (A := fun q => b0 ≤ q) hx hb (w.zy.2.1.1.1 k hk).2.2.2 w.2.2.2.2.1 (vp_in_iff.mpr hi) rfl dJ1_charAt_3b067_8 ?_
  refine lv_sipush (v := 255) hx hb dJ1_charAt_3b067_9 (by decide) ?_
  refine lv_iand hx hb dJ1_charAt_3b067_12 ?_
  refine lv_i2c hx hb dJ1_charAt_3b067_13 (sb_c k hk _ (ib_lt hi)).1 ?_
  exact t_nret C hr hlk w (sb_c k hk _ (ib_lt hi)).2 ⟨rfl, rfl⟩ (by decide) (by decide) dJ1_charAt_3b067_14

set_option maxHeartbeats 4000000 in
set_option maxRecDepth 100000 in
theorem c_charAt (l : Launch) (D : va_G) (K : Nat → ClassId) (b0 : Nat) (sa : sT) (sz : Nat) (L : List Nat) (f0 : Nat → va_E) (k : Nat) (hk : k < 16) (i : Int32) (hi : ib i (rsN.getD k 0)) : Met l yJ0_charAt_5068e (.code yJ0_charAt_5068e cJ0_charAt_5068e 2 (some .char) :: gt) { frames := 3, cells := 0, slots := 0, locals := 64 } (va_Pc [.ref (sa.2.2.2.1 k), .int i] (hPre D K b0 sa sz L f0)) (hQ D K b0 (fun v9 u9 => v9 = some (.int ((rsB.getD k []).getD i.toNatClampNeg 0)) ∧ u9 = lU L f0)) 0 0 (fun q => b0 ≤ q) := by
  refine t_ofF (own := RJ0) (by decide +kernel) rfl ?_ (Nat.le_of_ble_eq_true rfl)
  intro p e s m below meth c ls C w hsz hr hlk hnm hl
  have hx := C.1
  have hb := C.2.1
  have hl : lv_has ls 2 [(0, .ref (sa.2.2.2.1 k)), (1, .int i)] := hl
  refine lv_aload_n hx hb dJ0_charAt_5068e_0 rfl (lv_at hl 0 rfl) ?_
  refine t_callR (n := 0) (As := []) C w (t_recK w hk) (c_isLatin1 l D K b0 sa _ L _ k hk) gw_774 gw_771 gw_772 gw_773 gw_16 ⟨by decide, by decide, by decide +kernel⟩ rfl rfl ⟨by decide, by decide⟩ rfl hl.1 rfl (Nat.le_of_ble_eq_true rfl) dJ0_charAt_5068e_1 ⟨Nat.le_of_ble_eq_true rfl, Nat.le_of_ble_eq_true rfl⟩ (fun v9 u H locs hp w => ?_)
  obtain ⟨rfl, rfl⟩ := hp
  refine lv_if_eq (tgt := 16) hx hb dJ0_charAt_5068e_4 (by decide) (fun c0 => absurd c0 (by decide)) (fun _ => ?_)
  refine lv_aload_n hx hb dJ0_charAt_5068e_7 rfl (lv_at hl 0 rfl) ?_
  refine vk_getf (A := fun q => b0 ≤ q) hx hb (w.zy.2.1.1.1 k hk).2.2.1 w.2.2.2.2.1 C.2.2.2.1 (C.2.2.2.2 _ gw_1706) (fun _ h => h) dJ0_charAt_5068e_8 ?_
  refine lv_iload_n hx hb dJ0_charAt_5068e_11 rfl (lv_at hl 1 rfl) ?_
  refine t_callS (n := 2) (As := [.ref (sa.2.2.2.2 k), .int i]) C w (c_charAt1 l D K b0 sa _ L _ k hk i hi) gw_777 gw_775 gw_776 gw_17 ⟨by decide, by decide, by decide +kernel⟩ rfl rfl ⟨by decide, by decide⟩ rfl hl.1 rfl (Nat.le_of_ble_eq_true rfl) dJ0_charAt_5068e_12 ⟨Nat.le_of_ble_eq_true rfl, Nat.le_of_ble_eq_true rfl⟩ (fun v9 u H locs hp w => ?_)
  obtain ⟨rfl, rfl⟩ := hp
  exact t_nret C hr hlk w (sb_c k hk _ (ib_lt hi)).2 ⟨rfl, rfl⟩ (by decide) (by decide) dJ0_charAt_5068e_15
