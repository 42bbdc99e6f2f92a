theorem dJ7_copyOf_59c91_0 : decode cJ7_copyOf_59c91 0 = .ok (.iload_n 1, 1) := by decide +kernel
theorem dJ7_copyOf_59c91_1 : decode cJ7_copyOf_59c91 1 = .ok (.aload_n 0, 1) := by decide +kernel
theorem dJ7_copyOf_59c91_2 : decode cJ7_copyOf_59c91 2 = .ok (.arraylength, 1) := by decide +kernel
theorem dJ7_copyOf_59c91_3 : decode cJ7_copyOf_59c91 3 = .ok (.if_icmp .ne 11, 3) := by decide +kernel
theorem dJ7_copyOf_59c91_6 : decode cJ7_copyOf_59c91 6 = .ok (.aload_n 0, 1) := by decide +kernel
theorem dJ7_copyOf_59c91_7 : decode cJ7_copyOf_59c91 7 = .ok (.invokevirtual 316, 3) := by decide +kernel
theorem dJ7_copyOf_59c91_10 : decode cJ7_copyOf_59c91 10 = .ok (.checkcast 317, 3) := by decide +kernel
theorem dJ7_copyOf_59c91_13 : decode cJ7_copyOf_59c91 13 = .ok (.areturn, 1) := by decide +kernel
theorem dJ7_copyOf_59c91_14 : decode cJ7_copyOf_59c91 14 = .ok (.iload_n 1, 1) := by decide +kernel
theorem dJ7_copyOf_59c91_15 : decode cJ7_copyOf_59c91 15 = .ok (.newarray .int, 2) := by decide +kernel
theorem dJ7_copyOf_59c91_17 : decode cJ7_copyOf_59c91 17 = .ok (.astore_n 2, 1) := by decide +kernel
theorem dJ7_copyOf_59c91_18 : decode cJ7_copyOf_59c91 18 = .ok (.aload_n 0, 1) := by decide +kernel
theorem dJ7_copyOf_59c91_19 : decode cJ7_copyOf_59c91 19 = .ok (.iconst 0, 1) := by decide +kernel
theorem dJ7_copyOf_59c91_20 : decode cJ7_copyOf_59c91 20 = .ok (.aload_n 2, 1) := by decide +kernel
theorem dJ7_copyOf_59c91_21 : decode cJ7_copyOf_59c91 21 = .ok (.iconst 0, 1) := by decide +kernel
theorem dJ7_copyOf_59c91_22 : decode cJ7_copyOf_59c91 22 = .ok (.aload_n 0, 1) := by decide +kernel
theorem dJ7_copyOf_59c91_23 : decode cJ7_copyOf_59c91 23 = .ok (.arraylength, 1) := by decide +kernel
theorem dJ7_copyOf_59c91_24 : decode cJ7_copyOf_59c91 24 = .ok (.iload_n 1, 1) := by decide +kernel
theorem dJ7_copyOf_59c91_25 : decode cJ7_copyOf_59c91 25 = .ok (.invokestatic 304, 3) := by decide +kernel
theorem dJ7_copyOf_59c91_28 : decode cJ7_copyOf_59c91 28 = .ok (.invokestatic 150, 3) := by decide +kernel
theorem dJ7_copyOf_59c91_31 : decode cJ7_copyOf_59c91 31 = .ok (.aload_n 2, 1) := by decide +kernel
theorem dJ7_copyOf_59c91_32 : decode cJ7_copyOf_59c91 32 = .ok (.areturn, 1) := by decide +kernel
theorem dX1_init_0 : decode cX1_init 0 = .ok (.aload_n 0, 1) := by decide +kernel
theorem dX1_init_1 : decode cX1_init 1 = .ok (.invokespecial 1, 3) := by decide +kernel
theorem dX1_init_4 : decode cX1_init 4 = .ok (.aload_n 0, 1) := by decide +kernel
theorem dX1_init_5 : decode cX1_init 5 = .ok (.aload_n 1, 1) := by decide +kernel
theorem dX1_init_6 : decode cX1_init 6 = .ok (.iconst 0, 1) := by decide +kernel
theorem dX1_init_7 : decode cX1_init 7 = .ok (.iload_n 2, 1) := by decide +kernel
theorem dX1_init_8 : decode cX1_init 8 = .ok (.invokestatic 7, 3) := by decide +kernel
theorem dX1_init_11 : decode cX1_init 11 = .ok (.invokestatic 13, 3) := by decide +kernel
theorem dX1_init_14 : decode cX1_init 14 = .ok (.putfield 19, 3) := by decide +kernel
theorem dX1_init_17 : decode cX1_init 17 = .ok (.return_, 1) := by decide +kernel
theorem dX4_codeRead_0 : decode cX4_codeRead 0 = .ok (.new 72, 3) := by decide +kernel
theorem dX4_codeRead_3 : decode cX4_codeRead 3 = .ok (.dup, 1) := by decide +kernel
theorem dX4_codeRead_4 : decode cX4_codeRead 4 = .ok (.aload_n 0, 1) := by decide +kernel
theorem dX4_codeRead_5 : decode cX4_codeRead 5 = .ok (.getfield 31, 3) := by decide +kernel
theorem dX4_codeRead_8 : decode cX4_codeRead 8 = .ok (.aload_n 0, 1) := by decide +kernel
theorem dX4_codeRead_9 : decode cX4_codeRead 9 = .ok (.getfield 34, 3) := by decide +kernel
theorem dX4_codeRead_12 : decode cX4_codeRead 12 = .ok (.invokespecial 74, 3) := by decide +kernel
theorem dX4_codeRead_15 : decode cX4_codeRead 15 = .ok (.areturn, 1) := by decide +kernel
section EQ
variable {p : Program} {l : Launch} {e : Env} {R : Room} {s : State} {m : MethodId} {args : Array Value} {below : List Frame} {meth : Method} {c : Code} {H : Heap} {locs : List Loc} {cells slots : Nat} {Q : State → Prop}
variable {cc : ByteArray} {pc nL : Nat} {ls : Array Slot} {rest : List Value} {D : va_G} {K : Nat → ClassId} {b0 : Nat} {sa : sT} {L : List Nat} {f : Nat → va_E} {own : String}
/-- what an array holds beyond its length is nobody's -/
theorem Wh.eqI (w : Wh D K b0 sa s H locs L f) {q N : Nat} {g g2 : Nat → Int32} (hf : f q = .inl (K 0, N, .inl g)) (he : ∀ j : Nat, j < N → g j = g2 j) : Wh D K b0 sa s H locs L (va_up f q (.inl (K 0, N, .inl g2))) := by
  obtain ⟨w1, w2, w3, w4, w5, w6, w7⟩ := w
  refine ⟨w1, w2, fun k9 z hz => ?_, gr_re w4, w5, w6, w7⟩
  obtain ⟨a, ha, rfl⟩ := gr_at.mp hz
  have h9 := w3 k9 (a, f a) (gr_at.mpr ⟨a, ha, rfl⟩)
  by_cases e9 : a = q
  · subst e9
    rw [hf] at h9
    rw [va_up_self]
    have h8 : H[a]? = some (vp_cell (K 0) (N, .inl g)) := h9
    show H[a]? = some (vp_cell (K 0) (N, .inl g2))
    rw [h8, vp_cell_i, vp_cell_i]
    congr 1
    exact arrV_ext (fun j hj => by rw [he j hj])
  · rw [va_up_ne _ _ e9]
    exact h9
/-- a.clone() of an int array -/
theorem g_clone (C : CallFix p m c cc nL s args gt RJ7) (w : Wh D K b0 sa s H locs L f) {a N : Nat} {g : Nat → Int32} (ha : a ∈ L) (hf : f a = .inl (K 0, N, .inl g)) (hsz : ls.size = nL) (hframes : 1 ≤ R.frames) (hlocals : (rest.map fun v => v.category).sum + 14 ≤ R.locals) (hc : cells + 1 ≤ R.cells) (hs : slots + N ≤ R.slots) (hdg : decode cc pc = .ok (.invokevirtual 316, 3))
    (kk : ∀ (q : Nat) (H1 : Heap), q ∉ L → Wh D K b0 sa s H1 locs (L ++ [q]) (va_up f q (.inl (K 0, N, .inl g))) → W p l e R s m args below meth c H1 locs (cells + 1) (slots + N) Q (F0 m (pc + 3) ls (.ref q :: rest))) : W p l e R s m args below meth c H locs cells slots Q (F0 m pc ls (.ref a :: rest)) := by
  obtain ⟨hx, hb, hml, hown, hts⟩ := C
  obtain ⟨w1, w2, w3, w4, w5, w6, w7⟩ := w
  obtain ⟨k0, hk0⟩ := va_pl_get (X := []) (f := f) ha
  have hk1 : ([] ++ va_pl L f)[k0]? = some (a, .inl (K 0, N, .inl g)) := by rw [hk0, hf]
  refine va_clone (ad := "[I") (A := fun q => b0 ≤ q) (ws := [] ++ va_pl L f) (x := (N, .inl g)) (ty := .int) hx hb (hml.trans hsz.symm) hown (hts _ gw_905) (hts _ gw_906) (hts _ gw_907) (hts _ gw_908) (hts _ gw_909) (w6.2.2.2.2 _ (by decide +kernel)) w2 w3 w4 w5 (fun q h => Nat.le_trans w1 h) k0 0 hk1 rfl (va_nm_int (w2.2 0 _ rfl).2) (fun i v hv => ?_) hframes hlocals hc hs hdg (fun q H1 hK hP hD hS => ?_)
  · rw [vp_cell_i] at hv
    unfold arrV at hv
    simp only [Array.getElem?_ofFn] at hv
    split at hv
    · cases hv; rfl
    · cases hv
  · have hq := va_pl_fresh2 (X := []) hD
    have e2 := va_pl_push (e := .inl (K 0, N, .inl g)) (f := f) hq
    rw [List.nil_append, e2] at hP hD
    exact kk q H1 hq ⟨w1, w2, hP, hD, hS, w6, w7⟩
theorem g_castI (C : CallFix p m c cc nL s args gt RJ7) (w : Wh D K b0 sa s H locs L f) {a N : Nat} {g : Nat → Int32} (ha : a ∈ L) (hf : f a = .inl (K 0, N, .inl g)) (hdg : decode cc pc = .ok (.checkcast 317, 3))
    (kk : W p l e R s m args below meth c H locs cells slots Q (F0 m (pc + 3) ls (.ref a :: rest))) : W p l e R s m args below meth c H locs cells slots Q (F0 m pc ls (.ref a :: rest)) := by
  obtain ⟨hx, hb, hml, hown, hts⟩ := C
  obtain ⟨w1, w2, w3, w4, w5, w6, w7⟩ := w
  obtain ⟨k0, hk0⟩ := va_pl_get (X := []) (f := f) ha
  have hk1 : ([] ++ va_pl L f)[k0]? = some (a, .inl (K 0, N, .inl g)) := by rw [hk0, hf]
  exact va_castA (nm := "[I") (ws := [] ++ va_pl L f) (x := (N, .inl g)) hx hb hown (hts _ gw_911) w3 k0 hk1 (va_nm_int (w2.2 0 _ rfl).2) hdg kk
end EQ
theorem ib_n0 {x : Int32} {N : Nat} (h : ib x N) : ¬ x < 0 := fun q => by have h1 := lt_toInt q; have h2 := h.1; have h3 : (0 : Int32).toInt = 0 := rfl; omega
theorem ib_nat {x : Int32} {N : Nat} (h : ib x N) : ((x.toNatClampNeg : Nat) : Int) = x.toInt := by
  have h1 := h.1
  show ((x.toInt.toNat : Nat) : Int) = x.toInt
  omega
set_option maxHeartbeats 4000000 in
set_option maxRecDepth 100000 in
theorem c_copyOf (l : Launch) (D : va_G) (K : Nat → ClassId) (b0 : Nat) (sa : sT) (sz : Nat) (L : List Nat) (f0 : Nat → va_E) (r : Nat) (hm : r ∈ L) (g : Nat → Int32) (hf : f0 r = .inl (K 0, 300, .inl g)) (x : Int32) (hi : ib x 301) : Met l yJ7_copyOf_59c91 (.code yJ7_copyOf_59c91 cJ7_copyOf_59c91 3 (some (.array .int)) :: gt) { frames := 1, cells := 1, slots := 300, locals := 60 } (va_Pc [.ref r, .int x] (hPre D K b0 sa sz L f0)) (hQ D K b0 (fun v9 u9 => ∃ (q : Nat) (f2 : Nat → va_E), v9 = some (.ref q) ∧ u9 = lU (L ++ [q]) f2 ∧ q ∉ L ∧ f2 q = .inl (K 0, x.toNatClampNeg, .inl (fun j => if j < x.toNatClampNeg then g j else 0)) ∧ ∀ b : Nat, b ∈ L → f2 b = f0 b)) 1 300 (fun q => b0 ≤ q) := by
  refine t_of (own := RJ7) (by decide) rfl ?_ (Nat.le_of_ble_eq_true rfl)
  intro p e s m below meth c ls C w hsz hr hlk hnm hl
  have hx := C.1
  have hb := C.2.1
  have hl : lv_has ls 3 [(0, .ref r), (1, .int x)] := hl
  have hN := ib_lt hi
  refine lv_iload_n hx hb dJ7_copyOf_59c91_0 rfl (lv_at hl 1 rfl) ?_
  refine lv_aload_n hx hb dJ7_copyOf_59c91_1 rfl (lv_at hl 0 rfl) ?_
  refine g_alen C w hm hf (ti := 0) rfl (v := 300) (by decide) dJ7_copyOf_59c91_2 ?_
  refine lv_icmp_ne (tgt := 14) hx hb dJ7_copyOf_59c91_3 (by decide) (fun c1 => ?_) (fun c1 => ?_)
  · have hlt : x < 300 := by
      refine Int32.lt_iff_toInt_lt.2 ?_
      have h1 := hi.2
      have h2 := ne_toInt c1
      have h3 : (300 : Int32).toInt = 300 := by decide
      have h4 : ((301 : Nat) : Int) = 301 := rfl
      omega
    refine lv_iload_n hx hb dJ7_copyOf_59c91_14 rfl (lv_at hl 1 rfl) ?_
    refine g_newI C w (at_ := .int) (ti := 0) (ty := .int) rfl rfl (Or.inl rfl) gw_85 (N := x.toNatClampNeg) (ib_n0 hi) rfl (by show x.toNatClampNeg * 4 ≤ 536870912; omega) (Nat.le_of_ble_eq_true rfl) (by show 0 + x.toNatClampNeg ≤ 300; omega) dJ7_copyOf_59c91_15 (fun q H hq w => ?_)
    have hrq : r ≠ q := fun e9 => hq (by rw [← e9]; exact hm)
    have hmr : r ∈ L ++ [q] := List.mem_append_left _ hm
    have hmq : q ∈ L ++ [q] := List.mem_append_right _ (List.mem_singleton.mpr rfl)
    have hfr : va_up f0 q (.inl (K 0, x.toNatClampNeg, .inl (fun _ => 0))) r = .inl (K 0, 300, .inl g) := by rw [va_up_ne _ _ hrq]; exact hf
    refine lv_astore_n (lv' := [(2, .ref q), (0, .ref r), (1, .int x)]) hx hb dJ7_copyOf_59c91_17 rfl hl (by decide) rfl (fun ls hl => ?_)
    refine lv_aload_n hx hb dJ7_copyOf_59c91_18 rfl (lv_at hl 1 rfl) ?_
    refine lv_iconst (v := 0) hx hb dJ7_copyOf_59c91_19 (by decide) ?_
    refine lv_aload_n hx hb dJ7_copyOf_59c91_20 rfl (lv_at hl 0 rfl) ?_
    refine lv_iconst (v := 0) hx hb dJ7_copyOf_59c91_21 (by decide) ?_
    refine lv_aload_n hx hb dJ7_copyOf_59c91_22 rfl (lv_at hl 1 rfl) ?_
    refine g_alen C w hmr hfr (ti := 0) rfl (v := 300) (by decide) dJ7_copyOf_59c91_23 ?_
    refine lv_iload_n hx hb dJ7_copyOf_59c91_24 rfl (lv_at hl 2 rfl) ?_
    refine va_mmin hx hb (C.2.2.1.trans hl.1.symm) C.2.2.2.1 (C.2.2.2.2 _ gw_912) (C.2.2.2.2 _ gw_409) (C.2.2.2.2 _ gw_15) (C.2.2.2.2 _ gw_410) (by decide) (Nat.le_of_ble_eq_true rfl) (Nat.le_of_ble_eq_true rfl) (by show 0 + x.toNatClampNeg ≤ 300; omega) dJ7_copyOf_59c91_25 ?_
    rw [if_pos hlt]
    refine g_copy C w hmr hfr hmq (va_up_self _ _ _) hl.1 gw_913 gw_530 gw_529 gw_21 (ib_n0 hi) (by omega) (Nat.le_refl _) (by decide) (Nat.le_of_ble_eq_true rfl) dJ7_copyOf_59c91_28 (fun H locs w => ?_)
    refine lv_aload_n hx hb dJ7_copyOf_59c91_31 rfl (lv_at hl 0 rfl) ?_
    exact t_aret C hr (Or.inr ⟨_, rfl⟩) hlk w (Or.inr ⟨_, rfl⟩) ⟨q, _, rfl, rfl, hq, va_up_self _ _ _, fun b hb9 => by have hbq : b ≠ q := (fun e9 => hq (by rw [← e9]; exact hb9)); rw [va_up_ne _ _ hbq, va_up_ne _ _ hbq]⟩ (by decide) (by show 0 + x.toNatClampNeg ≤ 300; omega) dJ7_copyOf_59c91_32
  · have e3 : x.toNatClampNeg = 300 := by rw [c1]; decide
    refine lv_aload_n hx hb dJ7_copyOf_59c91_6 rfl (lv_at hl 0 rfl) ?_
    refine g_clone C w hm hf hl.1 (by decide) (Nat.le_of_ble_eq_true rfl) (Nat.le_of_ble_eq_true rfl) (Nat.le_of_ble_eq_true rfl) dJ7_copyOf_59c91_7 (fun q H hq w => ?_)
    have hmq : q ∈ L ++ [q] := List.mem_append_right _ (List.mem_singleton.mpr rfl)
    refine g_castI C w hmq (va_up_self _ _ _) dJ7_copyOf_59c91_10 ?_
    have w := w.eqI (q := q) (g2 := fun j => if j < x.toNatClampNeg then g j else 0) (va_up_self _ _ _) (fun j hj => by rw [if_pos (by omega)])
    exact t_aret C hr (Or.inr ⟨_, rfl⟩) hlk w (Or.inr ⟨_, rfl⟩) ⟨q, _, rfl, rfl, hq, by rw [va_up_self, e3], fun b hb9 => by have hbq : b ≠ q := (fun e9 => hq (by rw [← e9]; exact hb9)); rw [va_up_ne _ _ hbq, va_up_ne _ _ hbq]⟩ (by decide) (by decide) dJ7_copyOf_59c91_13
set_option maxHeartbeats 4000000 in
set_option maxRecDepth 100000 in
theorem c_X1_init (l : Launch) (D : va_G) (K : Nat → ClassId) (b0 : Nat) (sa : sT) (sz : Nat) (L : List Nat) (f0 : Nat → va_E) (o : Nat) (hmo : o ∈ L) (hfo : f0 o = .inr (1, [.null])) (r : Nat) (hm : r ∈ L) (g : Nat → Int32) (hf : f0 r = .inl (K 0, 300, .inl g)) (x : Int32) (hi : ib x 301) : Met l yX1_init (.code yX1_init cX1_init 3 none :: gt) { frames := 2, cells := 1, slots := 300, locals := 82 } (va_Pc [.ref o, .ref r, .int x] (hPre D K b0 sa sz L f0)) (hQ D K b0 (fun v9 u9 => ∃ (q : Nat) (f2 : Nat → va_E), v9 = none ∧ u9 = lU (L ++ [q]) f2 ∧ q ∉ L ∧ f2 o = .inr (1, [.ref q]) ∧ f2 q = .inl (K 0, x.toNatClampNeg, .inl (fun j => if j < x.toNatClampNeg then g j else 0)) ∧ ∀ b : Nat, b ∈ L → b ≠ o → f2 b = f0 b)) 1 300 (fun q => b0 ≤ q) := by
  refine t_of (own := RX1) (by decide) rfl ?_ (Nat.le_of_ble_eq_true rfl)
  intro p e s m below meth c ls C w hsz hr hlk hnm hl
  have hx := C.1
  have hb := C.2.1
  have hl : lv_has ls 3 [(0, .ref o), (1, .ref r), (2, .int x)] := hl
  refine lv_aload_n hx hb dX1_init_0 rfl (lv_at hl 0 rfl) ?_
  refine t_obj0 C hl.1 gw_900 gw_29 gw_30 dX1_init_1 (by decide) (Nat.le_of_ble_eq_true rfl) ?_
  refine lv_aload_n hx hb dX1_init_4 rfl (lv_at hl 0 rfl) ?_
  refine lv_aload_n hx hb dX1_init_5 rfl (lv_at hl 1 rfl) ?_
  refine lv_iconst (v := 0) hx hb dX1_init_6 (by decide) ?_
  refine lv_iload_n hx hb dX1_init_7 rfl (lv_at hl 2 rfl) ?_
  refine va_mmax hx hb (C.2.2.1.trans hl.1.symm) C.2.2.2.1 (C.2.2.2.2 _ gw_901) (C.2.2.2.2 _ gw_412) (C.2.2.2.2 _ gw_15) (C.2.2.2.2 _ gw_413) (by decide) (Nat.le_of_ble_eq_true rfl) (Nat.le_of_ble_eq_true rfl) (Nat.le_of_ble_eq_true rfl) dX1_init_8 ?_
  have e0 : (if (0 : Int32) < x then x else 0) = x := by
    by_cases q : (0 : Int32) < x
    · rw [if_pos q]
    · rw [if_neg q]
      have h1 := nlt_toInt q
      have h2 := hi.1
      have h3 : (0 : Int32).toInt = 0 := rfl
      exact of_toInt (by omega)
  rw [e0]
  refine t_callS (n := 2) (As := [.ref r, .int x]) C w (c_copyOf l D K b0 sa _ L _ r hm g hf x hi) gw_904 gw_902 gw_903 gw_4 ⟨by decide, by decide, by decide +kernel⟩ rfl rfl ⟨by decide, by decide⟩ rfl hl.1 rfl (Nat.le_of_ble_eq_true rfl) dX1_init_11 ⟨Nat.le_of_ble_eq_true rfl, Nat.le_of_ble_eq_true rfl⟩ (fun v9 u H locs hp w => ?_)
  obtain ⟨q, f2, rfl, rfl, hq, hfq, hk⟩ := hp
  have hoq : o ≠ q := fun e9 => hq (by rw [← e9]; exact hmo)
  refine t_putF C (hnm.trans rfl) w (List.mem_append_left _ hmo) ((hk o hmo).trans hfo) rfl cin_1 tyX1 tyX1_ok nmX1 0 (by decide) (Nat.le_of_ble_eq_true rfl) rfl rfl rfl rfl gw_914 dX1_init_14 (fun H locs w => ?_)
  exact t_vret C hr hlk w ⟨q, _, rfl, rfl, hq, va_up_self _ _ _, by rw [va_up_ne _ _ (Ne.symm hoq)]; exact hfq, fun b hb9 hbo => by rw [va_up_ne _ _ hbo]; exact hk b hb9⟩ (by decide) (by decide) dX1_init_17
section GS
variable {K : Nat → ClassId} {X : Nat → Prop} {P P1 : Nat → Nat → Prop} {ad ad1 : Nat → Nat → Nat} {L L1 L2 : List Nat} {f f1 f2 : Nat → va_E}
theorem Gr.sup (h : Gr X P ad L f P1 ad1 L1 f1) (hL : ∀ b : Nat, b ∈ L1 → b ∈ L2) (hf : ∀ b : Nat, b ∈ L1 → f2 b = f1 b) : Gr X P ad L f P1 ad1 L2 f2 :=
  ⟨h.1, fun b hb => ⟨hL b (h.2 b hb).1, fun hn hX => ⟨(hf b (h.2 b hb).1).trans ((h.2 b hb).2 hn hX).1, ((h.2 b hb).2 hn hX).2⟩⟩⟩
end GS
noncomputable def F_X4_codeRead (S0 : fS) : Option (Nat × fS) := iv (ge S0 17 0 7) (fun x => gd (ib x 301) (gdc (Cl S0) (nv (nC S0) (fun t => sv (newC S0 x) (fun S => some (t, S))))))
set_option maxHeartbeats 4000000 in
set_option maxRecDepth 100000 in
theorem c_X4_codeRead (l : Launch) (D : va_G) (K : Nat → ClassId) (b0 : Nat) (sa : sT) (sz : Nat) (LO : List Nat) (fO : Nat → va_E) (adO : Nat → Nat → Nat) (nO : Nat × Nat) (S0 : fS) (hw : PW K adO (isn nO) S0 LO fO) (hn : S0.2.2.1 = nO) (hprobe : 0 < nO.1) (v : Nat) (S1 : fS) (h : F_X4_codeRead S0 = some (v, S1)) : Met l yX4_codeRead (.code yX4_codeRead cX4_codeRead 1 (some (.object "ClawBoxes$Code")) :: gt) { frames := 3, cells := 2, slots := 301, locals := 104 } (va_Pc [.ref (adO 17 0)] (hPre D K b0 sa sz LO fO)) (hQ D K b0 (fun v9 u9 => ∃ (ad2 : Nat → Nat → Nat) (L2 : List Nat) (f2 : Nat → va_E), v9 = some (.ref (ad2 29 v)) ∧ u9 = lU L2 f2 ∧ PW K ad2 (isn S1.2.2.1) S1 L2 f2 ∧ Gr (fun _ => False) (isn nO) adO LO fO (isn S1.2.2.1) ad2 L2 f2)) 2 301 (fun q => b0 ≤ q) := by
  dsimp only [F_X4_codeRead] at h
  obtain ⟨x, ex, h⟩ := iv_some h
  obtain ⟨hi, h⟩ := gd_some h
  obtain ⟨hc, h⟩ := gdc_some h
  obtain ⟨t, et, h⟩ := nv_some h
  obtain ⟨S, eS, h⟩ := sv_some h
  cases h
  subst eS
  refine t_of (own := RX4) (by decide) rfl ?_ (Nat.le_of_ble_eq_true rfl)
  intro p e s m below meth c ls C w hsz hr hlk hnm hl
  have hx := C.1
  have hb := C.2.1
  have hl : lv_has ls 1 [(0, .ref (adO 17 0))] := hl
  refine g_new C w (t := 1) rfl cin_1 tyX1 tyX1_ok gw_895 gw_896 gw_20 (fs := [.null]) dfl_1 (Nat.le_of_ble_eq_true rfl) (Nat.le_of_ble_eq_true rfl) dX4_codeRead_0 (fun q H hq w => ?_)
  have hwS := hw.pool (e := .inr (1, [.null])) hq
  have hmq : q ∈ LO ++ [q] := List.mem_append_right _ (List.mem_singleton.mpr rfl)
  refine lv_dup hx hb dX4_codeRead_3 rfl ?_
  refine lv_aload_n hx hb dX4_codeRead_4 rfl (lv_at hl 0 rfl) ?_
  refine u_getr C w hwS (isn_f rfl rfl (by decide)) rfl (N := 12) rfl rfl cin_4 6 (by decide) (by decide) (a2 := 21) (i2 := 0) rfl gw_164 dX4_codeRead_5 ?_
  refine lv_aload_n hx hb dX4_codeRead_8 rfl (lv_at hl 0 rfl) ?_
  refine u_geti C w hwS (isn_f rfl rfl (by decide)) rfl (N := 12) rfl rfl cin_4 7 (by decide) rfl gw_165 dX4_codeRead_9 ?_
  rw [← ex]
  have h21 : isn nO 21 0 := isn_f rfl rfl (by decide)
  have hf21 := u_arr hwS h21 rfl
  refine t_callI (n := 2) (As := [.ref (adO 21 0), .int x]) C w (c_X1_init l D K b0 sa _ _ _ q hmq (va_up_self _ _ _) (adO 21 0) (hwS.1 21 0 h21).1 _ hf21 x hi) gw_899 gw_897 rfl gw_898 gw_20 ⟨by decide, by decide, by decide +kernel⟩ rfl rfl ⟨by decide, by decide⟩ rfl hl.1 rfl (Nat.le_of_ble_eq_true rfl) dX4_codeRead_12 ⟨Nat.le_of_ble_eq_true rfl, Nat.le_of_ble_eq_true rfl⟩ (fun v9 u H locs hp w => ?_)
  obtain ⟨q2, f2, rfl, rfl, hq2, hfo, hfq, hk⟩ := hp
  have hold : ∀ b : Nat, b ∈ LO → f2 b = fO b := fun b hb9 => by
    have hbq : b ≠ q := fun e9 => hq (by rw [← e9]; exact hb9)
    rw [hk b (List.mem_append_left _ hb9) hbq, va_up_ne _ _ hbq]
  have hsub : ∀ b : Nat, b ∈ LO → b ∈ (LO ++ [q]) ++ [q2] := fun b hb9 => List.mem_append_left _ (List.mem_append_left _ hb9)
  have hnC : nC S0 = nO.2 := by rw [← hn]; rfl
  have hw1 : PW K adO (isn nO) (newC S0 x) ((LO ++ [q]) ++ [q2]) f2 := (hw.newC (fun _ _ h => h) hn).sup hsub hold
  have hno30 : ¬ isn nO 30 (nC S0) := fun z => by have z : nC S0 < nO.2 := z; omega
  have hno29 : ¬ isn nO 29 (nC S0) := fun z => by have z : nC S0 < nO.2 := z; omega
  have hfr : ∀ z : Nat, z ∉ LO → ∀ a i : Nat, isn nO a i → adO a i ≠ z := fun z hz => hw.fr hz
  have hq2O : q2 ∉ LO := fun z => hq2 (List.mem_append_left _ z)
  have hqq : q ≠ q2 := fun z => hq2 (by rw [← z]; exact hmq)
  have hw2 := hw1.add (rc_newC hc hn hprobe) hno30 (List.mem_append_right _ (List.mem_singleton.mpr rfl)) (hfr q2 hq2O) (by
    rw [hfq, cell_1 rfl]
    have e1 : flen (newC S0 x) 30 (nC S0) = x.toNatClampNeg := by
      show (if nC S0 = nC S0 then x.toNatClampNeg else S0.2.2.2 (nC S0)) = x.toNatClampNeg
      exact if_pos rfl
    rw [e1]
    refine congrArg (fun g => (.inl (K 0, x.toNatClampNeg, .inl g) : va_E)) (funext fun j => ?_)
    exact (if_pos ⟨rfl, rfl⟩ : (if 30 = 30 ∧ nC S0 = nC S0 then (if j < x.toNatClampNeg then ge S0 21 0 j else 0) else S0.1 30 (nC S0) j) = _).symm)
  have hr2 : RC (Pu (isn nO) 30 (nC S0)) (newC S0 x) := (rc_newC hc hn hprobe).add (fun b c z => absurd z (rf_1 rfl))
  have hw3 := hw2.add hr2 (a := 29) (i := nC S0) (q := q) (fun z => z.elim hno29 (fun z => absurd z.1 (by decide))) (List.mem_append_left _ hmq) (fun a i z => by
    rcases z with z | ⟨z1, z2⟩
    · rw [au_ne (fun y => hno30 (by rw [← y.1, ← y.2]; exact z))]
      exact hfr q hq a i z
    · rw [z1, z2, au_self]
      exact Ne.symm hqq) (by
    rw [hfo, cell_0 rfl]
    show (Sum.inr (1, [.ref q2]) : va_E) = Sum.inr (1, [.ref (au adO 30 (nC S0) q2 30 (nC S0))])
    rw [au_self])
  have hs : ∀ a k : Nat, isn (newC S0 x).2.2.1 a k → Pu (Pu (isn nO) 30 (nC S0)) 29 (nC S0) a k := by
    intro a k z
    have z : k < (if a = 25 ∨ a = 26 then nT S0 else if a = 29 ∨ a = 30 then nC S0 + 1 else (fam a).2.2.2) := z
    have hnT : nT S0 = nO.1 := by rw [← hn]; rfl
    show (isn nO a k ∨ (a = 30 ∧ k = nC S0)) ∨ (a = 29 ∧ k = nC S0)
    unfold isn
    by_cases q1 : a = 25 ∨ a = 26
    · rw [if_pos q1] at z ⊢
      exact Or.inl (Or.inl (by omega))
    · rw [if_neg q1] at z ⊢
      by_cases q3 : a = 29 ∨ a = 30
      · rw [if_pos q3] at z ⊢
        by_cases q4 : k = nC S0
        · rcases q3 with q3 | q3
          · exact Or.inr ⟨q3, q4⟩
          · exact Or.inl (Or.inr ⟨q3, q4⟩)
        · exact Or.inl (Or.inl (by omega))
      · rw [if_neg q3] at z ⊢
        exact Or.inl (Or.inl z)
  have hle : ∀ a k : Nat, isn nO a k → isn (newC S0 x).2.2.1 a k := fun a k z => isn_up (n := nO) (by rw [← hn]; exact Nat.le_refl _) (by rw [← hn]; exact Nat.le_succ _) z
  have hG : Gr (fun _ => False) (isn nO) adO LO fO (isn nO) adO ((LO ++ [q]) ++ [q2]) f2 := Gr.rf.sup hsub hold
  have hG2 := (hG.add hno30 (q := q2) (fun z => absurd z hq2O)).add (a := 29) (i := nC S0) (q := q) (fun z => z.elim hno29 (fun z => absurd z.1 (by decide))) (fun z => absurd z hq)
  refine t_aret C hr (Or.inl ⟨_, rfl⟩) hlk w (Or.inr ⟨_, rfl⟩) ⟨_, _, f2, ?_, rfl, hw3.mono hs, hG2.sub hs hle⟩ (by decide) (by decide) dX4_codeRead_15
  rw [et, au_self]
