set_option maxHeartbeats 8000000 in
set_option maxRecDepth 100000 in
theorem law_go {p : Program} {l : Launch} {e : Env} {s : State} {m : MethodId} {below : List Frame} {meth : Method} {c : Code} {b : Nat} {xs : Nat → Int32} {D : va_G} {K : Nat → ClassId} {sa : Nat × Nat × Nat} {H : Heap} {locs : List Loc} {L : List Nat} {f : Nat → va_E} {Ψ : Nat → Nat} {x m_ o : Nat} {ls : Array Slot} (hls : l.stackTraces = false) (A : LwC p s m meth c b xs) (B : LwW D K sa s H locs L f Ψ x m_ o) (hl : lv_has ls 7 [(0, .ref b), (1, .ref x), (2, .ref m_), (3, .ref o), (4, .int 0)]) : W p l e room_1 s m #[Value.ref b] below meth c H locs 1258 28357 (lw_Z below #[Value.ref b] s) (F0 m 23 ls []) := by
  obtain ⟨C, hX, hbl, hrt, hlk⟩ := id A
  have w := B.1
  have hx := C.1
  have hb := C.2.1
  refine lv_iload hx hb dL_law_23 (lv_at hl 4 rfl) ?_
  refine lv_aload_n hx hb dL_law_25 rfl (lv_at hl 0 rfl) ?_
  refine va_slen (A := fun q => s.heap.size ≤ q) hx hb hX hbl (Nat.not_le.mpr hbl) w.2.2.2.2.1 dL_law_26 ?_
  refine lv_bipush (v := 6) hx hb dL_law_27 (by decide) ?_
  refine lv_isub hx hb dL_law_29 ?_
  refine lv_topi (fun y1 ey1 => ?_)
  obtain rfl : y1 = 0 := ey1.trans (by decide)
  refine lv_icmp_gt (tgt := 2326) hx hb dL_law_30 (by decide) (fun c0 => absurd c0 (by decide)) (fun _ => ?_)
  refine lv_aload_n hx hb dL_law_33 rfl (lv_at hl 0 rfl) ?_
  refine lv_iload hx hb dL_law_34 (lv_at hl 4 rfl) ?_
  refine t_sld hx hb hX hbl w (j := 0) (by decide) (vp_in_iff.mpr ⟨by decide, by decide⟩) dL_law_36 ?_
  refine lv_bipush (v := 63) hx hb dL_law_37 (by decide) ?_
  refine lv_iand hx hb dL_law_39 ?_
  refine lv_topi (fun y2 ey2 => ?_)
  rcases (show y2.toInt = 0 ∨ y2.toInt = 1 ∨ y2.toInt = 2 ∨ y2.toInt = 3 ∨ y2.toInt = 4 ∨ y2.toInt = 5 ∨ y2.toInt = 6 ∨ y2.toInt = 7 ∨ y2.toInt = 8 ∨ y2.toInt = 9 ∨ y2.toInt = 10 ∨ y2.toInt = 11 ∨ y2.toInt = 12 ∨ y2.toInt = 13 ∨ y2.toInt = 14 ∨ y2.toInt = 15 ∨ y2.toInt = 16 ∨ y2.toInt = 17 ∨ y2.toInt = 18 ∨ y2.toInt = 19 ∨ y2.toInt = 20 ∨ y2.toInt = 21 ∨ y2.toInt = 22 ∨ y2.toInt = 23 ∨ y2.toInt = 24 ∨ y2.toInt = 25 ∨ y2.toInt = 26 ∨ y2.toInt = 27 ∨ y2.toInt = 28 ∨ y2.toInt = 29 ∨ y2.toInt = 30 ∨ y2.toInt = 31 ∨ y2.toInt = 32 ∨ y2.toInt = 33 ∨ y2.toInt = 34 ∨ y2.toInt = 35 ∨ (y2.toInt < 0 ∨ 35 < y2.toInt) by omega) with hk | hk | hk | hk | hk | hk | hk | hk | hk | hk | hk | hk | hk | hk | hk | hk | hk | hk | hk | hk | hk | hk | hk | hk | hk | hk | hk | hk | hk | hk | hk | hk | hk | hk | hk | hk | hk
  · refine lv_tableIn (tgt := 200) hx hb dL_law_40 (by omega) (by omega) (by rw [hk]; rfl) (by decide) ?_
    exact arm_0 hls A B hl
  · refine lv_tableIn (tgt := 292) hx hb dL_law_40 (by omega) (by omega) (by rw [hk]; rfl) (by decide) ?_
    exact arm_1 hls A B hl
  · refine lv_tableIn (tgt := 383) hx hb dL_law_40 (by omega) (by omega) (by rw [hk]; rfl) (by decide) ?_
    exact arm_2 hls A B hl
  · refine lv_tableIn (tgt := 439) hx hb dL_law_40 (by omega) (by omega) (by rw [hk]; rfl) (by decide) ?_
    exact arm_3 hls A B hl
  · refine lv_tableIn (tgt := 507) hx hb dL_law_40 (by omega) (by omega) (by rw [hk]; rfl) (by decide) ?_
    exact arm_4 hls A B hl
  · refine lv_tableIn (tgt := 591) hx hb dL_law_40 (by omega) (by omega) (by rw [hk]; rfl) (by decide) ?_
    exact arm_5 hls A B hl
  · refine lv_tableIn (tgt := 647) hx hb dL_law_40 (by omega) (by omega) (by rw [hk]; rfl) (by decide) ?_
    exact arm_6 hls A B hl
  · refine lv_tableIn (tgt := 715) hx hb dL_law_40 (by omega) (by omega) (by rw [hk]; rfl) (by decide) ?_
    exact arm_7 hls A B hl
  · refine lv_tableIn (tgt := 740) hx hb dL_law_40 (by omega) (by omega) (by rw [hk]; rfl) (by decide) ?_
    exact arm_8 hls A B hl
  · refine lv_tableIn (tgt := 813) hx hb dL_law_40 (by omega) (by omega) (by rw [hk]; rfl) (by decide) ?_
    exact arm_9 hls A B hl
  · refine lv_tableIn (tgt := 897) hx hb dL_law_40 (by omega) (by omega) (by rw [hk]; rfl) (by decide) ?_
    exact arm_10 hls A B hl
  · refine lv_tableIn (tgt := 910) hx hb dL_law_40 (by omega) (by omega) (by rw [hk]; rfl) (by decide) ?_
    exact arm_11 hls A B hl
  · refine lv_tableIn (tgt := 966) hx hb dL_law_40 (by omega) (by omega) (by rw [hk]; rfl) (by decide) ?_
    exact arm_12 hls A B hl
  · refine lv_tableIn (tgt := 1034) hx hb dL_law_40 (by omega) (by omega) (by rw [hk]; rfl) (by decide) ?_
    exact arm_13 hls A B hl
  · refine lv_tableIn (tgt := 1090) hx hb dL_law_40 (by omega) (by omega) (by rw [hk]; rfl) (by decide) ?_
    exact arm_14 hls A B hl
  · refine lv_tableIn (tgt := 1158) hx hb dL_law_40 (by omega) (by omega) (by rw [hk]; rfl) (by decide) ?_
    exact arm_15 hls A B hl
  · refine lv_tableIn (tgt := 1214) hx hb dL_law_40 (by omega) (by omega) (by rw [hk]; rfl) (by decide) ?_
    exact arm_16 hls A B hl
  · refine lv_tableIn (tgt := 1282) hx hb dL_law_40 (by omega) (by omega) (by rw [hk]; rfl) (by decide) ?_
    exact arm_17 hls A B hl
  · refine lv_tableIn (tgt := 1323) hx hb dL_law_40 (by omega) (by omega) (by rw [hk]; rfl) (by decide) ?_
    exact arm_18 hls A B hl
  · refine lv_tableIn (tgt := 1403) hx hb dL_law_40 (by omega) (by omega) (by rw [hk]; rfl) (by decide) ?_
    exact arm_19 hls A B hl
  · refine lv_tableIn (tgt := 1459) hx hb dL_law_40 (by omega) (by omega) (by rw [hk]; rfl) (by decide) ?_
    exact arm_20 hls A B hl
  · refine lv_tableIn (tgt := 1527) hx hb dL_law_40 (by omega) (by omega) (by rw [hk]; rfl) (by decide) ?_
    exact arm_21 hls A B hl
  · refine lv_tableIn (tgt := 1540) hx hb dL_law_40 (by omega) (by omega) (by rw [hk]; rfl) (by decide) ?_
    exact arm_22 hls A B hl
  · refine lv_tableIn (tgt := 1596) hx hb dL_law_40 (by omega) (by omega) (by rw [hk]; rfl) (by decide) ?_
    exact arm_23 hls A B hl
  · refine lv_tableIn (tgt := 1652) hx hb dL_law_40 (by omega) (by omega) (by rw [hk]; rfl) (by decide) ?_
    exact arm_24 hls A B hl
  · refine lv_tableIn (tgt := 1665) hx hb dL_law_40 (by omega) (by omega) (by rw [hk]; rfl) (by decide) ?_
    exact arm_25 hls A B hl
  · refine lv_tableIn (tgt := 1745) hx hb dL_law_40 (by omega) (by omega) (by rw [hk]; rfl) (by decide) ?_
    exact arm_26 hls A B hl
  · refine lv_tableIn (tgt := 1813) hx hb dL_law_40 (by omega) (by omega) (by rw [hk]; rfl) (by decide) ?_
    exact arm_27 hls A B hl
  · refine lv_tableIn (tgt := 1893) hx hb dL_law_40 (by omega) (by omega) (by rw [hk]; rfl) (by decide) ?_
    exact arm_28 hls A B hl
  · refine lv_tableIn (tgt := 1961) hx hb dL_law_40 (by omega) (by omega) (by rw [hk]; rfl) (by decide) ?_
    exact arm_29 hls A B hl
  · refine lv_tableIn (tgt := 2017) hx hb dL_law_40 (by omega) (by omega) (by rw [hk]; rfl) (by decide) ?_
    exact arm_30 hls A B hl
  · refine lv_tableIn (tgt := 2121) hx hb dL_law_40 (by omega) (by omega) (by rw [hk]; rfl) (by decide) ?_
    exact arm_31 hls A B hl
  · refine lv_tableIn (tgt := 2213) hx hb dL_law_40 (by omega) (by omega) (by rw [hk]; rfl) (by decide) ?_
    exact arm_32 hls A B hl
  · refine lv_tableIn (tgt := 2269) hx hb dL_law_40 (by omega) (by omega) (by rw [hk]; rfl) (by decide) ?_
    exact arm_33 hls A B hl
  · refine lv_tableIn (tgt := 2282) hx hb dL_law_40 (by omega) (by omega) (by rw [hk]; rfl) (by decide) ?_
    exact arm_34 hls A B hl
  · refine lv_tableIn (tgt := 2295) hx hb dL_law_40 (by omega) (by omega) (by rw [hk]; rfl) (by decide) ?_
    exact arm_35 hls A B hl
  · refine lv_tableOut (tgt := 2320) hx hb dL_law_40 hk (by decide) ?_
    exact law_end A w (Nat.le_of_ble_eq_true rfl) (Nat.le_of_ble_eq_true rfl) (lv_sub hl [4, 0] rfl)
set_option maxHeartbeats 8000000 in
set_option maxRecDepth 100000 in
theorem whole_start {p : Program} {e : Env} {s : State} {m : MethodId} {below : List Frame} {meth : Method} {c : Code} (l : Launch) (hls : l.stackTraces = false) {b L : Nat} {xs : Nat → Int32} (hL : L ≤ 6) (C0 : lw_At p s m meth c b L xs) : W p l e room_1 s m #[Value.ref b] below meth c s.heap [] 0 0 (lw_Z below #[Value.ref b] s) (entryFrame m ([Value.ref b] : List Value).toArray 7) := by
  obtain ⟨hx, hb, hr, hml, hown, hts, hX, hbl, hlk, hgv⟩ := id C0
  have C : CallFix p m c cL_law 7 s #[Value.ref b] gt RL := ⟨hx, hb, hml, hown, fun w hw => hts w (gt_tbl w hw)⟩
  obtain ⟨D, K, sa, w⟩ := law_world hts hgv
  have hl := lv_entry ([.ref b]) (n := 7) (Nat.le_of_ble_eq_true rfl)
  rw [lg_entry_eq]
  generalize (lg_sl ([.ref b]) ++ List.replicate (7 - (lg_sl ([.ref b])).length) Slot.unset).toArray = ls at hl ⊢
  have hl : lv_has ls 7 [(0, .ref b)] := hl
  have hT : TW K (gof gX0) (fun _ => 9) [] (fun _ => .inr (0, [])) := fun a ha => absurd ha List.not_mem_nil
  refine t_new C w hT (Ex.rf (T := [9]) (X := fun _ => False)) (by decide) (t := 6) rfl cin_6 tyX6 tyX6_ok gw_23 gw_24 gw_1 (fs := [.null, .null, .null, .int 0, .null, .int 0, .null, .int 0, .null, .int 0, .null, .int 0, .int 0, .null, .null, .null, .null, .null]) dfl_6 (Nat.le_of_ble_eq_true rfl) (Nat.le_of_ble_eq_true rfl) dL_law_0 (fun x Ψ1 L1 f1 H w hT hE hsp hm_x ht_x hf_x hz hnq hbk => ?_)
  have hall : ∀ b9 : Nat, b9 ∈ L1 → b9 = x := fun b9 hb9 => (hbk b9 hb9).elim id (fun h => absurd h List.not_mem_nil)
  have hno_6 : No (fun b => b = x) 6 Ψ1 L1 := fun b9 hb9 _ => hall b9 hb9
  have hn4 : ∀ b9 : Nat, b9 ∈ L1 → Ψ1 b9 ≠ 4 := fun b9 hb9 h4 => by rw [hall b9 hb9, ht_x] at h4; exact absurd h4 (by decide)
  have hno_7 : No (fun _ => False) 7 Ψ1 L1 := fun b9 hb9 h7 => by rw [hall b9 hb9, ht_x] at h7; exact absurd h7 (by decide)
  clear hsp hbk hnq hall hE hz
  refine lv_dup hx hb dL_law_3 rfl ?_
  refine t_callI (n := 0) C w (c_X6_init l D K _ sa _ L1 _ Ψ1 hT x hm_x ht_x hf_x hn4) gw_27 gw_25 rfl gw_26 gw_1 ⟨by decide, by decide, by decide +kernel⟩ rfl rfl ⟨Nat.le_of_ble_eq_true rfl, Nat.le_of_ble_eq_true rfl⟩ rfl hl.1 rfl (Nat.le_of_ble_eq_true rfl) dL_law_4 ⟨Nat.le_of_ble_eq_true rfl, Nat.le_of_ble_eq_true rfl⟩ (fun v u H locs hp w => ?_)
  obtain ⟨Ψ2, L2, f2, rfl, rfl, hT2, hE2, ht_x2, z4, hno_4⟩ := hp
  have hno_6 := hno_6.call hE2 (by decide) (fun b9 e9 _ => e9)
  have hno_7 := hno_7.call hE2 (by decide) (fun b9 e9 h9 => by have e9 : b9 = x := e9; rw [e9, ht_x2] at h9; exact absurd h9 (by decide))
  have hm_x := (hE2.1 x hm_x).1
  clear hT hE2 ht_x hf_x hn4
  refine lv_astore_n (lv' := [(1, .ref x), (0, .ref b)]) hx hb dL_law_7 rfl hl (by decide) rfl (fun ls hl => ?_)
  refine t_new C w hT2 (Ex.rf (T := [9]) (X := fun _ => False)) (by decide) (t := 7) rfl cin_7 tyX7 tyX7_ok gw_1148 gw_1149 gw_8 (fs := [.int 0, .int 0, .int 0, .int 0, .int 0, .int 0, .int 0, .int 0, .int 0, .int 0, .null, .null, .null, .int 0, .int 0, .int 0, .int 0, .null, .int 0, .int 0, .int 0, .int 0, .null, .null, .null, .null, .null, .null, .null, .null, .int 0, .int 0, .int 0, .int 0, .int 0, .int 0, .int 0, .int 0, .int 0, .null, .int 0, .int 0, .int 0, .int 0, .int 0, .int 0, .int 0, .null, .int 0, .null, .null, .null, .null, .null, .null, .null, .int 0]) dfl_7 (Nat.le_of_ble_eq_true rfl) (Nat.le_of_ble_eq_true rfl) dL_law_8 (fun m_ Ψ3 L3 f3 H w hT hE hsp hm_m ht_m hf_m hz hnq hbk => ?_)
  have hno_4 := hno_4.grow hsp hbk ht_m (by decide)
  have hno_6 := hno_6.grow hsp hbk ht_m (by decide)
  have hno_7 := hno_7.grow hsp hbk ht_m (by decide)
  have ht_x := (hsp x hm_x).2.1.trans ht_x2
  have hm_x := (hsp x hm_x).1
  clear hsp hbk hnq hE hz hT2 ht_x2
  refine lv_dup hx hb dL_law_11 rfl ?_
  refine t_callI (n := 0) C w (c_X7_init l D K _ sa _ L3 _ Ψ3 hT m_ hm_m ht_m hf_m) gw_1152 gw_1150 rfl gw_1151 gw_8 ⟨by decide, by decide, by decide +kernel⟩ rfl rfl ⟨Nat.le_of_ble_eq_true rfl, Nat.le_of_ble_eq_true rfl⟩ rfl hl.1 rfl (Nat.le_of_ble_eq_true rfl) dL_law_12 ⟨Nat.le_of_ble_eq_true rfl, Nat.le_of_ble_eq_true rfl⟩ (fun v u H locs hp w => ?_)
  obtain ⟨Ψ4, L4, f4, rfl, rfl, hT4, hE4, ht_m4⟩ := hp
  have hsp4 := hE4.sp hm_x (fun e9 => by have e9 : x = m_ := e9; rw [e9, ht_m] at ht_x; exact absurd ht_x (by decide))
  have ht_x := hsp4.2.1.trans ht_x
  have hm_x := hsp4.1
  have hno_4 := hno_4.call hE4 (by decide) (fun b9 e9 h9 => by have e9 : b9 = m_ := e9; rw [e9, ht_m4] at h9; exact absurd h9 (by decide))
  have hno_6 := hno_6.call hE4 (by decide) (fun b9 e9 h9 => by have e9 : b9 = m_ := e9; rw [e9, ht_m4] at h9; exact absurd h9 (by decide))
  have hno_7 := No.call (No.mono hno_7 (fun b9 h9 => (h9.elim : b9 = m_))) hE4 (by decide) (fun b9 e9 _ => e9)
  have hm_m := (hE4.1 m_ hm_m).1
  clear hT hE4 ht_m hf_m hsp4
  refine lv_astore_n (lv' := [(2, .ref m_), (1, .ref x), (0, .ref b)]) hx hb dL_law_15 rfl hl (by decide) rfl (fun ls hl => ?_)
  refine lv_iconst (v := 1) hx hb dL_law_16 (by decide) ?_
  refine t_newL C w hT4 (Ex.rf (T := [9]) (X := fun _ => False)) (by decide) gw_1691 (N := 1) (by decide) (by decide) (by decide) (Nat.le_of_ble_eq_true rfl) (Nat.le_of_ble_eq_true rfl) dL_law_17 (fun o Ψ5 L5 f5 H w hT hE hsp hm_o ht_o hf_o hz hnq hbk => ?_)
  have hno_4 := hno_4.grow hsp hbk ht_o (by decide)
  have hno_6 := hno_6.grow hsp hbk ht_o (by decide)
  have hno_7 := hno_7.grow hsp hbk ht_o (by decide)
  have ht_x := (hsp x hm_x).2.1.trans ht_x
  have hm_x := (hsp x hm_x).1
  have ht_m := (hsp m_ hm_m).2.1.trans ht_m4
  have hm_m := (hsp m_ hm_m).1
  refine lv_astore_n (lv' := [(3, .ref o), (2, .ref m_), (1, .ref x), (0, .ref b)]) hx hb dL_law_19 rfl hl (by decide) rfl (fun ls hl => ?_)
  refine lv_iconst (v := 0) hx hb dL_law_20 (by decide) ?_
  refine lv_istore (lv' := [(4, .int 0), (3, .ref o), (2, .ref m_), (1, .ref x), (0, .ref b)]) hx hb dL_law_21 hl (by decide) rfl (fun ls hl => ?_)
  refine W.widen (k := 1258) (n := 28357) (Nat.le_of_ble_eq_true rfl) (Nat.le_of_ble_eq_true rfl) ?_
  by_cases hL6 : L = 6
  · subst hL6
    exact law_go hls ⟨C, hX, hbl, hr, hlk⟩ ⟨w, hT, ⟨hm_x, ht_x⟩, ⟨hm_m, ht_m⟩, ⟨hm_o, ht_o, _, hf_o⟩, hno_6, hno_7, z4, hno_4⟩ (lv_sub hl [4, 3, 2, 1, 0] rfl)
  · have hy : Int32.ofNat L - 6 < 0 := by rcases (show L = 0 ∨ L = 1 ∨ L = 2 ∨ L = 3 ∨ L = 4 ∨ L = 5 by omega) with rfl | rfl | rfl | rfl | rfl | rfl <;> decide
    refine lv_iload hx hb dL_law_23 (lv_at hl 0 rfl) ?_
    refine lv_aload_n hx hb dL_law_25 rfl (lv_at hl 4 rfl) ?_
    refine va_slen (A := fun q => s.heap.size ≤ q) hx hb hX hbl (Nat.not_le.mpr hbl) w.2.2.2.2.1 dL_law_26 ?_
    refine lv_bipush (v := 6) hx hb dL_law_27 (by decide) ?_
    refine lv_isub hx hb dL_law_29 ?_
    refine lv_icmp_gt (tgt := 2326) hx hb dL_law_30 (by decide) (fun _ => ?_) (fun c0 => absurd hy c0)
    exact law_out hx hb hr hlk w (Nat.le_of_ble_eq_true rfl) (Nat.le_of_ble_eq_true rfl)
