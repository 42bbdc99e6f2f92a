theorem dL_law_952 : decode cL_law 952 = .ok (.aload_n 1, 1) := by decide +kernel
theorem dL_law_953 : decode cL_law 953 = .ok (.aload_n 0, 1) := by decide +kernel
theorem dL_law_954 : decode cL_law 954 = .ok (.iload 4, 2) := by decide +kernel
theorem dL_law_956 : decode cL_law 956 = .ok (.iconst 1, 1) := by decide +kernel
theorem dL_law_957 : decode cL_law 957 = .ok (.iadd, 1) := by decide +kernel
theorem dL_law_958 : decode cL_law 958 = .ok (.iaload, 1) := by decide +kernel
theorem dL_law_959 : decode cL_law 959 = .ok (.aload_n 0, 1) := by decide +kernel
theorem dL_law_960 : decode cL_law 960 = .ok (.iload 4, 2) := by decide +kernel
theorem dL_law_962 : decode cL_law 962 = .ok (.iconst 2, 1) := by decide +kernel
theorem dL_law_963 : decode cL_law 963 = .ok (.iadd, 1) := by decide +kernel
theorem dL_law_964 : decode cL_law 964 = .ok (.iaload, 1) := by decide +kernel
theorem dL_law_965 : decode cL_law 965 = .ok (.aload_n 0, 1) := by decide +kernel
theorem dL_law_966 : decode cL_law 966 = .ok (.iload 4, 2) := by decide +kernel
theorem dL_law_968 : decode cL_law 968 = .ok (.iconst 3, 1) := by decide +kernel
theorem dL_law_969 : decode cL_law 969 = .ok (.iadd, 1) := by decide +kernel
theorem dL_law_970 : decode cL_law 970 = .ok (.iaload, 1) := by decide +kernel
theorem dL_law_971 : decode cL_law 971 = .ok (.aload_n 3, 1) := by decide +kernel
theorem dL_law_972 : decode cL_law 972 = .ok (.invokestatic 176, 3) := by decide +kernel
theorem dL_law_975 : decode cL_law 975 = .ok (.istore 5, 2) := by decide +kernel
theorem dL_law_977 : decode cL_law 977 = .ok (.aload_n 2, 1) := by decide +kernel
theorem dL_law_978 : decode cL_law 978 = .ok (.aload_n 0, 1) := by decide +kernel
theorem dL_law_979 : decode cL_law 979 = .ok (.iload 4, 2) := by decide +kernel
theorem dL_law_981 : decode cL_law 981 = .ok (.iconst 1, 1) := by decide +kernel
theorem dL_law_982 : decode cL_law 982 = .ok (.iadd, 1) := by decide +kernel
theorem dL_law_983 : decode cL_law 983 = .ok (.iaload, 1) := by decide +kernel
theorem dL_law_984 : decode cL_law 984 = .ok (.aload_n 0, 1) := by decide +kernel
theorem dL_law_985 : decode cL_law 985 = .ok (.iload 4, 2) := by decide +kernel
theorem dL_law_987 : decode cL_law 987 = .ok (.iconst 2, 1) := by decide +kernel
theorem dL_law_988 : decode cL_law 988 = .ok (.iadd, 1) := by decide +kernel
theorem dL_law_989 : decode cL_law 989 = .ok (.iaload, 1) := by decide +kernel
theorem dL_law_990 : decode cL_law 990 = .ok (.aload_n 0, 1) := by decide +kernel
theorem dL_law_991 : decode cL_law 991 = .ok (.iload 4, 2) := by decide +kernel
theorem dL_law_993 : decode cL_law 993 = .ok (.iconst 3, 1) := by decide +kernel
theorem dL_law_994 : decode cL_law 994 = .ok (.iadd, 1) := by decide +kernel
theorem dL_law_995 : decode cL_law 995 = .ok (.iaload, 1) := by decide +kernel
theorem dL_law_996 : decode cL_law 996 = .ok (.invokevirtual 179, 3) := by decide +kernel
theorem dL_law_999 : decode cL_law 999 = .ok (.istore 6, 2) := by decide +kernel
theorem dL_law_1001 : decode cL_law 1001 = .ok (.goto 584, 3) := by decide +kernel
set_option maxHeartbeats 4000000 in
set_option maxRecDepth 100000 in
theorem arm_18 {p : Program} {l : Launch} {e : Env} {s : State} {m : MethodId} {below : List Frame} {meth : Method} {c : Code} {b N : Nat} {xs : Nat → Int32} {D : va_G} {K : Nat → ClassId} {sa : sT} {o i : Nat} {cells slots : Nat} {Q : State → Prop} (hls : l.stackTraces = false) (A : LwC p s m meth c b N xs) (hi : i + 6 ≤ N) {S S1 S2 : fS} {ec : Nat} {v v2 : Int32} (hec : ec = 0 ∨ ec = 1 ∨ ec = 2 ∨ ec = 3) (h1 : F_X6_odds (xs (i + 1)) (xs (i + 2)) (xs (i + 3)) S = some ((ec, v), S1)) (h2 : F_X7_odds (xs (i + 1)) (xs (i + 2)) (xs (i + 3)) S1 = some (v2, S2)) (hc : cells + 6 ≤ 601024) (hs : slots + 307 ≤ 7293033) (kk : LwK D K sa p l e s m below meth c b o i S2 (cells + 6) (slots + 307) Q 1585) : LwK D K sa p l e s m below meth c b o i S cells slots Q 952 := by
  intro ad n L f H locs ls B hl
  obtain ⟨C, hX, hbl, hrt, hlk, hNm⟩ := A
  obtain ⟨w, hw, hn, hprobe, hmo, hno, g0, hfo⟩ := B
  have hx := C.1
  have hb := C.2.1
  refine lv_aload_n hx hb dL_law_952 rfl (lv_at hl 1 rfl) ?_
  refine lv_aload_n hx hb dL_law_953 rfl (lv_at hl 0 rfl) ?_
  refine lv_iload hx hb dL_law_954 (lv_at hl 4 rfl) ?_
  refine lv_iconst (v := 1) hx hb dL_law_956 (by decide) ?_
  refine lv_iadd hx hb dL_law_957 ?_
  rw [show nI i + (1 : Int32) = nI (i + 1) from nI_ad2 i 1]
  refine t_sld hx hb hX hbl w (j := i + 1) (nI_clamp (by omega)) (vp_in_nI (by omega) (by omega)) dL_law_958 ?_
  refine lv_aload_n hx hb dL_law_959 rfl (lv_at hl 0 rfl) ?_
  refine lv_iload hx hb dL_law_960 (lv_at hl 4 rfl) ?_
  refine lv_iconst (v := 2) hx hb dL_law_962 (by decide) ?_
  refine lv_iadd hx hb dL_law_963 ?_
  rw [show nI i + (2 : Int32) = nI (i + 2) from nI_ad2 i 2]
  refine t_sld hx hb hX hbl w (j := i + 2) (nI_clamp (by omega)) (vp_in_nI (by omega) (by omega)) dL_law_964 ?_
  refine lv_aload_n hx hb dL_law_965 rfl (lv_at hl 0 rfl) ?_
  refine lv_iload hx hb dL_law_966 (lv_at hl 4 rfl) ?_
  refine lv_iconst (v := 3) hx hb dL_law_968 (by decide) ?_
  refine lv_iadd hx hb dL_law_969 ?_
  rw [show nI i + (3 : Int32) = nI (i + 3) from nI_ad2 i 3]
  refine t_sld hx hb hX hbl w (j := i + 3) (nI_clamp (by omega)) (vp_in_nI (by omega) (by omega)) dL_law_970 ?_
  refine lv_aload_n hx hb dL_law_971 rfl (lv_at hl 3 rfl) ?_
  refine t_callH (n := 5) C w (c_L_odds l hls D K _ sa _ L f ad n S hw hn hprobe (xs (i + 1)) (xs (i + 2)) (xs (i + 3)) o hmo hno g0 hfo ec hec v S1 h1) gw_1019 gw_1017 gw_1018 gw_0 ⟨by decide, by decide, by decide +kernel⟩ rfl rfl ⟨Nat.le_of_ble_eq_true rfl, Nat.le_of_ble_eq_true rfl⟩ rfl hl.1 rfl (Nat.le_of_ble_eq_true rfl) dL_law_972 ⟨by show cells + 3 ≤ 601024; omega, by show slots + 18 ≤ 7293033; omega⟩ (fun v9 u H locs hp w => ?_)
  obtain ⟨ad2, L2, f2, g1, rfl, rfl, hw2, hG2, hno2, hfo2, hgv⟩ := hp
  obtain ⟨ad, n, L, f, g0, w, hw, hn, hprobe, hmo, hno, hfo, hl⟩ : ∃ (ad3 : Nat → Nat → Nat) (n3 : Nat × Nat) (L3 : List Nat) (f3 : Nat → va_E) (g3 : Nat → Int64), Wh D K s.heap.size sa s H locs L3 f3 ∧ PW K ad3 (isn n3) S1 L3 f3 ∧ S1.2.2.1 = n3 ∧ 0 < n3.1 ∧ o ∈ L3 ∧ (∀ a i : Nat, isn n3 a i → ad3 a i ≠ o) ∧ f3 o = .inl (K 6, 1, .inr (.inl g3)) ∧ lv_has ls 7 [(0, .ref b), (1, .ref (ad3 0 0)), (2, .ref (ad3 40 0)), (3, .ref o), (4, .int (nI i))] := ⟨ad2, S1.2.2.1, L2, f2, g1, w, hw2, rfl, (hG2.1 25 0 hprobe).1, (hG2.2 o hmo).1, hno2, hfo2, (by rw [(hG2.1 0 0 (isn_f rfl rfl (by decide))).2, (hG2.1 40 0 (isn_f rfl rfl (by decide))).2]; exact hl)⟩
  refine lv_istore (lv' := [(5, .int (if ec = 0 then 0 else if ec = 1 then 3 else if ec = 2 then 2 else 1)), (0, .ref b), (1, .ref (ad 0 0)), (2, .ref (ad 40 0)), (3, .ref o), (4, .int (nI i))]) hx hb dL_law_975 hl (by decide) rfl (fun ls hl => ?_)
  refine lv_aload_n hx hb dL_law_977 rfl (lv_at hl 3 rfl) ?_
  refine lv_aload_n hx hb dL_law_978 rfl (lv_at hl 1 rfl) ?_
  refine lv_iload hx hb dL_law_979 (lv_at hl 5 rfl) ?_
  refine lv_iconst (v := 1) hx hb dL_law_981 (by decide) ?_
  refine lv_iadd hx hb dL_law_982 ?_
  rw [show nI i + (1 : Int32) = nI (i + 1) from nI_ad2 i 1]
  refine t_sld hx hb hX hbl w (j := i + 1) (nI_clamp (by omega)) (vp_in_nI (by omega) (by omega)) dL_law_983 ?_
  refine lv_aload_n hx hb dL_law_984 rfl (lv_at hl 1 rfl) ?_
  refine lv_iload hx hb dL_law_985 (lv_at hl 5 rfl) ?_
  refine lv_iconst (v := 2) hx hb dL_law_987 (by decide) ?_
  refine lv_iadd hx hb dL_law_988 ?_
  rw [show nI i + (2 : Int32) = nI (i + 2) from nI_ad2 i 2]
  refine t_sld hx hb hX hbl w (j := i + 2) (nI_clamp (by omega)) (vp_in_nI (by omega) (by omega)) dL_law_989 ?_
  refine lv_aload_n hx hb dL_law_990 rfl (lv_at hl 1 rfl) ?_
  refine lv_iload hx hb dL_law_991 (lv_at hl 5 rfl) ?_
  refine lv_iconst (v := 3) hx hb dL_law_993 (by decide) ?_
  refine lv_iadd hx hb dL_law_994 ?_
  rw [show nI i + (3 : Int32) = nI (i + 3) from nI_ad2 i 3]
  refine t_sld hx hb hX hbl w (j := i + 3) (nI_clamp (by omega)) (vp_in_nI (by omega) (by omega)) dL_law_995 ?_
  refine u_callV (n := 3) C w hw (isn_f rfl rfl (by decide)) rfl rfl rfl (c_X7_odds l D K _ sa _ L _ ad (isn n) (fun _ _ h => h) S1 hw hn (xs (i + 1)) (xs (i + 2)) (xs (i + 3)) v2 S2 h2) gw_1589 gw_1586 gw_1587 gw_1588 gw_8 ⟨by decide, by decide, by decide +kernel⟩ rfl rfl ⟨Nat.le_of_ble_eq_true rfl, Nat.le_of_ble_eq_true rfl⟩ rfl hl.1 rfl (Nat.le_of_ble_eq_true rfl) dL_law_996 ⟨by show cells + 3 + 0 ≤ 601024; omega, by show slots + 18 + 0 ≤ 7293033; omega⟩ (fun v9 u H locs hp w => ?_)
  obtain ⟨f2, rfl, rfl, hw2, hn2, hk1⟩ := hp
  have hfo := (hk1 o hmo hno).trans hfo
  have hw := hw2
  have hn := hn2
  clear hw2 hn2
  generalize f2 = f at w hw hfo
  refine lv_istore (lv' := [(6, .int v2), (5, .int (if ec = 0 then 0 else if ec = 1 then 3 else if ec = 2 then 2 else 1)), (0, .ref b), (1, .ref (ad 0 0)), (2, .ref (ad 40 0)), (3, .ref o), (4, .int (nI i))]) hx hb dL_law_999 hl (by decide) rfl (fun ls hl => ?_)
  refine lv_goto (tgt := 1585) hx hb dL_law_1001 (by decide) ?_
  exact W.widen (k := cells + 6) (n := slots + 307) (by omega) (by omega) (kk ad n L f H locs ls ⟨w, hw, hn, hprobe, hmo, hno, _, hfo⟩ (lv_sub hl [2, 3, 4, 5, 6] rfl))
theorem dL_law_1004 : decode cL_law 1004 = .ok (.aload_n 1, 1) := by decide +kernel
theorem dL_law_1005 : decode cL_law 1005 = .ok (.aload_n 0, 1) := by decide +kernel
theorem dL_law_1006 : decode cL_law 1006 = .ok (.iload 4, 2) := by decide +kernel
theorem dL_law_1008 : decode cL_law 1008 = .ok (.iconst 1, 1) := by decide +kernel
theorem dL_law_1009 : decode cL_law 1009 = .ok (.iadd, 1) := by decide +kernel
theorem dL_law_1010 : decode cL_law 1010 = .ok (.iaload, 1) := by decide +kernel
theorem dL_law_1011 : decode cL_law 1011 = .ok (.aload_n 3, 1) := by decide +kernel
theorem dL_law_1012 : decode cL_law 1012 = .ok (.invokestatic 180, 3) := by decide +kernel
theorem dL_law_1015 : decode cL_law 1015 = .ok (.istore 5, 2) := by decide +kernel
theorem dL_law_1017 : decode cL_law 1017 = .ok (.aload_n 2, 1) := by decide +kernel
theorem dL_law_1018 : decode cL_law 1018 = .ok (.aload_n 0, 1) := by decide +kernel
theorem dL_law_1019 : decode cL_law 1019 = .ok (.iload 4, 2) := by decide +kernel
theorem dL_law_1021 : decode cL_law 1021 = .ok (.iconst 1, 1) := by decide +kernel
theorem dL_law_1022 : decode cL_law 1022 = .ok (.iadd, 1) := by decide +kernel
theorem dL_law_1023 : decode cL_law 1023 = .ok (.iaload, 1) := by decide +kernel
theorem dL_law_1024 : decode cL_law 1024 = .ok (.invokevirtual 182, 3) := by decide +kernel
theorem dL_law_1027 : decode cL_law 1027 = .ok (.istore 6, 2) := by decide +kernel
theorem dL_law_1029 : decode cL_law 1029 = .ok (.goto 556, 3) := by decide +kernel
set_option maxHeartbeats 4000000 in
set_option maxRecDepth 100000 in
theorem arm_19 {p : Program} {l : Launch} {e : Env} {s : State} {m : MethodId} {below : List Frame} {meth : Method} {c : Code} {b N : Nat} {xs : Nat → Int32} {D : va_G} {K : Nat → ClassId} {sa : sT} {o i : Nat} {cells slots : Nat} {Q : State → Prop} (hls : l.stackTraces = false) (A : LwC p s m meth c b N xs) (hi : i + 6 ≤ N) {S S1 S2 : fS} {ec : Nat} {v v2 : Int32} (hec : ec = 0 ∨ ec = 3) (h1 : F_X6_weights (xs (i + 1)) S = some ((ec, v), S1)) (h2 : F_X7_weights (xs (i + 1)) S1 = some (v2, S2)) (hc : cells + 6 ≤ 601024) (hs : slots + 307 ≤ 7293033) (kk : LwK D K sa p l e s m below meth c b o i S2 (cells + 6) (slots + 307) Q 1585) : LwK D K sa p l e s m below meth c b o i S cells slots Q 1004 := by
  intro ad n L f H locs ls B hl
  obtain ⟨C, hX, hbl, hrt, hlk, hNm⟩ := A
  obtain ⟨w, hw, hn, hprobe, hmo, hno, g0, hfo⟩ := B
  have hx := C.1
  have hb := C.2.1
  refine lv_aload_n hx hb dL_law_1004 rfl (lv_at hl 1 rfl) ?_
  refine lv_aload_n hx hb dL_law_1005 rfl (lv_at hl 0 rfl) ?_
  refine lv_iload hx hb dL_law_1006 (lv_at hl 4 rfl) ?_
  refine lv_iconst (v := 1) hx hb dL_law_1008 (by decide) ?_
  refine lv_iadd hx hb dL_law_1009 ?_
  rw [show nI i + (1 : Int32) = nI (i + 1) from nI_ad2 i 1]
  refine t_sld hx hb hX hbl w (j := i + 1) (nI_clamp (by omega)) (vp_in_nI (by omega) (by omega)) dL_law_1010 ?_
  refine lv_aload_n hx hb dL_law_1011 rfl (lv_at hl 3 rfl) ?_
  refine t_callH (n := 3) C w (c_L_weights l hls D K _ sa _ L f ad n S hw hn hprobe (xs (i + 1)) o hmo hno g0 hfo ec hec v S1 h1) gw_1030 gw_1028 gw_1029 gw_0 ⟨by decide, by decide, by decide +kernel⟩ rfl rfl ⟨Nat.le_of_ble_eq_true rfl, Nat.le_of_ble_eq_true rfl⟩ rfl hl.1 rfl (Nat.le_of_ble_eq_true rfl) dL_law_1012 ⟨by show cells + 1 ≤ 601024; omega, by show slots + 6 ≤ 7293033; omega⟩ (fun v9 u H locs hp w => ?_)
  obtain ⟨ad2, L2, f2, g1, rfl, rfl, hw2, hG2, hno2, hfo2, hgv⟩ := hp
  obtain ⟨ad, n, L, f, g0, w, hw, hn, hprobe, hmo, hno, hfo, hl⟩ : ∃ (ad3 : Nat → Nat → Nat) (n3 : Nat × Nat) (L3 : List Nat) (f3 : Nat → va_E) (g3 : Nat → Int64), Wh D K s.heap.size sa s H locs L3 f3 ∧ PW K ad3 (isn n3) S1 L3 f3 ∧ S1.2.2.1 = n3 ∧ 0 < n3.1 ∧ o ∈ L3 ∧ (∀ a i : Nat, isn n3 a i → ad3 a i ≠ o) ∧ f3 o = .inl (K 6, 1, .inr (.inl g3)) ∧ lv_has ls 7 [(0, .ref b), (1, .ref (ad3 0 0)), (2, .ref (ad3 40 0)), (3, .ref o), (4, .int (nI i))] := ⟨ad2, S1.2.2.1, L2, f2, g1, w, hw2, rfl, (hG2.1 25 0 hprobe).1, (hG2.2 o hmo).1, hno2, hfo2, (by rw [(hG2.1 0 0 (isn_f rfl rfl (by decide))).2, (hG2.1 40 0 (isn_f rfl rfl (by decide))).2]; exact hl)⟩
  refine lv_istore (lv' := [(5, .int (if ec = 0 then 0 else 1)), (0, .ref b), (1, .ref (ad 0 0)), (2, .ref (ad 40 0)), (3, .ref o), (4, .int (nI i))]) hx hb dL_law_1015 hl (by decide) rfl (fun ls hl => ?_)
  refine lv_aload_n hx hb dL_law_1017 rfl (lv_at hl 3 rfl) ?_
  refine lv_aload_n hx hb dL_law_1018 rfl (lv_at hl 1 rfl) ?_
  refine lv_iload hx hb dL_law_1019 (lv_at hl 5 rfl) ?_
  refine lv_iconst (v := 1) hx hb dL_law_1021 (by decide) ?_
  refine lv_iadd hx hb dL_law_1022 ?_
  rw [show nI i + (1 : Int32) = nI (i + 1) from nI_ad2 i 1]
  refine t_sld hx hb hX hbl w (j := i + 1) (nI_clamp (by omega)) (vp_in_nI (by omega) (by omega)) dL_law_1023 ?_
  refine u_callV (n := 1) C w hw (isn_f rfl rfl (by decide)) rfl rfl rfl (c_X7_weights l D K _ sa _ L _ ad (isn n) (fun _ _ h => h) S1 hw hn (xs (i + 1)) v2 S2 h2) gw_1597 gw_1594 gw_1595 gw_1596 gw_8 ⟨by decide, by decide, by decide +kernel⟩ rfl rfl ⟨Nat.le_of_ble_eq_true rfl, Nat.le_of_ble_eq_true rfl⟩ rfl hl.1 rfl (Nat.le_of_ble_eq_true rfl) dL_law_1024 ⟨by show cells + 1 + 0 ≤ 601024; omega, by show slots + 6 + 0 ≤ 7293033; omega⟩ (fun v9 u H locs hp w => ?_)
  obtain ⟨f2, rfl, rfl, hw2, hn2, hk1⟩ := hp
  have hfo := (hk1 o hmo hno).trans hfo
  have hw := hw2
  have hn := hn2
  clear hw2 hn2
  generalize f2 = f at w hw hfo
  refine lv_istore (lv' := [(6, .int v2), (5, .int (if ec = 0 then 0 else 1)), (0, .ref b), (1, .ref (ad 0 0)), (2, .ref (ad 40 0)), (3, .ref o), (4, .int (nI i))]) hx hb dL_law_1027 hl (by decide) rfl (fun ls hl => ?_)
  refine lv_goto (tgt := 1585) hx hb dL_law_1029 (by decide) ?_
  exact W.widen (k := cells + 6) (n := slots + 307) (by omega) (by omega) (kk ad n L f H locs ls ⟨w, hw, hn, hprobe, hmo, hno, _, hfo⟩ (lv_sub hl [2, 3, 4, 5, 6] rfl))
theorem dL_law_1032 : decode cL_law 1032 = .ok (.aload_n 1, 1) := by decide +kernel
theorem dL_law_1033 : decode cL_law 1033 = .ok (.aload_n 0, 1) := by decide +kernel
theorem dL_law_1034 : decode cL_law 1034 = .ok (.iload 4, 2) := by decide +kernel
theorem dL_law_1036 : decode cL_law 1036 = .ok (.iconst 1, 1) := by decide +kernel
theorem dL_law_1037 : decode cL_law 1037 = .ok (.iadd, 1) := by decide +kernel
theorem dL_law_1038 : decode cL_law 1038 = .ok (.iaload, 1) := by decide +kernel
theorem dL_law_1039 : decode cL_law 1039 = .ok (.aload_n 0, 1) := by decide +kernel
theorem dL_law_1040 : decode cL_law 1040 = .ok (.iload 4, 2) := by decide +kernel
theorem dL_law_1042 : decode cL_law 1042 = .ok (.iconst 2, 1) := by decide +kernel
theorem dL_law_1043 : decode cL_law 1043 = .ok (.iadd, 1) := by decide +kernel
theorem dL_law_1044 : decode cL_law 1044 = .ok (.iaload, 1) := by decide +kernel
theorem dL_law_1045 : decode cL_law 1045 = .ok (.aload_n 3, 1) := by decide +kernel
theorem dL_law_1046 : decode cL_law 1046 = .ok (.invokestatic 183, 3) := by decide +kernel
theorem dL_law_1049 : decode cL_law 1049 = .ok (.istore 5, 2) := by decide +kernel
theorem dL_law_1051 : decode cL_law 1051 = .ok (.aload_n 2, 1) := by decide +kernel
theorem dL_law_1052 : decode cL_law 1052 = .ok (.aload_n 0, 1) := by decide +kernel
theorem dL_law_1053 : decode cL_law 1053 = .ok (.iload 4, 2) := by decide +kernel
theorem dL_law_1055 : decode cL_law 1055 = .ok (.iconst 1, 1) := by decide +kernel
theorem dL_law_1056 : decode cL_law 1056 = .ok (.iadd, 1) := by decide +kernel
theorem dL_law_1057 : decode cL_law 1057 = .ok (.iaload, 1) := by decide +kernel
theorem dL_law_1058 : decode cL_law 1058 = .ok (.aload_n 0, 1) := by decide +kernel
theorem dL_law_1059 : decode cL_law 1059 = .ok (.iload 4, 2) := by decide +kernel
theorem dL_law_1061 : decode cL_law 1061 = .ok (.iconst 2, 1) := by decide +kernel
theorem dL_law_1062 : decode cL_law 1062 = .ok (.iadd, 1) := by decide +kernel
theorem dL_law_1063 : decode cL_law 1063 = .ok (.iaload, 1) := by decide +kernel
theorem dL_law_1064 : decode cL_law 1064 = .ok (.invokevirtual 185, 3) := by decide +kernel
theorem dL_law_1067 : decode cL_law 1067 = .ok (.istore 6, 2) := by decide +kernel
theorem dL_law_1069 : decode cL_law 1069 = .ok (.goto 516, 3) := by decide +kernel
set_option maxHeartbeats 4000000 in
set_option maxRecDepth 100000 in
theorem arm_20 {p : Program} {l : Launch} {e : Env} {s : State} {m : MethodId} {below : List Frame} {meth : Method} {c : Code} {b N : Nat} {xs : Nat → Int32} {D : va_G} {K : Nat → ClassId} {sa : sT} {o i : Nat} {cells slots : Nat} {Q : State → Prop} (hls : l.stackTraces = false) (A : LwC p s m meth c b N xs) (hi : i + 6 ≤ N) {S S1 S2 : fS} {ec : Nat} {v v2 : Int32} (hec : ec = 0 ∨ ec = 1 ∨ ec = 2) (h1 : F_X6_when (xs (i + 1)) (xs (i + 2)) S = some ((ec, v), S1)) (h2 : F_X7_when (xs (i + 1)) (xs (i + 2)) S1 = some (v2, S2)) (hc : cells + 6 ≤ 601024) (hs : slots + 307 ≤ 7293033) (kk : LwK D K sa p l e s m below meth c b o i S2 (cells + 6) (slots + 307) Q 1585) : LwK D K sa p l e s m below meth c b o i S cells slots Q 1032 := by
  intro ad n L f H locs ls B hl
  obtain ⟨C, hX, hbl, hrt, hlk, hNm⟩ := A
  obtain ⟨w, hw, hn, hprobe, hmo, hno, g0, hfo⟩ := B
  have hx := C.1
  have hb := C.2.1
  refine lv_aload_n hx hb dL_law_1032 rfl (lv_at hl 1 rfl) ?_
  refine lv_aload_n hx hb dL_law_1033 rfl (lv_at hl 0 rfl) ?_
  refine lv_iload hx hb dL_law_1034 (lv_at hl 4 rfl) ?_
  refine lv_iconst (v := 1) hx hb dL_law_1036 (by decide) ?_
  refine lv_iadd hx hb dL_law_1037 ?_
  rw [show nI i + (1 : Int32) = nI (i + 1) from nI_ad2 i 1]
  refine t_sld hx hb hX hbl w (j := i + 1) (nI_clamp (by omega)) (vp_in_nI (by omega) (by omega)) dL_law_1038 ?_
  refine lv_aload_n hx hb dL_law_1039 rfl (lv_at hl 0 rfl) ?_
  refine lv_iload hx hb dL_law_1040 (lv_at hl 4 rfl) ?_
  refine lv_iconst (v := 2) hx hb dL_law_1042 (by decide) ?_
  refine lv_iadd hx hb dL_law_1043 ?_
  rw [show nI i + (2 : Int32) = nI (i + 2) from nI_ad2 i 2]
  refine t_sld hx hb hX hbl w (j := i + 2) (nI_clamp (by omega)) (vp_in_nI (by omega) (by omega)) dL_law_1044 ?_
  refine lv_aload_n hx hb dL_law_1045 rfl (lv_at hl 3 rfl) ?_
  refine t_callH (n := 4) C w (c_L_when l hls D K _ sa _ L f ad n S hw hn hprobe (xs (i + 1)) (xs (i + 2)) o hmo hno g0 hfo ec hec v S1 h1) gw_1037 gw_1035 gw_1036 gw_0 ⟨by decide, by decide, by decide +kernel⟩ rfl rfl ⟨Nat.le_of_ble_eq_true rfl, Nat.le_of_ble_eq_true rfl⟩ rfl hl.1 rfl (Nat.le_of_ble_eq_true rfl) dL_law_1046 ⟨by show cells + 2 ≤ 601024; omega, by show slots + 12 ≤ 7293033; omega⟩ (fun v9 u H locs hp w => ?_)
  obtain ⟨ad2, L2, f2, g1, rfl, rfl, hw2, hG2, hno2, hfo2, hgv⟩ := hp
  obtain ⟨ad, n, L, f, g0, w, hw, hn, hprobe, hmo, hno, hfo, hl⟩ : ∃ (ad3 : Nat → Nat → Nat) (n3 : Nat × Nat) (L3 : List Nat) (f3 : Nat → va_E) (g3 : Nat → Int64), Wh D K s.heap.size sa s H locs L3 f3 ∧ PW K ad3 (isn n3) S1 L3 f3 ∧ S1.2.2.1 = n3 ∧ 0 < n3.1 ∧ o ∈ L3 ∧ (∀ a i : Nat, isn n3 a i → ad3 a i ≠ o) ∧ f3 o = .inl (K 6, 1, .inr (.inl g3)) ∧ lv_has ls 7 [(0, .ref b), (1, .ref (ad3 0 0)), (2, .ref (ad3 40 0)), (3, .ref o), (4, .int (nI i))] := ⟨ad2, S1.2.2.1, L2, f2, g1, w, hw2, rfl, (hG2.1 25 0 hprobe).1, (hG2.2 o hmo).1, hno2, hfo2, (by rw [(hG2.1 0 0 (isn_f rfl rfl (by decide))).2, (hG2.1 40 0 (isn_f rfl rfl (by decide))).2]; exact hl)⟩
  refine lv_istore (lv' := [(5, .int (if ec = 0 then 0 else if ec = 1 then 2 else 1)), (0, .ref b), (1, .ref (ad 0 0)), (2, .ref (ad 40 0)), (3, .ref o), (4, .int (nI i))]) hx hb dL_law_1049 hl (by decide) rfl (fun ls hl => ?_)
  refine lv_aload_n hx hb dL_law_1051 rfl (lv_at hl 3 rfl) ?_
  refine lv_aload_n hx hb dL_law_1052 rfl (lv_at hl 1 rfl) ?_
  refine lv_iload hx hb dL_law_1053 (lv_at hl 5 rfl) ?_
  refine lv_iconst (v := 1) hx hb dL_law_1055 (by decide) ?_
  refine lv_iadd hx hb dL_law_1056 ?_
  rw [show nI i + (1 : Int32) = nI (i + 1) from nI_ad2 i 1]
  refine t_sld hx hb hX hbl w (j := i + 1) (nI_clamp (by omega)) (vp_in_nI (by omega) (by omega)) dL_law_1057 ?_
  refine lv_aload_n hx hb dL_law_1058 rfl (lv_at hl 1 rfl) ?_
  refine lv_iload hx hb dL_law_1059 (lv_at hl 5 rfl) ?_
  refine lv_iconst (v := 2) hx hb dL_law_1061 (by decide) ?_
  refine lv_iadd hx hb dL_law_1062 ?_
  rw [show nI i + (2 : Int32) = nI (i + 2) from nI_ad2 i 2]
  refine t_sld hx hb hX hbl w (j := i + 2) (nI_clamp (by omega)) (vp_in_nI (by omega) (by omega)) dL_law_1063 ?_
  refine u_callV (n := 2) C w hw (isn_f rfl rfl (by decide)) rfl rfl rfl (c_X7_when l D K _ sa _ L _ ad (isn n) (fun _ _ h => h) S1 hw hn (xs (i + 1)) (xs (i + 2)) v2 S2 h2) gw_1601 gw_1598 gw_1599 gw_1600 gw_8 ⟨by decide, by decide, by decide +kernel⟩ rfl rfl ⟨Nat.le_of_ble_eq_true rfl, Nat.le_of_ble_eq_true rfl⟩ rfl hl.1 rfl (Nat.le_of_ble_eq_true rfl) dL_law_1064 ⟨by show cells + 2 + 0 ≤ 601024; omega, by show slots + 12 + 0 ≤ 7293033; omega⟩ (fun v9 u H locs hp w => ?_)
  obtain ⟨f2, rfl, rfl, hw2, hn2, hk1⟩ := hp
  have hfo := (hk1 o hmo hno).trans hfo
  have hw := hw2
  have hn := hn2
  clear hw2 hn2
  generalize f2 = f at w hw hfo
  refine lv_istore (lv' := [(6, .int v2), (5, .int (if ec = 0 then 0 else if ec = 1 then 2 else 1)), (0, .ref b), (1, .ref (ad 0 0)), (2, .ref (ad 40 0)), (3, .ref o), (4, .int (nI i))]) hx hb dL_law_1067 hl (by decide) rfl (fun ls hl => ?_)
  refine lv_goto (tgt := 1585) hx hb dL_law_1069 (by decide) ?_
  exact W.widen (k := cells + 6) (n := slots + 307) (by omega) (by omega) (kk ad n L f H locs ls ⟨w, hw, hn, hprobe, hmo, hno, _, hfo⟩ (lv_sub hl [2, 3, 4, 5, 6] rfl))
theorem dL_law_1072 : decode cL_law 1072 = .ok (.aload_n 1, 1) := by decide +kernel
theorem dL_law_1073 : decode cL_law 1073 = .ok (.invokevirtual 186, 3) := by decide +kernel
theorem dL_law_1076 : decode cL_law 1076 = .ok (.pop, 1) := by decide +kernel
theorem dL_law_1077 : decode cL_law 1077 = .ok (.aload_n 2, 1) := by decide +kernel
theorem dL_law_1078 : decode cL_law 1078 = .ok (.invokevirtual 189, 3) := by decide +kernel
theorem dL_law_1081 : decode cL_law 1081 = .ok (.pop, 1) := by decide +kernel
theorem dL_law_1082 : decode cL_law 1082 = .ok (.goto 503, 3) := by decide +kernel
set_option maxHeartbeats 4000000 in
set_option maxRecDepth 100000 in
theorem arm_21 {p : Program} {l : Launch} {e : Env} {s : State} {m : MethodId} {below : List Frame} {meth : Method} {c : Code} {b N : Nat} {xs : Nat → Int32} {D : va_G} {K : Nat → ClassId} {sa : sT} {o i : Nat} {cells slots : Nat} {Q : State → Prop} (hls : l.stackTraces = false) (A : LwC p s m meth c b N xs) (hi : i + 6 ≤ N) {S S1 S2 : fS} {v v2 : Int32} (h1 : F_X6_fitting  S = some (v, S1)) (h2 : F_X7_fitting  S1 = some (v2, S2)) (hc : cells + 6 ≤ 601024) (hs : slots + 307 ≤ 7293033) (kk : LwK D K sa p l e s m below meth c b o i S2 (cells + 6) (slots + 307) Q 1585) : LwK D K sa p l e s m below meth c b o i S cells slots Q 1072 := by
  intro ad n L f H locs ls B hl
  obtain ⟨C, hX, hbl, hrt, hlk, hNm⟩ := A
  obtain ⟨w, hw, hn, hprobe, hmo, hno, g0, hfo⟩ := B
  have hx := C.1
  have hb := C.2.1
  refine lv_aload_n hx hb dL_law_1072 rfl (lv_at hl 1 rfl) ?_
  refine u_callV (n := 0) C w hw (isn_f rfl rfl (by decide)) rfl rfl rfl (c_X6_fitting l D K _ sa _ L _ ad (isn n) (fun _ _ h => h) S hw hn  v S1 h1) gw_475 gw_472 gw_473 gw_474 gw_1 ⟨by decide, by decide, by decide +kernel⟩ rfl rfl ⟨Nat.le_of_ble_eq_true rfl, Nat.le_of_ble_eq_true rfl⟩ rfl hl.1 rfl (Nat.le_of_ble_eq_true rfl) dL_law_1073 ⟨by show cells + 0 ≤ 601024; omega, by show slots + 0 ≤ 7293033; omega⟩ (fun v9 u H locs hp w => ?_)
  obtain ⟨f2, rfl, rfl, hw2, hn2, hk1⟩ := hp
  have hfo := (hk1 o hmo hno).trans hfo
  have hw := hw2
  have hn := hn2
  clear hw2 hn2
  generalize f2 = f at w hw hfo
  refine lv_pop hx hb dL_law_1076 rfl ?_
  refine lv_aload_n hx hb dL_law_1077 rfl (lv_at hl 2 rfl) ?_
  refine u_callV (n := 0) C w hw (isn_f rfl rfl (by decide)) rfl rfl rfl (c_X7_fitting l D K _ sa _ L _ ad (isn n) (fun _ _ h => h) S1 hw hn  v2 S2 h2) gw_1605 gw_1602 gw_1603 gw_1604 gw_8 ⟨by decide, by decide, by decide +kernel⟩ rfl rfl ⟨Nat.le_of_ble_eq_true rfl, Nat.le_of_ble_eq_true rfl⟩ rfl hl.1 rfl (Nat.le_of_ble_eq_true rfl) dL_law_1078 ⟨by show cells + 0 + 0 ≤ 601024; omega, by show slots + 0 + 0 ≤ 7293033; omega⟩ (fun v9 u H locs hp w => ?_)
  obtain ⟨f2, rfl, rfl, hw2, hn2, hk1⟩ := hp
  have hfo := (hk1 o hmo hno).trans hfo
  have hw := hw2
  have hn := hn2
  clear hw2 hn2
  generalize f2 = f at w hw hfo
  refine lv_pop hx hb dL_law_1081 rfl ?_
  refine lv_goto (tgt := 1585) hx hb dL_law_1082 (by decide) ?_
  exact W.widen (k := cells + 6) (n := slots + 307) (by omega) (by omega) (kk ad n L f H locs ls ⟨w, hw, hn, hprobe, hmo, hno, _, hfo⟩ (lv_sub hl [0, 1, 2, 3, 4] rfl))
theorem dL_law_1085 : decode cL_law 1085 = .ok (.aload_n 1, 1) := by decide +kernel
theorem dL_law_1086 : decode cL_law 1086 = .ok (.aload_n 0, 1) := by decide +kernel
theorem dL_law_1087 : decode cL_law 1087 = .ok (.iload 4, 2) := by decide +kernel
theorem dL_law_1089 : decode cL_law 1089 = .ok (.iconst 1, 1) := by decide +kernel
theorem dL_law_1090 : decode cL_law 1090 = .ok (.iadd, 1) := by decide +kernel
theorem dL_law_1091 : decode cL_law 1091 = .ok (.iaload, 1) := by decide +kernel
theorem dL_law_1092 : decode cL_law 1092 = .ok (.aload_n 3, 1) := by decide +kernel
theorem dL_law_1093 : decode cL_law 1093 = .ok (.invokestatic 190, 3) := by decide +kernel
theorem dL_law_1096 : decode cL_law 1096 = .ok (.istore 5, 2) := by decide +kernel
theorem dL_law_1098 : decode cL_law 1098 = .ok (.aload_n 2, 1) := by decide +kernel
theorem dL_law_1099 : decode cL_law 1099 = .ok (.aload_n 0, 1) := by decide +kernel
theorem dL_law_1100 : decode cL_law 1100 = .ok (.iload 4, 2) := by decide +kernel
theorem dL_law_1102 : decode cL_law 1102 = .ok (.iconst 1, 1) := by decide +kernel
theorem dL_law_1103 : decode cL_law 1103 = .ok (.iadd, 1) := by decide +kernel
theorem dL_law_1104 : decode cL_law 1104 = .ok (.iaload, 1) := by decide +kernel
theorem dL_law_1105 : decode cL_law 1105 = .ok (.invokevirtual 192, 3) := by decide +kernel
theorem dL_law_1108 : decode cL_law 1108 = .ok (.istore 6, 2) := by decide +kernel
theorem dL_law_1110 : decode cL_law 1110 = .ok (.goto 475, 3) := by decide +kernel
set_option maxHeartbeats 4000000 in
set_option maxRecDepth 100000 in
theorem arm_22 {p : Program} {l : Launch} {e : Env} {s : State} {m : MethodId} {below : List Frame} {meth : Method} {c : Code} {b N : Nat} {xs : Nat → Int32} {D : va_G} {K : Nat → ClassId} {sa : sT} {o i : Nat} {cells slots : Nat} {Q : State → Prop} (hls : l.stackTraces = false) (A : LwC p s m meth c b N xs) (hi : i + 6 ≤ N) {S S1 S2 : fS} {ec : Nat} {v v2 : Int32} (hec : ec = 0 ∨ ec = 1) (h1 : F_X6_strange (xs (i + 1)) S = some ((ec, v), S1)) (h2 : F_X7_strange (xs (i + 1)) S1 = some (v2, S2)) (hc : cells + 6 ≤ 601024) (hs : slots + 307 ≤ 7293033) (kk : LwK D K sa p l e s m below meth c b o i S2 (cells + 6) (slots + 307) Q 1585) : LwK D K sa p l e s m below meth c b o i S cells slots Q 1085 := by
  intro ad n L f H locs ls B hl
  obtain ⟨C, hX, hbl, hrt, hlk, hNm⟩ := A
  obtain ⟨w, hw, hn, hprobe, hmo, hno, g0, hfo⟩ := B
  have hx := C.1
  have hb := C.2.1
  refine lv_aload_n hx hb dL_law_1085 rfl (lv_at hl 1 rfl) ?_
  refine lv_aload_n hx hb dL_law_1086 rfl (lv_at hl 0 rfl) ?_
  refine lv_iload hx hb dL_law_1087 (lv_at hl 4 rfl) ?_
  refine lv_iconst (v := 1) hx hb dL_law_1089 (by decide) ?_
  refine lv_iadd hx hb dL_law_1090 ?_
  rw [show nI i + (1 : Int32) = nI (i + 1) from nI_ad2 i 1]
  refine t_sld hx hb hX hbl w (j := i + 1) (nI_clamp (by omega)) (vp_in_nI (by omega) (by omega)) dL_law_1091 ?_
  refine lv_aload_n hx hb dL_law_1092 rfl (lv_at hl 3 rfl) ?_
  refine t_callH (n := 3) C w (c_L_strange l hls D K _ sa _ L f ad n S hw hn hprobe (xs (i + 1)) o hmo hno g0 hfo ec hec v S1 h1) gw_1044 gw_1042 gw_1043 gw_0 ⟨by decide, by decide, by decide +kernel⟩ rfl rfl ⟨Nat.le_of_ble_eq_true rfl, Nat.le_of_ble_eq_true rfl⟩ rfl hl.1 rfl (Nat.le_of_ble_eq_true rfl) dL_law_1093 ⟨by show cells + 1 ≤ 601024; omega, by show slots + 6 ≤ 7293033; omega⟩ (fun v9 u H locs hp w => ?_)
  obtain ⟨ad2, L2, f2, g1, rfl, rfl, hw2, hG2, hno2, hfo2, hgv⟩ := hp
  obtain ⟨ad, n, L, f, g0, w, hw, hn, hprobe, hmo, hno, hfo, hl⟩ : ∃ (ad3 : Nat → Nat → Nat) (n3 : Nat × Nat) (L3 : List Nat) (f3 : Nat → va_E) (g3 : Nat → Int64), Wh D K s.heap.size sa s H locs L3 f3 ∧ PW K ad3 (isn n3) S1 L3 f3 ∧ S1.2.2.1 = n3 ∧ 0 < n3.1 ∧ o ∈ L3 ∧ (∀ a i : Nat, isn n3 a i → ad3 a i ≠ o) ∧ f3 o = .inl (K 6, 1, .inr (.inl g3)) ∧ lv_has ls 7 [(0, .ref b), (1, .ref (ad3 0 0)), (2, .ref (ad3 40 0)), (3, .ref o), (4, .int (nI i))] := ⟨ad2, S1.2.2.1, L2, f2, g1, w, hw2, rfl, (hG2.1 25 0 hprobe).1, (hG2.2 o hmo).1, hno2, hfo2, (by rw [(hG2.1 0 0 (isn_f rfl rfl (by decide))).2, (hG2.1 40 0 (isn_f rfl rfl (by decide))).2]; exact hl)⟩
  refine lv_istore (lv' := [(5, .int (if ec = 0 then 0 else 1)), (0, .ref b), (1, .ref (ad 0 0)), (2, .ref (ad 40 0)), (3, .ref o), (4, .int (nI i))]) hx hb dL_law_1096 hl (by decide) rfl (fun ls hl => ?_)
  refine lv_aload_n hx hb dL_law_1098 rfl (lv_at hl 3 rfl) ?_
  refine lv_aload_n hx hb dL_law_1099 rfl (lv_at hl 1 rfl) ?_
  refine lv_iload hx hb dL_law_1100 (lv_at hl 5 rfl) ?_
  refine lv_iconst (v := 1) hx hb dL_law_1102 (by decide) ?_
  refine lv_iadd hx hb dL_law_1103 ?_
  rw [show nI i + (1 : Int32) = nI (i + 1) from nI_ad2 i 1]
  refine t_sld hx hb hX hbl w (j := i + 1) (nI_clamp (by omega)) (vp_in_nI (by omega) (by omega)) dL_law_1104 ?_
  refine u_callV (n := 1) C w hw (isn_f rfl rfl (by decide)) rfl rfl rfl (c_X7_strange l D K _ sa _ L _ ad (isn n) (fun _ _ h => h) S1 hw hn (xs (i + 1)) v2 S2 h2) gw_1617 gw_1614 gw_1615 gw_1616 gw_8 ⟨by decide, by decide, by decide +kernel⟩ rfl rfl ⟨Nat.le_of_ble_eq_true rfl, Nat.le_of_ble_eq_true rfl⟩ rfl hl.1 rfl (Nat.le_of_ble_eq_true rfl) dL_law_1105 ⟨by show cells + 1 + 0 ≤ 601024; omega, by show slots + 6 + 0 ≤ 7293033; omega⟩ (fun v9 u H locs hp w => ?_)
  obtain ⟨f2, rfl, rfl, hw2, hn2, hk1⟩ := hp
  have hfo := (hk1 o hmo hno).trans hfo
  have hw := hw2
  have hn := hn2
  clear hw2 hn2
  generalize f2 = f at w hw hfo
  refine lv_istore (lv' := [(6, .int v2), (5, .int (if ec = 0 then 0 else 1)), (0, .ref b), (1, .ref (ad 0 0)), (2, .ref (ad 40 0)), (3, .ref o), (4, .int (nI i))]) hx hb dL_law_1108 hl (by decide) rfl (fun ls hl => ?_)
  refine lv_goto (tgt := 1585) hx hb dL_law_1110 (by decide) ?_
  exact W.widen (k := cells + 6) (n := slots + 307) (by omega) (by omega) (kk ad n L f H locs ls ⟨w, hw, hn, hprobe, hmo, hno, _, hfo⟩ (lv_sub hl [2, 3, 4, 5, 6] rfl))
theorem dL_law_1113 : decode cL_law 1113 = .ok (.aload_n 1, 1) := by decide +kernel
theorem dL_law_1114 : decode cL_law 1114 = .ok (.aload_n 0, 1) := by decide +kernel
theorem dL_law_1115 : decode cL_law 1115 = .ok (.iload 4, 2) := by decide +kernel
theorem dL_law_1117 : decode cL_law 1117 = .ok (.iconst 1, 1) := by decide +kernel
theorem dL_law_1118 : decode cL_law 1118 = .ok (.iadd, 1) := by decide +kernel
theorem dL_law_1119 : decode cL_law 1119 = .ok (.iaload, 1) := by decide +kernel
theorem dL_law_1120 : decode cL_law 1120 = .ok (.aload_n 3, 1) := by decide +kernel
theorem dL_law_1121 : decode cL_law 1121 = .ok (.invokestatic 193, 3) := by decide +kernel
theorem dL_law_1124 : decode cL_law 1124 = .ok (.istore 5, 2) := by decide +kernel
theorem dL_law_1126 : decode cL_law 1126 = .ok (.aload_n 2, 1) := by decide +kernel
theorem dL_law_1127 : decode cL_law 1127 = .ok (.aload_n 0, 1) := by decide +kernel
theorem dL_law_1128 : decode cL_law 1128 = .ok (.iload 4, 2) := by decide +kernel
theorem dL_law_1130 : decode cL_law 1130 = .ok (.iconst 1, 1) := by decide +kernel
theorem dL_law_1131 : decode cL_law 1131 = .ok (.iadd, 1) := by decide +kernel
theorem dL_law_1132 : decode cL_law 1132 = .ok (.iaload, 1) := by decide +kernel
theorem dL_law_1133 : decode cL_law 1133 = .ok (.invokevirtual 195, 3) := by decide +kernel
theorem dL_law_1136 : decode cL_law 1136 = .ok (.istore 6, 2) := by decide +kernel
theorem dL_law_1138 : decode cL_law 1138 = .ok (.goto 447, 3) := by decide +kernel
set_option maxHeartbeats 4000000 in
set_option maxRecDepth 100000 in
theorem arm_23 {p : Program} {l : Launch} {e : Env} {s : State} {m : MethodId} {below : List Frame} {meth : Method} {c : Code} {b N : Nat} {xs : Nat → Int32} {D : va_G} {K : Nat → ClassId} {sa : sT} {o i : Nat} {cells slots : Nat} {Q : State → Prop} (hls : l.stackTraces = false) (A : LwC p s m meth c b N xs) (hi : i + 6 ≤ N) {S S1 S2 : fS} {ec : Nat} {v v2 : Int32} (hec : ec = 0 ∨ ec = 2) (h1 : F_X6_guess (xs (i + 1)) S = some ((ec, v), S1)) (h2 : F_X7_guess (xs (i + 1)) S1 = some (v2, S2)) (hc : cells + 6 ≤ 601024) (hs : slots + 307 ≤ 7293033) (kk : LwK D K sa p l e s m below meth c b o i S2 (cells + 6) (slots + 307) Q 1585) : LwK D K sa p l e s m below meth c b o i S cells slots Q 1113 := by
  intro ad n L f H locs ls B hl
  obtain ⟨C, hX, hbl, hrt, hlk, hNm⟩ := A
  obtain ⟨w, hw, hn, hprobe, hmo, hno, g0, hfo⟩ := B
  have hx := C.1
  have hb := C.2.1
  refine lv_aload_n hx hb dL_law_1113 rfl (lv_at hl 1 rfl) ?_
  refine lv_aload_n hx hb dL_law_1114 rfl (lv_at hl 0 rfl) ?_
  refine lv_iload hx hb dL_law_1115 (lv_at hl 4 rfl) ?_
  refine lv_iconst (v := 1) hx hb dL_law_1117 (by decide) ?_
  refine lv_iadd hx hb dL_law_1118 ?_
  rw [show nI i + (1 : Int32) = nI (i + 1) from nI_ad2 i 1]
  refine t_sld hx hb hX hbl w (j := i + 1) (nI_clamp (by omega)) (vp_in_nI (by omega) (by omega)) dL_law_1119 ?_
  refine lv_aload_n hx hb dL_law_1120 rfl (lv_at hl 3 rfl) ?_
  refine t_callH (n := 3) C w (c_L_guess l hls D K _ sa _ L f ad n S hw hn hprobe (xs (i + 1)) o hmo hno g0 hfo ec hec v S1 h1) gw_1051 gw_1049 gw_1050 gw_0 ⟨by decide, by decide, by decide +kernel⟩ rfl rfl ⟨Nat.le_of_ble_eq_true rfl, Nat.le_of_ble_eq_true rfl⟩ rfl hl.1 rfl (Nat.le_of_ble_eq_true rfl) dL_law_1121 ⟨by show cells + 1 ≤ 601024; omega, by show slots + 6 ≤ 7293033; omega⟩ (fun v9 u H locs hp w => ?_)
  obtain ⟨ad2, L2, f2, g1, rfl, rfl, hw2, hG2, hno2, hfo2, hgv⟩ := hp
  obtain ⟨ad, n, L, f, g0, w, hw, hn, hprobe, hmo, hno, hfo, hl⟩ : ∃ (ad3 : Nat → Nat → Nat) (n3 : Nat × Nat) (L3 : List Nat) (f3 : Nat → va_E) (g3 : Nat → Int64), Wh D K s.heap.size sa s H locs L3 f3 ∧ PW K ad3 (isn n3) S1 L3 f3 ∧ S1.2.2.1 = n3 ∧ 0 < n3.1 ∧ o ∈ L3 ∧ (∀ a i : Nat, isn n3 a i → ad3 a i ≠ o) ∧ f3 o = .inl (K 6, 1, .inr (.inl g3)) ∧ lv_has ls 7 [(0, .ref b), (1, .ref (ad3 0 0)), (2, .ref (ad3 40 0)), (3, .ref o), (4, .int (nI i))] := ⟨ad2, S1.2.2.1, L2, f2, g1, w, hw2, rfl, (hG2.1 25 0 hprobe).1, (hG2.2 o hmo).1, hno2, hfo2, (by rw [(hG2.1 0 0 (isn_f rfl rfl (by decide))).2, (hG2.1 40 0 (isn_f rfl rfl (by decide))).2]; exact hl)⟩
  refine lv_istore (lv' := [(5, .int (if ec = 0 then 0 else 1)), (0, .ref b), (1, .ref (ad 0 0)), (2, .ref (ad 40 0)), (3, .ref o), (4, .int (nI i))]) hx hb dL_law_1124 hl (by decide) rfl (fun ls hl => ?_)
  refine lv_aload_n hx hb dL_law_1126 rfl (lv_at hl 3 rfl) ?_
  refine lv_aload_n hx hb dL_law_1127 rfl (lv_at hl 1 rfl) ?_
  refine lv_iload hx hb dL_law_1128 (lv_at hl 5 rfl) ?_
  refine lv_iconst (v := 1) hx hb dL_law_1130 (by decide) ?_
  refine lv_iadd hx hb dL_law_1131 ?_
  rw [show nI i + (1 : Int32) = nI (i + 1) from nI_ad2 i 1]
  refine t_sld hx hb hX hbl w (j := i + 1) (nI_clamp (by omega)) (vp_in_nI (by omega) (by omega)) dL_law_1132 ?_
  refine u_callV (n := 1) C w hw (isn_f rfl rfl (by decide)) rfl rfl rfl (c_X7_guess l D K _ sa _ L _ ad (isn n) (fun _ _ h => h) S1 hw hn (xs (i + 1)) v2 S2 h2) gw_1621 gw_1618 gw_1619 gw_1620 gw_8 ⟨by decide, by decide, by decide +kernel⟩ rfl rfl ⟨Nat.le_of_ble_eq_true rfl, Nat.le_of_ble_eq_true rfl⟩ rfl hl.1 rfl (Nat.le_of_ble_eq_true rfl) dL_law_1133 ⟨by show cells + 1 + 0 ≤ 601024; omega, by show slots + 6 + 0 ≤ 7293033; omega⟩ (fun v9 u H locs hp w => ?_)
  obtain ⟨f2, rfl, rfl, hw2, hn2, hk1⟩ := hp
  have hfo := (hk1 o hmo hno).trans hfo
  have hw := hw2
  have hn := hn2
  clear hw2 hn2
  generalize f2 = f at w hw hfo
  refine lv_istore (lv' := [(6, .int v2), (5, .int (if ec = 0 then 0 else 1)), (0, .ref b), (1, .ref (ad 0 0)), (2, .ref (ad 40 0)), (3, .ref o), (4, .int (nI i))]) hx hb dL_law_1136 hl (by decide) rfl (fun ls hl => ?_)
  refine lv_goto (tgt := 1585) hx hb dL_law_1138 (by decide) ?_
  exact W.widen (k := cells + 6) (n := slots + 307) (by omega) (by omega) (kk ad n L f H locs ls ⟨w, hw, hn, hprobe, hmo, hno, _, hfo⟩ (lv_sub hl [2, 3, 4, 5, 6] rfl))
theorem dL_law_1141 : decode cL_law 1141 = .ok (.aload_n 1, 1) := by decide +kernel
theorem dL_law_1142 : decode cL_law 1142 = .ok (.invokevirtual 196, 3) := by decide +kernel
theorem dL_law_1145 : decode cL_law 1145 = .ok (.pop, 1) := by decide +kernel
theorem dL_law_1146 : decode cL_law 1146 = .ok (.aload_n 2, 1) := by decide +kernel
theorem dL_law_1147 : decode cL_law 1147 = .ok (.invokevirtual 199, 3) := by decide +kernel
theorem dL_law_1150 : decode cL_law 1150 = .ok (.pop, 1) := by decide +kernel
theorem dL_law_1151 : decode cL_law 1151 = .ok (.goto 434, 3) := by decide +kernel
set_option maxHeartbeats 4000000 in
set_option maxRecDepth 100000 in
theorem arm_24 {p : Program} {l : Launch} {e : Env} {s : State} {m : MethodId} {below : List Frame} {meth : Method} {c : Code} {b N : Nat} {xs : Nat → Int32} {D : va_G} {K : Nat → ClassId} {sa : sT} {o i : Nat} {cells slots : Nat} {Q : State → Prop} (hls : l.stackTraces = false) (A : LwC p s m meth c b N xs) (hi : i + 6 ≤ N) {S S1 S2 : fS} {v v2 : Int32} (h1 : F_X6_refill  S = some (v, S1)) (h2 : F_X7_refill  S1 = some (v2, S2)) (hc : cells + 6 ≤ 601024) (hs : slots + 307 ≤ 7293033) (kk : LwK D K sa p l e s m below meth c b o i S2 (cells + 6) (slots + 307) Q 1585) : LwK D K sa p l e s m below meth c b o i S cells slots Q 1141 := by
  intro ad n L f H locs ls B hl
  obtain ⟨C, hX, hbl, hrt, hlk, hNm⟩ := A
  obtain ⟨w, hw, hn, hprobe, hmo, hno, g0, hfo⟩ := B
  have hx := C.1
  have hb := C.2.1
  refine lv_aload_n hx hb dL_law_1141 rfl (lv_at hl 1 rfl) ?_
  refine u_callV (n := 0) C w hw (isn_f rfl rfl (by decide)) rfl rfl rfl (c_X6_refill l D K _ sa _ L _ ad (isn n) (fun _ _ h => h) S hw hn  v S1 h1) gw_506 gw_503 gw_504 gw_505 gw_1 ⟨by decide, by decide, by decide +kernel⟩ rfl rfl ⟨Nat.le_of_ble_eq_true rfl, Nat.le_of_ble_eq_true rfl⟩ rfl hl.1 rfl (Nat.le_of_ble_eq_true rfl) dL_law_1142 ⟨by show cells + 0 ≤ 601024; omega, by show slots + 0 ≤ 7293033; omega⟩ (fun v9 u H locs hp w => ?_)
  obtain ⟨f2, rfl, rfl, hw2, hn2, hk1⟩ := hp
  have hfo := (hk1 o hmo hno).trans hfo
  have hw := hw2
  have hn := hn2
  clear hw2 hn2
  generalize f2 = f at w hw hfo
  refine lv_pop hx hb dL_law_1145 rfl ?_
  refine lv_aload_n hx hb dL_law_1146 rfl (lv_at hl 2 rfl) ?_
  refine u_callV (n := 0) C w hw (isn_f rfl rfl (by decide)) rfl rfl rfl (c_X7_refill l D K _ sa _ L _ ad (isn n) (fun _ _ h => h) S1 hw hn  v2 S2 h2) gw_1625 gw_1622 gw_1623 gw_1624 gw_8 ⟨by decide, by decide, by decide +kernel⟩ rfl rfl ⟨Nat.le_of_ble_eq_true rfl, Nat.le_of_ble_eq_true rfl⟩ rfl hl.1 rfl (Nat.le_of_ble_eq_true rfl) dL_law_1147 ⟨by show cells + 0 + 0 ≤ 601024; omega, by show slots + 0 + 0 ≤ 7293033; omega⟩ (fun v9 u H locs hp w => ?_)
  obtain ⟨f2, rfl, rfl, hw2, hn2, hk1⟩ := hp
  have hfo := (hk1 o hmo hno).trans hfo
  have hw := hw2
  have hn := hn2
  clear hw2 hn2
  generalize f2 = f at w hw hfo
  refine lv_pop hx hb dL_law_1150 rfl ?_
  refine lv_goto (tgt := 1585) hx hb dL_law_1151 (by decide) ?_
  exact W.widen (k := cells + 6) (n := slots + 307) (by omega) (by omega) (kk ad n L f H locs ls ⟨w, hw, hn, hprobe, hmo, hno, _, hfo⟩ (lv_sub hl [0, 1, 2, 3, 4] rfl))
theorem dL_law_1154 : decode cL_law 1154 = .ok (.aload_n 1, 1) := by decide +kernel
theorem dL_law_1155 : decode cL_law 1155 = .ok (.aload_n 0, 1) := by decide +kernel
theorem dL_law_1156 : decode cL_law 1156 = .ok (.iload 4, 2) := by decide +kernel
theorem dL_law_1158 : decode cL_law 1158 = .ok (.iconst 1, 1) := by decide +kernel
theorem dL_law_1159 : decode cL_law 1159 = .ok (.iadd, 1) := by decide +kernel
theorem dL_law_1160 : decode cL_law 1160 = .ok (.iaload, 1) := by decide +kernel
theorem dL_law_1161 : decode cL_law 1161 = .ok (.aload_n 0, 1) := by decide +kernel
theorem dL_law_1162 : decode cL_law 1162 = .ok (.iload 4, 2) := by decide +kernel
theorem dL_law_1164 : decode cL_law 1164 = .ok (.iconst 2, 1) := by decide +kernel
theorem dL_law_1165 : decode cL_law 1165 = .ok (.iadd, 1) := by decide +kernel
theorem dL_law_1166 : decode cL_law 1166 = .ok (.iaload, 1) := by decide +kernel
theorem dL_law_1167 : decode cL_law 1167 = .ok (.aload_n 0, 1) := by decide +kernel
theorem dL_law_1168 : decode cL_law 1168 = .ok (.iload 4, 2) := by decide +kernel
theorem dL_law_1170 : decode cL_law 1170 = .ok (.iconst 3, 1) := by decide +kernel
theorem dL_law_1171 : decode cL_law 1171 = .ok (.iadd, 1) := by decide +kernel
theorem dL_law_1172 : decode cL_law 1172 = .ok (.iaload, 1) := by decide +kernel
theorem dL_law_1173 : decode cL_law 1173 = .ok (.aload_n 3, 1) := by decide +kernel
theorem dL_law_1174 : decode cL_law 1174 = .ok (.invokestatic 200, 3) := by decide +kernel
theorem dL_law_1177 : decode cL_law 1177 = .ok (.istore 5, 2) := by decide +kernel
theorem dL_law_1179 : decode cL_law 1179 = .ok (.aload_n 2, 1) := by decide +kernel
theorem dL_law_1180 : decode cL_law 1180 = .ok (.aload_n 0, 1) := by decide +kernel
theorem dL_law_1181 : decode cL_law 1181 = .ok (.iload 4, 2) := by decide +kernel
theorem dL_law_1183 : decode cL_law 1183 = .ok (.iconst 1, 1) := by decide +kernel
theorem dL_law_1184 : decode cL_law 1184 = .ok (.iadd, 1) := by decide +kernel
theorem dL_law_1185 : decode cL_law 1185 = .ok (.iaload, 1) := by decide +kernel
theorem dL_law_1186 : decode cL_law 1186 = .ok (.aload_n 0, 1) := by decide +kernel
theorem dL_law_1187 : decode cL_law 1187 = .ok (.iload 4, 2) := by decide +kernel
theorem dL_law_1189 : decode cL_law 1189 = .ok (.iconst 2, 1) := by decide +kernel
theorem dL_law_1190 : decode cL_law 1190 = .ok (.iadd, 1) := by decide +kernel
theorem dL_law_1191 : decode cL_law 1191 = .ok (.iaload, 1) := by decide +kernel
theorem dL_law_1192 : decode cL_law 1192 = .ok (.aload_n 0, 1) := by decide +kernel
theorem dL_law_1193 : decode cL_law 1193 = .ok (.iload 4, 2) := by decide +kernel
theorem dL_law_1195 : decode cL_law 1195 = .ok (.iconst 3, 1) := by decide +kernel
theorem dL_law_1196 : decode cL_law 1196 = .ok (.iadd, 1) := by decide +kernel
theorem dL_law_1197 : decode cL_law 1197 = .ok (.iaload, 1) := by decide +kernel
theorem dL_law_1198 : decode cL_law 1198 = .ok (.invokevirtual 202, 3) := by decide +kernel
theorem dL_law_1201 : decode cL_law 1201 = .ok (.istore 6, 2) := by decide +kernel
theorem dL_law_1203 : decode cL_law 1203 = .ok (.goto 382, 3) := by decide +kernel
set_option maxHeartbeats 4000000 in
set_option maxRecDepth 100000 in
theorem arm_25 {p : Program} {l : Launch} {e : Env} {s : State} {m : MethodId} {below : List Frame} {meth : Method} {c : Code} {b N : Nat} {xs : Nat → Int32} {D : va_G} {K : Nat → ClassId} {sa : sT} {o i : Nat} {cells slots : Nat} {Q : State → Prop} (hls : l.stackTraces = false) (A : LwC p s m meth c b N xs) (hi : i + 6 ≤ N) {S S1 S2 : fS} {ec : Nat} {v v2 : Int32} (hec : ec = 0 ∨ ec = 1 ∨ ec = 2) (h1 : F_X6_worth (xs (i + 1)) (xs (i + 2)) (xs (i + 3)) S = some ((ec, v), S1)) (h2 : F_X7_worth (xs (i + 1)) (xs (i + 2)) (xs (i + 3)) S1 = some (v2, S2)) (hc : cells + 6 ≤ 601024) (hs : slots + 307 ≤ 7293033) (kk : LwK D K sa p l e s m below meth c b o i S2 (cells + 6) (slots + 307) Q 1585) : LwK D K sa p l e s m below meth c b o i S cells slots Q 1154 := by
  intro ad n L f H locs ls B hl
  obtain ⟨C, hX, hbl, hrt, hlk, hNm⟩ := A
  obtain ⟨w, hw, hn, hprobe, hmo, hno, g0, hfo⟩ := B
  have hx := C.1
  have hb := C.2.1
  refine lv_aload_n hx hb dL_law_1154 rfl (lv_at hl 1 rfl) ?_
  refine lv_aload_n hx hb dL_law_1155 rfl (lv_at hl 0 rfl) ?_
  refine lv_iload hx hb dL_law_1156 (lv_at hl 4 rfl) ?_
  refine lv_iconst (v := 1) hx hb dL_law_1158 (by decide) ?_
  refine lv_iadd hx hb dL_law_1159 ?_
  rw [show nI i + (1 : Int32) = nI (i + 1) from nI_ad2 i 1]
  refine t_sld hx hb hX hbl w (j := i + 1) (nI_clamp (by omega)) (vp_in_nI (by omega) (by omega)) dL_law_1160 ?_
  refine lv_aload_n hx hb dL_law_1161 rfl (lv_at hl 0 rfl) ?_
  refine lv_iload hx hb dL_law_1162 (lv_at hl 4 rfl) ?_
  refine lv_iconst (v := 2) hx hb dL_law_1164 (by decide) ?_
  refine lv_iadd hx hb dL_law_1165 ?_
  rw [show nI i + (2 : Int32) = nI (i + 2) from nI_ad2 i 2]
  refine t_sld hx hb hX hbl w (j := i + 2) (nI_clamp (by omega)) (vp_in_nI (by omega) (by omega)) dL_law_1166 ?_
  refine lv_aload_n hx hb dL_law_1167 rfl (lv_at hl 0 rfl) ?_
  refine lv_iload hx hb dL_law_1168 (lv_at hl 4 rfl) ?_
  refine lv_iconst (v := 3) hx hb dL_law_1170 (by decide) ?_
  refine lv_iadd hx hb dL_law_1171 ?_
  rw [show nI i + (3 : Int32) = nI (i + 3) from nI_ad2 i 3]
  refine t_sld hx hb hX hbl w (j := i + 3) (nI_clamp (by omega)) (vp_in_nI (by omega) (by omega)) dL_law_1172 ?_
  refine lv_aload_n hx hb dL_law_1173 rfl (lv_at hl 3 rfl) ?_
  refine t_callH (n := 5) C w (c_L_worth l hls D K _ sa _ L f ad n S hw hn hprobe (xs (i + 1)) (xs (i + 2)) (xs (i + 3)) o hmo hno g0 hfo ec hec v S1 h1) gw_1058 gw_1056 gw_1057 gw_0 ⟨by decide, by decide, by decide +kernel⟩ rfl rfl ⟨Nat.le_of_ble_eq_true rfl, Nat.le_of_ble_eq_true rfl⟩ rfl hl.1 rfl (Nat.le_of_ble_eq_true rfl) dL_law_1174 ⟨by show cells + 3 ≤ 601024; omega, by show slots + 18 ≤ 7293033; omega⟩ (fun v9 u H locs hp w => ?_)
  obtain ⟨ad2, L2, f2, g1, rfl, rfl, hw2, hG2, hno2, hfo2, hgv⟩ := hp
  obtain ⟨ad, n, L, f, g0, w, hw, hn, hprobe, hmo, hno, hfo, hl⟩ : ∃ (ad3 : Nat → Nat → Nat) (n3 : Nat × Nat) (L3 : List Nat) (f3 : Nat → va_E) (g3 : Nat → Int64), Wh D K s.heap.size sa s H locs L3 f3 ∧ PW K ad3 (isn n3) S1 L3 f3 ∧ S1.2.2.1 = n3 ∧ 0 < n3.1 ∧ o ∈ L3 ∧ (∀ a i : Nat, isn n3 a i → ad3 a i ≠ o) ∧ f3 o = .inl (K 6, 1, .inr (.inl g3)) ∧ lv_has ls 7 [(0, .ref b), (1, .ref (ad3 0 0)), (2, .ref (ad3 40 0)), (3, .ref o), (4, .int (nI i))] := ⟨ad2, S1.2.2.1, L2, f2, g1, w, hw2, rfl, (hG2.1 25 0 hprobe).1, (hG2.2 o hmo).1, hno2, hfo2, (by rw [(hG2.1 0 0 (isn_f rfl rfl (by decide))).2, (hG2.1 40 0 (isn_f rfl rfl (by decide))).2]; exact hl)⟩
  refine lv_istore (lv' := [(5, .int (if ec = 0 then 0 else if ec = 1 then 2 else 1)), (0, .ref b), (1, .ref (ad 0 0)), (2, .ref (ad 40 0)), (3, .ref o), (4, .int (nI i))]) hx hb dL_law_1177 hl (by decide) rfl (fun ls hl => ?_)
  refine lv_aload_n hx hb dL_law_1179 rfl (lv_at hl 3 rfl) ?_
  refine lv_aload_n hx hb dL_law_1180 rfl (lv_at hl 1 rfl) ?_
  refine lv_iload hx hb dL_law_1181 (lv_at hl 5 rfl) ?_
  refine lv_iconst (v := 1) hx hb dL_law_1183 (by decide) ?_
  refine lv_iadd hx hb dL_law_1184 ?_
  rw [show nI i + (1 : Int32) = nI (i + 1) from nI_ad2 i 1]
  refine t_sld hx hb hX hbl w (j := i + 1) (nI_clamp (by omega)) (vp_in_nI (by omega) (by omega)) dL_law_1185 ?_
  refine lv_aload_n hx hb dL_law_1186 rfl (lv_at hl 1 rfl) ?_
  refine lv_iload hx hb dL_law_1187 (lv_at hl 5 rfl) ?_
  refine lv_iconst (v := 2) hx hb dL_law_1189 (by decide) ?_
  refine lv_iadd hx hb dL_law_1190 ?_
  rw [show nI i + (2 : Int32) = nI (i + 2) from nI_ad2 i 2]
  refine t_sld hx hb hX hbl w (j := i + 2) (nI_clamp (by omega)) (vp_in_nI (by omega) (by omega)) dL_law_1191 ?_
  refine lv_aload_n hx hb dL_law_1192 rfl (lv_at hl 1 rfl) ?_
  refine lv_iload hx hb dL_law_1193 (lv_at hl 5 rfl) ?_
  refine lv_iconst (v := 3) hx hb dL_law_1195 (by decide) ?_
  refine lv_iadd hx hb dL_law_1196 ?_
  rw [show nI i + (3 : Int32) = nI (i + 3) from nI_ad2 i 3]
  refine t_sld hx hb hX hbl w (j := i + 3) (nI_clamp (by omega)) (vp_in_nI (by omega) (by omega)) dL_law_1197 ?_
  refine u_callV (n := 3) C w hw (isn_f rfl rfl (by decide)) rfl rfl rfl (c_X7_worth l D K _ sa _ L _ ad (isn n) (fun _ _ h => h) S1 hw hn (xs (i + 1)) (xs (i + 2)) (xs (i + 3)) v2 S2 h2) gw_1629 gw_1626 gw_1627 gw_1628 gw_8 ⟨by decide, by decide, by decide +kernel⟩ rfl rfl ⟨Nat.le_of_ble_eq_true rfl, Nat.le_of_ble_eq_true rfl⟩ rfl hl.1 rfl (Nat.le_of_ble_eq_true rfl) dL_law_1198 ⟨by show cells + 3 + 0 ≤ 601024; omega, by show slots + 18 + 0 ≤ 7293033; omega⟩ (fun v9 u H locs hp w => ?_)
  obtain ⟨f2, rfl, rfl, hw2, hn2, hk1⟩ := hp
  have hfo := (hk1 o hmo hno).trans hfo
  have hw := hw2
  have hn := hn2
  clear hw2 hn2
  generalize f2 = f at w hw hfo
  refine lv_istore (lv' := [(6, .int v2), (5, .int (if ec = 0 then 0 else if ec = 1 then 2 else 1)), (0, .ref b), (1, .ref (ad 0 0)), (2, .ref (ad 40 0)), (3, .ref o), (4, .int (nI i))]) hx hb dL_law_1201 hl (by decide) rfl (fun ls hl => ?_)
  refine lv_goto (tgt := 1585) hx hb dL_law_1203 (by decide) ?_
  exact W.widen (k := cells + 6) (n := slots + 307) (by omega) (by omega) (kk ad n L f H locs ls ⟨w, hw, hn, hprobe, hmo, hno, _, hfo⟩ (lv_sub hl [2, 3, 4, 5, 6] rfl))
theorem dL_law_1206 : decode cL_law 1206 = .ok (.aload_n 1, 1) := by decide +kernel
theorem dL_law_1207 : decode cL_law 1207 = .ok (.aload_n 0, 1) := by decide +kernel
theorem dL_law_1208 : decode cL_law 1208 = .ok (.iload 4, 2) := by decide +kernel
theorem dL_law_1210 : decode cL_law 1210 = .ok (.iconst 1, 1) := by decide +kernel
theorem dL_law_1211 : decode cL_law 1211 = .ok (.iadd, 1) := by decide +kernel
theorem dL_law_1212 : decode cL_law 1212 = .ok (.iaload, 1) := by decide +kernel
theorem dL_law_1213 : decode cL_law 1213 = .ok (.aload_n 0, 1) := by decide +kernel
theorem dL_law_1214 : decode cL_law 1214 = .ok (.iload 4, 2) := by decide +kernel
theorem dL_law_1216 : decode cL_law 1216 = .ok (.iconst 2, 1) := by decide +kernel
theorem dL_law_1217 : decode cL_law 1217 = .ok (.iadd, 1) := by decide +kernel
theorem dL_law_1218 : decode cL_law 1218 = .ok (.iaload, 1) := by decide +kernel
theorem dL_law_1219 : decode cL_law 1219 = .ok (.aload_n 3, 1) := by decide +kernel
theorem dL_law_1220 : decode cL_law 1220 = .ok (.invokestatic 203, 3) := by decide +kernel
theorem dL_law_1223 : decode cL_law 1223 = .ok (.istore 5, 2) := by decide +kernel
theorem dL_law_1225 : decode cL_law 1225 = .ok (.aload_n 2, 1) := by decide +kernel
theorem dL_law_1226 : decode cL_law 1226 = .ok (.aload_n 0, 1) := by decide +kernel
theorem dL_law_1227 : decode cL_law 1227 = .ok (.iload 4, 2) := by decide +kernel
theorem dL_law_1229 : decode cL_law 1229 = .ok (.iconst 1, 1) := by decide +kernel
theorem dL_law_1230 : decode cL_law 1230 = .ok (.iadd, 1) := by decide +kernel
theorem dL_law_1231 : decode cL_law 1231 = .ok (.iaload, 1) := by decide +kernel
theorem dL_law_1232 : decode cL_law 1232 = .ok (.aload_n 0, 1) := by decide +kernel
theorem dL_law_1233 : decode cL_law 1233 = .ok (.iload 4, 2) := by decide +kernel
theorem dL_law_1235 : decode cL_law 1235 = .ok (.iconst 2, 1) := by decide +kernel
theorem dL_law_1236 : decode cL_law 1236 = .ok (.iadd, 1) := by decide +kernel
theorem dL_law_1237 : decode cL_law 1237 = .ok (.iaload, 1) := by decide +kernel
theorem dL_law_1238 : decode cL_law 1238 = .ok (.invokevirtual 205, 3) := by decide +kernel
theorem dL_law_1241 : decode cL_law 1241 = .ok (.istore 6, 2) := by decide +kernel
theorem dL_law_1243 : decode cL_law 1243 = .ok (.goto 342, 3) := by decide +kernel
set_option maxHeartbeats 4000000 in
set_option maxRecDepth 100000 in
theorem arm_26 {p : Program} {l : Launch} {e : Env} {s : State} {m : MethodId} {below : List Frame} {meth : Method} {c : Code} {b N : Nat} {xs : Nat → Int32} {D : va_G} {K : Nat → ClassId} {sa : sT} {o i : Nat} {cells slots : Nat} {Q : State → Prop} (hls : l.stackTraces = false) (A : LwC p s m meth c b N xs) (hi : i + 6 ≤ N) {S S1 S2 : fS} {ec : Nat} {v v2 : Int32} (hec : ec = 0 ∨ ec = 2) (h1 : F_X6_bide (xs (i + 1)) (xs (i + 2)) S = some ((ec, v), S1)) (h2 : F_X7_bide (xs (i + 1)) (xs (i + 2)) S1 = some (v2, S2)) (hc : cells + 6 ≤ 601024) (hs : slots + 307 ≤ 7293033) (kk : LwK D K sa p l e s m below meth c b o i S2 (cells + 6) (slots + 307) Q 1585) : LwK D K sa p l e s m below meth c b o i S cells slots Q 1206 := by
  intro ad n L f H locs ls B hl
  obtain ⟨C, hX, hbl, hrt, hlk, hNm⟩ := A
  obtain ⟨w, hw, hn, hprobe, hmo, hno, g0, hfo⟩ := B
  have hx := C.1
  have hb := C.2.1
  refine lv_aload_n hx hb dL_law_1206 rfl (lv_at hl 1 rfl) ?_
  refine lv_aload_n hx hb dL_law_1207 rfl (lv_at hl 0 rfl) ?_
  refine lv_iload hx hb dL_law_1208 (lv_at hl 4 rfl) ?_
  refine lv_iconst (v := 1) hx hb dL_law_1210 (by decide) ?_
  refine lv_iadd hx hb dL_law_1211 ?_
  rw [show nI i + (1 : Int32) = nI (i + 1) from nI_ad2 i 1]
  refine t_sld hx hb hX hbl w (j := i + 1) (nI_clamp (by omega)) (vp_in_nI (by omega) (by omega)) dL_law_1212 ?_
  refine lv_aload_n hx hb dL_law_1213 rfl (lv_at hl 0 rfl) ?_
  refine lv_iload hx hb dL_law_1214 (lv_at hl 4 rfl) ?_
  refine lv_iconst (v := 2) hx hb dL_law_1216 (by decide) ?_
  refine lv_iadd hx hb dL_law_1217 ?_
  rw [show nI i + (2 : Int32) = nI (i + 2) from nI_ad2 i 2]
  refine t_sld hx hb hX hbl w (j := i + 2) (nI_clamp (by omega)) (vp_in_nI (by omega) (by omega)) dL_law_1218 ?_
  refine lv_aload_n hx hb dL_law_1219 rfl (lv_at hl 3 rfl) ?_
  refine t_callH (n := 4) C w (c_L_bide l hls D K _ sa _ L f ad n S hw hn hprobe (xs (i + 1)) (xs (i + 2)) o hmo hno g0 hfo ec hec v S1 h1) gw_1078 gw_1076 gw_1077 gw_0 ⟨by decide, by decide, by decide +kernel⟩ rfl rfl ⟨Nat.le_of_ble_eq_true rfl, Nat.le_of_ble_eq_true rfl⟩ rfl hl.1 rfl (Nat.le_of_ble_eq_true rfl) dL_law_1220 ⟨by show cells + 2 ≤ 601024; omega, by show slots + 12 ≤ 7293033; omega⟩ (fun v9 u H locs hp w => ?_)
  obtain ⟨ad2, L2, f2, g1, rfl, rfl, hw2, hG2, hno2, hfo2, hgv⟩ := hp
  obtain ⟨ad, n, L, f, g0, w, hw, hn, hprobe, hmo, hno, hfo, hl⟩ : ∃ (ad3 : Nat → Nat → Nat) (n3 : Nat × Nat) (L3 : List Nat) (f3 : Nat → va_E) (g3 : Nat → Int64), Wh D K s.heap.size sa s H locs L3 f3 ∧ PW K ad3 (isn n3) S1 L3 f3 ∧ S1.2.2.1 = n3 ∧ 0 < n3.1 ∧ o ∈ L3 ∧ (∀ a i : Nat, isn n3 a i → ad3 a i ≠ o) ∧ f3 o = .inl (K 6, 1, .inr (.inl g3)) ∧ lv_has ls 7 [(0, .ref b), (1, .ref (ad3 0 0)), (2, .ref (ad3 40 0)), (3, .ref o), (4, .int (nI i))] := ⟨ad2, S1.2.2.1, L2, f2, g1, w, hw2, rfl, (hG2.1 25 0 hprobe).1, (hG2.2 o hmo).1, hno2, hfo2, (by rw [(hG2.1 0 0 (isn_f rfl rfl (by decide))).2, (hG2.1 40 0 (isn_f rfl rfl (by decide))).2]; exact hl)⟩
  refine lv_istore (lv' := [(5, .int (if ec = 0 then 0 else 1)), (0, .ref b), (1, .ref (ad 0 0)), (2, .ref (ad 40 0)), (3, .ref o), (4, .int (nI i))]) hx hb dL_law_1223 hl (by decide) rfl (fun ls hl => ?_)
  refine lv_aload_n hx hb dL_law_1225 rfl (lv_at hl 3 rfl) ?_
  refine lv_aload_n hx hb dL_law_1226 rfl (lv_at hl 1 rfl) ?_
  refine lv_iload hx hb dL_law_1227 (lv_at hl 5 rfl) ?_
  refine lv_iconst (v := 1) hx hb dL_law_1229 (by decide) ?_
  refine lv_iadd hx hb dL_law_1230 ?_
  rw [show nI i + (1 : Int32) = nI (i + 1) from nI_ad2 i 1]
  refine t_sld hx hb hX hbl w (j := i + 1) (nI_clamp (by omega)) (vp_in_nI (by omega) (by omega)) dL_law_1231 ?_
  refine lv_aload_n hx hb dL_law_1232 rfl (lv_at hl 1 rfl) ?_
  refine lv_iload hx hb dL_law_1233 (lv_at hl 5 rfl) ?_
  refine lv_iconst (v := 2) hx hb dL_law_1235 (by decide) ?_
  refine lv_iadd hx hb dL_law_1236 ?_
  rw [show nI i + (2 : Int32) = nI (i + 2) from nI_ad2 i 2]
  refine t_sld hx hb hX hbl w (j := i + 2) (nI_clamp (by omega)) (vp_in_nI (by omega) (by omega)) dL_law_1237 ?_
  refine u_callV (n := 2) C w hw (isn_f rfl rfl (by decide)) rfl rfl rfl (c_X7_bide l D K _ sa _ L _ ad (isn n) (fun _ _ h => h) S1 hw hn (xs (i + 1)) (xs (i + 2)) v2 S2 h2) gw_1645 gw_1642 gw_1643 gw_1644 gw_8 ⟨by decide, by decide, by decide +kernel⟩ rfl rfl ⟨Nat.le_of_ble_eq_true rfl, Nat.le_of_ble_eq_true rfl⟩ rfl hl.1 rfl (Nat.le_of_ble_eq_true rfl) dL_law_1238 ⟨by show cells + 2 + 0 ≤ 601024; omega, by show slots + 12 + 0 ≤ 7293033; omega⟩ (fun v9 u H locs hp w => ?_)
  obtain ⟨f2, rfl, rfl, hw2, hn2, hk1⟩ := hp
  have hfo := (hk1 o hmo hno).trans hfo
  have hw := hw2
  have hn := hn2
  clear hw2 hn2
  generalize f2 = f at w hw hfo
  refine lv_istore (lv' := [(6, .int v2), (5, .int (if ec = 0 then 0 else 1)), (0, .ref b), (1, .ref (ad 0 0)), (2, .ref (ad 40 0)), (3, .ref o), (4, .int (nI i))]) hx hb dL_law_1241 hl (by decide) rfl (fun ls hl => ?_)
  refine lv_goto (tgt := 1585) hx hb dL_law_1243 (by decide) ?_
  exact W.widen (k := cells + 6) (n := slots + 307) (by omega) (by omega) (kk ad n L f H locs ls ⟨w, hw, hn, hprobe, hmo, hno, _, hfo⟩ (lv_sub hl [2, 3, 4, 5, 6] rfl))
