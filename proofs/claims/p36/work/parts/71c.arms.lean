theorem dL_law_924 : decode cL_law 924 = .ok (.aload_n 1, 1) := by decide +kernel
theorem dL_law_925 : decode cL_law 925 = .ok (.aload_n 0, 1) := by decide +kernel
theorem dL_law_926 : decode cL_law 926 = .ok (.iload 4, 2) := by decide +kernel
theorem dL_law_928 : decode cL_law 928 = .ok (.iconst 1, 1) := by decide +kernel
theorem dL_law_929 : decode cL_law 929 = .ok (.iadd, 1) := by decide +kernel
theorem dL_law_930 : decode cL_law 930 = .ok (.iaload, 1) := by decide +kernel
theorem dL_law_931 : decode cL_law 931 = .ok (.aload_n 0, 1) := by decide +kernel
theorem dL_law_932 : decode cL_law 932 = .ok (.iload 4, 2) := by decide +kernel
theorem dL_law_934 : decode cL_law 934 = .ok (.iconst 2, 1) := by decide +kernel
theorem dL_law_935 : decode cL_law 935 = .ok (.iadd, 1) := by decide +kernel
theorem dL_law_936 : decode cL_law 936 = .ok (.iaload, 1) := by decide +kernel
theorem dL_law_937 : decode cL_law 937 = .ok (.aload_n 0, 1) := by decide +kernel
theorem dL_law_938 : decode cL_law 938 = .ok (.iload 4, 2) := by decide +kernel
theorem dL_law_940 : decode cL_law 940 = .ok (.iconst 3, 1) := by decide +kernel
theorem dL_law_941 : decode cL_law 941 = .ok (.iadd, 1) := by decide +kernel
theorem dL_law_942 : decode cL_law 942 = .ok (.iaload, 1) := by decide +kernel
theorem dL_law_943 : decode cL_law 943 = .ok (.aload_n 3, 1) := by decide +kernel
theorem dL_law_944 : decode cL_law 944 = .ok (.invokestatic 173, 3) := by decide +kernel
theorem dL_law_947 : decode cL_law 947 = .ok (.istore 5, 2) := by decide +kernel
theorem dL_law_949 : decode cL_law 949 = .ok (.aload_n 2, 1) := by decide +kernel
theorem dL_law_950 : decode cL_law 950 = .ok (.aload_n 0, 1) := by decide +kernel
theorem dL_law_951 : decode cL_law 951 = .ok (.iload 4, 2) := by decide +kernel
theorem dL_law_953 : decode cL_law 953 = .ok (.iconst 1, 1) := by decide +kernel
theorem dL_law_954 : decode cL_law 954 = .ok (.iadd, 1) := by decide +kernel
theorem dL_law_955 : decode cL_law 955 = .ok (.iaload, 1) := by decide +kernel
theorem dL_law_956 : decode cL_law 956 = .ok (.aload_n 0, 1) := by decide +kernel
theorem dL_law_957 : decode cL_law 957 = .ok (.iload 4, 2) := by decide +kernel
theorem dL_law_959 : decode cL_law 959 = .ok (.iconst 2, 1) := by decide +kernel
theorem dL_law_960 : decode cL_law 960 = .ok (.iadd, 1) := by decide +kernel
theorem dL_law_961 : decode cL_law 961 = .ok (.iaload, 1) := by decide +kernel
theorem dL_law_962 : decode cL_law 962 = .ok (.aload_n 0, 1) := by decide +kernel
theorem dL_law_963 : decode cL_law 963 = .ok (.iload 4, 2) := by decide +kernel
theorem dL_law_965 : decode cL_law 965 = .ok (.iconst 3, 1) := by decide +kernel
theorem dL_law_966 : decode cL_law 966 = .ok (.iadd, 1) := by decide +kernel
theorem dL_law_967 : decode cL_law 967 = .ok (.iaload, 1) := by decide +kernel
theorem dL_law_968 : decode cL_law 968 = .ok (.invokevirtual 176, 3) := by decide +kernel
theorem dL_law_971 : decode cL_law 971 = .ok (.istore 6, 2) := by decide +kernel
theorem dL_law_973 : decode cL_law 973 = .ok (.goto 584, 3) := by decide +kernel
set_option maxHeartbeats 4000000 in
set_option maxRecDepth 100000 in
theorem arm_18 {p : Program} {l : Launch} {e : Env} {s : State} {m : MethodId} {below : List Frame} {meth : Method} {c : Code} {b N : Nat} {xs : Nat → Int32} {D : va_G} {K : Nat → ClassId} {sa : sT} {o i : Nat} {cells slots : Nat} {Q : State → Prop} (hls : l.stackTraces = false) (A : LwC p s m meth c b N xs) (hi : i + 6 ≤ N) {S S1 S2 : fS} {ec : Nat} {v v2 : Int32} (hec : ec = 0 ∨ ec = 1 ∨ ec = 2 ∨ ec = 3) (h1 : F_X6_odds (xs (i + 1)) (xs (i + 2)) (xs (i + 3)) S = some ((ec, v), S1)) (h2 : F_X7_odds (xs (i + 1)) (xs (i + 2)) (xs (i + 3)) S1 = some (v2, S2)) (hc : cells + 6 ≤ 601024) (hs : slots + 307 ≤ 7293034) (kk : LwK D K sa p l e s m below meth c b o i S2 (cells + 6) (slots + 307) Q 1557) : LwK D K sa p l e s m below meth c b o i S cells slots Q 924 := by
  intro ad n L f H locs ls B hl
  obtain ⟨C, hX, hbl, hrt, hlk, hNm⟩ := A
  obtain ⟨w, hw, hn, hprobe, hmo, hno, g0, hfo⟩ := B
  have hx := C.1
  have hb := C.2.1
  refine lv_aload_n hx hb dL_law_924 rfl (lv_at hl 1 rfl) ?_
  refine lv_aload_n hx hb dL_law_925 rfl (lv_at hl 0 rfl) ?_
  refine lv_iload hx hb dL_law_926 (lv_at hl 4 rfl) ?_
  refine lv_iconst (v := 1) hx hb dL_law_928 (by decide) ?_
  refine lv_iadd hx hb dL_law_929 ?_
  rw [show nI i + (1 : Int32) = nI (i + 1) from nI_ad2 i 1]
  refine t_sld hx hb hX hbl w (j := i + 1) (nI_clamp (by omega)) (vp_in_nI (by omega) (by omega)) dL_law_930 ?_
  refine lv_aload_n hx hb dL_law_931 rfl (lv_at hl 0 rfl) ?_
  refine lv_iload hx hb dL_law_932 (lv_at hl 4 rfl) ?_
  refine lv_iconst (v := 2) hx hb dL_law_934 (by decide) ?_
  refine lv_iadd hx hb dL_law_935 ?_
  rw [show nI i + (2 : Int32) = nI (i + 2) from nI_ad2 i 2]
  refine t_sld hx hb hX hbl w (j := i + 2) (nI_clamp (by omega)) (vp_in_nI (by omega) (by omega)) dL_law_936 ?_
  refine lv_aload_n hx hb dL_law_937 rfl (lv_at hl 0 rfl) ?_
  refine lv_iload hx hb dL_law_938 (lv_at hl 4 rfl) ?_
  refine lv_iconst (v := 3) hx hb dL_law_940 (by decide) ?_
  refine lv_iadd hx hb dL_law_941 ?_
  rw [show nI i + (3 : Int32) = nI (i + 3) from nI_ad2 i 3]
  refine t_sld hx hb hX hbl w (j := i + 3) (nI_clamp (by omega)) (vp_in_nI (by omega) (by omega)) dL_law_942 ?_
  refine lv_aload_n hx hb dL_law_943 rfl (lv_at hl 3 rfl) ?_
  refine t_callH (n := 5) C w (c_L_odds l hls D K _ sa _ L f ad n S hw hn hprobe (xs (i + 1)) (xs (i + 2)) (xs (i + 3)) o hmo hno g0 hfo ec hec v S1 h1) gw_1019 gw_1017 gw_1018 gw_0 ⟨by decide, by decide, by decide +kernel⟩ rfl rfl ⟨Nat.le_of_ble_eq_true rfl, Nat.le_of_ble_eq_true rfl⟩ rfl hl.1 rfl (Nat.le_of_ble_eq_true rfl) dL_law_944 ⟨by show cells + 3 ≤ 601024; omega, by show slots + 18 ≤ 7293034; omega⟩ (fun v9 u H locs hp w => ?_)
  obtain ⟨ad2, L2, f2, g1, rfl, rfl, hw2, hG2, hno2, hfo2, hgv⟩ := hp
  obtain ⟨ad, n, L, f, g0, w, hw, hn, hprobe, hmo, hno, hfo, hl⟩ : ∃ (ad3 : Nat → Nat → Nat) (n3 : Nat × Nat) (L3 : List Nat) (f3 : Nat → va_E) (g3 : Nat → Int64), Wh D K s.heap.size sa s H locs L3 f3 ∧ PW K ad3 (isn n3) S1 L3 f3 ∧ S1.2.2.1 = n3 ∧ 0 < n3.1 ∧ o ∈ L3 ∧ (∀ a i : Nat, isn n3 a i → ad3 a i ≠ o) ∧ f3 o = .inl (K 6, 1, .inr (.inl g3)) ∧ lv_has ls 7 [(0, .ref b), (1, .ref (ad3 0 0)), (2, .ref (ad3 40 0)), (3, .ref o), (4, .int (nI i))] := ⟨ad2, S1.2.2.1, L2, f2, g1, w, hw2, rfl, (hG2.1 25 0 hprobe).1, (hG2.2 o hmo).1, hno2, hfo2, (by rw [(hG2.1 0 0 (isn_f rfl rfl (by decide))).2, (hG2.1 40 0 (isn_f rfl rfl (by decide))).2]; exact hl)⟩
  refine lv_istore (lv' := [(5, .int (if ec = 0 then 0 else if ec = 1 then 3 else if ec = 2 then 2 else 1)), (0, .ref b), (1, .ref (ad 0 0)), (2, .ref (ad 40 0)), (3, .ref o), (4, .int (nI i))]) hx hb dL_law_947 hl (by decide) rfl (fun ls hl => ?_)
  refine lv_aload_n hx hb dL_law_949 rfl (lv_at hl 3 rfl) ?_
  refine lv_aload_n hx hb dL_law_950 rfl (lv_at hl 1 rfl) ?_
  refine lv_iload hx hb dL_law_951 (lv_at hl 5 rfl) ?_
  refine lv_iconst (v := 1) hx hb dL_law_953 (by decide) ?_
  refine lv_iadd hx hb dL_law_954 ?_
  rw [show nI i + (1 : Int32) = nI (i + 1) from nI_ad2 i 1]
  refine t_sld hx hb hX hbl w (j := i + 1) (nI_clamp (by omega)) (vp_in_nI (by omega) (by omega)) dL_law_955 ?_
  refine lv_aload_n hx hb dL_law_956 rfl (lv_at hl 1 rfl) ?_
  refine lv_iload hx hb dL_law_957 (lv_at hl 5 rfl) ?_
  refine lv_iconst (v := 2) hx hb dL_law_959 (by decide) ?_
  refine lv_iadd hx hb dL_law_960 ?_
  rw [show nI i + (2 : Int32) = nI (i + 2) from nI_ad2 i 2]
  refine t_sld hx hb hX hbl w (j := i + 2) (nI_clamp (by omega)) (vp_in_nI (by omega) (by omega)) dL_law_961 ?_
  refine lv_aload_n hx hb dL_law_962 rfl (lv_at hl 1 rfl) ?_
  refine lv_iload hx hb dL_law_963 (lv_at hl 5 rfl) ?_
  refine lv_iconst (v := 3) hx hb dL_law_965 (by decide) ?_
  refine lv_iadd hx hb dL_law_966 ?_
  rw [show nI i + (3 : Int32) = nI (i + 3) from nI_ad2 i 3]
  refine t_sld hx hb hX hbl w (j := i + 3) (nI_clamp (by omega)) (vp_in_nI (by omega) (by omega)) dL_law_967 ?_
  refine u_callV (n := 3) C w hw (isn_f rfl rfl (by decide)) rfl rfl rfl (c_X7_odds l D K _ sa _ L _ ad (isn n) (fun _ _ h => h) S1 hw hn (xs (i + 1)) (xs (i + 2)) (xs (i + 3)) v2 S2 h2) gw_1585 gw_1582 gw_1583 gw_1584 gw_8 ⟨by decide, by decide, by decide +kernel⟩ rfl rfl ⟨Nat.le_of_ble_eq_true rfl, Nat.le_of_ble_eq_true rfl⟩ rfl hl.1 rfl (Nat.le_of_ble_eq_true rfl) dL_law_968 ⟨by show cells + 3 + 0 ≤ 601024; omega, by show slots + 18 + 0 ≤ 7293034; omega⟩ (fun v9 u H locs hp w => ?_)
  obtain ⟨f2, rfl, rfl, hw2, hn2, hk1⟩ := hp
  have hfo := (hk1 o hmo hno).trans hfo
  have hw := hw2
  have hn := hn2
  clear hw2 hn2
  generalize f2 = f at w hw hfo
  refine lv_istore (lv' := [(6, .int v2), (5, .int (if ec = 0 then 0 else if ec = 1 then 3 else if ec = 2 then 2 else 1)), (0, .ref b), (1, .ref (ad 0 0)), (2, .ref (ad 40 0)), (3, .ref o), (4, .int (nI i))]) hx hb dL_law_971 hl (by decide) rfl (fun ls hl => ?_)
  refine lv_goto (tgt := 1557) hx hb dL_law_973 (by decide) ?_
  exact W.widen (k := cells + 6) (n := slots + 307) (by omega) (by omega) (kk ad n L f H locs ls ⟨w, hw, hn, hprobe, hmo, hno, _, hfo⟩ (lv_sub hl [2, 3, 4, 5, 6] rfl))
theorem dL_law_976 : decode cL_law 976 = .ok (.aload_n 1, 1) := by decide +kernel
theorem dL_law_977 : decode cL_law 977 = .ok (.aload_n 0, 1) := by decide +kernel
theorem dL_law_978 : decode cL_law 978 = .ok (.iload 4, 2) := by decide +kernel
theorem dL_law_980 : decode cL_law 980 = .ok (.iconst 1, 1) := by decide +kernel
theorem dL_law_981 : decode cL_law 981 = .ok (.iadd, 1) := by decide +kernel
theorem dL_law_982 : decode cL_law 982 = .ok (.iaload, 1) := by decide +kernel
theorem dL_law_983 : decode cL_law 983 = .ok (.aload_n 3, 1) := by decide +kernel
theorem dL_law_984 : decode cL_law 984 = .ok (.invokestatic 177, 3) := by decide +kernel
theorem dL_law_987 : decode cL_law 987 = .ok (.istore 5, 2) := by decide +kernel
theorem dL_law_989 : decode cL_law 989 = .ok (.aload_n 2, 1) := by decide +kernel
theorem dL_law_990 : decode cL_law 990 = .ok (.aload_n 0, 1) := by decide +kernel
theorem dL_law_991 : decode cL_law 991 = .ok (.iload 4, 2) := by decide +kernel
theorem dL_law_993 : decode cL_law 993 = .ok (.iconst 1, 1) := by decide +kernel
theorem dL_law_994 : decode cL_law 994 = .ok (.iadd, 1) := by decide +kernel
theorem dL_law_995 : decode cL_law 995 = .ok (.iaload, 1) := by decide +kernel
theorem dL_law_996 : decode cL_law 996 = .ok (.invokevirtual 179, 3) := by decide +kernel
theorem dL_law_999 : decode cL_law 999 = .ok (.istore 6, 2) := by decide +kernel
theorem dL_law_1001 : decode cL_law 1001 = .ok (.goto 556, 3) := by decide +kernel
set_option maxHeartbeats 4000000 in
set_option maxRecDepth 100000 in
theorem arm_19 {p : Program} {l : Launch} {e : Env} {s : State} {m : MethodId} {below : List Frame} {meth : Method} {c : Code} {b N : Nat} {xs : Nat → Int32} {D : va_G} {K : Nat → ClassId} {sa : sT} {o i : Nat} {cells slots : Nat} {Q : State → Prop} (hls : l.stackTraces = false) (A : LwC p s m meth c b N xs) (hi : i + 6 ≤ N) {S S1 S2 : fS} {ec : Nat} {v v2 : Int32} (hec : ec = 0 ∨ ec = 3) (h1 : F_X6_weights (xs (i + 1)) S = some ((ec, v), S1)) (h2 : F_X7_weights (xs (i + 1)) S1 = some (v2, S2)) (hc : cells + 6 ≤ 601024) (hs : slots + 307 ≤ 7293034) (kk : LwK D K sa p l e s m below meth c b o i S2 (cells + 6) (slots + 307) Q 1557) : LwK D K sa p l e s m below meth c b o i S cells slots Q 976 := by
  intro ad n L f H locs ls B hl
  obtain ⟨C, hX, hbl, hrt, hlk, hNm⟩ := A
  obtain ⟨w, hw, hn, hprobe, hmo, hno, g0, hfo⟩ := B
  have hx := C.1
  have hb := C.2.1
  refine lv_aload_n hx hb dL_law_976 rfl (lv_at hl 1 rfl) ?_
  refine lv_aload_n hx hb dL_law_977 rfl (lv_at hl 0 rfl) ?_
  refine lv_iload hx hb dL_law_978 (lv_at hl 4 rfl) ?_
  refine lv_iconst (v := 1) hx hb dL_law_980 (by decide) ?_
  refine lv_iadd hx hb dL_law_981 ?_
  rw [show nI i + (1 : Int32) = nI (i + 1) from nI_ad2 i 1]
  refine t_sld hx hb hX hbl w (j := i + 1) (nI_clamp (by omega)) (vp_in_nI (by omega) (by omega)) dL_law_982 ?_
  refine lv_aload_n hx hb dL_law_983 rfl (lv_at hl 3 rfl) ?_
  refine t_callH (n := 3) C w (c_L_weights l hls D K _ sa _ L f ad n S hw hn hprobe (xs (i + 1)) o hmo hno g0 hfo ec hec v S1 h1) gw_1030 gw_1028 gw_1029 gw_0 ⟨by decide, by decide, by decide +kernel⟩ rfl rfl ⟨Nat.le_of_ble_eq_true rfl, Nat.le_of_ble_eq_true rfl⟩ rfl hl.1 rfl (Nat.le_of_ble_eq_true rfl) dL_law_984 ⟨by show cells + 1 ≤ 601024; omega, by show slots + 6 ≤ 7293034; omega⟩ (fun v9 u H locs hp w => ?_)
  obtain ⟨ad2, L2, f2, g1, rfl, rfl, hw2, hG2, hno2, hfo2, hgv⟩ := hp
  obtain ⟨ad, n, L, f, g0, w, hw, hn, hprobe, hmo, hno, hfo, hl⟩ : ∃ (ad3 : Nat → Nat → Nat) (n3 : Nat × Nat) (L3 : List Nat) (f3 : Nat → va_E) (g3 : Nat → Int64), Wh D K s.heap.size sa s H locs L3 f3 ∧ PW K ad3 (isn n3) S1 L3 f3 ∧ S1.2.2.1 = n3 ∧ 0 < n3.1 ∧ o ∈ L3 ∧ (∀ a i : Nat, isn n3 a i → ad3 a i ≠ o) ∧ f3 o = .inl (K 6, 1, .inr (.inl g3)) ∧ lv_has ls 7 [(0, .ref b), (1, .ref (ad3 0 0)), (2, .ref (ad3 40 0)), (3, .ref o), (4, .int (nI i))] := ⟨ad2, S1.2.2.1, L2, f2, g1, w, hw2, rfl, (hG2.1 25 0 hprobe).1, (hG2.2 o hmo).1, hno2, hfo2, (by rw [(hG2.1 0 0 (isn_f rfl rfl (by decide))).2, (hG2.1 40 0 (isn_f rfl rfl (by decide))).2]; exact hl)⟩
  refine lv_istore (lv' := [(5, .int (if ec = 0 then 0 else 1)), (0, .ref b), (1, .ref (ad 0 0)), (2, .ref (ad 40 0)), (3, .ref o), (4, .int (nI i))]) hx hb dL_law_987 hl (by decide) rfl (fun ls hl => ?_)
  refine lv_aload_n hx hb dL_law_989 rfl (lv_at hl 3 rfl) ?_
  refine lv_aload_n hx hb dL_law_990 rfl (lv_at hl 1 rfl) ?_
  refine lv_iload hx hb dL_law_991 (lv_at hl 5 rfl) ?_
  refine lv_iconst (v := 1) hx hb dL_law_993 (by decide) ?_
  refine lv_iadd hx hb dL_law_994 ?_
  rw [show nI i + (1 : Int32) = nI (i + 1) from nI_ad2 i 1]
  refine t_sld hx hb hX hbl w (j := i + 1) (nI_clamp (by omega)) (vp_in_nI (by omega) (by omega)) dL_law_995 ?_
  refine u_callV (n := 1) C w hw (isn_f rfl rfl (by decide)) rfl rfl rfl (c_X7_weights l D K _ sa _ L _ ad (isn n) (fun _ _ h => h) S1 hw hn (xs (i + 1)) v2 S2 h2) gw_1593 gw_1590 gw_1591 gw_1592 gw_8 ⟨by decide, by decide, by decide +kernel⟩ rfl rfl ⟨Nat.le_of_ble_eq_true rfl, Nat.le_of_ble_eq_true rfl⟩ rfl hl.1 rfl (Nat.le_of_ble_eq_true rfl) dL_law_996 ⟨by show cells + 1 + 0 ≤ 601024; omega, by show slots + 6 + 0 ≤ 7293034; omega⟩ (fun v9 u H locs hp w => ?_)
  obtain ⟨f2, rfl, rfl, hw2, hn2, hk1⟩ := hp
  have hfo := (hk1 o hmo hno).trans hfo
  have hw := hw2
  have hn := hn2
  clear hw2 hn2
  generalize f2 = f at w hw hfo
  refine lv_istore (lv' := [(6, .int v2), (5, .int (if ec = 0 then 0 else 1)), (0, .ref b), (1, .ref (ad 0 0)), (2, .ref (ad 40 0)), (3, .ref o), (4, .int (nI i))]) hx hb dL_law_999 hl (by decide) rfl (fun ls hl => ?_)
  refine lv_goto (tgt := 1557) hx hb dL_law_1001 (by decide) ?_
  exact W.widen (k := cells + 6) (n := slots + 307) (by omega) (by omega) (kk ad n L f H locs ls ⟨w, hw, hn, hprobe, hmo, hno, _, hfo⟩ (lv_sub hl [2, 3, 4, 5, 6] rfl))
theorem dL_law_1004 : decode cL_law 1004 = .ok (.aload_n 1, 1) := by decide +kernel
theorem dL_law_1005 : decode cL_law 1005 = .ok (.aload_n 0, 1) := by decide +kernel
theorem dL_law_1006 : decode cL_law 1006 = .ok (.iload 4, 2) := by decide +kernel
theorem dL_law_1008 : decode cL_law 1008 = .ok (.iconst 1, 1) := by decide +kernel
theorem dL_law_1009 : decode cL_law 1009 = .ok (.iadd, 1) := by decide +kernel
theorem dL_law_1010 : decode cL_law 1010 = .ok (.iaload, 1) := by decide +kernel
theorem dL_law_1011 : decode cL_law 1011 = .ok (.aload_n 0, 1) := by decide +kernel
theorem dL_law_1012 : decode cL_law 1012 = .ok (.iload 4, 2) := by decide +kernel
theorem dL_law_1014 : decode cL_law 1014 = .ok (.iconst 2, 1) := by decide +kernel
theorem dL_law_1015 : decode cL_law 1015 = .ok (.iadd, 1) := by decide +kernel
theorem dL_law_1016 : decode cL_law 1016 = .ok (.iaload, 1) := by decide +kernel
theorem dL_law_1017 : decode cL_law 1017 = .ok (.aload_n 3, 1) := by decide +kernel
theorem dL_law_1018 : decode cL_law 1018 = .ok (.invokestatic 180, 3) := by decide +kernel
theorem dL_law_1021 : decode cL_law 1021 = .ok (.istore 5, 2) := by decide +kernel
theorem dL_law_1023 : decode cL_law 1023 = .ok (.aload_n 2, 1) := by decide +kernel
theorem dL_law_1024 : decode cL_law 1024 = .ok (.aload_n 0, 1) := by decide +kernel
theorem dL_law_1025 : decode cL_law 1025 = .ok (.iload 4, 2) := by decide +kernel
theorem dL_law_1027 : decode cL_law 1027 = .ok (.iconst 1, 1) := by decide +kernel
theorem dL_law_1028 : decode cL_law 1028 = .ok (.iadd, 1) := by decide +kernel
theorem dL_law_1029 : decode cL_law 1029 = .ok (.iaload, 1) := by decide +kernel
theorem dL_law_1030 : decode cL_law 1030 = .ok (.aload_n 0, 1) := by decide +kernel
theorem dL_law_1031 : decode cL_law 1031 = .ok (.iload 4, 2) := by decide +kernel
theorem dL_law_1033 : decode cL_law 1033 = .ok (.iconst 2, 1) := by decide +kernel
theorem dL_law_1034 : decode cL_law 1034 = .ok (.iadd, 1) := by decide +kernel
theorem dL_law_1035 : decode cL_law 1035 = .ok (.iaload, 1) := by decide +kernel
theorem dL_law_1036 : decode cL_law 1036 = .ok (.invokevirtual 182, 3) := by decide +kernel
theorem dL_law_1039 : decode cL_law 1039 = .ok (.istore 6, 2) := by decide +kernel
theorem dL_law_1041 : decode cL_law 1041 = .ok (.goto 516, 3) := by decide +kernel
set_option maxHeartbeats 4000000 in
set_option maxRecDepth 100000 in
theorem arm_20 {p : Program} {l : Launch} {e : Env} {s : State} {m : MethodId} {below : List Frame} {meth : Method} {c : Code} {b N : Nat} {xs : Nat → Int32} {D : va_G} {K : Nat → ClassId} {sa : sT} {o i : Nat} {cells slots : Nat} {Q : State → Prop} (hls : l.stackTraces = false) (A : LwC p s m meth c b N xs) (hi : i + 6 ≤ N) {S S1 S2 : fS} {ec : Nat} {v v2 : Int32} (hec : ec = 0 ∨ ec = 1 ∨ ec = 2) (h1 : F_X6_when (xs (i + 1)) (xs (i + 2)) S = some ((ec, v), S1)) (h2 : F_X7_when (xs (i + 1)) (xs (i + 2)) S1 = some (v2, S2)) (hc : cells + 6 ≤ 601024) (hs : slots + 307 ≤ 7293034) (kk : LwK D K sa p l e s m below meth c b o i S2 (cells + 6) (slots + 307) Q 1557) : LwK D K sa p l e s m below meth c b o i S cells slots Q 1004 := by
  intro ad n L f H locs ls B hl
  obtain ⟨C, hX, hbl, hrt, hlk, hNm⟩ := A
  obtain ⟨w, hw, hn, hprobe, hmo, hno, g0, hfo⟩ := B
  have hx := C.1
  have hb := C.2.1
  refine lv_aload_n hx hb dL_law_1004 rfl (lv_at hl 1 rfl) ?_
  refine lv_aload_n hx hb dL_law_1005 rfl (lv_at hl 0 rfl) ?_
  refine lv_iload hx hb dL_law_1006 (lv_at hl 4 rfl) ?_
  refine lv_iconst (v := 1) hx hb dL_law_1008 (by decide) ?_
  refine lv_iadd hx hb dL_law_1009 ?_
  rw [show nI i + (1 : Int32) = nI (i + 1) from nI_ad2 i 1]
  refine t_sld hx hb hX hbl w (j := i + 1) (nI_clamp (by omega)) (vp_in_nI (by omega) (by omega)) dL_law_1010 ?_
  refine lv_aload_n hx hb dL_law_1011 rfl (lv_at hl 0 rfl) ?_
  refine lv_iload hx hb dL_law_1012 (lv_at hl 4 rfl) ?_
  refine lv_iconst (v := 2) hx hb dL_law_1014 (by decide) ?_
  refine lv_iadd hx hb dL_law_1015 ?_
  rw [show nI i + (2 : Int32) = nI (i + 2) from nI_ad2 i 2]
  refine t_sld hx hb hX hbl w (j := i + 2) (nI_clamp (by omega)) (vp_in_nI (by omega) (by omega)) dL_law_1016 ?_
  refine lv_aload_n hx hb dL_law_1017 rfl (lv_at hl 3 rfl) ?_
  refine t_callH (n := 4) C w (c_L_when l hls D K _ sa _ L f ad n S hw hn hprobe (xs (i + 1)) (xs (i + 2)) o hmo hno g0 hfo ec hec v S1 h1) gw_1037 gw_1035 gw_1036 gw_0 ⟨by decide, by decide, by decide +kernel⟩ rfl rfl ⟨Nat.le_of_ble_eq_true rfl, Nat.le_of_ble_eq_true rfl⟩ rfl hl.1 rfl (Nat.le_of_ble_eq_true rfl) dL_law_1018 ⟨by show cells + 2 ≤ 601024; omega, by show slots + 12 ≤ 7293034; omega⟩ (fun v9 u H locs hp w => ?_)
  obtain ⟨ad2, L2, f2, g1, rfl, rfl, hw2, hG2, hno2, hfo2, hgv⟩ := hp
  obtain ⟨ad, n, L, f, g0, w, hw, hn, hprobe, hmo, hno, hfo, hl⟩ : ∃ (ad3 : Nat → Nat → Nat) (n3 : Nat × Nat) (L3 : List Nat) (f3 : Nat → va_E) (g3 : Nat → Int64), Wh D K s.heap.size sa s H locs L3 f3 ∧ PW K ad3 (isn n3) S1 L3 f3 ∧ S1.2.2.1 = n3 ∧ 0 < n3.1 ∧ o ∈ L3 ∧ (∀ a i : Nat, isn n3 a i → ad3 a i ≠ o) ∧ f3 o = .inl (K 6, 1, .inr (.inl g3)) ∧ lv_has ls 7 [(0, .ref b), (1, .ref (ad3 0 0)), (2, .ref (ad3 40 0)), (3, .ref o), (4, .int (nI i))] := ⟨ad2, S1.2.2.1, L2, f2, g1, w, hw2, rfl, (hG2.1 25 0 hprobe).1, (hG2.2 o hmo).1, hno2, hfo2, (by rw [(hG2.1 0 0 (isn_f rfl rfl (by decide))).2, (hG2.1 40 0 (isn_f rfl rfl (by decide))).2]; exact hl)⟩
  refine lv_istore (lv' := [(5, .int (if ec = 0 then 0 else if ec = 1 then 2 else 1)), (0, .ref b), (1, .ref (ad 0 0)), (2, .ref (ad 40 0)), (3, .ref o), (4, .int (nI i))]) hx hb dL_law_1021 hl (by decide) rfl (fun ls hl => ?_)
  refine lv_aload_n hx hb dL_law_1023 rfl (lv_at hl 3 rfl) ?_
  refine lv_aload_n hx hb dL_law_1024 rfl (lv_at hl 1 rfl) ?_
  refine lv_iload hx hb dL_law_1025 (lv_at hl 5 rfl) ?_
  refine lv_iconst (v := 1) hx hb dL_law_1027 (by decide) ?_
  refine lv_iadd hx hb dL_law_1028 ?_
  rw [show nI i + (1 : Int32) = nI (i + 1) from nI_ad2 i 1]
  refine t_sld hx hb hX hbl w (j := i + 1) (nI_clamp (by omega)) (vp_in_nI (by omega) (by omega)) dL_law_1029 ?_
  refine lv_aload_n hx hb dL_law_1030 rfl (lv_at hl 1 rfl) ?_
  refine lv_iload hx hb dL_law_1031 (lv_at hl 5 rfl) ?_
  refine lv_iconst (v := 2) hx hb dL_law_1033 (by decide) ?_
  refine lv_iadd hx hb dL_law_1034 ?_
  rw [show nI i + (2 : Int32) = nI (i + 2) from nI_ad2 i 2]
  refine t_sld hx hb hX hbl w (j := i + 2) (nI_clamp (by omega)) (vp_in_nI (by omega) (by omega)) dL_law_1035 ?_
  refine u_callV (n := 2) C w hw (isn_f rfl rfl (by decide)) rfl rfl rfl (c_X7_when l D K _ sa _ L _ ad (isn n) (fun _ _ h => h) S1 hw hn (xs (i + 1)) (xs (i + 2)) v2 S2 h2) gw_1597 gw_1594 gw_1595 gw_1596 gw_8 ⟨by decide, by decide, by decide +kernel⟩ rfl rfl ⟨Nat.le_of_ble_eq_true rfl, Nat.le_of_ble_eq_true rfl⟩ rfl hl.1 rfl (Nat.le_of_ble_eq_true rfl) dL_law_1036 ⟨by show cells + 2 + 0 ≤ 601024; omega, by show slots + 12 + 0 ≤ 7293034; omega⟩ (fun v9 u H locs hp w => ?_)
  obtain ⟨f2, rfl, rfl, hw2, hn2, hk1⟩ := hp
  have hfo := (hk1 o hmo hno).trans hfo
  have hw := hw2
  have hn := hn2
  clear hw2 hn2
  generalize f2 = f at w hw hfo
  refine lv_istore (lv' := [(6, .int v2), (5, .int (if ec = 0 then 0 else if ec = 1 then 2 else 1)), (0, .ref b), (1, .ref (ad 0 0)), (2, .ref (ad 40 0)), (3, .ref o), (4, .int (nI i))]) hx hb dL_law_1039 hl (by decide) rfl (fun ls hl => ?_)
  refine lv_goto (tgt := 1557) hx hb dL_law_1041 (by decide) ?_
  exact W.widen (k := cells + 6) (n := slots + 307) (by omega) (by omega) (kk ad n L f H locs ls ⟨w, hw, hn, hprobe, hmo, hno, _, hfo⟩ (lv_sub hl [2, 3, 4, 5, 6] rfl))
theorem dL_law_1044 : decode cL_law 1044 = .ok (.aload_n 1, 1) := by decide +kernel
theorem dL_law_1045 : decode cL_law 1045 = .ok (.invokevirtual 183, 3) := by decide +kernel
theorem dL_law_1048 : decode cL_law 1048 = .ok (.pop, 1) := by decide +kernel
theorem dL_law_1049 : decode cL_law 1049 = .ok (.aload_n 2, 1) := by decide +kernel
theorem dL_law_1050 : decode cL_law 1050 = .ok (.invokevirtual 186, 3) := by decide +kernel
theorem dL_law_1053 : decode cL_law 1053 = .ok (.pop, 1) := by decide +kernel
theorem dL_law_1054 : decode cL_law 1054 = .ok (.goto 503, 3) := by decide +kernel
set_option maxHeartbeats 4000000 in
set_option maxRecDepth 100000 in
theorem arm_21 {p : Program} {l : Launch} {e : Env} {s : State} {m : MethodId} {below : List Frame} {meth : Method} {c : Code} {b N : Nat} {xs : Nat → Int32} {D : va_G} {K : Nat → ClassId} {sa : sT} {o i : Nat} {cells slots : Nat} {Q : State → Prop} (hls : l.stackTraces = false) (A : LwC p s m meth c b N xs) (hi : i + 6 ≤ N) {S S1 S2 : fS} {v v2 : Int32} (h1 : F_X6_fitting  S = some (v, S1)) (h2 : F_X7_fitting  S1 = some (v2, S2)) (hc : cells + 6 ≤ 601024) (hs : slots + 307 ≤ 7293034) (kk : LwK D K sa p l e s m below meth c b o i S2 (cells + 6) (slots + 307) Q 1557) : LwK D K sa p l e s m below meth c b o i S cells slots Q 1044 := by
  intro ad n L f H locs ls B hl
  obtain ⟨C, hX, hbl, hrt, hlk, hNm⟩ := A
  obtain ⟨w, hw, hn, hprobe, hmo, hno, g0, hfo⟩ := B
  have hx := C.1
  have hb := C.2.1
  refine lv_aload_n hx hb dL_law_1044 rfl (lv_at hl 1 rfl) ?_
  refine u_callV (n := 0) C w hw (isn_f rfl rfl (by decide)) rfl rfl rfl (c_X6_fitting l D K _ sa _ L _ ad (isn n) (fun _ _ h => h) S hw hn  v S1 h1) gw_475 gw_472 gw_473 gw_474 gw_1 ⟨by decide, by decide, by decide +kernel⟩ rfl rfl ⟨Nat.le_of_ble_eq_true rfl, Nat.le_of_ble_eq_true rfl⟩ rfl hl.1 rfl (Nat.le_of_ble_eq_true rfl) dL_law_1045 ⟨by show cells + 0 ≤ 601024; omega, by show slots + 0 ≤ 7293034; omega⟩ (fun v9 u H locs hp w => ?_)
  obtain ⟨f2, rfl, rfl, hw2, hn2, hk1⟩ := hp
  have hfo := (hk1 o hmo hno).trans hfo
  have hw := hw2
  have hn := hn2
  clear hw2 hn2
  generalize f2 = f at w hw hfo
  refine lv_pop hx hb dL_law_1048 rfl ?_
  refine lv_aload_n hx hb dL_law_1049 rfl (lv_at hl 2 rfl) ?_
  refine u_callV (n := 0) C w hw (isn_f rfl rfl (by decide)) rfl rfl rfl (c_X7_fitting l D K _ sa _ L _ ad (isn n) (fun _ _ h => h) S1 hw hn  v2 S2 h2) gw_1601 gw_1598 gw_1599 gw_1600 gw_8 ⟨by decide, by decide, by decide +kernel⟩ rfl rfl ⟨Nat.le_of_ble_eq_true rfl, Nat.le_of_ble_eq_true rfl⟩ rfl hl.1 rfl (Nat.le_of_ble_eq_true rfl) dL_law_1050 ⟨by show cells + 0 + 0 ≤ 601024; omega, by show slots + 0 + 0 ≤ 7293034; omega⟩ (fun v9 u H locs hp w => ?_)
  obtain ⟨f2, rfl, rfl, hw2, hn2, hk1⟩ := hp
  have hfo := (hk1 o hmo hno).trans hfo
  have hw := hw2
  have hn := hn2
  clear hw2 hn2
  generalize f2 = f at w hw hfo
  refine lv_pop hx hb dL_law_1053 rfl ?_
  refine lv_goto (tgt := 1557) hx hb dL_law_1054 (by decide) ?_
  exact W.widen (k := cells + 6) (n := slots + 307) (by omega) (by omega) (kk ad n L f H locs ls ⟨w, hw, hn, hprobe, hmo, hno, _, hfo⟩ (lv_sub hl [0, 1, 2, 3, 4] rfl))
theorem dL_law_1057 : decode cL_law 1057 = .ok (.aload_n 1, 1) := by decide +kernel
theorem dL_law_1058 : decode cL_law 1058 = .ok (.aload_n 0, 1) := by decide +kernel
theorem dL_law_1059 : decode cL_law 1059 = .ok (.iload 4, 2) := by decide +kernel
theorem dL_law_1061 : decode cL_law 1061 = .ok (.iconst 1, 1) := by decide +kernel
theorem dL_law_1062 : decode cL_law 1062 = .ok (.iadd, 1) := by decide +kernel
theorem dL_law_1063 : decode cL_law 1063 = .ok (.iaload, 1) := by decide +kernel
theorem dL_law_1064 : decode cL_law 1064 = .ok (.aload_n 3, 1) := by decide +kernel
theorem dL_law_1065 : decode cL_law 1065 = .ok (.invokestatic 187, 3) := by decide +kernel
theorem dL_law_1068 : decode cL_law 1068 = .ok (.istore 5, 2) := by decide +kernel
theorem dL_law_1070 : decode cL_law 1070 = .ok (.aload_n 2, 1) := by decide +kernel
theorem dL_law_1071 : decode cL_law 1071 = .ok (.aload_n 0, 1) := by decide +kernel
theorem dL_law_1072 : decode cL_law 1072 = .ok (.iload 4, 2) := by decide +kernel
theorem dL_law_1074 : decode cL_law 1074 = .ok (.iconst 1, 1) := by decide +kernel
theorem dL_law_1075 : decode cL_law 1075 = .ok (.iadd, 1) := by decide +kernel
theorem dL_law_1076 : decode cL_law 1076 = .ok (.iaload, 1) := by decide +kernel
theorem dL_law_1077 : decode cL_law 1077 = .ok (.invokevirtual 189, 3) := by decide +kernel
theorem dL_law_1080 : decode cL_law 1080 = .ok (.istore 6, 2) := by decide +kernel
theorem dL_law_1082 : decode cL_law 1082 = .ok (.goto 475, 3) := by decide +kernel
set_option maxHeartbeats 4000000 in
set_option maxRecDepth 100000 in
theorem arm_22 {p : Program} {l : Launch} {e : Env} {s : State} {m : MethodId} {below : List Frame} {meth : Method} {c : Code} {b N : Nat} {xs : Nat → Int32} {D : va_G} {K : Nat → ClassId} {sa : sT} {o i : Nat} {cells slots : Nat} {Q : State → Prop} (hls : l.stackTraces = false) (A : LwC p s m meth c b N xs) (hi : i + 6 ≤ N) {S S1 S2 : fS} {ec : Nat} {v v2 : Int32} (hec : ec = 0 ∨ ec = 1) (h1 : F_X6_strange (xs (i + 1)) S = some ((ec, v), S1)) (h2 : F_X7_strange (xs (i + 1)) S1 = some (v2, S2)) (hc : cells + 6 ≤ 601024) (hs : slots + 307 ≤ 7293034) (kk : LwK D K sa p l e s m below meth c b o i S2 (cells + 6) (slots + 307) Q 1557) : LwK D K sa p l e s m below meth c b o i S cells slots Q 1057 := by
  intro ad n L f H locs ls B hl
  obtain ⟨C, hX, hbl, hrt, hlk, hNm⟩ := A
  obtain ⟨w, hw, hn, hprobe, hmo, hno, g0, hfo⟩ := B
  have hx := C.1
  have hb := C.2.1
  refine lv_aload_n hx hb dL_law_1057 rfl (lv_at hl 1 rfl) ?_
  refine lv_aload_n hx hb dL_law_1058 rfl (lv_at hl 0 rfl) ?_
  refine lv_iload hx hb dL_law_1059 (lv_at hl 4 rfl) ?_
  refine lv_iconst (v := 1) hx hb dL_law_1061 (by decide) ?_
  refine lv_iadd hx hb dL_law_1062 ?_
  rw [show nI i + (1 : Int32) = nI (i + 1) from nI_ad2 i 1]
  refine t_sld hx hb hX hbl w (j := i + 1) (nI_clamp (by omega)) (vp_in_nI (by omega) (by omega)) dL_law_1063 ?_
  refine lv_aload_n hx hb dL_law_1064 rfl (lv_at hl 3 rfl) ?_
  refine t_callH (n := 3) C w (c_L_strange l hls D K _ sa _ L f ad n S hw hn hprobe (xs (i + 1)) o hmo hno g0 hfo ec hec v S1 h1) gw_1044 gw_1042 gw_1043 gw_0 ⟨by decide, by decide, by decide +kernel⟩ rfl rfl ⟨Nat.le_of_ble_eq_true rfl, Nat.le_of_ble_eq_true rfl⟩ rfl hl.1 rfl (Nat.le_of_ble_eq_true rfl) dL_law_1065 ⟨by show cells + 1 ≤ 601024; omega, by show slots + 6 ≤ 7293034; omega⟩ (fun v9 u H locs hp w => ?_)
  obtain ⟨ad2, L2, f2, g1, rfl, rfl, hw2, hG2, hno2, hfo2, hgv⟩ := hp
  obtain ⟨ad, n, L, f, g0, w, hw, hn, hprobe, hmo, hno, hfo, hl⟩ : ∃ (ad3 : Nat → Nat → Nat) (n3 : Nat × Nat) (L3 : List Nat) (f3 : Nat → va_E) (g3 : Nat → Int64), Wh D K s.heap.size sa s H locs L3 f3 ∧ PW K ad3 (isn n3) S1 L3 f3 ∧ S1.2.2.1 = n3 ∧ 0 < n3.1 ∧ o ∈ L3 ∧ (∀ a i : Nat, isn n3 a i → ad3 a i ≠ o) ∧ f3 o = .inl (K 6, 1, .inr (.inl g3)) ∧ lv_has ls 7 [(0, .ref b), (1, .ref (ad3 0 0)), (2, .ref (ad3 40 0)), (3, .ref o), (4, .int (nI i))] := ⟨ad2, S1.2.2.1, L2, f2, g1, w, hw2, rfl, (hG2.1 25 0 hprobe).1, (hG2.2 o hmo).1, hno2, hfo2, (by rw [(hG2.1 0 0 (isn_f rfl rfl (by decide))).2, (hG2.1 40 0 (isn_f rfl rfl (by decide))).2]; exact hl)⟩
  refine lv_istore (lv' := [(5, .int (if ec = 0 then 0 else 1)), (0, .ref b), (1, .ref (ad 0 0)), (2, .ref (ad 40 0)), (3, .ref o), (4, .int (nI i))]) hx hb dL_law_1068 hl (by decide) rfl (fun ls hl => ?_)
  refine lv_aload_n hx hb dL_law_1070 rfl (lv_at hl 3 rfl) ?_
  refine lv_aload_n hx hb dL_law_1071 rfl (lv_at hl 1 rfl) ?_
  refine lv_iload hx hb dL_law_1072 (lv_at hl 5 rfl) ?_
  refine lv_iconst (v := 1) hx hb dL_law_1074 (by decide) ?_
  refine lv_iadd hx hb dL_law_1075 ?_
  rw [show nI i + (1 : Int32) = nI (i + 1) from nI_ad2 i 1]
  refine t_sld hx hb hX hbl w (j := i + 1) (nI_clamp (by omega)) (vp_in_nI (by omega) (by omega)) dL_law_1076 ?_
  refine u_callV (n := 1) C w hw (isn_f rfl rfl (by decide)) rfl rfl rfl (c_X7_strange l D K _ sa _ L _ ad (isn n) (fun _ _ h => h) S1 hw hn (xs (i + 1)) v2 S2 h2) gw_1613 gw_1610 gw_1611 gw_1612 gw_8 ⟨by decide, by decide, by decide +kernel⟩ rfl rfl ⟨Nat.le_of_ble_eq_true rfl, Nat.le_of_ble_eq_true rfl⟩ rfl hl.1 rfl (Nat.le_of_ble_eq_true rfl) dL_law_1077 ⟨by show cells + 1 + 0 ≤ 601024; omega, by show slots + 6 + 0 ≤ 7293034; omega⟩ (fun v9 u H locs hp w => ?_)
  obtain ⟨f2, rfl, rfl, hw2, hn2, hk1⟩ := hp
  have hfo := (hk1 o hmo hno).trans hfo
  have hw := hw2
  have hn := hn2
  clear hw2 hn2
  generalize f2 = f at w hw hfo
  refine lv_istore (lv' := [(6, .int v2), (5, .int (if ec = 0 then 0 else 1)), (0, .ref b), (1, .ref (ad 0 0)), (2, .ref (ad 40 0)), (3, .ref o), (4, .int (nI i))]) hx hb dL_law_1080 hl (by decide) rfl (fun ls hl => ?_)
  refine lv_goto (tgt := 1557) hx hb dL_law_1082 (by decide) ?_
  exact W.widen (k := cells + 6) (n := slots + 307) (by omega) (by omega) (kk ad n L f H locs ls ⟨w, hw, hn, hprobe, hmo, hno, _, hfo⟩ (lv_sub hl [2, 3, 4, 5, 6] rfl))
theorem dL_law_1085 : decode cL_law 1085 = .ok (.aload_n 1, 1) := by decide +kernel
theorem dL_law_1086 : decode cL_law 1086 = .ok (.aload_n 0, 1) := by decide +kernel
theorem dL_law_1087 : decode cL_law 1087 = .ok (.iload 4, 2) := by decide +kernel
theorem dL_law_1089 : decode cL_law 1089 = .ok (.iconst 1, 1) := by decide +kernel
theorem dL_law_1090 : decode cL_law 1090 = .ok (.iadd, 1) := by decide +kernel
theorem dL_law_1091 : decode cL_law 1091 = .ok (.iaload, 1) := by decide +kernel
theorem dL_law_1092 : decode cL_law 1092 = .ok (.aload_n 3, 1) := by decide +kernel
theorem dL_law_1093 : decode cL_law 1093 = .ok (.invokestatic 190, 3) := by decide +kernel
theorem dL_law_1096 : decode cL_law 1096 = .ok (.istore 5, 2) := by decide +kernel
theorem dL_law_1098 : decode cL_law 1098 = .ok (.aload_n 2, 1) := by decide +kernel
theorem dL_law_1099 : decode cL_law 1099 = .ok (.aload_n 0, 1) := by decide +kernel
theorem dL_law_1100 : decode cL_law 1100 = .ok (.iload 4, 2) := by decide +kernel
theorem dL_law_1102 : decode cL_law 1102 = .ok (.iconst 1, 1) := by decide +kernel
theorem dL_law_1103 : decode cL_law 1103 = .ok (.iadd, 1) := by decide +kernel
theorem dL_law_1104 : decode cL_law 1104 = .ok (.iaload, 1) := by decide +kernel
theorem dL_law_1105 : decode cL_law 1105 = .ok (.invokevirtual 192, 3) := by decide +kernel
theorem dL_law_1108 : decode cL_law 1108 = .ok (.istore 6, 2) := by decide +kernel
theorem dL_law_1110 : decode cL_law 1110 = .ok (.goto 447, 3) := by decide +kernel
set_option maxHeartbeats 4000000 in
set_option maxRecDepth 100000 in
theorem arm_23 {p : Program} {l : Launch} {e : Env} {s : State} {m : MethodId} {below : List Frame} {meth : Method} {c : Code} {b N : Nat} {xs : Nat → Int32} {D : va_G} {K : Nat → ClassId} {sa : sT} {o i : Nat} {cells slots : Nat} {Q : State → Prop} (hls : l.stackTraces = false) (A : LwC p s m meth c b N xs) (hi : i + 6 ≤ N) {S S1 S2 : fS} {ec : Nat} {v v2 : Int32} (hec : ec = 0 ∨ ec = 2) (h1 : F_X6_guess (xs (i + 1)) S = some ((ec, v), S1)) (h2 : F_X7_guess (xs (i + 1)) S1 = some (v2, S2)) (hc : cells + 6 ≤ 601024) (hs : slots + 307 ≤ 7293034) (kk : LwK D K sa p l e s m below meth c b o i S2 (cells + 6) (slots + 307) Q 1557) : LwK D K sa p l e s m below meth c b o i S cells slots Q 1085 := by
  intro ad n L f H locs ls B hl
  obtain ⟨C, hX, hbl, hrt, hlk, hNm⟩ := A
  obtain ⟨w, hw, hn, hprobe, hmo, hno, g0, hfo⟩ := B
  have hx := C.1
  have hb := C.2.1
  refine lv_aload_n hx hb dL_law_1085 rfl (lv_at hl 1 rfl) ?_
  refine lv_aload_n hx hb dL_law_1086 rfl (lv_at hl 0 rfl) ?_
  refine lv_iload hx hb dL_law_1087 (lv_at hl 4 rfl) ?_
  refine lv_iconst (v := 1) hx hb dL_law_1089 (by decide) ?_
  refine lv_iadd hx hb dL_law_1090 ?_
  rw [show nI i + (1 : Int32) = nI (i + 1) from nI_ad2 i 1]
  refine t_sld hx hb hX hbl w (j := i + 1) (nI_clamp (by omega)) (vp_in_nI (by omega) (by omega)) dL_law_1091 ?_
  refine lv_aload_n hx hb dL_law_1092 rfl (lv_at hl 3 rfl) ?_
  refine t_callH (n := 3) C w (c_L_guess l hls D K _ sa _ L f ad n S hw hn hprobe (xs (i + 1)) o hmo hno g0 hfo ec hec v S1 h1) gw_1051 gw_1049 gw_1050 gw_0 ⟨by decide, by decide, by decide +kernel⟩ rfl rfl ⟨Nat.le_of_ble_eq_true rfl, Nat.le_of_ble_eq_true rfl⟩ rfl hl.1 rfl (Nat.le_of_ble_eq_true rfl) dL_law_1093 ⟨by show cells + 1 ≤ 601024; omega, by show slots + 6 ≤ 7293034; omega⟩ (fun v9 u H locs hp w => ?_)
  obtain ⟨ad2, L2, f2, g1, rfl, rfl, hw2, hG2, hno2, hfo2, hgv⟩ := hp
  obtain ⟨ad, n, L, f, g0, w, hw, hn, hprobe, hmo, hno, hfo, hl⟩ : ∃ (ad3 : Nat → Nat → Nat) (n3 : Nat × Nat) (L3 : List Nat) (f3 : Nat → va_E) (g3 : Nat → Int64), Wh D K s.heap.size sa s H locs L3 f3 ∧ PW K ad3 (isn n3) S1 L3 f3 ∧ S1.2.2.1 = n3 ∧ 0 < n3.1 ∧ o ∈ L3 ∧ (∀ a i : Nat, isn n3 a i → ad3 a i ≠ o) ∧ f3 o = .inl (K 6, 1, .inr (.inl g3)) ∧ lv_has ls 7 [(0, .ref b), (1, .ref (ad3 0 0)), (2, .ref (ad3 40 0)), (3, .ref o), (4, .int (nI i))] := ⟨ad2, S1.2.2.1, L2, f2, g1, w, hw2, rfl, (hG2.1 25 0 hprobe).1, (hG2.2 o hmo).1, hno2, hfo2, (by rw [(hG2.1 0 0 (isn_f rfl rfl (by decide))).2, (hG2.1 40 0 (isn_f rfl rfl (by decide))).2]; exact hl)⟩
  refine lv_istore (lv' := [(5, .int (if ec = 0 then 0 else 1)), (0, .ref b), (1, .ref (ad 0 0)), (2, .ref (ad 40 0)), (3, .ref o), (4, .int (nI i))]) hx hb dL_law_1096 hl (by decide) rfl (fun ls hl => ?_)
  refine lv_aload_n hx hb dL_law_1098 rfl (lv_at hl 3 rfl) ?_
  refine lv_aload_n hx hb dL_law_1099 rfl (lv_at hl 1 rfl) ?_
  refine lv_iload hx hb dL_law_1100 (lv_at hl 5 rfl) ?_
  refine lv_iconst (v := 1) hx hb dL_law_1102 (by decide) ?_
  refine lv_iadd hx hb dL_law_1103 ?_
  rw [show nI i + (1 : Int32) = nI (i + 1) from nI_ad2 i 1]
  refine t_sld hx hb hX hbl w (j := i + 1) (nI_clamp (by omega)) (vp_in_nI (by omega) (by omega)) dL_law_1104 ?_
  refine u_callV (n := 1) C w hw (isn_f rfl rfl (by decide)) rfl rfl rfl (c_X7_guess l D K _ sa _ L _ ad (isn n) (fun _ _ h => h) S1 hw hn (xs (i + 1)) v2 S2 h2) gw_1617 gw_1614 gw_1615 gw_1616 gw_8 ⟨by decide, by decide, by decide +kernel⟩ rfl rfl ⟨Nat.le_of_ble_eq_true rfl, Nat.le_of_ble_eq_true rfl⟩ rfl hl.1 rfl (Nat.le_of_ble_eq_true rfl) dL_law_1105 ⟨by show cells + 1 + 0 ≤ 601024; omega, by show slots + 6 + 0 ≤ 7293034; omega⟩ (fun v9 u H locs hp w => ?_)
  obtain ⟨f2, rfl, rfl, hw2, hn2, hk1⟩ := hp
  have hfo := (hk1 o hmo hno).trans hfo
  have hw := hw2
  have hn := hn2
  clear hw2 hn2
  generalize f2 = f at w hw hfo
  refine lv_istore (lv' := [(6, .int v2), (5, .int (if ec = 0 then 0 else 1)), (0, .ref b), (1, .ref (ad 0 0)), (2, .ref (ad 40 0)), (3, .ref o), (4, .int (nI i))]) hx hb dL_law_1108 hl (by decide) rfl (fun ls hl => ?_)
  refine lv_goto (tgt := 1557) hx hb dL_law_1110 (by decide) ?_
  exact W.widen (k := cells + 6) (n := slots + 307) (by omega) (by omega) (kk ad n L f H locs ls ⟨w, hw, hn, hprobe, hmo, hno, _, hfo⟩ (lv_sub hl [2, 3, 4, 5, 6] rfl))
theorem dL_law_1113 : decode cL_law 1113 = .ok (.aload_n 1, 1) := by decide +kernel
theorem dL_law_1114 : decode cL_law 1114 = .ok (.invokevirtual 193, 3) := by decide +kernel
theorem dL_law_1117 : decode cL_law 1117 = .ok (.pop, 1) := by decide +kernel
theorem dL_law_1118 : decode cL_law 1118 = .ok (.aload_n 2, 1) := by decide +kernel
theorem dL_law_1119 : decode cL_law 1119 = .ok (.invokevirtual 196, 3) := by decide +kernel
theorem dL_law_1122 : decode cL_law 1122 = .ok (.pop, 1) := by decide +kernel
theorem dL_law_1123 : decode cL_law 1123 = .ok (.goto 434, 3) := by decide +kernel
set_option maxHeartbeats 4000000 in
set_option maxRecDepth 100000 in
theorem arm_24 {p : Program} {l : Launch} {e : Env} {s : State} {m : MethodId} {below : List Frame} {meth : Method} {c : Code} {b N : Nat} {xs : Nat → Int32} {D : va_G} {K : Nat → ClassId} {sa : sT} {o i : Nat} {cells slots : Nat} {Q : State → Prop} (hls : l.stackTraces = false) (A : LwC p s m meth c b N xs) (hi : i + 6 ≤ N) {S S1 S2 : fS} {v v2 : Int32} (h1 : F_X6_refill  S = some (v, S1)) (h2 : F_X7_refill  S1 = some (v2, S2)) (hc : cells + 6 ≤ 601024) (hs : slots + 307 ≤ 7293034) (kk : LwK D K sa p l e s m below meth c b o i S2 (cells + 6) (slots + 307) Q 1557) : LwK D K sa p l e s m below meth c b o i S cells slots Q 1113 := by
  intro ad n L f H locs ls B hl
  obtain ⟨C, hX, hbl, hrt, hlk, hNm⟩ := A
  obtain ⟨w, hw, hn, hprobe, hmo, hno, g0, hfo⟩ := B
  have hx := C.1
  have hb := C.2.1
  refine lv_aload_n hx hb dL_law_1113 rfl (lv_at hl 1 rfl) ?_
  refine u_callV (n := 0) C w hw (isn_f rfl rfl (by decide)) rfl rfl rfl (c_X6_refill l D K _ sa _ L _ ad (isn n) (fun _ _ h => h) S hw hn  v S1 h1) gw_506 gw_503 gw_504 gw_505 gw_1 ⟨by decide, by decide, by decide +kernel⟩ rfl rfl ⟨Nat.le_of_ble_eq_true rfl, Nat.le_of_ble_eq_true rfl⟩ rfl hl.1 rfl (Nat.le_of_ble_eq_true rfl) dL_law_1114 ⟨by show cells + 0 ≤ 601024; omega, by show slots + 0 ≤ 7293034; omega⟩ (fun v9 u H locs hp w => ?_)
  obtain ⟨f2, rfl, rfl, hw2, hn2, hk1⟩ := hp
  have hfo := (hk1 o hmo hno).trans hfo
  have hw := hw2
  have hn := hn2
  clear hw2 hn2
  generalize f2 = f at w hw hfo
  refine lv_pop hx hb dL_law_1117 rfl ?_
  refine lv_aload_n hx hb dL_law_1118 rfl (lv_at hl 2 rfl) ?_
  refine u_callV (n := 0) C w hw (isn_f rfl rfl (by decide)) rfl rfl rfl (c_X7_refill l D K _ sa _ L _ ad (isn n) (fun _ _ h => h) S1 hw hn  v2 S2 h2) gw_1621 gw_1618 gw_1619 gw_1620 gw_8 ⟨by decide, by decide, by decide +kernel⟩ rfl rfl ⟨Nat.le_of_ble_eq_true rfl, Nat.le_of_ble_eq_true rfl⟩ rfl hl.1 rfl (Nat.le_of_ble_eq_true rfl) dL_law_1119 ⟨by show cells + 0 + 0 ≤ 601024; omega, by show slots + 0 + 0 ≤ 7293034; omega⟩ (fun v9 u H locs hp w => ?_)
  obtain ⟨f2, rfl, rfl, hw2, hn2, hk1⟩ := hp
  have hfo := (hk1 o hmo hno).trans hfo
  have hw := hw2
  have hn := hn2
  clear hw2 hn2
  generalize f2 = f at w hw hfo
  refine lv_pop hx hb dL_law_1122 rfl ?_
  refine lv_goto (tgt := 1557) hx hb dL_law_1123 (by decide) ?_
  exact W.widen (k := cells + 6) (n := slots + 307) (by omega) (by omega) (kk ad n L f H locs ls ⟨w, hw, hn, hprobe, hmo, hno, _, hfo⟩ (lv_sub hl [0, 1, 2, 3, 4] rfl))
theorem dL_law_1126 : decode cL_law 1126 = .ok (.aload_n 1, 1) := by decide +kernel
theorem dL_law_1127 : decode cL_law 1127 = .ok (.aload_n 0, 1) := by decide +kernel
theorem dL_law_1128 : decode cL_law 1128 = .ok (.iload 4, 2) := by decide +kernel
theorem dL_law_1130 : decode cL_law 1130 = .ok (.iconst 1, 1) := by decide +kernel
theorem dL_law_1131 : decode cL_law 1131 = .ok (.iadd, 1) := by decide +kernel
theorem dL_law_1132 : decode cL_law 1132 = .ok (.iaload, 1) := by decide +kernel
theorem dL_law_1133 : decode cL_law 1133 = .ok (.aload_n 0, 1) := by decide +kernel
theorem dL_law_1134 : decode cL_law 1134 = .ok (.iload 4, 2) := by decide +kernel
theorem dL_law_1136 : decode cL_law 1136 = .ok (.iconst 2, 1) := by decide +kernel
theorem dL_law_1137 : decode cL_law 1137 = .ok (.iadd, 1) := by decide +kernel
theorem dL_law_1138 : decode cL_law 1138 = .ok (.iaload, 1) := by decide +kernel
theorem dL_law_1139 : decode cL_law 1139 = .ok (.aload_n 0, 1) := by decide +kernel
theorem dL_law_1140 : decode cL_law 1140 = .ok (.iload 4, 2) := by decide +kernel
theorem dL_law_1142 : decode cL_law 1142 = .ok (.iconst 3, 1) := by decide +kernel
theorem dL_law_1143 : decode cL_law 1143 = .ok (.iadd, 1) := by decide +kernel
theorem dL_law_1144 : decode cL_law 1144 = .ok (.iaload, 1) := by decide +kernel
theorem dL_law_1145 : decode cL_law 1145 = .ok (.aload_n 3, 1) := by decide +kernel
theorem dL_law_1146 : decode cL_law 1146 = .ok (.invokestatic 197, 3) := by decide +kernel
theorem dL_law_1149 : decode cL_law 1149 = .ok (.istore 5, 2) := by decide +kernel
theorem dL_law_1151 : decode cL_law 1151 = .ok (.aload_n 2, 1) := by decide +kernel
theorem dL_law_1152 : decode cL_law 1152 = .ok (.aload_n 0, 1) := by decide +kernel
theorem dL_law_1153 : decode cL_law 1153 = .ok (.iload 4, 2) := by decide +kernel
theorem dL_law_1155 : decode cL_law 1155 = .ok (.iconst 1, 1) := by decide +kernel
theorem dL_law_1156 : decode cL_law 1156 = .ok (.iadd, 1) := by decide +kernel
theorem dL_law_1157 : decode cL_law 1157 = .ok (.iaload, 1) := by decide +kernel
theorem dL_law_1158 : decode cL_law 1158 = .ok (.aload_n 0, 1) := by decide +kernel
theorem dL_law_1159 : decode cL_law 1159 = .ok (.iload 4, 2) := by decide +kernel
theorem dL_law_1161 : decode cL_law 1161 = .ok (.iconst 2, 1) := by decide +kernel
theorem dL_law_1162 : decode cL_law 1162 = .ok (.iadd, 1) := by decide +kernel
theorem dL_law_1163 : decode cL_law 1163 = .ok (.iaload, 1) := by decide +kernel
theorem dL_law_1164 : decode cL_law 1164 = .ok (.aload_n 0, 1) := by decide +kernel
theorem dL_law_1165 : decode cL_law 1165 = .ok (.iload 4, 2) := by decide +kernel
theorem dL_law_1167 : decode cL_law 1167 = .ok (.iconst 3, 1) := by decide +kernel
theorem dL_law_1168 : decode cL_law 1168 = .ok (.iadd, 1) := by decide +kernel
theorem dL_law_1169 : decode cL_law 1169 = .ok (.iaload, 1) := by decide +kernel
theorem dL_law_1170 : decode cL_law 1170 = .ok (.invokevirtual 199, 3) := by decide +kernel
theorem dL_law_1173 : decode cL_law 1173 = .ok (.istore 6, 2) := by decide +kernel
theorem dL_law_1175 : decode cL_law 1175 = .ok (.goto 382, 3) := by decide +kernel
set_option maxHeartbeats 4000000 in
set_option maxRecDepth 100000 in
theorem arm_25 {p : Program} {l : Launch} {e : Env} {s : State} {m : MethodId} {below : List Frame} {meth : Method} {c : Code} {b N : Nat} {xs : Nat → Int32} {D : va_G} {K : Nat → ClassId} {sa : sT} {o i : Nat} {cells slots : Nat} {Q : State → Prop} (hls : l.stackTraces = false) (A : LwC p s m meth c b N xs) (hi : i + 6 ≤ N) {S S1 S2 : fS} {ec : Nat} {v v2 : Int32} (hec : ec = 0 ∨ ec = 1 ∨ ec = 2) (h1 : F_X6_worth (xs (i + 1)) (xs (i + 2)) (xs (i + 3)) S = some ((ec, v), S1)) (h2 : F_X7_worth (xs (i + 1)) (xs (i + 2)) (xs (i + 3)) S1 = some (v2, S2)) (hc : cells + 6 ≤ 601024) (hs : slots + 307 ≤ 7293034) (kk : LwK D K sa p l e s m below meth c b o i S2 (cells + 6) (slots + 307) Q 1557) : LwK D K sa p l e s m below meth c b o i S cells slots Q 1126 := by
  intro ad n L f H locs ls B hl
  obtain ⟨C, hX, hbl, hrt, hlk, hNm⟩ := A
  obtain ⟨w, hw, hn, hprobe, hmo, hno, g0, hfo⟩ := B
  have hx := C.1
  have hb := C.2.1
  refine lv_aload_n hx hb dL_law_1126 rfl (lv_at hl 1 rfl) ?_
  refine lv_aload_n hx hb dL_law_1127 rfl (lv_at hl 0 rfl) ?_
  refine lv_iload hx hb dL_law_1128 (lv_at hl 4 rfl) ?_
  refine lv_iconst (v := 1) hx hb dL_law_1130 (by decide) ?_
  refine lv_iadd hx hb dL_law_1131 ?_
  rw [show nI i + (1 : Int32) = nI (i + 1) from nI_ad2 i 1]
  refine t_sld hx hb hX hbl w (j := i + 1) (nI_clamp (by omega)) (vp_in_nI (by omega) (by omega)) dL_law_1132 ?_
  refine lv_aload_n hx hb dL_law_1133 rfl (lv_at hl 0 rfl) ?_
  refine lv_iload hx hb dL_law_1134 (lv_at hl 4 rfl) ?_
  refine lv_iconst (v := 2) hx hb dL_law_1136 (by decide) ?_
  refine lv_iadd hx hb dL_law_1137 ?_
  rw [show nI i + (2 : Int32) = nI (i + 2) from nI_ad2 i 2]
  refine t_sld hx hb hX hbl w (j := i + 2) (nI_clamp (by omega)) (vp_in_nI (by omega) (by omega)) dL_law_1138 ?_
  refine lv_aload_n hx hb dL_law_1139 rfl (lv_at hl 0 rfl) ?_
  refine lv_iload hx hb dL_law_1140 (lv_at hl 4 rfl) ?_
  refine lv_iconst (v := 3) hx hb dL_law_1142 (by decide) ?_
  refine lv_iadd hx hb dL_law_1143 ?_
  rw [show nI i + (3 : Int32) = nI (i + 3) from nI_ad2 i 3]
  refine t_sld hx hb hX hbl w (j := i + 3) (nI_clamp (by omega)) (vp_in_nI (by omega) (by omega)) dL_law_1144 ?_
  refine lv_aload_n hx hb dL_law_1145 rfl (lv_at hl 3 rfl) ?_
  refine t_callH (n := 5) C w (c_L_worth l hls D K _ sa _ L f ad n S hw hn hprobe (xs (i + 1)) (xs (i + 2)) (xs (i + 3)) o hmo hno g0 hfo ec hec v S1 h1) gw_1058 gw_1056 gw_1057 gw_0 ⟨by decide, by decide, by decide +kernel⟩ rfl rfl ⟨Nat.le_of_ble_eq_true rfl, Nat.le_of_ble_eq_true rfl⟩ rfl hl.1 rfl (Nat.le_of_ble_eq_true rfl) dL_law_1146 ⟨by show cells + 3 ≤ 601024; omega, by show slots + 18 ≤ 7293034; omega⟩ (fun v9 u H locs hp w => ?_)
  obtain ⟨ad2, L2, f2, g1, rfl, rfl, hw2, hG2, hno2, hfo2, hgv⟩ := hp
  obtain ⟨ad, n, L, f, g0, w, hw, hn, hprobe, hmo, hno, hfo, hl⟩ : ∃ (ad3 : Nat → Nat → Nat) (n3 : Nat × Nat) (L3 : List Nat) (f3 : Nat → va_E) (g3 : Nat → Int64), Wh D K s.heap.size sa s H locs L3 f3 ∧ PW K ad3 (isn n3) S1 L3 f3 ∧ S1.2.2.1 = n3 ∧ 0 < n3.1 ∧ o ∈ L3 ∧ (∀ a i : Nat, isn n3 a i → ad3 a i ≠ o) ∧ f3 o = .inl (K 6, 1, .inr (.inl g3)) ∧ lv_has ls 7 [(0, .ref b), (1, .ref (ad3 0 0)), (2, .ref (ad3 40 0)), (3, .ref o), (4, .int (nI i))] := ⟨ad2, S1.2.2.1, L2, f2, g1, w, hw2, rfl, (hG2.1 25 0 hprobe).1, (hG2.2 o hmo).1, hno2, hfo2, (by rw [(hG2.1 0 0 (isn_f rfl rfl (by decide))).2, (hG2.1 40 0 (isn_f rfl rfl (by decide))).2]; exact hl)⟩
  refine lv_istore (lv' := [(5, .int (if ec = 0 then 0 else if ec = 1 then 2 else 1)), (0, .ref b), (1, .ref (ad 0 0)), (2, .ref (ad 40 0)), (3, .ref o), (4, .int (nI i))]) hx hb dL_law_1149 hl (by decide) rfl (fun ls hl => ?_)
  refine lv_aload_n hx hb dL_law_1151 rfl (lv_at hl 3 rfl) ?_
  refine lv_aload_n hx hb dL_law_1152 rfl (lv_at hl 1 rfl) ?_
  refine lv_iload hx hb dL_law_1153 (lv_at hl 5 rfl) ?_
  refine lv_iconst (v := 1) hx hb dL_law_1155 (by decide) ?_
  refine lv_iadd hx hb dL_law_1156 ?_
  rw [show nI i + (1 : Int32) = nI (i + 1) from nI_ad2 i 1]
  refine t_sld hx hb hX hbl w (j := i + 1) (nI_clamp (by omega)) (vp_in_nI (by omega) (by omega)) dL_law_1157 ?_
  refine lv_aload_n hx hb dL_law_1158 rfl (lv_at hl 1 rfl) ?_
  refine lv_iload hx hb dL_law_1159 (lv_at hl 5 rfl) ?_
  refine lv_iconst (v := 2) hx hb dL_law_1161 (by decide) ?_
  refine lv_iadd hx hb dL_law_1162 ?_
  rw [show nI i + (2 : Int32) = nI (i + 2) from nI_ad2 i 2]
  refine t_sld hx hb hX hbl w (j := i + 2) (nI_clamp (by omega)) (vp_in_nI (by omega) (by omega)) dL_law_1163 ?_
  refine lv_aload_n hx hb dL_law_1164 rfl (lv_at hl 1 rfl) ?_
  refine lv_iload hx hb dL_law_1165 (lv_at hl 5 rfl) ?_
  refine lv_iconst (v := 3) hx hb dL_law_1167 (by decide) ?_
  refine lv_iadd hx hb dL_law_1168 ?_
  rw [show nI i + (3 : Int32) = nI (i + 3) from nI_ad2 i 3]
  refine t_sld hx hb hX hbl w (j := i + 3) (nI_clamp (by omega)) (vp_in_nI (by omega) (by omega)) dL_law_1169 ?_
  refine u_callV (n := 3) C w hw (isn_f rfl rfl (by decide)) rfl rfl rfl (c_X7_worth l D K _ sa _ L _ ad (isn n) (fun _ _ h => h) S1 hw hn (xs (i + 1)) (xs (i + 2)) (xs (i + 3)) v2 S2 h2) gw_1625 gw_1622 gw_1623 gw_1624 gw_8 ⟨by decide, by decide, by decide +kernel⟩ rfl rfl ⟨Nat.le_of_ble_eq_true rfl, Nat.le_of_ble_eq_true rfl⟩ rfl hl.1 rfl (Nat.le_of_ble_eq_true rfl) dL_law_1170 ⟨by show cells + 3 + 0 ≤ 601024; omega, by show slots + 18 + 0 ≤ 7293034; omega⟩ (fun v9 u H locs hp w => ?_)
  obtain ⟨f2, rfl, rfl, hw2, hn2, hk1⟩ := hp
  have hfo := (hk1 o hmo hno).trans hfo
  have hw := hw2
  have hn := hn2
  clear hw2 hn2
  generalize f2 = f at w hw hfo
  refine lv_istore (lv' := [(6, .int v2), (5, .int (if ec = 0 then 0 else if ec = 1 then 2 else 1)), (0, .ref b), (1, .ref (ad 0 0)), (2, .ref (ad 40 0)), (3, .ref o), (4, .int (nI i))]) hx hb dL_law_1173 hl (by decide) rfl (fun ls hl => ?_)
  refine lv_goto (tgt := 1557) hx hb dL_law_1175 (by decide) ?_
  exact W.widen (k := cells + 6) (n := slots + 307) (by omega) (by omega) (kk ad n L f H locs ls ⟨w, hw, hn, hprobe, hmo, hno, _, hfo⟩ (lv_sub hl [2, 3, 4, 5, 6] rfl))
theorem dL_law_1178 : decode cL_law 1178 = .ok (.aload_n 1, 1) := by decide +kernel
theorem dL_law_1179 : decode cL_law 1179 = .ok (.aload_n 0, 1) := by decide +kernel
theorem dL_law_1180 : decode cL_law 1180 = .ok (.iload 4, 2) := by decide +kernel
theorem dL_law_1182 : decode cL_law 1182 = .ok (.iconst 1, 1) := by decide +kernel
theorem dL_law_1183 : decode cL_law 1183 = .ok (.iadd, 1) := by decide +kernel
theorem dL_law_1184 : decode cL_law 1184 = .ok (.iaload, 1) := by decide +kernel
theorem dL_law_1185 : decode cL_law 1185 = .ok (.aload_n 0, 1) := by decide +kernel
theorem dL_law_1186 : decode cL_law 1186 = .ok (.iload 4, 2) := by decide +kernel
theorem dL_law_1188 : decode cL_law 1188 = .ok (.iconst 2, 1) := by decide +kernel
theorem dL_law_1189 : decode cL_law 1189 = .ok (.iadd, 1) := by decide +kernel
theorem dL_law_1190 : decode cL_law 1190 = .ok (.iaload, 1) := by decide +kernel
theorem dL_law_1191 : decode cL_law 1191 = .ok (.aload_n 3, 1) := by decide +kernel
theorem dL_law_1192 : decode cL_law 1192 = .ok (.invokestatic 200, 3) := by decide +kernel
theorem dL_law_1195 : decode cL_law 1195 = .ok (.istore 5, 2) := by decide +kernel
theorem dL_law_1197 : decode cL_law 1197 = .ok (.aload_n 2, 1) := by decide +kernel
theorem dL_law_1198 : decode cL_law 1198 = .ok (.aload_n 0, 1) := by decide +kernel
theorem dL_law_1199 : decode cL_law 1199 = .ok (.iload 4, 2) := by decide +kernel
theorem dL_law_1201 : decode cL_law 1201 = .ok (.iconst 1, 1) := by decide +kernel
theorem dL_law_1202 : decode cL_law 1202 = .ok (.iadd, 1) := by decide +kernel
theorem dL_law_1203 : decode cL_law 1203 = .ok (.iaload, 1) := by decide +kernel
theorem dL_law_1204 : decode cL_law 1204 = .ok (.aload_n 0, 1) := by decide +kernel
theorem dL_law_1205 : decode cL_law 1205 = .ok (.iload 4, 2) := by decide +kernel
theorem dL_law_1207 : decode cL_law 1207 = .ok (.iconst 2, 1) := by decide +kernel
theorem dL_law_1208 : decode cL_law 1208 = .ok (.iadd, 1) := by decide +kernel
theorem dL_law_1209 : decode cL_law 1209 = .ok (.iaload, 1) := by decide +kernel
theorem dL_law_1210 : decode cL_law 1210 = .ok (.invokevirtual 202, 3) := by decide +kernel
theorem dL_law_1213 : decode cL_law 1213 = .ok (.istore 6, 2) := by decide +kernel
theorem dL_law_1215 : decode cL_law 1215 = .ok (.goto 342, 3) := by decide +kernel
set_option maxHeartbeats 4000000 in
set_option maxRecDepth 100000 in
theorem arm_26 {p : Program} {l : Launch} {e : Env} {s : State} {m : MethodId} {below : List Frame} {meth : Method} {c : Code} {b N : Nat} {xs : Nat → Int32} {D : va_G} {K : Nat → ClassId} {sa : sT} {o i : Nat} {cells slots : Nat} {Q : State → Prop} (hls : l.stackTraces = false) (A : LwC p s m meth c b N xs) (hi : i + 6 ≤ N) {S S1 S2 : fS} {ec : Nat} {v v2 : Int32} (hec : ec = 0 ∨ ec = 2) (h1 : F_X6_bide (xs (i + 1)) (xs (i + 2)) S = some ((ec, v), S1)) (h2 : F_X7_bide (xs (i + 1)) (xs (i + 2)) S1 = some (v2, S2)) (hc : cells + 6 ≤ 601024) (hs : slots + 307 ≤ 7293034) (kk : LwK D K sa p l e s m below meth c b o i S2 (cells + 6) (slots + 307) Q 1557) : LwK D K sa p l e s m below meth c b o i S cells slots Q 1178 := by
  intro ad n L f H locs ls B hl
  obtain ⟨C, hX, hbl, hrt, hlk, hNm⟩ := A
  obtain ⟨w, hw, hn, hprobe, hmo, hno, g0, hfo⟩ := B
  have hx := C.1
  have hb := C.2.1
  refine lv_aload_n hx hb dL_law_1178 rfl (lv_at hl 1 rfl) ?_
  refine lv_aload_n hx hb dL_law_1179 rfl (lv_at hl 0 rfl) ?_
  refine lv_iload hx hb dL_law_1180 (lv_at hl 4 rfl) ?_
  refine lv_iconst (v := 1) hx hb dL_law_1182 (by decide) ?_
  refine lv_iadd hx hb dL_law_1183 ?_
  rw [show nI i + (1 : Int32) = nI (i + 1) from nI_ad2 i 1]
  refine t_sld hx hb hX hbl w (j := i + 1) (nI_clamp (by omega)) (vp_in_nI (by omega) (by omega)) dL_law_1184 ?_
  refine lv_aload_n hx hb dL_law_1185 rfl (lv_at hl 0 rfl) ?_
  refine lv_iload hx hb dL_law_1186 (lv_at hl 4 rfl) ?_
  refine lv_iconst (v := 2) hx hb dL_law_1188 (by decide) ?_
  refine lv_iadd hx hb dL_law_1189 ?_
  rw [show nI i + (2 : Int32) = nI (i + 2) from nI_ad2 i 2]
  refine t_sld hx hb hX hbl w (j := i + 2) (nI_clamp (by omega)) (vp_in_nI (by omega) (by omega)) dL_law_1190 ?_
  refine lv_aload_n hx hb dL_law_1191 rfl (lv_at hl 3 rfl) ?_
  refine t_callH (n := 4) C w (c_L_bide l hls D K _ sa _ L f ad n S hw hn hprobe (xs (i + 1)) (xs (i + 2)) o hmo hno g0 hfo ec hec v S1 h1) gw_1078 gw_1076 gw_1077 gw_0 ⟨by decide, by decide, by decide +kernel⟩ rfl rfl ⟨Nat.le_of_ble_eq_true rfl, Nat.le_of_ble_eq_true rfl⟩ rfl hl.1 rfl (Nat.le_of_ble_eq_true rfl) dL_law_1192 ⟨by show cells + 2 ≤ 601024; omega, by show slots + 12 ≤ 7293034; omega⟩ (fun v9 u H locs hp w => ?_)
  obtain ⟨ad2, L2, f2, g1, rfl, rfl, hw2, hG2, hno2, hfo2, hgv⟩ := hp
  obtain ⟨ad, n, L, f, g0, w, hw, hn, hprobe, hmo, hno, hfo, hl⟩ : ∃ (ad3 : Nat → Nat → Nat) (n3 : Nat × Nat) (L3 : List Nat) (f3 : Nat → va_E) (g3 : Nat → Int64), Wh D K s.heap.size sa s H locs L3 f3 ∧ PW K ad3 (isn n3) S1 L3 f3 ∧ S1.2.2.1 = n3 ∧ 0 < n3.1 ∧ o ∈ L3 ∧ (∀ a i : Nat, isn n3 a i → ad3 a i ≠ o) ∧ f3 o = .inl (K 6, 1, .inr (.inl g3)) ∧ lv_has ls 7 [(0, .ref b), (1, .ref (ad3 0 0)), (2, .ref (ad3 40 0)), (3, .ref o), (4, .int (nI i))] := ⟨ad2, S1.2.2.1, L2, f2, g1, w, hw2, rfl, (hG2.1 25 0 hprobe).1, (hG2.2 o hmo).1, hno2, hfo2, (by rw [(hG2.1 0 0 (isn_f rfl rfl (by decide))).2, (hG2.1 40 0 (isn_f rfl rfl (by decide))).2]; exact hl)⟩
  refine lv_istore (lv' := [(5, .int (if ec = 0 then 0 else 1)), (0, .ref b), (1, .ref (ad 0 0)), (2, .ref (ad 40 0)), (3, .ref o), (4, .int (nI i))]) hx hb dL_law_1195 hl (by decide) rfl (fun ls hl => ?_)
  refine lv_aload_n hx hb dL_law_1197 rfl (lv_at hl 3 rfl) ?_
  refine lv_aload_n hx hb dL_law_1198 rfl (lv_at hl 1 rfl) ?_
  refine lv_iload hx hb dL_law_1199 (lv_at hl 5 rfl) ?_
  refine lv_iconst (v := 1) hx hb dL_law_1201 (by decide) ?_
  refine lv_iadd hx hb dL_law_1202 ?_
  rw [show nI i + (1 : Int32) = nI (i + 1) from nI_ad2 i 1]
  refine t_sld hx hb hX hbl w (j := i + 1) (nI_clamp (by omega)) (vp_in_nI (by omega) (by omega)) dL_law_1203 ?_
  refine lv_aload_n hx hb dL_law_1204 rfl (lv_at hl 1 rfl) ?_
  refine lv_iload hx hb dL_law_1205 (lv_at hl 5 rfl) ?_
  refine lv_iconst (v := 2) hx hb dL_law_1207 (by decide) ?_
  refine lv_iadd hx hb dL_law_1208 ?_
  rw [show nI i + (2 : Int32) = nI (i + 2) from nI_ad2 i 2]
  refine t_sld hx hb hX hbl w (j := i + 2) (nI_clamp (by omega)) (vp_in_nI (by omega) (by omega)) dL_law_1209 ?_
  refine u_callV (n := 2) C w hw (isn_f rfl rfl (by decide)) rfl rfl rfl (c_X7_bide l D K _ sa _ L _ ad (isn n) (fun _ _ h => h) S1 hw hn (xs (i + 1)) (xs (i + 2)) v2 S2 h2) gw_1641 gw_1638 gw_1639 gw_1640 gw_8 ⟨by decide, by decide, by decide +kernel⟩ rfl rfl ⟨Nat.le_of_ble_eq_true rfl, Nat.le_of_ble_eq_true rfl⟩ rfl hl.1 rfl (Nat.le_of_ble_eq_true rfl) dL_law_1210 ⟨by show cells + 2 + 0 ≤ 601024; omega, by show slots + 12 + 0 ≤ 7293034; omega⟩ (fun v9 u H locs hp w => ?_)
  obtain ⟨f2, rfl, rfl, hw2, hn2, hk1⟩ := hp
  have hfo := (hk1 o hmo hno).trans hfo
  have hw := hw2
  have hn := hn2
  clear hw2 hn2
  generalize f2 = f at w hw hfo
  refine lv_istore (lv' := [(6, .int v2), (5, .int (if ec = 0 then 0 else 1)), (0, .ref b), (1, .ref (ad 0 0)), (2, .ref (ad 40 0)), (3, .ref o), (4, .int (nI i))]) hx hb dL_law_1213 hl (by decide) rfl (fun ls hl => ?_)
  refine lv_goto (tgt := 1557) hx hb dL_law_1215 (by decide) ?_
  exact W.widen (k := cells + 6) (n := slots + 307) (by omega) (by omega) (kk ad n L f H locs ls ⟨w, hw, hn, hprobe, hmo, hno, _, hfo⟩ (lv_sub hl [2, 3, 4, 5, 6] rfl))
