theorem dL_law_645 : decode cL_law 645 = .ok (.aload_n 1, 1) := by decide +kernel
theorem dL_law_646 : decode cL_law 646 = .ok (.aload_n 0, 1) := by decide +kernel
theorem dL_law_647 : decode cL_law 647 = .ok (.iload 4, 2) := by decide +kernel
theorem dL_law_649 : decode cL_law 649 = .ok (.iconst 1, 1) := by decide +kernel
theorem dL_law_650 : decode cL_law 650 = .ok (.iadd, 1) := by decide +kernel
theorem dL_law_651 : decode cL_law 651 = .ok (.iaload, 1) := by decide +kernel
theorem dL_law_652 : decode cL_law 652 = .ok (.aload_n 0, 1) := by decide +kernel
theorem dL_law_653 : decode cL_law 653 = .ok (.iload 4, 2) := by decide +kernel
theorem dL_law_655 : decode cL_law 655 = .ok (.iconst 2, 1) := by decide +kernel
theorem dL_law_656 : decode cL_law 656 = .ok (.iadd, 1) := by decide +kernel
theorem dL_law_657 : decode cL_law 657 = .ok (.iaload, 1) := by decide +kernel
theorem dL_law_658 : decode cL_law 658 = .ok (.ifCond .eq 7, 3) := by decide +kernel
theorem dL_law_661 : decode cL_law 661 = .ok (.iconst 1, 1) := by decide +kernel
theorem dL_law_662 : decode cL_law 662 = .ok (.goto 4, 3) := by decide +kernel
theorem dL_law_665 : decode cL_law 665 = .ok (.iconst 0, 1) := by decide +kernel
theorem dL_law_666 : decode cL_law 666 = .ok (.aload_n 3, 1) := by decide +kernel
theorem dL_law_667 : decode cL_law 667 = .ok (.invokestatic 146, 3) := by decide +kernel
theorem dL_law_670 : decode cL_law 670 = .ok (.istore 5, 2) := by decide +kernel
theorem dL_law_672 : decode cL_law 672 = .ok (.aload_n 2, 1) := by decide +kernel
theorem dL_law_673 : decode cL_law 673 = .ok (.aload_n 0, 1) := by decide +kernel
theorem dL_law_674 : decode cL_law 674 = .ok (.iload 4, 2) := by decide +kernel
theorem dL_law_676 : decode cL_law 676 = .ok (.iconst 1, 1) := by decide +kernel
theorem dL_law_677 : decode cL_law 677 = .ok (.iadd, 1) := by decide +kernel
theorem dL_law_678 : decode cL_law 678 = .ok (.iaload, 1) := by decide +kernel
theorem dL_law_679 : decode cL_law 679 = .ok (.aload_n 0, 1) := by decide +kernel
theorem dL_law_680 : decode cL_law 680 = .ok (.iload 4, 2) := by decide +kernel
theorem dL_law_682 : decode cL_law 682 = .ok (.iconst 2, 1) := by decide +kernel
theorem dL_law_683 : decode cL_law 683 = .ok (.iadd, 1) := by decide +kernel
theorem dL_law_684 : decode cL_law 684 = .ok (.iaload, 1) := by decide +kernel
theorem dL_law_685 : decode cL_law 685 = .ok (.ifCond .eq 7, 3) := by decide +kernel
theorem dL_law_688 : decode cL_law 688 = .ok (.iconst 1, 1) := by decide +kernel
theorem dL_law_689 : decode cL_law 689 = .ok (.goto 4, 3) := by decide +kernel
theorem dL_law_692 : decode cL_law 692 = .ok (.iconst 0, 1) := by decide +kernel
theorem dL_law_693 : decode cL_law 693 = .ok (.invokevirtual 148, 3) := by decide +kernel
theorem dL_law_696 : decode cL_law 696 = .ok (.istore 6, 2) := by decide +kernel
theorem dL_law_698 : decode cL_law 698 = .ok (.goto 894, 3) := by decide +kernel
set_option maxHeartbeats 4000000 in
set_option maxRecDepth 100000 in
theorem arm_9 {p : Program} {l : Launch} {e : Env} {s : State} {m : MethodId} {below : List Frame} {meth : Method} {c : Code} {b N : Nat} {xs : Nat → Int32} {D : va_G} {K : Nat → ClassId} {sa : sT} {o i : Nat} {cells slots : Nat} {Q : State → Prop} (hls : l.stackTraces = false) (A : LwC p s m meth c b N xs) (hi : i + 6 ≤ N) {S S1 S2 : fS} {ec : Nat} {v v2 : Int32} (hec : ec = 0 ∨ ec = 1) (h1 : F_X6_program (xs (i + 1)) ((if xs (i + 2) = 0 then 0 else 1)) S = some ((ec, v), S1)) (h2 : F_X7_program (xs (i + 1)) ((if xs (i + 2) = 0 then 0 else 1)) S1 = some (v2, S2)) (hc : cells + 6 ≤ 601024) (hs : slots + 307 ≤ 7293034) (kk : LwK D K sa p l e s m below meth c b o i S2 (cells + 6) (slots + 307) Q 1592) : LwK D K sa p l e s m below meth c b o i S cells slots Q 645 := by
  intro ad n L f H locs ls B hl
  obtain ⟨C, hX, hbl, hrt, hlk, hNm⟩ := A
  obtain ⟨w, hw, hn, hprobe, hmo, hno, g0, hfo⟩ := B
  have hx := C.1
  have hb := C.2.1
  by_cases hz2 : xs (i + 2) = 0
  · rw [if_pos hz2] at h1 h2
    refine lv_aload_n hx hb dL_law_645 rfl (lv_at hl 1 rfl) ?_
    refine lv_aload_n hx hb dL_law_646 rfl (lv_at hl 0 rfl) ?_
    refine lv_iload hx hb dL_law_647 (lv_at hl 4 rfl) ?_
    refine lv_iconst (v := 1) hx hb dL_law_649 (by decide) ?_
    refine lv_iadd hx hb dL_law_650 ?_
    rw [show nI i + (1 : Int32) = nI (i + 1) from nI_ad2 i 1]
    refine t_sld hx hb hX hbl w (j := i + 1) (nI_clamp (by omega)) (vp_in_nI (by omega) (by omega)) dL_law_651 ?_
    refine lv_aload_n hx hb dL_law_652 rfl (lv_at hl 0 rfl) ?_
    refine lv_iload hx hb dL_law_653 (lv_at hl 4 rfl) ?_
    refine lv_iconst (v := 2) hx hb dL_law_655 (by decide) ?_
    refine lv_iadd hx hb dL_law_656 ?_
    rw [show nI i + (2 : Int32) = nI (i + 2) from nI_ad2 i 2]
    refine t_sld hx hb hX hbl w (j := i + 2) (nI_clamp (by omega)) (vp_in_nI (by omega) (by omega)) dL_law_657 ?_
    refine lv_if_eq (tgt := 665) hx hb dL_law_658 (by decide) (fun _ => ?_) (fun c0 => absurd hz2 c0)
    refine lv_iconst (v := 0) hx hb dL_law_665 (by decide) ?_
    refine lv_aload_n hx hb dL_law_666 rfl (lv_at hl 3 rfl) ?_
    refine t_callH (n := 4) C w (c_L_program l hls D K _ sa _ L f ad n S hw hn hprobe (xs (i + 1)) (0) o hmo hno g0 hfo ec hec v S1 h1) gw_719 gw_717 gw_718 gw_0 ⟨by decide, by decide, by decide +kernel⟩ rfl rfl ⟨Nat.le_of_ble_eq_true rfl, Nat.le_of_ble_eq_true rfl⟩ rfl hl.1 rfl (Nat.le_of_ble_eq_true rfl) dL_law_667 ⟨by show cells + 3 ≤ 601024; omega, by show slots + 307 ≤ 7293034; omega⟩ (fun v9 u H locs hp w => ?_)
    obtain ⟨ad2, L2, f2, g1, rfl, rfl, hw2, hG2, hno2, hfo2, hgv⟩ := hp
    obtain ⟨ad, n, L, f, g0, w, hw, hn, hprobe, hmo, hno, hfo, hl⟩ : ∃ (ad3 : Nat → Nat → Nat) (n3 : Nat × Nat) (L3 : List Nat) (f3 : Nat → va_E) (g3 : Nat → Int64), Wh D K s.heap.size sa s H locs L3 f3 ∧ PW K ad3 (isn n3) S1 L3 f3 ∧ S1.2.2.1 = n3 ∧ 0 < n3.1 ∧ o ∈ L3 ∧ (∀ a i : Nat, isn n3 a i → ad3 a i ≠ o) ∧ f3 o = .inl (K 6, 1, .inr (.inl g3)) ∧ lv_has ls 7 [(0, .ref b), (1, .ref (ad3 0 0)), (2, .ref (ad3 40 0)), (3, .ref o), (4, .int (nI i))] := ⟨ad2, S1.2.2.1, L2, f2, g1, w, hw2, rfl, (hG2.1 25 0 hprobe).1, (hG2.2 o hmo).1, hno2, hfo2, (by rw [(hG2.1 0 0 (isn_f rfl rfl (by decide))).2, (hG2.1 40 0 (isn_f rfl rfl (by decide))).2]; exact hl)⟩
    refine lv_istore (lv' := [(5, .int (if ec = 0 then 0 else 1)), (0, .ref b), (1, .ref (ad 0 0)), (2, .ref (ad 40 0)), (3, .ref o), (4, .int (nI i))]) hx hb dL_law_670 hl (by decide) rfl (fun ls hl => ?_)
    refine lv_aload_n hx hb dL_law_672 rfl (lv_at hl 3 rfl) ?_
    refine lv_aload_n hx hb dL_law_673 rfl (lv_at hl 1 rfl) ?_
    refine lv_iload hx hb dL_law_674 (lv_at hl 5 rfl) ?_
    refine lv_iconst (v := 1) hx hb dL_law_676 (by decide) ?_
    refine lv_iadd hx hb dL_law_677 ?_
    rw [show nI i + (1 : Int32) = nI (i + 1) from nI_ad2 i 1]
    refine t_sld hx hb hX hbl w (j := i + 1) (nI_clamp (by omega)) (vp_in_nI (by omega) (by omega)) dL_law_678 ?_
    refine lv_aload_n hx hb dL_law_679 rfl (lv_at hl 1 rfl) ?_
    refine lv_iload hx hb dL_law_680 (lv_at hl 5 rfl) ?_
    refine lv_iconst (v := 2) hx hb dL_law_682 (by decide) ?_
    refine lv_iadd hx hb dL_law_683 ?_
    rw [show nI i + (2 : Int32) = nI (i + 2) from nI_ad2 i 2]
    refine t_sld hx hb hX hbl w (j := i + 2) (nI_clamp (by omega)) (vp_in_nI (by omega) (by omega)) dL_law_684 ?_
    refine lv_if_eq (tgt := 692) hx hb dL_law_685 (by decide) (fun _ => ?_) (fun c0 => absurd hz2 c0)
    refine lv_iconst (v := 0) hx hb dL_law_692 (by decide) ?_
    refine u_callV (n := 2) C w hw (isn_f rfl rfl (by decide)) rfl rfl rfl (c_X7_program l D K _ sa _ L _ ad (isn n) (fun _ _ h => h) S1 hw hn (xs (i + 1)) (0) v2 S2 h2) gw_1340 gw_1337 gw_1338 gw_1339 gw_8 ⟨by decide, by decide, by decide +kernel⟩ rfl rfl ⟨Nat.le_of_ble_eq_true rfl, Nat.le_of_ble_eq_true rfl⟩ rfl hl.1 rfl (Nat.le_of_ble_eq_true rfl) dL_law_693 ⟨by show cells + 3 + 0 ≤ 601024; omega, by show slots + 307 + 0 ≤ 7293034; omega⟩ (fun v9 u H locs hp w => ?_)
    obtain ⟨f2, rfl, rfl, hw2, hn2, hk1⟩ := hp
    have hfo := (hk1 o hmo hno).trans hfo
    have hw := hw2
    have hn := hn2
    clear hw2 hn2
    generalize f2 = f at w hw hfo
    refine lv_istore (lv' := [(6, .int v2), (5, .int (if ec = 0 then 0 else 1)), (0, .ref b), (1, .ref (ad 0 0)), (2, .ref (ad 40 0)), (3, .ref o), (4, .int (nI i))]) hx hb dL_law_696 hl (by decide) rfl (fun ls hl => ?_)
    refine lv_goto (tgt := 1592) hx hb dL_law_698 (by decide) ?_
    exact W.widen (k := cells + 6) (n := slots + 307) (by omega) (by omega) (kk ad n L f H locs ls ⟨w, hw, hn, hprobe, hmo, hno, _, hfo⟩ (lv_sub hl [2, 3, 4, 5, 6] rfl))
  · rw [if_neg hz2] at h1 h2
    refine lv_aload_n hx hb dL_law_645 rfl (lv_at hl 1 rfl) ?_
    refine lv_aload_n hx hb dL_law_646 rfl (lv_at hl 0 rfl) ?_
    refine lv_iload hx hb dL_law_647 (lv_at hl 4 rfl) ?_
    refine lv_iconst (v := 1) hx hb dL_law_649 (by decide) ?_
    refine lv_iadd hx hb dL_law_650 ?_
    rw [show nI i + (1 : Int32) = nI (i + 1) from nI_ad2 i 1]
    refine t_sld hx hb hX hbl w (j := i + 1) (nI_clamp (by omega)) (vp_in_nI (by omega) (by omega)) dL_law_651 ?_
    refine lv_aload_n hx hb dL_law_652 rfl (lv_at hl 0 rfl) ?_
    refine lv_iload hx hb dL_law_653 (lv_at hl 4 rfl) ?_
    refine lv_iconst (v := 2) hx hb dL_law_655 (by decide) ?_
    refine lv_iadd hx hb dL_law_656 ?_
    rw [show nI i + (2 : Int32) = nI (i + 2) from nI_ad2 i 2]
    refine t_sld hx hb hX hbl w (j := i + 2) (nI_clamp (by omega)) (vp_in_nI (by omega) (by omega)) dL_law_657 ?_
    refine lv_if_eq (tgt := 665) hx hb dL_law_658 (by decide) (fun c0 => absurd c0 hz2) (fun _ => ?_)
    refine lv_iconst (v := 1) hx hb dL_law_661 (by decide) ?_
    refine lv_goto (tgt := 666) hx hb dL_law_662 (by decide) ?_
    refine lv_aload_n hx hb dL_law_666 rfl (lv_at hl 3 rfl) ?_
    refine t_callH (n := 4) C w (c_L_program l hls D K _ sa _ L f ad n S hw hn hprobe (xs (i + 1)) (1) o hmo hno g0 hfo ec hec v S1 h1) gw_719 gw_717 gw_718 gw_0 ⟨by decide, by decide, by decide +kernel⟩ rfl rfl ⟨Nat.le_of_ble_eq_true rfl, Nat.le_of_ble_eq_true rfl⟩ rfl hl.1 rfl (Nat.le_of_ble_eq_true rfl) dL_law_667 ⟨by show cells + 3 ≤ 601024; omega, by show slots + 307 ≤ 7293034; omega⟩ (fun v9 u H locs hp w => ?_)
    obtain ⟨ad2, L2, f2, g1, rfl, rfl, hw2, hG2, hno2, hfo2, hgv⟩ := hp
    obtain ⟨ad, n, L, f, g0, w, hw, hn, hprobe, hmo, hno, hfo, hl⟩ : ∃ (ad3 : Nat → Nat → Nat) (n3 : Nat × Nat) (L3 : List Nat) (f3 : Nat → va_E) (g3 : Nat → Int64), Wh D K s.heap.size sa s H locs L3 f3 ∧ PW K ad3 (isn n3) S1 L3 f3 ∧ S1.2.2.1 = n3 ∧ 0 < n3.1 ∧ o ∈ L3 ∧ (∀ a i : Nat, isn n3 a i → ad3 a i ≠ o) ∧ f3 o = .inl (K 6, 1, .inr (.inl g3)) ∧ lv_has ls 7 [(0, .ref b), (1, .ref (ad3 0 0)), (2, .ref (ad3 40 0)), (3, .ref o), (4, .int (nI i))] := ⟨ad2, S1.2.2.1, L2, f2, g1, w, hw2, rfl, (hG2.1 25 0 hprobe).1, (hG2.2 o hmo).1, hno2, hfo2, (by rw [(hG2.1 0 0 (isn_f rfl rfl (by decide))).2, (hG2.1 40 0 (isn_f rfl rfl (by decide))).2]; exact hl)⟩
    refine lv_istore (lv' := [(5, .int (if ec = 0 then 0 else 1)), (0, .ref b), (1, .ref (ad 0 0)), (2, .ref (ad 40 0)), (3, .ref o), (4, .int (nI i))]) hx hb dL_law_670 hl (by decide) rfl (fun ls hl => ?_)
    refine lv_aload_n hx hb dL_law_672 rfl (lv_at hl 3 rfl) ?_
    refine lv_aload_n hx hb dL_law_673 rfl (lv_at hl 1 rfl) ?_
    refine lv_iload hx hb dL_law_674 (lv_at hl 5 rfl) ?_
    refine lv_iconst (v := 1) hx hb dL_law_676 (by decide) ?_
    refine lv_iadd hx hb dL_law_677 ?_
    rw [show nI i + (1 : Int32) = nI (i + 1) from nI_ad2 i 1]
    refine t_sld hx hb hX hbl w (j := i + 1) (nI_clamp (by omega)) (vp_in_nI (by omega) (by omega)) dL_law_678 ?_
    refine lv_aload_n hx hb dL_law_679 rfl (lv_at hl 1 rfl) ?_
    refine lv_iload hx hb dL_law_680 (lv_at hl 5 rfl) ?_
    refine lv_iconst (v := 2) hx hb dL_law_682 (by decide) ?_
    refine lv_iadd hx hb dL_law_683 ?_
    rw [show nI i + (2 : Int32) = nI (i + 2) from nI_ad2 i 2]
    refine t_sld hx hb hX hbl w (j := i + 2) (nI_clamp (by omega)) (vp_in_nI (by omega) (by omega)) dL_law_684 ?_
    refine lv_if_eq (tgt := 692) hx hb dL_law_685 (by decide) (fun c0 => absurd c0 hz2) (fun _ => ?_)
    refine lv_iconst (v := 1) hx hb dL_law_688 (by decide) ?_
    refine lv_goto (tgt := 693) hx hb dL_law_689 (by decide) ?_
    refine u_callV (n := 2) C w hw (isn_f rfl rfl (by decide)) rfl rfl rfl (c_X7_program l D K _ sa _ L _ ad (isn n) (fun _ _ h => h) S1 hw hn (xs (i + 1)) (1) v2 S2 h2) gw_1340 gw_1337 gw_1338 gw_1339 gw_8 ⟨by decide, by decide, by decide +kernel⟩ rfl rfl ⟨Nat.le_of_ble_eq_true rfl, Nat.le_of_ble_eq_true rfl⟩ rfl hl.1 rfl (Nat.le_of_ble_eq_true rfl) dL_law_693 ⟨by show cells + 3 + 0 ≤ 601024; omega, by show slots + 307 + 0 ≤ 7293034; omega⟩ (fun v9 u H locs hp w => ?_)
    obtain ⟨f2, rfl, rfl, hw2, hn2, hk1⟩ := hp
    have hfo := (hk1 o hmo hno).trans hfo
    have hw := hw2
    have hn := hn2
    clear hw2 hn2
    generalize f2 = f at w hw hfo
    refine lv_istore (lv' := [(6, .int v2), (5, .int (if ec = 0 then 0 else 1)), (0, .ref b), (1, .ref (ad 0 0)), (2, .ref (ad 40 0)), (3, .ref o), (4, .int (nI i))]) hx hb dL_law_696 hl (by decide) rfl (fun ls hl => ?_)
    refine lv_goto (tgt := 1592) hx hb dL_law_698 (by decide) ?_
    exact W.widen (k := cells + 6) (n := slots + 307) (by omega) (by omega) (kk ad n L f H locs ls ⟨w, hw, hn, hprobe, hmo, hno, _, hfo⟩ (lv_sub hl [2, 3, 4, 5, 6] rfl))
theorem dL_law_701 : decode cL_law 701 = .ok (.aload_n 1, 1) := by decide +kernel
theorem dL_law_702 : decode cL_law 702 = .ok (.invokevirtual 149, 3) := by decide +kernel
theorem dL_law_705 : decode cL_law 705 = .ok (.pop, 1) := by decide +kernel
theorem dL_law_706 : decode cL_law 706 = .ok (.aload_n 2, 1) := by decide +kernel
theorem dL_law_707 : decode cL_law 707 = .ok (.invokevirtual 152, 3) := by decide +kernel
theorem dL_law_710 : decode cL_law 710 = .ok (.pop, 1) := by decide +kernel
theorem dL_law_711 : decode cL_law 711 = .ok (.goto 881, 3) := by decide +kernel
set_option maxHeartbeats 4000000 in
set_option maxRecDepth 100000 in
theorem arm_10 {p : Program} {l : Launch} {e : Env} {s : State} {m : MethodId} {below : List Frame} {meth : Method} {c : Code} {b N : Nat} {xs : Nat → Int32} {D : va_G} {K : Nat → ClassId} {sa : sT} {o i : Nat} {cells slots : Nat} {Q : State → Prop} (hls : l.stackTraces = false) (A : LwC p s m meth c b N xs) (hi : i + 6 ≤ N) {S S1 S2 : fS} {v v2 : Int32} (h1 : F_X6_fault  S = some (v, S1)) (h2 : F_X7_fault  S1 = some (v2, S2)) (hc : cells + 6 ≤ 601024) (hs : slots + 307 ≤ 7293034) (kk : LwK D K sa p l e s m below meth c b o i S2 (cells + 6) (slots + 307) Q 1592) : LwK D K sa p l e s m below meth c b o i S cells slots Q 701 := by
  intro ad n L f H locs ls B hl
  obtain ⟨C, hX, hbl, hrt, hlk, hNm⟩ := A
  obtain ⟨w, hw, hn, hprobe, hmo, hno, g0, hfo⟩ := B
  have hx := C.1
  have hb := C.2.1
  refine lv_aload_n hx hb dL_law_701 rfl (lv_at hl 1 rfl) ?_
  refine u_callV (n := 0) C w hw (isn_f rfl rfl (by decide)) rfl rfl rfl (c_X6_fault l D K _ sa _ L _ ad (isn n) (fun _ _ h => h) S hw hn  v S1 h1) gw_357 gw_354 gw_355 gw_356 gw_1 ⟨by decide, by decide, by decide +kernel⟩ rfl rfl ⟨Nat.le_of_ble_eq_true rfl, Nat.le_of_ble_eq_true rfl⟩ rfl hl.1 rfl (Nat.le_of_ble_eq_true rfl) dL_law_702 ⟨by show cells + 0 ≤ 601024; omega, by show slots + 0 ≤ 7293034; omega⟩ (fun v9 u H locs hp w => ?_)
  obtain ⟨f2, rfl, rfl, hw2, hn2, hk1⟩ := hp
  have hfo := (hk1 o hmo hno).trans hfo
  have hw := hw2
  have hn := hn2
  clear hw2 hn2
  generalize f2 = f at w hw hfo
  refine lv_pop hx hb dL_law_705 rfl ?_
  refine lv_aload_n hx hb dL_law_706 rfl (lv_at hl 2 rfl) ?_
  refine u_callV (n := 0) C w hw (isn_f rfl rfl (by decide)) rfl rfl rfl (c_X7_fault l D K _ sa _ L _ ad (isn n) (fun _ _ h => h) S1 hw hn  v2 S2 h2) gw_1433 gw_1430 gw_1431 gw_1432 gw_8 ⟨by decide, by decide, by decide +kernel⟩ rfl rfl ⟨Nat.le_of_ble_eq_true rfl, Nat.le_of_ble_eq_true rfl⟩ rfl hl.1 rfl (Nat.le_of_ble_eq_true rfl) dL_law_707 ⟨by show cells + 0 + 0 ≤ 601024; omega, by show slots + 0 + 0 ≤ 7293034; omega⟩ (fun v9 u H locs hp w => ?_)
  obtain ⟨f2, rfl, rfl, hw2, hn2, hk1⟩ := hp
  have hfo := (hk1 o hmo hno).trans hfo
  have hw := hw2
  have hn := hn2
  clear hw2 hn2
  generalize f2 = f at w hw hfo
  refine lv_pop hx hb dL_law_710 rfl ?_
  refine lv_goto (tgt := 1592) hx hb dL_law_711 (by decide) ?_
  exact W.widen (k := cells + 6) (n := slots + 307) (by omega) (by omega) (kk ad n L f H locs ls ⟨w, hw, hn, hprobe, hmo, hno, _, hfo⟩ (lv_sub hl [0, 1, 2, 3, 4] rfl))
theorem dL_law_714 : decode cL_law 714 = .ok (.aload_n 1, 1) := by decide +kernel
theorem dL_law_715 : decode cL_law 715 = .ok (.aload_n 0, 1) := by decide +kernel
theorem dL_law_716 : decode cL_law 716 = .ok (.iload 4, 2) := by decide +kernel
theorem dL_law_718 : decode cL_law 718 = .ok (.iconst 1, 1) := by decide +kernel
theorem dL_law_719 : decode cL_law 719 = .ok (.iadd, 1) := by decide +kernel
theorem dL_law_720 : decode cL_law 720 = .ok (.iaload, 1) := by decide +kernel
theorem dL_law_721 : decode cL_law 721 = .ok (.aload_n 3, 1) := by decide +kernel
theorem dL_law_722 : decode cL_law 722 = .ok (.invokestatic 153, 3) := by decide +kernel
theorem dL_law_725 : decode cL_law 725 = .ok (.istore 5, 2) := by decide +kernel
theorem dL_law_727 : decode cL_law 727 = .ok (.aload_n 2, 1) := by decide +kernel
theorem dL_law_728 : decode cL_law 728 = .ok (.aload_n 0, 1) := by decide +kernel
theorem dL_law_729 : decode cL_law 729 = .ok (.iload 4, 2) := by decide +kernel
theorem dL_law_731 : decode cL_law 731 = .ok (.iconst 1, 1) := by decide +kernel
theorem dL_law_732 : decode cL_law 732 = .ok (.iadd, 1) := by decide +kernel
theorem dL_law_733 : decode cL_law 733 = .ok (.iaload, 1) := by decide +kernel
theorem dL_law_734 : decode cL_law 734 = .ok (.invokevirtual 155, 3) := by decide +kernel
theorem dL_law_737 : decode cL_law 737 = .ok (.istore 6, 2) := by decide +kernel
theorem dL_law_739 : decode cL_law 739 = .ok (.goto 853, 3) := by decide +kernel
set_option maxHeartbeats 4000000 in
set_option maxRecDepth 100000 in
theorem arm_11 {p : Program} {l : Launch} {e : Env} {s : State} {m : MethodId} {below : List Frame} {meth : Method} {c : Code} {b N : Nat} {xs : Nat → Int32} {D : va_G} {K : Nat → ClassId} {sa : sT} {o i : Nat} {cells slots : Nat} {Q : State → Prop} (hls : l.stackTraces = false) (A : LwC p s m meth c b N xs) (hi : i + 6 ≤ N) {S S1 S2 : fS} {ec : Nat} {v v2 : Int32} (hec : ec = 0 ∨ ec = 1) (h1 : F_X6_force (xs (i + 1)) S = some ((ec, v), S1)) (h2 : F_X7_force (xs (i + 1)) S1 = some (v2, S2)) (hc : cells + 6 ≤ 601024) (hs : slots + 307 ≤ 7293034) (kk : LwK D K sa p l e s m below meth c b o i S2 (cells + 6) (slots + 307) Q 1592) : LwK D K sa p l e s m below meth c b o i S cells slots Q 714 := by
  intro ad n L f H locs ls B hl
  obtain ⟨C, hX, hbl, hrt, hlk, hNm⟩ := A
  obtain ⟨w, hw, hn, hprobe, hmo, hno, g0, hfo⟩ := B
  have hx := C.1
  have hb := C.2.1
  refine lv_aload_n hx hb dL_law_714 rfl (lv_at hl 1 rfl) ?_
  refine lv_aload_n hx hb dL_law_715 rfl (lv_at hl 0 rfl) ?_
  refine lv_iload hx hb dL_law_716 (lv_at hl 4 rfl) ?_
  refine lv_iconst (v := 1) hx hb dL_law_718 (by decide) ?_
  refine lv_iadd hx hb dL_law_719 ?_
  rw [show nI i + (1 : Int32) = nI (i + 1) from nI_ad2 i 1]
  refine t_sld hx hb hX hbl w (j := i + 1) (nI_clamp (by omega)) (vp_in_nI (by omega) (by omega)) dL_law_720 ?_
  refine lv_aload_n hx hb dL_law_721 rfl (lv_at hl 3 rfl) ?_
  refine t_callH (n := 3) C w (c_L_force l hls D K _ sa _ L f ad n S hw hn hprobe (xs (i + 1)) o hmo hno g0 hfo ec hec v S1 h1) gw_925 gw_923 gw_924 gw_0 ⟨by decide, by decide, by decide +kernel⟩ rfl rfl ⟨Nat.le_of_ble_eq_true rfl, Nat.le_of_ble_eq_true rfl⟩ rfl hl.1 rfl (Nat.le_of_ble_eq_true rfl) dL_law_722 ⟨by show cells + 1 ≤ 601024; omega, by show slots + 6 ≤ 7293034; omega⟩ (fun v9 u H locs hp w => ?_)
  obtain ⟨ad2, L2, f2, g1, rfl, rfl, hw2, hG2, hno2, hfo2, hgv⟩ := hp
  obtain ⟨ad, n, L, f, g0, w, hw, hn, hprobe, hmo, hno, hfo, hl⟩ : ∃ (ad3 : Nat → Nat → Nat) (n3 : Nat × Nat) (L3 : List Nat) (f3 : Nat → va_E) (g3 : Nat → Int64), Wh D K s.heap.size sa s H locs L3 f3 ∧ PW K ad3 (isn n3) S1 L3 f3 ∧ S1.2.2.1 = n3 ∧ 0 < n3.1 ∧ o ∈ L3 ∧ (∀ a i : Nat, isn n3 a i → ad3 a i ≠ o) ∧ f3 o = .inl (K 6, 1, .inr (.inl g3)) ∧ lv_has ls 7 [(0, .ref b), (1, .ref (ad3 0 0)), (2, .ref (ad3 40 0)), (3, .ref o), (4, .int (nI i))] := ⟨ad2, S1.2.2.1, L2, f2, g1, w, hw2, rfl, (hG2.1 25 0 hprobe).1, (hG2.2 o hmo).1, hno2, hfo2, (by rw [(hG2.1 0 0 (isn_f rfl rfl (by decide))).2, (hG2.1 40 0 (isn_f rfl rfl (by decide))).2]; exact hl)⟩
  refine lv_istore (lv' := [(5, .int (if ec = 0 then 0 else 1)), (0, .ref b), (1, .ref (ad 0 0)), (2, .ref (ad 40 0)), (3, .ref o), (4, .int (nI i))]) hx hb dL_law_725 hl (by decide) rfl (fun ls hl => ?_)
  refine lv_aload_n hx hb dL_law_727 rfl (lv_at hl 3 rfl) ?_
  refine lv_aload_n hx hb dL_law_728 rfl (lv_at hl 1 rfl) ?_
  refine lv_iload hx hb dL_law_729 (lv_at hl 5 rfl) ?_
  refine lv_iconst (v := 1) hx hb dL_law_731 (by decide) ?_
  refine lv_iadd hx hb dL_law_732 ?_
  rw [show nI i + (1 : Int32) = nI (i + 1) from nI_ad2 i 1]
  refine t_sld hx hb hX hbl w (j := i + 1) (nI_clamp (by omega)) (vp_in_nI (by omega) (by omega)) dL_law_733 ?_
  refine u_callV (n := 1) C w hw (isn_f rfl rfl (by decide)) rfl rfl rfl (c_X7_force l D K _ sa _ L _ ad (isn n) (fun _ _ h => h) S1 hw hn (xs (i + 1)) v2 S2 h2) gw_1437 gw_1434 gw_1435 gw_1436 gw_8 ⟨by decide, by decide, by decide +kernel⟩ rfl rfl ⟨Nat.le_of_ble_eq_true rfl, Nat.le_of_ble_eq_true rfl⟩ rfl hl.1 rfl (Nat.le_of_ble_eq_true rfl) dL_law_734 ⟨by show cells + 1 + 0 ≤ 601024; omega, by show slots + 6 + 0 ≤ 7293034; omega⟩ (fun v9 u H locs hp w => ?_)
  obtain ⟨f2, rfl, rfl, hw2, hn2, hk1⟩ := hp
  have hfo := (hk1 o hmo hno).trans hfo
  have hw := hw2
  have hn := hn2
  clear hw2 hn2
  generalize f2 = f at w hw hfo
  refine lv_istore (lv' := [(6, .int v2), (5, .int (if ec = 0 then 0 else 1)), (0, .ref b), (1, .ref (ad 0 0)), (2, .ref (ad 40 0)), (3, .ref o), (4, .int (nI i))]) hx hb dL_law_737 hl (by decide) rfl (fun ls hl => ?_)
  refine lv_goto (tgt := 1592) hx hb dL_law_739 (by decide) ?_
  exact W.widen (k := cells + 6) (n := slots + 307) (by omega) (by omega) (kk ad n L f H locs ls ⟨w, hw, hn, hprobe, hmo, hno, _, hfo⟩ (lv_sub hl [2, 3, 4, 5, 6] rfl))
theorem dL_law_742 : decode cL_law 742 = .ok (.aload_n 1, 1) := by decide +kernel
theorem dL_law_743 : decode cL_law 743 = .ok (.aload_n 0, 1) := by decide +kernel
theorem dL_law_744 : decode cL_law 744 = .ok (.iload 4, 2) := by decide +kernel
theorem dL_law_746 : decode cL_law 746 = .ok (.iconst 1, 1) := by decide +kernel
theorem dL_law_747 : decode cL_law 747 = .ok (.iadd, 1) := by decide +kernel
theorem dL_law_748 : decode cL_law 748 = .ok (.iaload, 1) := by decide +kernel
theorem dL_law_749 : decode cL_law 749 = .ok (.aload_n 0, 1) := by decide +kernel
theorem dL_law_750 : decode cL_law 750 = .ok (.iload 4, 2) := by decide +kernel
theorem dL_law_752 : decode cL_law 752 = .ok (.iconst 2, 1) := by decide +kernel
theorem dL_law_753 : decode cL_law 753 = .ok (.iadd, 1) := by decide +kernel
theorem dL_law_754 : decode cL_law 754 = .ok (.iaload, 1) := by decide +kernel
theorem dL_law_755 : decode cL_law 755 = .ok (.aload_n 3, 1) := by decide +kernel
theorem dL_law_756 : decode cL_law 756 = .ok (.invokestatic 156, 3) := by decide +kernel
theorem dL_law_759 : decode cL_law 759 = .ok (.istore 5, 2) := by decide +kernel
theorem dL_law_761 : decode cL_law 761 = .ok (.aload_n 2, 1) := by decide +kernel
theorem dL_law_762 : decode cL_law 762 = .ok (.aload_n 0, 1) := by decide +kernel
theorem dL_law_763 : decode cL_law 763 = .ok (.iload 4, 2) := by decide +kernel
theorem dL_law_765 : decode cL_law 765 = .ok (.iconst 1, 1) := by decide +kernel
theorem dL_law_766 : decode cL_law 766 = .ok (.iadd, 1) := by decide +kernel
theorem dL_law_767 : decode cL_law 767 = .ok (.iaload, 1) := by decide +kernel
theorem dL_law_768 : decode cL_law 768 = .ok (.aload_n 0, 1) := by decide +kernel
theorem dL_law_769 : decode cL_law 769 = .ok (.iload 4, 2) := by decide +kernel
theorem dL_law_771 : decode cL_law 771 = .ok (.iconst 2, 1) := by decide +kernel
theorem dL_law_772 : decode cL_law 772 = .ok (.iadd, 1) := by decide +kernel
theorem dL_law_773 : decode cL_law 773 = .ok (.iaload, 1) := by decide +kernel
theorem dL_law_774 : decode cL_law 774 = .ok (.invokevirtual 158, 3) := by decide +kernel
theorem dL_law_777 : decode cL_law 777 = .ok (.istore 6, 2) := by decide +kernel
theorem dL_law_779 : decode cL_law 779 = .ok (.goto 813, 3) := by decide +kernel
set_option maxHeartbeats 4000000 in
set_option maxRecDepth 100000 in
theorem arm_12 {p : Program} {l : Launch} {e : Env} {s : State} {m : MethodId} {below : List Frame} {meth : Method} {c : Code} {b N : Nat} {xs : Nat → Int32} {D : va_G} {K : Nat → ClassId} {sa : sT} {o i : Nat} {cells slots : Nat} {Q : State → Prop} (hls : l.stackTraces = false) (A : LwC p s m meth c b N xs) (hi : i + 6 ≤ N) {S S1 S2 : fS} {ec : Nat} {v v2 : Int32} (hec : ec = 0 ∨ ec = 1) (h1 : F_X6_tells (xs (i + 1)) (xs (i + 2)) S = some ((ec, v), S1)) (h2 : F_X7_tells (xs (i + 1)) (xs (i + 2)) S1 = some (v2, S2)) (hc : cells + 6 ≤ 601024) (hs : slots + 307 ≤ 7293034) (kk : LwK D K sa p l e s m below meth c b o i S2 (cells + 6) (slots + 307) Q 1592) : LwK D K sa p l e s m below meth c b o i S cells slots Q 742 := by
  intro ad n L f H locs ls B hl
  obtain ⟨C, hX, hbl, hrt, hlk, hNm⟩ := A
  obtain ⟨w, hw, hn, hprobe, hmo, hno, g0, hfo⟩ := B
  have hx := C.1
  have hb := C.2.1
  refine lv_aload_n hx hb dL_law_742 rfl (lv_at hl 1 rfl) ?_
  refine lv_aload_n hx hb dL_law_743 rfl (lv_at hl 0 rfl) ?_
  refine lv_iload hx hb dL_law_744 (lv_at hl 4 rfl) ?_
  refine lv_iconst (v := 1) hx hb dL_law_746 (by decide) ?_
  refine lv_iadd hx hb dL_law_747 ?_
  rw [show nI i + (1 : Int32) = nI (i + 1) from nI_ad2 i 1]
  refine t_sld hx hb hX hbl w (j := i + 1) (nI_clamp (by omega)) (vp_in_nI (by omega) (by omega)) dL_law_748 ?_
  refine lv_aload_n hx hb dL_law_749 rfl (lv_at hl 0 rfl) ?_
  refine lv_iload hx hb dL_law_750 (lv_at hl 4 rfl) ?_
  refine lv_iconst (v := 2) hx hb dL_law_752 (by decide) ?_
  refine lv_iadd hx hb dL_law_753 ?_
  rw [show nI i + (2 : Int32) = nI (i + 2) from nI_ad2 i 2]
  refine t_sld hx hb hX hbl w (j := i + 2) (nI_clamp (by omega)) (vp_in_nI (by omega) (by omega)) dL_law_754 ?_
  refine lv_aload_n hx hb dL_law_755 rfl (lv_at hl 3 rfl) ?_
  refine t_callH (n := 4) C w (c_L_tells l hls D K _ sa _ L f ad n S hw hn hprobe (xs (i + 1)) (xs (i + 2)) o hmo hno g0 hfo ec hec v S1 h1) gw_932 gw_930 gw_931 gw_0 ⟨by decide, by decide, by decide +kernel⟩ rfl rfl ⟨Nat.le_of_ble_eq_true rfl, Nat.le_of_ble_eq_true rfl⟩ rfl hl.1 rfl (Nat.le_of_ble_eq_true rfl) dL_law_756 ⟨by show cells + 1 ≤ 601024; omega, by show slots + 6 ≤ 7293034; omega⟩ (fun v9 u H locs hp w => ?_)
  obtain ⟨ad2, L2, f2, g1, rfl, rfl, hw2, hG2, hno2, hfo2, hgv⟩ := hp
  obtain ⟨ad, n, L, f, g0, w, hw, hn, hprobe, hmo, hno, hfo, hl⟩ : ∃ (ad3 : Nat → Nat → Nat) (n3 : Nat × Nat) (L3 : List Nat) (f3 : Nat → va_E) (g3 : Nat → Int64), Wh D K s.heap.size sa s H locs L3 f3 ∧ PW K ad3 (isn n3) S1 L3 f3 ∧ S1.2.2.1 = n3 ∧ 0 < n3.1 ∧ o ∈ L3 ∧ (∀ a i : Nat, isn n3 a i → ad3 a i ≠ o) ∧ f3 o = .inl (K 6, 1, .inr (.inl g3)) ∧ lv_has ls 7 [(0, .ref b), (1, .ref (ad3 0 0)), (2, .ref (ad3 40 0)), (3, .ref o), (4, .int (nI i))] := ⟨ad2, S1.2.2.1, L2, f2, g1, w, hw2, rfl, (hG2.1 25 0 hprobe).1, (hG2.2 o hmo).1, hno2, hfo2, (by rw [(hG2.1 0 0 (isn_f rfl rfl (by decide))).2, (hG2.1 40 0 (isn_f rfl rfl (by decide))).2]; exact hl)⟩
  refine lv_istore (lv' := [(5, .int (if ec = 0 then 0 else 1)), (0, .ref b), (1, .ref (ad 0 0)), (2, .ref (ad 40 0)), (3, .ref o), (4, .int (nI i))]) hx hb dL_law_759 hl (by decide) rfl (fun ls hl => ?_)
  refine lv_aload_n hx hb dL_law_761 rfl (lv_at hl 3 rfl) ?_
  refine lv_aload_n hx hb dL_law_762 rfl (lv_at hl 1 rfl) ?_
  refine lv_iload hx hb dL_law_763 (lv_at hl 5 rfl) ?_
  refine lv_iconst (v := 1) hx hb dL_law_765 (by decide) ?_
  refine lv_iadd hx hb dL_law_766 ?_
  rw [show nI i + (1 : Int32) = nI (i + 1) from nI_ad2 i 1]
  refine t_sld hx hb hX hbl w (j := i + 1) (nI_clamp (by omega)) (vp_in_nI (by omega) (by omega)) dL_law_767 ?_
  refine lv_aload_n hx hb dL_law_768 rfl (lv_at hl 1 rfl) ?_
  refine lv_iload hx hb dL_law_769 (lv_at hl 5 rfl) ?_
  refine lv_iconst (v := 2) hx hb dL_law_771 (by decide) ?_
  refine lv_iadd hx hb dL_law_772 ?_
  rw [show nI i + (2 : Int32) = nI (i + 2) from nI_ad2 i 2]
  refine t_sld hx hb hX hbl w (j := i + 2) (nI_clamp (by omega)) (vp_in_nI (by omega) (by omega)) dL_law_773 ?_
  refine u_callV (n := 2) C w hw (isn_f rfl rfl (by decide)) rfl rfl rfl (c_X7_tells l D K _ sa _ L _ ad (isn n) (fun _ _ h => h) S1 hw hn (xs (i + 1)) (xs (i + 2)) v2 S2 h2) gw_1441 gw_1438 gw_1439 gw_1440 gw_8 ⟨by decide, by decide, by decide +kernel⟩ rfl rfl ⟨Nat.le_of_ble_eq_true rfl, Nat.le_of_ble_eq_true rfl⟩ rfl hl.1 rfl (Nat.le_of_ble_eq_true rfl) dL_law_774 ⟨by show cells + 1 + 0 ≤ 601024; omega, by show slots + 6 + 0 ≤ 7293034; omega⟩ (fun v9 u H locs hp w => ?_)
  obtain ⟨f2, rfl, rfl, hw2, hn2, hk1⟩ := hp
  have hfo := (hk1 o hmo hno).trans hfo
  have hw := hw2
  have hn := hn2
  clear hw2 hn2
  generalize f2 = f at w hw hfo
  refine lv_istore (lv' := [(6, .int v2), (5, .int (if ec = 0 then 0 else 1)), (0, .ref b), (1, .ref (ad 0 0)), (2, .ref (ad 40 0)), (3, .ref o), (4, .int (nI i))]) hx hb dL_law_777 hl (by decide) rfl (fun ls hl => ?_)
  refine lv_goto (tgt := 1592) hx hb dL_law_779 (by decide) ?_
  exact W.widen (k := cells + 6) (n := slots + 307) (by omega) (by omega) (kk ad n L f H locs ls ⟨w, hw, hn, hprobe, hmo, hno, _, hfo⟩ (lv_sub hl [2, 3, 4, 5, 6] rfl))
theorem dL_law_782 : decode cL_law 782 = .ok (.aload_n 1, 1) := by decide +kernel
theorem dL_law_783 : decode cL_law 783 = .ok (.aload_n 0, 1) := by decide +kernel
theorem dL_law_784 : decode cL_law 784 = .ok (.iload 4, 2) := by decide +kernel
theorem dL_law_786 : decode cL_law 786 = .ok (.iconst 1, 1) := by decide +kernel
theorem dL_law_787 : decode cL_law 787 = .ok (.iadd, 1) := by decide +kernel
theorem dL_law_788 : decode cL_law 788 = .ok (.iaload, 1) := by decide +kernel
theorem dL_law_789 : decode cL_law 789 = .ok (.aload_n 3, 1) := by decide +kernel
theorem dL_law_790 : decode cL_law 790 = .ok (.invokestatic 159, 3) := by decide +kernel
theorem dL_law_793 : decode cL_law 793 = .ok (.istore 5, 2) := by decide +kernel
theorem dL_law_795 : decode cL_law 795 = .ok (.aload_n 2, 1) := by decide +kernel
theorem dL_law_796 : decode cL_law 796 = .ok (.aload_n 0, 1) := by decide +kernel
theorem dL_law_797 : decode cL_law 797 = .ok (.iload 4, 2) := by decide +kernel
theorem dL_law_799 : decode cL_law 799 = .ok (.iconst 1, 1) := by decide +kernel
theorem dL_law_800 : decode cL_law 800 = .ok (.iadd, 1) := by decide +kernel
theorem dL_law_801 : decode cL_law 801 = .ok (.iaload, 1) := by decide +kernel
theorem dL_law_802 : decode cL_law 802 = .ok (.invokevirtual 161, 3) := by decide +kernel
theorem dL_law_805 : decode cL_law 805 = .ok (.istore 6, 2) := by decide +kernel
theorem dL_law_807 : decode cL_law 807 = .ok (.goto 785, 3) := by decide +kernel
set_option maxHeartbeats 4000000 in
set_option maxRecDepth 100000 in
theorem arm_13 {p : Program} {l : Launch} {e : Env} {s : State} {m : MethodId} {below : List Frame} {meth : Method} {c : Code} {b N : Nat} {xs : Nat → Int32} {D : va_G} {K : Nat → ClassId} {sa : sT} {o i : Nat} {cells slots : Nat} {Q : State → Prop} (hls : l.stackTraces = false) (A : LwC p s m meth c b N xs) (hi : i + 6 ≤ N) {S S1 S2 : fS} {ec : Nat} {v v2 : Int32} (hec : ec = 0 ∨ ec = 2) (h1 : F_X6_attempt (xs (i + 1)) S = some ((ec, v), S1)) (h2 : F_X7_attempt (xs (i + 1)) S1 = some (v2, S2)) (hc : cells + 6 ≤ 601024) (hs : slots + 307 ≤ 7293034) (kk : LwK D K sa p l e s m below meth c b o i S2 (cells + 6) (slots + 307) Q 1592) : LwK D K sa p l e s m below meth c b o i S cells slots Q 782 := by
  intro ad n L f H locs ls B hl
  obtain ⟨C, hX, hbl, hrt, hlk, hNm⟩ := A
  obtain ⟨w, hw, hn, hprobe, hmo, hno, g0, hfo⟩ := B
  have hx := C.1
  have hb := C.2.1
  refine lv_aload_n hx hb dL_law_782 rfl (lv_at hl 1 rfl) ?_
  refine lv_aload_n hx hb dL_law_783 rfl (lv_at hl 0 rfl) ?_
  refine lv_iload hx hb dL_law_784 (lv_at hl 4 rfl) ?_
  refine lv_iconst (v := 1) hx hb dL_law_786 (by decide) ?_
  refine lv_iadd hx hb dL_law_787 ?_
  rw [show nI i + (1 : Int32) = nI (i + 1) from nI_ad2 i 1]
  refine t_sld hx hb hX hbl w (j := i + 1) (nI_clamp (by omega)) (vp_in_nI (by omega) (by omega)) dL_law_788 ?_
  refine lv_aload_n hx hb dL_law_789 rfl (lv_at hl 3 rfl) ?_
  refine t_callH (n := 3) C w (c_L_attempt l hls D K _ sa _ L f ad n S hw hn hprobe (xs (i + 1)) o hmo hno g0 hfo ec hec v S1 h1) gw_939 gw_937 gw_938 gw_0 ⟨by decide, by decide, by decide +kernel⟩ rfl rfl ⟨Nat.le_of_ble_eq_true rfl, Nat.le_of_ble_eq_true rfl⟩ rfl hl.1 rfl (Nat.le_of_ble_eq_true rfl) dL_law_790 ⟨by show cells + 3 ≤ 601024; omega, by show slots + 28 ≤ 7293034; omega⟩ (fun v9 u H locs hp w => ?_)
  obtain ⟨ad2, L2, f2, g1, rfl, rfl, hw2, hG2, hno2, hfo2, hgv⟩ := hp
  obtain ⟨ad, n, L, f, g0, w, hw, hn, hprobe, hmo, hno, hfo, hl⟩ : ∃ (ad3 : Nat → Nat → Nat) (n3 : Nat × Nat) (L3 : List Nat) (f3 : Nat → va_E) (g3 : Nat → Int64), Wh D K s.heap.size sa s H locs L3 f3 ∧ PW K ad3 (isn n3) S1 L3 f3 ∧ S1.2.2.1 = n3 ∧ 0 < n3.1 ∧ o ∈ L3 ∧ (∀ a i : Nat, isn n3 a i → ad3 a i ≠ o) ∧ f3 o = .inl (K 6, 1, .inr (.inl g3)) ∧ lv_has ls 7 [(0, .ref b), (1, .ref (ad3 0 0)), (2, .ref (ad3 40 0)), (3, .ref o), (4, .int (nI i))] := ⟨ad2, S1.2.2.1, L2, f2, g1, w, hw2, rfl, (hG2.1 25 0 hprobe).1, (hG2.2 o hmo).1, hno2, hfo2, (by rw [(hG2.1 0 0 (isn_f rfl rfl (by decide))).2, (hG2.1 40 0 (isn_f rfl rfl (by decide))).2]; exact hl)⟩
  refine lv_istore (lv' := [(5, .int (if ec = 0 then 0 else 1)), (0, .ref b), (1, .ref (ad 0 0)), (2, .ref (ad 40 0)), (3, .ref o), (4, .int (nI i))]) hx hb dL_law_793 hl (by decide) rfl (fun ls hl => ?_)
  refine lv_aload_n hx hb dL_law_795 rfl (lv_at hl 3 rfl) ?_
  refine lv_aload_n hx hb dL_law_796 rfl (lv_at hl 1 rfl) ?_
  refine lv_iload hx hb dL_law_797 (lv_at hl 5 rfl) ?_
  refine lv_iconst (v := 1) hx hb dL_law_799 (by decide) ?_
  refine lv_iadd hx hb dL_law_800 ?_
  rw [show nI i + (1 : Int32) = nI (i + 1) from nI_ad2 i 1]
  refine t_sld hx hb hX hbl w (j := i + 1) (nI_clamp (by omega)) (vp_in_nI (by omega) (by omega)) dL_law_801 ?_
  refine u_callV (n := 1) C w hw (isn_f rfl rfl (by decide)) rfl rfl rfl (c_X7_attempt l D K _ sa _ L f ad n S1 hw hn hprobe (xs (i + 1)) v2 S2 h2) gw_1515 gw_1512 gw_1513 gw_1514 gw_8 ⟨by decide, by decide, by decide +kernel⟩ rfl rfl ⟨Nat.le_of_ble_eq_true rfl, Nat.le_of_ble_eq_true rfl⟩ rfl hl.1 rfl (Nat.le_of_ble_eq_true rfl) dL_law_802 ⟨by show cells + 3 + 2 ≤ 601024; omega, by show slots + 28 + 72 ≤ 7293034; omega⟩ (fun v9 u H locs hp w => ?_)
  obtain ⟨ad2, L2, f2, rfl, rfl, hw2, hG2⟩ := hp
  have z9 := (hG2.2 o hmo).2 hno (fun z => z)
  have hno2 := z9.2
  have hfo2 := z9.1.trans hfo
  obtain ⟨ad, n, L, f, g0, w, hw, hn, hprobe, hmo, hno, hfo, hl⟩ : ∃ (ad3 : Nat → Nat → Nat) (n3 : Nat × Nat) (L3 : List Nat) (f3 : Nat → va_E) (g3 : Nat → Int64), Wh D K s.heap.size sa s H locs L3 f3 ∧ PW K ad3 (isn n3) S2 L3 f3 ∧ S2.2.2.1 = n3 ∧ 0 < n3.1 ∧ o ∈ L3 ∧ (∀ a i : Nat, isn n3 a i → ad3 a i ≠ o) ∧ f3 o = .inl (K 6, 1, .inr (.inl g3)) ∧ lv_has ls 7 [(5, .int (if ec = 0 then 0 else 1)), (0, .ref b), (1, .ref (ad3 0 0)), (2, .ref (ad3 40 0)), (3, .ref o), (4, .int (nI i))] := ⟨ad2, S2.2.2.1, L2, f2, _, w, hw2, rfl, (hG2.1 25 0 hprobe).1, (hG2.2 o hmo).1, hno2, hfo2, (by rw [(hG2.1 0 0 (isn_f rfl rfl (by decide))).2, (hG2.1 40 0 (isn_f rfl rfl (by decide))).2]; exact hl)⟩
  refine lv_istore (lv' := [(6, .int v2), (5, .int (if ec = 0 then 0 else 1)), (0, .ref b), (1, .ref (ad 0 0)), (2, .ref (ad 40 0)), (3, .ref o), (4, .int (nI i))]) hx hb dL_law_805 hl (by decide) rfl (fun ls hl => ?_)
  refine lv_goto (tgt := 1592) hx hb dL_law_807 (by decide) ?_
  exact W.widen (k := cells + 6) (n := slots + 307) (by omega) (by omega) (kk ad n L f H locs ls ⟨w, hw, hn, hprobe, hmo, hno, _, hfo⟩ (lv_sub hl [2, 3, 4, 5, 6] rfl))
theorem dL_law_810 : decode cL_law 810 = .ok (.aload_n 1, 1) := by decide +kernel
theorem dL_law_811 : decode cL_law 811 = .ok (.aload_n 0, 1) := by decide +kernel
theorem dL_law_812 : decode cL_law 812 = .ok (.iload 4, 2) := by decide +kernel
theorem dL_law_814 : decode cL_law 814 = .ok (.iconst 1, 1) := by decide +kernel
theorem dL_law_815 : decode cL_law 815 = .ok (.iadd, 1) := by decide +kernel
theorem dL_law_816 : decode cL_law 816 = .ok (.iaload, 1) := by decide +kernel
theorem dL_law_817 : decode cL_law 817 = .ok (.aload_n 0, 1) := by decide +kernel
theorem dL_law_818 : decode cL_law 818 = .ok (.iload 4, 2) := by decide +kernel
theorem dL_law_820 : decode cL_law 820 = .ok (.iconst 2, 1) := by decide +kernel
theorem dL_law_821 : decode cL_law 821 = .ok (.iadd, 1) := by decide +kernel
theorem dL_law_822 : decode cL_law 822 = .ok (.iaload, 1) := by decide +kernel
theorem dL_law_823 : decode cL_law 823 = .ok (.aload_n 3, 1) := by decide +kernel
theorem dL_law_824 : decode cL_law 824 = .ok (.invokestatic 162, 3) := by decide +kernel
theorem dL_law_827 : decode cL_law 827 = .ok (.istore 5, 2) := by decide +kernel
theorem dL_law_829 : decode cL_law 829 = .ok (.aload_n 2, 1) := by decide +kernel
theorem dL_law_830 : decode cL_law 830 = .ok (.aload_n 0, 1) := by decide +kernel
theorem dL_law_831 : decode cL_law 831 = .ok (.iload 4, 2) := by decide +kernel
theorem dL_law_833 : decode cL_law 833 = .ok (.iconst 1, 1) := by decide +kernel
theorem dL_law_834 : decode cL_law 834 = .ok (.iadd, 1) := by decide +kernel
theorem dL_law_835 : decode cL_law 835 = .ok (.iaload, 1) := by decide +kernel
theorem dL_law_836 : decode cL_law 836 = .ok (.aload_n 0, 1) := by decide +kernel
theorem dL_law_837 : decode cL_law 837 = .ok (.iload 4, 2) := by decide +kernel
theorem dL_law_839 : decode cL_law 839 = .ok (.iconst 2, 1) := by decide +kernel
theorem dL_law_840 : decode cL_law 840 = .ok (.iadd, 1) := by decide +kernel
theorem dL_law_841 : decode cL_law 841 = .ok (.iaload, 1) := by decide +kernel
theorem dL_law_842 : decode cL_law 842 = .ok (.invokevirtual 164, 3) := by decide +kernel
theorem dL_law_845 : decode cL_law 845 = .ok (.istore 6, 2) := by decide +kernel
theorem dL_law_847 : decode cL_law 847 = .ok (.goto 745, 3) := by decide +kernel
set_option maxHeartbeats 4000000 in
set_option maxRecDepth 100000 in
theorem arm_14 {p : Program} {l : Launch} {e : Env} {s : State} {m : MethodId} {below : List Frame} {meth : Method} {c : Code} {b N : Nat} {xs : Nat → Int32} {D : va_G} {K : Nat → ClassId} {sa : sT} {o i : Nat} {cells slots : Nat} {Q : State → Prop} (hls : l.stackTraces = false) (A : LwC p s m meth c b N xs) (hi : i + 6 ≤ N) {S S1 S2 : fS} {ec : Nat} {v v2 : Int32} (hec : ec = 0 ∨ ec = 1 ∨ ec = 3) (h1 : F_X6_record (xs (i + 1)) (xs (i + 2)) S = some ((ec, v), S1)) (h2 : F_X7_record (xs (i + 1)) (xs (i + 2)) S1 = some (v2, S2)) (hc : cells + 6 ≤ 601024) (hs : slots + 307 ≤ 7293034) (kk : LwK D K sa p l e s m below meth c b o i S2 (cells + 6) (slots + 307) Q 1592) : LwK D K sa p l e s m below meth c b o i S cells slots Q 810 := by
  intro ad n L f H locs ls B hl
  obtain ⟨C, hX, hbl, hrt, hlk, hNm⟩ := A
  obtain ⟨w, hw, hn, hprobe, hmo, hno, g0, hfo⟩ := B
  have hx := C.1
  have hb := C.2.1
  refine lv_aload_n hx hb dL_law_810 rfl (lv_at hl 1 rfl) ?_
  refine lv_aload_n hx hb dL_law_811 rfl (lv_at hl 0 rfl) ?_
  refine lv_iload hx hb dL_law_812 (lv_at hl 4 rfl) ?_
  refine lv_iconst (v := 1) hx hb dL_law_814 (by decide) ?_
  refine lv_iadd hx hb dL_law_815 ?_
  rw [show nI i + (1 : Int32) = nI (i + 1) from nI_ad2 i 1]
  refine t_sld hx hb hX hbl w (j := i + 1) (nI_clamp (by omega)) (vp_in_nI (by omega) (by omega)) dL_law_816 ?_
  refine lv_aload_n hx hb dL_law_817 rfl (lv_at hl 0 rfl) ?_
  refine lv_iload hx hb dL_law_818 (lv_at hl 4 rfl) ?_
  refine lv_iconst (v := 2) hx hb dL_law_820 (by decide) ?_
  refine lv_iadd hx hb dL_law_821 ?_
  rw [show nI i + (2 : Int32) = nI (i + 2) from nI_ad2 i 2]
  refine t_sld hx hb hX hbl w (j := i + 2) (nI_clamp (by omega)) (vp_in_nI (by omega) (by omega)) dL_law_822 ?_
  refine lv_aload_n hx hb dL_law_823 rfl (lv_at hl 3 rfl) ?_
  refine t_callH (n := 4) C w (c_L_record l hls D K _ sa _ L f ad n S hw hn hprobe (xs (i + 1)) (xs (i + 2)) o hmo hno g0 hfo ec hec v S1 h1) gw_982 gw_980 gw_981 gw_0 ⟨by decide, by decide, by decide +kernel⟩ rfl rfl ⟨Nat.le_of_ble_eq_true rfl, Nat.le_of_ble_eq_true rfl⟩ rfl hl.1 rfl (Nat.le_of_ble_eq_true rfl) dL_law_824 ⟨by show cells + 2 ≤ 601024; omega, by show slots + 12 ≤ 7293034; omega⟩ (fun v9 u H locs hp w => ?_)
  obtain ⟨ad2, L2, f2, g1, rfl, rfl, hw2, hG2, hno2, hfo2, hgv⟩ := hp
  obtain ⟨ad, n, L, f, g0, w, hw, hn, hprobe, hmo, hno, hfo, hl⟩ : ∃ (ad3 : Nat → Nat → Nat) (n3 : Nat × Nat) (L3 : List Nat) (f3 : Nat → va_E) (g3 : Nat → Int64), Wh D K s.heap.size sa s H locs L3 f3 ∧ PW K ad3 (isn n3) S1 L3 f3 ∧ S1.2.2.1 = n3 ∧ 0 < n3.1 ∧ o ∈ L3 ∧ (∀ a i : Nat, isn n3 a i → ad3 a i ≠ o) ∧ f3 o = .inl (K 6, 1, .inr (.inl g3)) ∧ lv_has ls 7 [(0, .ref b), (1, .ref (ad3 0 0)), (2, .ref (ad3 40 0)), (3, .ref o), (4, .int (nI i))] := ⟨ad2, S1.2.2.1, L2, f2, g1, w, hw2, rfl, (hG2.1 25 0 hprobe).1, (hG2.2 o hmo).1, hno2, hfo2, (by rw [(hG2.1 0 0 (isn_f rfl rfl (by decide))).2, (hG2.1 40 0 (isn_f rfl rfl (by decide))).2]; exact hl)⟩
  refine lv_istore (lv' := [(5, .int (if ec = 0 then 0 else if ec = 1 then 2 else 1)), (0, .ref b), (1, .ref (ad 0 0)), (2, .ref (ad 40 0)), (3, .ref o), (4, .int (nI i))]) hx hb dL_law_827 hl (by decide) rfl (fun ls hl => ?_)
  refine lv_aload_n hx hb dL_law_829 rfl (lv_at hl 3 rfl) ?_
  refine lv_aload_n hx hb dL_law_830 rfl (lv_at hl 1 rfl) ?_
  refine lv_iload hx hb dL_law_831 (lv_at hl 5 rfl) ?_
  refine lv_iconst (v := 1) hx hb dL_law_833 (by decide) ?_
  refine lv_iadd hx hb dL_law_834 ?_
  rw [show nI i + (1 : Int32) = nI (i + 1) from nI_ad2 i 1]
  refine t_sld hx hb hX hbl w (j := i + 1) (nI_clamp (by omega)) (vp_in_nI (by omega) (by omega)) dL_law_835 ?_
  refine lv_aload_n hx hb dL_law_836 rfl (lv_at hl 1 rfl) ?_
  refine lv_iload hx hb dL_law_837 (lv_at hl 5 rfl) ?_
  refine lv_iconst (v := 2) hx hb dL_law_839 (by decide) ?_
  refine lv_iadd hx hb dL_law_840 ?_
  rw [show nI i + (2 : Int32) = nI (i + 2) from nI_ad2 i 2]
  refine t_sld hx hb hX hbl w (j := i + 2) (nI_clamp (by omega)) (vp_in_nI (by omega) (by omega)) dL_law_841 ?_
  refine u_callV (n := 2) C w hw (isn_f rfl rfl (by decide)) rfl rfl rfl (c_X7_record l D K _ sa _ L _ ad (isn n) (fun _ _ h => h) S1 hw hn (xs (i + 1)) (xs (i + 2)) v2 S2 h2) gw_1561 gw_1558 gw_1559 gw_1560 gw_8 ⟨by decide, by decide, by decide +kernel⟩ rfl rfl ⟨Nat.le_of_ble_eq_true rfl, Nat.le_of_ble_eq_true rfl⟩ rfl hl.1 rfl (Nat.le_of_ble_eq_true rfl) dL_law_842 ⟨by show cells + 2 + 0 ≤ 601024; omega, by show slots + 12 + 0 ≤ 7293034; omega⟩ (fun v9 u H locs hp w => ?_)
  obtain ⟨f2, rfl, rfl, hw2, hn2, hk1⟩ := hp
  have hfo := (hk1 o hmo hno).trans hfo
  have hw := hw2
  have hn := hn2
  clear hw2 hn2
  generalize f2 = f at w hw hfo
  refine lv_istore (lv' := [(6, .int v2), (5, .int (if ec = 0 then 0 else if ec = 1 then 2 else 1)), (0, .ref b), (1, .ref (ad 0 0)), (2, .ref (ad 40 0)), (3, .ref o), (4, .int (nI i))]) hx hb dL_law_845 hl (by decide) rfl (fun ls hl => ?_)
  refine lv_goto (tgt := 1592) hx hb dL_law_847 (by decide) ?_
  exact W.widen (k := cells + 6) (n := slots + 307) (by omega) (by omega) (kk ad n L f H locs ls ⟨w, hw, hn, hprobe, hmo, hno, _, hfo⟩ (lv_sub hl [2, 3, 4, 5, 6] rfl))
theorem dL_law_850 : decode cL_law 850 = .ok (.aload_n 1, 1) := by decide +kernel
theorem dL_law_851 : decode cL_law 851 = .ok (.aload_n 0, 1) := by decide +kernel
theorem dL_law_852 : decode cL_law 852 = .ok (.iload 4, 2) := by decide +kernel
theorem dL_law_854 : decode cL_law 854 = .ok (.iconst 1, 1) := by decide +kernel
theorem dL_law_855 : decode cL_law 855 = .ok (.iadd, 1) := by decide +kernel
theorem dL_law_856 : decode cL_law 856 = .ok (.iaload, 1) := by decide +kernel
theorem dL_law_857 : decode cL_law 857 = .ok (.aload_n 3, 1) := by decide +kernel
theorem dL_law_858 : decode cL_law 858 = .ok (.invokestatic 165, 3) := by decide +kernel
theorem dL_law_861 : decode cL_law 861 = .ok (.istore 5, 2) := by decide +kernel
theorem dL_law_863 : decode cL_law 863 = .ok (.aload_n 2, 1) := by decide +kernel
theorem dL_law_864 : decode cL_law 864 = .ok (.aload_n 0, 1) := by decide +kernel
theorem dL_law_865 : decode cL_law 865 = .ok (.iload 4, 2) := by decide +kernel
theorem dL_law_867 : decode cL_law 867 = .ok (.iconst 1, 1) := by decide +kernel
theorem dL_law_868 : decode cL_law 868 = .ok (.iadd, 1) := by decide +kernel
theorem dL_law_869 : decode cL_law 869 = .ok (.iaload, 1) := by decide +kernel
theorem dL_law_870 : decode cL_law 870 = .ok (.invokevirtual 167, 3) := by decide +kernel
theorem dL_law_873 : decode cL_law 873 = .ok (.istore 6, 2) := by decide +kernel
theorem dL_law_875 : decode cL_law 875 = .ok (.goto 717, 3) := by decide +kernel
set_option maxHeartbeats 4000000 in
set_option maxRecDepth 100000 in
theorem arm_15 {p : Program} {l : Launch} {e : Env} {s : State} {m : MethodId} {below : List Frame} {meth : Method} {c : Code} {b N : Nat} {xs : Nat → Int32} {D : va_G} {K : Nat → ClassId} {sa : sT} {o i : Nat} {cells slots : Nat} {Q : State → Prop} (hls : l.stackTraces = false) (A : LwC p s m meth c b N xs) (hi : i + 6 ≤ N) {S S1 S2 : fS} {ec : Nat} {v v2 : Int32} (hec : ec = 0 ∨ ec = 1) (h1 : F_X6_hand (xs (i + 1)) S = some ((ec, v), S1)) (h2 : F_X7_hand (xs (i + 1)) S1 = some (v2, S2)) (hc : cells + 6 ≤ 601024) (hs : slots + 307 ≤ 7293034) (kk : LwK D K sa p l e s m below meth c b o i S2 (cells + 6) (slots + 307) Q 1592) : LwK D K sa p l e s m below meth c b o i S cells slots Q 850 := by
  intro ad n L f H locs ls B hl
  obtain ⟨C, hX, hbl, hrt, hlk, hNm⟩ := A
  obtain ⟨w, hw, hn, hprobe, hmo, hno, g0, hfo⟩ := B
  have hx := C.1
  have hb := C.2.1
  refine lv_aload_n hx hb dL_law_850 rfl (lv_at hl 1 rfl) ?_
  refine lv_aload_n hx hb dL_law_851 rfl (lv_at hl 0 rfl) ?_
  refine lv_iload hx hb dL_law_852 (lv_at hl 4 rfl) ?_
  refine lv_iconst (v := 1) hx hb dL_law_854 (by decide) ?_
  refine lv_iadd hx hb dL_law_855 ?_
  rw [show nI i + (1 : Int32) = nI (i + 1) from nI_ad2 i 1]
  refine t_sld hx hb hX hbl w (j := i + 1) (nI_clamp (by omega)) (vp_in_nI (by omega) (by omega)) dL_law_856 ?_
  refine lv_aload_n hx hb dL_law_857 rfl (lv_at hl 3 rfl) ?_
  refine t_callH (n := 3) C w (c_L_hand l hls D K _ sa _ L f ad n S hw hn hprobe (xs (i + 1)) o hmo hno g0 hfo ec hec v S1 h1) gw_993 gw_991 gw_992 gw_0 ⟨by decide, by decide, by decide +kernel⟩ rfl rfl ⟨Nat.le_of_ble_eq_true rfl, Nat.le_of_ble_eq_true rfl⟩ rfl hl.1 rfl (Nat.le_of_ble_eq_true rfl) dL_law_858 ⟨by show cells + 1 ≤ 601024; omega, by show slots + 6 ≤ 7293034; omega⟩ (fun v9 u H locs hp w => ?_)
  obtain ⟨ad2, L2, f2, g1, rfl, rfl, hw2, hG2, hno2, hfo2, hgv⟩ := hp
  obtain ⟨ad, n, L, f, g0, w, hw, hn, hprobe, hmo, hno, hfo, hl⟩ : ∃ (ad3 : Nat → Nat → Nat) (n3 : Nat × Nat) (L3 : List Nat) (f3 : Nat → va_E) (g3 : Nat → Int64), Wh D K s.heap.size sa s H locs L3 f3 ∧ PW K ad3 (isn n3) S1 L3 f3 ∧ S1.2.2.1 = n3 ∧ 0 < n3.1 ∧ o ∈ L3 ∧ (∀ a i : Nat, isn n3 a i → ad3 a i ≠ o) ∧ f3 o = .inl (K 6, 1, .inr (.inl g3)) ∧ lv_has ls 7 [(0, .ref b), (1, .ref (ad3 0 0)), (2, .ref (ad3 40 0)), (3, .ref o), (4, .int (nI i))] := ⟨ad2, S1.2.2.1, L2, f2, g1, w, hw2, rfl, (hG2.1 25 0 hprobe).1, (hG2.2 o hmo).1, hno2, hfo2, (by rw [(hG2.1 0 0 (isn_f rfl rfl (by decide))).2, (hG2.1 40 0 (isn_f rfl rfl (by decide))).2]; exact hl)⟩
  refine lv_istore (lv' := [(5, .int (if ec = 0 then 0 else 1)), (0, .ref b), (1, .ref (ad 0 0)), (2, .ref (ad 40 0)), (3, .ref o), (4, .int (nI i))]) hx hb dL_law_861 hl (by decide) rfl (fun ls hl => ?_)
  refine lv_aload_n hx hb dL_law_863 rfl (lv_at hl 3 rfl) ?_
  refine lv_aload_n hx hb dL_law_864 rfl (lv_at hl 1 rfl) ?_
  refine lv_iload hx hb dL_law_865 (lv_at hl 5 rfl) ?_
  refine lv_iconst (v := 1) hx hb dL_law_867 (by decide) ?_
  refine lv_iadd hx hb dL_law_868 ?_
  rw [show nI i + (1 : Int32) = nI (i + 1) from nI_ad2 i 1]
  refine t_sld hx hb hX hbl w (j := i + 1) (nI_clamp (by omega)) (vp_in_nI (by omega) (by omega)) dL_law_869 ?_
  refine u_callV (n := 1) C w hw (isn_f rfl rfl (by decide)) rfl rfl rfl (c_X7_hand l D K _ sa _ L _ ad (isn n) (fun _ _ h => h) S1 hw hn (xs (i + 1)) v2 S2 h2) gw_1565 gw_1562 gw_1563 gw_1564 gw_8 ⟨by decide, by decide, by decide +kernel⟩ rfl rfl ⟨Nat.le_of_ble_eq_true rfl, Nat.le_of_ble_eq_true rfl⟩ rfl hl.1 rfl (Nat.le_of_ble_eq_true rfl) dL_law_870 ⟨by show cells + 1 + 0 ≤ 601024; omega, by show slots + 6 + 0 ≤ 7293034; omega⟩ (fun v9 u H locs hp w => ?_)
  obtain ⟨f2, rfl, rfl, hw2, hn2, hk1⟩ := hp
  have hfo := (hk1 o hmo hno).trans hfo
  have hw := hw2
  have hn := hn2
  clear hw2 hn2
  generalize f2 = f at w hw hfo
  refine lv_istore (lv' := [(6, .int v2), (5, .int (if ec = 0 then 0 else 1)), (0, .ref b), (1, .ref (ad 0 0)), (2, .ref (ad 40 0)), (3, .ref o), (4, .int (nI i))]) hx hb dL_law_873 hl (by decide) rfl (fun ls hl => ?_)
  refine lv_goto (tgt := 1592) hx hb dL_law_875 (by decide) ?_
  exact W.widen (k := cells + 6) (n := slots + 307) (by omega) (by omega) (kk ad n L f H locs ls ⟨w, hw, hn, hprobe, hmo, hno, _, hfo⟩ (lv_sub hl [2, 3, 4, 5, 6] rfl))
theorem dL_law_878 : decode cL_law 878 = .ok (.aload_n 1, 1) := by decide +kernel
theorem dL_law_879 : decode cL_law 879 = .ok (.aload_n 0, 1) := by decide +kernel
theorem dL_law_880 : decode cL_law 880 = .ok (.iload 4, 2) := by decide +kernel
theorem dL_law_882 : decode cL_law 882 = .ok (.iconst 1, 1) := by decide +kernel
theorem dL_law_883 : decode cL_law 883 = .ok (.iadd, 1) := by decide +kernel
theorem dL_law_884 : decode cL_law 884 = .ok (.iaload, 1) := by decide +kernel
theorem dL_law_885 : decode cL_law 885 = .ok (.aload_n 0, 1) := by decide +kernel
theorem dL_law_886 : decode cL_law 886 = .ok (.iload 4, 2) := by decide +kernel
theorem dL_law_888 : decode cL_law 888 = .ok (.iconst 2, 1) := by decide +kernel
theorem dL_law_889 : decode cL_law 889 = .ok (.iadd, 1) := by decide +kernel
theorem dL_law_890 : decode cL_law 890 = .ok (.iaload, 1) := by decide +kernel
theorem dL_law_891 : decode cL_law 891 = .ok (.aload_n 3, 1) := by decide +kernel
theorem dL_law_892 : decode cL_law 892 = .ok (.invokestatic 168, 3) := by decide +kernel
theorem dL_law_895 : decode cL_law 895 = .ok (.istore 5, 2) := by decide +kernel
theorem dL_law_897 : decode cL_law 897 = .ok (.aload_n 2, 1) := by decide +kernel
theorem dL_law_898 : decode cL_law 898 = .ok (.aload_n 0, 1) := by decide +kernel
theorem dL_law_899 : decode cL_law 899 = .ok (.iload 4, 2) := by decide +kernel
theorem dL_law_901 : decode cL_law 901 = .ok (.iconst 1, 1) := by decide +kernel
theorem dL_law_902 : decode cL_law 902 = .ok (.iadd, 1) := by decide +kernel
theorem dL_law_903 : decode cL_law 903 = .ok (.iaload, 1) := by decide +kernel
theorem dL_law_904 : decode cL_law 904 = .ok (.aload_n 0, 1) := by decide +kernel
theorem dL_law_905 : decode cL_law 905 = .ok (.iload 4, 2) := by decide +kernel
theorem dL_law_907 : decode cL_law 907 = .ok (.iconst 2, 1) := by decide +kernel
theorem dL_law_908 : decode cL_law 908 = .ok (.iadd, 1) := by decide +kernel
theorem dL_law_909 : decode cL_law 909 = .ok (.iaload, 1) := by decide +kernel
theorem dL_law_910 : decode cL_law 910 = .ok (.invokevirtual 170, 3) := by decide +kernel
theorem dL_law_913 : decode cL_law 913 = .ok (.istore 6, 2) := by decide +kernel
theorem dL_law_915 : decode cL_law 915 = .ok (.goto 677, 3) := by decide +kernel
set_option maxHeartbeats 4000000 in
set_option maxRecDepth 100000 in
theorem arm_16 {p : Program} {l : Launch} {e : Env} {s : State} {m : MethodId} {below : List Frame} {meth : Method} {c : Code} {b N : Nat} {xs : Nat → Int32} {D : va_G} {K : Nat → ClassId} {sa : sT} {o i : Nat} {cells slots : Nat} {Q : State → Prop} (hls : l.stackTraces = false) (A : LwC p s m meth c b N xs) (hi : i + 6 ≤ N) {S S1 S2 : fS} {ec : Nat} {v v2 : Int32} (hec : ec = 0 ∨ ec = 2 ∨ ec = 3) (h1 : F_X6_play (xs (i + 1)) (xs (i + 2)) S = some ((ec, v), S1)) (h2 : F_X7_play (xs (i + 1)) (xs (i + 2)) S1 = some (v2, S2)) (hc : cells + 6 ≤ 601024) (hs : slots + 307 ≤ 7293034) (kk : LwK D K sa p l e s m below meth c b o i S2 (cells + 6) (slots + 307) Q 1592) : LwK D K sa p l e s m below meth c b o i S cells slots Q 878 := by
  intro ad n L f H locs ls B hl
  obtain ⟨C, hX, hbl, hrt, hlk, hNm⟩ := A
  obtain ⟨w, hw, hn, hprobe, hmo, hno, g0, hfo⟩ := B
  have hx := C.1
  have hb := C.2.1
  refine lv_aload_n hx hb dL_law_878 rfl (lv_at hl 1 rfl) ?_
  refine lv_aload_n hx hb dL_law_879 rfl (lv_at hl 0 rfl) ?_
  refine lv_iload hx hb dL_law_880 (lv_at hl 4 rfl) ?_
  refine lv_iconst (v := 1) hx hb dL_law_882 (by decide) ?_
  refine lv_iadd hx hb dL_law_883 ?_
  rw [show nI i + (1 : Int32) = nI (i + 1) from nI_ad2 i 1]
  refine t_sld hx hb hX hbl w (j := i + 1) (nI_clamp (by omega)) (vp_in_nI (by omega) (by omega)) dL_law_884 ?_
  refine lv_aload_n hx hb dL_law_885 rfl (lv_at hl 0 rfl) ?_
  refine lv_iload hx hb dL_law_886 (lv_at hl 4 rfl) ?_
  refine lv_iconst (v := 2) hx hb dL_law_888 (by decide) ?_
  refine lv_iadd hx hb dL_law_889 ?_
  rw [show nI i + (2 : Int32) = nI (i + 2) from nI_ad2 i 2]
  refine t_sld hx hb hX hbl w (j := i + 2) (nI_clamp (by omega)) (vp_in_nI (by omega) (by omega)) dL_law_890 ?_
  refine lv_aload_n hx hb dL_law_891 rfl (lv_at hl 3 rfl) ?_
  refine t_callH (n := 4) C w (c_L_play l hls D K _ sa _ L f ad n S hw hn hprobe (xs (i + 1)) (xs (i + 2)) o hmo hno g0 hfo ec hec v S1 h1) gw_1001 gw_999 gw_1000 gw_0 ⟨by decide, by decide, by decide +kernel⟩ rfl rfl ⟨Nat.le_of_ble_eq_true rfl, Nat.le_of_ble_eq_true rfl⟩ rfl hl.1 rfl (Nat.le_of_ble_eq_true rfl) dL_law_892 ⟨by show cells + 4 ≤ 601024; omega, by show slots + 34 ≤ 7293034; omega⟩ (fun v9 u H locs hp w => ?_)
  obtain ⟨ad2, L2, f2, g1, rfl, rfl, hw2, hG2, hno2, hfo2, hgv⟩ := hp
  obtain ⟨ad, n, L, f, g0, w, hw, hn, hprobe, hmo, hno, hfo, hl⟩ : ∃ (ad3 : Nat → Nat → Nat) (n3 : Nat × Nat) (L3 : List Nat) (f3 : Nat → va_E) (g3 : Nat → Int64), Wh D K s.heap.size sa s H locs L3 f3 ∧ PW K ad3 (isn n3) S1 L3 f3 ∧ S1.2.2.1 = n3 ∧ 0 < n3.1 ∧ o ∈ L3 ∧ (∀ a i : Nat, isn n3 a i → ad3 a i ≠ o) ∧ f3 o = .inl (K 6, 1, .inr (.inl g3)) ∧ lv_has ls 7 [(0, .ref b), (1, .ref (ad3 0 0)), (2, .ref (ad3 40 0)), (3, .ref o), (4, .int (nI i))] := ⟨ad2, S1.2.2.1, L2, f2, g1, w, hw2, rfl, (hG2.1 25 0 hprobe).1, (hG2.2 o hmo).1, hno2, hfo2, (by rw [(hG2.1 0 0 (isn_f rfl rfl (by decide))).2, (hG2.1 40 0 (isn_f rfl rfl (by decide))).2]; exact hl)⟩
  refine lv_istore (lv' := [(5, .int (if ec = 0 then 0 else if ec = 2 then 2 else 1)), (0, .ref b), (1, .ref (ad 0 0)), (2, .ref (ad 40 0)), (3, .ref o), (4, .int (nI i))]) hx hb dL_law_895 hl (by decide) rfl (fun ls hl => ?_)
  refine lv_aload_n hx hb dL_law_897 rfl (lv_at hl 3 rfl) ?_
  refine lv_aload_n hx hb dL_law_898 rfl (lv_at hl 1 rfl) ?_
  refine lv_iload hx hb dL_law_899 (lv_at hl 5 rfl) ?_
  refine lv_iconst (v := 1) hx hb dL_law_901 (by decide) ?_
  refine lv_iadd hx hb dL_law_902 ?_
  rw [show nI i + (1 : Int32) = nI (i + 1) from nI_ad2 i 1]
  refine t_sld hx hb hX hbl w (j := i + 1) (nI_clamp (by omega)) (vp_in_nI (by omega) (by omega)) dL_law_903 ?_
  refine lv_aload_n hx hb dL_law_904 rfl (lv_at hl 1 rfl) ?_
  refine lv_iload hx hb dL_law_905 (lv_at hl 5 rfl) ?_
  refine lv_iconst (v := 2) hx hb dL_law_907 (by decide) ?_
  refine lv_iadd hx hb dL_law_908 ?_
  rw [show nI i + (2 : Int32) = nI (i + 2) from nI_ad2 i 2]
  refine t_sld hx hb hX hbl w (j := i + 2) (nI_clamp (by omega)) (vp_in_nI (by omega) (by omega)) dL_law_909 ?_
  refine u_callV (n := 2) C w hw (isn_f rfl rfl (by decide)) rfl rfl rfl (c_X7_play l D K _ sa _ L f ad n S1 hw hn hprobe (xs (i + 1)) (xs (i + 2)) v2 S2 h2) gw_1570 gw_1567 gw_1568 gw_1569 gw_8 ⟨by decide, by decide, by decide +kernel⟩ rfl rfl ⟨Nat.le_of_ble_eq_true rfl, Nat.le_of_ble_eq_true rfl⟩ rfl hl.1 rfl (Nat.le_of_ble_eq_true rfl) dL_law_910 ⟨by show cells + 4 + 2 ≤ 601024; omega, by show slots + 34 + 72 ≤ 7293034; omega⟩ (fun v9 u H locs hp w => ?_)
  obtain ⟨ad2, L2, f2, rfl, rfl, hw2, hG2⟩ := hp
  have z9 := (hG2.2 o hmo).2 hno (fun z => z)
  have hno2 := z9.2
  have hfo2 := z9.1.trans hfo
  obtain ⟨ad, n, L, f, g0, w, hw, hn, hprobe, hmo, hno, hfo, hl⟩ : ∃ (ad3 : Nat → Nat → Nat) (n3 : Nat × Nat) (L3 : List Nat) (f3 : Nat → va_E) (g3 : Nat → Int64), Wh D K s.heap.size sa s H locs L3 f3 ∧ PW K ad3 (isn n3) S2 L3 f3 ∧ S2.2.2.1 = n3 ∧ 0 < n3.1 ∧ o ∈ L3 ∧ (∀ a i : Nat, isn n3 a i → ad3 a i ≠ o) ∧ f3 o = .inl (K 6, 1, .inr (.inl g3)) ∧ lv_has ls 7 [(5, .int (if ec = 0 then 0 else if ec = 2 then 2 else 1)), (0, .ref b), (1, .ref (ad3 0 0)), (2, .ref (ad3 40 0)), (3, .ref o), (4, .int (nI i))] := ⟨ad2, S2.2.2.1, L2, f2, _, w, hw2, rfl, (hG2.1 25 0 hprobe).1, (hG2.2 o hmo).1, hno2, hfo2, (by rw [(hG2.1 0 0 (isn_f rfl rfl (by decide))).2, (hG2.1 40 0 (isn_f rfl rfl (by decide))).2]; exact hl)⟩
  refine lv_istore (lv' := [(6, .int v2), (5, .int (if ec = 0 then 0 else if ec = 2 then 2 else 1)), (0, .ref b), (1, .ref (ad 0 0)), (2, .ref (ad 40 0)), (3, .ref o), (4, .int (nI i))]) hx hb dL_law_913 hl (by decide) rfl (fun ls hl => ?_)
  refine lv_goto (tgt := 1592) hx hb dL_law_915 (by decide) ?_
  exact W.widen (k := cells + 6) (n := slots + 307) (by omega) (by omega) (kk ad n L f H locs ls ⟨w, hw, hn, hprobe, hmo, hno, _, hfo⟩ (lv_sub hl [2, 3, 4, 5, 6] rfl))
theorem dL_law_918 : decode cL_law 918 = .ok (.aload_n 1, 1) := by decide +kernel
theorem dL_law_919 : decode cL_law 919 = .ok (.aload_n 0, 1) := by decide +kernel
theorem dL_law_920 : decode cL_law 920 = .ok (.iload 4, 2) := by decide +kernel
theorem dL_law_922 : decode cL_law 922 = .ok (.iconst 1, 1) := by decide +kernel
theorem dL_law_923 : decode cL_law 923 = .ok (.iadd, 1) := by decide +kernel
theorem dL_law_924 : decode cL_law 924 = .ok (.iaload, 1) := by decide +kernel
theorem dL_law_925 : decode cL_law 925 = .ok (.ifCond .eq 7, 3) := by decide +kernel
theorem dL_law_928 : decode cL_law 928 = .ok (.iconst 1, 1) := by decide +kernel
theorem dL_law_929 : decode cL_law 929 = .ok (.goto 4, 3) := by decide +kernel
theorem dL_law_932 : decode cL_law 932 = .ok (.iconst 0, 1) := by decide +kernel
theorem dL_law_933 : decode cL_law 933 = .ok (.invokevirtual 171, 3) := by decide +kernel
theorem dL_law_936 : decode cL_law 936 = .ok (.pop, 1) := by decide +kernel
theorem dL_law_937 : decode cL_law 937 = .ok (.aload_n 2, 1) := by decide +kernel
theorem dL_law_938 : decode cL_law 938 = .ok (.aload_n 0, 1) := by decide +kernel
theorem dL_law_939 : decode cL_law 939 = .ok (.iload 4, 2) := by decide +kernel
theorem dL_law_941 : decode cL_law 941 = .ok (.iconst 1, 1) := by decide +kernel
theorem dL_law_942 : decode cL_law 942 = .ok (.iadd, 1) := by decide +kernel
theorem dL_law_943 : decode cL_law 943 = .ok (.iaload, 1) := by decide +kernel
theorem dL_law_944 : decode cL_law 944 = .ok (.ifCond .eq 7, 3) := by decide +kernel
theorem dL_law_947 : decode cL_law 947 = .ok (.iconst 1, 1) := by decide +kernel
theorem dL_law_948 : decode cL_law 948 = .ok (.goto 4, 3) := by decide +kernel
theorem dL_law_951 : decode cL_law 951 = .ok (.iconst 0, 1) := by decide +kernel
theorem dL_law_952 : decode cL_law 952 = .ok (.invokevirtual 175, 3) := by decide +kernel
theorem dL_law_955 : decode cL_law 955 = .ok (.pop, 1) := by decide +kernel
theorem dL_law_956 : decode cL_law 956 = .ok (.goto 636, 3) := by decide +kernel
set_option maxHeartbeats 4000000 in
set_option maxRecDepth 100000 in
theorem arm_17 {p : Program} {l : Launch} {e : Env} {s : State} {m : MethodId} {below : List Frame} {meth : Method} {c : Code} {b N : Nat} {xs : Nat → Int32} {D : va_G} {K : Nat → ClassId} {sa : sT} {o i : Nat} {cells slots : Nat} {Q : State → Prop} (hls : l.stackTraces = false) (A : LwC p s m meth c b N xs) (hi : i + 6 ≤ N) {S S1 S2 : fS} {v v2 : Int32} (h1 : F_X6_can ((if xs (i + 1) = 0 then 0 else 1)) S = some (v, S1)) (h2 : F_X7_can ((if xs (i + 1) = 0 then 0 else 1)) S1 = some (v2, S2)) (hc : cells + 6 ≤ 601024) (hs : slots + 307 ≤ 7293034) (kk : LwK D K sa p l e s m below meth c b o i S2 (cells + 6) (slots + 307) Q 1592) : LwK D K sa p l e s m below meth c b o i S cells slots Q 918 := by
  intro ad n L f H locs ls B hl
  obtain ⟨C, hX, hbl, hrt, hlk, hNm⟩ := A
  obtain ⟨w, hw, hn, hprobe, hmo, hno, g0, hfo⟩ := B
  have hx := C.1
  have hb := C.2.1
  by_cases hz1 : xs (i + 1) = 0
  · rw [if_pos hz1] at h1 h2
    refine lv_aload_n hx hb dL_law_918 rfl (lv_at hl 1 rfl) ?_
    refine lv_aload_n hx hb dL_law_919 rfl (lv_at hl 0 rfl) ?_
    refine lv_iload hx hb dL_law_920 (lv_at hl 4 rfl) ?_
    refine lv_iconst (v := 1) hx hb dL_law_922 (by decide) ?_
    refine lv_iadd hx hb dL_law_923 ?_
    rw [show nI i + (1 : Int32) = nI (i + 1) from nI_ad2 i 1]
    refine t_sld hx hb hX hbl w (j := i + 1) (nI_clamp (by omega)) (vp_in_nI (by omega) (by omega)) dL_law_924 ?_
    refine lv_if_eq (tgt := 932) hx hb dL_law_925 (by decide) (fun _ => ?_) (fun c0 => absurd hz1 c0)
    refine lv_iconst (v := 0) hx hb dL_law_932 (by decide) ?_
    refine u_callV (n := 1) C w hw (isn_f rfl rfl (by decide)) rfl rfl rfl (c_X6_can l D K _ sa _ L _ ad (isn n) (fun _ _ h => h) S hw hn hprobe (0) v S1 h1) gw_361 gw_358 gw_359 gw_360 gw_1 ⟨by decide, by decide, by decide +kernel⟩ rfl rfl ⟨Nat.le_of_ble_eq_true rfl, Nat.le_of_ble_eq_true rfl⟩ rfl hl.1 rfl (Nat.le_of_ble_eq_true rfl) dL_law_933 ⟨by show cells + 0 ≤ 601024; omega, by show slots + 0 ≤ 7293034; omega⟩ (fun v9 u H locs hp w => ?_)
    obtain ⟨f2, rfl, rfl, hw2, hn2, hk1⟩ := hp
    have hfo := (hk1 o hmo hno).trans hfo
    have hw := hw2
    have hn := hn2
    clear hw2 hn2
    generalize f2 = f at w hw hfo
    refine lv_pop hx hb dL_law_936 rfl ?_
    refine lv_aload_n hx hb dL_law_937 rfl (lv_at hl 2 rfl) ?_
    refine lv_aload_n hx hb dL_law_938 rfl (lv_at hl 0 rfl) ?_
    refine lv_iload hx hb dL_law_939 (lv_at hl 4 rfl) ?_
    refine lv_iconst (v := 1) hx hb dL_law_941 (by decide) ?_
    refine lv_iadd hx hb dL_law_942 ?_
    rw [show nI i + (1 : Int32) = nI (i + 1) from nI_ad2 i 1]
    refine t_sld hx hb hX hbl w (j := i + 1) (nI_clamp (by omega)) (vp_in_nI (by omega) (by omega)) dL_law_943 ?_
    refine lv_if_eq (tgt := 951) hx hb dL_law_944 (by decide) (fun _ => ?_) (fun c0 => absurd hz1 c0)
    refine lv_iconst (v := 0) hx hb dL_law_951 (by decide) ?_
    refine u_callV (n := 1) C w hw (isn_f rfl rfl (by decide)) rfl rfl rfl (c_X7_can l D K _ sa _ L f ad n S1 hw hn hprobe (0) v2 S2 h2) gw_1585 gw_1582 gw_1583 gw_1584 gw_8 ⟨by decide, by decide, by decide +kernel⟩ rfl rfl ⟨Nat.le_of_ble_eq_true rfl, Nat.le_of_ble_eq_true rfl⟩ rfl hl.1 rfl (Nat.le_of_ble_eq_true rfl) dL_law_952 ⟨by show cells + 0 + 2 ≤ 601024; omega, by show slots + 0 + 72 ≤ 7293034; omega⟩ (fun v9 u H locs hp w => ?_)
    obtain ⟨ad2, L2, f2, rfl, rfl, hw2, hG2⟩ := hp
    have z9 := (hG2.2 o hmo).2 hno (fun z => z)
    have hno2 := z9.2
    have hfo2 := z9.1.trans hfo
    obtain ⟨ad, n, L, f, g0, w, hw, hn, hprobe, hmo, hno, hfo, hl⟩ : ∃ (ad3 : Nat → Nat → Nat) (n3 : Nat × Nat) (L3 : List Nat) (f3 : Nat → va_E) (g3 : Nat → Int64), Wh D K s.heap.size sa s H locs L3 f3 ∧ PW K ad3 (isn n3) S2 L3 f3 ∧ S2.2.2.1 = n3 ∧ 0 < n3.1 ∧ o ∈ L3 ∧ (∀ a i : Nat, isn n3 a i → ad3 a i ≠ o) ∧ f3 o = .inl (K 6, 1, .inr (.inl g3)) ∧ lv_has ls 7 [(0, .ref b), (1, .ref (ad3 0 0)), (2, .ref (ad3 40 0)), (3, .ref o), (4, .int (nI i))] := ⟨ad2, S2.2.2.1, L2, f2, _, w, hw2, rfl, (hG2.1 25 0 hprobe).1, (hG2.2 o hmo).1, hno2, hfo2, (by rw [(hG2.1 0 0 (isn_f rfl rfl (by decide))).2, (hG2.1 40 0 (isn_f rfl rfl (by decide))).2]; exact hl)⟩
    refine lv_pop hx hb dL_law_955 rfl ?_
    refine lv_goto (tgt := 1592) hx hb dL_law_956 (by decide) ?_
    exact W.widen (k := cells + 6) (n := slots + 307) (by omega) (by omega) (kk ad n L f H locs ls ⟨w, hw, hn, hprobe, hmo, hno, _, hfo⟩ (lv_sub hl [0, 1, 2, 3, 4] rfl))
  · rw [if_neg hz1] at h1 h2
    refine lv_aload_n hx hb dL_law_918 rfl (lv_at hl 1 rfl) ?_
    refine lv_aload_n hx hb dL_law_919 rfl (lv_at hl 0 rfl) ?_
    refine lv_iload hx hb dL_law_920 (lv_at hl 4 rfl) ?_
    refine lv_iconst (v := 1) hx hb dL_law_922 (by decide) ?_
    refine lv_iadd hx hb dL_law_923 ?_
    rw [show nI i + (1 : Int32) = nI (i + 1) from nI_ad2 i 1]
    refine t_sld hx hb hX hbl w (j := i + 1) (nI_clamp (by omega)) (vp_in_nI (by omega) (by omega)) dL_law_924 ?_
    refine lv_if_eq (tgt := 932) hx hb dL_law_925 (by decide) (fun c0 => absurd c0 hz1) (fun _ => ?_)
    refine lv_iconst (v := 1) hx hb dL_law_928 (by decide) ?_
    refine lv_goto (tgt := 933) hx hb dL_law_929 (by decide) ?_
    refine u_callV (n := 1) C w hw (isn_f rfl rfl (by decide)) rfl rfl rfl (c_X6_can l D K _ sa _ L _ ad (isn n) (fun _ _ h => h) S hw hn hprobe (1) v S1 h1) gw_361 gw_358 gw_359 gw_360 gw_1 ⟨by decide, by decide, by decide +kernel⟩ rfl rfl ⟨Nat.le_of_ble_eq_true rfl, Nat.le_of_ble_eq_true rfl⟩ rfl hl.1 rfl (Nat.le_of_ble_eq_true rfl) dL_law_933 ⟨by show cells + 0 ≤ 601024; omega, by show slots + 0 ≤ 7293034; omega⟩ (fun v9 u H locs hp w => ?_)
    obtain ⟨f2, rfl, rfl, hw2, hn2, hk1⟩ := hp
    have hfo := (hk1 o hmo hno).trans hfo
    have hw := hw2
    have hn := hn2
    clear hw2 hn2
    generalize f2 = f at w hw hfo
    refine lv_pop hx hb dL_law_936 rfl ?_
    refine lv_aload_n hx hb dL_law_937 rfl (lv_at hl 2 rfl) ?_
    refine lv_aload_n hx hb dL_law_938 rfl (lv_at hl 0 rfl) ?_
    refine lv_iload hx hb dL_law_939 (lv_at hl 4 rfl) ?_
    refine lv_iconst (v := 1) hx hb dL_law_941 (by decide) ?_
    refine lv_iadd hx hb dL_law_942 ?_
    rw [show nI i + (1 : Int32) = nI (i + 1) from nI_ad2 i 1]
    refine t_sld hx hb hX hbl w (j := i + 1) (nI_clamp (by omega)) (vp_in_nI (by omega) (by omega)) dL_law_943 ?_
    refine lv_if_eq (tgt := 951) hx hb dL_law_944 (by decide) (fun c0 => absurd c0 hz1) (fun _ => ?_)
    refine lv_iconst (v := 1) hx hb dL_law_947 (by decide) ?_
    refine lv_goto (tgt := 952) hx hb dL_law_948 (by decide) ?_
    refine u_callV (n := 1) C w hw (isn_f rfl rfl (by decide)) rfl rfl rfl (c_X7_can l D K _ sa _ L f ad n S1 hw hn hprobe (1) v2 S2 h2) gw_1585 gw_1582 gw_1583 gw_1584 gw_8 ⟨by decide, by decide, by decide +kernel⟩ rfl rfl ⟨Nat.le_of_ble_eq_true rfl, Nat.le_of_ble_eq_true rfl⟩ rfl hl.1 rfl (Nat.le_of_ble_eq_true rfl) dL_law_952 ⟨by show cells + 0 + 2 ≤ 601024; omega, by show slots + 0 + 72 ≤ 7293034; omega⟩ (fun v9 u H locs hp w => ?_)
    obtain ⟨ad2, L2, f2, rfl, rfl, hw2, hG2⟩ := hp
    have z9 := (hG2.2 o hmo).2 hno (fun z => z)
    have hno2 := z9.2
    have hfo2 := z9.1.trans hfo
    obtain ⟨ad, n, L, f, g0, w, hw, hn, hprobe, hmo, hno, hfo, hl⟩ : ∃ (ad3 : Nat → Nat → Nat) (n3 : Nat × Nat) (L3 : List Nat) (f3 : Nat → va_E) (g3 : Nat → Int64), Wh D K s.heap.size sa s H locs L3 f3 ∧ PW K ad3 (isn n3) S2 L3 f3 ∧ S2.2.2.1 = n3 ∧ 0 < n3.1 ∧ o ∈ L3 ∧ (∀ a i : Nat, isn n3 a i → ad3 a i ≠ o) ∧ f3 o = .inl (K 6, 1, .inr (.inl g3)) ∧ lv_has ls 7 [(0, .ref b), (1, .ref (ad3 0 0)), (2, .ref (ad3 40 0)), (3, .ref o), (4, .int (nI i))] := ⟨ad2, S2.2.2.1, L2, f2, _, w, hw2, rfl, (hG2.1 25 0 hprobe).1, (hG2.2 o hmo).1, hno2, hfo2, (by rw [(hG2.1 0 0 (isn_f rfl rfl (by decide))).2, (hG2.1 40 0 (isn_f rfl rfl (by decide))).2]; exact hl)⟩
    refine lv_pop hx hb dL_law_955 rfl ?_
    refine lv_goto (tgt := 1592) hx hb dL_law_956 (by decide) ?_
    exact W.widen (k := cells + 6) (n := slots + 307) (by omega) (by omega) (kk ad n L f H locs ls ⟨w, hw, hn, hprobe, hmo, hno, _, hfo⟩ (lv_sub hl [0, 1, 2, 3, 4] rfl))
