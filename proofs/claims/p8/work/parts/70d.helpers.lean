theorem dL_settle_0 : decode cL_settle 0 = .ok (.aload 4, 2) := by decide +kernel
theorem dL_settle_2 : decode cL_settle 2 = .ok (.iconst 0, 1) := by decide +kernel
theorem dL_settle_3 : decode cL_settle 3 = .ok (.aload_n 0, 1) := by decide +kernel
theorem dL_settle_4 : decode cL_settle 4 = .ok (.iload_n 1, 1) := by decide +kernel
theorem dL_settle_5 : decode cL_settle 5 = .ok (.iload_n 2, 1) := by decide +kernel
theorem dL_settle_6 : decode cL_settle 6 = .ok (.iload_n 3, 1) := by decide +kernel
theorem dL_settle_7 : decode cL_settle 7 = .ok (.invokevirtual 84, 3) := by decide +kernel
theorem dL_settle_10 : decode cL_settle 10 = .ok (.i2l, 1) := by decide +kernel
theorem dL_settle_11 : decode cL_settle 11 = .ok (.lastore, 1) := by decide +kernel
theorem dL_settle_12 : decode cL_settle 12 = .ok (.goto 15, 3) := by decide +kernel
theorem dL_settle_15 : decode cL_settle 15 = .ok (.astore 5, 2) := by decide +kernel
theorem dL_settle_17 : decode cL_settle 17 = .ok (.iconst 1, 1) := by decide +kernel
theorem dL_settle_18 : decode cL_settle 18 = .ok (.ireturn, 1) := by decide +kernel
theorem dL_settle_19 : decode cL_settle 19 = .ok (.astore 5, 2) := by decide +kernel
theorem dL_settle_21 : decode cL_settle 21 = .ok (.iconst 2, 1) := by decide +kernel
theorem dL_settle_22 : decode cL_settle 22 = .ok (.ireturn, 1) := by decide +kernel
theorem dL_settle_23 : decode cL_settle 23 = .ok (.astore 5, 2) := by decide +kernel
theorem dL_settle_25 : decode cL_settle 25 = .ok (.iconst 3, 1) := by decide +kernel
theorem dL_settle_26 : decode cL_settle 26 = .ok (.ireturn, 1) := by decide +kernel
theorem dL_settle_27 : decode cL_settle 27 = .ok (.iconst 0, 1) := by decide +kernel
theorem dL_settle_28 : decode cL_settle 28 = .ok (.ireturn, 1) := by decide +kernel
theorem dL_back_0 : decode cL_back 0 = .ok (.aload_n 3, 1) := by decide +kernel
theorem dL_back_1 : decode cL_back 1 = .ok (.iconst 0, 1) := by decide +kernel
theorem dL_back_2 : decode cL_back 2 = .ok (.aload_n 0, 1) := by decide +kernel
theorem dL_back_3 : decode cL_back 3 = .ok (.iload_n 1, 1) := by decide +kernel
theorem dL_back_4 : decode cL_back 4 = .ok (.iload_n 2, 1) := by decide +kernel
theorem dL_back_5 : decode cL_back 5 = .ok (.invokevirtual 87, 3) := by decide +kernel
theorem dL_back_8 : decode cL_back 8 = .ok (.i2l, 1) := by decide +kernel
theorem dL_back_9 : decode cL_back 9 = .ok (.lastore, 1) := by decide +kernel
theorem dL_back_10 : decode cL_back 10 = .ok (.goto 11, 3) := by decide +kernel
theorem dL_back_13 : decode cL_back 13 = .ok (.astore 4, 2) := by decide +kernel
theorem dL_back_15 : decode cL_back 15 = .ok (.iconst 1, 1) := by decide +kernel
theorem dL_back_16 : decode cL_back 16 = .ok (.ireturn, 1) := by decide +kernel
theorem dL_back_17 : decode cL_back 17 = .ok (.astore 4, 2) := by decide +kernel
theorem dL_back_19 : decode cL_back 19 = .ok (.iconst 2, 1) := by decide +kernel
theorem dL_back_20 : decode cL_back 20 = .ok (.ireturn, 1) := by decide +kernel
theorem dL_back_21 : decode cL_back 21 = .ok (.iconst 0, 1) := by decide +kernel
theorem dL_back_22 : decode cL_back 22 = .ok (.ireturn, 1) := by decide +kernel
theorem dL_broken_0 : decode cL_broken 0 = .ok (.aload_n 2, 1) := by decide +kernel
theorem dL_broken_1 : decode cL_broken 1 = .ok (.iconst 0, 1) := by decide +kernel
theorem dL_broken_2 : decode cL_broken 2 = .ok (.aload_n 0, 1) := by decide +kernel
theorem dL_broken_3 : decode cL_broken 3 = .ok (.iload_n 1, 1) := by decide +kernel
theorem dL_broken_4 : decode cL_broken 4 = .ok (.invokevirtual 90, 3) := by decide +kernel
theorem dL_broken_7 : decode cL_broken 7 = .ok (.i2l, 1) := by decide +kernel
theorem dL_broken_8 : decode cL_broken 8 = .ok (.lastore, 1) := by decide +kernel
theorem dL_broken_9 : decode cL_broken 9 = .ok (.goto 6, 3) := by decide +kernel
theorem dL_broken_12 : decode cL_broken 12 = .ok (.astore_n 3, 1) := by decide +kernel
theorem dL_broken_13 : decode cL_broken 13 = .ok (.iconst 1, 1) := by decide +kernel
theorem dL_broken_14 : decode cL_broken 14 = .ok (.ireturn, 1) := by decide +kernel
theorem dL_broken_15 : decode cL_broken 15 = .ok (.iconst 0, 1) := by decide +kernel
theorem dL_broken_16 : decode cL_broken 16 = .ok (.ireturn, 1) := by decide +kernel
theorem dL_cut_0 : decode cL_cut 0 = .ok (.aload 6, 2) := by decide +kernel
theorem dL_cut_2 : decode cL_cut 2 = .ok (.iconst 0, 1) := by decide +kernel
theorem dL_cut_3 : decode cL_cut 3 = .ok (.aload_n 0, 1) := by decide +kernel
theorem dL_cut_4 : decode cL_cut 4 = .ok (.iload_n 1, 1) := by decide +kernel
theorem dL_cut_5 : decode cL_cut 5 = .ok (.iload_n 2, 1) := by decide +kernel
theorem dL_cut_6 : decode cL_cut 6 = .ok (.iload_n 3, 1) := by decide +kernel
theorem dL_cut_7 : decode cL_cut 7 = .ok (.iload 4, 2) := by decide +kernel
theorem dL_cut_9 : decode cL_cut 9 = .ok (.iload 5, 2) := by decide +kernel
theorem dL_cut_11 : decode cL_cut 11 = .ok (.invokevirtual 93, 3) := by decide +kernel
theorem dL_cut_14 : decode cL_cut 14 = .ok (.i2l, 1) := by decide +kernel
theorem dL_cut_15 : decode cL_cut 15 = .ok (.lastore, 1) := by decide +kernel
theorem dL_cut_16 : decode cL_cut 16 = .ok (.goto 11, 3) := by decide +kernel
theorem dL_cut_19 : decode cL_cut 19 = .ok (.astore 7, 2) := by decide +kernel
theorem dL_cut_21 : decode cL_cut 21 = .ok (.iconst 1, 1) := by decide +kernel
theorem dL_cut_22 : decode cL_cut 22 = .ok (.ireturn, 1) := by decide +kernel
theorem dL_cut_23 : decode cL_cut 23 = .ok (.astore 7, 2) := by decide +kernel
theorem dL_cut_25 : decode cL_cut 25 = .ok (.iconst 2, 1) := by decide +kernel
theorem dL_cut_26 : decode cL_cut 26 = .ok (.ireturn, 1) := by decide +kernel
theorem dL_cut_27 : decode cL_cut 27 = .ok (.iconst 0, 1) := by decide +kernel
theorem dL_cut_28 : decode cL_cut 28 = .ok (.ireturn, 1) := by decide +kernel
theorem dL_player_0 : decode cL_player 0 = .ok (.aload 5, 2) := by decide +kernel
theorem dL_player_2 : decode cL_player 2 = .ok (.iconst 0, 1) := by decide +kernel
theorem dL_player_3 : decode cL_player 3 = .ok (.aload_n 0, 1) := by decide +kernel
theorem dL_player_4 : decode cL_player 4 = .ok (.iload_n 1, 1) := by decide +kernel
theorem dL_player_5 : decode cL_player 5 = .ok (.iload_n 2, 1) := by decide +kernel
theorem dL_player_6 : decode cL_player 6 = .ok (.iload_n 3, 1) := by decide +kernel
theorem dL_player_7 : decode cL_player 7 = .ok (.iload 4, 2) := by decide +kernel
theorem dL_player_9 : decode cL_player 9 = .ok (.invokevirtual 97, 3) := by decide +kernel
theorem dL_player_12 : decode cL_player 12 = .ok (.i2l, 1) := by decide +kernel
theorem dL_player_13 : decode cL_player 13 = .ok (.lastore, 1) := by decide +kernel
theorem dL_player_14 : decode cL_player 14 = .ok (.goto 11, 3) := by decide +kernel
theorem dL_player_17 : decode cL_player 17 = .ok (.astore 6, 2) := by decide +kernel
theorem dL_player_19 : decode cL_player 19 = .ok (.iconst 1, 1) := by decide +kernel
theorem dL_player_20 : decode cL_player 20 = .ok (.ireturn, 1) := by decide +kernel
theorem dL_player_21 : decode cL_player 21 = .ok (.astore 6, 2) := by decide +kernel
theorem dL_player_23 : decode cL_player 23 = .ok (.iconst 2, 1) := by decide +kernel
theorem dL_player_24 : decode cL_player 24 = .ok (.ireturn, 1) := by decide +kernel
theorem dL_player_25 : decode cL_player 25 = .ok (.iconst 0, 1) := by decide +kernel
theorem dL_player_26 : decode cL_player 26 = .ok (.ireturn, 1) := by decide +kernel
theorem dL_fair_0 : decode cL_fair 0 = .ok (.aload_n 2, 1) := by decide +kernel
theorem dL_fair_1 : decode cL_fair 1 = .ok (.iconst 0, 1) := by decide +kernel
theorem dL_fair_2 : decode cL_fair 2 = .ok (.aload_n 0, 1) := by decide +kernel
theorem dL_fair_3 : decode cL_fair 3 = .ok (.iload_n 1, 1) := by decide +kernel
theorem dL_fair_4 : decode cL_fair 4 = .ok (.invokevirtual 100, 3) := by decide +kernel
theorem dL_fair_7 : decode cL_fair 7 = .ok (.i2l, 1) := by decide +kernel
theorem dL_fair_8 : decode cL_fair 8 = .ok (.lastore, 1) := by decide +kernel
theorem dL_fair_9 : decode cL_fair 9 = .ok (.goto 6, 3) := by decide +kernel
theorem dL_fair_12 : decode cL_fair 12 = .ok (.astore_n 3, 1) := by decide +kernel
theorem dL_fair_13 : decode cL_fair 13 = .ok (.iconst 1, 1) := by decide +kernel
theorem dL_fair_14 : decode cL_fair 14 = .ok (.ireturn, 1) := by decide +kernel
theorem dL_fair_15 : decode cL_fair 15 = .ok (.iconst 0, 1) := by decide +kernel
theorem dL_fair_16 : decode cL_fair 16 = .ok (.ireturn, 1) := by decide +kernel
set_option maxHeartbeats 4000000 in
set_option maxRecDepth 100000 in
theorem c_L_settle (l : Launch) (hls : l.stackTraces = false) (D : va_G) (K : Nat → ClassId) (b0 : Nat) (sa : sT) (sz : Nat) (LO : List Nat) (fO : Nat → va_E) (adO : Nat → Nat → Nat) (nO : Nat × Nat) (S0 : fS) (hw : PW K adO (isn nO) S0 LO fO) (hn : S0.2.2.1 = nO) (hprobe : 0 < nO.1) (p1 : Int32) (p2 : Int32) (p3 : Int32) (o : Nat) (hmo : o ∈ LO) (hno : ∀ a i : Nat, isn nO a i → adO a i ≠ o) (g0 : Nat → Int64) (hfo : fO o = .inl (K 6, 1, .inr (.inl g0))) (ec : Nat) (hec : ec = 0 ∨ ec = 1 ∨ ec = 2 ∨ ec = 3) (v : Int32) (S1 : fS) (h : F_X6_settle p1 p2 p3 S0 = some ((ec, v), S1)) : Met l yL_settle (.codeWith yL_settle cL_settle 6 (some .int) [(0, 12, 15, 21), (0, 12, 19, 13), (0, 12, 23, 15)] :: gt) { frames := 8, cells := 3, slots := 18, locals := 130 } (va_Pc [.ref (adO 0 0), .int p1, .int p2, .int p3, .ref o] (hPre D K b0 sa sz LO fO)) (hQ D K b0 (fun v9 u9 => ∃ (ad2 : Nat → Nat → Nat) (L2 : List Nat) (f2 : Nat → va_E) (g : Nat → Int64), v9 = some (.int (if ec = 0 then 0 else if ec = 1 then 3 else if ec = 2 then 2 else 1)) ∧ u9 = lU L2 f2 ∧ PW K ad2 (isn S1.2.2.1) S1 L2 f2 ∧ Gr (fun b => b = o) (isn nO) adO LO fO (isn S1.2.2.1) ad2 L2 f2 ∧ (∀ a i : Nat, isn S1.2.2.1 a i → ad2 a i ≠ o) ∧ f2 o = .inl (K 6, 1, .inr (.inl g)) ∧ (ec = 0 → g 0 = v.toInt64))) 3 18 (fun q => b0 ≤ q) := by
  refine t_hof (own := RL) (by decide) rfl ?_ (Nat.le_of_ble_eq_true rfl)
  intro p e s m below meth c ls C w hsz hr hlk htb hl
  have hx := C.1
  have hb := C.2.1
  have hl : lv_has ls 6 [(0, .ref (adO 0 0)), (1, .int p1), (2, .int p2), (3, .int p3), (4, .ref o)] := hl
  refine lv_aload hx hb dL_settle_0 (lv_at hl 4 rfl) ?_
  refine lv_iconst (v := 0) hx hb dL_settle_2 (by decide) ?_
  refine lv_aload_n hx hb dL_settle_3 rfl (lv_at hl 0 rfl) ?_
  refine lv_iload_n hx hb dL_settle_4 rfl (lv_at hl 1 rfl) ?_
  refine lv_iload_n hx hb dL_settle_5 rfl (lv_at hl 2 rfl) ?_
  refine lv_iload_n hx hb dL_settle_6 rfl (lv_at hl 3 rfl) ?_
  refine u_xcallV (n := 3) C w hw (isn_f rfl rfl (by decide)) rfl rfl rfl (c_X6_settle l hls D K b0 sa _ LO fO adO (isn nO) (fun _ _ h => h) S0 hw hn p1 p2 p3 ec v S1 h) gw_1089 gw_1086 gw_1087 gw_1088 gw_1 ⟨by decide, by decide, by decide +kernel⟩ rfl rfl ⟨by decide, by decide⟩ rfl hl.1 rfl (Nat.le_of_ble_eq_true rfl) dL_settle_7 ⟨Nat.le_of_ble_eq_true rfl, Nat.le_of_ble_eq_true rfl⟩ (fun E ce9 q9 u H locs hp w hcell hv0 hcl => ?_) (fun v9 u H locs hp w => ?_)
  · skip
    obtain ⟨⟨he, hE⟩, f2, rfl, hw2, hn2, hk1⟩ := hp
    have hG2 : Gr (fun b => b = o) (isn nO) adO LO fO (isn nO) adO LO f2 := Gr.rf.kp hk1
    have hmo2 := hmo
    have hno2 := hno
    have hfo2 := (hk1 o hmo hno).trans hfo
    have e2 : isn S1.2.2.1 = isn nO := by rw [hn2]
    rcases hec with hec | hec | hec | hec
    · exact absurd hec he
    · subst hec
      have hE : E = "java/lang/IllegalArgumentException" := hE
      subst hE
      refine t_catch (own := RL) (name := "java/lang/IllegalArgumentException") (E := "java/lang/IllegalArgumentException") C.2.2.2.1 [⟨0, 12, 15, 21⟩, ⟨0, 12, 19, 13⟩] ⟨0, 12, 23, 15⟩ [] htb (fun z hz => (List.mem_cons.mp hz).elim (fun e9 => by rw [e9]; exact Or.inr ⟨by decide, "java/util/NoSuchElementException", C.2.2.2.2 _ gw_649, hnc_iae_nse w⟩) (fun hz => by cases List.mem_singleton.mp hz; exact Or.inr ⟨by decide, "java/lang/IndexOutOfBoundsException", C.2.2.2.2 _ gw_546, hnc_iae_iob w⟩)) (by decide) (by decide) (C.2.2.2.2 _ gw_547) (cst w cs_iae) hcell hv0 hcl ?_
      refine lv_astore (lv' := [(5, .ref q9), (0, .ref (adO 0 0)), (1, .int p1), (2, .int p2), (3, .int p3), (4, .ref o)]) hx hb dL_settle_23 hl (by decide) rfl (fun ls hl => ?_)
      refine lv_iconst (v := 3) hx hb dL_settle_25 (by decide) ?_
      refine t_iret C hr hlk w ⟨adO, LO, f2, g0, rfl, rfl, ?_, ?_, ?_, hfo2, fun z => absurd z (by decide)⟩ (by decide) (by decide) dL_settle_26
      · rw [e2]; exact hw2
      · rw [e2]; exact hG2
      · rw [e2]; exact hno2
    · subst hec
      have hE : E = "java/lang/IndexOutOfBoundsException" := hE
      subst hE
      refine t_catch (own := RL) (name := "java/lang/IndexOutOfBoundsException") (E := "java/lang/IndexOutOfBoundsException") C.2.2.2.1 [⟨0, 12, 15, 21⟩] ⟨0, 12, 19, 13⟩ [⟨0, 12, 23, 15⟩] htb (fun z hz => by cases List.mem_singleton.mp hz; exact Or.inr ⟨by decide, "java/util/NoSuchElementException", C.2.2.2.2 _ gw_649, hnc_iob_nse w⟩) (by decide) (by decide) (C.2.2.2.2 _ gw_546) (cst w cs_iob) hcell hv0 hcl ?_
      refine lv_astore (lv' := [(5, .ref q9), (0, .ref (adO 0 0)), (1, .int p1), (2, .int p2), (3, .int p3), (4, .ref o)]) hx hb dL_settle_19 hl (by decide) rfl (fun ls hl => ?_)
      refine lv_iconst (v := 2) hx hb dL_settle_21 (by decide) ?_
      refine t_iret C hr hlk w ⟨adO, LO, f2, g0, rfl, rfl, ?_, ?_, ?_, hfo2, fun z => absurd z (by decide)⟩ (by decide) (by decide) dL_settle_22
      · rw [e2]; exact hw2
      · rw [e2]; exact hG2
      · rw [e2]; exact hno2
    · subst hec
      have hE : E = "java/util/NoSuchElementException" := hE
      subst hE
      refine t_catch (own := RL) (name := "java/util/NoSuchElementException") (E := "java/util/NoSuchElementException") C.2.2.2.1 [] ⟨0, 12, 15, 21⟩ [⟨0, 12, 19, 13⟩, ⟨0, 12, 23, 15⟩] htb (fun z hz => absurd hz List.not_mem_nil) (by decide) (by decide) (C.2.2.2.2 _ gw_649) (cst w cs_nse) hcell hv0 hcl ?_
      refine lv_astore (lv' := [(5, .ref q9), (0, .ref (adO 0 0)), (1, .int p1), (2, .int p2), (3, .int p3), (4, .ref o)]) hx hb dL_settle_15 hl (by decide) rfl (fun ls hl => ?_)
      refine lv_iconst (v := 1) hx hb dL_settle_17 (by decide) ?_
      refine t_iret C hr hlk w ⟨adO, LO, f2, g0, rfl, rfl, ?_, ?_, ?_, hfo2, fun z => absurd z (by decide)⟩ (by decide) (by decide) dL_settle_18
      · rw [e2]; exact hw2
      · rw [e2]; exact hG2
      · rw [e2]; exact hno2
  · obtain ⟨he, rfl, hp⟩ := hp
    have hp := And.intro trivial hp
    obtain ⟨-, f2, rfl, hw2, hn2, hk1⟩ := hp
    have hG2 : Gr (fun b => b = o) (isn nO) adO LO fO (isn nO) adO LO f2 := Gr.rf.kp hk1
    have hmo2 := hmo
    have hno2 := hno
    have hfo2 := (hk1 o hmo hno).trans hfo
    have e2 : isn S1.2.2.1 = isn nO := by rw [hn2]
    subst he
    refine lv_i2l (v := v.toInt64) hx hb dL_settle_10 rfl ?_
    refine g_last C w hmo2 hfo2 dL_settle_11 (fun f1 H locs w hg hk => ?_)
    obtain ⟨g1, hf1, hg1⟩ := hg
    refine lv_goto (tgt := 27) hx hb dL_settle_12 (by decide) ?_
    refine lv_iconst (v := 0) hx hb dL_settle_27 (by decide) ?_
    refine t_iret C hr hlk w ⟨adO, LO, f1, g1, rfl, rfl, ?_, ?_, ?_, hf1, fun _ => hg1⟩ (by decide) (by decide) dL_settle_28
    · rw [e2]; exact PW.kp hw2 (fun a i z => hk _ (hno2 a i z))
    · rw [e2]; exact hG2.put (fun _ => rfl) hk
    · rw [e2]; exact hno2
set_option maxHeartbeats 4000000 in
set_option maxRecDepth 100000 in
theorem c_L_back (l : Launch) (hls : l.stackTraces = false) (D : va_G) (K : Nat → ClassId) (b0 : Nat) (sa : sT) (sz : Nat) (LO : List Nat) (fO : Nat → va_E) (adO : Nat → Nat → Nat) (nO : Nat × Nat) (S0 : fS) (hw : PW K adO (isn nO) S0 LO fO) (hn : S0.2.2.1 = nO) (hprobe : 0 < nO.1) (p1 : Int32) (p2 : Int32) (o : Nat) (hmo : o ∈ LO) (hno : ∀ a i : Nat, isn nO a i → adO a i ≠ o) (g0 : Nat → Int64) (hfo : fO o = .inl (K 6, 1, .inr (.inl g0))) (ec : Nat) (hec : ec = 0 ∨ ec = 2 ∨ ec = 3) (v : Int32) (S1 : fS) (h : F_X6_back p1 p2 S0 = some ((ec, v), S1)) : Met l yL_back (.codeWith yL_back cL_back 5 (some .int) [(0, 10, 13, 21), (0, 10, 17, 13)] :: gt) { frames := 8, cells := 2, slots := 12, locals := 127 } (va_Pc [.ref (adO 0 0), .int p1, .int p2, .ref o] (hPre D K b0 sa sz LO fO)) (hQ D K b0 (fun v9 u9 => ∃ (ad2 : Nat → Nat → Nat) (L2 : List Nat) (f2 : Nat → va_E) (g : Nat → Int64), v9 = some (.int (if ec = 0 then 0 else if ec = 2 then 2 else 1)) ∧ u9 = lU L2 f2 ∧ PW K ad2 (isn S1.2.2.1) S1 L2 f2 ∧ Gr (fun b => b = o) (isn nO) adO LO fO (isn S1.2.2.1) ad2 L2 f2 ∧ (∀ a i : Nat, isn S1.2.2.1 a i → ad2 a i ≠ o) ∧ f2 o = .inl (K 6, 1, .inr (.inl g)) ∧ (ec = 0 → g 0 = v.toInt64))) 2 12 (fun q => b0 ≤ q) := by
  refine t_hof (own := RL) (by decide) rfl ?_ (Nat.le_of_ble_eq_true rfl)
  intro p e s m below meth c ls C w hsz hr hlk htb hl
  have hx := C.1
  have hb := C.2.1
  have hl : lv_has ls 5 [(0, .ref (adO 0 0)), (1, .int p1), (2, .int p2), (3, .ref o)] := hl
  refine lv_aload_n hx hb dL_back_0 rfl (lv_at hl 3 rfl) ?_
  refine lv_iconst (v := 0) hx hb dL_back_1 (by decide) ?_
  refine lv_aload_n hx hb dL_back_2 rfl (lv_at hl 0 rfl) ?_
  refine lv_iload_n hx hb dL_back_3 rfl (lv_at hl 1 rfl) ?_
  refine lv_iload_n hx hb dL_back_4 rfl (lv_at hl 2 rfl) ?_
  refine u_xcallV (n := 2) C w hw (isn_f rfl rfl (by decide)) rfl rfl rfl (c_X6_back l hls D K b0 sa _ LO fO adO (isn nO) (fun _ _ h => h) S0 hw hn p1 p2 ec v S1 h) gw_1100 gw_1097 gw_1098 gw_1099 gw_1 ⟨by decide, by decide, by decide +kernel⟩ rfl rfl ⟨by decide, by decide⟩ rfl hl.1 rfl (Nat.le_of_ble_eq_true rfl) dL_back_5 ⟨Nat.le_of_ble_eq_true rfl, Nat.le_of_ble_eq_true rfl⟩ (fun E ce9 q9 u H locs hp w hcell hv0 hcl => ?_) (fun v9 u H locs hp w => ?_)
  · skip
    obtain ⟨⟨he, hE⟩, f2, rfl, hw2, hn2, hk1⟩ := hp
    have hG2 : Gr (fun b => b = o) (isn nO) adO LO fO (isn nO) adO LO f2 := Gr.rf.kp hk1
    have hmo2 := hmo
    have hno2 := hno
    have hfo2 := (hk1 o hmo hno).trans hfo
    have e2 : isn S1.2.2.1 = isn nO := by rw [hn2]
    rcases hec with hec | hec | hec
    · exact absurd hec he
    · subst hec
      have hE : E = "java/lang/IndexOutOfBoundsException" := hE
      subst hE
      refine t_catch (own := RL) (name := "java/lang/IndexOutOfBoundsException") (E := "java/lang/IndexOutOfBoundsException") C.2.2.2.1 [⟨0, 10, 13, 21⟩] ⟨0, 10, 17, 13⟩ [] htb (fun z hz => by cases List.mem_singleton.mp hz; exact Or.inr ⟨by decide, "java/util/NoSuchElementException", C.2.2.2.2 _ gw_649, hnc_iob_nse w⟩) (by decide) (by decide) (C.2.2.2.2 _ gw_546) (cst w cs_iob) hcell hv0 hcl ?_
      refine lv_astore (lv' := [(4, .ref q9), (0, .ref (adO 0 0)), (1, .int p1), (2, .int p2), (3, .ref o)]) hx hb dL_back_17 hl (by decide) rfl (fun ls hl => ?_)
      refine lv_iconst (v := 2) hx hb dL_back_19 (by decide) ?_
      refine t_iret C hr hlk w ⟨adO, LO, f2, g0, rfl, rfl, ?_, ?_, ?_, hfo2, fun z => absurd z (by decide)⟩ (by decide) (by decide) dL_back_20
      · rw [e2]; exact hw2
      · rw [e2]; exact hG2
      · rw [e2]; exact hno2
    · subst hec
      have hE : E = "java/util/NoSuchElementException" := hE
      subst hE
      refine t_catch (own := RL) (name := "java/util/NoSuchElementException") (E := "java/util/NoSuchElementException") C.2.2.2.1 [] ⟨0, 10, 13, 21⟩ [⟨0, 10, 17, 13⟩] htb (fun z hz => absurd hz List.not_mem_nil) (by decide) (by decide) (C.2.2.2.2 _ gw_649) (cst w cs_nse) hcell hv0 hcl ?_
      refine lv_astore (lv' := [(4, .ref q9), (0, .ref (adO 0 0)), (1, .int p1), (2, .int p2), (3, .ref o)]) hx hb dL_back_13 hl (by decide) rfl (fun ls hl => ?_)
      refine lv_iconst (v := 1) hx hb dL_back_15 (by decide) ?_
      refine t_iret C hr hlk w ⟨adO, LO, f2, g0, rfl, rfl, ?_, ?_, ?_, hfo2, fun z => absurd z (by decide)⟩ (by decide) (by decide) dL_back_16
      · rw [e2]; exact hw2
      · rw [e2]; exact hG2
      · rw [e2]; exact hno2
  · obtain ⟨he, rfl, hp⟩ := hp
    have hp := And.intro trivial hp
    obtain ⟨-, f2, rfl, hw2, hn2, hk1⟩ := hp
    have hG2 : Gr (fun b => b = o) (isn nO) adO LO fO (isn nO) adO LO f2 := Gr.rf.kp hk1
    have hmo2 := hmo
    have hno2 := hno
    have hfo2 := (hk1 o hmo hno).trans hfo
    have e2 : isn S1.2.2.1 = isn nO := by rw [hn2]
    subst he
    refine lv_i2l (v := v.toInt64) hx hb dL_back_8 rfl ?_
    refine g_last C w hmo2 hfo2 dL_back_9 (fun f1 H locs w hg hk => ?_)
    obtain ⟨g1, hf1, hg1⟩ := hg
    refine lv_goto (tgt := 21) hx hb dL_back_10 (by decide) ?_
    refine lv_iconst (v := 0) hx hb dL_back_21 (by decide) ?_
    refine t_iret C hr hlk w ⟨adO, LO, f1, g1, rfl, rfl, ?_, ?_, ?_, hf1, fun _ => hg1⟩ (by decide) (by decide) dL_back_22
    · rw [e2]; exact PW.kp hw2 (fun a i z => hk _ (hno2 a i z))
    · rw [e2]; exact hG2.put (fun _ => rfl) hk
    · rw [e2]; exact hno2
set_option maxHeartbeats 4000000 in
set_option maxRecDepth 100000 in
theorem c_L_broken (l : Launch) (hls : l.stackTraces = false) (D : va_G) (K : Nat → ClassId) (b0 : Nat) (sa : sT) (sz : Nat) (LO : List Nat) (fO : Nat → va_E) (adO : Nat → Nat → Nat) (nO : Nat × Nat) (S0 : fS) (hw : PW K adO (isn nO) S0 LO fO) (hn : S0.2.2.1 = nO) (hprobe : 0 < nO.1) (p1 : Int32) (o : Nat) (hmo : o ∈ LO) (hno : ∀ a i : Nat, isn nO a i → adO a i ≠ o) (g0 : Nat → Int64) (hfo : fO o = .inl (K 6, 1, .inr (.inl g0))) (ec : Nat) (hec : ec = 0 ∨ ec = 3) (v : Int32) (S1 : fS) (h : F_X6_broken p1 S0 = some ((ec, v), S1)) : Met l yL_broken (.codeWith yL_broken cL_broken 4 (some .int) [(0, 9, 12, 21)] :: gt) { frames := 8, cells := 1, slots := 6, locals := 155 } (va_Pc [.ref (adO 0 0), .int p1, .ref o] (hPre D K b0 sa sz LO fO)) (hQ D K b0 (fun v9 u9 => ∃ (ad2 : Nat → Nat → Nat) (L2 : List Nat) (f2 : Nat → va_E) (g : Nat → Int64), v9 = some (.int (if ec = 0 then 0 else 1)) ∧ u9 = lU L2 f2 ∧ PW K ad2 (isn S1.2.2.1) S1 L2 f2 ∧ Gr (fun b => b = o) (isn nO) adO LO fO (isn S1.2.2.1) ad2 L2 f2 ∧ (∀ a i : Nat, isn S1.2.2.1 a i → ad2 a i ≠ o) ∧ f2 o = .inl (K 6, 1, .inr (.inl g)) ∧ (ec = 0 → g 0 = v.toInt64))) 1 6 (fun q => b0 ≤ q) := by
  refine t_hof (own := RL) (by decide) rfl ?_ (Nat.le_of_ble_eq_true rfl)
  intro p e s m below meth c ls C w hsz hr hlk htb hl
  have hx := C.1
  have hb := C.2.1
  have hl : lv_has ls 4 [(0, .ref (adO 0 0)), (1, .int p1), (2, .ref o)] := hl
  refine lv_aload_n hx hb dL_broken_0 rfl (lv_at hl 2 rfl) ?_
  refine lv_iconst (v := 0) hx hb dL_broken_1 (by decide) ?_
  refine lv_aload_n hx hb dL_broken_2 rfl (lv_at hl 0 rfl) ?_
  refine lv_iload_n hx hb dL_broken_3 rfl (lv_at hl 1 rfl) ?_
  refine u_xcallV (n := 1) C w hw (isn_f rfl rfl (by decide)) rfl rfl rfl (c_X6_broken l hls D K b0 sa _ LO fO adO (isn nO) (fun _ _ h => h) S0 hw hn hprobe p1 ec v S1 h) gw_1111 gw_1108 gw_1109 gw_1110 gw_1 ⟨by decide, by decide, by decide +kernel⟩ rfl rfl ⟨by decide, by decide⟩ rfl hl.1 rfl (Nat.le_of_ble_eq_true rfl) dL_broken_4 ⟨Nat.le_of_ble_eq_true rfl, Nat.le_of_ble_eq_true rfl⟩ (fun E ce9 q9 u H locs hp w hcell hv0 hcl => ?_) (fun v9 u H locs hp w => ?_)
  · skip
    obtain ⟨⟨he, hE⟩, f2, rfl, hw2, hn2, hk1⟩ := hp
    have hG2 : Gr (fun b => b = o) (isn nO) adO LO fO (isn nO) adO LO f2 := Gr.rf.kp hk1
    have hmo2 := hmo
    have hno2 := hno
    have hfo2 := (hk1 o hmo hno).trans hfo
    have e2 : isn S1.2.2.1 = isn nO := by rw [hn2]
    rcases hec with hec | hec
    · exact absurd hec he
    · subst hec
      have hE : E = "java/util/NoSuchElementException" := hE
      subst hE
      refine t_catch (own := RL) (name := "java/util/NoSuchElementException") (E := "java/util/NoSuchElementException") C.2.2.2.1 [] ⟨0, 9, 12, 21⟩ [] htb (fun z hz => absurd hz List.not_mem_nil) (by decide) (by decide) (C.2.2.2.2 _ gw_649) (cst w cs_nse) hcell hv0 hcl ?_
      refine lv_astore_n (lv' := [(3, .ref q9), (0, .ref (adO 0 0)), (1, .int p1), (2, .ref o)]) hx hb dL_broken_12 rfl hl (by decide) rfl (fun ls hl => ?_)
      refine lv_iconst (v := 1) hx hb dL_broken_13 (by decide) ?_
      refine t_iret C hr hlk w ⟨adO, LO, f2, g0, rfl, rfl, ?_, ?_, ?_, hfo2, fun z => absurd z (by decide)⟩ (by decide) (by decide) dL_broken_14
      · rw [e2]; exact hw2
      · rw [e2]; exact hG2
      · rw [e2]; exact hno2
  · obtain ⟨he, rfl, hp⟩ := hp
    have hp := And.intro trivial hp
    obtain ⟨-, f2, rfl, hw2, hn2, hk1⟩ := hp
    have hG2 : Gr (fun b => b = o) (isn nO) adO LO fO (isn nO) adO LO f2 := Gr.rf.kp hk1
    have hmo2 := hmo
    have hno2 := hno
    have hfo2 := (hk1 o hmo hno).trans hfo
    have e2 : isn S1.2.2.1 = isn nO := by rw [hn2]
    subst he
    refine lv_i2l (v := v.toInt64) hx hb dL_broken_7 rfl ?_
    refine g_last C w hmo2 hfo2 dL_broken_8 (fun f1 H locs w hg hk => ?_)
    obtain ⟨g1, hf1, hg1⟩ := hg
    refine lv_goto (tgt := 15) hx hb dL_broken_9 (by decide) ?_
    refine lv_iconst (v := 0) hx hb dL_broken_15 (by decide) ?_
    refine t_iret C hr hlk w ⟨adO, LO, f1, g1, rfl, rfl, ?_, ?_, ?_, hf1, fun _ => hg1⟩ (by decide) (by decide) dL_broken_16
    · rw [e2]; exact PW.kp hw2 (fun a i z => hk _ (hno2 a i z))
    · rw [e2]; exact hG2.put (fun _ => rfl) hk
    · rw [e2]; exact hno2
set_option maxHeartbeats 4000000 in
set_option maxRecDepth 100000 in
theorem c_L_cut (l : Launch) (hls : l.stackTraces = false) (D : va_G) (K : Nat → ClassId) (b0 : Nat) (sa : sT) (sz : Nat) (LO : List Nat) (fO : Nat → va_E) (adO : Nat → Nat → Nat) (nO : Nat × Nat) (S0 : fS) (hw : PW K adO (isn nO) S0 LO fO) (hn : S0.2.2.1 = nO) (hprobe : 0 < nO.1) (p1 : Int32) (p2 : Int32) (p3 : Int32) (p4 : Int32) (p5 : Int32) (o : Nat) (hmo : o ∈ LO) (hno : ∀ a i : Nat, isn nO a i → adO a i ≠ o) (g0 : Nat → Int64) (hfo : fO o = .inl (K 6, 1, .inr (.inl g0))) (ec : Nat) (hec : ec = 0 ∨ ec = 1 ∨ ec = 3) (v : Int32) (S1 : fS) (h : F_X6_cut p1 p2 p3 p4 p5 S0 = some ((ec, v), S1)) : Met l yL_cut (.codeWith yL_cut cL_cut 8 (some .int) [(0, 16, 19, 21), (0, 16, 23, 15)] :: gt) { frames := 8, cells := 3, slots := 18, locals := 132 } (va_Pc [.ref (adO 0 0), .int p1, .int p2, .int p3, .int p4, .int p5, .ref o] (hPre D K b0 sa sz LO fO)) (hQ D K b0 (fun v9 u9 => ∃ (ad2 : Nat → Nat → Nat) (L2 : List Nat) (f2 : Nat → va_E) (g : Nat → Int64), v9 = some (.int (if ec = 0 then 0 else if ec = 1 then 2 else 1)) ∧ u9 = lU L2 f2 ∧ PW K ad2 (isn S1.2.2.1) S1 L2 f2 ∧ Gr (fun b => b = o) (isn nO) adO LO fO (isn S1.2.2.1) ad2 L2 f2 ∧ (∀ a i : Nat, isn S1.2.2.1 a i → ad2 a i ≠ o) ∧ f2 o = .inl (K 6, 1, .inr (.inl g)) ∧ (ec = 0 → g 0 = v.toInt64))) 3 18 (fun q => b0 ≤ q) := by
  refine t_hof (own := RL) (by decide) rfl ?_ (Nat.le_of_ble_eq_true rfl)
  intro p e s m below meth c ls C w hsz hr hlk htb hl
  have hx := C.1
  have hb := C.2.1
  have hl : lv_has ls 8 [(0, .ref (adO 0 0)), (1, .int p1), (2, .int p2), (3, .int p3), (4, .int p4), (5, .int p5), (6, .ref o)] := hl
  refine lv_aload hx hb dL_cut_0 (lv_at hl 6 rfl) ?_
  refine lv_iconst (v := 0) hx hb dL_cut_2 (by decide) ?_
  refine lv_aload_n hx hb dL_cut_3 rfl (lv_at hl 0 rfl) ?_
  refine lv_iload_n hx hb dL_cut_4 rfl (lv_at hl 1 rfl) ?_
  refine lv_iload_n hx hb dL_cut_5 rfl (lv_at hl 2 rfl) ?_
  refine lv_iload_n hx hb dL_cut_6 rfl (lv_at hl 3 rfl) ?_
  refine lv_iload hx hb dL_cut_7 (lv_at hl 4 rfl) ?_
  refine lv_iload hx hb dL_cut_9 (lv_at hl 5 rfl) ?_
  refine u_xcallV (n := 5) C w hw (isn_f rfl rfl (by decide)) rfl rfl rfl (c_X6_cut l hls D K b0 sa _ LO fO adO (isn nO) (fun _ _ h => h) S0 hw hn p1 p2 p3 p4 p5 ec v S1 h) gw_1123 gw_1120 gw_1121 gw_1122 gw_1 ⟨by decide, by decide, by decide +kernel⟩ rfl rfl ⟨by decide, by decide⟩ rfl hl.1 rfl (Nat.le_of_ble_eq_true rfl) dL_cut_11 ⟨Nat.le_of_ble_eq_true rfl, Nat.le_of_ble_eq_true rfl⟩ (fun E ce9 q9 u H locs hp w hcell hv0 hcl => ?_) (fun v9 u H locs hp w => ?_)
  · skip
    obtain ⟨⟨he, hE⟩, f2, rfl, hw2, hn2, hk1⟩ := hp
    have hG2 : Gr (fun b => b = o) (isn nO) adO LO fO (isn nO) adO LO f2 := Gr.rf.kp hk1
    have hmo2 := hmo
    have hno2 := hno
    have hfo2 := (hk1 o hmo hno).trans hfo
    have e2 : isn S1.2.2.1 = isn nO := by rw [hn2]
    rcases hec with hec | hec | hec
    · exact absurd hec he
    · subst hec
      have hE : E = "java/lang/IllegalArgumentException" := hE
      subst hE
      refine t_catch (own := RL) (name := "java/lang/IllegalArgumentException") (E := "java/lang/IllegalArgumentException") C.2.2.2.1 [⟨0, 16, 19, 21⟩] ⟨0, 16, 23, 15⟩ [] htb (fun z hz => by cases List.mem_singleton.mp hz; exact Or.inr ⟨by decide, "java/util/NoSuchElementException", C.2.2.2.2 _ gw_649, hnc_iae_nse w⟩) (by decide) (by decide) (C.2.2.2.2 _ gw_547) (cst w cs_iae) hcell hv0 hcl ?_
      refine lv_astore (lv' := [(7, .ref q9), (0, .ref (adO 0 0)), (1, .int p1), (2, .int p2), (3, .int p3), (4, .int p4), (5, .int p5), (6, .ref o)]) hx hb dL_cut_23 hl (by decide) rfl (fun ls hl => ?_)
      refine lv_iconst (v := 2) hx hb dL_cut_25 (by decide) ?_
      refine t_iret C hr hlk w ⟨adO, LO, f2, g0, rfl, rfl, ?_, ?_, ?_, hfo2, fun z => absurd z (by decide)⟩ (by decide) (by decide) dL_cut_26
      · rw [e2]; exact hw2
      · rw [e2]; exact hG2
      · rw [e2]; exact hno2
    · subst hec
      have hE : E = "java/util/NoSuchElementException" := hE
      subst hE
      refine t_catch (own := RL) (name := "java/util/NoSuchElementException") (E := "java/util/NoSuchElementException") C.2.2.2.1 [] ⟨0, 16, 19, 21⟩ [⟨0, 16, 23, 15⟩] htb (fun z hz => absurd hz List.not_mem_nil) (by decide) (by decide) (C.2.2.2.2 _ gw_649) (cst w cs_nse) hcell hv0 hcl ?_
      refine lv_astore (lv' := [(7, .ref q9), (0, .ref (adO 0 0)), (1, .int p1), (2, .int p2), (3, .int p3), (4, .int p4), (5, .int p5), (6, .ref o)]) hx hb dL_cut_19 hl (by decide) rfl (fun ls hl => ?_)
      refine lv_iconst (v := 1) hx hb dL_cut_21 (by decide) ?_
      refine t_iret C hr hlk w ⟨adO, LO, f2, g0, rfl, rfl, ?_, ?_, ?_, hfo2, fun z => absurd z (by decide)⟩ (by decide) (by decide) dL_cut_22
      · rw [e2]; exact hw2
      · rw [e2]; exact hG2
      · rw [e2]; exact hno2
  · obtain ⟨he, rfl, hp⟩ := hp
    have hp := And.intro trivial hp
    obtain ⟨-, f2, rfl, hw2, hn2, hk1⟩ := hp
    have hG2 : Gr (fun b => b = o) (isn nO) adO LO fO (isn nO) adO LO f2 := Gr.rf.kp hk1
    have hmo2 := hmo
    have hno2 := hno
    have hfo2 := (hk1 o hmo hno).trans hfo
    have e2 : isn S1.2.2.1 = isn nO := by rw [hn2]
    subst he
    refine lv_i2l (v := v.toInt64) hx hb dL_cut_14 rfl ?_
    refine g_last C w hmo2 hfo2 dL_cut_15 (fun f1 H locs w hg hk => ?_)
    obtain ⟨g1, hf1, hg1⟩ := hg
    refine lv_goto (tgt := 27) hx hb dL_cut_16 (by decide) ?_
    refine lv_iconst (v := 0) hx hb dL_cut_27 (by decide) ?_
    refine t_iret C hr hlk w ⟨adO, LO, f1, g1, rfl, rfl, ?_, ?_, ?_, hf1, fun _ => hg1⟩ (by decide) (by decide) dL_cut_28
    · rw [e2]; exact PW.kp hw2 (fun a i z => hk _ (hno2 a i z))
    · rw [e2]; exact hG2.put (fun _ => rfl) hk
    · rw [e2]; exact hno2
set_option maxHeartbeats 4000000 in
set_option maxRecDepth 100000 in
theorem c_L_player (l : Launch) (hls : l.stackTraces = false) (D : va_G) (K : Nat → ClassId) (b0 : Nat) (sa : sT) (sz : Nat) (LO : List Nat) (fO : Nat → va_E) (adO : Nat → Nat → Nat) (nO : Nat × Nat) (S0 : fS) (hw : PW K adO (isn nO) S0 LO fO) (hn : S0.2.2.1 = nO) (hprobe : 0 < nO.1) (p1 : Int32) (p2 : Int32) (p3 : Int32) (p4 : Int32) (o : Nat) (hmo : o ∈ LO) (hno : ∀ a i : Nat, isn nO a i → adO a i ≠ o) (g0 : Nat → Int64) (hfo : fO o = .inl (K 6, 1, .inr (.inl g0))) (ec : Nat) (hec : ec = 0 ∨ ec = 1 ∨ ec = 2) (v : Int32) (S1 : fS) (h : F_X6_player p1 p2 p3 p4 S0 = some ((ec, v), S1)) : Met l yL_player (.codeWith yL_player cL_player 7 (some .int) [(0, 14, 17, 13), (0, 14, 21, 15)] :: gt) { frames := 8, cells := 2, slots := 12, locals := 167 } (va_Pc [.ref (adO 0 0), .int p1, .int p2, .int p3, .int p4, .ref o] (hPre D K b0 sa sz LO fO)) (hQ D K b0 (fun v9 u9 => ∃ (ad2 : Nat → Nat → Nat) (L2 : List Nat) (f2 : Nat → va_E) (g : Nat → Int64), v9 = some (.int (if ec = 0 then 0 else if ec = 1 then 2 else 1)) ∧ u9 = lU L2 f2 ∧ PW K ad2 (isn S1.2.2.1) S1 L2 f2 ∧ Gr (fun b => b = o) (isn nO) adO LO fO (isn S1.2.2.1) ad2 L2 f2 ∧ (∀ a i : Nat, isn S1.2.2.1 a i → ad2 a i ≠ o) ∧ f2 o = .inl (K 6, 1, .inr (.inl g)) ∧ (ec = 0 → g 0 = v.toInt64))) 2 12 (fun q => b0 ≤ q) := by
  refine t_hof (own := RL) (by decide) rfl ?_ (Nat.le_of_ble_eq_true rfl)
  intro p e s m below meth c ls C w hsz hr hlk htb hl
  have hx := C.1
  have hb := C.2.1
  have hl : lv_has ls 7 [(0, .ref (adO 0 0)), (1, .int p1), (2, .int p2), (3, .int p3), (4, .int p4), (5, .ref o)] := hl
  refine lv_aload hx hb dL_player_0 (lv_at hl 5 rfl) ?_
  refine lv_iconst (v := 0) hx hb dL_player_2 (by decide) ?_
  refine lv_aload_n hx hb dL_player_3 rfl (lv_at hl 0 rfl) ?_
  refine lv_iload_n hx hb dL_player_4 rfl (lv_at hl 1 rfl) ?_
  refine lv_iload_n hx hb dL_player_5 rfl (lv_at hl 2 rfl) ?_
  refine lv_iload_n hx hb dL_player_6 rfl (lv_at hl 3 rfl) ?_
  refine lv_iload hx hb dL_player_7 (lv_at hl 4 rfl) ?_
  refine u_xcallV (n := 4) C w hw (isn_f rfl rfl (by decide)) rfl rfl rfl (c_X6_player l hls D K b0 sa _ LO fO adO (isn nO) (fun _ _ h => h) S0 hw hn hprobe p1 p2 p3 p4 ec v S1 h) gw_1133 gw_1130 gw_1131 gw_1132 gw_1 ⟨by decide, by decide, by decide +kernel⟩ rfl rfl ⟨by decide, by decide⟩ rfl hl.1 rfl (Nat.le_of_ble_eq_true rfl) dL_player_9 ⟨Nat.le_of_ble_eq_true rfl, Nat.le_of_ble_eq_true rfl⟩ (fun E ce9 q9 u H locs hp w hcell hv0 hcl => ?_) (fun v9 u H locs hp w => ?_)
  · skip
    obtain ⟨⟨he, hE⟩, f2, rfl, hw2, hn2, hk1⟩ := hp
    have hG2 : Gr (fun b => b = o) (isn nO) adO LO fO (isn nO) adO LO f2 := Gr.rf.kp hk1
    have hmo2 := hmo
    have hno2 := hno
    have hfo2 := (hk1 o hmo hno).trans hfo
    have e2 : isn S1.2.2.1 = isn nO := by rw [hn2]
    rcases hec with hec | hec | hec
    · exact absurd hec he
    · subst hec
      have hE : E = "java/lang/IllegalArgumentException" := hE
      subst hE
      refine t_catch (own := RL) (name := "java/lang/IllegalArgumentException") (E := "java/lang/IllegalArgumentException") C.2.2.2.1 [⟨0, 14, 17, 13⟩] ⟨0, 14, 21, 15⟩ [] htb (fun z hz => by cases List.mem_singleton.mp hz; exact Or.inr ⟨by decide, "java/lang/IndexOutOfBoundsException", C.2.2.2.2 _ gw_546, hnc_iae_iob w⟩) (by decide) (by decide) (C.2.2.2.2 _ gw_547) (cst w cs_iae) hcell hv0 hcl ?_
      refine lv_astore (lv' := [(6, .ref q9), (0, .ref (adO 0 0)), (1, .int p1), (2, .int p2), (3, .int p3), (4, .int p4), (5, .ref o)]) hx hb dL_player_21 hl (by decide) rfl (fun ls hl => ?_)
      refine lv_iconst (v := 2) hx hb dL_player_23 (by decide) ?_
      refine t_iret C hr hlk w ⟨adO, LO, f2, g0, rfl, rfl, ?_, ?_, ?_, hfo2, fun z => absurd z (by decide)⟩ (by decide) (by decide) dL_player_24
      · rw [e2]; exact hw2
      · rw [e2]; exact hG2
      · rw [e2]; exact hno2
    · subst hec
      have hE : E = "java/lang/IndexOutOfBoundsException" := hE
      subst hE
      refine t_catch (own := RL) (name := "java/lang/IndexOutOfBoundsException") (E := "java/lang/IndexOutOfBoundsException") C.2.2.2.1 [] ⟨0, 14, 17, 13⟩ [⟨0, 14, 21, 15⟩] htb (fun z hz => absurd hz List.not_mem_nil) (by decide) (by decide) (C.2.2.2.2 _ gw_546) (cst w cs_iob) hcell hv0 hcl ?_
      refine lv_astore (lv' := [(6, .ref q9), (0, .ref (adO 0 0)), (1, .int p1), (2, .int p2), (3, .int p3), (4, .int p4), (5, .ref o)]) hx hb dL_player_17 hl (by decide) rfl (fun ls hl => ?_)
      refine lv_iconst (v := 1) hx hb dL_player_19 (by decide) ?_
      refine t_iret C hr hlk w ⟨adO, LO, f2, g0, rfl, rfl, ?_, ?_, ?_, hfo2, fun z => absurd z (by decide)⟩ (by decide) (by decide) dL_player_20
      · rw [e2]; exact hw2
      · rw [e2]; exact hG2
      · rw [e2]; exact hno2
  · obtain ⟨he, rfl, hp⟩ := hp
    have hp := And.intro trivial hp
    obtain ⟨-, f2, rfl, hw2, hn2, hk1⟩ := hp
    have hG2 : Gr (fun b => b = o) (isn nO) adO LO fO (isn nO) adO LO f2 := Gr.rf.kp hk1
    have hmo2 := hmo
    have hno2 := hno
    have hfo2 := (hk1 o hmo hno).trans hfo
    have e2 : isn S1.2.2.1 = isn nO := by rw [hn2]
    subst he
    refine lv_i2l (v := v.toInt64) hx hb dL_player_12 rfl ?_
    refine g_last C w hmo2 hfo2 dL_player_13 (fun f1 H locs w hg hk => ?_)
    obtain ⟨g1, hf1, hg1⟩ := hg
    refine lv_goto (tgt := 25) hx hb dL_player_14 (by decide) ?_
    refine lv_iconst (v := 0) hx hb dL_player_25 (by decide) ?_
    refine t_iret C hr hlk w ⟨adO, LO, f1, g1, rfl, rfl, ?_, ?_, ?_, hf1, fun _ => hg1⟩ (by decide) (by decide) dL_player_26
    · rw [e2]; exact PW.kp hw2 (fun a i z => hk _ (hno2 a i z))
    · rw [e2]; exact hG2.put (fun _ => rfl) hk
    · rw [e2]; exact hno2
set_option maxHeartbeats 4000000 in
set_option maxRecDepth 100000 in
theorem c_L_fair (l : Launch) (hls : l.stackTraces = false) (D : va_G) (K : Nat → ClassId) (b0 : Nat) (sa : sT) (sz : Nat) (LO : List Nat) (fO : Nat → va_E) (adO : Nat → Nat → Nat) (nO : Nat × Nat) (S0 : fS) (hw : PW K adO (isn nO) S0 LO fO) (hn : S0.2.2.1 = nO) (hprobe : 0 < nO.1) (p1 : Int32) (o : Nat) (hmo : o ∈ LO) (hno : ∀ a i : Nat, isn nO a i → adO a i ≠ o) (g0 : Nat → Int64) (hfo : fO o = .inl (K 6, 1, .inr (.inl g0))) (ec : Nat) (hec : ec = 0 ∨ ec = 1) (v : Int32) (S1 : fS) (h : F_X6_fair p1 S0 = some ((ec, v), S1)) : Met l yL_fair (.codeWith yL_fair cL_fair 4 (some .int) [(0, 9, 12, 15)] :: gt) { frames := 8, cells := 1, slots := 6, locals := 167 } (va_Pc [.ref (adO 0 0), .int p1, .ref o] (hPre D K b0 sa sz LO fO)) (hQ D K b0 (fun v9 u9 => ∃ (ad2 : Nat → Nat → Nat) (L2 : List Nat) (f2 : Nat → va_E) (g : Nat → Int64), v9 = some (.int (if ec = 0 then 0 else 1)) ∧ u9 = lU L2 f2 ∧ PW K ad2 (isn S1.2.2.1) S1 L2 f2 ∧ Gr (fun b => b = o) (isn nO) adO LO fO (isn S1.2.2.1) ad2 L2 f2 ∧ (∀ a i : Nat, isn S1.2.2.1 a i → ad2 a i ≠ o) ∧ f2 o = .inl (K 6, 1, .inr (.inl g)) ∧ (ec = 0 → g 0 = v.toInt64))) 1 6 (fun q => b0 ≤ q) := by
  refine t_hof (own := RL) (by decide) rfl ?_ (Nat.le_of_ble_eq_true rfl)
  intro p e s m below meth c ls C w hsz hr hlk htb hl
  have hx := C.1
  have hb := C.2.1
  have hl : lv_has ls 4 [(0, .ref (adO 0 0)), (1, .int p1), (2, .ref o)] := hl
  refine lv_aload_n hx hb dL_fair_0 rfl (lv_at hl 2 rfl) ?_
  refine lv_iconst (v := 0) hx hb dL_fair_1 (by decide) ?_
  refine lv_aload_n hx hb dL_fair_2 rfl (lv_at hl 0 rfl) ?_
  refine lv_iload_n hx hb dL_fair_3 rfl (lv_at hl 1 rfl) ?_
  refine u_xcallV (n := 1) C w hw (isn_f rfl rfl (by decide)) rfl rfl rfl (c_X6_fair l hls D K b0 sa _ LO fO adO (isn nO) (fun _ _ h => h) S0 hw hn hprobe p1 ec v S1 h) gw_1143 gw_1140 gw_1141 gw_1142 gw_1 ⟨by decide, by decide, by decide +kernel⟩ rfl rfl ⟨by decide, by decide⟩ rfl hl.1 rfl (Nat.le_of_ble_eq_true rfl) dL_fair_4 ⟨Nat.le_of_ble_eq_true rfl, Nat.le_of_ble_eq_true rfl⟩ (fun E ce9 q9 u H locs hp w hcell hv0 hcl => ?_) (fun v9 u H locs hp w => ?_)
  · skip
    obtain ⟨⟨he, hE⟩, f2, rfl, hw2, hn2, hk1⟩ := hp
    have hG2 : Gr (fun b => b = o) (isn nO) adO LO fO (isn nO) adO LO f2 := Gr.rf.kp hk1
    have hmo2 := hmo
    have hno2 := hno
    have hfo2 := (hk1 o hmo hno).trans hfo
    have e2 : isn S1.2.2.1 = isn nO := by rw [hn2]
    rcases hec with hec | hec
    · exact absurd hec he
    · subst hec
      have hE : E = "java/lang/IllegalArgumentException" := hE
      subst hE
      refine t_catch (own := RL) (name := "java/lang/IllegalArgumentException") (E := "java/lang/IllegalArgumentException") C.2.2.2.1 [] ⟨0, 9, 12, 15⟩ [] htb (fun z hz => absurd hz List.not_mem_nil) (by decide) (by decide) (C.2.2.2.2 _ gw_547) (cst w cs_iae) hcell hv0 hcl ?_
      refine lv_astore_n (lv' := [(3, .ref q9), (0, .ref (adO 0 0)), (1, .int p1), (2, .ref o)]) hx hb dL_fair_12 rfl hl (by decide) rfl (fun ls hl => ?_)
      refine lv_iconst (v := 1) hx hb dL_fair_13 (by decide) ?_
      refine t_iret C hr hlk w ⟨adO, LO, f2, g0, rfl, rfl, ?_, ?_, ?_, hfo2, fun z => absurd z (by decide)⟩ (by decide) (by decide) dL_fair_14
      · rw [e2]; exact hw2
      · rw [e2]; exact hG2
      · rw [e2]; exact hno2
  · obtain ⟨he, rfl, hp⟩ := hp
    have hp := And.intro trivial hp
    obtain ⟨-, f2, rfl, hw2, hn2, hk1⟩ := hp
    have hG2 : Gr (fun b => b = o) (isn nO) adO LO fO (isn nO) adO LO f2 := Gr.rf.kp hk1
    have hmo2 := hmo
    have hno2 := hno
    have hfo2 := (hk1 o hmo hno).trans hfo
    have e2 : isn S1.2.2.1 = isn nO := by rw [hn2]
    subst he
    refine lv_i2l (v := v.toInt64) hx hb dL_fair_7 rfl ?_
    refine g_last C w hmo2 hfo2 dL_fair_8 (fun f1 H locs w hg hk => ?_)
    obtain ⟨g1, hf1, hg1⟩ := hg
    refine lv_goto (tgt := 15) hx hb dL_fair_9 (by decide) ?_
    refine lv_iconst (v := 0) hx hb dL_fair_15 (by decide) ?_
    refine t_iret C hr hlk w ⟨adO, LO, f1, g1, rfl, rfl, ?_, ?_, ?_, hf1, fun _ => hg1⟩ (by decide) (by decide) dL_fair_16
    · rw [e2]; exact PW.kp hw2 (fun a i z => hk _ (hno2 a i z))
    · rw [e2]; exact hG2.put (fun _ => rfl) hk
    · rw [e2]; exact hno2
