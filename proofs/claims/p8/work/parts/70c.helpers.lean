theorem dL_odds_0 : decode cL_odds 0 = .ok (.aload 4, 2) := by decide +kernel
theorem dL_odds_2 : decode cL_odds 2 = .ok (.iconst 0, 1) := by decide +kernel
theorem dL_odds_3 : decode cL_odds 3 = .ok (.aload_n 0, 1) := by decide +kernel
theorem dL_odds_4 : decode cL_odds 4 = .ok (.iload_n 1, 1) := by decide +kernel
theorem dL_odds_5 : decode cL_odds 5 = .ok (.iload_n 2, 1) := by decide +kernel
theorem dL_odds_6 : decode cL_odds 6 = .ok (.iload_n 3, 1) := by decide +kernel
theorem dL_odds_7 : decode cL_odds 7 = .ok (.invokevirtual 62, 3) := by decide +kernel
theorem dL_odds_10 : decode cL_odds 10 = .ok (.i2l, 1) := by decide +kernel
theorem dL_odds_11 : decode cL_odds 11 = .ok (.lastore, 1) := by decide +kernel
theorem dL_odds_12 : decode cL_odds 12 = .ok (.goto 15, 3) := by decide +kernel
theorem dL_odds_15 : decode cL_odds 15 = .ok (.astore 5, 2) := by decide +kernel
theorem dL_odds_17 : decode cL_odds 17 = .ok (.iconst 1, 1) := by decide +kernel
theorem dL_odds_18 : decode cL_odds 18 = .ok (.ireturn, 1) := by decide +kernel
theorem dL_odds_19 : decode cL_odds 19 = .ok (.astore 5, 2) := by decide +kernel
theorem dL_odds_21 : decode cL_odds 21 = .ok (.iconst 2, 1) := by decide +kernel
theorem dL_odds_22 : decode cL_odds 22 = .ok (.ireturn, 1) := by decide +kernel
theorem dL_odds_23 : decode cL_odds 23 = .ok (.astore 5, 2) := by decide +kernel
theorem dL_odds_25 : decode cL_odds 25 = .ok (.iconst 3, 1) := by decide +kernel
theorem dL_odds_26 : decode cL_odds 26 = .ok (.ireturn, 1) := by decide +kernel
theorem dL_odds_27 : decode cL_odds 27 = .ok (.iconst 0, 1) := by decide +kernel
theorem dL_odds_28 : decode cL_odds 28 = .ok (.ireturn, 1) := by decide +kernel
theorem dL_weights_0 : decode cL_weights 0 = .ok (.aload_n 2, 1) := by decide +kernel
theorem dL_weights_1 : decode cL_weights 1 = .ok (.iconst 0, 1) := by decide +kernel
theorem dL_weights_2 : decode cL_weights 2 = .ok (.aload_n 0, 1) := by decide +kernel
theorem dL_weights_3 : decode cL_weights 3 = .ok (.iload_n 1, 1) := by decide +kernel
theorem dL_weights_4 : decode cL_weights 4 = .ok (.invokevirtual 66, 3) := by decide +kernel
theorem dL_weights_7 : decode cL_weights 7 = .ok (.i2l, 1) := by decide +kernel
theorem dL_weights_8 : decode cL_weights 8 = .ok (.lastore, 1) := by decide +kernel
theorem dL_weights_9 : decode cL_weights 9 = .ok (.goto 6, 3) := by decide +kernel
theorem dL_weights_12 : decode cL_weights 12 = .ok (.astore_n 3, 1) := by decide +kernel
theorem dL_weights_13 : decode cL_weights 13 = .ok (.iconst 1, 1) := by decide +kernel
theorem dL_weights_14 : decode cL_weights 14 = .ok (.ireturn, 1) := by decide +kernel
theorem dL_weights_15 : decode cL_weights 15 = .ok (.iconst 0, 1) := by decide +kernel
theorem dL_weights_16 : decode cL_weights 16 = .ok (.ireturn, 1) := by decide +kernel
theorem dL_when_0 : decode cL_when 0 = .ok (.aload_n 3, 1) := by decide +kernel
theorem dL_when_1 : decode cL_when 1 = .ok (.iconst 0, 1) := by decide +kernel
theorem dL_when_2 : decode cL_when 2 = .ok (.aload_n 0, 1) := by decide +kernel
theorem dL_when_3 : decode cL_when 3 = .ok (.iload_n 1, 1) := by decide +kernel
theorem dL_when_4 : decode cL_when 4 = .ok (.iload_n 2, 1) := by decide +kernel
theorem dL_when_5 : decode cL_when 5 = .ok (.invokevirtual 69, 3) := by decide +kernel
theorem dL_when_8 : decode cL_when 8 = .ok (.i2l, 1) := by decide +kernel
theorem dL_when_9 : decode cL_when 9 = .ok (.lastore, 1) := by decide +kernel
theorem dL_when_10 : decode cL_when 10 = .ok (.goto 11, 3) := by decide +kernel
theorem dL_when_13 : decode cL_when 13 = .ok (.astore 4, 2) := by decide +kernel
theorem dL_when_15 : decode cL_when 15 = .ok (.iconst 1, 1) := by decide +kernel
theorem dL_when_16 : decode cL_when 16 = .ok (.ireturn, 1) := by decide +kernel
theorem dL_when_17 : decode cL_when 17 = .ok (.astore 4, 2) := by decide +kernel
theorem dL_when_19 : decode cL_when 19 = .ok (.iconst 2, 1) := by decide +kernel
theorem dL_when_20 : decode cL_when 20 = .ok (.ireturn, 1) := by decide +kernel
theorem dL_when_21 : decode cL_when 21 = .ok (.iconst 0, 1) := by decide +kernel
theorem dL_when_22 : decode cL_when 22 = .ok (.ireturn, 1) := by decide +kernel
theorem dL_strange_0 : decode cL_strange 0 = .ok (.aload_n 2, 1) := by decide +kernel
theorem dL_strange_1 : decode cL_strange 1 = .ok (.iconst 0, 1) := by decide +kernel
theorem dL_strange_2 : decode cL_strange 2 = .ok (.aload_n 0, 1) := by decide +kernel
theorem dL_strange_3 : decode cL_strange 3 = .ok (.iload_n 1, 1) := by decide +kernel
theorem dL_strange_4 : decode cL_strange 4 = .ok (.invokevirtual 72, 3) := by decide +kernel
theorem dL_strange_7 : decode cL_strange 7 = .ok (.i2l, 1) := by decide +kernel
theorem dL_strange_8 : decode cL_strange 8 = .ok (.lastore, 1) := by decide +kernel
theorem dL_strange_9 : decode cL_strange 9 = .ok (.goto 6, 3) := by decide +kernel
theorem dL_strange_12 : decode cL_strange 12 = .ok (.astore_n 3, 1) := by decide +kernel
theorem dL_strange_13 : decode cL_strange 13 = .ok (.iconst 1, 1) := by decide +kernel
theorem dL_strange_14 : decode cL_strange 14 = .ok (.ireturn, 1) := by decide +kernel
theorem dL_strange_15 : decode cL_strange 15 = .ok (.iconst 0, 1) := by decide +kernel
theorem dL_strange_16 : decode cL_strange 16 = .ok (.ireturn, 1) := by decide +kernel
theorem dL_guess_0 : decode cL_guess 0 = .ok (.aload_n 2, 1) := by decide +kernel
theorem dL_guess_1 : decode cL_guess 1 = .ok (.iconst 0, 1) := by decide +kernel
theorem dL_guess_2 : decode cL_guess 2 = .ok (.aload_n 0, 1) := by decide +kernel
theorem dL_guess_3 : decode cL_guess 3 = .ok (.iload_n 1, 1) := by decide +kernel
theorem dL_guess_4 : decode cL_guess 4 = .ok (.invokevirtual 75, 3) := by decide +kernel
theorem dL_guess_7 : decode cL_guess 7 = .ok (.i2l, 1) := by decide +kernel
theorem dL_guess_8 : decode cL_guess 8 = .ok (.lastore, 1) := by decide +kernel
theorem dL_guess_9 : decode cL_guess 9 = .ok (.goto 6, 3) := by decide +kernel
theorem dL_guess_12 : decode cL_guess 12 = .ok (.astore_n 3, 1) := by decide +kernel
theorem dL_guess_13 : decode cL_guess 13 = .ok (.iconst 1, 1) := by decide +kernel
theorem dL_guess_14 : decode cL_guess 14 = .ok (.ireturn, 1) := by decide +kernel
theorem dL_guess_15 : decode cL_guess 15 = .ok (.iconst 0, 1) := by decide +kernel
theorem dL_guess_16 : decode cL_guess 16 = .ok (.ireturn, 1) := by decide +kernel
theorem dL_worth_0 : decode cL_worth 0 = .ok (.aload 4, 2) := by decide +kernel
theorem dL_worth_2 : decode cL_worth 2 = .ok (.iconst 0, 1) := by decide +kernel
theorem dL_worth_3 : decode cL_worth 3 = .ok (.aload_n 0, 1) := by decide +kernel
theorem dL_worth_4 : decode cL_worth 4 = .ok (.iload_n 1, 1) := by decide +kernel
theorem dL_worth_5 : decode cL_worth 5 = .ok (.iload_n 2, 1) := by decide +kernel
theorem dL_worth_6 : decode cL_worth 6 = .ok (.iload_n 3, 1) := by decide +kernel
theorem dL_worth_7 : decode cL_worth 7 = .ok (.invokevirtual 78, 3) := by decide +kernel
theorem dL_worth_10 : decode cL_worth 10 = .ok (.i2l, 1) := by decide +kernel
theorem dL_worth_11 : decode cL_worth 11 = .ok (.lastore, 1) := by decide +kernel
theorem dL_worth_12 : decode cL_worth 12 = .ok (.goto 11, 3) := by decide +kernel
theorem dL_worth_15 : decode cL_worth 15 = .ok (.astore 5, 2) := by decide +kernel
theorem dL_worth_17 : decode cL_worth 17 = .ok (.iconst 1, 1) := by decide +kernel
theorem dL_worth_18 : decode cL_worth 18 = .ok (.ireturn, 1) := by decide +kernel
theorem dL_worth_19 : decode cL_worth 19 = .ok (.astore 5, 2) := by decide +kernel
theorem dL_worth_21 : decode cL_worth 21 = .ok (.iconst 2, 1) := by decide +kernel
theorem dL_worth_22 : decode cL_worth 22 = .ok (.ireturn, 1) := by decide +kernel
theorem dL_worth_23 : decode cL_worth 23 = .ok (.iconst 0, 1) := by decide +kernel
theorem dL_worth_24 : decode cL_worth 24 = .ok (.ireturn, 1) := by decide +kernel
theorem dL_bide_0 : decode cL_bide 0 = .ok (.aload_n 3, 1) := by decide +kernel
theorem dL_bide_1 : decode cL_bide 1 = .ok (.iconst 0, 1) := by decide +kernel
theorem dL_bide_2 : decode cL_bide 2 = .ok (.aload_n 0, 1) := by decide +kernel
theorem dL_bide_3 : decode cL_bide 3 = .ok (.iload_n 1, 1) := by decide +kernel
theorem dL_bide_4 : decode cL_bide 4 = .ok (.iload_n 2, 1) := by decide +kernel
theorem dL_bide_5 : decode cL_bide 5 = .ok (.invokevirtual 81, 3) := by decide +kernel
theorem dL_bide_8 : decode cL_bide 8 = .ok (.i2l, 1) := by decide +kernel
theorem dL_bide_9 : decode cL_bide 9 = .ok (.lastore, 1) := by decide +kernel
theorem dL_bide_10 : decode cL_bide 10 = .ok (.goto 7, 3) := by decide +kernel
theorem dL_bide_13 : decode cL_bide 13 = .ok (.astore 4, 2) := by decide +kernel
theorem dL_bide_15 : decode cL_bide 15 = .ok (.iconst 1, 1) := by decide +kernel
theorem dL_bide_16 : decode cL_bide 16 = .ok (.ireturn, 1) := by decide +kernel
theorem dL_bide_17 : decode cL_bide 17 = .ok (.iconst 0, 1) := by decide +kernel
theorem dL_bide_18 : decode cL_bide 18 = .ok (.ireturn, 1) := by decide +kernel
set_option maxHeartbeats 4000000 in
set_option maxRecDepth 100000 in
theorem c_L_odds (l : Launch) (hls : l.stackTraces = false) (D : va_G) (K : Nat → ClassId) (b0 : Nat) (sa : sT) (sz : Nat) (LO : List Nat) (fO : Nat → va_E) (adO : Nat → Nat → Nat) (nO : Nat × Nat) (S0 : fS) (hw : PW K adO (isn nO) S0 LO fO) (hn : S0.2.2.1 = nO) (hprobe : 0 < nO.1) (p1 : Int32) (p2 : Int32) (p3 : Int32) (o : Nat) (hmo : o ∈ LO) (hno : ∀ a i : Nat, isn nO a i → adO a i ≠ o) (g0 : Nat → Int64) (hfo : fO o = .inl (K 6, 1, .inr (.inl g0))) (ec : Nat) (hec : ec = 0 ∨ ec = 1 ∨ ec = 2 ∨ ec = 3) (v : Int32) (S1 : fS) (h : F_X6_odds p1 p2 p3 S0 = some ((ec, v), S1)) : Met l yL_odds (.codeWith yL_odds cL_odds 6 (some .int) [(0, 12, 15, 21), (0, 12, 19, 13), (0, 12, 23, 15)] :: gt) { frames := 8, cells := 3, slots := 18, locals := 146 } (va_Pc [.ref (adO 0 0), .int p1, .int p2, .int p3, .ref o] (hPre D K b0 sa sz LO fO)) (hQ D K b0 (fun v9 u9 => ∃ (ad2 : Nat → Nat → Nat) (L2 : List Nat) (f2 : Nat → va_E) (g : Nat → Int64), v9 = some (.int (if ec = 0 then 0 else if ec = 1 then 3 else if ec = 2 then 2 else 1)) ∧ u9 = lU L2 f2 ∧ PW K ad2 (isn S1.2.2.1) S1 L2 f2 ∧ Gr (fun b => b = o) (isn nO) adO LO fO (isn S1.2.2.1) ad2 L2 f2 ∧ (∀ a i : Nat, isn S1.2.2.1 a i → ad2 a i ≠ o) ∧ f2 o = .inl (K 6, 1, .inr (.inl g)) ∧ (ec = 0 → g 0 = v.toInt64))) 3 18 (fun q => b0 ≤ q) := by
  refine t_hof (own := RL) (by decide) rfl ?_ (Nat.le_of_ble_eq_true rfl)
  intro p e s m below meth c ls C w hsz hr hlk htb hl
  have hx := C.1
  have hb := C.2.1
  have hl : lv_has ls 6 [(0, .ref (adO 0 0)), (1, .int p1), (2, .int p2), (3, .int p3), (4, .ref o)] := hl
  refine lv_aload hx hb dL_odds_0 (lv_at hl 4 rfl) ?_
  refine lv_iconst (v := 0) hx hb dL_odds_2 (by decide) ?_
  refine lv_aload_n hx hb dL_odds_3 rfl (lv_at hl 0 rfl) ?_
  refine lv_iload_n hx hb dL_odds_4 rfl (lv_at hl 1 rfl) ?_
  refine lv_iload_n hx hb dL_odds_5 rfl (lv_at hl 2 rfl) ?_
  refine lv_iload_n hx hb dL_odds_6 rfl (lv_at hl 3 rfl) ?_
  refine u_xcallV (n := 3) C w hw (isn_f rfl rfl (by decide)) rfl rfl rfl (c_X6_odds l hls D K b0 sa _ LO fO adO (isn nO) (fun _ _ h => h) S0 hw hn hprobe p1 p2 p3 ec v S1 h) gw_1023 gw_1020 gw_1021 gw_1022 gw_1 ⟨by decide, by decide, by decide +kernel⟩ rfl rfl ⟨by decide, by decide⟩ rfl hl.1 rfl (Nat.le_of_ble_eq_true rfl) dL_odds_7 ⟨Nat.le_of_ble_eq_true rfl, Nat.le_of_ble_eq_true rfl⟩ (fun E ce9 q9 u H locs hp w hcell hv0 hcl => ?_) (fun v9 u H locs hp w => ?_)
  · skip
    obtain ⟨⟨he, hE⟩, f2, rfl, hw2, hn2, hk1⟩ := hp
    have hG2 : Gr (fun b => b = o) (isn nO) adO LO fO (isn nO) adO LO f2 := Gr.rf.kp hk1
    have hmo2 := hmo
    have hno2 := hno
    have hfo2 := (hk1 o hmo hno).trans hfo
    have e2 : isn S1.2.2.1 = isn nO := by rw [hn2]
    rcases hec with hec | hec | hec | hec
    · exact absurd hec he
    · subst hec
      have hE : E = "java/lang/IllegalArgumentException" := hE
      subst hE
      refine t_catch (own := RL) (name := "java/lang/IllegalArgumentException") (E := "java/lang/IllegalArgumentException") C.2.2.2.1 [⟨0, 12, 15, 21⟩, ⟨0, 12, 19, 13⟩] ⟨0, 12, 23, 15⟩ [] htb (fun z hz => (List.mem_cons.mp hz).elim (fun e9 => by rw [e9]; exact Or.inr ⟨by decide, "java/util/NoSuchElementException", C.2.2.2.2 _ gw_649, hnc_iae_nse w⟩) (fun hz => by cases List.mem_singleton.mp hz; exact Or.inr ⟨by decide, "java/lang/IndexOutOfBoundsException", C.2.2.2.2 _ gw_546, hnc_iae_iob w⟩)) (by decide) (by decide) (C.2.2.2.2 _ gw_547) (cst w cs_iae) hcell hv0 hcl ?_
      refine lv_astore (lv' := [(5, .ref q9), (0, .ref (adO 0 0)), (1, .int p1), (2, .int p2), (3, .int p3), (4, .ref o)]) hx hb dL_odds_23 hl (by decide) rfl (fun ls hl => ?_)
      refine lv_iconst (v := 3) hx hb dL_odds_25 (by decide) ?_
      refine t_iret C hr hlk w ⟨adO, LO, f2, g0, rfl, rfl, ?_, ?_, ?_, hfo2, fun z => absurd z (by decide)⟩ (by decide) (by decide) dL_odds_26
      · rw [e2]; exact hw2
      · rw [e2]; exact hG2
      · rw [e2]; exact hno2
    · subst hec
      have hE : E = "java/lang/IndexOutOfBoundsException" := hE
      subst hE
      refine t_catch (own := RL) (name := "java/lang/IndexOutOfBoundsException") (E := "java/lang/IndexOutOfBoundsException") C.2.2.2.1 [⟨0, 12, 15, 21⟩] ⟨0, 12, 19, 13⟩ [⟨0, 12, 23, 15⟩] htb (fun z hz => by cases List.mem_singleton.mp hz; exact Or.inr ⟨by decide, "java/util/NoSuchElementException", C.2.2.2.2 _ gw_649, hnc_iob_nse w⟩) (by decide) (by decide) (C.2.2.2.2 _ gw_546) (cst w cs_iob) hcell hv0 hcl ?_
      refine lv_astore (lv' := [(5, .ref q9), (0, .ref (adO 0 0)), (1, .int p1), (2, .int p2), (3, .int p3), (4, .ref o)]) hx hb dL_odds_19 hl (by decide) rfl (fun ls hl => ?_)
      refine lv_iconst (v := 2) hx hb dL_odds_21 (by decide) ?_
      refine t_iret C hr hlk w ⟨adO, LO, f2, g0, rfl, rfl, ?_, ?_, ?_, hfo2, fun z => absurd z (by decide)⟩ (by decide) (by decide) dL_odds_22
      · rw [e2]; exact hw2
      · rw [e2]; exact hG2
      · rw [e2]; exact hno2
    · subst hec
      have hE : E = "java/util/NoSuchElementException" := hE
      subst hE
      refine t_catch (own := RL) (name := "java/util/NoSuchElementException") (E := "java/util/NoSuchElementException") C.2.2.2.1 [] ⟨0, 12, 15, 21⟩ [⟨0, 12, 19, 13⟩, ⟨0, 12, 23, 15⟩] htb (fun z hz => absurd hz List.not_mem_nil) (by decide) (by decide) (C.2.2.2.2 _ gw_649) (cst w cs_nse) hcell hv0 hcl ?_
      refine lv_astore (lv' := [(5, .ref q9), (0, .ref (adO 0 0)), (1, .int p1), (2, .int p2), (3, .int p3), (4, .ref o)]) hx hb dL_odds_15 hl (by decide) rfl (fun ls hl => ?_)
      refine lv_iconst (v := 1) hx hb dL_odds_17 (by decide) ?_
      refine t_iret C hr hlk w ⟨adO, LO, f2, g0, rfl, rfl, ?_, ?_, ?_, hfo2, fun z => absurd z (by decide)⟩ (by decide) (by decide) dL_odds_18
      · rw [e2]; exact hw2
      · rw [e2]; exact hG2
      · rw [e2]; exact hno2
  · obtain ⟨he, rfl, hp⟩ := hp
    have hp := And.intro trivial hp
    obtain ⟨-, f2, rfl, hw2, hn2, hk1⟩ := hp
    have hG2 : Gr (fun b => b = o) (isn nO) adO LO fO (isn nO) adO LO f2 := Gr.rf.kp hk1
    have hmo2 := hmo
    have hno2 := hno
    have hfo2 := (hk1 o hmo hno).trans hfo
    have e2 : isn S1.2.2.1 = isn nO := by rw [hn2]
    subst he
    refine lv_i2l (v := v.toInt64) hx hb dL_odds_10 rfl ?_
    refine g_last C w hmo2 hfo2 dL_odds_11 (fun f1 H locs w hg hk => ?_)
    obtain ⟨g1, hf1, hg1⟩ := hg
    refine lv_goto (tgt := 27) hx hb dL_odds_12 (by decide) ?_
    refine lv_iconst (v := 0) hx hb dL_odds_27 (by decide) ?_
    refine t_iret C hr hlk w ⟨adO, LO, f1, g1, rfl, rfl, ?_, ?_, ?_, hf1, fun _ => hg1⟩ (by decide) (by decide) dL_odds_28
    · rw [e2]; exact PW.kp hw2 (fun a i z => hk _ (hno2 a i z))
    · rw [e2]; exact hG2.put (fun _ => rfl) hk
    · rw [e2]; exact hno2
set_option maxHeartbeats 4000000 in
set_option maxRecDepth 100000 in
theorem c_L_weights (l : Launch) (hls : l.stackTraces = false) (D : va_G) (K : Nat → ClassId) (b0 : Nat) (sa : sT) (sz : Nat) (LO : List Nat) (fO : Nat → va_E) (adO : Nat → Nat → Nat) (nO : Nat × Nat) (S0 : fS) (hw : PW K adO (isn nO) S0 LO fO) (hn : S0.2.2.1 = nO) (hprobe : 0 < nO.1) (p1 : Int32) (o : Nat) (hmo : o ∈ LO) (hno : ∀ a i : Nat, isn nO a i → adO a i ≠ o) (g0 : Nat → Int64) (hfo : fO o = .inl (K 6, 1, .inr (.inl g0))) (ec : Nat) (hec : ec = 0 ∨ ec = 3) (v : Int32) (S1 : fS) (h : F_X6_weights p1 S0 = some ((ec, v), S1)) : Met l yL_weights (.codeWith yL_weights cL_weights 4 (some .int) [(0, 9, 12, 21)] :: gt) { frames := 8, cells := 1, slots := 6, locals := 124 } (va_Pc [.ref (adO 0 0), .int p1, .ref o] (hPre D K b0 sa sz LO fO)) (hQ D K b0 (fun v9 u9 => ∃ (ad2 : Nat → Nat → Nat) (L2 : List Nat) (f2 : Nat → va_E) (g : Nat → Int64), v9 = some (.int (if ec = 0 then 0 else 1)) ∧ u9 = lU L2 f2 ∧ PW K ad2 (isn S1.2.2.1) S1 L2 f2 ∧ Gr (fun b => b = o) (isn nO) adO LO fO (isn S1.2.2.1) ad2 L2 f2 ∧ (∀ a i : Nat, isn S1.2.2.1 a i → ad2 a i ≠ o) ∧ f2 o = .inl (K 6, 1, .inr (.inl g)) ∧ (ec = 0 → g 0 = v.toInt64))) 1 6 (fun q => b0 ≤ q) := by
  refine t_hof (own := RL) (by decide) rfl ?_ (Nat.le_of_ble_eq_true rfl)
  intro p e s m below meth c ls C w hsz hr hlk htb hl
  have hx := C.1
  have hb := C.2.1
  have hl : lv_has ls 4 [(0, .ref (adO 0 0)), (1, .int p1), (2, .ref o)] := hl
  refine lv_aload_n hx hb dL_weights_0 rfl (lv_at hl 2 rfl) ?_
  refine lv_iconst (v := 0) hx hb dL_weights_1 (by decide) ?_
  refine lv_aload_n hx hb dL_weights_2 rfl (lv_at hl 0 rfl) ?_
  refine lv_iload_n hx hb dL_weights_3 rfl (lv_at hl 1 rfl) ?_
  refine u_xcallV (n := 1) C w hw (isn_f rfl rfl (by decide)) rfl rfl rfl (c_X6_weights l hls D K b0 sa _ LO fO adO (isn nO) (fun _ _ h => h) S0 hw hn p1 ec v S1 h) gw_1034 gw_1031 gw_1032 gw_1033 gw_1 ⟨by decide, by decide, by decide +kernel⟩ rfl rfl ⟨by decide, by decide⟩ rfl hl.1 rfl (Nat.le_of_ble_eq_true rfl) dL_weights_4 ⟨Nat.le_of_ble_eq_true rfl, Nat.le_of_ble_eq_true rfl⟩ (fun E ce9 q9 u H locs hp w hcell hv0 hcl => ?_) (fun v9 u H locs hp w => ?_)
  · skip
    obtain ⟨⟨he, hE⟩, f2, rfl, hw2, hn2, hk1⟩ := hp
    have hG2 : Gr (fun b => b = o) (isn nO) adO LO fO (isn nO) adO LO f2 := Gr.rf.kp hk1
    have hmo2 := hmo
    have hno2 := hno
    have hfo2 := (hk1 o hmo hno).trans hfo
    have e2 : isn S1.2.2.1 = isn nO := by rw [hn2]
    rcases hec with hec | hec
    · exact absurd hec he
    · subst hec
      have hE : E = "java/util/NoSuchElementException" := hE
      subst hE
      refine t_catch (own := RL) (name := "java/util/NoSuchElementException") (E := "java/util/NoSuchElementException") C.2.2.2.1 [] ⟨0, 9, 12, 21⟩ [] htb (fun z hz => absurd hz List.not_mem_nil) (by decide) (by decide) (C.2.2.2.2 _ gw_649) (cst w cs_nse) hcell hv0 hcl ?_
      refine lv_astore_n (lv' := [(3, .ref q9), (0, .ref (adO 0 0)), (1, .int p1), (2, .ref o)]) hx hb dL_weights_12 rfl hl (by decide) rfl (fun ls hl => ?_)
      refine lv_iconst (v := 1) hx hb dL_weights_13 (by decide) ?_
      refine t_iret C hr hlk w ⟨adO, LO, f2, g0, rfl, rfl, ?_, ?_, ?_, hfo2, fun z => absurd z (by decide)⟩ (by decide) (by decide) dL_weights_14
      · rw [e2]; exact hw2
      · rw [e2]; exact hG2
      · rw [e2]; exact hno2
  · obtain ⟨he, rfl, hp⟩ := hp
    have hp := And.intro trivial hp
    obtain ⟨-, f2, rfl, hw2, hn2, hk1⟩ := hp
    have hG2 : Gr (fun b => b = o) (isn nO) adO LO fO (isn nO) adO LO f2 := Gr.rf.kp hk1
    have hmo2 := hmo
    have hno2 := hno
    have hfo2 := (hk1 o hmo hno).trans hfo
    have e2 : isn S1.2.2.1 = isn nO := by rw [hn2]
    subst he
    refine lv_i2l (v := v.toInt64) hx hb dL_weights_7 rfl ?_
    refine g_last C w hmo2 hfo2 dL_weights_8 (fun f1 H locs w hg hk => ?_)
    obtain ⟨g1, hf1, hg1⟩ := hg
    refine lv_goto (tgt := 15) hx hb dL_weights_9 (by decide) ?_
    refine lv_iconst (v := 0) hx hb dL_weights_15 (by decide) ?_
    refine t_iret C hr hlk w ⟨adO, LO, f1, g1, rfl, rfl, ?_, ?_, ?_, hf1, fun _ => hg1⟩ (by decide) (by decide) dL_weights_16
    · rw [e2]; exact PW.kp hw2 (fun a i z => hk _ (hno2 a i z))
    · rw [e2]; exact hG2.put (fun _ => rfl) hk
    · rw [e2]; exact hno2
set_option maxHeartbeats 4000000 in
set_option maxRecDepth 100000 in
theorem c_L_when (l : Launch) (hls : l.stackTraces = false) (D : va_G) (K : Nat → ClassId) (b0 : Nat) (sa : sT) (sz : Nat) (LO : List Nat) (fO : Nat → va_E) (adO : Nat → Nat → Nat) (nO : Nat × Nat) (S0 : fS) (hw : PW K adO (isn nO) S0 LO fO) (hn : S0.2.2.1 = nO) (hprobe : 0 < nO.1) (p1 : Int32) (p2 : Int32) (o : Nat) (hmo : o ∈ LO) (hno : ∀ a i : Nat, isn nO a i → adO a i ≠ o) (g0 : Nat → Int64) (hfo : fO o = .inl (K 6, 1, .inr (.inl g0))) (ec : Nat) (hec : ec = 0 ∨ ec = 1 ∨ ec = 2) (v : Int32) (S1 : fS) (h : F_X6_when p1 p2 S0 = some ((ec, v), S1)) : Met l yL_when (.codeWith yL_when cL_when 5 (some .int) [(0, 10, 13, 13), (0, 10, 17, 15)] :: gt) { frames := 8, cells := 2, slots := 12, locals := 125 } (va_Pc [.ref (adO 0 0), .int p1, .int p2, .ref o] (hPre D K b0 sa sz LO fO)) (hQ D K b0 (fun v9 u9 => ∃ (ad2 : Nat → Nat → Nat) (L2 : List Nat) (f2 : Nat → va_E) (g : Nat → Int64), v9 = some (.int (if ec = 0 then 0 else if ec = 1 then 2 else 1)) ∧ u9 = lU L2 f2 ∧ PW K ad2 (isn S1.2.2.1) S1 L2 f2 ∧ Gr (fun b => b = o) (isn nO) adO LO fO (isn S1.2.2.1) ad2 L2 f2 ∧ (∀ a i : Nat, isn S1.2.2.1 a i → ad2 a i ≠ o) ∧ f2 o = .inl (K 6, 1, .inr (.inl g)) ∧ (ec = 0 → g 0 = v.toInt64))) 2 12 (fun q => b0 ≤ q) := by
  refine t_hof (own := RL) (by decide) rfl ?_ (Nat.le_of_ble_eq_true rfl)
  intro p e s m below meth c ls C w hsz hr hlk htb hl
  have hx := C.1
  have hb := C.2.1
  have hl : lv_has ls 5 [(0, .ref (adO 0 0)), (1, .int p1), (2, .int p2), (3, .ref o)] := hl
  refine lv_aload_n hx hb dL_when_0 rfl (lv_at hl 3 rfl) ?_
  refine lv_iconst (v := 0) hx hb dL_when_1 (by decide) ?_
  refine lv_aload_n hx hb dL_when_2 rfl (lv_at hl 0 rfl) ?_
  refine lv_iload_n hx hb dL_when_3 rfl (lv_at hl 1 rfl) ?_
  refine lv_iload_n hx hb dL_when_4 rfl (lv_at hl 2 rfl) ?_
  refine u_xcallV (n := 2) C w hw (isn_f rfl rfl (by decide)) rfl rfl rfl (c_X6_when l hls D K b0 sa _ LO fO adO (isn nO) (fun _ _ h => h) S0 hw hn hprobe p1 p2 ec v S1 h) gw_1041 gw_1038 gw_1039 gw_1040 gw_1 ⟨by decide, by decide, by decide +kernel⟩ rfl rfl ⟨by decide, by decide⟩ rfl hl.1 rfl (Nat.le_of_ble_eq_true rfl) dL_when_5 ⟨Nat.le_of_ble_eq_true rfl, Nat.le_of_ble_eq_true rfl⟩ (fun E ce9 q9 u H locs hp w hcell hv0 hcl => ?_) (fun v9 u H locs hp w => ?_)
  · skip
    obtain ⟨⟨he, hE⟩, f2, rfl, hw2, hn2, hk1⟩ := hp
    have hG2 : Gr (fun b => b = o) (isn nO) adO LO fO (isn nO) adO LO f2 := Gr.rf.kp hk1
    have hmo2 := hmo
    have hno2 := hno
    have hfo2 := (hk1 o hmo hno).trans hfo
    have e2 : isn S1.2.2.1 = isn nO := by rw [hn2]
    rcases hec with hec | hec | hec
    · exact absurd hec he
    · subst hec
      have hE : E = "java/lang/IllegalArgumentException" := hE
      subst hE
      refine t_catch (own := RL) (name := "java/lang/IllegalArgumentException") (E := "java/lang/IllegalArgumentException") C.2.2.2.1 [⟨0, 10, 13, 13⟩] ⟨0, 10, 17, 15⟩ [] htb (fun z hz => by cases List.mem_singleton.mp hz; exact Or.inr ⟨by decide, "java/lang/IndexOutOfBoundsException", C.2.2.2.2 _ gw_546, hnc_iae_iob w⟩) (by decide) (by decide) (C.2.2.2.2 _ gw_547) (cst w cs_iae) hcell hv0 hcl ?_
      refine lv_astore (lv' := [(4, .ref q9), (0, .ref (adO 0 0)), (1, .int p1), (2, .int p2), (3, .ref o)]) hx hb dL_when_17 hl (by decide) rfl (fun ls hl => ?_)
      refine lv_iconst (v := 2) hx hb dL_when_19 (by decide) ?_
      refine t_iret C hr hlk w ⟨adO, LO, f2, g0, rfl, rfl, ?_, ?_, ?_, hfo2, fun z => absurd z (by decide)⟩ (by decide) (by decide) dL_when_20
      · rw [e2]; exact hw2
      · rw [e2]; exact hG2
      · rw [e2]; exact hno2
    · subst hec
      have hE : E = "java/lang/IndexOutOfBoundsException" := hE
      subst hE
      refine t_catch (own := RL) (name := "java/lang/IndexOutOfBoundsException") (E := "java/lang/IndexOutOfBoundsException") C.2.2.2.1 [] ⟨0, 10, 13, 13⟩ [⟨0, 10, 17, 15⟩] htb (fun z hz => absurd hz List.not_mem_nil) (by decide) (by decide) (C.2.2.2.2 _ gw_546) (cst w cs_iob) hcell hv0 hcl ?_
      refine lv_astore (lv' := [(4, .ref q9), (0, .ref (adO 0 0)), (1, .int p1), (2, .int p2), (3, .ref o)]) hx hb dL_when_13 hl (by decide) rfl (fun ls hl => ?_)
      refine lv_iconst (v := 1) hx hb dL_when_15 (by decide) ?_
      refine t_iret C hr hlk w ⟨adO, LO, f2, g0, rfl, rfl, ?_, ?_, ?_, hfo2, fun z => absurd z (by decide)⟩ (by decide) (by decide) dL_when_16
      · rw [e2]; exact hw2
      · rw [e2]; exact hG2
      · rw [e2]; exact hno2
  · obtain ⟨he, rfl, hp⟩ := hp
    have hp := And.intro trivial hp
    obtain ⟨-, f2, rfl, hw2, hn2, hk1⟩ := hp
    have hG2 : Gr (fun b => b = o) (isn nO) adO LO fO (isn nO) adO LO f2 := Gr.rf.kp hk1
    have hmo2 := hmo
    have hno2 := hno
    have hfo2 := (hk1 o hmo hno).trans hfo
    have e2 : isn S1.2.2.1 = isn nO := by rw [hn2]
    subst he
    refine lv_i2l (v := v.toInt64) hx hb dL_when_8 rfl ?_
    refine g_last C w hmo2 hfo2 dL_when_9 (fun f1 H locs w hg hk => ?_)
    obtain ⟨g1, hf1, hg1⟩ := hg
    refine lv_goto (tgt := 21) hx hb dL_when_10 (by decide) ?_
    refine lv_iconst (v := 0) hx hb dL_when_21 (by decide) ?_
    refine t_iret C hr hlk w ⟨adO, LO, f1, g1, rfl, rfl, ?_, ?_, ?_, hf1, fun _ => hg1⟩ (by decide) (by decide) dL_when_22
    · rw [e2]; exact PW.kp hw2 (fun a i z => hk _ (hno2 a i z))
    · rw [e2]; exact hG2.put (fun _ => rfl) hk
    · rw [e2]; exact hno2
set_option maxHeartbeats 4000000 in
set_option maxRecDepth 100000 in
theorem c_L_strange (l : Launch) (hls : l.stackTraces = false) (D : va_G) (K : Nat → ClassId) (b0 : Nat) (sa : sT) (sz : Nat) (LO : List Nat) (fO : Nat → va_E) (adO : Nat → Nat → Nat) (nO : Nat × Nat) (S0 : fS) (hw : PW K adO (isn nO) S0 LO fO) (hn : S0.2.2.1 = nO) (hprobe : 0 < nO.1) (p1 : Int32) (o : Nat) (hmo : o ∈ LO) (hno : ∀ a i : Nat, isn nO a i → adO a i ≠ o) (g0 : Nat → Int64) (hfo : fO o = .inl (K 6, 1, .inr (.inl g0))) (ec : Nat) (hec : ec = 0 ∨ ec = 1) (v : Int32) (S1 : fS) (h : F_X6_strange p1 S0 = some ((ec, v), S1)) : Met l yL_strange (.codeWith yL_strange cL_strange 4 (some .int) [(0, 9, 12, 15)] :: gt) { frames := 8, cells := 1, slots := 6, locals := 154 } (va_Pc [.ref (adO 0 0), .int p1, .ref o] (hPre D K b0 sa sz LO fO)) (hQ D K b0 (fun v9 u9 => ∃ (ad2 : Nat → Nat → Nat) (L2 : List Nat) (f2 : Nat → va_E) (g : Nat → Int64), v9 = some (.int (if ec = 0 then 0 else 1)) ∧ u9 = lU L2 f2 ∧ PW K ad2 (isn S1.2.2.1) S1 L2 f2 ∧ Gr (fun b => b = o) (isn nO) adO LO fO (isn S1.2.2.1) ad2 L2 f2 ∧ (∀ a i : Nat, isn S1.2.2.1 a i → ad2 a i ≠ o) ∧ f2 o = .inl (K 6, 1, .inr (.inl g)) ∧ (ec = 0 → g 0 = v.toInt64))) 1 6 (fun q => b0 ≤ q) := by
  refine t_hof (own := RL) (by decide) rfl ?_ (Nat.le_of_ble_eq_true rfl)
  intro p e s m below meth c ls C w hsz hr hlk htb hl
  have hx := C.1
  have hb := C.2.1
  have hl : lv_has ls 4 [(0, .ref (adO 0 0)), (1, .int p1), (2, .ref o)] := hl
  refine lv_aload_n hx hb dL_strange_0 rfl (lv_at hl 2 rfl) ?_
  refine lv_iconst (v := 0) hx hb dL_strange_1 (by decide) ?_
  refine lv_aload_n hx hb dL_strange_2 rfl (lv_at hl 0 rfl) ?_
  refine lv_iload_n hx hb dL_strange_3 rfl (lv_at hl 1 rfl) ?_
  refine u_xcallV (n := 1) C w hw (isn_f rfl rfl (by decide)) rfl rfl rfl (c_X6_strange l hls D K b0 sa _ LO fO adO (isn nO) (fun _ _ h => h) S0 hw hn p1 ec v S1 h) gw_1048 gw_1045 gw_1046 gw_1047 gw_1 ⟨by decide, by decide, by decide +kernel⟩ rfl rfl ⟨by decide, by decide⟩ rfl hl.1 rfl (Nat.le_of_ble_eq_true rfl) dL_strange_4 ⟨Nat.le_of_ble_eq_true rfl, Nat.le_of_ble_eq_true rfl⟩ (fun E ce9 q9 u H locs hp w hcell hv0 hcl => ?_) (fun v9 u H locs hp w => ?_)
  · skip
    obtain ⟨⟨he, hE⟩, f2, rfl, hw2, hn2, hk1⟩ := hp
    have hG2 : Gr (fun b => b = o) (isn nO) adO LO fO (isn nO) adO LO f2 := Gr.rf.kp hk1
    have hmo2 := hmo
    have hno2 := hno
    have hfo2 := (hk1 o hmo hno).trans hfo
    have e2 : isn S1.2.2.1 = isn nO := by rw [hn2]
    rcases hec with hec | hec
    · exact absurd hec he
    · subst hec
      have hE : E = "java/lang/IllegalArgumentException" := hE
      subst hE
      refine t_catch (own := RL) (name := "java/lang/IllegalArgumentException") (E := "java/lang/IllegalArgumentException") C.2.2.2.1 [] ⟨0, 9, 12, 15⟩ [] htb (fun z hz => absurd hz List.not_mem_nil) (by decide) (by decide) (C.2.2.2.2 _ gw_547) (cst w cs_iae) hcell hv0 hcl ?_
      refine lv_astore_n (lv' := [(3, .ref q9), (0, .ref (adO 0 0)), (1, .int p1), (2, .ref o)]) hx hb dL_strange_12 rfl hl (by decide) rfl (fun ls hl => ?_)
      refine lv_iconst (v := 1) hx hb dL_strange_13 (by decide) ?_
      refine t_iret C hr hlk w ⟨adO, LO, f2, g0, rfl, rfl, ?_, ?_, ?_, hfo2, fun z => absurd z (by decide)⟩ (by decide) (by decide) dL_strange_14
      · rw [e2]; exact hw2
      · rw [e2]; exact hG2
      · rw [e2]; exact hno2
  · obtain ⟨he, rfl, hp⟩ := hp
    have hp := And.intro trivial hp
    obtain ⟨-, f2, rfl, hw2, hn2, hk1⟩ := hp
    have hG2 : Gr (fun b => b = o) (isn nO) adO LO fO (isn nO) adO LO f2 := Gr.rf.kp hk1
    have hmo2 := hmo
    have hno2 := hno
    have hfo2 := (hk1 o hmo hno).trans hfo
    have e2 : isn S1.2.2.1 = isn nO := by rw [hn2]
    subst he
    refine lv_i2l (v := v.toInt64) hx hb dL_strange_7 rfl ?_
    refine g_last C w hmo2 hfo2 dL_strange_8 (fun f1 H locs w hg hk => ?_)
    obtain ⟨g1, hf1, hg1⟩ := hg
    refine lv_goto (tgt := 15) hx hb dL_strange_9 (by decide) ?_
    refine lv_iconst (v := 0) hx hb dL_strange_15 (by decide) ?_
    refine t_iret C hr hlk w ⟨adO, LO, f1, g1, rfl, rfl, ?_, ?_, ?_, hf1, fun _ => hg1⟩ (by decide) (by decide) dL_strange_16
    · rw [e2]; exact PW.kp hw2 (fun a i z => hk _ (hno2 a i z))
    · rw [e2]; exact hG2.put (fun _ => rfl) hk
    · rw [e2]; exact hno2
set_option maxHeartbeats 4000000 in
set_option maxRecDepth 100000 in
theorem c_L_guess (l : Launch) (hls : l.stackTraces = false) (D : va_G) (K : Nat → ClassId) (b0 : Nat) (sa : sT) (sz : Nat) (LO : List Nat) (fO : Nat → va_E) (adO : Nat → Nat → Nat) (nO : Nat × Nat) (S0 : fS) (hw : PW K adO (isn nO) S0 LO fO) (hn : S0.2.2.1 = nO) (hprobe : 0 < nO.1) (p1 : Int32) (o : Nat) (hmo : o ∈ LO) (hno : ∀ a i : Nat, isn nO a i → adO a i ≠ o) (g0 : Nat → Int64) (hfo : fO o = .inl (K 6, 1, .inr (.inl g0))) (ec : Nat) (hec : ec = 0 ∨ ec = 2) (v : Int32) (S1 : fS) (h : F_X6_guess p1 S0 = some ((ec, v), S1)) : Met l yL_guess (.codeWith yL_guess cL_guess 4 (some .int) [(0, 9, 12, 13)] :: gt) { frames := 8, cells := 1, slots := 6, locals := 156 } (va_Pc [.ref (adO 0 0), .int p1, .ref o] (hPre D K b0 sa sz LO fO)) (hQ D K b0 (fun v9 u9 => ∃ (ad2 : Nat → Nat → Nat) (L2 : List Nat) (f2 : Nat → va_E) (g : Nat → Int64), v9 = some (.int (if ec = 0 then 0 else 1)) ∧ u9 = lU L2 f2 ∧ PW K ad2 (isn S1.2.2.1) S1 L2 f2 ∧ Gr (fun b => b = o) (isn nO) adO LO fO (isn S1.2.2.1) ad2 L2 f2 ∧ (∀ a i : Nat, isn S1.2.2.1 a i → ad2 a i ≠ o) ∧ f2 o = .inl (K 6, 1, .inr (.inl g)) ∧ (ec = 0 → g 0 = v.toInt64))) 1 6 (fun q => b0 ≤ q) := by
  refine t_hof (own := RL) (by decide) rfl ?_ (Nat.le_of_ble_eq_true rfl)
  intro p e s m below meth c ls C w hsz hr hlk htb hl
  have hx := C.1
  have hb := C.2.1
  have hl : lv_has ls 4 [(0, .ref (adO 0 0)), (1, .int p1), (2, .ref o)] := hl
  refine lv_aload_n hx hb dL_guess_0 rfl (lv_at hl 2 rfl) ?_
  refine lv_iconst (v := 0) hx hb dL_guess_1 (by decide) ?_
  refine lv_aload_n hx hb dL_guess_2 rfl (lv_at hl 0 rfl) ?_
  refine lv_iload_n hx hb dL_guess_3 rfl (lv_at hl 1 rfl) ?_
  refine u_xcallV (n := 1) C w hw (isn_f rfl rfl (by decide)) rfl rfl rfl (c_X6_guess l hls D K b0 sa _ LO fO adO (isn nO) (fun _ _ h => h) S0 hw hn hprobe p1 ec v S1 h) gw_1055 gw_1052 gw_1053 gw_1054 gw_1 ⟨by decide, by decide, by decide +kernel⟩ rfl rfl ⟨by decide, by decide⟩ rfl hl.1 rfl (Nat.le_of_ble_eq_true rfl) dL_guess_4 ⟨Nat.le_of_ble_eq_true rfl, Nat.le_of_ble_eq_true rfl⟩ (fun E ce9 q9 u H locs hp w hcell hv0 hcl => ?_) (fun v9 u H locs hp w => ?_)
  · skip
    obtain ⟨⟨he, hE⟩, f2, rfl, hw2, hn2, hk1⟩ := hp
    have hG2 : Gr (fun b => b = o) (isn nO) adO LO fO (isn nO) adO LO f2 := Gr.rf.kp hk1
    have hmo2 := hmo
    have hno2 := hno
    have hfo2 := (hk1 o hmo hno).trans hfo
    have e2 : isn S1.2.2.1 = isn nO := by rw [hn2]
    rcases hec with hec | hec
    · exact absurd hec he
    · subst hec
      have hE : E = "java/lang/IndexOutOfBoundsException" := hE
      subst hE
      refine t_catch (own := RL) (name := "java/lang/IndexOutOfBoundsException") (E := "java/lang/IndexOutOfBoundsException") C.2.2.2.1 [] ⟨0, 9, 12, 13⟩ [] htb (fun z hz => absurd hz List.not_mem_nil) (by decide) (by decide) (C.2.2.2.2 _ gw_546) (cst w cs_iob) hcell hv0 hcl ?_
      refine lv_astore_n (lv' := [(3, .ref q9), (0, .ref (adO 0 0)), (1, .int p1), (2, .ref o)]) hx hb dL_guess_12 rfl hl (by decide) rfl (fun ls hl => ?_)
      refine lv_iconst (v := 1) hx hb dL_guess_13 (by decide) ?_
      refine t_iret C hr hlk w ⟨adO, LO, f2, g0, rfl, rfl, ?_, ?_, ?_, hfo2, fun z => absurd z (by decide)⟩ (by decide) (by decide) dL_guess_14
      · rw [e2]; exact hw2
      · rw [e2]; exact hG2
      · rw [e2]; exact hno2
  · obtain ⟨he, rfl, hp⟩ := hp
    have hp := And.intro trivial hp
    obtain ⟨-, f2, rfl, hw2, hn2, hk1⟩ := hp
    have hG2 : Gr (fun b => b = o) (isn nO) adO LO fO (isn nO) adO LO f2 := Gr.rf.kp hk1
    have hmo2 := hmo
    have hno2 := hno
    have hfo2 := (hk1 o hmo hno).trans hfo
    have e2 : isn S1.2.2.1 = isn nO := by rw [hn2]
    subst he
    refine lv_i2l (v := v.toInt64) hx hb dL_guess_7 rfl ?_
    refine g_last C w hmo2 hfo2 dL_guess_8 (fun f1 H locs w hg hk => ?_)
    obtain ⟨g1, hf1, hg1⟩ := hg
    refine lv_goto (tgt := 15) hx hb dL_guess_9 (by decide) ?_
    refine lv_iconst (v := 0) hx hb dL_guess_15 (by decide) ?_
    refine t_iret C hr hlk w ⟨adO, LO, f1, g1, rfl, rfl, ?_, ?_, ?_, hf1, fun _ => hg1⟩ (by decide) (by decide) dL_guess_16
    · rw [e2]; exact PW.kp hw2 (fun a i z => hk _ (hno2 a i z))
    · rw [e2]; exact hG2.put (fun _ => rfl) hk
    · rw [e2]; exact hno2
set_option maxHeartbeats 4000000 in
set_option maxRecDepth 100000 in
theorem c_L_worth (l : Launch) (hls : l.stackTraces = false) (D : va_G) (K : Nat → ClassId) (b0 : Nat) (sa : sT) (sz : Nat) (LO : List Nat) (fO : Nat → va_E) (adO : Nat → Nat → Nat) (nO : Nat × Nat) (S0 : fS) (hw : PW K adO (isn nO) S0 LO fO) (hn : S0.2.2.1 = nO) (hprobe : 0 < nO.1) (p1 : Int32) (p2 : Int32) (p3 : Int32) (o : Nat) (hmo : o ∈ LO) (hno : ∀ a i : Nat, isn nO a i → adO a i ≠ o) (g0 : Nat → Int64) (hfo : fO o = .inl (K 6, 1, .inr (.inl g0))) (ec : Nat) (hec : ec = 0 ∨ ec = 1 ∨ ec = 2) (v : Int32) (S1 : fS) (h : F_X6_worth p1 p2 p3 S0 = some ((ec, v), S1)) : Met l yL_worth (.codeWith yL_worth cL_worth 6 (some .int) [(0, 12, 15, 13), (0, 12, 19, 15)] :: gt) { frames := 8, cells := 3, slots := 18, locals := 162 } (va_Pc [.ref (adO 0 0), .int p1, .int p2, .int p3, .ref o] (hPre D K b0 sa sz LO fO)) (hQ D K b0 (fun v9 u9 => ∃ (ad2 : Nat → Nat → Nat) (L2 : List Nat) (f2 : Nat → va_E) (g : Nat → Int64), v9 = some (.int (if ec = 0 then 0 else if ec = 1 then 2 else 1)) ∧ u9 = lU L2 f2 ∧ PW K ad2 (isn S1.2.2.1) S1 L2 f2 ∧ Gr (fun b => b = o) (isn nO) adO LO fO (isn S1.2.2.1) ad2 L2 f2 ∧ (∀ a i : Nat, isn S1.2.2.1 a i → ad2 a i ≠ o) ∧ f2 o = .inl (K 6, 1, .inr (.inl g)) ∧ (ec = 0 → g 0 = v.toInt64))) 3 18 (fun q => b0 ≤ q) := by
  refine t_hof (own := RL) (by decide) rfl ?_ (Nat.le_of_ble_eq_true rfl)
  intro p e s m below meth c ls C w hsz hr hlk htb hl
  have hx := C.1
  have hb := C.2.1
  have hl : lv_has ls 6 [(0, .ref (adO 0 0)), (1, .int p1), (2, .int p2), (3, .int p3), (4, .ref o)] := hl
  refine lv_aload hx hb dL_worth_0 (lv_at hl 4 rfl) ?_
  refine lv_iconst (v := 0) hx hb dL_worth_2 (by decide) ?_
  refine lv_aload_n hx hb dL_worth_3 rfl (lv_at hl 0 rfl) ?_
  refine lv_iload_n hx hb dL_worth_4 rfl (lv_at hl 1 rfl) ?_
  refine lv_iload_n hx hb dL_worth_5 rfl (lv_at hl 2 rfl) ?_
  refine lv_iload_n hx hb dL_worth_6 rfl (lv_at hl 3 rfl) ?_
  refine u_xcallV (n := 3) C w hw (isn_f rfl rfl (by decide)) rfl rfl rfl (c_X6_worth l hls D K b0 sa _ LO fO adO (isn nO) (fun _ _ h => h) S0 hw hn hprobe p1 p2 p3 ec v S1 h) gw_1062 gw_1059 gw_1060 gw_1061 gw_1 ⟨by decide, by decide, by decide +kernel⟩ rfl rfl ⟨by decide, by decide⟩ rfl hl.1 rfl (Nat.le_of_ble_eq_true rfl) dL_worth_7 ⟨Nat.le_of_ble_eq_true rfl, Nat.le_of_ble_eq_true rfl⟩ (fun E ce9 q9 u H locs hp w hcell hv0 hcl => ?_) (fun v9 u H locs hp w => ?_)
  · skip
    obtain ⟨⟨he, hE⟩, f2, rfl, hw2, hn2, hk1⟩ := hp
    have hG2 : Gr (fun b => b = o) (isn nO) adO LO fO (isn nO) adO LO f2 := Gr.rf.kp hk1
    have hmo2 := hmo
    have hno2 := hno
    have hfo2 := (hk1 o hmo hno).trans hfo
    have e2 : isn S1.2.2.1 = isn nO := by rw [hn2]
    rcases hec with hec | hec | hec
    · exact absurd hec he
    · subst hec
      have hE : E = "java/lang/IllegalArgumentException" := hE
      subst hE
      refine t_catch (own := RL) (name := "java/lang/IllegalArgumentException") (E := "java/lang/IllegalArgumentException") C.2.2.2.1 [⟨0, 12, 15, 13⟩] ⟨0, 12, 19, 15⟩ [] htb (fun z hz => by cases List.mem_singleton.mp hz; exact Or.inr ⟨by decide, "java/lang/IndexOutOfBoundsException", C.2.2.2.2 _ gw_546, hnc_iae_iob w⟩) (by decide) (by decide) (C.2.2.2.2 _ gw_547) (cst w cs_iae) hcell hv0 hcl ?_
      refine lv_astore (lv' := [(5, .ref q9), (0, .ref (adO 0 0)), (1, .int p1), (2, .int p2), (3, .int p3), (4, .ref o)]) hx hb dL_worth_19 hl (by decide) rfl (fun ls hl => ?_)
      refine lv_iconst (v := 2) hx hb dL_worth_21 (by decide) ?_
      refine t_iret C hr hlk w ⟨adO, LO, f2, g0, rfl, rfl, ?_, ?_, ?_, hfo2, fun z => absurd z (by decide)⟩ (by decide) (by decide) dL_worth_22
      · rw [e2]; exact hw2
      · rw [e2]; exact hG2
      · rw [e2]; exact hno2
    · subst hec
      have hE : E = "java/lang/IndexOutOfBoundsException" := hE
      subst hE
      refine t_catch (own := RL) (name := "java/lang/IndexOutOfBoundsException") (E := "java/lang/IndexOutOfBoundsException") C.2.2.2.1 [] ⟨0, 12, 15, 13⟩ [⟨0, 12, 19, 15⟩] htb (fun z hz => absurd hz List.not_mem_nil) (by decide) (by decide) (C.2.2.2.2 _ gw_546) (cst w cs_iob) hcell hv0 hcl ?_
      refine lv_astore (lv' := [(5, .ref q9), (0, .ref (adO 0 0)), (1, .int p1), (2, .int p2), (3, .int p3), (4, .ref o)]) hx hb dL_worth_15 hl (by decide) rfl (fun ls hl => ?_)
      refine lv_iconst (v := 1) hx hb dL_worth_17 (by decide) ?_
      refine t_iret C hr hlk w ⟨adO, LO, f2, g0, rfl, rfl, ?_, ?_, ?_, hfo2, fun z => absurd z (by decide)⟩ (by decide) (by decide) dL_worth_18
      · rw [e2]; exact hw2
      · rw [e2]; exact hG2
      · rw [e2]; exact hno2
  · obtain ⟨he, rfl, hp⟩ := hp
    have hp := And.intro trivial hp
    obtain ⟨-, f2, rfl, hw2, hn2, hk1⟩ := hp
    have hG2 : Gr (fun b => b = o) (isn nO) adO LO fO (isn nO) adO LO f2 := Gr.rf.kp hk1
    have hmo2 := hmo
    have hno2 := hno
    have hfo2 := (hk1 o hmo hno).trans hfo
    have e2 : isn S1.2.2.1 = isn nO := by rw [hn2]
    subst he
    refine lv_i2l (v := v.toInt64) hx hb dL_worth_10 rfl ?_
    refine g_last C w hmo2 hfo2 dL_worth_11 (fun f1 H locs w hg hk => ?_)
    obtain ⟨g1, hf1, hg1⟩ := hg
    refine lv_goto (tgt := 23) hx hb dL_worth_12 (by decide) ?_
    refine lv_iconst (v := 0) hx hb dL_worth_23 (by decide) ?_
    refine t_iret C hr hlk w ⟨adO, LO, f1, g1, rfl, rfl, ?_, ?_, ?_, hf1, fun _ => hg1⟩ (by decide) (by decide) dL_worth_24
    · rw [e2]; exact PW.kp hw2 (fun a i z => hk _ (hno2 a i z))
    · rw [e2]; exact hG2.put (fun _ => rfl) hk
    · rw [e2]; exact hno2
set_option maxHeartbeats 4000000 in
set_option maxRecDepth 100000 in
theorem c_L_bide (l : Launch) (hls : l.stackTraces = false) (D : va_G) (K : Nat → ClassId) (b0 : Nat) (sa : sT) (sz : Nat) (LO : List Nat) (fO : Nat → va_E) (adO : Nat → Nat → Nat) (nO : Nat × Nat) (S0 : fS) (hw : PW K adO (isn nO) S0 LO fO) (hn : S0.2.2.1 = nO) (hprobe : 0 < nO.1) (p1 : Int32) (p2 : Int32) (o : Nat) (hmo : o ∈ LO) (hno : ∀ a i : Nat, isn nO a i → adO a i ≠ o) (g0 : Nat → Int64) (hfo : fO o = .inl (K 6, 1, .inr (.inl g0))) (ec : Nat) (hec : ec = 0 ∨ ec = 2) (v : Int32) (S1 : fS) (h : F_X6_bide p1 p2 S0 = some ((ec, v), S1)) : Met l yL_bide (.codeWith yL_bide cL_bide 5 (some .int) [(0, 10, 13, 13)] :: gt) { frames := 8, cells := 2, slots := 12, locals := 164 } (va_Pc [.ref (adO 0 0), .int p1, .int p2, .ref o] (hPre D K b0 sa sz LO fO)) (hQ D K b0 (fun v9 u9 => ∃ (ad2 : Nat → Nat → Nat) (L2 : List Nat) (f2 : Nat → va_E) (g : Nat → Int64), v9 = some (.int (if ec = 0 then 0 else 1)) ∧ u9 = lU L2 f2 ∧ PW K ad2 (isn S1.2.2.1) S1 L2 f2 ∧ Gr (fun b => b = o) (isn nO) adO LO fO (isn S1.2.2.1) ad2 L2 f2 ∧ (∀ a i : Nat, isn S1.2.2.1 a i → ad2 a i ≠ o) ∧ f2 o = .inl (K 6, 1, .inr (.inl g)) ∧ (ec = 0 → g 0 = v.toInt64))) 2 12 (fun q => b0 ≤ q) := by
  refine t_hof (own := RL) (by decide) rfl ?_ (Nat.le_of_ble_eq_true rfl)
  intro p e s m below meth c ls C w hsz hr hlk htb hl
  have hx := C.1
  have hb := C.2.1
  have hl : lv_has ls 5 [(0, .ref (adO 0 0)), (1, .int p1), (2, .int p2), (3, .ref o)] := hl
  refine lv_aload_n hx hb dL_bide_0 rfl (lv_at hl 3 rfl) ?_
  refine lv_iconst (v := 0) hx hb dL_bide_1 (by decide) ?_
  refine lv_aload_n hx hb dL_bide_2 rfl (lv_at hl 0 rfl) ?_
  refine lv_iload_n hx hb dL_bide_3 rfl (lv_at hl 1 rfl) ?_
  refine lv_iload_n hx hb dL_bide_4 rfl (lv_at hl 2 rfl) ?_
  refine u_xcallV (n := 2) C w hw (isn_f rfl rfl (by decide)) rfl rfl rfl (c_X6_bide l hls D K b0 sa _ LO fO adO (isn nO) (fun _ _ h => h) S0 hw hn hprobe p1 p2 ec v S1 h) gw_1082 gw_1079 gw_1080 gw_1081 gw_1 ⟨by decide, by decide, by decide +kernel⟩ rfl rfl ⟨by decide, by decide⟩ rfl hl.1 rfl (Nat.le_of_ble_eq_true rfl) dL_bide_5 ⟨Nat.le_of_ble_eq_true rfl, Nat.le_of_ble_eq_true rfl⟩ (fun E ce9 q9 u H locs hp w hcell hv0 hcl => ?_) (fun v9 u H locs hp w => ?_)
  · skip
    obtain ⟨⟨he, hE⟩, f2, rfl, hw2, hn2, hk1⟩ := hp
    have hG2 : Gr (fun b => b = o) (isn nO) adO LO fO (isn nO) adO LO f2 := Gr.rf.kp hk1
    have hmo2 := hmo
    have hno2 := hno
    have hfo2 := (hk1 o hmo hno).trans hfo
    have e2 : isn S1.2.2.1 = isn nO := by rw [hn2]
    rcases hec with hec | hec
    · exact absurd hec he
    · subst hec
      have hE : E = "java/lang/IndexOutOfBoundsException" := hE
      subst hE
      refine t_catch (own := RL) (name := "java/lang/IndexOutOfBoundsException") (E := "java/lang/IndexOutOfBoundsException") C.2.2.2.1 [] ⟨0, 10, 13, 13⟩ [] htb (fun z hz => absurd hz List.not_mem_nil) (by decide) (by decide) (C.2.2.2.2 _ gw_546) (cst w cs_iob) hcell hv0 hcl ?_
      refine lv_astore (lv' := [(4, .ref q9), (0, .ref (adO 0 0)), (1, .int p1), (2, .int p2), (3, .ref o)]) hx hb dL_bide_13 hl (by decide) rfl (fun ls hl => ?_)
      refine lv_iconst (v := 1) hx hb dL_bide_15 (by decide) ?_
      refine t_iret C hr hlk w ⟨adO, LO, f2, g0, rfl, rfl, ?_, ?_, ?_, hfo2, fun z => absurd z (by decide)⟩ (by decide) (by decide) dL_bide_16
      · rw [e2]; exact hw2
      · rw [e2]; exact hG2
      · rw [e2]; exact hno2
  · obtain ⟨he, rfl, hp⟩ := hp
    have hp := And.intro trivial hp
    obtain ⟨-, f2, rfl, hw2, hn2, hk1⟩ := hp
    have hG2 : Gr (fun b => b = o) (isn nO) adO LO fO (isn nO) adO LO f2 := Gr.rf.kp hk1
    have hmo2 := hmo
    have hno2 := hno
    have hfo2 := (hk1 o hmo hno).trans hfo
    have e2 : isn S1.2.2.1 = isn nO := by rw [hn2]
    subst he
    refine lv_i2l (v := v.toInt64) hx hb dL_bide_8 rfl ?_
    refine g_last C w hmo2 hfo2 dL_bide_9 (fun f1 H locs w hg hk => ?_)
    obtain ⟨g1, hf1, hg1⟩ := hg
    refine lv_goto (tgt := 17) hx hb dL_bide_10 (by decide) ?_
    refine lv_iconst (v := 0) hx hb dL_bide_17 (by decide) ?_
    refine t_iret C hr hlk w ⟨adO, LO, f1, g1, rfl, rfl, ?_, ?_, ?_, hf1, fun _ => hg1⟩ (by decide) (by decide) dL_bide_18
    · rw [e2]; exact PW.kp hw2 (fun a i z => hk _ (hno2 a i z))
    · rw [e2]; exact hG2.put (fun _ => rfl) hk
    · rw [e2]; exact hno2
