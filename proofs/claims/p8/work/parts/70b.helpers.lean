theorem dL_program_0 : decode cL_program 0 = .ok (.aload_n 3, 1) := by decide +kernel
theorem dL_program_1 : decode cL_program 1 = .ok (.iconst 0, 1) := by decide +kernel
theorem dL_program_2 : decode cL_program 2 = .ok (.aload_n 0, 1) := by decide +kernel
theorem dL_program_3 : decode cL_program 3 = .ok (.iload_n 1, 1) := by decide +kernel
theorem dL_program_4 : decode cL_program 4 = .ok (.iload_n 2, 1) := by decide +kernel
theorem dL_program_5 : decode cL_program 5 = .ok (.invokevirtual 41, 3) := by decide +kernel
theorem dL_program_8 : decode cL_program 8 = .ok (.i2l, 1) := by decide +kernel
theorem dL_program_9 : decode cL_program 9 = .ok (.lastore, 1) := by decide +kernel
theorem dL_program_10 : decode cL_program 10 = .ok (.goto 7, 3) := by decide +kernel
theorem dL_program_13 : decode cL_program 13 = .ok (.astore 4, 2) := by decide +kernel
theorem dL_program_15 : decode cL_program 15 = .ok (.iconst 1, 1) := by decide +kernel
theorem dL_program_16 : decode cL_program 16 = .ok (.ireturn, 1) := by decide +kernel
theorem dL_program_17 : decode cL_program 17 = .ok (.iconst 0, 1) := by decide +kernel
theorem dL_program_18 : decode cL_program 18 = .ok (.ireturn, 1) := by decide +kernel
theorem dL_force_0 : decode cL_force 0 = .ok (.aload_n 2, 1) := by decide +kernel
theorem dL_force_1 : decode cL_force 1 = .ok (.iconst 0, 1) := by decide +kernel
theorem dL_force_2 : decode cL_force 2 = .ok (.aload_n 0, 1) := by decide +kernel
theorem dL_force_3 : decode cL_force 3 = .ok (.iload_n 1, 1) := by decide +kernel
theorem dL_force_4 : decode cL_force 4 = .ok (.invokevirtual 44, 3) := by decide +kernel
theorem dL_force_7 : decode cL_force 7 = .ok (.i2l, 1) := by decide +kernel
theorem dL_force_8 : decode cL_force 8 = .ok (.lastore, 1) := by decide +kernel
theorem dL_force_9 : decode cL_force 9 = .ok (.goto 6, 3) := by decide +kernel
theorem dL_force_12 : decode cL_force 12 = .ok (.astore_n 3, 1) := by decide +kernel
theorem dL_force_13 : decode cL_force 13 = .ok (.iconst 1, 1) := by decide +kernel
theorem dL_force_14 : decode cL_force 14 = .ok (.ireturn, 1) := by decide +kernel
theorem dL_force_15 : decode cL_force 15 = .ok (.iconst 0, 1) := by decide +kernel
theorem dL_force_16 : decode cL_force 16 = .ok (.ireturn, 1) := by decide +kernel
theorem dL_tells_0 : decode cL_tells 0 = .ok (.aload_n 3, 1) := by decide +kernel
theorem dL_tells_1 : decode cL_tells 1 = .ok (.iconst 0, 1) := by decide +kernel
theorem dL_tells_2 : decode cL_tells 2 = .ok (.aload_n 0, 1) := by decide +kernel
theorem dL_tells_3 : decode cL_tells 3 = .ok (.iload_n 1, 1) := by decide +kernel
theorem dL_tells_4 : decode cL_tells 4 = .ok (.iload_n 2, 1) := by decide +kernel
theorem dL_tells_5 : decode cL_tells 5 = .ok (.invokevirtual 47, 3) := by decide +kernel
theorem dL_tells_8 : decode cL_tells 8 = .ok (.i2l, 1) := by decide +kernel
theorem dL_tells_9 : decode cL_tells 9 = .ok (.lastore, 1) := by decide +kernel
theorem dL_tells_10 : decode cL_tells 10 = .ok (.goto 7, 3) := by decide +kernel
theorem dL_tells_13 : decode cL_tells 13 = .ok (.astore 4, 2) := by decide +kernel
theorem dL_tells_15 : decode cL_tells 15 = .ok (.iconst 1, 1) := by decide +kernel
theorem dL_tells_16 : decode cL_tells 16 = .ok (.ireturn, 1) := by decide +kernel
theorem dL_tells_17 : decode cL_tells 17 = .ok (.iconst 0, 1) := by decide +kernel
theorem dL_tells_18 : decode cL_tells 18 = .ok (.ireturn, 1) := by decide +kernel
theorem dL_attempt_0 : decode cL_attempt 0 = .ok (.aload_n 2, 1) := by decide +kernel
theorem dL_attempt_1 : decode cL_attempt 1 = .ok (.iconst 0, 1) := by decide +kernel
theorem dL_attempt_2 : decode cL_attempt 2 = .ok (.aload_n 0, 1) := by decide +kernel
theorem dL_attempt_3 : decode cL_attempt 3 = .ok (.iload_n 1, 1) := by decide +kernel
theorem dL_attempt_4 : decode cL_attempt 4 = .ok (.invokevirtual 50, 3) := by decide +kernel
theorem dL_attempt_7 : decode cL_attempt 7 = .ok (.i2l, 1) := by decide +kernel
theorem dL_attempt_8 : decode cL_attempt 8 = .ok (.lastore, 1) := by decide +kernel
theorem dL_attempt_9 : decode cL_attempt 9 = .ok (.goto 6, 3) := by decide +kernel
theorem dL_attempt_12 : decode cL_attempt 12 = .ok (.astore_n 3, 1) := by decide +kernel
theorem dL_attempt_13 : decode cL_attempt 13 = .ok (.iconst 1, 1) := by decide +kernel
theorem dL_attempt_14 : decode cL_attempt 14 = .ok (.ireturn, 1) := by decide +kernel
theorem dL_attempt_15 : decode cL_attempt 15 = .ok (.iconst 0, 1) := by decide +kernel
theorem dL_attempt_16 : decode cL_attempt 16 = .ok (.ireturn, 1) := by decide +kernel
theorem dL_record_0 : decode cL_record 0 = .ok (.aload_n 3, 1) := by decide +kernel
theorem dL_record_1 : decode cL_record 1 = .ok (.iconst 0, 1) := by decide +kernel
theorem dL_record_2 : decode cL_record 2 = .ok (.aload_n 0, 1) := by decide +kernel
theorem dL_record_3 : decode cL_record 3 = .ok (.iload_n 1, 1) := by decide +kernel
theorem dL_record_4 : decode cL_record 4 = .ok (.iload_n 2, 1) := by decide +kernel
theorem dL_record_5 : decode cL_record 5 = .ok (.invokevirtual 53, 3) := by decide +kernel
theorem dL_record_8 : decode cL_record 8 = .ok (.i2l, 1) := by decide +kernel
theorem dL_record_9 : decode cL_record 9 = .ok (.lastore, 1) := by decide +kernel
theorem dL_record_10 : decode cL_record 10 = .ok (.goto 11, 3) := by decide +kernel
theorem dL_record_13 : decode cL_record 13 = .ok (.astore 4, 2) := by decide +kernel
theorem dL_record_15 : decode cL_record 15 = .ok (.iconst 1, 1) := by decide +kernel
theorem dL_record_16 : decode cL_record 16 = .ok (.ireturn, 1) := by decide +kernel
theorem dL_record_17 : decode cL_record 17 = .ok (.astore 4, 2) := by decide +kernel
theorem dL_record_19 : decode cL_record 19 = .ok (.iconst 2, 1) := by decide +kernel
theorem dL_record_20 : decode cL_record 20 = .ok (.ireturn, 1) := by decide +kernel
theorem dL_record_21 : decode cL_record 21 = .ok (.iconst 0, 1) := by decide +kernel
theorem dL_record_22 : decode cL_record 22 = .ok (.ireturn, 1) := by decide +kernel
theorem dL_hand_0 : decode cL_hand 0 = .ok (.aload_n 2, 1) := by decide +kernel
theorem dL_hand_1 : decode cL_hand 1 = .ok (.iconst 0, 1) := by decide +kernel
theorem dL_hand_2 : decode cL_hand 2 = .ok (.aload_n 0, 1) := by decide +kernel
theorem dL_hand_3 : decode cL_hand 3 = .ok (.iload_n 1, 1) := by decide +kernel
theorem dL_hand_4 : decode cL_hand 4 = .ok (.invokevirtual 56, 3) := by decide +kernel
theorem dL_hand_7 : decode cL_hand 7 = .ok (.i2l, 1) := by decide +kernel
theorem dL_hand_8 : decode cL_hand 8 = .ok (.lastore, 1) := by decide +kernel
theorem dL_hand_9 : decode cL_hand 9 = .ok (.goto 6, 3) := by decide +kernel
theorem dL_hand_12 : decode cL_hand 12 = .ok (.astore_n 3, 1) := by decide +kernel
theorem dL_hand_13 : decode cL_hand 13 = .ok (.iconst 1, 1) := by decide +kernel
theorem dL_hand_14 : decode cL_hand 14 = .ok (.ireturn, 1) := by decide +kernel
theorem dL_hand_15 : decode cL_hand 15 = .ok (.iconst 0, 1) := by decide +kernel
theorem dL_hand_16 : decode cL_hand 16 = .ok (.ireturn, 1) := by decide +kernel
theorem dL_play_0 : decode cL_play 0 = .ok (.aload_n 3, 1) := by decide +kernel
theorem dL_play_1 : decode cL_play 1 = .ok (.iconst 0, 1) := by decide +kernel
theorem dL_play_2 : decode cL_play 2 = .ok (.aload_n 0, 1) := by decide +kernel
theorem dL_play_3 : decode cL_play 3 = .ok (.iload_n 1, 1) := by decide +kernel
theorem dL_play_4 : decode cL_play 4 = .ok (.iload_n 2, 1) := by decide +kernel
theorem dL_play_5 : decode cL_play 5 = .ok (.invokevirtual 59, 3) := by decide +kernel
theorem dL_play_8 : decode cL_play 8 = .ok (.i2l, 1) := by decide +kernel
theorem dL_play_9 : decode cL_play 9 = .ok (.lastore, 1) := by decide +kernel
theorem dL_play_10 : decode cL_play 10 = .ok (.goto 11, 3) := by decide +kernel
theorem dL_play_13 : decode cL_play 13 = .ok (.astore 4, 2) := by decide +kernel
theorem dL_play_15 : decode cL_play 15 = .ok (.iconst 1, 1) := by decide +kernel
theorem dL_play_16 : decode cL_play 16 = .ok (.ireturn, 1) := by decide +kernel
theorem dL_play_17 : decode cL_play 17 = .ok (.astore 4, 2) := by decide +kernel
theorem dL_play_19 : decode cL_play 19 = .ok (.iconst 2, 1) := by decide +kernel
theorem dL_play_20 : decode cL_play 20 = .ok (.ireturn, 1) := by decide +kernel
theorem dL_play_21 : decode cL_play 21 = .ok (.iconst 0, 1) := by decide +kernel
theorem dL_play_22 : decode cL_play 22 = .ok (.ireturn, 1) := by decide +kernel
set_option maxHeartbeats 4000000 in
set_option maxRecDepth 100000 in
theorem c_L_program (l : Launch) (hls : l.stackTraces = false) (D : va_G) (K : Nat → ClassId) (b0 : Nat) (sa : sT) (sz : Nat) (LO : List Nat) (fO : Nat → va_E) (adO : Nat → Nat → Nat) (nO : Nat × Nat) (S0 : fS) (hw : PW K adO (isn nO) S0 LO fO) (hn : S0.2.2.1 = nO) (hprobe : 0 < nO.1) (p1 : Int32) (p2 : Int32) (o : Nat) (hmo : o ∈ LO) (hno : ∀ a i : Nat, isn nO a i → adO a i ≠ o) (g0 : Nat → Int64) (hfo : fO o = .inl (K 6, 1, .inr (.inl g0))) (ec : Nat) (hec : ec = 0 ∨ ec = 1) (v : Int32) (S1 : fS) (h : F_X6_program p1 p2 S0 = some ((ec, v), S1)) : Met l yL_program (.codeWith yL_program cL_program 5 (some .int) [(0, 10, 13, 15)] :: gt) { frames := 72, cells := 3, slots := 307, locals := 2714 } (va_Pc [.ref (adO 0 0), .int p1, .int p2, .ref o] (hPre D K b0 sa sz LO fO)) (hQ D K b0 (fun v9 u9 => ∃ (ad2 : Nat → Nat → Nat) (L2 : List Nat) (f2 : Nat → va_E) (g : Nat → Int64), v9 = some (.int (if ec = 0 then 0 else 1)) ∧ u9 = lU L2 f2 ∧ PW K ad2 (isn S1.2.2.1) S1 L2 f2 ∧ Gr (fun b => b = o) (isn nO) adO LO fO (isn S1.2.2.1) ad2 L2 f2 ∧ (∀ a i : Nat, isn S1.2.2.1 a i → ad2 a i ≠ o) ∧ f2 o = .inl (K 6, 1, .inr (.inl g)) ∧ (ec = 0 → g 0 = v.toInt64))) 3 307 (fun q => b0 ≤ q) := by
  refine t_hof (own := RL) (by decide) rfl ?_ (Nat.le_of_ble_eq_true rfl)
  intro p e s m below meth c ls C w hsz hr hlk htb hl
  have hx := C.1
  have hb := C.2.1
  have hl : lv_has ls 5 [(0, .ref (adO 0 0)), (1, .int p1), (2, .int p2), (3, .ref o)] := hl
  refine lv_aload_n hx hb dL_program_0 rfl (lv_at hl 3 rfl) ?_
  refine lv_iconst (v := 0) hx hb dL_program_1 (by decide) ?_
  refine lv_aload_n hx hb dL_program_2 rfl (lv_at hl 0 rfl) ?_
  refine lv_iload_n hx hb dL_program_3 rfl (lv_at hl 1 rfl) ?_
  refine lv_iload_n hx hb dL_program_4 rfl (lv_at hl 2 rfl) ?_
  refine u_xcallV (n := 2) C w hw (isn_f rfl rfl (by decide)) rfl rfl rfl (c_X6_program l hls D K b0 sa _ LO fO adO nO S0 hw hn hprobe p1 p2 ec v S1 h) gw_723 gw_720 gw_721 gw_722 gw_1 ⟨by decide, by decide, by decide +kernel⟩ rfl rfl ⟨by decide, by decide⟩ rfl hl.1 rfl (Nat.le_of_ble_eq_true rfl) dL_program_5 ⟨Nat.le_of_ble_eq_true rfl, Nat.le_of_ble_eq_true rfl⟩ (fun E ce9 q9 u H locs hp w hcell hv0 hcl => ?_) (fun v9 u H locs hp w => ?_)
  · skip
    obtain ⟨⟨he, hE⟩, ad2, L2, f2, rfl, hw2, hG1⟩ := hp
    have hG2 : Gr (fun b => b = o) (isn nO) adO LO fO (isn S1.2.2.1) ad2 L2 f2 := Gr.rf.tr hG1 (fun b _ z => z.elim)
    have hmo2 := (hG1.2 o hmo).1
    have z9 := (hG1.2 o hmo).2 hno (fun z => z)
    have hfo2 := z9.1.trans hfo
    have hno2 := z9.2
    rcases hec with hec | hec
    · exact absurd hec he
    · subst hec
      have hE : E = "java/lang/IllegalArgumentException" := hE
      subst hE
      refine t_catch (own := RL) (name := "java/lang/IllegalArgumentException") (E := "java/lang/IllegalArgumentException") C.2.2.2.1 [] ⟨0, 10, 13, 15⟩ [] htb (fun z hz => absurd hz List.not_mem_nil) (by decide) (by decide) (C.2.2.2.2 _ gw_547) (cst w cs_iae) hcell hv0 hcl ?_
      refine lv_astore (lv' := [(4, .ref q9), (0, .ref (adO 0 0)), (1, .int p1), (2, .int p2), (3, .ref o)]) hx hb dL_program_13 hl (by decide) rfl (fun ls hl => ?_)
      refine lv_iconst (v := 1) hx hb dL_program_15 (by decide) ?_
      exact t_iret C hr hlk w ⟨ad2, L2, f2, g0, rfl, rfl, hw2, hG2, hno2, hfo2, fun z => absurd z (by decide)⟩ (by decide) (by decide) dL_program_16
  · obtain ⟨he, rfl, hp⟩ := hp
    have hp := And.intro trivial hp
    obtain ⟨-, ad2, L2, f2, rfl, hw2, hG1⟩ := hp
    have hG2 : Gr (fun b => b = o) (isn nO) adO LO fO (isn S1.2.2.1) ad2 L2 f2 := Gr.rf.tr hG1 (fun b _ z => z.elim)
    have hmo2 := (hG1.2 o hmo).1
    have z9 := (hG1.2 o hmo).2 hno (fun z => z)
    have hfo2 := z9.1.trans hfo
    have hno2 := z9.2
    subst he
    refine lv_i2l (v := v.toInt64) hx hb dL_program_8 rfl ?_
    refine g_last C w hmo2 hfo2 dL_program_9 (fun f1 H locs w hg hk => ?_)
    obtain ⟨g1, hf1, hg1⟩ := hg
    refine lv_goto (tgt := 17) hx hb dL_program_10 (by decide) ?_
    refine lv_iconst (v := 0) hx hb dL_program_17 (by decide) ?_
    exact t_iret C hr hlk w ⟨ad2, L2, f1, g1, rfl, rfl, PW.kp hw2 (fun a i z => hk _ (hno2 a i z)), hG2.put (fun _ => rfl) hk, hno2, hf1, fun _ => hg1⟩ (by decide) (by decide) dL_program_18
set_option maxHeartbeats 4000000 in
set_option maxRecDepth 100000 in
theorem c_L_force (l : Launch) (hls : l.stackTraces = false) (D : va_G) (K : Nat → ClassId) (b0 : Nat) (sa : sT) (sz : Nat) (LO : List Nat) (fO : Nat → va_E) (adO : Nat → Nat → Nat) (nO : Nat × Nat) (S0 : fS) (hw : PW K adO (isn nO) S0 LO fO) (hn : S0.2.2.1 = nO) (hprobe : 0 < nO.1) (p1 : Int32) (o : Nat) (hmo : o ∈ LO) (hno : ∀ a i : Nat, isn nO a i → adO a i ≠ o) (g0 : Nat → Int64) (hfo : fO o = .inl (K 6, 1, .inr (.inl g0))) (ec : Nat) (hec : ec = 0 ∨ ec = 1) (v : Int32) (S1 : fS) (h : F_X6_force p1 S0 = some ((ec, v), S1)) : Met l yL_force (.codeWith yL_force cL_force 4 (some .int) [(0, 9, 12, 15)] :: gt) { frames := 8, cells := 1, slots := 6, locals := 124 } (va_Pc [.ref (adO 0 0), .int p1, .ref o] (hPre D K b0 sa sz LO fO)) (hQ D K b0 (fun v9 u9 => ∃ (ad2 : Nat → Nat → Nat) (L2 : List Nat) (f2 : Nat → va_E) (g : Nat → Int64), v9 = some (.int (if ec = 0 then 0 else 1)) ∧ u9 = lU L2 f2 ∧ PW K ad2 (isn S1.2.2.1) S1 L2 f2 ∧ Gr (fun b => b = o) (isn nO) adO LO fO (isn S1.2.2.1) ad2 L2 f2 ∧ (∀ a i : Nat, isn S1.2.2.1 a i → ad2 a i ≠ o) ∧ f2 o = .inl (K 6, 1, .inr (.inl g)) ∧ (ec = 0 → g 0 = v.toInt64))) 1 6 (fun q => b0 ≤ q) := by
  refine t_hof (own := RL) (by decide) rfl ?_ (Nat.le_of_ble_eq_true rfl)
  intro p e s m below meth c ls C w hsz hr hlk htb hl
  have hx := C.1
  have hb := C.2.1
  have hl : lv_has ls 4 [(0, .ref (adO 0 0)), (1, .int p1), (2, .ref o)] := hl
  refine lv_aload_n hx hb dL_force_0 rfl (lv_at hl 2 rfl) ?_
  refine lv_iconst (v := 0) hx hb dL_force_1 (by decide) ?_
  refine lv_aload_n hx hb dL_force_2 rfl (lv_at hl 0 rfl) ?_
  refine lv_iload_n hx hb dL_force_3 rfl (lv_at hl 1 rfl) ?_
  refine u_xcallV (n := 1) C w hw (isn_f rfl rfl (by decide)) rfl rfl rfl (c_X6_force l hls D K b0 sa _ LO fO adO (isn nO) (fun _ _ h => h) S0 hw hn p1 ec v S1 h) gw_929 gw_926 gw_927 gw_928 gw_1 ⟨by decide, by decide, by decide +kernel⟩ rfl rfl ⟨by decide, by decide⟩ rfl hl.1 rfl (Nat.le_of_ble_eq_true rfl) dL_force_4 ⟨Nat.le_of_ble_eq_true rfl, Nat.le_of_ble_eq_true rfl⟩ (fun E ce9 q9 u H locs hp w hcell hv0 hcl => ?_) (fun v9 u H locs hp w => ?_)
  · skip
    obtain ⟨⟨he, hE⟩, f2, rfl, hw2, hn2, hk1⟩ := hp
    have hG2 : Gr (fun b => b = o) (isn nO) adO LO fO (isn nO) adO LO f2 := Gr.rf.kp hk1
    have hmo2 := hmo
    have hno2 := hno
    have hfo2 := (hk1 o hmo hno).trans hfo
    have e2 : isn S1.2.2.1 = isn nO := by rw [hn2]
    rcases hec with hec | hec
    · exact absurd hec he
    · subst hec
      have hE : E = "java/lang/IllegalArgumentException" := hE
      subst hE
      refine t_catch (own := RL) (name := "java/lang/IllegalArgumentException") (E := "java/lang/IllegalArgumentException") C.2.2.2.1 [] ⟨0, 9, 12, 15⟩ [] htb (fun z hz => absurd hz List.not_mem_nil) (by decide) (by decide) (C.2.2.2.2 _ gw_547) (cst w cs_iae) hcell hv0 hcl ?_
      refine lv_astore_n (lv' := [(3, .ref q9), (0, .ref (adO 0 0)), (1, .int p1), (2, .ref o)]) hx hb dL_force_12 rfl hl (by decide) rfl (fun ls hl => ?_)
      refine lv_iconst (v := 1) hx hb dL_force_13 (by decide) ?_
      refine t_iret C hr hlk w ⟨adO, LO, f2, g0, rfl, rfl, ?_, ?_, ?_, hfo2, fun z => absurd z (by decide)⟩ (by decide) (by decide) dL_force_14
      · rw [e2]; exact hw2
      · rw [e2]; exact hG2
      · rw [e2]; exact hno2
  · obtain ⟨he, rfl, hp⟩ := hp
    have hp := And.intro trivial hp
    obtain ⟨-, f2, rfl, hw2, hn2, hk1⟩ := hp
    have hG2 : Gr (fun b => b = o) (isn nO) adO LO fO (isn nO) adO LO f2 := Gr.rf.kp hk1
    have hmo2 := hmo
    have hno2 := hno
    have hfo2 := (hk1 o hmo hno).trans hfo
    have e2 : isn S1.2.2.1 = isn nO := by rw [hn2]
    subst he
    refine lv_i2l (v := v.toInt64) hx hb dL_force_7 rfl ?_
    refine g_last C w hmo2 hfo2 dL_force_8 (fun f1 H locs w hg hk => ?_)
    obtain ⟨g1, hf1, hg1⟩ := hg
    refine lv_goto (tgt := 15) hx hb dL_force_9 (by decide) ?_
    refine lv_iconst (v := 0) hx hb dL_force_15 (by decide) ?_
    refine t_iret C hr hlk w ⟨adO, LO, f1, g1, rfl, rfl, ?_, ?_, ?_, hf1, fun _ => hg1⟩ (by decide) (by decide) dL_force_16
    · rw [e2]; exact PW.kp hw2 (fun a i z => hk _ (hno2 a i z))
    · rw [e2]; exact hG2.put (fun _ => rfl) hk
    · rw [e2]; exact hno2
set_option maxHeartbeats 4000000 in
set_option maxRecDepth 100000 in
theorem c_L_tells (l : Launch) (hls : l.stackTraces = false) (D : va_G) (K : Nat → ClassId) (b0 : Nat) (sa : sT) (sz : Nat) (LO : List Nat) (fO : Nat → va_E) (adO : Nat → Nat → Nat) (nO : Nat × Nat) (S0 : fS) (hw : PW K adO (isn nO) S0 LO fO) (hn : S0.2.2.1 = nO) (hprobe : 0 < nO.1) (p1 : Int32) (p2 : Int32) (o : Nat) (hmo : o ∈ LO) (hno : ∀ a i : Nat, isn nO a i → adO a i ≠ o) (g0 : Nat → Int64) (hfo : fO o = .inl (K 6, 1, .inr (.inl g0))) (ec : Nat) (hec : ec = 0 ∨ ec = 1) (v : Int32) (S1 : fS) (h : F_X6_tells p1 p2 S0 = some ((ec, v), S1)) : Met l yL_tells (.codeWith yL_tells cL_tells 5 (some .int) [(0, 10, 13, 15)] :: gt) { frames := 8, cells := 1, slots := 6, locals := 124 } (va_Pc [.ref (adO 0 0), .int p1, .int p2, .ref o] (hPre D K b0 sa sz LO fO)) (hQ D K b0 (fun v9 u9 => ∃ (ad2 : Nat → Nat → Nat) (L2 : List Nat) (f2 : Nat → va_E) (g : Nat → Int64), v9 = some (.int (if ec = 0 then 0 else 1)) ∧ u9 = lU L2 f2 ∧ PW K ad2 (isn S1.2.2.1) S1 L2 f2 ∧ Gr (fun b => b = o) (isn nO) adO LO fO (isn S1.2.2.1) ad2 L2 f2 ∧ (∀ a i : Nat, isn S1.2.2.1 a i → ad2 a i ≠ o) ∧ f2 o = .inl (K 6, 1, .inr (.inl g)) ∧ (ec = 0 → g 0 = v.toInt64))) 1 6 (fun q => b0 ≤ q) := by
  refine t_hof (own := RL) (by decide) rfl ?_ (Nat.le_of_ble_eq_true rfl)
  intro p e s m below meth c ls C w hsz hr hlk htb hl
  have hx := C.1
  have hb := C.2.1
  have hl : lv_has ls 5 [(0, .ref (adO 0 0)), (1, .int p1), (2, .int p2), (3, .ref o)] := hl
  refine lv_aload_n hx hb dL_tells_0 rfl (lv_at hl 3 rfl) ?_
  refine lv_iconst (v := 0) hx hb dL_tells_1 (by decide) ?_
  refine lv_aload_n hx hb dL_tells_2 rfl (lv_at hl 0 rfl) ?_
  refine lv_iload_n hx hb dL_tells_3 rfl (lv_at hl 1 rfl) ?_
  refine lv_iload_n hx hb dL_tells_4 rfl (lv_at hl 2 rfl) ?_
  refine u_xcallV (n := 2) C w hw (isn_f rfl rfl (by decide)) rfl rfl rfl (c_X6_tells l hls D K b0 sa _ LO fO adO (isn nO) (fun _ _ h => h) S0 hw hn hprobe p1 p2 ec v S1 h) gw_936 gw_933 gw_934 gw_935 gw_1 ⟨by decide, by decide, by decide +kernel⟩ rfl rfl ⟨by decide, by decide⟩ rfl hl.1 rfl (Nat.le_of_ble_eq_true rfl) dL_tells_5 ⟨Nat.le_of_ble_eq_true rfl, Nat.le_of_ble_eq_true rfl⟩ (fun E ce9 q9 u H locs hp w hcell hv0 hcl => ?_) (fun v9 u H locs hp w => ?_)
  · skip
    obtain ⟨⟨he, hE⟩, f2, rfl, hw2, hn2, hk1⟩ := hp
    have hG2 : Gr (fun b => b = o) (isn nO) adO LO fO (isn nO) adO LO f2 := Gr.rf.kp hk1
    have hmo2 := hmo
    have hno2 := hno
    have hfo2 := (hk1 o hmo hno).trans hfo
    have e2 : isn S1.2.2.1 = isn nO := by rw [hn2]
    rcases hec with hec | hec
    · exact absurd hec he
    · subst hec
      have hE : E = "java/lang/IllegalArgumentException" := hE
      subst hE
      refine t_catch (own := RL) (name := "java/lang/IllegalArgumentException") (E := "java/lang/IllegalArgumentException") C.2.2.2.1 [] ⟨0, 10, 13, 15⟩ [] htb (fun z hz => absurd hz List.not_mem_nil) (by decide) (by decide) (C.2.2.2.2 _ gw_547) (cst w cs_iae) hcell hv0 hcl ?_
      refine lv_astore (lv' := [(4, .ref q9), (0, .ref (adO 0 0)), (1, .int p1), (2, .int p2), (3, .ref o)]) hx hb dL_tells_13 hl (by decide) rfl (fun ls hl => ?_)
      refine lv_iconst (v := 1) hx hb dL_tells_15 (by decide) ?_
      refine t_iret C hr hlk w ⟨adO, LO, f2, g0, rfl, rfl, ?_, ?_, ?_, hfo2, fun z => absurd z (by decide)⟩ (by decide) (by decide) dL_tells_16
      · rw [e2]; exact hw2
      · rw [e2]; exact hG2
      · rw [e2]; exact hno2
  · obtain ⟨he, rfl, hp⟩ := hp
    have hp := And.intro trivial hp
    obtain ⟨-, f2, rfl, hw2, hn2, hk1⟩ := hp
    have hG2 : Gr (fun b => b = o) (isn nO) adO LO fO (isn nO) adO LO f2 := Gr.rf.kp hk1
    have hmo2 := hmo
    have hno2 := hno
    have hfo2 := (hk1 o hmo hno).trans hfo
    have e2 : isn S1.2.2.1 = isn nO := by rw [hn2]
    subst he
    refine lv_i2l (v := v.toInt64) hx hb dL_tells_8 rfl ?_
    refine g_last C w hmo2 hfo2 dL_tells_9 (fun f1 H locs w hg hk => ?_)
    obtain ⟨g1, hf1, hg1⟩ := hg
    refine lv_goto (tgt := 17) hx hb dL_tells_10 (by decide) ?_
    refine lv_iconst (v := 0) hx hb dL_tells_17 (by decide) ?_
    refine t_iret C hr hlk w ⟨adO, LO, f1, g1, rfl, rfl, ?_, ?_, ?_, hf1, fun _ => hg1⟩ (by decide) (by decide) dL_tells_18
    · rw [e2]; exact PW.kp hw2 (fun a i z => hk _ (hno2 a i z))
    · rw [e2]; exact hG2.put (fun _ => rfl) hk
    · rw [e2]; exact hno2
set_option maxHeartbeats 4000000 in
set_option maxRecDepth 100000 in
theorem c_L_attempt (l : Launch) (hls : l.stackTraces = false) (D : va_G) (K : Nat → ClassId) (b0 : Nat) (sa : sT) (sz : Nat) (LO : List Nat) (fO : Nat → va_E) (adO : Nat → Nat → Nat) (nO : Nat × Nat) (S0 : fS) (hw : PW K adO (isn nO) S0 LO fO) (hn : S0.2.2.1 = nO) (hprobe : 0 < nO.1) (p1 : Int32) (o : Nat) (hmo : o ∈ LO) (hno : ∀ a i : Nat, isn nO a i → adO a i ≠ o) (g0 : Nat → Int64) (hfo : fO o = .inl (K 6, 1, .inr (.inl g0))) (ec : Nat) (hec : ec = 0 ∨ ec = 2) (v : Int32) (S1 : fS) (h : F_X6_attempt p1 S0 = some ((ec, v), S1)) : Met l yL_attempt (.codeWith yL_attempt cL_attempt 4 (some .int) [(0, 9, 12, 13)] :: gt) { frames := 8, cells := 3, slots := 28, locals := 178 } (va_Pc [.ref (adO 0 0), .int p1, .ref o] (hPre D K b0 sa sz LO fO)) (hQ D K b0 (fun v9 u9 => ∃ (ad2 : Nat → Nat → Nat) (L2 : List Nat) (f2 : Nat → va_E) (g : Nat → Int64), v9 = some (.int (if ec = 0 then 0 else 1)) ∧ u9 = lU L2 f2 ∧ PW K ad2 (isn S1.2.2.1) S1 L2 f2 ∧ Gr (fun b => b = o) (isn nO) adO LO fO (isn S1.2.2.1) ad2 L2 f2 ∧ (∀ a i : Nat, isn S1.2.2.1 a i → ad2 a i ≠ o) ∧ f2 o = .inl (K 6, 1, .inr (.inl g)) ∧ (ec = 0 → g 0 = v.toInt64))) 3 28 (fun q => b0 ≤ q) := by
  refine t_hof (own := RL) (by decide) rfl ?_ (Nat.le_of_ble_eq_true rfl)
  intro p e s m below meth c ls C w hsz hr hlk htb hl
  have hx := C.1
  have hb := C.2.1
  have hl : lv_has ls 4 [(0, .ref (adO 0 0)), (1, .int p1), (2, .ref o)] := hl
  refine lv_aload_n hx hb dL_attempt_0 rfl (lv_at hl 2 rfl) ?_
  refine lv_iconst (v := 0) hx hb dL_attempt_1 (by decide) ?_
  refine lv_aload_n hx hb dL_attempt_2 rfl (lv_at hl 0 rfl) ?_
  refine lv_iload_n hx hb dL_attempt_3 rfl (lv_at hl 1 rfl) ?_
  refine u_xcallV (n := 1) C w hw (isn_f rfl rfl (by decide)) rfl rfl rfl (c_X6_attempt l hls D K b0 sa _ LO fO adO nO S0 hw hn hprobe p1 ec v S1 h) gw_943 gw_940 gw_941 gw_942 gw_1 ⟨by decide, by decide, by decide +kernel⟩ rfl rfl ⟨by decide, by decide⟩ rfl hl.1 rfl (Nat.le_of_ble_eq_true rfl) dL_attempt_4 ⟨Nat.le_of_ble_eq_true rfl, Nat.le_of_ble_eq_true rfl⟩ (fun E ce9 q9 u H locs hp w hcell hv0 hcl => ?_) (fun v9 u H locs hp w => ?_)
  · skip
    obtain ⟨⟨he, hE⟩, ad2, L2, f2, rfl, hw2, hG1⟩ := hp
    have hG2 : Gr (fun b => b = o) (isn nO) adO LO fO (isn S1.2.2.1) ad2 L2 f2 := Gr.rf.tr hG1 (fun b _ z => z.elim)
    have hmo2 := (hG1.2 o hmo).1
    have z9 := (hG1.2 o hmo).2 hno (fun z => z)
    have hfo2 := z9.1.trans hfo
    have hno2 := z9.2
    rcases hec with hec | hec
    · exact absurd hec he
    · subst hec
      have hE : E = "java/lang/IndexOutOfBoundsException" := hE
      subst hE
      refine t_catch (own := RL) (name := "java/lang/IndexOutOfBoundsException") (E := "java/lang/IndexOutOfBoundsException") C.2.2.2.1 [] ⟨0, 9, 12, 13⟩ [] htb (fun z hz => absurd hz List.not_mem_nil) (by decide) (by decide) (C.2.2.2.2 _ gw_546) (cst w cs_iob) hcell hv0 hcl ?_
      refine lv_astore_n (lv' := [(3, .ref q9), (0, .ref (adO 0 0)), (1, .int p1), (2, .ref o)]) hx hb dL_attempt_12 rfl hl (by decide) rfl (fun ls hl => ?_)
      refine lv_iconst (v := 1) hx hb dL_attempt_13 (by decide) ?_
      exact t_iret C hr hlk w ⟨ad2, L2, f2, g0, rfl, rfl, hw2, hG2, hno2, hfo2, fun z => absurd z (by decide)⟩ (by decide) (by decide) dL_attempt_14
  · obtain ⟨he, rfl, hp⟩ := hp
    have hp := And.intro trivial hp
    obtain ⟨-, ad2, L2, f2, rfl, hw2, hG1⟩ := hp
    have hG2 : Gr (fun b => b = o) (isn nO) adO LO fO (isn S1.2.2.1) ad2 L2 f2 := Gr.rf.tr hG1 (fun b _ z => z.elim)
    have hmo2 := (hG1.2 o hmo).1
    have z9 := (hG1.2 o hmo).2 hno (fun z => z)
    have hfo2 := z9.1.trans hfo
    have hno2 := z9.2
    subst he
    refine lv_i2l (v := v.toInt64) hx hb dL_attempt_7 rfl ?_
    refine g_last C w hmo2 hfo2 dL_attempt_8 (fun f1 H locs w hg hk => ?_)
    obtain ⟨g1, hf1, hg1⟩ := hg
    refine lv_goto (tgt := 15) hx hb dL_attempt_9 (by decide) ?_
    refine lv_iconst (v := 0) hx hb dL_attempt_15 (by decide) ?_
    exact t_iret C hr hlk w ⟨ad2, L2, f1, g1, rfl, rfl, PW.kp hw2 (fun a i z => hk _ (hno2 a i z)), hG2.put (fun _ => rfl) hk, hno2, hf1, fun _ => hg1⟩ (by decide) (by decide) dL_attempt_16
set_option maxHeartbeats 4000000 in
set_option maxRecDepth 100000 in
theorem c_L_record (l : Launch) (hls : l.stackTraces = false) (D : va_G) (K : Nat → ClassId) (b0 : Nat) (sa : sT) (sz : Nat) (LO : List Nat) (fO : Nat → va_E) (adO : Nat → Nat → Nat) (nO : Nat × Nat) (S0 : fS) (hw : PW K adO (isn nO) S0 LO fO) (hn : S0.2.2.1 = nO) (hprobe : 0 < nO.1) (p1 : Int32) (p2 : Int32) (o : Nat) (hmo : o ∈ LO) (hno : ∀ a i : Nat, isn nO a i → adO a i ≠ o) (g0 : Nat → Int64) (hfo : fO o = .inl (K 6, 1, .inr (.inl g0))) (ec : Nat) (hec : ec = 0 ∨ ec = 1 ∨ ec = 3) (v : Int32) (S1 : fS) (h : F_X6_record p1 p2 S0 = some ((ec, v), S1)) : Met l yL_record (.codeWith yL_record cL_record 5 (some .int) [(0, 10, 13, 21), (0, 10, 17, 15)] :: gt) { frames := 8, cells := 2, slots := 12, locals := 125 } (va_Pc [.ref (adO 0 0), .int p1, .int p2, .ref o] (hPre D K b0 sa sz LO fO)) (hQ D K b0 (fun v9 u9 => ∃ (ad2 : Nat → Nat → Nat) (L2 : List Nat) (f2 : Nat → va_E) (g : Nat → Int64), v9 = some (.int (if ec = 0 then 0 else if ec = 1 then 2 else 1)) ∧ u9 = lU L2 f2 ∧ PW K ad2 (isn S1.2.2.1) S1 L2 f2 ∧ Gr (fun b => b = o) (isn nO) adO LO fO (isn S1.2.2.1) ad2 L2 f2 ∧ (∀ a i : Nat, isn S1.2.2.1 a i → ad2 a i ≠ o) ∧ f2 o = .inl (K 6, 1, .inr (.inl g)) ∧ (ec = 0 → g 0 = v.toInt64))) 2 12 (fun q => b0 ≤ q) := by
  refine t_hof (own := RL) (by decide) rfl ?_ (Nat.le_of_ble_eq_true rfl)
  intro p e s m below meth c ls C w hsz hr hlk htb hl
  have hx := C.1
  have hb := C.2.1
  have hl : lv_has ls 5 [(0, .ref (adO 0 0)), (1, .int p1), (2, .int p2), (3, .ref o)] := hl
  refine lv_aload_n hx hb dL_record_0 rfl (lv_at hl 3 rfl) ?_
  refine lv_iconst (v := 0) hx hb dL_record_1 (by decide) ?_
  refine lv_aload_n hx hb dL_record_2 rfl (lv_at hl 0 rfl) ?_
  refine lv_iload_n hx hb dL_record_3 rfl (lv_at hl 1 rfl) ?_
  refine lv_iload_n hx hb dL_record_4 rfl (lv_at hl 2 rfl) ?_
  refine u_xcallV (n := 2) C w hw (isn_f rfl rfl (by decide)) rfl rfl rfl (c_X6_record l hls D K b0 sa _ LO fO adO (isn nO) (fun _ _ h => h) S0 hw hn p1 p2 ec v S1 h) gw_986 gw_983 gw_984 gw_985 gw_1 ⟨by decide, by decide, by decide +kernel⟩ rfl rfl ⟨by decide, by decide⟩ rfl hl.1 rfl (Nat.le_of_ble_eq_true rfl) dL_record_5 ⟨Nat.le_of_ble_eq_true rfl, Nat.le_of_ble_eq_true rfl⟩ (fun E ce9 q9 u H locs hp w hcell hv0 hcl => ?_) (fun v9 u H locs hp w => ?_)
  · skip
    obtain ⟨⟨he, hE⟩, f2, rfl, hw2, hn2, hk1⟩ := hp
    have hG2 : Gr (fun b => b = o) (isn nO) adO LO fO (isn nO) adO LO f2 := Gr.rf.kp hk1
    have hmo2 := hmo
    have hno2 := hno
    have hfo2 := (hk1 o hmo hno).trans hfo
    have e2 : isn S1.2.2.1 = isn nO := by rw [hn2]
    rcases hec with hec | hec | hec
    · exact absurd hec he
    · subst hec
      have hE : E = "java/lang/IllegalArgumentException" := hE
      subst hE
      refine t_catch (own := RL) (name := "java/lang/IllegalArgumentException") (E := "java/lang/IllegalArgumentException") C.2.2.2.1 [⟨0, 10, 13, 21⟩] ⟨0, 10, 17, 15⟩ [] htb (fun z hz => by cases List.mem_singleton.mp hz; exact Or.inr ⟨by decide, "java/util/NoSuchElementException", C.2.2.2.2 _ gw_649, hnc_iae_nse w⟩) (by decide) (by decide) (C.2.2.2.2 _ gw_547) (cst w cs_iae) hcell hv0 hcl ?_
      refine lv_astore (lv' := [(4, .ref q9), (0, .ref (adO 0 0)), (1, .int p1), (2, .int p2), (3, .ref o)]) hx hb dL_record_17 hl (by decide) rfl (fun ls hl => ?_)
      refine lv_iconst (v := 2) hx hb dL_record_19 (by decide) ?_
      refine t_iret C hr hlk w ⟨adO, LO, f2, g0, rfl, rfl, ?_, ?_, ?_, hfo2, fun z => absurd z (by decide)⟩ (by decide) (by decide) dL_record_20
      · rw [e2]; exact hw2
      · rw [e2]; exact hG2
      · rw [e2]; exact hno2
    · subst hec
      have hE : E = "java/util/NoSuchElementException" := hE
      subst hE
      refine t_catch (own := RL) (name := "java/util/NoSuchElementException") (E := "java/util/NoSuchElementException") C.2.2.2.1 [] ⟨0, 10, 13, 21⟩ [⟨0, 10, 17, 15⟩] htb (fun z hz => absurd hz List.not_mem_nil) (by decide) (by decide) (C.2.2.2.2 _ gw_649) (cst w cs_nse) hcell hv0 hcl ?_
      refine lv_astore (lv' := [(4, .ref q9), (0, .ref (adO 0 0)), (1, .int p1), (2, .int p2), (3, .ref o)]) hx hb dL_record_13 hl (by decide) rfl (fun ls hl => ?_)
      refine lv_iconst (v := 1) hx hb dL_record_15 (by decide) ?_
      refine t_iret C hr hlk w ⟨adO, LO, f2, g0, rfl, rfl, ?_, ?_, ?_, hfo2, fun z => absurd z (by decide)⟩ (by decide) (by decide) dL_record_16
      · rw [e2]; exact hw2
      · rw [e2]; exact hG2
      · rw [e2]; exact hno2
  · obtain ⟨he, rfl, hp⟩ := hp
    have hp := And.intro trivial hp
    obtain ⟨-, f2, rfl, hw2, hn2, hk1⟩ := hp
    have hG2 : Gr (fun b => b = o) (isn nO) adO LO fO (isn nO) adO LO f2 := Gr.rf.kp hk1
    have hmo2 := hmo
    have hno2 := hno
    have hfo2 := (hk1 o hmo hno).trans hfo
    have e2 : isn S1.2.2.1 = isn nO := by rw [hn2]
    subst he
    refine lv_i2l (v := v.toInt64) hx hb dL_record_8 rfl ?_
    refine g_last C w hmo2 hfo2 dL_record_9 (fun f1 H locs w hg hk => ?_)
    obtain ⟨g1, hf1, hg1⟩ := hg
    refine lv_goto (tgt := 21) hx hb dL_record_10 (by decide) ?_
    refine lv_iconst (v := 0) hx hb dL_record_21 (by decide) ?_
    refine t_iret C hr hlk w ⟨adO, LO, f1, g1, rfl, rfl, ?_, ?_, ?_, hf1, fun _ => hg1⟩ (by decide) (by decide) dL_record_22
    · rw [e2]; exact PW.kp hw2 (fun a i z => hk _ (hno2 a i z))
    · rw [e2]; exact hG2.put (fun _ => rfl) hk
    · rw [e2]; exact hno2
set_option maxHeartbeats 4000000 in
set_option maxRecDepth 100000 in
theorem c_L_hand (l : Launch) (hls : l.stackTraces = false) (D : va_G) (K : Nat → ClassId) (b0 : Nat) (sa : sT) (sz : Nat) (LO : List Nat) (fO : Nat → va_E) (adO : Nat → Nat → Nat) (nO : Nat × Nat) (S0 : fS) (hw : PW K adO (isn nO) S0 LO fO) (hn : S0.2.2.1 = nO) (hprobe : 0 < nO.1) (p1 : Int32) (o : Nat) (hmo : o ∈ LO) (hno : ∀ a i : Nat, isn nO a i → adO a i ≠ o) (g0 : Nat → Int64) (hfo : fO o = .inl (K 6, 1, .inr (.inl g0))) (ec : Nat) (hec : ec = 0 ∨ ec = 1) (v : Int32) (S1 : fS) (h : F_X6_hand p1 S0 = some ((ec, v), S1)) : Met l yL_hand (.codeWith yL_hand cL_hand 4 (some .int) [(0, 9, 12, 15)] :: gt) { frames := 8, cells := 1, slots := 6, locals := 123 } (va_Pc [.ref (adO 0 0), .int p1, .ref o] (hPre D K b0 sa sz LO fO)) (hQ D K b0 (fun v9 u9 => ∃ (ad2 : Nat → Nat → Nat) (L2 : List Nat) (f2 : Nat → va_E) (g : Nat → Int64), v9 = some (.int (if ec = 0 then 0 else 1)) ∧ u9 = lU L2 f2 ∧ PW K ad2 (isn S1.2.2.1) S1 L2 f2 ∧ Gr (fun b => b = o) (isn nO) adO LO fO (isn S1.2.2.1) ad2 L2 f2 ∧ (∀ a i : Nat, isn S1.2.2.1 a i → ad2 a i ≠ o) ∧ f2 o = .inl (K 6, 1, .inr (.inl g)) ∧ (ec = 0 → g 0 = v.toInt64))) 1 6 (fun q => b0 ≤ q) := by
  refine t_hof (own := RL) (by decide) rfl ?_ (Nat.le_of_ble_eq_true rfl)
  intro p e s m below meth c ls C w hsz hr hlk htb hl
  have hx := C.1
  have hb := C.2.1
  have hl : lv_has ls 4 [(0, .ref (adO 0 0)), (1, .int p1), (2, .ref o)] := hl
  refine lv_aload_n hx hb dL_hand_0 rfl (lv_at hl 2 rfl) ?_
  refine lv_iconst (v := 0) hx hb dL_hand_1 (by decide) ?_
  refine lv_aload_n hx hb dL_hand_2 rfl (lv_at hl 0 rfl) ?_
  refine lv_iload_n hx hb dL_hand_3 rfl (lv_at hl 1 rfl) ?_
  refine u_xcallV (n := 1) C w hw (isn_f rfl rfl (by decide)) rfl rfl rfl (c_X6_hand l hls D K b0 sa _ LO fO adO (isn nO) (fun _ _ h => h) S0 hw hn p1 ec v S1 h) gw_997 gw_994 gw_995 gw_996 gw_1 ⟨by decide, by decide, by decide +kernel⟩ rfl rfl ⟨by decide, by decide⟩ rfl hl.1 rfl (Nat.le_of_ble_eq_true rfl) dL_hand_4 ⟨Nat.le_of_ble_eq_true rfl, Nat.le_of_ble_eq_true rfl⟩ (fun E ce9 q9 u H locs hp w hcell hv0 hcl => ?_) (fun v9 u H locs hp w => ?_)
  · skip
    obtain ⟨⟨he, hE⟩, f2, rfl, hw2, hn2, hk1⟩ := hp
    have hG2 : Gr (fun b => b = o) (isn nO) adO LO fO (isn nO) adO LO f2 := Gr.rf.kp hk1
    have hmo2 := hmo
    have hno2 := hno
    have hfo2 := (hk1 o hmo hno).trans hfo
    have e2 : isn S1.2.2.1 = isn nO := by rw [hn2]
    rcases hec with hec | hec
    · exact absurd hec he
    · subst hec
      have hE : E = "java/lang/IllegalArgumentException" := hE
      subst hE
      refine t_catch (own := RL) (name := "java/lang/IllegalArgumentException") (E := "java/lang/IllegalArgumentException") C.2.2.2.1 [] ⟨0, 9, 12, 15⟩ [] htb (fun z hz => absurd hz List.not_mem_nil) (by decide) (by decide) (C.2.2.2.2 _ gw_547) (cst w cs_iae) hcell hv0 hcl ?_
      refine lv_astore_n (lv' := [(3, .ref q9), (0, .ref (adO 0 0)), (1, .int p1), (2, .ref o)]) hx hb dL_hand_12 rfl hl (by decide) rfl (fun ls hl => ?_)
      refine lv_iconst (v := 1) hx hb dL_hand_13 (by decide) ?_
      refine t_iret C hr hlk w ⟨adO, LO, f2, g0, rfl, rfl, ?_, ?_, ?_, hfo2, fun z => absurd z (by decide)⟩ (by decide) (by decide) dL_hand_14
      · rw [e2]; exact hw2
      · rw [e2]; exact hG2
      · rw [e2]; exact hno2
  · obtain ⟨he, rfl, hp⟩ := hp
    have hp := And.intro trivial hp
    obtain ⟨-, f2, rfl, hw2, hn2, hk1⟩ := hp
    have hG2 : Gr (fun b => b = o) (isn nO) adO LO fO (isn nO) adO LO f2 := Gr.rf.kp hk1
    have hmo2 := hmo
    have hno2 := hno
    have hfo2 := (hk1 o hmo hno).trans hfo
    have e2 : isn S1.2.2.1 = isn nO := by rw [hn2]
    subst he
    refine lv_i2l (v := v.toInt64) hx hb dL_hand_7 rfl ?_
    refine g_last C w hmo2 hfo2 dL_hand_8 (fun f1 H locs w hg hk => ?_)
    obtain ⟨g1, hf1, hg1⟩ := hg
    refine lv_goto (tgt := 15) hx hb dL_hand_9 (by decide) ?_
    refine lv_iconst (v := 0) hx hb dL_hand_15 (by decide) ?_
    refine t_iret C hr hlk w ⟨adO, LO, f1, g1, rfl, rfl, ?_, ?_, ?_, hf1, fun _ => hg1⟩ (by decide) (by decide) dL_hand_16
    · rw [e2]; exact PW.kp hw2 (fun a i z => hk _ (hno2 a i z))
    · rw [e2]; exact hG2.put (fun _ => rfl) hk
    · rw [e2]; exact hno2
set_option maxHeartbeats 4000000 in
set_option maxRecDepth 100000 in
theorem c_L_play (l : Launch) (hls : l.stackTraces = false) (D : va_G) (K : Nat → ClassId) (b0 : Nat) (sa : sT) (sz : Nat) (LO : List Nat) (fO : Nat → va_E) (adO : Nat → Nat → Nat) (nO : Nat × Nat) (S0 : fS) (hw : PW K adO (isn nO) S0 LO fO) (hn : S0.2.2.1 = nO) (hprobe : 0 < nO.1) (p1 : Int32) (p2 : Int32) (o : Nat) (hmo : o ∈ LO) (hno : ∀ a i : Nat, isn nO a i → adO a i ≠ o) (g0 : Nat → Int64) (hfo : fO o = .inl (K 6, 1, .inr (.inl g0))) (ec : Nat) (hec : ec = 0 ∨ ec = 2 ∨ ec = 3) (v : Int32) (S1 : fS) (h : F_X6_play p1 p2 S0 = some ((ec, v), S1)) : Met l yL_play (.codeWith yL_play cL_play 5 (some .int) [(0, 10, 13, 21), (0, 10, 17, 13)] :: gt) { frames := 8, cells := 4, slots := 34, locals := 181 } (va_Pc [.ref (adO 0 0), .int p1, .int p2, .ref o] (hPre D K b0 sa sz LO fO)) (hQ D K b0 (fun v9 u9 => ∃ (ad2 : Nat → Nat → Nat) (L2 : List Nat) (f2 : Nat → va_E) (g : Nat → Int64), v9 = some (.int (if ec = 0 then 0 else if ec = 2 then 2 else 1)) ∧ u9 = lU L2 f2 ∧ PW K ad2 (isn S1.2.2.1) S1 L2 f2 ∧ Gr (fun b => b = o) (isn nO) adO LO fO (isn S1.2.2.1) ad2 L2 f2 ∧ (∀ a i : Nat, isn S1.2.2.1 a i → ad2 a i ≠ o) ∧ f2 o = .inl (K 6, 1, .inr (.inl g)) ∧ (ec = 0 → g 0 = v.toInt64))) 4 34 (fun q => b0 ≤ q) := by
  refine t_hof (own := RL) (by decide) rfl ?_ (Nat.le_of_ble_eq_true rfl)
  intro p e s m below meth c ls C w hsz hr hlk htb hl
  have hx := C.1
  have hb := C.2.1
  have hl : lv_has ls 5 [(0, .ref (adO 0 0)), (1, .int p1), (2, .int p2), (3, .ref o)] := hl
  refine lv_aload_n hx hb dL_play_0 rfl (lv_at hl 3 rfl) ?_
  refine lv_iconst (v := 0) hx hb dL_play_1 (by decide) ?_
  refine lv_aload_n hx hb dL_play_2 rfl (lv_at hl 0 rfl) ?_
  refine lv_iload_n hx hb dL_play_3 rfl (lv_at hl 1 rfl) ?_
  refine lv_iload_n hx hb dL_play_4 rfl (lv_at hl 2 rfl) ?_
  refine u_xcallV (n := 2) C w hw (isn_f rfl rfl (by decide)) rfl rfl rfl (c_X6_play l hls D K b0 sa _ LO fO adO nO S0 hw hn hprobe p1 p2 ec v S1 h) gw_1005 gw_1002 gw_1003 gw_1004 gw_1 ⟨by decide, by decide, by decide +kernel⟩ rfl rfl ⟨by decide, by decide⟩ rfl hl.1 rfl (Nat.le_of_ble_eq_true rfl) dL_play_5 ⟨Nat.le_of_ble_eq_true rfl, Nat.le_of_ble_eq_true rfl⟩ (fun E ce9 q9 u H locs hp w hcell hv0 hcl => ?_) (fun v9 u H locs hp w => ?_)
  · skip
    obtain ⟨⟨he, hE⟩, ad2, L2, f2, rfl, hw2, hG1⟩ := hp
    have hG2 : Gr (fun b => b = o) (isn nO) adO LO fO (isn S1.2.2.1) ad2 L2 f2 := Gr.rf.tr hG1 (fun b _ z => z.elim)
    have hmo2 := (hG1.2 o hmo).1
    have z9 := (hG1.2 o hmo).2 hno (fun z => z)
    have hfo2 := z9.1.trans hfo
    have hno2 := z9.2
    rcases hec with hec | hec | hec
    · exact absurd hec he
    · subst hec
      have hE : E = "java/lang/IndexOutOfBoundsException" := hE
      subst hE
      refine t_catch (own := RL) (name := "java/lang/IndexOutOfBoundsException") (E := "java/lang/IndexOutOfBoundsException") C.2.2.2.1 [⟨0, 10, 13, 21⟩] ⟨0, 10, 17, 13⟩ [] htb (fun z hz => by cases List.mem_singleton.mp hz; exact Or.inr ⟨by decide, "java/util/NoSuchElementException", C.2.2.2.2 _ gw_649, hnc_iob_nse w⟩) (by decide) (by decide) (C.2.2.2.2 _ gw_546) (cst w cs_iob) hcell hv0 hcl ?_
      refine lv_astore (lv' := [(4, .ref q9), (0, .ref (adO 0 0)), (1, .int p1), (2, .int p2), (3, .ref o)]) hx hb dL_play_17 hl (by decide) rfl (fun ls hl => ?_)
      refine lv_iconst (v := 2) hx hb dL_play_19 (by decide) ?_
      exact t_iret C hr hlk w ⟨ad2, L2, f2, g0, rfl, rfl, hw2, hG2, hno2, hfo2, fun z => absurd z (by decide)⟩ (by decide) (by decide) dL_play_20
    · subst hec
      have hE : E = "java/util/NoSuchElementException" := hE
      subst hE
      refine t_catch (own := RL) (name := "java/util/NoSuchElementException") (E := "java/util/NoSuchElementException") C.2.2.2.1 [] ⟨0, 10, 13, 21⟩ [⟨0, 10, 17, 13⟩] htb (fun z hz => absurd hz List.not_mem_nil) (by decide) (by decide) (C.2.2.2.2 _ gw_649) (cst w cs_nse) hcell hv0 hcl ?_
      refine lv_astore (lv' := [(4, .ref q9), (0, .ref (adO 0 0)), (1, .int p1), (2, .int p2), (3, .ref o)]) hx hb dL_play_13 hl (by decide) rfl (fun ls hl => ?_)
      refine lv_iconst (v := 1) hx hb dL_play_15 (by decide) ?_
      exact t_iret C hr hlk w ⟨ad2, L2, f2, g0, rfl, rfl, hw2, hG2, hno2, hfo2, fun z => absurd z (by decide)⟩ (by decide) (by decide) dL_play_16
  · obtain ⟨he, rfl, hp⟩ := hp
    have hp := And.intro trivial hp
    obtain ⟨-, ad2, L2, f2, rfl, hw2, hG1⟩ := hp
    have hG2 : Gr (fun b => b = o) (isn nO) adO LO fO (isn S1.2.2.1) ad2 L2 f2 := Gr.rf.tr hG1 (fun b _ z => z.elim)
    have hmo2 := (hG1.2 o hmo).1
    have z9 := (hG1.2 o hmo).2 hno (fun z => z)
    have hfo2 := z9.1.trans hfo
    have hno2 := z9.2
    subst he
    refine lv_i2l (v := v.toInt64) hx hb dL_play_8 rfl ?_
    refine g_last C w hmo2 hfo2 dL_play_9 (fun f1 H locs w hg hk => ?_)
    obtain ⟨g1, hf1, hg1⟩ := hg
    refine lv_goto (tgt := 21) hx hb dL_play_10 (by decide) ?_
    refine lv_iconst (v := 0) hx hb dL_play_21 (by decide) ?_
    exact t_iret C hr hlk w ⟨ad2, L2, f1, g1, rfl, rfl, PW.kp hw2 (fun a i z => hk _ (hno2 a i z)), hG2.put (fun _ => rfl) hk, hno2, hf1, fun _ => hg1⟩ (by decide) (by decide) dL_play_22
