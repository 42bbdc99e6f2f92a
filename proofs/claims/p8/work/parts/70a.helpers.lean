theorem dL_lay_0 : decode cL_lay 0 = .ok (.aload 5, 2) := by decide +kernel
theorem dL_lay_2 : decode cL_lay 2 = .ok (.iconst 0, 1) := by decide +kernel
theorem dL_lay_3 : decode cL_lay 3 = .ok (.aload_n 0, 1) := by decide +kernel
theorem dL_lay_4 : decode cL_lay 4 = .ok (.iload_n 1, 1) := by decide +kernel
theorem dL_lay_5 : decode cL_lay 5 = .ok (.iload_n 2, 1) := by decide +kernel
theorem dL_lay_6 : decode cL_lay 6 = .ok (.iload_n 3, 1) := by decide +kernel
theorem dL_lay_7 : decode cL_lay 7 = .ok (.iload 4, 2) := by decide +kernel
theorem dL_lay_9 : decode cL_lay 9 = .ok (.invokevirtual 7, 3) := by decide +kernel
theorem dL_lay_12 : decode cL_lay 12 = .ok (.i2l, 1) := by decide +kernel
theorem dL_lay_13 : decode cL_lay 13 = .ok (.lastore, 1) := by decide +kernel
theorem dL_lay_14 : decode cL_lay 14 = .ok (.goto 11, 3) := by decide +kernel
theorem dL_lay_17 : decode cL_lay 17 = .ok (.astore 6, 2) := by decide +kernel
theorem dL_lay_19 : decode cL_lay 19 = .ok (.iconst 1, 1) := by decide +kernel
theorem dL_lay_20 : decode cL_lay 20 = .ok (.ireturn, 1) := by decide +kernel
theorem dL_lay_21 : decode cL_lay 21 = .ok (.astore 6, 2) := by decide +kernel
theorem dL_lay_23 : decode cL_lay 23 = .ok (.iconst 2, 1) := by decide +kernel
theorem dL_lay_24 : decode cL_lay 24 = .ok (.ireturn, 1) := by decide +kernel
theorem dL_lay_25 : decode cL_lay 25 = .ok (.iconst 0, 1) := by decide +kernel
theorem dL_lay_26 : decode cL_lay 26 = .ok (.ireturn, 1) := by decide +kernel
theorem dL_wire_0 : decode cL_wire 0 = .ok (.aload_n 3, 1) := by decide +kernel
theorem dL_wire_1 : decode cL_wire 1 = .ok (.iconst 0, 1) := by decide +kernel
theorem dL_wire_2 : decode cL_wire 2 = .ok (.aload_n 0, 1) := by decide +kernel
theorem dL_wire_3 : decode cL_wire 3 = .ok (.iload_n 1, 1) := by decide +kernel
theorem dL_wire_4 : decode cL_wire 4 = .ok (.iload_n 2, 1) := by decide +kernel
theorem dL_wire_5 : decode cL_wire 5 = .ok (.invokevirtual 17, 3) := by decide +kernel
theorem dL_wire_8 : decode cL_wire 8 = .ok (.ifCond .eq 7, 3) := by decide +kernel
theorem dL_wire_11 : decode cL_wire 11 = .ok (.lconst 1, 1) := by decide +kernel
theorem dL_wire_12 : decode cL_wire 12 = .ok (.goto 4, 3) := by decide +kernel
theorem dL_wire_15 : decode cL_wire 15 = .ok (.lconst 0, 1) := by decide +kernel
theorem dL_wire_16 : decode cL_wire 16 = .ok (.lastore, 1) := by decide +kernel
theorem dL_wire_17 : decode cL_wire 17 = .ok (.goto 7, 3) := by decide +kernel
theorem dL_wire_20 : decode cL_wire 20 = .ok (.astore 4, 2) := by decide +kernel
theorem dL_wire_22 : decode cL_wire 22 = .ok (.iconst 1, 1) := by decide +kernel
theorem dL_wire_23 : decode cL_wire 23 = .ok (.ireturn, 1) := by decide +kernel
theorem dL_wire_24 : decode cL_wire 24 = .ok (.iconst 0, 1) := by decide +kernel
theorem dL_wire_25 : decode cL_wire 25 = .ok (.ireturn, 1) := by decide +kernel
theorem dL_key_0 : decode cL_key 0 = .ok (.aload_n 2, 1) := by decide +kernel
theorem dL_key_1 : decode cL_key 1 = .ok (.iconst 0, 1) := by decide +kernel
theorem dL_key_2 : decode cL_key 2 = .ok (.aload_n 0, 1) := by decide +kernel
theorem dL_key_3 : decode cL_key 3 = .ok (.iload_n 1, 1) := by decide +kernel
theorem dL_key_4 : decode cL_key 4 = .ok (.invokevirtual 23, 3) := by decide +kernel
theorem dL_key_7 : decode cL_key 7 = .ok (.i2l, 1) := by decide +kernel
theorem dL_key_8 : decode cL_key 8 = .ok (.lastore, 1) := by decide +kernel
theorem dL_key_9 : decode cL_key 9 = .ok (.goto 6, 3) := by decide +kernel
theorem dL_key_12 : decode cL_key 12 = .ok (.astore_n 3, 1) := by decide +kernel
theorem dL_key_13 : decode cL_key 13 = .ok (.iconst 1, 1) := by decide +kernel
theorem dL_key_14 : decode cL_key 14 = .ok (.ireturn, 1) := by decide +kernel
theorem dL_key_15 : decode cL_key 15 = .ok (.iconst 0, 1) := by decide +kernel
theorem dL_key_16 : decode cL_key 16 = .ok (.ireturn, 1) := by decide +kernel
theorem dL_thing_0 : decode cL_thing 0 = .ok (.aload_n 3, 1) := by decide +kernel
theorem dL_thing_1 : decode cL_thing 1 = .ok (.iconst 0, 1) := by decide +kernel
theorem dL_thing_2 : decode cL_thing 2 = .ok (.aload_n 0, 1) := by decide +kernel
theorem dL_thing_3 : decode cL_thing 3 = .ok (.iload_n 1, 1) := by decide +kernel
theorem dL_thing_4 : decode cL_thing 4 = .ok (.iload_n 2, 1) := by decide +kernel
theorem dL_thing_5 : decode cL_thing 5 = .ok (.invokevirtual 27, 3) := by decide +kernel
theorem dL_thing_8 : decode cL_thing 8 = .ok (.i2l, 1) := by decide +kernel
theorem dL_thing_9 : decode cL_thing 9 = .ok (.lastore, 1) := by decide +kernel
theorem dL_thing_10 : decode cL_thing 10 = .ok (.goto 11, 3) := by decide +kernel
theorem dL_thing_13 : decode cL_thing 13 = .ok (.astore 4, 2) := by decide +kernel
theorem dL_thing_15 : decode cL_thing 15 = .ok (.iconst 1, 1) := by decide +kernel
theorem dL_thing_16 : decode cL_thing 16 = .ok (.ireturn, 1) := by decide +kernel
theorem dL_thing_17 : decode cL_thing 17 = .ok (.astore 4, 2) := by decide +kernel
theorem dL_thing_19 : decode cL_thing 19 = .ok (.iconst 2, 1) := by decide +kernel
theorem dL_thing_20 : decode cL_thing 20 = .ok (.ireturn, 1) := by decide +kernel
theorem dL_thing_21 : decode cL_thing 21 = .ok (.iconst 0, 1) := by decide +kernel
theorem dL_thing_22 : decode cL_thing 22 = .ok (.ireturn, 1) := by decide +kernel
theorem dL_top_0 : decode cL_top 0 = .ok (.aload_n 3, 1) := by decide +kernel
theorem dL_top_1 : decode cL_top 1 = .ok (.iconst 0, 1) := by decide +kernel
theorem dL_top_2 : decode cL_top 2 = .ok (.aload_n 0, 1) := by decide +kernel
theorem dL_top_3 : decode cL_top 3 = .ok (.iload_n 1, 1) := by decide +kernel
theorem dL_top_4 : decode cL_top 4 = .ok (.iload_n 2, 1) := by decide +kernel
theorem dL_top_5 : decode cL_top 5 = .ok (.invokevirtual 31, 3) := by decide +kernel
theorem dL_top_8 : decode cL_top 8 = .ok (.i2l, 1) := by decide +kernel
theorem dL_top_9 : decode cL_top 9 = .ok (.lastore, 1) := by decide +kernel
theorem dL_top_10 : decode cL_top 10 = .ok (.goto 7, 3) := by decide +kernel
theorem dL_top_13 : decode cL_top 13 = .ok (.astore 4, 2) := by decide +kernel
theorem dL_top_15 : decode cL_top 15 = .ok (.iconst 1, 1) := by decide +kernel
theorem dL_top_16 : decode cL_top 16 = .ok (.ireturn, 1) := by decide +kernel
theorem dL_top_17 : decode cL_top 17 = .ok (.iconst 0, 1) := by decide +kernel
theorem dL_top_18 : decode cL_top 18 = .ok (.ireturn, 1) := by decide +kernel
theorem dL_hole_0 : decode cL_hole 0 = .ok (.aload_n 2, 1) := by decide +kernel
theorem dL_hole_1 : decode cL_hole 1 = .ok (.iconst 0, 1) := by decide +kernel
theorem dL_hole_2 : decode cL_hole 2 = .ok (.aload_n 0, 1) := by decide +kernel
theorem dL_hole_3 : decode cL_hole 3 = .ok (.iload_n 1, 1) := by decide +kernel
theorem dL_hole_4 : decode cL_hole 4 = .ok (.invokevirtual 35, 3) := by decide +kernel
theorem dL_hole_7 : decode cL_hole 7 = .ok (.i2l, 1) := by decide +kernel
theorem dL_hole_8 : decode cL_hole 8 = .ok (.lastore, 1) := by decide +kernel
theorem dL_hole_9 : decode cL_hole 9 = .ok (.goto 9, 3) := by decide +kernel
theorem dL_hole_12 : decode cL_hole 12 = .ok (.astore_n 3, 1) := by decide +kernel
theorem dL_hole_13 : decode cL_hole 13 = .ok (.iconst 1, 1) := by decide +kernel
theorem dL_hole_14 : decode cL_hole 14 = .ok (.ireturn, 1) := by decide +kernel
theorem dL_hole_15 : decode cL_hole 15 = .ok (.astore_n 3, 1) := by decide +kernel
theorem dL_hole_16 : decode cL_hole 16 = .ok (.iconst 2, 1) := by decide +kernel
theorem dL_hole_17 : decode cL_hole 17 = .ok (.ireturn, 1) := by decide +kernel
theorem dL_hole_18 : decode cL_hole 18 = .ok (.iconst 0, 1) := by decide +kernel
theorem dL_hole_19 : decode cL_hole 19 = .ok (.ireturn, 1) := by decide +kernel
theorem dL_set_0 : decode cL_set 0 = .ok (.aload_n 3, 1) := by decide +kernel
theorem dL_set_1 : decode cL_set 1 = .ok (.iconst 0, 1) := by decide +kernel
theorem dL_set_2 : decode cL_set 2 = .ok (.aload_n 0, 1) := by decide +kernel
theorem dL_set_3 : decode cL_set 3 = .ok (.iload_n 1, 1) := by decide +kernel
theorem dL_set_4 : decode cL_set 4 = .ok (.iload_n 2, 1) := by decide +kernel
theorem dL_set_5 : decode cL_set 5 = .ok (.invokevirtual 38, 3) := by decide +kernel
theorem dL_set_8 : decode cL_set 8 = .ok (.i2l, 1) := by decide +kernel
theorem dL_set_9 : decode cL_set 9 = .ok (.lastore, 1) := by decide +kernel
theorem dL_set_10 : decode cL_set 10 = .ok (.goto 7, 3) := by decide +kernel
theorem dL_set_13 : decode cL_set 13 = .ok (.astore 4, 2) := by decide +kernel
theorem dL_set_15 : decode cL_set 15 = .ok (.iconst 1, 1) := by decide +kernel
theorem dL_set_16 : decode cL_set 16 = .ok (.ireturn, 1) := by decide +kernel
theorem dL_set_17 : decode cL_set 17 = .ok (.iconst 0, 1) := by decide +kernel
theorem dL_set_18 : decode cL_set 18 = .ok (.ireturn, 1) := by decide +kernel
set_option maxHeartbeats 4000000 in
set_option maxRecDepth 100000 in
theorem c_L_lay (l : Launch) (hls : l.stackTraces = false) (D : va_G) (K : Nat → ClassId) (b0 : Nat) (sa : sT) (sz : Nat) (LO : List Nat) (fO : Nat → va_E) (adO : Nat → Nat → Nat) (nO : Nat × Nat) (S0 : fS) (hw : PW K adO (isn nO) S0 LO fO) (hn : S0.2.2.1 = nO) (hprobe : 0 < nO.1) (p1 : Int32) (p2 : Int32) (p3 : Int32) (p4 : Int32) (o : Nat) (hmo : o ∈ LO) (hno : ∀ a i : Nat, isn nO a i → adO a i ≠ o) (g0 : Nat → Int64) (hfo : fO o = .inl (K 6, 1, .inr (.inl g0))) (ec : Nat) (hec : ec = 0 ∨ ec = 1 ∨ ec = 2) (v : Int32) (S1 : fS) (h : F_X6_lay p1 p2 p3 p4 S0 = some ((ec, v), S1)) : Met l yL_lay (.codeWith yL_lay cL_lay 7 (some .int) [(0, 14, 17, 13), (0, 14, 21, 15)] :: gt) { frames := 8, cells := 2, slots := 12, locals := 126 } (va_Pc [.ref (adO 0 0), .int p1, .int p2, .int p3, .int p4, .ref o] (hPre D K b0 sa sz LO fO)) (hQ D K b0 (fun v9 u9 => ∃ (ad2 : Nat → Nat → Nat) (L2 : List Nat) (f2 : Nat → va_E) (g : Nat → Int64), v9 = some (.int (if ec = 0 then 0 else if ec = 1 then 2 else 1)) ∧ u9 = lU L2 f2 ∧ PW K ad2 (isn S1.2.2.1) S1 L2 f2 ∧ Gr (fun b => b = o) (isn nO) adO LO fO (isn S1.2.2.1) ad2 L2 f2 ∧ (∀ a i : Nat, isn S1.2.2.1 a i → ad2 a i ≠ o) ∧ f2 o = .inl (K 6, 1, .inr (.inl g)) ∧ (ec = 0 → g 0 = v.toInt64))) 2 12 (fun q => b0 ≤ q) := by
  refine t_hof (own := RL) (by decide) rfl ?_ (Nat.le_of_ble_eq_true rfl)
  intro p e s m below meth c ls C w hsz hr hlk htb hl
  have hx := C.1
  have hb := C.2.1
  have hl : lv_has ls 7 [(0, .ref (adO 0 0)), (1, .int p1), (2, .int p2), (3, .int p3), (4, .int p4), (5, .ref o)] := hl
  refine lv_aload hx hb dL_lay_0 (lv_at hl 5 rfl) ?_
  refine lv_iconst (v := 0) hx hb dL_lay_2 (by decide) ?_
  refine lv_aload_n hx hb dL_lay_3 rfl (lv_at hl 0 rfl) ?_
  refine lv_iload_n hx hb dL_lay_4 rfl (lv_at hl 1 rfl) ?_
  refine lv_iload_n hx hb dL_lay_5 rfl (lv_at hl 2 rfl) ?_
  refine lv_iload_n hx hb dL_lay_6 rfl (lv_at hl 3 rfl) ?_
  refine lv_iload hx hb dL_lay_7 (lv_at hl 4 rfl) ?_
  refine u_xcallV (n := 4) C w hw (isn_f rfl rfl (by decide)) rfl rfl rfl (c_X6_lay l hls D K b0 sa _ LO fO adO (isn nO) (fun _ _ h => h) S0 hw hn p1 p2 p3 p4 ec v S1 h) gw_551 gw_548 gw_549 gw_550 gw_1 ⟨by decide, by decide, by decide +kernel⟩ rfl rfl ⟨by decide, by decide⟩ rfl hl.1 rfl (Nat.le_of_ble_eq_true rfl) dL_lay_9 ⟨Nat.le_of_ble_eq_true rfl, Nat.le_of_ble_eq_true rfl⟩ (fun E ce9 q9 u H locs hp w hcell hv0 hcl => ?_) (fun v9 u H locs hp w => ?_)
  · skip
    obtain ⟨⟨he, hE⟩, f2, rfl, hw2, hn2, hk1⟩ := hp
    have hG2 : Gr (fun b => b = o) (isn nO) adO LO fO (isn nO) adO LO f2 := Gr.rf.kp hk1
    have hmo2 := hmo
    have hno2 := hno
    have hfo2 := (hk1 o hmo hno).trans hfo
    have e2 : isn S1.2.2.1 = isn nO := by rw [hn2]
    rcases hec with hec | hec | hec
    · exact absurd hec he
    · subst hec
      have hE : E = "java/lang/IllegalArgumentException" := hE
      subst hE
      refine t_catch (own := RL) (name := "java/lang/IllegalArgumentException") (E := "java/lang/IllegalArgumentException") C.2.2.2.1 [⟨0, 14, 17, 13⟩] ⟨0, 14, 21, 15⟩ [] htb (fun z hz => by cases List.mem_singleton.mp hz; exact Or.inr ⟨by decide, "java/lang/IndexOutOfBoundsException", C.2.2.2.2 _ gw_546, hnc_iae_iob w⟩) (by decide) (by decide) (C.2.2.2.2 _ gw_547) (cst w cs_iae) hcell hv0 hcl ?_
      refine lv_astore (lv' := [(6, .ref q9), (0, .ref (adO 0 0)), (1, .int p1), (2, .int p2), (3, .int p3), (4, .int p4), (5, .ref o)]) hx hb dL_lay_21 hl (by decide) rfl (fun ls hl => ?_)
      refine lv_iconst (v := 2) hx hb dL_lay_23 (by decide) ?_
      refine t_iret C hr hlk w ⟨adO, LO, f2, g0, rfl, rfl, ?_, ?_, ?_, hfo2, fun z => absurd z (by decide)⟩ (by decide) (by decide) dL_lay_24
      · rw [e2]; exact hw2
      · rw [e2]; exact hG2
      · rw [e2]; exact hno2
    · subst hec
      have hE : E = "java/lang/IndexOutOfBoundsException" := hE
      subst hE
      refine t_catch (own := RL) (name := "java/lang/IndexOutOfBoundsException") (E := "java/lang/IndexOutOfBoundsException") C.2.2.2.1 [] ⟨0, 14, 17, 13⟩ [⟨0, 14, 21, 15⟩] htb (fun z hz => absurd hz List.not_mem_nil) (by decide) (by decide) (C.2.2.2.2 _ gw_546) (cst w cs_iob) hcell hv0 hcl ?_
      refine lv_astore (lv' := [(6, .ref q9), (0, .ref (adO 0 0)), (1, .int p1), (2, .int p2), (3, .int p3), (4, .int p4), (5, .ref o)]) hx hb dL_lay_17 hl (by decide) rfl (fun ls hl => ?_)
      refine lv_iconst (v := 1) hx hb dL_lay_19 (by decide) ?_
      refine t_iret C hr hlk w ⟨adO, LO, f2, g0, rfl, rfl, ?_, ?_, ?_, hfo2, fun z => absurd z (by decide)⟩ (by decide) (by decide) dL_lay_20
      · rw [e2]; exact hw2
      · rw [e2]; exact hG2
      · rw [e2]; exact hno2
  · obtain ⟨he, rfl, hp⟩ := hp
    have hp := And.intro trivial hp
    obtain ⟨-, f2, rfl, hw2, hn2, hk1⟩ := hp
    have hG2 : Gr (fun b => b = o) (isn nO) adO LO fO (isn nO) adO LO f2 := Gr.rf.kp hk1
    have hmo2 := hmo
    have hno2 := hno
    have hfo2 := (hk1 o hmo hno).trans hfo
    have e2 : isn S1.2.2.1 = isn nO := by rw [hn2]
    subst he
    refine lv_i2l (v := v.toInt64) hx hb dL_lay_12 rfl ?_
    refine g_last C w hmo2 hfo2 dL_lay_13 (fun f1 H locs w hg hk => ?_)
    obtain ⟨g1, hf1, hg1⟩ := hg
    refine lv_goto (tgt := 25) hx hb dL_lay_14 (by decide) ?_
    refine lv_iconst (v := 0) hx hb dL_lay_25 (by decide) ?_
    refine t_iret C hr hlk w ⟨adO, LO, f1, g1, rfl, rfl, ?_, ?_, ?_, hf1, fun _ => hg1⟩ (by decide) (by decide) dL_lay_26
    · rw [e2]; exact PW.kp hw2 (fun a i z => hk _ (hno2 a i z))
    · rw [e2]; exact hG2.put (fun _ => rfl) hk
    · rw [e2]; exact hno2
set_option maxHeartbeats 4000000 in
set_option maxRecDepth 100000 in
theorem c_L_wire (l : Launch) (hls : l.stackTraces = false) (D : va_G) (K : Nat → ClassId) (b0 : Nat) (sa : sT) (sz : Nat) (LO : List Nat) (fO : Nat → va_E) (adO : Nat → Nat → Nat) (nO : Nat × Nat) (S0 : fS) (hw : PW K adO (isn nO) S0 LO fO) (hn : S0.2.2.1 = nO) (hprobe : 0 < nO.1) (p1 : Int32) (p2 : Int32) (o : Nat) (hmo : o ∈ LO) (hno : ∀ a i : Nat, isn nO a i → adO a i ≠ o) (g0 : Nat → Int64) (hfo : fO o = .inl (K 6, 1, .inr (.inl g0))) (ec : Nat) (hec : ec = 0 ∨ ec = 3) (v : Int32) (S1 : fS) (h : F_X6_wire p1 p2 S0 = some ((ec, v), S1)) : Met l yL_wire (.codeWith yL_wire cL_wire 5 (some .int) [(0, 17, 20, 21)] :: gt) { frames := 8, cells := 1, slots := 6, locals := 126 } (va_Pc [.ref (adO 0 0), .int p1, .int p2, .ref o] (hPre D K b0 sa sz LO fO)) (hQ D K b0 (fun v9 u9 => ∃ (ad2 : Nat → Nat → Nat) (L2 : List Nat) (f2 : Nat → va_E) (g : Nat → Int64), v9 = some (.int (if ec = 0 then 0 else 1)) ∧ u9 = lU L2 f2 ∧ PW K ad2 (isn S1.2.2.1) S1 L2 f2 ∧ Gr (fun b => b = o) (isn nO) adO LO fO (isn S1.2.2.1) ad2 L2 f2 ∧ (∀ a i : Nat, isn S1.2.2.1 a i → ad2 a i ≠ o) ∧ f2 o = .inl (K 6, 1, .inr (.inl g)) ∧ (ec = 0 → g 0 = (if v = 0 then 0 else 1)))) 1 6 (fun q => b0 ≤ q) := by
  refine t_hof (own := RL) (by decide) rfl ?_ (Nat.le_of_ble_eq_true rfl)
  intro p e s m below meth c ls C w hsz hr hlk htb hl
  have hx := C.1
  have hb := C.2.1
  have hl : lv_has ls 5 [(0, .ref (adO 0 0)), (1, .int p1), (2, .int p2), (3, .ref o)] := hl
  refine lv_aload_n hx hb dL_wire_0 rfl (lv_at hl 3 rfl) ?_
  refine lv_iconst (v := 0) hx hb dL_wire_1 (by decide) ?_
  refine lv_aload_n hx hb dL_wire_2 rfl (lv_at hl 0 rfl) ?_
  refine lv_iload_n hx hb dL_wire_3 rfl (lv_at hl 1 rfl) ?_
  refine lv_iload_n hx hb dL_wire_4 rfl (lv_at hl 2 rfl) ?_
  refine u_xcallV (n := 2) C w hw (isn_f rfl rfl (by decide)) rfl rfl rfl (c_X6_wire l hls D K b0 sa _ LO fO adO (isn nO) (fun _ _ h => h) S0 hw hn p1 p2 ec v S1 h) gw_653 gw_650 gw_651 gw_652 gw_1 ⟨by decide, by decide, by decide +kernel⟩ rfl rfl ⟨by decide, by decide⟩ rfl hl.1 rfl (Nat.le_of_ble_eq_true rfl) dL_wire_5 ⟨Nat.le_of_ble_eq_true rfl, Nat.le_of_ble_eq_true rfl⟩ (fun E ce9 q9 u H locs hp w hcell hv0 hcl => ?_) (fun v9 u H locs hp w => ?_)
  · skip
    obtain ⟨⟨he, hE⟩, f2, rfl, hw2, hn2, hk1⟩ := hp
    have hG2 : Gr (fun b => b = o) (isn nO) adO LO fO (isn nO) adO LO f2 := Gr.rf.kp hk1
    have hmo2 := hmo
    have hno2 := hno
    have hfo2 := (hk1 o hmo hno).trans hfo
    have e2 : isn S1.2.2.1 = isn nO := by rw [hn2]
    rcases hec with hec | hec
    · exact absurd hec he
    · subst hec
      have hE : E = "java/util/NoSuchElementException" := hE
      subst hE
      refine t_catch (own := RL) (name := "java/util/NoSuchElementException") (E := "java/util/NoSuchElementException") C.2.2.2.1 [] ⟨0, 17, 20, 21⟩ [] htb (fun z hz => absurd hz List.not_mem_nil) (by decide) (by decide) (C.2.2.2.2 _ gw_649) (cst w cs_nse) hcell hv0 hcl ?_
      refine lv_astore (lv' := [(4, .ref q9), (0, .ref (adO 0 0)), (1, .int p1), (2, .int p2), (3, .ref o)]) hx hb dL_wire_20 hl (by decide) rfl (fun ls hl => ?_)
      refine lv_iconst (v := 1) hx hb dL_wire_22 (by decide) ?_
      refine t_iret C hr hlk w ⟨adO, LO, f2, g0, rfl, rfl, ?_, ?_, ?_, hfo2, fun z => absurd z (by decide)⟩ (by decide) (by decide) dL_wire_23
      · rw [e2]; exact hw2
      · rw [e2]; exact hG2
      · rw [e2]; exact hno2
  · obtain ⟨he, rfl, hp⟩ := hp
    have hp := And.intro trivial hp
    obtain ⟨-, f2, rfl, hw2, hn2, hk1⟩ := hp
    have hG2 : Gr (fun b => b = o) (isn nO) adO LO fO (isn nO) adO LO f2 := Gr.rf.kp hk1
    have hmo2 := hmo
    have hno2 := hno
    have hfo2 := (hk1 o hmo hno).trans hfo
    have e2 : isn S1.2.2.1 = isn nO := by rw [hn2]
    subst he
    refine lv_if_eq (tgt := 15) hx hb dL_wire_8 (by decide) (fun c0 => ?_) (fun c0 => ?_)
    · refine lv_lconst (v := 0) hx hb dL_wire_15 (by decide) ?_
      refine g_last C w hmo2 hfo2 dL_wire_16 (fun f1 H locs w hg hk => ?_)
      obtain ⟨g1, hf1, hg1⟩ := hg
      refine lv_goto (tgt := 24) hx hb dL_wire_17 (by decide) ?_
      refine lv_iconst (v := 0) hx hb dL_wire_24 (by decide) ?_
      refine t_iret C hr hlk w ⟨adO, LO, f1, g1, rfl, rfl, ?_, ?_, ?_, hf1, fun _ => (by rw [hg1, if_pos c0])⟩ (by decide) (by decide) dL_wire_25
      · rw [e2]; exact PW.kp hw2 (fun a i z => hk _ (hno2 a i z))
      · rw [e2]; exact hG2.put (fun _ => rfl) hk
      · rw [e2]; exact hno2
    · refine lv_lconst (v := 1) hx hb dL_wire_11 (by decide) ?_
      refine lv_goto (tgt := 16) hx hb dL_wire_12 (by decide) ?_
      refine g_last C w hmo2 hfo2 dL_wire_16 (fun f1 H locs w hg hk => ?_)
      obtain ⟨g1, hf1, hg1⟩ := hg
      refine lv_goto (tgt := 24) hx hb dL_wire_17 (by decide) ?_
      refine lv_iconst (v := 0) hx hb dL_wire_24 (by decide) ?_
      refine t_iret C hr hlk w ⟨adO, LO, f1, g1, rfl, rfl, ?_, ?_, ?_, hf1, fun _ => (by rw [hg1, if_neg c0])⟩ (by decide) (by decide) dL_wire_25
      · rw [e2]; exact PW.kp hw2 (fun a i z => hk _ (hno2 a i z))
      · rw [e2]; exact hG2.put (fun _ => rfl) hk
      · rw [e2]; exact hno2
set_option maxHeartbeats 4000000 in
set_option maxRecDepth 100000 in
theorem c_L_key (l : Launch) (hls : l.stackTraces = false) (D : va_G) (K : Nat → ClassId) (b0 : Nat) (sa : sT) (sz : Nat) (LO : List Nat) (fO : Nat → va_E) (adO : Nat → Nat → Nat) (nO : Nat × Nat) (S0 : fS) (hw : PW K adO (isn nO) S0 LO fO) (hn : S0.2.2.1 = nO) (hprobe : 0 < nO.1) (p1 : Int32) (o : Nat) (hmo : o ∈ LO) (hno : ∀ a i : Nat, isn nO a i → adO a i ≠ o) (g0 : Nat → Int64) (hfo : fO o = .inl (K 6, 1, .inr (.inl g0))) (ec : Nat) (hec : ec = 0 ∨ ec = 3) (v : Int32) (S1 : fS) (h : F_X6_key p1 S0 = some ((ec, v), S1)) : Met l yL_key (.codeWith yL_key cL_key 4 (some .int) [(0, 9, 12, 21)] :: gt) { frames := 8, cells := 1, slots := 6, locals := 124 } (va_Pc [.ref (adO 0 0), .int p1, .ref o] (hPre D K b0 sa sz LO fO)) (hQ D K b0 (fun v9 u9 => ∃ (ad2 : Nat → Nat → Nat) (L2 : List Nat) (f2 : Nat → va_E) (g : Nat → Int64), v9 = some (.int (if ec = 0 then 0 else 1)) ∧ u9 = lU L2 f2 ∧ PW K ad2 (isn S1.2.2.1) S1 L2 f2 ∧ Gr (fun b => b = o) (isn nO) adO LO fO (isn S1.2.2.1) ad2 L2 f2 ∧ (∀ a i : Nat, isn S1.2.2.1 a i → ad2 a i ≠ o) ∧ f2 o = .inl (K 6, 1, .inr (.inl g)) ∧ (ec = 0 → g 0 = v.toInt64))) 1 6 (fun q => b0 ≤ q) := by
  refine t_hof (own := RL) (by decide) rfl ?_ (Nat.le_of_ble_eq_true rfl)
  intro p e s m below meth c ls C w hsz hr hlk htb hl
  have hx := C.1
  have hb := C.2.1
  have hl : lv_has ls 4 [(0, .ref (adO 0 0)), (1, .int p1), (2, .ref o)] := hl
  refine lv_aload_n hx hb dL_key_0 rfl (lv_at hl 2 rfl) ?_
  refine lv_iconst (v := 0) hx hb dL_key_1 (by decide) ?_
  refine lv_aload_n hx hb dL_key_2 rfl (lv_at hl 0 rfl) ?_
  refine lv_iload_n hx hb dL_key_3 rfl (lv_at hl 1 rfl) ?_
  refine u_xcallV (n := 1) C w hw (isn_f rfl rfl (by decide)) rfl rfl rfl (c_X6_key l hls D K b0 sa _ LO fO adO (isn nO) (fun _ _ h => h) S0 hw hn p1 ec v S1 h) gw_679 gw_676 gw_677 gw_678 gw_1 ⟨by decide, by decide, by decide +kernel⟩ rfl rfl ⟨by decide, by decide⟩ rfl hl.1 rfl (Nat.le_of_ble_eq_true rfl) dL_key_4 ⟨Nat.le_of_ble_eq_true rfl, Nat.le_of_ble_eq_true rfl⟩ (fun E ce9 q9 u H locs hp w hcell hv0 hcl => ?_) (fun v9 u H locs hp w => ?_)
  · skip
    obtain ⟨⟨he, hE⟩, f2, rfl, hw2, hn2, hk1⟩ := hp
    have hG2 : Gr (fun b => b = o) (isn nO) adO LO fO (isn nO) adO LO f2 := Gr.rf.kp hk1
    have hmo2 := hmo
    have hno2 := hno
    have hfo2 := (hk1 o hmo hno).trans hfo
    have e2 : isn S1.2.2.1 = isn nO := by rw [hn2]
    rcases hec with hec | hec
    · exact absurd hec he
    · subst hec
      have hE : E = "java/util/NoSuchElementException" := hE
      subst hE
      refine t_catch (own := RL) (name := "java/util/NoSuchElementException") (E := "java/util/NoSuchElementException") C.2.2.2.1 [] ⟨0, 9, 12, 21⟩ [] htb (fun z hz => absurd hz List.not_mem_nil) (by decide) (by decide) (C.2.2.2.2 _ gw_649) (cst w cs_nse) hcell hv0 hcl ?_
      refine lv_astore_n (lv' := [(3, .ref q9), (0, .ref (adO 0 0)), (1, .int p1), (2, .ref o)]) hx hb dL_key_12 rfl hl (by decide) rfl (fun ls hl => ?_)
      refine lv_iconst (v := 1) hx hb dL_key_13 (by decide) ?_
      refine t_iret C hr hlk w ⟨adO, LO, f2, g0, rfl, rfl, ?_, ?_, ?_, hfo2, fun z => absurd z (by decide)⟩ (by decide) (by decide) dL_key_14
      · rw [e2]; exact hw2
      · rw [e2]; exact hG2
      · rw [e2]; exact hno2
  · obtain ⟨he, rfl, hp⟩ := hp
    have hp := And.intro trivial hp
    obtain ⟨-, f2, rfl, hw2, hn2, hk1⟩ := hp
    have hG2 : Gr (fun b => b = o) (isn nO) adO LO fO (isn nO) adO LO f2 := Gr.rf.kp hk1
    have hmo2 := hmo
    have hno2 := hno
    have hfo2 := (hk1 o hmo hno).trans hfo
    have e2 : isn S1.2.2.1 = isn nO := by rw [hn2]
    subst he
    refine lv_i2l (v := v.toInt64) hx hb dL_key_7 rfl ?_
    refine g_last C w hmo2 hfo2 dL_key_8 (fun f1 H locs w hg hk => ?_)
    obtain ⟨g1, hf1, hg1⟩ := hg
    refine lv_goto (tgt := 15) hx hb dL_key_9 (by decide) ?_
    refine lv_iconst (v := 0) hx hb dL_key_15 (by decide) ?_
    refine t_iret C hr hlk w ⟨adO, LO, f1, g1, rfl, rfl, ?_, ?_, ?_, hf1, fun _ => hg1⟩ (by decide) (by decide) dL_key_16
    · rw [e2]; exact PW.kp hw2 (fun a i z => hk _ (hno2 a i z))
    · rw [e2]; exact hG2.put (fun _ => rfl) hk
    · rw [e2]; exact hno2
set_option maxHeartbeats 4000000 in
set_option maxRecDepth 100000 in
theorem c_L_thing (l : Launch) (hls : l.stackTraces = false) (D : va_G) (K : Nat → ClassId) (b0 : Nat) (sa : sT) (sz : Nat) (LO : List Nat) (fO : Nat → va_E) (adO : Nat → Nat → Nat) (nO : Nat × Nat) (S0 : fS) (hw : PW K adO (isn nO) S0 LO fO) (hn : S0.2.2.1 = nO) (hprobe : 0 < nO.1) (p1 : Int32) (p2 : Int32) (o : Nat) (hmo : o ∈ LO) (hno : ∀ a i : Nat, isn nO a i → adO a i ≠ o) (g0 : Nat → Int64) (hfo : fO o = .inl (K 6, 1, .inr (.inl g0))) (ec : Nat) (hec : ec = 0 ∨ ec = 1 ∨ ec = 3) (v : Int32) (S1 : fS) (h : F_X6_thing p1 p2 S0 = some ((ec, v), S1)) : Met l yL_thing (.codeWith yL_thing cL_thing 5 (some .int) [(0, 10, 13, 21), (0, 10, 17, 15)] :: gt) { frames := 8, cells := 2, slots := 12, locals := 125 } (va_Pc [.ref (adO 0 0), .int p1, .int p2, .ref o] (hPre D K b0 sa sz LO fO)) (hQ D K b0 (fun v9 u9 => ∃ (ad2 : Nat → Nat → Nat) (L2 : List Nat) (f2 : Nat → va_E) (g : Nat → Int64), v9 = some (.int (if ec = 0 then 0 else if ec = 1 then 2 else 1)) ∧ u9 = lU L2 f2 ∧ PW K ad2 (isn S1.2.2.1) S1 L2 f2 ∧ Gr (fun b => b = o) (isn nO) adO LO fO (isn S1.2.2.1) ad2 L2 f2 ∧ (∀ a i : Nat, isn S1.2.2.1 a i → ad2 a i ≠ o) ∧ f2 o = .inl (K 6, 1, .inr (.inl g)) ∧ (ec = 0 → g 0 = v.toInt64))) 2 12 (fun q => b0 ≤ q) := by
  refine t_hof (own := RL) (by decide) rfl ?_ (Nat.le_of_ble_eq_true rfl)
  intro p e s m below meth c ls C w hsz hr hlk htb hl
  have hx := C.1
  have hb := C.2.1
  have hl : lv_has ls 5 [(0, .ref (adO 0 0)), (1, .int p1), (2, .int p2), (3, .ref o)] := hl
  refine lv_aload_n hx hb dL_thing_0 rfl (lv_at hl 3 rfl) ?_
  refine lv_iconst (v := 0) hx hb dL_thing_1 (by decide) ?_
  refine lv_aload_n hx hb dL_thing_2 rfl (lv_at hl 0 rfl) ?_
  refine lv_iload_n hx hb dL_thing_3 rfl (lv_at hl 1 rfl) ?_
  refine lv_iload_n hx hb dL_thing_4 rfl (lv_at hl 2 rfl) ?_
  refine u_xcallV (n := 2) C w hw (isn_f rfl rfl (by decide)) rfl rfl rfl (c_X6_thing l hls D K b0 sa _ LO fO adO (isn nO) (fun _ _ h => h) S0 hw hn p1 p2 ec v S1 h) gw_694 gw_691 gw_692 gw_693 gw_1 ⟨by decide, by decide, by decide +kernel⟩ rfl rfl ⟨by decide, by decide⟩ rfl hl.1 rfl (Nat.le_of_ble_eq_true rfl) dL_thing_5 ⟨Nat.le_of_ble_eq_true rfl, Nat.le_of_ble_eq_true rfl⟩ (fun E ce9 q9 u H locs hp w hcell hv0 hcl => ?_) (fun v9 u H locs hp w => ?_)
  · skip
    obtain ⟨⟨he, hE⟩, f2, rfl, hw2, hn2, hk1⟩ := hp
    have hG2 : Gr (fun b => b = o) (isn nO) adO LO fO (isn nO) adO LO f2 := Gr.rf.kp hk1
    have hmo2 := hmo
    have hno2 := hno
    have hfo2 := (hk1 o hmo hno).trans hfo
    have e2 : isn S1.2.2.1 = isn nO := by rw [hn2]
    rcases hec with hec | hec | hec
    · exact absurd hec he
    · subst hec
      have hE : E = "java/lang/IllegalArgumentException" := hE
      subst hE
      refine t_catch (own := RL) (name := "java/lang/IllegalArgumentException") (E := "java/lang/IllegalArgumentException") C.2.2.2.1 [⟨0, 10, 13, 21⟩] ⟨0, 10, 17, 15⟩ [] htb (fun z hz => by cases List.mem_singleton.mp hz; exact Or.inr ⟨by decide, "java/util/NoSuchElementException", C.2.2.2.2 _ gw_649, hnc_iae_nse w⟩) (by decide) (by decide) (C.2.2.2.2 _ gw_547) (cst w cs_iae) hcell hv0 hcl ?_
      refine lv_astore (lv' := [(4, .ref q9), (0, .ref (adO 0 0)), (1, .int p1), (2, .int p2), (3, .ref o)]) hx hb dL_thing_17 hl (by decide) rfl (fun ls hl => ?_)
      refine lv_iconst (v := 2) hx hb dL_thing_19 (by decide) ?_
      refine t_iret C hr hlk w ⟨adO, LO, f2, g0, rfl, rfl, ?_, ?_, ?_, hfo2, fun z => absurd z (by decide)⟩ (by decide) (by decide) dL_thing_20
      · rw [e2]; exact hw2
      · rw [e2]; exact hG2
      · rw [e2]; exact hno2
    · subst hec
      have hE : E = "java/util/NoSuchElementException" := hE
      subst hE
      refine t_catch (own := RL) (name := "java/util/NoSuchElementException") (E := "java/util/NoSuchElementException") C.2.2.2.1 [] ⟨0, 10, 13, 21⟩ [⟨0, 10, 17, 15⟩] htb (fun z hz => absurd hz List.not_mem_nil) (by decide) (by decide) (C.2.2.2.2 _ gw_649) (cst w cs_nse) hcell hv0 hcl ?_
      refine lv_astore (lv' := [(4, .ref q9), (0, .ref (adO 0 0)), (1, .int p1), (2, .int p2), (3, .ref o)]) hx hb dL_thing_13 hl (by decide) rfl (fun ls hl => ?_)
      refine lv_iconst (v := 1) hx hb dL_thing_15 (by decide) ?_
      refine t_iret C hr hlk w ⟨adO, LO, f2, g0, rfl, rfl, ?_, ?_, ?_, hfo2, fun z => absurd z (by decide)⟩ (by decide) (by decide) dL_thing_16
      · rw [e2]; exact hw2
      · rw [e2]; exact hG2
      · rw [e2]; exact hno2
  · obtain ⟨he, rfl, hp⟩ := hp
    have hp := And.intro trivial hp
    obtain ⟨-, f2, rfl, hw2, hn2, hk1⟩ := hp
    have hG2 : Gr (fun b => b = o) (isn nO) adO LO fO (isn nO) adO LO f2 := Gr.rf.kp hk1
    have hmo2 := hmo
    have hno2 := hno
    have hfo2 := (hk1 o hmo hno).trans hfo
    have e2 : isn S1.2.2.1 = isn nO := by rw [hn2]
    subst he
    refine lv_i2l (v := v.toInt64) hx hb dL_thing_8 rfl ?_
    refine g_last C w hmo2 hfo2 dL_thing_9 (fun f1 H locs w hg hk => ?_)
    obtain ⟨g1, hf1, hg1⟩ := hg
    refine lv_goto (tgt := 21) hx hb dL_thing_10 (by decide) ?_
    refine lv_iconst (v := 0) hx hb dL_thing_21 (by decide) ?_
    refine t_iret C hr hlk w ⟨adO, LO, f1, g1, rfl, rfl, ?_, ?_, ?_, hf1, fun _ => hg1⟩ (by decide) (by decide) dL_thing_22
    · rw [e2]; exact PW.kp hw2 (fun a i z => hk _ (hno2 a i z))
    · rw [e2]; exact hG2.put (fun _ => rfl) hk
    · rw [e2]; exact hno2
set_option maxHeartbeats 4000000 in
set_option maxRecDepth 100000 in
theorem c_L_top (l : Launch) (hls : l.stackTraces = false) (D : va_G) (K : Nat → ClassId) (b0 : Nat) (sa : sT) (sz : Nat) (LO : List Nat) (fO : Nat → va_E) (adO : Nat → Nat → Nat) (nO : Nat × Nat) (S0 : fS) (hw : PW K adO (isn nO) S0 LO fO) (hn : S0.2.2.1 = nO) (hprobe : 0 < nO.1) (p1 : Int32) (p2 : Int32) (o : Nat) (hmo : o ∈ LO) (hno : ∀ a i : Nat, isn nO a i → adO a i ≠ o) (g0 : Nat → Int64) (hfo : fO o = .inl (K 6, 1, .inr (.inl g0))) (ec : Nat) (hec : ec = 0 ∨ ec = 2) (v : Int32) (S1 : fS) (h : F_X6_top p1 p2 S0 = some ((ec, v), S1)) : Met l yL_top (.codeWith yL_top cL_top 5 (some .int) [(0, 10, 13, 13)] :: gt) { frames := 8, cells := 1, slots := 6, locals := 125 } (va_Pc [.ref (adO 0 0), .int p1, .int p2, .ref o] (hPre D K b0 sa sz LO fO)) (hQ D K b0 (fun v9 u9 => ∃ (ad2 : Nat → Nat → Nat) (L2 : List Nat) (f2 : Nat → va_E) (g : Nat → Int64), v9 = some (.int (if ec = 0 then 0 else 1)) ∧ u9 = lU L2 f2 ∧ PW K ad2 (isn S1.2.2.1) S1 L2 f2 ∧ Gr (fun b => b = o) (isn nO) adO LO fO (isn S1.2.2.1) ad2 L2 f2 ∧ (∀ a i : Nat, isn S1.2.2.1 a i → ad2 a i ≠ o) ∧ f2 o = .inl (K 6, 1, .inr (.inl g)) ∧ (ec = 0 → g 0 = v.toInt64))) 1 6 (fun q => b0 ≤ q) := by
  refine t_hof (own := RL) (by decide) rfl ?_ (Nat.le_of_ble_eq_true rfl)
  intro p e s m below meth c ls C w hsz hr hlk htb hl
  have hx := C.1
  have hb := C.2.1
  have hl : lv_has ls 5 [(0, .ref (adO 0 0)), (1, .int p1), (2, .int p2), (3, .ref o)] := hl
  refine lv_aload_n hx hb dL_top_0 rfl (lv_at hl 3 rfl) ?_
  refine lv_iconst (v := 0) hx hb dL_top_1 (by decide) ?_
  refine lv_aload_n hx hb dL_top_2 rfl (lv_at hl 0 rfl) ?_
  refine lv_iload_n hx hb dL_top_3 rfl (lv_at hl 1 rfl) ?_
  refine lv_iload_n hx hb dL_top_4 rfl (lv_at hl 2 rfl) ?_
  refine u_xcallV (n := 2) C w hw (isn_f rfl rfl (by decide)) rfl rfl rfl (c_X6_top l hls D K b0 sa _ LO fO adO (isn nO) (fun _ _ h => h) S0 hw hn p1 p2 ec v S1 h) gw_702 gw_699 gw_700 gw_701 gw_1 ⟨by decide, by decide, by decide +kernel⟩ rfl rfl ⟨by decide, by decide⟩ rfl hl.1 rfl (Nat.le_of_ble_eq_true rfl) dL_top_5 ⟨Nat.le_of_ble_eq_true rfl, Nat.le_of_ble_eq_true rfl⟩ (fun E ce9 q9 u H locs hp w hcell hv0 hcl => ?_) (fun v9 u H locs hp w => ?_)
  · skip
    obtain ⟨⟨he, hE⟩, f2, rfl, hw2, hn2, hk1⟩ := hp
    have hG2 : Gr (fun b => b = o) (isn nO) adO LO fO (isn nO) adO LO f2 := Gr.rf.kp hk1
    have hmo2 := hmo
    have hno2 := hno
    have hfo2 := (hk1 o hmo hno).trans hfo
    have e2 : isn S1.2.2.1 = isn nO := by rw [hn2]
    rcases hec with hec | hec
    · exact absurd hec he
    · subst hec
      have hE : E = "java/lang/IndexOutOfBoundsException" := hE
      subst hE
      refine t_catch (own := RL) (name := "java/lang/IndexOutOfBoundsException") (E := "java/lang/IndexOutOfBoundsException") C.2.2.2.1 [] ⟨0, 10, 13, 13⟩ [] htb (fun z hz => absurd hz List.not_mem_nil) (by decide) (by decide) (C.2.2.2.2 _ gw_546) (cst w cs_iob) hcell hv0 hcl ?_
      refine lv_astore (lv' := [(4, .ref q9), (0, .ref (adO 0 0)), (1, .int p1), (2, .int p2), (3, .ref o)]) hx hb dL_top_13 hl (by decide) rfl (fun ls hl => ?_)
      refine lv_iconst (v := 1) hx hb dL_top_15 (by decide) ?_
      refine t_iret C hr hlk w ⟨adO, LO, f2, g0, rfl, rfl, ?_, ?_, ?_, hfo2, fun z => absurd z (by decide)⟩ (by decide) (by decide) dL_top_16
      · rw [e2]; exact hw2
      · rw [e2]; exact hG2
      · rw [e2]; exact hno2
  · obtain ⟨he, rfl, hp⟩ := hp
    have hp := And.intro trivial hp
    obtain ⟨-, f2, rfl, hw2, hn2, hk1⟩ := hp
    have hG2 : Gr (fun b => b = o) (isn nO) adO LO fO (isn nO) adO LO f2 := Gr.rf.kp hk1
    have hmo2 := hmo
    have hno2 := hno
    have hfo2 := (hk1 o hmo hno).trans hfo
    have e2 : isn S1.2.2.1 = isn nO := by rw [hn2]
    subst he
    refine lv_i2l (v := v.toInt64) hx hb dL_top_8 rfl ?_
    refine g_last C w hmo2 hfo2 dL_top_9 (fun f1 H locs w hg hk => ?_)
    obtain ⟨g1, hf1, hg1⟩ := hg
    refine lv_goto (tgt := 17) hx hb dL_top_10 (by decide) ?_
    refine lv_iconst (v := 0) hx hb dL_top_17 (by decide) ?_
    refine t_iret C hr hlk w ⟨adO, LO, f1, g1, rfl, rfl, ?_, ?_, ?_, hf1, fun _ => hg1⟩ (by decide) (by decide) dL_top_18
    · rw [e2]; exact PW.kp hw2 (fun a i z => hk _ (hno2 a i z))
    · rw [e2]; exact hG2.put (fun _ => rfl) hk
    · rw [e2]; exact hno2
set_option maxHeartbeats 4000000 in
set_option maxRecDepth 100000 in
theorem c_L_hole (l : Launch) (hls : l.stackTraces = false) (D : va_G) (K : Nat → ClassId) (b0 : Nat) (sa : sT) (sz : Nat) (LO : List Nat) (fO : Nat → va_E) (adO : Nat → Nat → Nat) (nO : Nat × Nat) (S0 : fS) (hw : PW K adO (isn nO) S0 LO fO) (hn : S0.2.2.1 = nO) (hprobe : 0 < nO.1) (p1 : Int32) (o : Nat) (hmo : o ∈ LO) (hno : ∀ a i : Nat, isn nO a i → adO a i ≠ o) (g0 : Nat → Int64) (hfo : fO o = .inl (K 6, 1, .inr (.inl g0))) (ec : Nat) (hec : ec = 0 ∨ ec = 1 ∨ ec = 2) (v : Int32) (S1 : fS) (h : F_X6_hole p1 S0 = some ((ec, v), S1)) : Met l yL_hole (.codeWith yL_hole cL_hole 4 (some .int) [(0, 9, 12, 13), (0, 9, 15, 15)] :: gt) { frames := 8, cells := 2, slots := 12, locals := 124 } (va_Pc [.ref (adO 0 0), .int p1, .ref o] (hPre D K b0 sa sz LO fO)) (hQ D K b0 (fun v9 u9 => ∃ (ad2 : Nat → Nat → Nat) (L2 : List Nat) (f2 : Nat → va_E) (g : Nat → Int64), v9 = some (.int (if ec = 0 then 0 else if ec = 1 then 2 else 1)) ∧ u9 = lU L2 f2 ∧ PW K ad2 (isn S1.2.2.1) S1 L2 f2 ∧ Gr (fun b => b = o) (isn nO) adO LO fO (isn S1.2.2.1) ad2 L2 f2 ∧ (∀ a i : Nat, isn S1.2.2.1 a i → ad2 a i ≠ o) ∧ f2 o = .inl (K 6, 1, .inr (.inl g)) ∧ (ec = 0 → g 0 = v.toInt64))) 2 12 (fun q => b0 ≤ q) := by
  refine t_hof (own := RL) (by decide) rfl ?_ (Nat.le_of_ble_eq_true rfl)
  intro p e s m below meth c ls C w hsz hr hlk htb hl
  have hx := C.1
  have hb := C.2.1
  have hl : lv_has ls 4 [(0, .ref (adO 0 0)), (1, .int p1), (2, .ref o)] := hl
  refine lv_aload_n hx hb dL_hole_0 rfl (lv_at hl 2 rfl) ?_
  refine lv_iconst (v := 0) hx hb dL_hole_1 (by decide) ?_
  refine lv_aload_n hx hb dL_hole_2 rfl (lv_at hl 0 rfl) ?_
  refine lv_iload_n hx hb dL_hole_3 rfl (lv_at hl 1 rfl) ?_
  refine u_xcallV (n := 1) C w hw (isn_f rfl rfl (by decide)) rfl rfl rfl (c_X6_hole l hls D K b0 sa _ LO fO adO (isn nO) (fun _ _ h => h) S0 hw hn p1 ec v S1 h) gw_709 gw_706 gw_707 gw_708 gw_1 ⟨by decide, by decide, by decide +kernel⟩ rfl rfl ⟨by decide, by decide⟩ rfl hl.1 rfl (Nat.le_of_ble_eq_true rfl) dL_hole_4 ⟨Nat.le_of_ble_eq_true rfl, Nat.le_of_ble_eq_true rfl⟩ (fun E ce9 q9 u H locs hp w hcell hv0 hcl => ?_) (fun v9 u H locs hp w => ?_)
  · skip
    obtain ⟨⟨he, hE⟩, f2, rfl, hw2, hn2, hk1⟩ := hp
    have hG2 : Gr (fun b => b = o) (isn nO) adO LO fO (isn nO) adO LO f2 := Gr.rf.kp hk1
    have hmo2 := hmo
    have hno2 := hno
    have hfo2 := (hk1 o hmo hno).trans hfo
    have e2 : isn S1.2.2.1 = isn nO := by rw [hn2]
    rcases hec with hec | hec | hec
    · exact absurd hec he
    · subst hec
      have hE : E = "java/lang/IllegalArgumentException" := hE
      subst hE
      refine t_catch (own := RL) (name := "java/lang/IllegalArgumentException") (E := "java/lang/IllegalArgumentException") C.2.2.2.1 [⟨0, 9, 12, 13⟩] ⟨0, 9, 15, 15⟩ [] htb (fun z hz => by cases List.mem_singleton.mp hz; exact Or.inr ⟨by decide, "java/lang/IndexOutOfBoundsException", C.2.2.2.2 _ gw_546, hnc_iae_iob w⟩) (by decide) (by decide) (C.2.2.2.2 _ gw_547) (cst w cs_iae) hcell hv0 hcl ?_
      refine lv_astore_n (lv' := [(3, .ref q9), (0, .ref (adO 0 0)), (1, .int p1), (2, .ref o)]) hx hb dL_hole_15 rfl hl (by decide) rfl (fun ls hl => ?_)
      refine lv_iconst (v := 2) hx hb dL_hole_16 (by decide) ?_
      refine t_iret C hr hlk w ⟨adO, LO, f2, g0, rfl, rfl, ?_, ?_, ?_, hfo2, fun z => absurd z (by decide)⟩ (by decide) (by decide) dL_hole_17
      · rw [e2]; exact hw2
      · rw [e2]; exact hG2
      · rw [e2]; exact hno2
    · subst hec
      have hE : E = "java/lang/IndexOutOfBoundsException" := hE
      subst hE
      refine t_catch (own := RL) (name := "java/lang/IndexOutOfBoundsException") (E := "java/lang/IndexOutOfBoundsException") C.2.2.2.1 [] ⟨0, 9, 12, 13⟩ [⟨0, 9, 15, 15⟩] htb (fun z hz => absurd hz List.not_mem_nil) (by decide) (by decide) (C.2.2.2.2 _ gw_546) (cst w cs_iob) hcell hv0 hcl ?_
      refine lv_astore_n (lv' := [(3, .ref q9), (0, .ref (adO 0 0)), (1, .int p1), (2, .ref o)]) hx hb dL_hole_12 rfl hl (by decide) rfl (fun ls hl => ?_)
      refine lv_iconst (v := 1) hx hb dL_hole_13 (by decide) ?_
      refine t_iret C hr hlk w ⟨adO, LO, f2, g0, rfl, rfl, ?_, ?_, ?_, hfo2, fun z => absurd z (by decide)⟩ (by decide) (by decide) dL_hole_14
      · rw [e2]; exact hw2
      · rw [e2]; exact hG2
      · rw [e2]; exact hno2
  · obtain ⟨he, rfl, hp⟩ := hp
    have hp := And.intro trivial hp
    obtain ⟨-, f2, rfl, hw2, hn2, hk1⟩ := hp
    have hG2 : Gr (fun b => b = o) (isn nO) adO LO fO (isn nO) adO LO f2 := Gr.rf.kp hk1
    have hmo2 := hmo
    have hno2 := hno
    have hfo2 := (hk1 o hmo hno).trans hfo
    have e2 : isn S1.2.2.1 = isn nO := by rw [hn2]
    subst he
    refine lv_i2l (v := v.toInt64) hx hb dL_hole_7 rfl ?_
    refine g_last C w hmo2 hfo2 dL_hole_8 (fun f1 H locs w hg hk => ?_)
    obtain ⟨g1, hf1, hg1⟩ := hg
    refine lv_goto (tgt := 18) hx hb dL_hole_9 (by decide) ?_
    refine lv_iconst (v := 0) hx hb dL_hole_18 (by decide) ?_
    refine t_iret C hr hlk w ⟨adO, LO, f1, g1, rfl, rfl, ?_, ?_, ?_, hf1, fun _ => hg1⟩ (by decide) (by decide) dL_hole_19
    · rw [e2]; exact PW.kp hw2 (fun a i z => hk _ (hno2 a i z))
    · rw [e2]; exact hG2.put (fun _ => rfl) hk
    · rw [e2]; exact hno2
set_option maxHeartbeats 4000000 in
set_option maxRecDepth 100000 in
theorem c_L_set (l : Launch) (hls : l.stackTraces = false) (D : va_G) (K : Nat → ClassId) (b0 : Nat) (sa : sT) (sz : Nat) (LO : List Nat) (fO : Nat → va_E) (adO : Nat → Nat → Nat) (nO : Nat × Nat) (S0 : fS) (hw : PW K adO (isn nO) S0 LO fO) (hn : S0.2.2.1 = nO) (hprobe : 0 < nO.1) (p1 : Int32) (p2 : Int32) (o : Nat) (hmo : o ∈ LO) (hno : ∀ a i : Nat, isn nO a i → adO a i ≠ o) (g0 : Nat → Int64) (hfo : fO o = .inl (K 6, 1, .inr (.inl g0))) (ec : Nat) (hec : ec = 0 ∨ ec = 1) (v : Int32) (S1 : fS) (h : F_X6_set p1 p2 S0 = some ((ec, v), S1)) : Met l yL_set (.codeWith yL_set cL_set 5 (some .int) [(0, 10, 13, 15)] :: gt) { frames := 8, cells := 2, slots := 12, locals := 125 } (va_Pc [.ref (adO 0 0), .int p1, .int p2, .ref o] (hPre D K b0 sa sz LO fO)) (hQ D K b0 (fun v9 u9 => ∃ (ad2 : Nat → Nat → Nat) (L2 : List Nat) (f2 : Nat → va_E) (g : Nat → Int64), v9 = some (.int (if ec = 0 then 0 else 1)) ∧ u9 = lU L2 f2 ∧ PW K ad2 (isn S1.2.2.1) S1 L2 f2 ∧ Gr (fun b => b = o) (isn nO) adO LO fO (isn S1.2.2.1) ad2 L2 f2 ∧ (∀ a i : Nat, isn S1.2.2.1 a i → ad2 a i ≠ o) ∧ f2 o = .inl (K 6, 1, .inr (.inl g)) ∧ (ec = 0 → g 0 = v.toInt64))) 2 12 (fun q => b0 ≤ q) := by
  refine t_hof (own := RL) (by decide) rfl ?_ (Nat.le_of_ble_eq_true rfl)
  intro p e s m below meth c ls C w hsz hr hlk htb hl
  have hx := C.1
  have hb := C.2.1
  have hl : lv_has ls 5 [(0, .ref (adO 0 0)), (1, .int p1), (2, .int p2), (3, .ref o)] := hl
  refine lv_aload_n hx hb dL_set_0 rfl (lv_at hl 3 rfl) ?_
  refine lv_iconst (v := 0) hx hb dL_set_1 (by decide) ?_
  refine lv_aload_n hx hb dL_set_2 rfl (lv_at hl 0 rfl) ?_
  refine lv_iload_n hx hb dL_set_3 rfl (lv_at hl 1 rfl) ?_
  refine lv_iload_n hx hb dL_set_4 rfl (lv_at hl 2 rfl) ?_
  refine u_xcallV (n := 2) C w hw (isn_f rfl rfl (by decide)) rfl rfl rfl (c_X6_set l hls D K b0 sa _ LO fO adO (isn nO) (fun _ _ h => h) S0 hw hn p1 p2 ec v S1 h) gw_716 gw_713 gw_714 gw_715 gw_1 ⟨by decide, by decide, by decide +kernel⟩ rfl rfl ⟨by decide, by decide⟩ rfl hl.1 rfl (Nat.le_of_ble_eq_true rfl) dL_set_5 ⟨Nat.le_of_ble_eq_true rfl, Nat.le_of_ble_eq_true rfl⟩ (fun E ce9 q9 u H locs hp w hcell hv0 hcl => ?_) (fun v9 u H locs hp w => ?_)
  · skip
    obtain ⟨⟨he, hE⟩, f2, rfl, hw2, hn2, hk1⟩ := hp
    have hG2 : Gr (fun b => b = o) (isn nO) adO LO fO (isn nO) adO LO f2 := Gr.rf.kp hk1
    have hmo2 := hmo
    have hno2 := hno
    have hfo2 := (hk1 o hmo hno).trans hfo
    have e2 : isn S1.2.2.1 = isn nO := by rw [hn2]
    rcases hec with hec | hec
    · exact absurd hec he
    · subst hec
      have hE : E = "java/lang/IllegalArgumentException" := hE
      subst hE
      refine t_catch (own := RL) (name := "java/lang/IllegalArgumentException") (E := "java/lang/IllegalArgumentException") C.2.2.2.1 [] ⟨0, 10, 13, 15⟩ [] htb (fun z hz => absurd hz List.not_mem_nil) (by decide) (by decide) (C.2.2.2.2 _ gw_547) (cst w cs_iae) hcell hv0 hcl ?_
      refine lv_astore (lv' := [(4, .ref q9), (0, .ref (adO 0 0)), (1, .int p1), (2, .int p2), (3, .ref o)]) hx hb dL_set_13 hl (by decide) rfl (fun ls hl => ?_)
      refine lv_iconst (v := 1) hx hb dL_set_15 (by decide) ?_
      refine t_iret C hr hlk w ⟨adO, LO, f2, g0, rfl, rfl, ?_, ?_, ?_, hfo2, fun z => absurd z (by decide)⟩ (by decide) (by decide) dL_set_16
      · rw [e2]; exact hw2
      · rw [e2]; exact hG2
      · rw [e2]; exact hno2
  · obtain ⟨he, rfl, hp⟩ := hp
    have hp := And.intro trivial hp
    obtain ⟨-, f2, rfl, hw2, hn2, hk1⟩ := hp
    have hG2 : Gr (fun b => b = o) (isn nO) adO LO fO (isn nO) adO LO f2 := Gr.rf.kp hk1
    have hmo2 := hmo
    have hno2 := hno
    have hfo2 := (hk1 o hmo hno).trans hfo
    have e2 : isn S1.2.2.1 = isn nO := by rw [hn2]
    subst he
    refine lv_i2l (v := v.toInt64) hx hb dL_set_8 rfl ?_
    refine g_last C w hmo2 hfo2 dL_set_9 (fun f1 H locs w hg hk => ?_)
    obtain ⟨g1, hf1, hg1⟩ := hg
    refine lv_goto (tgt := 17) hx hb dL_set_10 (by decide) ?_
    refine lv_iconst (v := 0) hx hb dL_set_17 (by decide) ?_
    refine t_iret C hr hlk w ⟨adO, LO, f1, g1, rfl, rfl, ?_, ?_, ?_, hf1, fun _ => hg1⟩ (by decide) (by decide) dL_set_18
    · rw [e2]; exact PW.kp hw2 (fun a i z => hk _ (hno2 a i z))
    · rw [e2]; exact hG2.put (fun _ => rfl) hk
    · rw [e2]; exact hno2
