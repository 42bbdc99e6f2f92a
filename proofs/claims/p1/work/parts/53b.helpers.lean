theorem dL_program_0 : decode cL_program 0 = .ok (.aload_n 3, 1) := by decide +kernel
theorem dL_program_1 : decode cL_program 1 = .ok (.iconst 0, 1) := by decide +kernel
theorem dL_program_2 : decode cL_program 2 = .ok (.aload_n 0, 1) := by decide +kernel
theorem dL_program_3 : decode cL_program 3 = .ok (.iload_n 1, 1) := by decide +kernel
theorem dL_program_4 : decode cL_program 4 = .ok (.iload_n 2, 1) := by decide +kernel
theorem dL_program_5 : decode cL_program 5 = .ok (.invokevirtual 41, 3) := by decide +kernel
theorem dL_program_8 : decode cL_program 8 = .ok (.i2l, 1) := by decide +kernel
theorem dL_program_9 : decode cL_program 9 = .ok (.lastore, 1) := by decide +kernel
theorem dL_program_10 : decode cL_program 10 = .ok (.goto 7, 3) := by decide +kernel
theorem dL_program_13 : decode cL_program 13 = .ok (.astore 4, 2) := by decide +kernel
theorem dL_program_15 : decode cL_program 15 = .ok (.iconst 1, 1) := by decide +kernel
theorem dL_program_16 : decode cL_program 16 = .ok (.ireturn, 1) := by decide +kernel
theorem dL_program_17 : decode cL_program 17 = .ok (.iconst 0, 1) := by decide +kernel
theorem dL_program_18 : decode cL_program 18 = .ok (.ireturn, 1) := by decide +kernel
theorem dL_force_0 : decode cL_force 0 = .ok (.aload_n 2, 1) := by decide +kernel
theorem dL_force_1 : decode cL_force 1 = .ok (.iconst 0, 1) := by decide +kernel
theorem dL_force_2 : decode cL_force 2 = .ok (.aload_n 0, 1) := by decide +kernel
theorem dL_force_3 : decode cL_force 3 = .ok (.iload_n 1, 1) := by decide +kernel
theorem dL_force_4 : decode cL_force 4 = .ok (.invokevirtual 44, 3) := by decide +kernel
theorem dL_force_7 : decode cL_force 7 = .ok (.i2l, 1) := by decide +kernel
theorem dL_force_8 : decode cL_force 8 = .ok (.lastore, 1) := by decide +kernel
theorem dL_force_9 : decode cL_force 9 = .ok (.goto 6, 3) := by decide +kernel
theorem dL_force_12 : decode cL_force 12 = .ok (.astore_n 3, 1) := by decide +kernel
theorem dL_force_13 : decode cL_force 13 = .ok (.iconst 1, 1) := by decide +kernel
theorem dL_force_14 : decode cL_force 14 = .ok (.ireturn, 1) := by decide +kernel
theorem dL_force_15 : decode cL_force 15 = .ok (.iconst 0, 1) := by decide +kernel
theorem dL_force_16 : decode cL_force 16 = .ok (.ireturn, 1) := by decide +kernel
theorem dL_tells_0 : decode cL_tells 0 = .ok (.aload_n 3, 1) := by decide +kernel
theorem dL_tells_1 : decode cL_tells 1 = .ok (.iconst 0, 1) := by decide +kernel
theorem dL_tells_2 : decode cL_tells 2 = .ok (.aload_n 0, 1) := by decide +kernel
theorem dL_tells_3 : decode cL_tells 3 = .ok (.iload_n 1, 1) := by decide +kernel
theorem dL_tells_4 : decode cL_tells 4 = .ok (.iload_n 2, 1) := by decide +kernel
theorem dL_tells_5 : decode cL_tells 5 = .ok (.invokevirtual 47, 3) := by decide +kernel
theorem dL_tells_8 : decode cL_tells 8 = .ok (.i2l, 1) := by decide +kernel
theorem dL_tells_9 : decode cL_tells 9 = .ok (.lastore, 1) := by decide +kernel
theorem dL_tells_10 : decode cL_tells 10 = .ok (.goto 7, 3) := by decide +kernel
theorem dL_tells_13 : decode cL_tells 13 = .ok (.astore 4, 2) := by decide +kernel
theorem dL_tells_15 : decode cL_tells 15 = .ok (.iconst 1, 1) := by decide +kernel
theorem dL_tells_16 : decode cL_tells 16 = .ok (.ireturn, 1) := by decide +kernel
theorem dL_tells_17 : decode cL_tells 17 = .ok (.iconst 0, 1) := by decide +kernel
theorem dL_tells_18 : decode cL_tells 18 = .ok (.ireturn, 1) := by decide +kernel
theorem dL_attempt_0 : decode cL_attempt 0 = .ok (.aload_n 2, 1) := by decide +kernel
theorem dL_attempt_1 : decode cL_attempt 1 = .ok (.iconst 0, 1) := by decide +kernel
theorem dL_attempt_2 : decode cL_attempt 2 = .ok (.aload_n 0, 1) := by decide +kernel
theorem dL_attempt_3 : decode cL_attempt 3 = .ok (.iload_n 1, 1) := by decide +kernel
theorem dL_attempt_4 : decode cL_attempt 4 = .ok (.invokevirtual 50, 3) := by decide +kernel
theorem dL_attempt_7 : decode cL_attempt 7 = .ok (.i2l, 1) := by decide +kernel
theorem dL_attempt_8 : decode cL_attempt 8 = .ok (.lastore, 1) := by decide +kernel
theorem dL_attempt_9 : decode cL_attempt 9 = .ok (.goto 6, 3) := by decide +kernel
theorem dL_attempt_12 : decode cL_attempt 12 = .ok (.astore_n 3, 1) := by decide +kernel
theorem dL_attempt_13 : decode cL_attempt 13 = .ok (.iconst 1, 1) := by decide +kernel
theorem dL_attempt_14 : decode cL_attempt 14 = .ok (.ireturn, 1) := by decide +kernel
theorem dL_attempt_15 : decode cL_attempt 15 = .ok (.iconst 0, 1) := by decide +kernel
theorem dL_attempt_16 : decode cL_attempt 16 = .ok (.ireturn, 1) := by decide +kernel
theorem dL_record_0 : decode cL_record 0 = .ok (.aload_n 3, 1) := by decide +kernel
theorem dL_record_1 : decode cL_record 1 = .ok (.iconst 0, 1) := by decide +kernel
theorem dL_record_2 : decode cL_record 2 = .ok (.aload_n 0, 1) := by decide +kernel
theorem dL_record_3 : decode cL_record 3 = .ok (.iload_n 1, 1) := by decide +kernel
theorem dL_record_4 : decode cL_record 4 = .ok (.iload_n 2, 1) := by decide +kernel
theorem dL_record_5 : decode cL_record 5 = .ok (.invokevirtual 53, 3) := by decide +kernel
theorem dL_record_8 : decode cL_record 8 = .ok (.i2l, 1) := by decide +kernel
theorem dL_record_9 : decode cL_record 9 = .ok (.lastore, 1) := by decide +kernel
theorem dL_record_10 : decode cL_record 10 = .ok (.goto 11, 3) := by decide +kernel
theorem dL_record_13 : decode cL_record 13 = .ok (.astore 4, 2) := by decide +kernel
theorem dL_record_15 : decode cL_record 15 = .ok (.iconst 1, 1) := by decide +kernel
theorem dL_record_16 : decode cL_record 16 = .ok (.ireturn, 1) := by decide +kernel
theorem dL_record_17 : decode cL_record 17 = .ok (.astore 4, 2) := by decide +kernel
theorem dL_record_19 : decode cL_record 19 = .ok (.iconst 2, 1) := by decide +kernel
theorem dL_record_20 : decode cL_record 20 = .ok (.ireturn, 1) := by decide +kernel
theorem dL_record_21 : decode cL_record 21 = .ok (.iconst 0, 1) := by decide +kernel
theorem dL_record_22 : decode cL_record 22 = .ok (.ireturn, 1) := by decide +kernel
theorem dL_hand_0 : decode cL_hand 0 = .ok (.aload_n 2, 1) := by decide +kernel
theorem dL_hand_1 : decode cL_hand 1 = .ok (.iconst 0, 1) := by decide +kernel
theorem dL_hand_2 : decode cL_hand 2 = .ok (.aload_n 0, 1) := by decide +kernel
theorem dL_hand_3 : decode cL_hand 3 = .ok (.iload_n 1, 1) := by decide +kernel
theorem dL_hand_4 : decode cL_hand 4 = .ok (.invokevirtual 56, 3) := by decide +kernel
theorem dL_hand_7 : decode cL_hand 7 = .ok (.i2l, 1) := by decide +kernel
theorem dL_hand_8 : decode cL_hand 8 = .ok (.lastore, 1) := by decide +kernel
theorem dL_hand_9 : decode cL_hand 9 = .ok (.goto 6, 3) := by decide +kernel
theorem dL_hand_12 : decode cL_hand 12 = .ok (.astore_n 3, 1) := by decide +kernel
theorem dL_hand_13 : decode cL_hand 13 = .ok (.iconst 1, 1) := by decide +kernel
theorem dL_hand_14 : decode cL_hand 14 = .ok (.ireturn, 1) := by decide +kernel
theorem dL_hand_15 : decode cL_hand 15 = .ok (.iconst 0, 1) := by decide +kernel
theorem dL_hand_16 : decode cL_hand 16 = .ok (.ireturn, 1) := by decide +kernel
theorem dL_play_0 : decode cL_play 0 = .ok (.aload_n 3, 1) := by decide +kernel
theorem dL_play_1 : decode cL_play 1 = .ok (.iconst 0, 1) := by decide +kernel
theorem dL_play_2 : decode cL_play 2 = .ok (.aload_n 0, 1) := by decide +kernel
theorem dL_play_3 : decode cL_play 3 = .ok (.iload_n 1, 1) := by decide +kernel
theorem dL_play_4 : decode cL_play 4 = .ok (.iload_n 2, 1) := by decide +kernel
theorem dL_play_5 : decode cL_play 5 = .ok (.invokevirtual 59, 3) := by decide +kernel
theorem dL_play_8 : decode cL_play 8 = .ok (.i2l, 1) := by decide +kernel
theorem dL_play_9 : decode cL_play 9 = .ok (.lastore, 1) := by decide +kernel
theorem dL_play_10 : decode cL_play 10 = .ok (.goto 11, 3) := by decide +kernel
theorem dL_play_13 : decode cL_play 13 = .ok (.astore 4, 2) := by decide +kernel
theorem dL_play_15 : decode cL_play 15 = .ok (.iconst 1, 1) := by decide +kernel
theorem dL_play_16 : decode cL_play 16 = .ok (.ireturn, 1) := by decide +kernel
theorem dL_play_17 : decode cL_play 17 = .ok (.astore 4, 2) := by decide +kernel
theorem dL_play_19 : decode cL_play 19 = .ok (.iconst 2, 1) := by decide +kernel
theorem dL_play_20 : decode cL_play 20 = .ok (.ireturn, 1) := by decide +kernel
theorem dL_play_21 : decode cL_play 21 = .ok (.iconst 0, 1) := by decide +kernel
theorem dL_play_22 : decode cL_play 22 = .ok (.ireturn, 1) := by decide +kernel
set_option maxHeartbeats 4000000 in
set_option maxRecDepth 100000 in
theorem c_L_program (l : Launch) (hls : l.stackTraces = false) (D : va_G) (K : Nat → ClassId) (b0 : Nat) (sa : Nat × Nat × Nat) (sz : Nat) (L : List Nat) (f0 : Nat → va_E) (Ψ : Nat → Nat) (hT : TW K (gof gX1) Ψ L f0) (x : Nat) (hm_x : x ∈ L) (ht_x : Ψ x = 6) (n : Int32) (la : Int32) (hl_la : 0 ≤ la.toInt) (hh_la : la.toInt ≤ 1) (z4 : Nat) (hno_4 : No (fun b => b = z4) 4 Ψ L) (hu_6 : ∀ b c : Nat, b ∈ L → c ∈ L → Ψ b = 6 → Ψ c = 6 → b = c) (o : Nat) (hm_o : o ∈ L) (ht_o : Ψ o = 9) (g0 : Nat → Int64) (hf_o : f0 o = .inl (K 6, 1, .inr (.inl g0))) : Met l yL_program (.codeWith yL_program cL_program 5 (some .int) [(0, 10, 13, 15)] :: gt) { frames := 8, cells := 3, slots := 7, locals := 167 } (va_Pc [.ref x, .int n, .int la, .ref o] (hPre D K b0 sa sz L f0)) (hQ D K b0 (fun v9 u9 => ∃ (r : Int32) (Ψ2 : Nat → Nat) (L2 : List Nat) (f2 : Nat → va_E) (g : Nat → Int64), v9 = some (.int r) ∧ u9 = (gof gM0, Ψ2, L2, f2) ∧ TW K (gof gM0) Ψ2 L2 f2 ∧ Ex [9, 1, 17] (fun q9 => q9 = o) Ψ L f0 Ψ2 L2 f2 ∧ Ψ2 o = 9 ∧ f2 o = .inl (K 6, 1, .inr (.inl g)) ∧ ((r = 0 ∧ ∃ v : Int32, g 0 = v.toInt64 ∧ ((v = 0 ∧ (n.toInt = 0) ∧ (la.toInt = 0)) ∨ (v = (-9) ∧ (n.toInt = 0) ∧ (la.toInt = 1)))) ∨ (r = 1 ∧ (¬ n.toInt = 0))))) 3 7 (fun q => b0 ≤ q) := by
  refine t_hof (own := RL) (by decide) rfl ?_ (Nat.le_of_ble_eq_true rfl)
  intro p e s m below meth c ls C w hsz hr hlk htb hl
  have hx := C.1
  have hb := C.2.1
  have hl : lv_has ls 5 [(0, .ref x), (1, .int n), (2, .int la), (3, .ref o)] := hl
  refine lv_aload_n hx hb dL_program_0 rfl (lv_at hl 3 rfl) ?_
  refine lv_iconst (v := 0) hx hb dL_program_1 (by decide) ?_
  refine lv_aload_n hx hb dL_program_2 rfl (lv_at hl 0 rfl) ?_
  refine lv_iload_n hx hb dL_program_3 rfl (lv_at hl 1 rfl) ?_
  refine lv_iload_n hx hb dL_program_4 rfl (lv_at hl 2 rfl) ?_
  refine t_xcallV (n := 2) C w hT hm_x ht_x (by decide) rfl rfl (c_X6_program l hls D K b0 sa _ L _ Ψ hT x hm_x ht_x n la hl_la hh_la z4 hno_4 hu_6) gw_723 gw_720 gw_721 gw_722 gw_1 ⟨by decide, by decide, by decide +kernel⟩ rfl rfl ⟨by decide, by decide⟩ rfl hl.1 rfl (Nat.le_of_ble_eq_true rfl) dL_program_5 ⟨by decide, by decide⟩ (fun E ce9 q9 u H locs hp w hcell hv0 hcl => ?_) (fun v9 u H locs hp w => ?_)
  · obtain ⟨f2, rfl, hT2, hR1, hpx⟩ := hp
    obtain ⟨rfl, hx0⟩ := hpx
    refine t_catch (own := RL) (name := "java/lang/IllegalArgumentException") (E := "java/lang/IllegalArgumentException") C.2.2.2.1 [] ⟨0, 10, 13, 15⟩ [] htb (fun z hz => absurd hz List.not_mem_nil) (by decide) (by decide) (C.2.2.2.2 _ gw_547) (cst w cs_iae) hcell hv0 hcl ?_
    refine lv_astore (lv' := [(4, .ref q9), (0, .ref x), (1, .int n), (2, .int la), (3, .ref o)]) hx hb dL_program_13 hl (by decide) rfl (fun ls hl => ?_)
    refine lv_iconst (v := 1) hx hb dL_program_15 (by decide) ?_
    exact t_iret C hr hlk w ⟨_, Ψ, L, f2, g0, rfl, rfl, hT2, Ex.rf.up hR1, ht_o, (hR1 o hm_o ht_o).trans hf_o, Or.inr (⟨rfl, hx0⟩)⟩ (by decide) (by decide) dL_program_16
  · obtain ⟨r, Ψ2, L2, f2, rfl, rfl, hT2, hE2, hr0⟩ := hp
    have hE : Ex [9, 1, 17] (fun q9 => q9 = o) Ψ L f0 Ψ2 L2 f2 := Ex.rf.tr hE2 (fun t h => h) (fun b e9 => e9.elim) (fun b e9 => e9.elim)
    have hsp := hE2.sp hm_o (fun e9 => e9)
    have hf_o := (hsp.2.2 ht_o).trans hf_o
    have ht_o := hsp.2.1.trans ht_o
    have hm_o2 := hsp.1
    refine lv_i2l (v := r.toInt64) hx hb dL_program_8 rfl ?_
    refine t_lastR C w hT2 hm_o2 ht_o hf_o dL_program_9 (fun f1 H locs w hT1 hg hk => ?_)
    obtain ⟨g1, hf1, hg1⟩ := hg
    refine lv_goto (tgt := 17) hx hb dL_program_10 (by decide) ?_
    refine lv_iconst (v := 0) hx hb dL_program_17 (by decide) ?_
    exact t_iret C hr hlk w ⟨_, _, _, f1, g1, rfl, rfl, hT1, hE.raw2 (fun _ => rfl) hk, ht_o, hf1, Or.inl (⟨rfl, r, hg1, hr0⟩)⟩ (by decide) (by decide) dL_program_18
set_option maxHeartbeats 4000000 in
set_option maxRecDepth 100000 in
theorem c_L_force (l : Launch) (hls : l.stackTraces = false) (D : va_G) (K : Nat → ClassId) (b0 : Nat) (sa : Nat × Nat × Nat) (sz : Nat) (L : List Nat) (f0 : Nat → va_E) (Ψ : Nat → Nat) (hT : TW K (gof gX1) Ψ L f0) (x : Nat) (hm_x : x ∈ L) (ht_x : Ψ x = 6) (pr : Int32) (o : Nat) (hm_o : o ∈ L) (ht_o : Ψ o = 9) (g0 : Nat → Int64) (hf_o : f0 o = .inl (K 6, 1, .inr (.inl g0))) : Met l yL_force (.codeWith yL_force cL_force 4 (some .int) [(0, 9, 12, 15)] :: gt) { frames := 8, cells := 1, slots := 6, locals := 124 } (va_Pc [.ref x, .int pr, .ref o] (hPre D K b0 sa sz L f0)) (hQ D K b0 (fun v9 u9 => ∃ (r : Int32) (Ψ2 : Nat → Nat) (L2 : List Nat) (f2 : Nat → va_E) (g : Nat → Int64), v9 = some (.int r) ∧ u9 = (gof gM0, Ψ2, L2, f2) ∧ TW K (gof gM0) Ψ2 L2 f2 ∧ Ex ([] : List Nat) (fun q9 => q9 = o) Ψ L f0 Ψ2 L2 f2 ∧ Ψ2 o = 9 ∧ f2 o = .inl (K 6, 1, .inr (.inl g)) ∧ ((r = 0 ∧ ∃ v : Int32, g 0 = v.toInt64 ∧ (v = (-1) ∧ (pr.toInt = -1))) ∨ (r = 1 ∧ (¬ pr.toInt = -1))))) 1 6 (fun q => b0 ≤ q) := by
  refine t_hof (own := RL) (by decide) rfl ?_ (Nat.le_of_ble_eq_true rfl)
  intro p e s m below meth c ls C w hsz hr hlk htb hl
  have hx := C.1
  have hb := C.2.1
  have hl : lv_has ls 4 [(0, .ref x), (1, .int pr), (2, .ref o)] := hl
  refine lv_aload_n hx hb dL_force_0 rfl (lv_at hl 2 rfl) ?_
  refine lv_iconst (v := 0) hx hb dL_force_1 (by decide) ?_
  refine lv_aload_n hx hb dL_force_2 rfl (lv_at hl 0 rfl) ?_
  refine lv_iload_n hx hb dL_force_3 rfl (lv_at hl 1 rfl) ?_
  refine t_xcallV (n := 1) C w hT hm_x ht_x (by decide) rfl rfl (c_X6_force l hls D K b0 sa _ L _ Ψ hT x hm_x ht_x pr) gw_929 gw_926 gw_927 gw_928 gw_1 ⟨by decide, by decide, by decide +kernel⟩ rfl rfl ⟨by decide, by decide⟩ rfl hl.1 rfl (Nat.le_of_ble_eq_true rfl) dL_force_4 ⟨by decide, by decide⟩ (fun E ce9 q9 u H locs hp w hcell hv0 hcl => ?_) (fun v9 u H locs hp w => ?_)
  · obtain ⟨f2, rfl, hT2, hR1, hpx⟩ := hp
    obtain ⟨rfl, hx0⟩ := hpx
    refine t_catch (own := RL) (name := "java/lang/IllegalArgumentException") (E := "java/lang/IllegalArgumentException") C.2.2.2.1 [] ⟨0, 9, 12, 15⟩ [] htb (fun z hz => absurd hz List.not_mem_nil) (by decide) (by decide) (C.2.2.2.2 _ gw_547) (cst w cs_iae) hcell hv0 hcl ?_
    refine lv_astore_n (lv' := [(3, .ref q9), (0, .ref x), (1, .int pr), (2, .ref o)]) hx hb dL_force_12 rfl hl (by decide) rfl (fun ls hl => ?_)
    refine lv_iconst (v := 1) hx hb dL_force_13 (by decide) ?_
    exact t_iret C hr hlk w ⟨_, Ψ, L, f2, g0, rfl, rfl, hT2, Ex.rf.up hR1, ht_o, (hR1 o hm_o ht_o).trans hf_o, Or.inr (⟨rfl, hx0⟩)⟩ (by decide) (by decide) dL_force_14
  · obtain ⟨r, f2, rfl, rfl, hT2, hR1, hr0⟩ := hp
    have hE : Ex ([] : List Nat) (fun q9 => q9 = o) Ψ L f0 Ψ L f2 := Ex.rf.up hR1
    have hf_o := (hR1 o hm_o ht_o).trans hf_o
    refine lv_i2l (v := r.toInt64) hx hb dL_force_7 rfl ?_
    refine t_lastR C w hT2 hm_o ht_o hf_o dL_force_8 (fun f1 H locs w hT1 hg hk => ?_)
    obtain ⟨g1, hf1, hg1⟩ := hg
    refine lv_goto (tgt := 15) hx hb dL_force_9 (by decide) ?_
    refine lv_iconst (v := 0) hx hb dL_force_15 (by decide) ?_
    exact t_iret C hr hlk w ⟨_, _, _, f1, g1, rfl, rfl, hT1, hE.raw2 (fun _ => rfl) hk, ht_o, hf1, Or.inl (⟨rfl, r, hg1, hr0⟩)⟩ (by decide) (by decide) dL_force_16
set_option maxHeartbeats 4000000 in
set_option maxRecDepth 100000 in
theorem c_L_tells (l : Launch) (hls : l.stackTraces = false) (D : va_G) (K : Nat → ClassId) (b0 : Nat) (sa : Nat × Nat × Nat) (sz : Nat) (L : List Nat) (f0 : Nat → va_E) (Ψ : Nat → Nat) (hT : TW K (gof gX1) Ψ L f0) (x : Nat) (hm_x : x ∈ L) (ht_x : Ψ x = 6) (wh : Int32) (lo_ : Int32) (o : Nat) (hm_o : o ∈ L) (ht_o : Ψ o = 9) (g0 : Nat → Int64) (hf_o : f0 o = .inl (K 6, 1, .inr (.inl g0))) : Met l yL_tells (.codeWith yL_tells cL_tells 5 (some .int) [(0, 10, 13, 15)] :: gt) { frames := 8, cells := 1, slots := 6, locals := 124 } (va_Pc [.ref x, .int wh, .int lo_, .ref o] (hPre D K b0 sa sz L f0)) (hQ D K b0 (fun v9 u9 => ∃ (r : Int32) (Ψ2 : Nat → Nat) (L2 : List Nat) (f2 : Nat → va_E) (g : Nat → Int64), v9 = some (.int r) ∧ u9 = (gof gM0, Ψ2, L2, f2) ∧ TW K (gof gM0) Ψ2 L2 f2 ∧ Ex ([] : List Nat) (fun q9 => q9 = o) Ψ L f0 Ψ2 L2 f2 ∧ Ψ2 o = 9 ∧ f2 o = .inl (K 6, 1, .inr (.inl g)) ∧ ((r = 0 ∧ ∃ v : Int32, g 0 = v.toInt64 ∧ ((v = 0 ∧ ((0 ≤ wh.toInt ∧ wh.toInt ≤ 1) ∧ 0 ≤ lo_.toInt ∧ lo_.toInt ≤ 35)) ∨ (v = 1 ∧ (wh.toInt = 2 ∧ 0 ≤ lo_.toInt ∧ lo_.toInt ≤ 35)))) ∨ (r = 1 ∧ (¬ (0 ≤ wh.toInt ∧ wh.toInt ≤ 2 ∧ 0 ≤ lo_.toInt ∧ lo_.toInt ≤ 35)))))) 1 6 (fun q => b0 ≤ q) := by
  refine t_hof (own := RL) (by decide) rfl ?_ (Nat.le_of_ble_eq_true rfl)
  intro p e s m below meth c ls C w hsz hr hlk htb hl
  have hx := C.1
  have hb := C.2.1
  have hl : lv_has ls 5 [(0, .ref x), (1, .int wh), (2, .int lo_), (3, .ref o)] := hl
  refine lv_aload_n hx hb dL_tells_0 rfl (lv_at hl 3 rfl) ?_
  refine lv_iconst (v := 0) hx hb dL_tells_1 (by decide) ?_
  refine lv_aload_n hx hb dL_tells_2 rfl (lv_at hl 0 rfl) ?_
  refine lv_iload_n hx hb dL_tells_3 rfl (lv_at hl 1 rfl) ?_
  refine lv_iload_n hx hb dL_tells_4 rfl (lv_at hl 2 rfl) ?_
  refine t_xcallV (n := 2) C w hT hm_x ht_x (by decide) rfl rfl (c_X6_tells l hls D K b0 sa _ L _ Ψ hT x hm_x ht_x wh lo_) gw_936 gw_933 gw_934 gw_935 gw_1 ⟨by decide, by decide, by decide +kernel⟩ rfl rfl ⟨by decide, by decide⟩ rfl hl.1 rfl (Nat.le_of_ble_eq_true rfl) dL_tells_5 ⟨by decide, by decide⟩ (fun E ce9 q9 u H locs hp w hcell hv0 hcl => ?_) (fun v9 u H locs hp w => ?_)
  · obtain ⟨f2, rfl, hT2, hR1, hpx⟩ := hp
    obtain ⟨rfl, hx0⟩ := hpx
    refine t_catch (own := RL) (name := "java/lang/IllegalArgumentException") (E := "java/lang/IllegalArgumentException") C.2.2.2.1 [] ⟨0, 10, 13, 15⟩ [] htb (fun z hz => absurd hz List.not_mem_nil) (by decide) (by decide) (C.2.2.2.2 _ gw_547) (cst w cs_iae) hcell hv0 hcl ?_
    refine lv_astore (lv' := [(4, .ref q9), (0, .ref x), (1, .int wh), (2, .int lo_), (3, .ref o)]) hx hb dL_tells_13 hl (by decide) rfl (fun ls hl => ?_)
    refine lv_iconst (v := 1) hx hb dL_tells_15 (by decide) ?_
    exact t_iret C hr hlk w ⟨_, Ψ, L, f2, g0, rfl, rfl, hT2.mono (gof_sub rfl), Ex.rf.up hR1, ht_o, (hR1 o hm_o ht_o).trans hf_o, Or.inr (⟨rfl, hx0⟩)⟩ (by decide) (by decide) dL_tells_16
  · obtain ⟨r, f2, rfl, rfl, hT2, hR1, hr0⟩ := hp
    have hE : Ex ([] : List Nat) (fun q9 => q9 = o) Ψ L f0 Ψ L f2 := Ex.rf.up hR1
    have hf_o := (hR1 o hm_o ht_o).trans hf_o
    refine lv_i2l (v := r.toInt64) hx hb dL_tells_8 rfl ?_
    refine t_lastR C w hT2 hm_o ht_o hf_o dL_tells_9 (fun f1 H locs w hT1 hg hk => ?_)
    obtain ⟨g1, hf1, hg1⟩ := hg
    refine lv_goto (tgt := 17) hx hb dL_tells_10 (by decide) ?_
    refine lv_iconst (v := 0) hx hb dL_tells_17 (by decide) ?_
    exact t_iret C hr hlk w ⟨_, _, _, f1, g1, rfl, rfl, hT1.mono (gof_sub rfl), hE.raw2 (fun _ => rfl) hk, ht_o, hf1, Or.inl (⟨rfl, r, hg1, hr0⟩)⟩ (by decide) (by decide) dL_tells_18
set_option maxHeartbeats 4000000 in
set_option maxRecDepth 100000 in
theorem c_L_attempt (l : Launch) (hls : l.stackTraces = false) (D : va_G) (K : Nat → ClassId) (b0 : Nat) (sa : Nat × Nat × Nat) (sz : Nat) (L : List Nat) (f0 : Nat → va_E) (Ψ : Nat → Nat) (hT : TW K (gof gX1) Ψ L f0) (x : Nat) (hm_x : x ∈ L) (ht_x : Ψ x = 6) (ce : Int32) (o : Nat) (hm_o : o ∈ L) (ht_o : Ψ o = 9) (g0 : Nat → Int64) (hf_o : f0 o = .inl (K 6, 1, .inr (.inl g0))) : Met l yL_attempt (.codeWith yL_attempt cL_attempt 4 (some .int) [(0, 9, 12, 13)] :: gt) { frames := 8, cells := 3, slots := 28, locals := 139 } (va_Pc [.ref x, .int ce, .ref o] (hPre D K b0 sa sz L f0)) (hQ D K b0 (fun v9 u9 => ∃ (r : Int32) (Ψ2 : Nat → Nat) (L2 : List Nat) (f2 : Nat → va_E) (g : Nat → Int64), v9 = some (.int r) ∧ u9 = (gof gM0, Ψ2, L2, f2) ∧ TW K (gof gM0) Ψ2 L2 f2 ∧ Ex [9, 5, 15] (fun q9 => q9 = o) Ψ L f0 Ψ2 L2 f2 ∧ Ψ2 o = 9 ∧ f2 o = .inl (K 6, 1, .inr (.inl g)) ∧ ((r = 0 ∧ ∃ v : Int32, g 0 = v.toInt64 ∧ (v = 0 ∧ (0 ≤ ce.toInt) ∧ (ce.toInt ≤ 63))) ∨ (r = 1 ∧ (¬ (0 ≤ ce.toInt ∧ ce.toInt ≤ 63)))))) 3 28 (fun q => b0 ≤ q) := by
  refine t_hof (own := RL) (by decide) rfl ?_ (Nat.le_of_ble_eq_true rfl)
  intro p e s m below meth c ls C w hsz hr hlk htb hl
  have hx := C.1
  have hb := C.2.1
  have hl : lv_has ls 4 [(0, .ref x), (1, .int ce), (2, .ref o)] := hl
  refine lv_aload_n hx hb dL_attempt_0 rfl (lv_at hl 2 rfl) ?_
  refine lv_iconst (v := 0) hx hb dL_attempt_1 (by decide) ?_
  refine lv_aload_n hx hb dL_attempt_2 rfl (lv_at hl 0 rfl) ?_
  refine lv_iload_n hx hb dL_attempt_3 rfl (lv_at hl 1 rfl) ?_
  refine t_xcallV (n := 1) C w hT hm_x ht_x (by decide) rfl rfl (c_X6_attempt l hls D K b0 sa _ L _ Ψ hT x hm_x ht_x ce) gw_943 gw_940 gw_941 gw_942 gw_1 ⟨by decide, by decide, by decide +kernel⟩ rfl rfl ⟨by decide, by decide⟩ rfl hl.1 rfl (Nat.le_of_ble_eq_true rfl) dL_attempt_4 ⟨by decide, by decide⟩ (fun E ce9 q9 u H locs hp w hcell hv0 hcl => ?_) (fun v9 u H locs hp w => ?_)
  · obtain ⟨f2, rfl, hT2, hR1, hpx⟩ := hp
    obtain ⟨rfl, hx0⟩ := hpx
    refine t_catch (own := RL) (name := "java/lang/IndexOutOfBoundsException") (E := "java/lang/IndexOutOfBoundsException") C.2.2.2.1 [] ⟨0, 9, 12, 13⟩ [] htb (fun z hz => absurd hz List.not_mem_nil) (by decide) (by decide) (C.2.2.2.2 _ gw_546) (cst w cs_iob) hcell hv0 hcl ?_
    refine lv_astore_n (lv' := [(3, .ref q9), (0, .ref x), (1, .int ce), (2, .ref o)]) hx hb dL_attempt_12 rfl hl (by decide) rfl (fun ls hl => ?_)
    refine lv_iconst (v := 1) hx hb dL_attempt_13 (by decide) ?_
    exact t_iret C hr hlk w ⟨_, Ψ, L, f2, g0, rfl, rfl, hT2, Ex.rf.up hR1, ht_o, (hR1 o hm_o ht_o).trans hf_o, Or.inr (⟨rfl, hx0⟩)⟩ (by decide) (by decide) dL_attempt_14
  · obtain ⟨r, Ψ2, L2, f2, rfl, rfl, hT2, hE2, hr0⟩ := hp
    have hE : Ex [9, 5, 15] (fun q9 => q9 = o) Ψ L f0 Ψ2 L2 f2 := Ex.rf.tr hE2 (fun t h => h) (fun b e9 => e9.elim) (fun b e9 => e9.elim)
    have hsp := hE2.sp hm_o (fun e9 => e9)
    have hf_o := (hsp.2.2 ht_o).trans hf_o
    have ht_o := hsp.2.1.trans ht_o
    have hm_o2 := hsp.1
    refine lv_i2l (v := r.toInt64) hx hb dL_attempt_7 rfl ?_
    refine t_lastR C w hT2 hm_o2 ht_o hf_o dL_attempt_8 (fun f1 H locs w hT1 hg hk => ?_)
    obtain ⟨g1, hf1, hg1⟩ := hg
    refine lv_goto (tgt := 15) hx hb dL_attempt_9 (by decide) ?_
    refine lv_iconst (v := 0) hx hb dL_attempt_15 (by decide) ?_
    exact t_iret C hr hlk w ⟨_, _, _, f1, g1, rfl, rfl, hT1, hE.raw2 (fun _ => rfl) hk, ht_o, hf1, Or.inl (⟨rfl, r, hg1, hr0⟩)⟩ (by decide) (by decide) dL_attempt_16
set_option maxHeartbeats 4000000 in
set_option maxRecDepth 100000 in
theorem c_L_record (l : Launch) (hls : l.stackTraces = false) (D : va_G) (K : Nat → ClassId) (b0 : Nat) (sa : Nat × Nat × Nat) (sz : Nat) (L : List Nat) (f0 : Nat → va_E) (Ψ : Nat → Nat) (hT : TW K (gof gX1) Ψ L f0) (x : Nat) (hm_x : x ∈ L) (ht_x : Ψ x = 6) (k_ : Int32) (wh : Int32) (o : Nat) (hm_o : o ∈ L) (ht_o : Ψ o = 9) (g0 : Nat → Int64) (hf_o : f0 o = .inl (K 6, 1, .inr (.inl g0))) : Met l yL_record (.codeWith yL_record cL_record 5 (some .int) [(0, 10, 13, 21), (0, 10, 17, 15)] :: gt) { frames := 8, cells := 1, slots := 6, locals := 125 } (va_Pc [.ref x, .int k_, .int wh, .ref o] (hPre D K b0 sa sz L f0)) (hQ D K b0 (fun v9 u9 => ∃ (r : Int32) (Ψ2 : Nat → Nat) (L2 : List Nat) (f2 : Nat → va_E) (g : Nat → Int64), v9 = some (.int r) ∧ u9 = (gof gM0, Ψ2, L2, f2) ∧ TW K (gof gM0) Ψ2 L2 f2 ∧ Ex ([] : List Nat) (fun q9 => q9 = o) Ψ L f0 Ψ2 L2 f2 ∧ Ψ2 o = 9 ∧ f2 o = .inl (K 6, 1, .inr (.inl g)) ∧ ((r = 1)))) 1 6 (fun q => b0 ≤ q) := by
  refine t_hof (own := RL) (by decide) rfl ?_ (Nat.le_of_ble_eq_true rfl)
  intro p e s m below meth c ls C w hsz hr hlk htb hl
  have hx := C.1
  have hb := C.2.1
  have hl : lv_has ls 5 [(0, .ref x), (1, .int k_), (2, .int wh), (3, .ref o)] := hl
  refine lv_aload_n hx hb dL_record_0 rfl (lv_at hl 3 rfl) ?_
  refine lv_iconst (v := 0) hx hb dL_record_1 (by decide) ?_
  refine lv_aload_n hx hb dL_record_2 rfl (lv_at hl 0 rfl) ?_
  refine lv_iload_n hx hb dL_record_3 rfl (lv_at hl 1 rfl) ?_
  refine lv_iload_n hx hb dL_record_4 rfl (lv_at hl 2 rfl) ?_
  refine t_xcallV (n := 2) C w hT hm_x ht_x (by decide) rfl rfl (c_X6_record l hls D K b0 sa _ L _ Ψ hT x hm_x ht_x k_ wh) gw_986 gw_983 gw_984 gw_985 gw_1 ⟨by decide, by decide, by decide +kernel⟩ rfl rfl ⟨by decide, by decide⟩ rfl hl.1 rfl (Nat.le_of_ble_eq_true rfl) dL_record_5 ⟨by decide, by decide⟩ (fun E ce9 q9 u H locs hp w hcell hv0 hcl => ?_) (fun v9 u H locs hp w => ?_)
  · obtain ⟨f2, rfl, hT2, hR1, hpx⟩ := hp
    obtain rfl := hpx
    refine t_catch (own := RL) (name := "java/util/NoSuchElementException") (E := "java/util/NoSuchElementException") C.2.2.2.1 [] ⟨0, 10, 13, 21⟩ [⟨0, 10, 17, 15⟩] htb (fun z hz => absurd hz List.not_mem_nil) (by decide) (by decide) (C.2.2.2.2 _ gw_649) (cst w cs_nse) hcell hv0 hcl ?_
    refine lv_astore (lv' := [(4, .ref q9), (0, .ref x), (1, .int k_), (2, .int wh), (3, .ref o)]) hx hb dL_record_13 hl (by decide) rfl (fun ls hl => ?_)
    refine lv_iconst (v := 1) hx hb dL_record_15 (by decide) ?_
    exact t_iret C hr hlk w ⟨_, Ψ, L, f2, g0, rfl, rfl, hT2.mono (gof_sub rfl), Ex.rf.up hR1, ht_o, (hR1 o hm_o ht_o).trans hf_o, rfl⟩ (by decide) (by decide) dL_record_16
  · obtain ⟨r, f2, rfl, rfl, hT2, hR1, hr0⟩ := hp
    exact hr0.2.elim
set_option maxHeartbeats 4000000 in
set_option maxRecDepth 100000 in
theorem c_L_hand (l : Launch) (hls : l.stackTraces = false) (D : va_G) (K : Nat → ClassId) (b0 : Nat) (sa : Nat × Nat × Nat) (sz : Nat) (L : List Nat) (f0 : Nat → va_E) (Ψ : Nat → Nat) (hT : TW K (gof gX1) Ψ L f0) (x : Nat) (hm_x : x ∈ L) (ht_x : Ψ x = 6) (di : Int32) (hu_6 : ∀ b c : Nat, b ∈ L → c ∈ L → Ψ b = 6 → Ψ c = 6 → b = c) (o : Nat) (hm_o : o ∈ L) (ht_o : Ψ o = 9) (g0 : Nat → Int64) (hf_o : f0 o = .inl (K 6, 1, .inr (.inl g0))) : Met l yL_hand (.codeWith yL_hand cL_hand 4 (some .int) [(0, 9, 12, 15)] :: gt) { frames := 8, cells := 1, slots := 6, locals := 123 } (va_Pc [.ref x, .int di, .ref o] (hPre D K b0 sa sz L f0)) (hQ D K b0 (fun v9 u9 => ∃ (r : Int32) (Ψ2 : Nat → Nat) (L2 : List Nat) (f2 : Nat → va_E) (g : Nat → Int64), v9 = some (.int r) ∧ u9 = (gof gM0, Ψ2, L2, f2) ∧ TW K (gof gM0) Ψ2 L2 f2 ∧ Ex ([] : List Nat) (fun q9 => q9 = o) Ψ L f0 Ψ2 L2 f2 ∧ Ψ2 o = 9 ∧ f2 o = .inl (K 6, 1, .inr (.inl g)) ∧ ((r = 0 ∧ ∃ v : Int32, g 0 = v.toInt64 ∧ (v = 0 ∧ (1 ≤ di.toInt ∧ di.toInt ≤ 134217727))) ∨ (r = 1 ∧ (¬ (1 ≤ di.toInt ∧ di.toInt ≤ 134217727)))))) 1 6 (fun q => b0 ≤ q) := by
  refine t_hof (own := RL) (by decide) rfl ?_ (Nat.le_of_ble_eq_true rfl)
  intro p e s m below meth c ls C w hsz hr hlk htb hl
  have hx := C.1
  have hb := C.2.1
  have hl : lv_has ls 4 [(0, .ref x), (1, .int di), (2, .ref o)] := hl
  refine lv_aload_n hx hb dL_hand_0 rfl (lv_at hl 2 rfl) ?_
  refine lv_iconst (v := 0) hx hb dL_hand_1 (by decide) ?_
  refine lv_aload_n hx hb dL_hand_2 rfl (lv_at hl 0 rfl) ?_
  refine lv_iload_n hx hb dL_hand_3 rfl (lv_at hl 1 rfl) ?_
  refine t_xcallV (n := 1) C w hT hm_x ht_x (by decide) rfl rfl (c_X6_hand l hls D K b0 sa _ L _ Ψ hT x hm_x ht_x di hu_6) gw_997 gw_994 gw_995 gw_996 gw_1 ⟨by decide, by decide, by decide +kernel⟩ rfl rfl ⟨by decide, by decide⟩ rfl hl.1 rfl (Nat.le_of_ble_eq_true rfl) dL_hand_4 ⟨by decide, by decide⟩ (fun E ce9 q9 u H locs hp w hcell hv0 hcl => ?_) (fun v9 u H locs hp w => ?_)
  · obtain ⟨f2, rfl, hT2, hR1, hpx⟩ := hp
    obtain ⟨rfl, hx0⟩ := hpx
    refine t_catch (own := RL) (name := "java/lang/IllegalArgumentException") (E := "java/lang/IllegalArgumentException") C.2.2.2.1 [] ⟨0, 9, 12, 15⟩ [] htb (fun z hz => absurd hz List.not_mem_nil) (by decide) (by decide) (C.2.2.2.2 _ gw_547) (cst w cs_iae) hcell hv0 hcl ?_
    refine lv_astore_n (lv' := [(3, .ref q9), (0, .ref x), (1, .int di), (2, .ref o)]) hx hb dL_hand_12 rfl hl (by decide) rfl (fun ls hl => ?_)
    refine lv_iconst (v := 1) hx hb dL_hand_13 (by decide) ?_
    exact t_iret C hr hlk w ⟨_, Ψ, L, f2, g0, rfl, rfl, hT2, Ex.rf.up hR1, ht_o, (hR1 o hm_o ht_o).trans hf_o, Or.inr (⟨rfl, hx0⟩)⟩ (by decide) (by decide) dL_hand_14
  · obtain ⟨r, f2, rfl, rfl, hT2, hR1, hr0⟩ := hp
    have hE : Ex ([] : List Nat) (fun q9 => q9 = o) Ψ L f0 Ψ L f2 := Ex.rf.up hR1
    have hf_o := (hR1 o hm_o ht_o).trans hf_o
    refine lv_i2l (v := r.toInt64) hx hb dL_hand_7 rfl ?_
    refine t_lastR C w hT2 hm_o ht_o hf_o dL_hand_8 (fun f1 H locs w hT1 hg hk => ?_)
    obtain ⟨g1, hf1, hg1⟩ := hg
    refine lv_goto (tgt := 15) hx hb dL_hand_9 (by decide) ?_
    refine lv_iconst (v := 0) hx hb dL_hand_15 (by decide) ?_
    exact t_iret C hr hlk w ⟨_, _, _, f1, g1, rfl, rfl, hT1, hE.raw2 (fun _ => rfl) hk, ht_o, hf1, Or.inl (⟨rfl, r, hg1, hr0⟩)⟩ (by decide) (by decide) dL_hand_16
set_option maxHeartbeats 4000000 in
set_option maxRecDepth 100000 in
theorem c_L_play (l : Launch) (hls : l.stackTraces = false) (D : va_G) (K : Nat → ClassId) (b0 : Nat) (sa : Nat × Nat × Nat) (sz : Nat) (L : List Nat) (f0 : Nat → va_E) (Ψ : Nat → Nat) (hT : TW K (gof gX1) Ψ L f0) (x : Nat) (hm_x : x ∈ L) (ht_x : Ψ x = 6) (ha : Int32) (ai : Int32) (o : Nat) (hm_o : o ∈ L) (ht_o : Ψ o = 9) (g0 : Nat → Int64) (hf_o : f0 o = .inl (K 6, 1, .inr (.inl g0))) : Met l yL_play (.codeWith yL_play cL_play 5 (some .int) [(0, 10, 13, 21), (0, 10, 17, 13)] :: gt) { frames := 8, cells := 1, slots := 6, locals := 127 } (va_Pc [.ref x, .int ha, .int ai, .ref o] (hPre D K b0 sa sz L f0)) (hQ D K b0 (fun v9 u9 => ∃ (r : Int32) (Ψ2 : Nat → Nat) (L2 : List Nat) (f2 : Nat → va_E) (g : Nat → Int64), v9 = some (.int r) ∧ u9 = (gof gM0, Ψ2, L2, f2) ∧ TW K (gof gM0) Ψ2 L2 f2 ∧ Ex ([] : List Nat) (fun q9 => q9 = o) Ψ L f0 Ψ2 L2 f2 ∧ Ψ2 o = 9 ∧ f2 o = .inl (K 6, 1, .inr (.inl g)) ∧ ((r = 1)))) 1 6 (fun q => b0 ≤ q) := by
  refine t_hof (own := RL) (by decide) rfl ?_ (Nat.le_of_ble_eq_true rfl)
  intro p e s m below meth c ls C w hsz hr hlk htb hl
  have hx := C.1
  have hb := C.2.1
  have hl : lv_has ls 5 [(0, .ref x), (1, .int ha), (2, .int ai), (3, .ref o)] := hl
  refine lv_aload_n hx hb dL_play_0 rfl (lv_at hl 3 rfl) ?_
  refine lv_iconst (v := 0) hx hb dL_play_1 (by decide) ?_
  refine lv_aload_n hx hb dL_play_2 rfl (lv_at hl 0 rfl) ?_
  refine lv_iload_n hx hb dL_play_3 rfl (lv_at hl 1 rfl) ?_
  refine lv_iload_n hx hb dL_play_4 rfl (lv_at hl 2 rfl) ?_
  refine t_xcallV (n := 2) C w hT hm_x ht_x (by decide) rfl rfl (c_X6_play l hls D K b0 sa _ L _ Ψ hT x hm_x ht_x ha ai) gw_1005 gw_1002 gw_1003 gw_1004 gw_1 ⟨by decide, by decide, by decide +kernel⟩ rfl rfl ⟨by decide, by decide⟩ rfl hl.1 rfl (Nat.le_of_ble_eq_true rfl) dL_play_5 ⟨by decide, by decide⟩ (fun E ce9 q9 u H locs hp w hcell hv0 hcl => ?_) (fun v9 u H locs hp w => ?_)
  · obtain ⟨f2, rfl, hT2, hR1, hpx⟩ := hp
    obtain rfl := hpx
    refine t_catch (own := RL) (name := "java/util/NoSuchElementException") (E := "java/util/NoSuchElementException") C.2.2.2.1 [] ⟨0, 10, 13, 21⟩ [⟨0, 10, 17, 13⟩] htb (fun z hz => absurd hz List.not_mem_nil) (by decide) (by decide) (C.2.2.2.2 _ gw_649) (cst w cs_nse) hcell hv0 hcl ?_
    refine lv_astore (lv' := [(4, .ref q9), (0, .ref x), (1, .int ha), (2, .int ai), (3, .ref o)]) hx hb dL_play_13 hl (by decide) rfl (fun ls hl => ?_)
    refine lv_iconst (v := 1) hx hb dL_play_15 (by decide) ?_
    exact t_iret C hr hlk w ⟨_, Ψ, L, f2, g0, rfl, rfl, hT2.mono (gof_sub rfl), Ex.rf.up hR1, ht_o, (hR1 o hm_o ht_o).trans hf_o, rfl⟩ (by decide) (by decide) dL_play_16
  · obtain ⟨r, f2, rfl, rfl, hT2, hR1, hr0⟩ := hp
    exact hr0.2.elim
