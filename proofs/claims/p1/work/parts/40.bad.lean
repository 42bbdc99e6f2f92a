theorem dX7_isCell_0 : decode cX7_isCell 0 = .ok (.iload_n 0, 1) := by decide +kernel
theorem dX7_isCell_1 : decode cX7_isCell 1 = .ok (.iconst 0, 1) := by decide +kernel
theorem dX7_isCell_2 : decode cX7_isCell 2 = .ok (.bipush 63, 2) := by decide +kernel
theorem dX7_isCell_4 : decode cX7_isCell 4 = .ok (.invokestatic 100, 3) := by decide +kernel
theorem dX7_isCell_7 : decode cX7_isCell 7 = .ok (.ireturn, 1) := by decide +kernel
theorem dX7_bad_0 : decode cX7_bad 0 = .ok (.iload_n 1, 1) := by decide +kernel
theorem dX7_bad_1 : decode cX7_bad 1 = .ok (.ifCond .eq 15, 3) := by decide +kernel
theorem dX7_bad_4 : decode cX7_bad 4 = .ok (.aload_n 0, 1) := by decide +kernel
theorem dX7_bad_5 : decode cX7_bad 5 = .ok (.getfield 97, 3) := by decide +kernel
theorem dX7_bad_8 : decode cX7_bad 8 = .ok (.ifCond .ne 8, 3) := by decide +kernel
theorem dX7_bad_11 : decode cX7_bad 11 = .ok (.aload_n 0, 1) := by decide +kernel
theorem dX7_bad_12 : decode cX7_bad 12 = .ok (.iload_n 2, 1) := by decide +kernel
theorem dX7_bad_13 : decode cX7_bad 13 = .ok (.putfield 97, 3) := by decide +kernel
theorem dX7_bad_16 : decode cX7_bad 16 = .ok (.aload_n 0, 1) := by decide +kernel
theorem dX7_bad_17 : decode cX7_bad 17 = .ok (.getfield 97, 3) := by decide +kernel
theorem dX7_bad_20 : decode cX7_bad 20 = .ok (.ifCond .eq 7, 3) := by decide +kernel
theorem dX7_bad_23 : decode cX7_bad 23 = .ok (.iconst 1, 1) := by decide +kernel
theorem dX7_bad_24 : decode cX7_bad 24 = .ok (.goto 4, 3) := by decide +kernel
theorem dX7_bad_27 : decode cX7_bad 27 = .ok (.iconst 0, 1) := by decide +kernel
theorem dX7_bad_28 : decode cX7_bad 28 = .ok (.ireturn, 1) := by decide +kernel
set_option maxHeartbeats 4000000 in
set_option maxRecDepth 100000 in
theorem c_X7_isCell (l : Launch) (D : va_G) (K : Nat → ClassId) (b0 : Nat) (sa : Nat × Nat × Nat) (sz : Nat) (L : List Nat) (f0 : Nat → va_E) (Ψ : Nat → Nat) (G : tG) (hT : TW K G Ψ L f0) (v : Int32) : Met l yX7_isCell (.code yX7_isCell cX7_isCell 1 (some .boolean) :: gt) { frames := 1, cells := 0, slots := 0, locals := 22 } (va_Pc [.int v] (hPre D K b0 sa sz L f0)) (hQ D K b0 (fun v9 u9 => ∃ r : Int32, v9 = some (.int r) ∧ u9 = (G, Ψ, L, f0) ∧ ((r = 1 ∧ (0 ≤ v.toInt) ∧ (v.toInt ≤ 63)) ∨ (r = 0 ∧ (¬ (0 ≤ v.toInt ∧ v.toInt ≤ 63)))))) 0 0 (fun q => b0 ≤ q) := by
  refine t_of (own := RX7) (by decide) rfl ?_ (Nat.le_of_ble_eq_true rfl)
  intro p e s m below meth c ls C w hsz hr hlk hnm hl
  have hx := C.1
  have hb := C.2.1
  have hl : lv_has ls 1 [(0, .int v)] := hl
  have hb_v := ti_bd v
  have hR : rawk Ψ L f0 f0 := rawk.rf
  refine lv_iload_n hx hb dX7_isCell_0 rfl (lv_at hl 0 rfl) ?_
  refine lv_iconst (v := 0) hx hb dX7_isCell_1 (by decide) ?_
  refine lv_bipush (v := 63) hx hb dX7_isCell_2 (by decide) ?_
  have n0 : (0 : Int32).toInt = 0 := by decide
  have n63 : (63 : Int32).toInt = 63 := by decide
  refine t_callS (n := 3) C w (c_X7_in l D K b0 sa _ L _ Ψ G hT v 0 63) gw_1343 gw_1341 gw_1342 gw_8 ⟨by decide, by decide, by decide +kernel⟩ rfl rfl ⟨by decide, by decide⟩ rfl hl.1 rfl (Nat.le_of_ble_eq_true rfl) dX7_isCell_4 ⟨by decide, by decide⟩ (fun v u H locs hp w => ?_)
  obtain ⟨r1, rfl, rfl, hrr1⟩ := hp
  rcases hrr1 with ⟨rfl, hf0_r1, hf1_r1⟩ | ⟨rfl, hf0_r1⟩
  ·
    have n1 : (1 : Int32).toInt = 1 := by decide
    exact t_zret C hr hlk w (by decide) ⟨_, rfl, rfl, Or.inl ⟨rfl, (by omega), (by omega)⟩⟩ (by decide) (by decide) dX7_isCell_7
  ·
    exact t_zret C hr hlk w (by decide) ⟨_, rfl, rfl, Or.inr (⟨rfl, (by omega)⟩)⟩ (by decide) (by decide) dX7_isCell_7
set_option maxHeartbeats 4000000 in
set_option maxRecDepth 100000 in
theorem c_X7_bad0 (l : Launch) (D : va_G) (K : Nat → ClassId) (b0 : Nat) (sa : Nat × Nat × Nat) (sz : Nat) (L : List Nat) (f0 : Nat → va_E) (Ψ : Nat → Nat) (hT : TW K (gof gM1) Ψ L f0) (m_ : Nat) (hm_m_ : m_ ∈ L) (ht_m_ : Ψ m_ = 7) (co : Int32) : Met l yX7_bad (.code yX7_bad cX7_bad 3 (some .boolean) :: gt) { frames := 0, cells := 0, slots := 0, locals := 0 } (va_Pc [.ref m_, .int 0, .int co] (hPre D K b0 sa sz L f0)) (hQ D K b0 (fun v9 u9 => ∃ r : Int32, v9 = some (.int r) ∧ u9 = ((gof gM1), Ψ, L, f0) ∧ (r = 0))) 0 0 (fun q => b0 ≤ q) := by
  refine t_of (own := RX7) (by decide) rfl ?_ (Nat.le_of_ble_eq_true rfl)
  intro p e s m below meth c ls C w hsz hr hlk hnm hl
  have hx := C.1
  have hb := C.2.1
  have hl : lv_has ls 3 [(0, .ref m_), (1, .int 0), (2, .int co)] := hl
  have hb_co := ti_bd co
  have hR : rawk Ψ L f0 f0 := rawk.rf
  refine lv_iload_n hx hb dX7_bad_0 rfl (lv_at hl 1 rfl) ?_
  refine lv_if_eq (tgt := 16) hx hb dX7_bad_1 (by decide) (fun _ => ?_) (fun c0 => absurd c0 (by decide))
  refine lv_aload_n hx hb dX7_bad_16 rfl (lv_at hl 0 rfl) ?_
  refine t_geti C w hT hm_m_ ht_m_ (by decide) rfl cin_7 0 (by decide) rfl rfl gw_1156 dX7_bad_17 (fun x1 hg => ?_)
  obtain rfl : x1 = 0 := gof_at rfl hg
  refine lv_if_eq (tgt := 27) hx hb dX7_bad_20 (by decide) (fun _ => ?_) (fun c0 => absurd c0 (by decide))
  refine lv_iconst (v := 0) hx hb dX7_bad_27 (by decide) ?_
  have n0 : (0 : Int32).toInt = 0 := by decide
  exact t_zret C hr hlk w (by decide) ⟨_, rfl, rfl, rfl⟩ (by decide) (by decide) dX7_bad_28
set_option maxHeartbeats 4000000 in
set_option maxRecDepth 100000 in
theorem c_X7_bad1 (l : Launch) (D : va_G) (K : Nat → ClassId) (b0 : Nat) (sa : Nat × Nat × Nat) (sz : Nat) (L : List Nat) (f0 : Nat → va_E) (Ψ : Nat → Nat) (hT : TW K (gof gM0) Ψ L f0) (m_ : Nat) (hm_m_ : m_ ∈ L) (ht_m_ : Ψ m_ = 7) (hu_7 : ∀ b c : Nat, b ∈ L → c ∈ L → Ψ b = 7 → Ψ c = 7 → b = c) : Met l yX7_bad (.code yX7_bad cX7_bad 3 (some .boolean) :: gt) { frames := 0, cells := 0, slots := 0, locals := 0 } (va_Pc [.ref m_, .int 1, .int 1] (hPre D K b0 sa sz L f0)) (hQ D K b0 (fun v9 u9 => ∃ (r : Int32) (f2 : Nat → va_E), v9 = some (.int r) ∧ u9 = ((gof ((700, 1) :: gM0)), Ψ, L, f2) ∧ TW K (gof ((700, 1) :: gM0)) Ψ L f2 ∧ rawk Ψ L f0 f2 ∧ (r = 1))) 0 0 (fun q => b0 ≤ q) := by
  refine t_of (own := RX7) (by decide) rfl ?_ (Nat.le_of_ble_eq_true rfl)
  intro p e s m below meth c ls C w hsz hr hlk hnm hl
  have hx := C.1
  have hb := C.2.1
  have hl : lv_has ls 3 [(0, .ref m_), (1, .int 1), (2, .int 1)] := hl
  have hR : rawk Ψ L f0 f0 := rawk.rf
  refine lv_iload_n hx hb dX7_bad_0 rfl (lv_at hl 1 rfl) ?_
  refine lv_if_eq (tgt := 16) hx hb dX7_bad_1 (by decide) (fun c0 => absurd c0 (by decide)) (fun _ => ?_)
  refine lv_aload_n hx hb dX7_bad_4 rfl (lv_at hl 0 rfl) ?_
  refine t_geti C w hT hm_m_ ht_m_ (by decide) rfl cin_7 0 (by decide) rfl rfl gw_1156 dX7_bad_5 (fun x1 hg => ?_)
  obtain rfl : x1 = 0 := gof_at rfl hg
  refine lv_if_ne (tgt := 16) hx hb dX7_bad_8 (by decide) (fun c0 => absurd c0 (by decide)) (fun _ => ?_)
  refine lv_aload_n hx hb dX7_bad_11 rfl (lv_at hl 0 rfl) ?_
  refine lv_iload_n hx hb dX7_bad_12 rfl (lv_at hl 2 rfl) ?_
  refine t_putS C w hT hm_m_ ht_m_ (fun b h1 h2 => hu_7 b m_ h1 hm_m_ h2 ht_m_) (by decide) rfl cin_7 tyX7 tyX7_ok nmX7 0 (by decide) rfl rfl rfl rfl rfl gw_1156 dX7_bad_13 (fun f H locs w hT hR1 => ?_)
  have hT := hT.mono gof_set
  have hR := hR.tr hR1
  refine lv_aload_n hx hb dX7_bad_16 rfl (lv_at hl 0 rfl) ?_
  refine t_geti C w hT hm_m_ ht_m_ (by decide) rfl cin_7 0 (by decide) rfl rfl gw_1156 dX7_bad_17 (fun x2 hg => ?_)
  obtain rfl : x2 = 1 := gof_at rfl hg
  refine lv_if_eq (tgt := 27) hx hb dX7_bad_20 (by decide) (fun c0 => absurd c0 (by decide)) (fun _ => ?_)
  refine lv_iconst (v := 1) hx hb dX7_bad_23 (by decide) ?_
  refine lv_goto (tgt := 28) hx hb dX7_bad_24 (by decide) ?_
  have n1 : (1 : Int32).toInt = 1 := by decide
  exact t_zret C hr hlk w (by decide) ⟨_, _, rfl, rfl, hT, hR, rfl⟩ (by decide) (by decide) dX7_bad_28
set_option maxHeartbeats 4000000 in
set_option maxRecDepth 100000 in
theorem c_X7_bad2 (l : Launch) (D : va_G) (K : Nat → ClassId) (b0 : Nat) (sa : Nat × Nat × Nat) (sz : Nat) (L : List Nat) (f0 : Nat → va_E) (Ψ : Nat → Nat) (hT : TW K (gof gM0) Ψ L f0) (m_ : Nat) (hm_m_ : m_ ∈ L) (ht_m_ : Ψ m_ = 7) (hu_7 : ∀ b c : Nat, b ∈ L → c ∈ L → Ψ b = 7 → Ψ c = 7 → b = c) : Met l yX7_bad (.code yX7_bad cX7_bad 3 (some .boolean) :: gt) { frames := 0, cells := 0, slots := 0, locals := 0 } (va_Pc [.ref m_, .int 1, .int 2] (hPre D K b0 sa sz L f0)) (hQ D K b0 (fun v9 u9 => ∃ (r : Int32) (f2 : Nat → va_E), v9 = some (.int r) ∧ u9 = ((gof ((700, 2) :: gM0)), Ψ, L, f2) ∧ TW K (gof ((700, 2) :: gM0)) Ψ L f2 ∧ rawk Ψ L f0 f2 ∧ (r = 1))) 0 0 (fun q => b0 ≤ q) := by
  refine t_of (own := RX7) (by decide) rfl ?_ (Nat.le_of_ble_eq_true rfl)
  intro p e s m below meth c ls C w hsz hr hlk hnm hl
  have hx := C.1
  have hb := C.2.1
  have hl : lv_has ls 3 [(0, .ref m_), (1, .int 1), (2, .int 2)] := hl
  have hR : rawk Ψ L f0 f0 := rawk.rf
  refine lv_iload_n hx hb dX7_bad_0 rfl (lv_at hl 1 rfl) ?_
  refine lv_if_eq (tgt := 16) hx hb dX7_bad_1 (by decide) (fun c0 => absurd c0 (by decide)) (fun _ => ?_)
  refine lv_aload_n hx hb dX7_bad_4 rfl (lv_at hl 0 rfl) ?_
  refine t_geti C w hT hm_m_ ht_m_ (by decide) rfl cin_7 0 (by decide) rfl rfl gw_1156 dX7_bad_5 (fun x1 hg => ?_)
  obtain rfl : x1 = 0 := gof_at rfl hg
  refine lv_if_ne (tgt := 16) hx hb dX7_bad_8 (by decide) (fun c0 => absurd c0 (by decide)) (fun _ => ?_)
  refine lv_aload_n hx hb dX7_bad_11 rfl (lv_at hl 0 rfl) ?_
  refine lv_iload_n hx hb dX7_bad_12 rfl (lv_at hl 2 rfl) ?_
  refine t_putS C w hT hm_m_ ht_m_ (fun b h1 h2 => hu_7 b m_ h1 hm_m_ h2 ht_m_) (by decide) rfl cin_7 tyX7 tyX7_ok nmX7 0 (by decide) rfl rfl rfl rfl rfl gw_1156 dX7_bad_13 (fun f H locs w hT hR1 => ?_)
  have hT := hT.mono gof_set
  have hR := hR.tr hR1
  refine lv_aload_n hx hb dX7_bad_16 rfl (lv_at hl 0 rfl) ?_
  refine t_geti C w hT hm_m_ ht_m_ (by decide) rfl cin_7 0 (by decide) rfl rfl gw_1156 dX7_bad_17 (fun x2 hg => ?_)
  obtain rfl : x2 = 2 := gof_at rfl hg
  refine lv_if_eq (tgt := 27) hx hb dX7_bad_20 (by decide) (fun c0 => absurd c0 (by decide)) (fun _ => ?_)
  refine lv_iconst (v := 1) hx hb dX7_bad_23 (by decide) ?_
  refine lv_goto (tgt := 28) hx hb dX7_bad_24 (by decide) ?_
  have n1 : (1 : Int32).toInt = 1 := by decide
  exact t_zret C hr hlk w (by decide) ⟨_, _, rfl, rfl, hT, hR, rfl⟩ (by decide) (by decide) dX7_bad_28
