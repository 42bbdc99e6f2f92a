theorem dX6_within_0 : decode cX6_within 0 = .ok (.iload_n 0, 1) := by decide +kernel
theorem dX6_within_1 : decode cX6_within 1 = .ok (.iload_n 1, 1) := by decide +kernel
theorem dX6_within_2 : decode cX6_within 2 = .ok (.if_icmp .lt 12, 3) := by decide +kernel
theorem dX6_within_5 : decode cX6_within 5 = .ok (.iload_n 0, 1) := by decide +kernel
theorem dX6_within_6 : decode cX6_within 6 = .ok (.iload_n 2, 1) := by decide +kernel
theorem dX6_within_7 : decode cX6_within 7 = .ok (.if_icmp .gt 7, 3) := by decide +kernel
theorem dX6_within_10 : decode cX6_within 10 = .ok (.iconst 1, 1) := by decide +kernel
theorem dX6_within_11 : decode cX6_within 11 = .ok (.goto 4, 3) := by decide +kernel
theorem dX6_within_14 : decode cX6_within 14 = .ok (.iconst 0, 1) := by decide +kernel
theorem dX6_within_15 : decode cX6_within 15 = .ok (.ireturn, 1) := by decide +kernel
theorem dX7_in_0 : decode cX7_in 0 = .ok (.iload_n 0, 1) := by decide +kernel
theorem dX7_in_1 : decode cX7_in 1 = .ok (.iload_n 1, 1) := by decide +kernel
theorem dX7_in_2 : decode cX7_in 2 = .ok (.if_icmp .lt 12, 3) := by decide +kernel
theorem dX7_in_5 : decode cX7_in 5 = .ok (.iload_n 0, 1) := by decide +kernel
theorem dX7_in_6 : decode cX7_in 6 = .ok (.iload_n 2, 1) := by decide +kernel
theorem dX7_in_7 : decode cX7_in 7 = .ok (.if_icmp .gt 7, 3) := by decide +kernel
theorem dX7_in_10 : decode cX7_in 10 = .ok (.iconst 1, 1) := by decide +kernel
theorem dX7_in_11 : decode cX7_in 11 = .ok (.goto 4, 3) := by decide +kernel
theorem dX7_in_14 : decode cX7_in 14 = .ok (.iconst 0, 1) := by decide +kernel
theorem dX7_in_15 : decode cX7_in 15 = .ok (.ireturn, 1) := by decide +kernel
set_option maxHeartbeats 4000000 in
set_option maxRecDepth 100000 in
theorem c_X6_within (l : Launch) (D : va_G) (K : Nat → ClassId) (b0 : Nat) (sa : Nat × Nat × Nat) (sz : Nat) (L : List Nat) (f0 : Nat → va_E) (Ψ : Nat → Nat) (G : tG) (hT : TW K G Ψ L f0) (v : Int32) (a : Int32) (b : Int32) : Met l yX6_within (.code yX6_within cX6_within 3 (some .boolean) :: gt) { frames := 0, cells := 0, slots := 0, locals := 0 } (va_Pc [.int v, .int a, .int b] (hPre D K b0 sa sz L f0)) (hQ D K b0 (fun v9 u9 => ∃ r : Int32, v9 = some (.int r) ∧ u9 = (G, Ψ, L, f0) ∧ ((r = 1 ∧ (a.toInt ≤ v.toInt) ∧ (v.toInt ≤ b.toInt)) ∨ (r = 0 ∧ (¬ (a.toInt ≤ v.toInt ∧ v.toInt ≤ b.toInt)))))) 0 0 (fun q => b0 ≤ q) := by
  refine t_of (own := RX6) (by decide) rfl ?_ (Nat.le_of_ble_eq_true rfl)
  intro p e s m below meth c ls C w hsz hr hlk hnm hl
  have hx := C.1
  have hb := C.2.1
  have hl : lv_has ls 3 [(0, .int v), (1, .int a), (2, .int b)] := hl
  have hb_v := ti_bd v
  have hb_a := ti_bd a
  have hb_b := ti_bd b
  have hR : rawk Ψ L f0 f0 := rawk.rf
  refine lv_iload_n hx hb dX6_within_0 rfl (lv_at hl 0 rfl) ?_
  refine lv_iload_n hx hb dX6_within_1 rfl (lv_at hl 1 rfl) ?_
  refine lv_icmp_lt (tgt := 14) hx hb dX6_within_2 (by decide) (fun c1 => ?_) (fun c1 => ?_)
  · have c1 := lt_toInt c1
    refine lv_iconst (v := 0) hx hb dX6_within_14 (by decide) ?_
    have n0 : (0 : Int32).toInt = 0 := by decide
    exact t_zret C hr hlk w (by decide) ⟨_, rfl, rfl, Or.inr (⟨rfl, (by omega)⟩)⟩ (by decide) (by decide) dX6_within_15
  · have c1 := nlt_toInt c1
    refine lv_iload_n hx hb dX6_within_5 rfl (lv_at hl 0 rfl) ?_
    refine lv_iload_n hx hb dX6_within_6 rfl (lv_at hl 2 rfl) ?_
    refine lv_icmp_gt (tgt := 14) hx hb dX6_within_7 (by decide) (fun c2 => ?_) (fun c2 => ?_)
    · have c2 := lt_toInt c2
      refine lv_iconst (v := 0) hx hb dX6_within_14 (by decide) ?_
      have n0 : (0 : Int32).toInt = 0 := by decide
      exact t_zret C hr hlk w (by decide) ⟨_, rfl, rfl, Or.inr (⟨rfl, (by omega)⟩)⟩ (by decide) (by decide) dX6_within_15
    · have c2 := nlt_toInt c2
      refine lv_iconst (v := 1) hx hb dX6_within_10 (by decide) ?_
      refine lv_goto (tgt := 15) hx hb dX6_within_11 (by decide) ?_
      have n1 : (1 : Int32).toInt = 1 := by decide
      exact t_zret C hr hlk w (by decide) ⟨_, rfl, rfl, Or.inl ⟨rfl, (by omega), (by omega)⟩⟩ (by decide) (by decide) dX6_within_15
set_option maxHeartbeats 4000000 in
set_option maxRecDepth 100000 in
theorem c_X7_in (l : Launch) (D : va_G) (K : Nat → ClassId) (b0 : Nat) (sa : Nat × Nat × Nat) (sz : Nat) (L : List Nat) (f0 : Nat → va_E) (Ψ : Nat → Nat) (G : tG) (hT : TW K G Ψ L f0) (v : Int32) (a : Int32) (b : Int32) : Met l yX7_in (.code yX7_in cX7_in 3 (some .boolean) :: gt) { frames := 0, cells := 0, slots := 0, locals := 0 } (va_Pc [.int v, .int a, .int b] (hPre D K b0 sa sz L f0)) (hQ D K b0 (fun v9 u9 => ∃ r : Int32, v9 = some (.int r) ∧ u9 = (G, Ψ, L, f0) ∧ ((r = 1 ∧ (a.toInt ≤ v.toInt) ∧ (v.toInt ≤ b.toInt)) ∨ (r = 0 ∧ (¬ (a.toInt ≤ v.toInt ∧ v.toInt ≤ b.toInt)))))) 0 0 (fun q => b0 ≤ q) := by
  refine t_of (own := RX7) (by decide) rfl ?_ (Nat.le_of_ble_eq_true rfl)
  intro p e s m below meth c ls C w hsz hr hlk hnm hl
  have hx := C.1
  have hb := C.2.1
  have hl : lv_has ls 3 [(0, .int v), (1, .int a), (2, .int b)] := hl
  have hb_v := ti_bd v
  have hb_a := ti_bd a
  have hb_b := ti_bd b
  have hR : rawk Ψ L f0 f0 := rawk.rf
  refine lv_iload_n hx hb dX7_in_0 rfl (lv_at hl 0 rfl) ?_
  refine lv_iload_n hx hb dX7_in_1 rfl (lv_at hl 1 rfl) ?_
  refine lv_icmp_lt (tgt := 14) hx hb dX7_in_2 (by decide) (fun c1 => ?_) (fun c1 => ?_)
  · have c1 := lt_toInt c1
    refine lv_iconst (v := 0) hx hb dX7_in_14 (by decide) ?_
    have n0 : (0 : Int32).toInt = 0 := by decide
    exact t_zret C hr hlk w (by decide) ⟨_, rfl, rfl, Or.inr (⟨rfl, (by omega)⟩)⟩ (by decide) (by decide) dX7_in_15
  · have c1 := nlt_toInt c1
    refine lv_iload_n hx hb dX7_in_5 rfl (lv_at hl 0 rfl) ?_
    refine lv_iload_n hx hb dX7_in_6 rfl (lv_at hl 2 rfl) ?_
    refine lv_icmp_gt (tgt := 14) hx hb dX7_in_7 (by decide) (fun c2 => ?_) (fun c2 => ?_)
    · have c2 := lt_toInt c2
      refine lv_iconst (v := 0) hx hb dX7_in_14 (by decide) ?_
      have n0 : (0 : Int32).toInt = 0 := by decide
      exact t_zret C hr hlk w (by decide) ⟨_, rfl, rfl, Or.inr (⟨rfl, (by omega)⟩)⟩ (by decide) (by decide) dX7_in_15
    · have c2 := nlt_toInt c2
      refine lv_iconst (v := 1) hx hb dX7_in_10 (by decide) ?_
      refine lv_goto (tgt := 15) hx hb dX7_in_11 (by decide) ?_
      have n1 : (1 : Int32).toInt = 1 := by decide
      exact t_zret C hr hlk w (by decide) ⟨_, rfl, rfl, Or.inl ⟨rfl, (by omega), (by omega)⟩⟩ (by decide) (by decide) dX7_in_15
