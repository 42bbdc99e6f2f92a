theorem dX0_init_0 : decode cX0_init 0 = .ok (.aload_n 0, 1) := by decide +kernel
theorem dX0_init_1 : decode cX0_init 1 = .ok (.invokespecial 3, 3) := by decide +kernel
theorem dX0_init_4 : decode cX0_init 4 = .ok (.aload_n 0, 1) := by decide +kernel
theorem dX0_init_5 : decode cX0_init 5 = .ok (.new 9, 3) := by decide +kernel
theorem dX0_init_8 : decode cX0_init 8 = .ok (.dup, 1) := by decide +kernel
theorem dX0_init_9 : decode cX0_init 9 = .ok (.invokespecial 11, 3) := by decide +kernel
theorem dX0_init_12 : decode cX0_init 12 = .ok (.putfield 12, 3) := by decide +kernel
theorem dX0_init_15 : decode cX0_init 15 = .ok (.aload_n 0, 1) := by decide +kernel
theorem dX0_init_16 : decode cX0_init 16 = .ok (.bipush 63, 2) := by decide +kernel
theorem dX0_init_18 : decode cX0_init 18 = .ok (.putfield 18, 3) := by decide +kernel
theorem dX0_init_21 : decode cX0_init 21 = .ok (.aload_n 0, 1) := by decide +kernel
theorem dX0_init_22 : decode cX0_init 22 = .ok (.bipush 14, 2) := by decide +kernel
theorem dX0_init_24 : decode cX0_init 24 = .ok (.putfield 22, 3) := by decide +kernel
theorem dX0_init_27 : decode cX0_init 27 = .ok (.aload_n 0, 1) := by decide +kernel
theorem dX0_init_28 : decode cX0_init 28 = .ok (.iconst 1, 1) := by decide +kernel
theorem dX0_init_29 : decode cX0_init 29 = .ok (.putfield 25, 3) := by decide +kernel
theorem dX0_init_32 : decode cX0_init 32 = .ok (.aload_n 0, 1) := by decide +kernel
theorem dX0_init_33 : decode cX0_init 33 = .ok (.iconst 0, 1) := by decide +kernel
theorem dX0_init_34 : decode cX0_init 34 = .ok (.putfield 28, 3) := by decide +kernel
theorem dX0_init_37 : decode cX0_init 37 = .ok (.aload_n 0, 1) := by decide +kernel
theorem dX0_init_38 : decode cX0_init 38 = .ok (.iconst 1, 1) := by decide +kernel
theorem dX0_init_39 : decode cX0_init 39 = .ok (.putfield 31, 3) := by decide +kernel
theorem dX0_init_42 : decode cX0_init 42 = .ok (.aload_n 0, 1) := by decide +kernel
theorem dX0_init_43 : decode cX0_init 43 = .ok (.iconst (-1), 1) := by decide +kernel
theorem dX0_init_44 : decode cX0_init 44 = .ok (.putfield 34, 3) := by decide +kernel
theorem dX0_init_47 : decode cX0_init 47 = .ok (.aload_n 0, 1) := by decide +kernel
theorem dX0_init_48 : decode cX0_init 48 = .ok (.iconst 0, 1) := by decide +kernel
theorem dX0_init_49 : decode cX0_init 49 = .ok (.putfield 37, 3) := by decide +kernel
theorem dX0_init_52 : decode cX0_init 52 = .ok (.aload_n 0, 1) := by decide +kernel
theorem dX0_init_53 : decode cX0_init 53 = .ok (.iconst 0, 1) := by decide +kernel
theorem dX0_init_54 : decode cX0_init 54 = .ok (.putfield 40, 3) := by decide +kernel
theorem dX0_init_57 : decode cX0_init 57 = .ok (.aload_n 0, 1) := by decide +kernel
theorem dX0_init_58 : decode cX0_init 58 = .ok (.iconst 0, 1) := by decide +kernel
theorem dX0_init_59 : decode cX0_init 59 = .ok (.putfield 43, 3) := by decide +kernel
theorem dX0_init_62 : decode cX0_init 62 = .ok (.aload_n 0, 1) := by decide +kernel
theorem dX0_init_63 : decode cX0_init 63 = .ok (.iconst 0, 1) := by decide +kernel
theorem dX0_init_64 : decode cX0_init 64 = .ok (.putfield 46, 3) := by decide +kernel
theorem dX0_init_67 : decode cX0_init 67 = .ok (.aload_n 0, 1) := by decide +kernel
theorem dX0_init_68 : decode cX0_init 68 = .ok (.sipush 200, 3) := by decide +kernel
theorem dX0_init_71 : decode cX0_init 71 = .ok (.anewarray 49, 3) := by decide +kernel
theorem dX0_init_74 : decode cX0_init 74 = .ok (.putfield 51, 3) := by decide +kernel
theorem dX0_init_77 : decode cX0_init 77 = .ok (.aload_n 0, 1) := by decide +kernel
theorem dX0_init_78 : decode cX0_init 78 = .ok (.iconst 0, 1) := by decide +kernel
theorem dX0_init_79 : decode cX0_init 79 = .ok (.putfield 55, 3) := by decide +kernel
theorem dX0_init_82 : decode cX0_init 82 = .ok (.return_, 1) := by decide +kernel
set_option maxHeartbeats 8000000 in
set_option maxRecDepth 100000 in
theorem g_X0_init (l : Launch) (D : va_G) (K : Nat → ClassId) (b0 : Nat) (sa : sT) (sz : Nat) (LO : List Nat) (fO : Nat → va_E) (adO : Nat → Nat → Nat) (PO : Nat → Nat → Prop) (hw : PW K adO PO SI LO fO) (hR : RC PO SI) (i : Nat) (hn_1 : ¬ PO 1 i) (hn_2 : ¬ PO 2 i) (hn_3 : ¬ PO 3 i) (hn_4 : ¬ PO 4 i) (hn_5 : ¬ PO 5 i) (hn_6 : ¬ PO 6 i) (hn_7 : ¬ PO 7 i) (hn_8 : ¬ PO 8 i) (hn_9 : ¬ PO 9 i) (hn_10 : ¬ PO 10 i) (hn_11 : ¬ PO 11 i) (x : Nat) (hm : x ∈ LO) (hfx : fO x = .inr (0, [.null, .int 0, .int 0, .int 0, .int 0, .int 0, .int 0, .int 0, .int 0, .int 0, .int 0, .null, .int 0])) (hne : ∀ a k : Nat, PO a k → adO a k ≠ x) : Met l yX0_init (.code yX0_init cX0_init 1 none :: gt) { frames := 2, cells := 10, slots := 441, locals := 43 } (va_Pc [.ref x] (hPre D K b0 sa sz LO fO)) (hQ D K b0 (fun v9 u9 => ∃ (P2 : Nat → Nat → Prop) (ad2 : Nat → Nat → Nat) (L2 : List Nat) (f2 : Nat → va_E), v9 = none ∧ u9 = lU L2 f2 ∧ PW K ad2 P2 SI L2 f2 ∧ RC P2 SI ∧ (∀ a k : Nat, P2 a k ↔ PO a k ∨ (a, k) ∈ [(1, i), (11, i), (2, i), (10, i), (9, i), (8, i), (7, i), (6, i), (5, i), (4, i), (3, i)]) ∧ Gr (fun b => b = x) PO adO LO fO P2 ad2 L2 f2 ∧ ad2 1 i = x)) 10 441 (fun q => b0 ≤ q) := by
  refine t_of (own := RX0) (by decide) rfl ?_ (Nat.le_of_ble_eq_true rfl)
  intro p e s m below meth c ls C w hsz hr hlk hnm hl
  have hx := C.1
  have hb := C.2.1
  have hl : lv_has ls 1 [(0, .ref x)] := hl
  obtain ⟨H, eH⟩ : ∃ z, z = s.heap := ⟨_, rfl⟩
  obtain ⟨locs, el⟩ : ∃ z : List Loc, z = [] := ⟨_, rfl⟩
  rw [← eH, ← el] at w ⊢
  obtain ⟨P, ad, L, f, B, w, hI⟩ : ∃ (P2 : Nat → Nat → Prop) (ad2 : Nat → Nat → Nat) (L2 : List Nat) (f2 : Nat → va_E), Bd K SI (fun b => b = x) PO adO LO fO P2 ad2 L2 f2 x 0 [.null, .int 0, .int 0, .int 0, .int 0, .int 0, .int 0, .int 0, .int 0, .int 0, .int 0, .null, .int 0] ∧ Wh D K b0 sa s H locs L2 f2 ∧ (∀ a k : Nat, P2 a k ↔ PO a k ∨ (a, k) ∈ ([] : List (Nat × Nat))) := ⟨PO, adO, LO, fO, Bd.of hw hR hm hfx hne, w, fun a k => by simp⟩
  refine lv_aload_n hx hb dX0_init_0 rfl (lv_at hl 0 rfl) ?_
  refine t_obj0 C hl.1 gw_36 gw_29 gw_30 dX0_init_1 (by decide) (Nat.le_of_ble_eq_true rfl) ?_
  refine lv_aload_n hx hb dX0_init_4 rfl (lv_at hl 0 rfl) ?_
  refine g_new C w (t := 2) rfl cin_2 tyX2 tyX2_ok gw_37 gw_38 gw_3 (fs := [.int 0, .null, .null, .null, .null, .null, .null, .null, .null]) dfl_2 (Nat.le_of_ble_eq_true rfl) (Nat.le_of_ble_eq_true rfl) dX0_init_5 (fun q1 H hq w => ?_)
  obtain ⟨L, f, B, w, R_q1⟩ : ∃ (L2 : List Nat) (f2 : Nat → va_E), Bd K SI (fun b => b = x) PO adO LO fO P ad L2 f2 x 0 [.null, .int 0, .int 0, .int 0, .int 0, .int 0, .int 0, .int 0, .int 0, .int 0, .int 0, .null, .int 0] ∧ Wh D K b0 sa s H locs L2 f2 ∧ Rw P ad LO L2 f2 x q1 (.inr (2, [.int 0, .null, .null, .null, .null, .null, .null, .null, .null])) := ⟨L ++ [q1], va_up f q1 (.inr (2, [.int 0, .null, .null, .null, .null, .null, .null, .null, .null])), (B.raw hq).1, w, (B.raw hq).2⟩
  refine lv_dup hx hb dX0_init_8 rfl ?_
  refine t_callI (n := 0) (As := []) C w (g_X2_init l D K b0 sa _ L f ad P B.1 B.2.1 i (fun h => ((hI 2 i).mp h).elim hn_2 (by simp)) (fun h => ((hI 3 i).mp h).elim hn_3 (by simp)) (fun h => ((hI 4 i).mp h).elim hn_4 (by simp)) (fun h => ((hI 5 i).mp h).elim hn_5 (by simp)) (fun h => ((hI 6 i).mp h).elim hn_6 (by simp)) (fun h => ((hI 7 i).mp h).elim hn_7 (by simp)) (fun h => ((hI 8 i).mp h).elim hn_8 (by simp)) (fun h => ((hI 9 i).mp h).elim hn_9 (by simp)) (fun h => ((hI 10 i).mp h).elim hn_10 (by simp)) q1 R_q1.1 R_q1.2.1 R_q1.2.2.1) gw_41 gw_39 rfl gw_40 gw_3 ⟨by decide, by decide, by decide +kernel⟩ rfl rfl ⟨by decide, by decide⟩ rfl hl.1 rfl (Nat.le_of_ble_eq_true rfl) dX0_init_9 ⟨Nat.le_of_ble_eq_true rfl, Nat.le_of_ble_eq_true rfl⟩ (fun v9 u H locs hp w => ?_)
  obtain ⟨P3, ad3, L3, f3, rfl, rfl, g1, g2, hI2, g3, had⟩ := hp
  obtain ⟨P, ad, L, f, B, w, hI, h_2_i⟩ : ∃ (P2 : Nat → Nat → Prop) (ad2 : Nat → Nat → Nat) (L2 : List Nat) (f2 : Nat → va_E), Bd K SI (fun b => b = x) PO adO LO fO P2 ad2 L2 f2 x 0 [.null, .int 0, .int 0, .int 0, .int 0, .int 0, .int 0, .int 0, .int 0, .int 0, .int 0, .null, .int 0] ∧ Wh D K b0 sa s H locs L2 f2 ∧ (∀ a k : Nat, P2 a k ↔ PO a k ∨ (a, k) ∈ [(2, i), (10, i), (9, i), (8, i), (7, i), (6, i), (5, i), (4, i), (3, i)]) ∧ ad2 2 i = q1 := ⟨P3, ad3, L3, f3, (B.call R_q1 g1 g2 g3), w, (Pc_iff hI hI2), had⟩
  refine t_putF C (hnm.trans rfl) w B.2.2.2.1 B.2.2.2.2.1 rfl cin_0 tyX0 tyX0_ok nmX0 0 (by decide) (Nat.le_of_ble_eq_true rfl) rfl rfl rfl rfl gw_88 dX0_init_12 (fun H locs w => ?_)
  obtain ⟨f, B, w⟩ : ∃ (f2 : Nat → va_E), Bd K SI (fun b => b = x) PO adO LO fO P ad L f2 x 0 [.ref q1, .int 0, .int 0, .int 0, .int 0, .int 0, .int 0, .int 0, .int 0, .int 0, .int 0, .null, .int 0] ∧ Wh D K b0 sa s H locs L f2 := ⟨va_up f x (.inr (0, [.ref q1, .int 0, .int 0, .int 0, .int 0, .int 0, .int 0, .int 0, .int 0, .int 0, .int 0, .null, .int 0])), B.put, w⟩
  refine lv_aload_n hx hb dX0_init_15 rfl (lv_at hl 0 rfl) ?_
  refine lv_bipush (v := 63) hx hb dX0_init_16 (by decide) ?_
  refine t_putv C w B.2.2.2.1 B.2.2.2.2.1 rfl cin_0 tyX0 tyX0_ok nmX0 1 (by decide) (Nat.le_of_ble_eq_true rfl) rfl rfl rfl gw_91 dX0_init_18 (fun H locs w => ?_)
  obtain ⟨f, B, w⟩ : ∃ (f2 : Nat → va_E), Bd K SI (fun b => b = x) PO adO LO fO P ad L f2 x 0 [.ref q1, .int 63, .int 0, .int 0, .int 0, .int 0, .int 0, .int 0, .int 0, .int 0, .int 0, .null, .int 0] ∧ Wh D K b0 sa s H locs L f2 := ⟨va_up f x (.inr (0, [.ref q1, .int 63, .int 0, .int 0, .int 0, .int 0, .int 0, .int 0, .int 0, .int 0, .int 0, .null, .int 0])), B.put, w⟩
  refine lv_aload_n hx hb dX0_init_21 rfl (lv_at hl 0 rfl) ?_
  refine lv_bipush (v := 14) hx hb dX0_init_22 (by decide) ?_
  refine t_putv C w B.2.2.2.1 B.2.2.2.2.1 rfl cin_0 tyX0 tyX0_ok nmX0 2 (by decide) (Nat.le_of_ble_eq_true rfl) rfl rfl rfl gw_94 dX0_init_24 (fun H locs w => ?_)
  obtain ⟨f, B, w⟩ : ∃ (f2 : Nat → va_E), Bd K SI (fun b => b = x) PO adO LO fO P ad L f2 x 0 [.ref q1, .int 63, .int 14, .int 0, .int 0, .int 0, .int 0, .int 0, .int 0, .int 0, .int 0, .null, .int 0] ∧ Wh D K b0 sa s H locs L f2 := ⟨va_up f x (.inr (0, [.ref q1, .int 63, .int 14, .int 0, .int 0, .int 0, .int 0, .int 0, .int 0, .int 0, .int 0, .null, .int 0])), B.put, w⟩
  refine lv_aload_n hx hb dX0_init_27 rfl (lv_at hl 0 rfl) ?_
  refine lv_iconst (v := 1) hx hb dX0_init_28 (by decide) ?_
  refine t_putv C w B.2.2.2.1 B.2.2.2.2.1 rfl cin_0 tyX0 tyX0_ok nmX0 3 (by decide) (Nat.le_of_ble_eq_true rfl) rfl rfl rfl gw_97 dX0_init_29 (fun H locs w => ?_)
  obtain ⟨f, B, w⟩ : ∃ (f2 : Nat → va_E), Bd K SI (fun b => b = x) PO adO LO fO P ad L f2 x 0 [.ref q1, .int 63, .int 14, .int 1, .int 0, .int 0, .int 0, .int 0, .int 0, .int 0, .int 0, .null, .int 0] ∧ Wh D K b0 sa s H locs L f2 := ⟨va_up f x (.inr (0, [.ref q1, .int 63, .int 14, .int 1, .int 0, .int 0, .int 0, .int 0, .int 0, .int 0, .int 0, .null, .int 0])), B.put, w⟩
  refine lv_aload_n hx hb dX0_init_32 rfl (lv_at hl 0 rfl) ?_
  refine lv_iconst (v := 0) hx hb dX0_init_33 (by decide) ?_
  refine t_putv C w B.2.2.2.1 B.2.2.2.2.1 rfl cin_0 tyX0 tyX0_ok nmX0 4 (by decide) (Nat.le_of_ble_eq_true rfl) rfl rfl rfl gw_100 dX0_init_34 (fun H locs w => ?_)
  obtain ⟨f, B, w⟩ : ∃ (f2 : Nat → va_E), Bd K SI (fun b => b = x) PO adO LO fO P ad L f2 x 0 [.ref q1, .int 63, .int 14, .int 1, .int 0, .int 0, .int 0, .int 0, .int 0, .int 0, .int 0, .null, .int 0] ∧ Wh D K b0 sa s H locs L f2 := ⟨va_up f x (.inr (0, [.ref q1, .int 63, .int 14, .int 1, .int 0, .int 0, .int 0, .int 0, .int 0, .int 0, .int 0, .null, .int 0])), B.put, w⟩
  refine lv_aload_n hx hb dX0_init_37 rfl (lv_at hl 0 rfl) ?_
  refine lv_iconst (v := 1) hx hb dX0_init_38 (by decide) ?_
  refine t_putv C w B.2.2.2.1 B.2.2.2.2.1 rfl cin_0 tyX0 tyX0_ok nmX0 5 (by decide) (Nat.le_of_ble_eq_true rfl) rfl rfl rfl gw_103 dX0_init_39 (fun H locs w => ?_)
  obtain ⟨f, B, w⟩ : ∃ (f2 : Nat → va_E), Bd K SI (fun b => b = x) PO adO LO fO P ad L f2 x 0 [.ref q1, .int 63, .int 14, .int 1, .int 0, .int 1, .int 0, .int 0, .int 0, .int 0, .int 0, .null, .int 0] ∧ Wh D K b0 sa s H locs L f2 := ⟨va_up f x (.inr (0, [.ref q1, .int 63, .int 14, .int 1, .int 0, .int 1, .int 0, .int 0, .int 0, .int 0, .int 0, .null, .int 0])), B.put, w⟩
  refine lv_aload_n hx hb dX0_init_42 rfl (lv_at hl 0 rfl) ?_
  refine lv_iconst (v := (-1)) hx hb dX0_init_43 (by decide) ?_
  refine t_putv C w B.2.2.2.1 B.2.2.2.2.1 rfl cin_0 tyX0 tyX0_ok nmX0 6 (by decide) (Nat.le_of_ble_eq_true rfl) rfl rfl rfl gw_105 dX0_init_44 (fun H locs w => ?_)
  obtain ⟨f, B, w⟩ : ∃ (f2 : Nat → va_E), Bd K SI (fun b => b = x) PO adO LO fO P ad L f2 x 0 [.ref q1, .int 63, .int 14, .int 1, .int 0, .int 1, .int (-1), .int 0, .int 0, .int 0, .int 0, .null, .int 0] ∧ Wh D K b0 sa s H locs L f2 := ⟨va_up f x (.inr (0, [.ref q1, .int 63, .int 14, .int 1, .int 0, .int 1, .int (-1), .int 0, .int 0, .int 0, .int 0, .null, .int 0])), B.put, w⟩
  refine lv_aload_n hx hb dX0_init_47 rfl (lv_at hl 0 rfl) ?_
  refine lv_iconst (v := 0) hx hb dX0_init_48 (by decide) ?_
  refine t_putv C w B.2.2.2.1 B.2.2.2.2.1 rfl cin_0 tyX0 tyX0_ok nmX0 7 (by decide) (Nat.le_of_ble_eq_true rfl) rfl rfl rfl gw_107 dX0_init_49 (fun H locs w => ?_)
  obtain ⟨f, B, w⟩ : ∃ (f2 : Nat → va_E), Bd K SI (fun b => b = x) PO adO LO fO P ad L f2 x 0 [.ref q1, .int 63, .int 14, .int 1, .int 0, .int 1, .int (-1), .int 0, .int 0, .int 0, .int 0, .null, .int 0] ∧ Wh D K b0 sa s H locs L f2 := ⟨va_up f x (.inr (0, [.ref q1, .int 63, .int 14, .int 1, .int 0, .int 1, .int (-1), .int 0, .int 0, .int 0, .int 0, .null, .int 0])), B.put, w⟩
  refine lv_aload_n hx hb dX0_init_52 rfl (lv_at hl 0 rfl) ?_
  refine lv_iconst (v := 0) hx hb dX0_init_53 (by decide) ?_
  refine t_putv C w B.2.2.2.1 B.2.2.2.2.1 rfl cin_0 tyX0 tyX0_ok nmX0 8 (by decide) (Nat.le_of_ble_eq_true rfl) rfl rfl rfl gw_110 dX0_init_54 (fun H locs w => ?_)
  obtain ⟨f, B, w⟩ : ∃ (f2 : Nat → va_E), Bd K SI (fun b => b = x) PO adO LO fO P ad L f2 x 0 [.ref q1, .int 63, .int 14, .int 1, .int 0, .int 1, .int (-1), .int 0, .int 0, .int 0, .int 0, .null, .int 0] ∧ Wh D K b0 sa s H locs L f2 := ⟨va_up f x (.inr (0, [.ref q1, .int 63, .int 14, .int 1, .int 0, .int 1, .int (-1), .int 0, .int 0, .int 0, .int 0, .null, .int 0])), B.put, w⟩
  refine lv_aload_n hx hb dX0_init_57 rfl (lv_at hl 0 rfl) ?_
  refine lv_iconst (v := 0) hx hb dX0_init_58 (by decide) ?_
  refine t_putv C w B.2.2.2.1 B.2.2.2.2.1 rfl cin_0 tyX0 tyX0_ok nmX0 9 (by decide) (Nat.le_of_ble_eq_true rfl) rfl rfl rfl gw_113 dX0_init_59 (fun H locs w => ?_)
  obtain ⟨f, B, w⟩ : ∃ (f2 : Nat → va_E), Bd K SI (fun b => b = x) PO adO LO fO P ad L f2 x 0 [.ref q1, .int 63, .int 14, .int 1, .int 0, .int 1, .int (-1), .int 0, .int 0, .int 0, .int 0, .null, .int 0] ∧ Wh D K b0 sa s H locs L f2 := ⟨va_up f x (.inr (0, [.ref q1, .int 63, .int 14, .int 1, .int 0, .int 1, .int (-1), .int 0, .int 0, .int 0, .int 0, .null, .int 0])), B.put, w⟩
  refine lv_aload_n hx hb dX0_init_62 rfl (lv_at hl 0 rfl) ?_
  refine lv_iconst (v := 0) hx hb dX0_init_63 (by decide) ?_
  refine t_putv C w B.2.2.2.1 B.2.2.2.2.1 rfl cin_0 tyX0 tyX0_ok nmX0 10 (by decide) (Nat.le_of_ble_eq_true rfl) rfl rfl rfl gw_116 dX0_init_64 (fun H locs w => ?_)
  obtain ⟨f, B, w⟩ : ∃ (f2 : Nat → va_E), Bd K SI (fun b => b = x) PO adO LO fO P ad L f2 x 0 [.ref q1, .int 63, .int 14, .int 1, .int 0, .int 1, .int (-1), .int 0, .int 0, .int 0, .int 0, .null, .int 0] ∧ Wh D K b0 sa s H locs L f2 := ⟨va_up f x (.inr (0, [.ref q1, .int 63, .int 14, .int 1, .int 0, .int 1, .int (-1), .int 0, .int 0, .int 0, .int 0, .null, .int 0])), B.put, w⟩
  refine lv_aload_n hx hb dX0_init_67 rfl (lv_at hl 0 rfl) ?_
  refine lv_sipush (v := 200) hx hb dX0_init_68 (by decide) ?_
  refine g_newQ C w (ti := 4) rfl gw_86 w.2.2.2.2.2.1.2.2.2.1.1 (N := 200) (by decide) (by decide) (by decide) (Nat.le_of_ble_eq_true rfl) (Nat.le_of_ble_eq_true rfl) dX0_init_71 (fun q2 H hq w => ?_)
  obtain ⟨P, ad, L, f, B, w, hI, h_2_i, h_11_i⟩ : ∃ (P2 : Nat → Nat → Prop) (ad2 : Nat → Nat → Nat) (L2 : List Nat) (f2 : Nat → va_E), Bd K SI (fun b => b = x) PO adO LO fO P2 ad2 L2 f2 x 0 [.ref q1, .int 63, .int 14, .int 1, .int 0, .int 1, .int (-1), .int 0, .int 0, .int 0, .int 0, .null, .int 0] ∧ Wh D K b0 sa s H locs L2 f2 ∧ (∀ a k : Nat, P2 a k ↔ PO a k ∨ (a, k) ∈ [(11, i), (2, i), (10, i), (9, i), (8, i), (7, i), (6, i), (5, i), (4, i), (3, i)]) ∧ ad2 2 i = q1 ∧ ad2 11 i = q2 := ⟨Pu P 11 i, au ad 11 i q2, L ++ [q2], va_up f q2 _, (B.arr (fun h => ((hI 11 i).mp h).elim hn_11 (by simp)) hq rfl (fun b c => rf_3 (Or.inl rfl) (fun _ => rfl))), w, (Pu_iff hI), ((au_ne (fun h => absurd h.1 (by decide))).trans h_2_i), au_self⟩
  refine t_putF C (hnm.trans rfl) w B.2.2.2.1 B.2.2.2.2.1 rfl cin_0 tyX0 tyX0_ok nmX0 11 (by decide) (Nat.le_of_ble_eq_true rfl) rfl rfl rfl rfl gw_119 dX0_init_74 (fun H locs w => ?_)
  obtain ⟨f, B, w⟩ : ∃ (f2 : Nat → va_E), Bd K SI (fun b => b = x) PO adO LO fO P ad L f2 x 0 [.ref q1, .int 63, .int 14, .int 1, .int 0, .int 1, .int (-1), .int 0, .int 0, .int 0, .int 0, .ref q2, .int 0] ∧ Wh D K b0 sa s H locs L f2 := ⟨va_up f x (.inr (0, [.ref q1, .int 63, .int 14, .int 1, .int 0, .int 1, .int (-1), .int 0, .int 0, .int 0, .int 0, .ref q2, .int 0])), B.put, w⟩
  refine lv_aload_n hx hb dX0_init_77 rfl (lv_at hl 0 rfl) ?_
  refine lv_iconst (v := 0) hx hb dX0_init_78 (by decide) ?_
  refine t_putv C w B.2.2.2.1 B.2.2.2.2.1 rfl cin_0 tyX0 tyX0_ok nmX0 12 (by decide) (Nat.le_of_ble_eq_true rfl) rfl rfl rfl gw_120 dX0_init_79 (fun H locs w => ?_)
  obtain ⟨f, B, w⟩ : ∃ (f2 : Nat → va_E), Bd K SI (fun b => b = x) PO adO LO fO P ad L f2 x 0 [.ref q1, .int 63, .int 14, .int 1, .int 0, .int 1, .int (-1), .int 0, .int 0, .int 0, .int 0, .ref q2, .int 0] ∧ Wh D K b0 sa s H locs L f2 := ⟨va_up f x (.inr (0, [.ref q1, .int 63, .int 14, .int 1, .int 0, .int 1, .int (-1), .int 0, .int 0, .int 0, .int 0, .ref q2, .int 0])), B.put, w⟩
  have hcell : (.inr (0, [.ref q1, .int 63, .int 14, .int 1, .int 0, .int 1, .int (-1), .int 0, .int 0, .int 0, .int 0, .ref q2, .int 0]) : va_E) = cellOf K (au ad 1 i x) SI 1 i := by
    rw [cell_0 rfl]
    show (Sum.inr (0, [.ref q1, .int 63, .int 14, .int 1, .int 0, .int 1, .int (-1), .int 0, .int 0, .int 0, .int 0, .ref q2, .int 0]) : va_E) = Sum.inr (0, [.ref (ad 2 i), .int 63, .int 14, .int 1, .int 0, .int 1, .int (-1), .int 0, .int 0, .int 0, .int 0, .ref (ad 11 i), .int 0])
    rw [h_2_i, h_11_i]
  have href : ∀ b c : Nat, Rf SI 1 i b c → P b c := by
    intro b c hr
    obtain ⟨j, hj, hd, hq⟩ := rf_0 rfl hr
    match j, hj, hd, hq with
    | 0, _, _, hq => have e9 : (2, i) = (b, c) := hq; cases e9; exact ((hI 2 i).mpr (Or.inr (by simp)))
    | 1, _, hd, _ => exact absurd rfl hd
    | 2, _, hd, _ => exact absurd rfl hd
    | 3, _, hd, _ => exact absurd rfl hd
    | 4, _, hd, _ => exact absurd rfl hd
    | 5, _, hd, _ => exact absurd rfl hd
    | 6, _, hd, _ => exact absurd rfl hd
    | 7, _, hd, _ => exact absurd rfl hd
    | 8, _, hd, _ => exact absurd rfl hd
    | 9, _, hd, _ => exact absurd rfl hd
    | 10, _, hd, _ => exact absurd rfl hd
    | 11, _, _, hq => have e9 : (11, i) = (b, c) := hq; cases e9; exact ((hI 11 i).mpr (Or.inr (by simp)))
    | 12, _, hd, _ => exact absurd rfl hd
    | (j + 13), hj, _, _ => exact absurd hj (show ¬ j + 13 < 13 by omega)
  have z := B.fin (fun h => ((hI 1 i).mp h).elim hn_1 (by simp)) hcell href
  exact t_vret C hr hlk w ⟨_, _, _, _, rfl, rfl, z.1, z.2.1, Pu_iff hI, z.2.2, au_self⟩ (by decide) (by decide) dX0_init_82
theorem dX3_init_0 : decode cX3_init 0 = .ok (.aload_n 0, 1) := by decide +kernel
theorem dX3_init_1 : decode cX3_init 1 = .ok (.invokespecial 3, 3) := by decide +kernel
theorem dX3_init_4 : decode cX3_init 4 = .ok (.aload_n 0, 1) := by decide +kernel
theorem dX3_init_5 : decode cX3_init 5 = .ok (.sipush 300, 3) := by decide +kernel
theorem dX3_init_8 : decode cX3_init 8 = .ok (.newarray .int, 2) := by decide +kernel
theorem dX3_init_10 : decode cX3_init 10 = .ok (.putfield 9, 3) := by decide +kernel
theorem dX3_init_13 : decode cX3_init 13 = .ok (.aload_n 0, 1) := by decide +kernel
theorem dX3_init_14 : decode cX3_init 14 = .ok (.iconst 0, 1) := by decide +kernel
theorem dX3_init_15 : decode cX3_init 15 = .ok (.putfield 15, 3) := by decide +kernel
theorem dX3_init_18 : decode cX3_init 18 = .ok (.aload_n 0, 1) := by decide +kernel
theorem dX3_init_19 : decode cX3_init 19 = .ok (.iconst 3, 1) := by decide +kernel
theorem dX3_init_20 : decode cX3_init 20 = .ok (.newarray .int, 2) := by decide +kernel
theorem dX3_init_22 : decode cX3_init 22 = .ok (.putfield 19, 3) := by decide +kernel
theorem dX3_init_25 : decode cX3_init 25 = .ok (.return_, 1) := by decide +kernel
set_option maxHeartbeats 8000000 in
set_option maxRecDepth 100000 in
theorem g_X3_init (l : Launch) (D : va_G) (K : Nat → ClassId) (b0 : Nat) (sa : sT) (sz : Nat) (LO : List Nat) (fO : Nat → va_E) (adO : Nat → Nat → Nat) (PO : Nat → Nat → Prop) (hw : PW K adO PO SI LO fO) (hR : RC PO SI) (hn_22 : ¬ PO 22 0) (hn_23 : ¬ PO 23 0) (hn_24 : ¬ PO 24 0) (x : Nat) (hm : x ∈ LO) (hfx : fO x = .inr (3, [.null, .int 0, .null])) (hne : ∀ a k : Nat, PO a k → adO a k ≠ x) : Met l yX3_init (.code yX3_init cX3_init 1 none :: gt) { frames := 1, cells := 2, slots := 303, locals := 12 } (va_Pc [.ref x] (hPre D K b0 sa sz LO fO)) (hQ D K b0 (fun v9 u9 => ∃ (P2 : Nat → Nat → Prop) (ad2 : Nat → Nat → Nat) (L2 : List Nat) (f2 : Nat → va_E), v9 = none ∧ u9 = lU L2 f2 ∧ PW K ad2 P2 SI L2 f2 ∧ RC P2 SI ∧ (∀ a k : Nat, P2 a k ↔ PO a k ∨ (a, k) ∈ [(22, 0), (24, 0), (23, 0)]) ∧ Gr (fun b => b = x) PO adO LO fO P2 ad2 L2 f2 ∧ ad2 22 0 = x)) 2 303 (fun q => b0 ≤ q) := by
  refine t_of (own := RX3) (by decide) rfl ?_ (Nat.le_of_ble_eq_true rfl)
  intro p e s m below meth c ls C w hsz hr hlk hnm hl
  have hx := C.1
  have hb := C.2.1
  have hl : lv_has ls 1 [(0, .ref x)] := hl
  obtain ⟨H, eH⟩ : ∃ z, z = s.heap := ⟨_, rfl⟩
  obtain ⟨locs, el⟩ : ∃ z : List Loc, z = [] := ⟨_, rfl⟩
  rw [← eH, ← el] at w ⊢
  obtain ⟨P, ad, L, f, B, w, hI⟩ : ∃ (P2 : Nat → Nat → Prop) (ad2 : Nat → Nat → Nat) (L2 : List Nat) (f2 : Nat → va_E), Bd K SI (fun b => b = x) PO adO LO fO P2 ad2 L2 f2 x 3 [.null, .int 0, .null] ∧ Wh D K b0 sa s H locs L2 f2 ∧ (∀ a k : Nat, P2 a k ↔ PO a k ∨ (a, k) ∈ ([] : List (Nat × Nat))) := ⟨PO, adO, LO, fO, Bd.of hw hR hm hfx hne, w, fun a k => by simp⟩
  refine lv_aload_n hx hb dX3_init_0 rfl (lv_at hl 0 rfl) ?_
  refine t_obj0 C hl.1 gw_202 gw_29 gw_30 dX3_init_1 (by decide) (Nat.le_of_ble_eq_true rfl) ?_
  refine lv_aload_n hx hb dX3_init_4 rfl (lv_at hl 0 rfl) ?_
  refine lv_sipush (v := 300) hx hb dX3_init_5 (by decide) ?_
  refine g_newI C w (at_ := .int) (ti := 0) (ty := .int) rfl rfl (Or.inl rfl) gw_85 (N := 300) (by decide) (by decide) (by decide) (Nat.le_of_ble_eq_true rfl) (Nat.le_of_ble_eq_true rfl) dX3_init_8 (fun q1 H hq w => ?_)
  obtain ⟨P, ad, L, f, B, w, hI, h_23_0⟩ : ∃ (P2 : Nat → Nat → Prop) (ad2 : Nat → Nat → Nat) (L2 : List Nat) (f2 : Nat → va_E), Bd K SI (fun b => b = x) PO adO LO fO P2 ad2 L2 f2 x 3 [.null, .int 0, .null] ∧ Wh D K b0 sa s H locs L2 f2 ∧ (∀ a k : Nat, P2 a k ↔ PO a k ∨ (a, k) ∈ [(23, 0)]) ∧ ad2 23 0 = q1 := ⟨Pu P 23 0, au ad 23 0 q1, L ++ [q1], va_up f q1 _, (B.arr (fun h => ((hI 23 0).mp h).elim hn_23 (by simp)) hq rfl (fun b c => rf_1 rfl)), w, (Pu_iff hI), au_self⟩
  refine t_putF C (hnm.trans rfl) w B.2.2.2.1 B.2.2.2.2.1 rfl cin_3 tyX3 tyX3_ok nmX3 0 (by decide) (Nat.le_of_ble_eq_true rfl) rfl rfl rfl rfl gw_203 dX3_init_10 (fun H locs w => ?_)
  obtain ⟨f, B, w⟩ : ∃ (f2 : Nat → va_E), Bd K SI (fun b => b = x) PO adO LO fO P ad L f2 x 3 [.ref q1, .int 0, .null] ∧ Wh D K b0 sa s H locs L f2 := ⟨va_up f x (.inr (3, [.ref q1, .int 0, .null])), B.put, w⟩
  refine lv_aload_n hx hb dX3_init_13 rfl (lv_at hl 0 rfl) ?_
  refine lv_iconst (v := 0) hx hb dX3_init_14 (by decide) ?_
  refine t_putv C w B.2.2.2.1 B.2.2.2.2.1 rfl cin_3 tyX3 tyX3_ok nmX3 1 (by decide) (Nat.le_of_ble_eq_true rfl) rfl rfl rfl gw_204 dX3_init_15 (fun H locs w => ?_)
  obtain ⟨f, B, w⟩ : ∃ (f2 : Nat → va_E), Bd K SI (fun b => b = x) PO adO LO fO P ad L f2 x 3 [.ref q1, .int 0, .null] ∧ Wh D K b0 sa s H locs L f2 := ⟨va_up f x (.inr (3, [.ref q1, .int 0, .null])), B.put, w⟩
  refine lv_aload_n hx hb dX3_init_18 rfl (lv_at hl 0 rfl) ?_
  refine lv_iconst (v := 3) hx hb dX3_init_19 (by decide) ?_
  refine g_newI C w (at_ := .int) (ti := 0) (ty := .int) rfl rfl (Or.inl rfl) gw_85 (N := 3) (by decide) (by decide) (by decide) (Nat.le_of_ble_eq_true rfl) (Nat.le_of_ble_eq_true rfl) dX3_init_20 (fun q2 H hq w => ?_)
  obtain ⟨P, ad, L, f, B, w, hI, h_23_0, h_24_0⟩ : ∃ (P2 : Nat → Nat → Prop) (ad2 : Nat → Nat → Nat) (L2 : List Nat) (f2 : Nat → va_E), Bd K SI (fun b => b = x) PO adO LO fO P2 ad2 L2 f2 x 3 [.ref q1, .int 0, .null] ∧ Wh D K b0 sa s H locs L2 f2 ∧ (∀ a k : Nat, P2 a k ↔ PO a k ∨ (a, k) ∈ [(24, 0), (23, 0)]) ∧ ad2 23 0 = q1 ∧ ad2 24 0 = q2 := ⟨Pu P 24 0, au ad 24 0 q2, L ++ [q2], va_up f q2 _, (B.arr (fun h => ((hI 24 0).mp h).elim hn_24 (by simp)) hq rfl (fun b c => rf_1 rfl)), w, (Pu_iff hI), ((au_ne (fun h => absurd h.1 (by decide))).trans h_23_0), au_self⟩
  refine t_putF C (hnm.trans rfl) w B.2.2.2.1 B.2.2.2.2.1 rfl cin_3 tyX3 tyX3_ok nmX3 2 (by decide) (Nat.le_of_ble_eq_true rfl) rfl rfl rfl rfl gw_205 dX3_init_22 (fun H locs w => ?_)
  obtain ⟨f, B, w⟩ : ∃ (f2 : Nat → va_E), Bd K SI (fun b => b = x) PO adO LO fO P ad L f2 x 3 [.ref q1, .int 0, .ref q2] ∧ Wh D K b0 sa s H locs L f2 := ⟨va_up f x (.inr (3, [.ref q1, .int 0, .ref q2])), B.put, w⟩
  have hcell : (.inr (3, [.ref q1, .int 0, .ref q2]) : va_E) = cellOf K (au ad 22 0 x) SI 22 0 := by
    rw [cell_0 rfl]
    show (Sum.inr (3, [.ref q1, .int 0, .ref q2]) : va_E) = Sum.inr (3, [.ref (ad 23 0), .int 0, .ref (ad 24 0)])
    rw [h_23_0, h_24_0]
  have href : ∀ b c : Nat, Rf SI 22 0 b c → P b c := by
    intro b c hr
    obtain ⟨j, hj, hd, hq⟩ := rf_0 rfl hr
    match j, hj, hd, hq with
    | 0, _, _, hq => have e9 : (23, 0) = (b, c) := hq; cases e9; exact ((hI 23 0).mpr (Or.inr (by simp)))
    | 1, _, hd, _ => exact absurd rfl hd
    | 2, _, _, hq => have e9 : (24, 0) = (b, c) := hq; cases e9; exact ((hI 24 0).mpr (Or.inr (by simp)))
    | (j + 3), hj, _, _ => exact absurd hj (show ¬ j + 3 < 3 by omega)
  have z := B.fin (fun h => ((hI 22 0).mp h).elim hn_22 (by simp)) hcell href
  exact t_vret C hr hlk w ⟨_, _, _, _, rfl, rfl, z.1, z.2.1, Pu_iff hI, z.2.2, au_self⟩ (by decide) (by decide) dX3_init_25
theorem dX4_init_0 : decode cX4_init 0 = .ok (.aload_n 0, 1) := by decide +kernel
theorem dX4_init_1 : decode cX4_init 1 = .ok (.invokespecial 3, 3) := by decide +kernel
theorem dX4_init_4 : decode cX4_init 4 = .ok (.aload_n 0, 1) := by decide +kernel
theorem dX4_init_5 : decode cX4_init 5 = .ok (.sipush 300, 3) := by decide +kernel
theorem dX4_init_8 : decode cX4_init 8 = .ok (.newarray .int, 2) := by decide +kernel
theorem dX4_init_10 : decode cX4_init 10 = .ok (.putfield 9, 3) := by decide +kernel
theorem dX4_init_13 : decode cX4_init 13 = .ok (.aload_n 0, 1) := by decide +kernel
theorem dX4_init_14 : decode cX4_init 14 = .ok (.sipush 300, 3) := by decide +kernel
theorem dX4_init_17 : decode cX4_init 17 = .ok (.newarray .int, 2) := by decide +kernel
theorem dX4_init_19 : decode cX4_init 19 = .ok (.putfield 15, 3) := by decide +kernel
theorem dX4_init_22 : decode cX4_init 22 = .ok (.aload_n 0, 1) := by decide +kernel
theorem dX4_init_23 : decode cX4_init 23 = .ok (.sipush 300, 3) := by decide +kernel
theorem dX4_init_26 : decode cX4_init 26 = .ok (.newarray .int, 2) := by decide +kernel
theorem dX4_init_28 : decode cX4_init 28 = .ok (.putfield 18, 3) := by decide +kernel
theorem dX4_init_31 : decode cX4_init 31 = .ok (.aload_n 0, 1) := by decide +kernel
theorem dX4_init_32 : decode cX4_init 32 = .ok (.iconst 0, 1) := by decide +kernel
theorem dX4_init_33 : decode cX4_init 33 = .ok (.putfield 21, 3) := by decide +kernel
theorem dX4_init_36 : decode cX4_init 36 = .ok (.aload_n 0, 1) := by decide +kernel
theorem dX4_init_37 : decode cX4_init 37 = .ok (.iconst 0, 1) := by decide +kernel
theorem dX4_init_38 : decode cX4_init 38 = .ok (.putfield 25, 3) := by decide +kernel
theorem dX4_init_41 : decode cX4_init 41 = .ok (.aload_n 0, 1) := by decide +kernel
theorem dX4_init_42 : decode cX4_init 42 = .ok (.iconst 0, 1) := by decide +kernel
theorem dX4_init_43 : decode cX4_init 43 = .ok (.putfield 28, 3) := by decide +kernel
theorem dX4_init_46 : decode cX4_init 46 = .ok (.aload_n 0, 1) := by decide +kernel
theorem dX4_init_47 : decode cX4_init 47 = .ok (.sipush 300, 3) := by decide +kernel
theorem dX4_init_50 : decode cX4_init 50 = .ok (.newarray .int, 2) := by decide +kernel
theorem dX4_init_52 : decode cX4_init 52 = .ok (.putfield 31, 3) := by decide +kernel
theorem dX4_init_55 : decode cX4_init 55 = .ok (.aload_n 0, 1) := by decide +kernel
theorem dX4_init_56 : decode cX4_init 56 = .ok (.iconst 0, 1) := by decide +kernel
theorem dX4_init_57 : decode cX4_init 57 = .ok (.putfield 34, 3) := by decide +kernel
theorem dX4_init_60 : decode cX4_init 60 = .ok (.aload_n 0, 1) := by decide +kernel
theorem dX4_init_61 : decode cX4_init 61 = .ok (.iconst 0, 1) := by decide +kernel
theorem dX4_init_62 : decode cX4_init 62 = .ok (.putfield 37, 3) := by decide +kernel
theorem dX4_init_65 : decode cX4_init 65 = .ok (.aload_n 0, 1) := by decide +kernel
theorem dX4_init_66 : decode cX4_init 66 = .ok (.iconst 0, 1) := by decide +kernel
theorem dX4_init_67 : decode cX4_init 67 = .ok (.putfield 40, 3) := by decide +kernel
theorem dX4_init_70 : decode cX4_init 70 = .ok (.aload_n 0, 1) := by decide +kernel
theorem dX4_init_71 : decode cX4_init 71 = .ok (.iconst 0, 1) := by decide +kernel
theorem dX4_init_72 : decode cX4_init 72 = .ok (.putfield 44, 3) := by decide +kernel
theorem dX4_init_75 : decode cX4_init 75 = .ok (.aload_n 0, 1) := by decide +kernel
theorem dX4_init_76 : decode cX4_init 76 = .ok (.iconst (-1), 1) := by decide +kernel
theorem dX4_init_77 : decode cX4_init 77 = .ok (.putfield 47, 3) := by decide +kernel
theorem dX4_init_80 : decode cX4_init 80 = .ok (.return_, 1) := by decide +kernel
set_option maxHeartbeats 8000000 in
set_option maxRecDepth 100000 in
theorem g_X4_init (l : Launch) (D : va_G) (K : Nat → ClassId) (b0 : Nat) (sa : sT) (sz : Nat) (LO : List Nat) (fO : Nat → va_E) (adO : Nat → Nat → Nat) (PO : Nat → Nat → Prop) (hw : PW K adO PO SI LO fO) (hR : RC PO SI) (hn_17 : ¬ PO 17 0) (hn_18 : ¬ PO 18 0) (hn_19 : ¬ PO 19 0) (hn_20 : ¬ PO 20 0) (hn_21 : ¬ PO 21 0) (x : Nat) (hm : x ∈ LO) (hfx : fO x = .inr (4, [.null, .null, .null, .int 0, .int 0, .int 0, .null, .int 0, .int 0, .int 0, .int 0, .int 0])) (hne : ∀ a k : Nat, PO a k → adO a k ≠ x) : Met l yX4_init (.code yX4_init cX4_init 1 none :: gt) { frames := 1, cells := 4, slots := 1200, locals := 12 } (va_Pc [.ref x] (hPre D K b0 sa sz LO fO)) (hQ D K b0 (fun v9 u9 => ∃ (P2 : Nat → Nat → Prop) (ad2 : Nat → Nat → Nat) (L2 : List Nat) (f2 : Nat → va_E), v9 = none ∧ u9 = lU L2 f2 ∧ PW K ad2 P2 SI L2 f2 ∧ RC P2 SI ∧ (∀ a k : Nat, P2 a k ↔ PO a k ∨ (a, k) ∈ [(17, 0), (21, 0), (20, 0), (19, 0), (18, 0)]) ∧ Gr (fun b => b = x) PO adO LO fO P2 ad2 L2 f2 ∧ ad2 17 0 = x)) 4 1200 (fun q => b0 ≤ q) := by
  refine t_of (own := RX4) (by decide) rfl ?_ (Nat.le_of_ble_eq_true rfl)
  intro p e s m below meth c ls C w hsz hr hlk hnm hl
  have hx := C.1
  have hb := C.2.1
  have hl : lv_has ls 1 [(0, .ref x)] := hl
  obtain ⟨H, eH⟩ : ∃ z, z = s.heap := ⟨_, rfl⟩
  obtain ⟨locs, el⟩ : ∃ z : List Loc, z = [] := ⟨_, rfl⟩
  rw [← eH, ← el] at w ⊢
  obtain ⟨P, ad, L, f, B, w, hI⟩ : ∃ (P2 : Nat → Nat → Prop) (ad2 : Nat → Nat → Nat) (L2 : List Nat) (f2 : Nat → va_E), Bd K SI (fun b => b = x) PO adO LO fO P2 ad2 L2 f2 x 4 [.null, .null, .null, .int 0, .int 0, .int 0, .null, .int 0, .int 0, .int 0, .int 0, .int 0] ∧ Wh D K b0 sa s H locs L2 f2 ∧ (∀ a k : Nat, P2 a k ↔ PO a k ∨ (a, k) ∈ ([] : List (Nat × Nat))) := ⟨PO, adO, LO, fO, Bd.of hw hR hm hfx hne, w, fun a k => by simp⟩
  refine lv_aload_n hx hb dX4_init_0 rfl (lv_at hl 0 rfl) ?_
  refine t_obj0 C hl.1 gw_157 gw_29 gw_30 dX4_init_1 (by decide) (Nat.le_of_ble_eq_true rfl) ?_
  refine lv_aload_n hx hb dX4_init_4 rfl (lv_at hl 0 rfl) ?_
  refine lv_sipush (v := 300) hx hb dX4_init_5 (by decide) ?_
  refine g_newI C w (at_ := .int) (ti := 0) (ty := .int) rfl rfl (Or.inl rfl) gw_85 (N := 300) (by decide) (by decide) (by decide) (Nat.le_of_ble_eq_true rfl) (Nat.le_of_ble_eq_true rfl) dX4_init_8 (fun q1 H hq w => ?_)
  obtain ⟨P, ad, L, f, B, w, hI, h_18_0⟩ : ∃ (P2 : Nat → Nat → Prop) (ad2 : Nat → Nat → Nat) (L2 : List Nat) (f2 : Nat → va_E), Bd K SI (fun b => b = x) PO adO LO fO P2 ad2 L2 f2 x 4 [.null, .null, .null, .int 0, .int 0, .int 0, .null, .int 0, .int 0, .int 0, .int 0, .int 0] ∧ Wh D K b0 sa s H locs L2 f2 ∧ (∀ a k : Nat, P2 a k ↔ PO a k ∨ (a, k) ∈ [(18, 0)]) ∧ ad2 18 0 = q1 := ⟨Pu P 18 0, au ad 18 0 q1, L ++ [q1], va_up f q1 _, (B.arr (fun h => ((hI 18 0).mp h).elim hn_18 (by simp)) hq rfl (fun b c => rf_1 rfl)), w, (Pu_iff hI), au_self⟩
  refine t_putF C (hnm.trans rfl) w B.2.2.2.1 B.2.2.2.2.1 rfl cin_4 tyX4 tyX4_ok nmX4 0 (by decide) (Nat.le_of_ble_eq_true rfl) rfl rfl rfl rfl gw_158 dX4_init_10 (fun H locs w => ?_)
  obtain ⟨f, B, w⟩ : ∃ (f2 : Nat → va_E), Bd K SI (fun b => b = x) PO adO LO fO P ad L f2 x 4 [.ref q1, .null, .null, .int 0, .int 0, .int 0, .null, .int 0, .int 0, .int 0, .int 0, .int 0] ∧ Wh D K b0 sa s H locs L f2 := ⟨va_up f x (.inr (4, [.ref q1, .null, .null, .int 0, .int 0, .int 0, .null, .int 0, .int 0, .int 0, .int 0, .int 0])), B.put, w⟩
  refine lv_aload_n hx hb dX4_init_13 rfl (lv_at hl 0 rfl) ?_
  refine lv_sipush (v := 300) hx hb dX4_init_14 (by decide) ?_
  refine g_newI C w (at_ := .int) (ti := 0) (ty := .int) rfl rfl (Or.inl rfl) gw_85 (N := 300) (by decide) (by decide) (by decide) (Nat.le_of_ble_eq_true rfl) (Nat.le_of_ble_eq_true rfl) dX4_init_17 (fun q2 H hq w => ?_)
  obtain ⟨P, ad, L, f, B, w, hI, h_18_0, h_19_0⟩ : ∃ (P2 : Nat → Nat → Prop) (ad2 : Nat → Nat → Nat) (L2 : List Nat) (f2 : Nat → va_E), Bd K SI (fun b => b = x) PO adO LO fO P2 ad2 L2 f2 x 4 [.ref q1, .null, .null, .int 0, .int 0, .int 0, .null, .int 0, .int 0, .int 0, .int 0, .int 0] ∧ Wh D K b0 sa s H locs L2 f2 ∧ (∀ a k : Nat, P2 a k ↔ PO a k ∨ (a, k) ∈ [(19, 0), (18, 0)]) ∧ ad2 18 0 = q1 ∧ ad2 19 0 = q2 := ⟨Pu P 19 0, au ad 19 0 q2, L ++ [q2], va_up f q2 _, (B.arr (fun h => ((hI 19 0).mp h).elim hn_19 (by simp)) hq rfl (fun b c => rf_1 rfl)), w, (Pu_iff hI), ((au_ne (fun h => absurd h.1 (by decide))).trans h_18_0), au_self⟩
  refine t_putF C (hnm.trans rfl) w B.2.2.2.1 B.2.2.2.2.1 rfl cin_4 tyX4 tyX4_ok nmX4 1 (by decide) (Nat.le_of_ble_eq_true rfl) rfl rfl rfl rfl gw_159 dX4_init_19 (fun H locs w => ?_)
  obtain ⟨f, B, w⟩ : ∃ (f2 : Nat → va_E), Bd K SI (fun b => b = x) PO adO LO fO P ad L f2 x 4 [.ref q1, .ref q2, .null, .int 0, .int 0, .int 0, .null, .int 0, .int 0, .int 0, .int 0, .int 0] ∧ Wh D K b0 sa s H locs L f2 := ⟨va_up f x (.inr (4, [.ref q1, .ref q2, .null, .int 0, .int 0, .int 0, .null, .int 0, .int 0, .int 0, .int 0, .int 0])), B.put, w⟩
  refine lv_aload_n hx hb dX4_init_22 rfl (lv_at hl 0 rfl) ?_
  refine lv_sipush (v := 300) hx hb dX4_init_23 (by decide) ?_
  refine g_newI C w (at_ := .int) (ti := 0) (ty := .int) rfl rfl (Or.inl rfl) gw_85 (N := 300) (by decide) (by decide) (by decide) (Nat.le_of_ble_eq_true rfl) (Nat.le_of_ble_eq_true rfl) dX4_init_26 (fun q3 H hq w => ?_)
  obtain ⟨P, ad, L, f, B, w, hI, h_18_0, h_19_0, h_20_0⟩ : ∃ (P2 : Nat → Nat → Prop) (ad2 : Nat → Nat → Nat) (L2 : List Nat) (f2 : Nat → va_E), Bd K SI (fun b => b = x) PO adO LO fO P2 ad2 L2 f2 x 4 [.ref q1, .ref q2, .null, .int 0, .int 0, .int 0, .null, .int 0, .int 0, .int 0, .int 0, .int 0] ∧ Wh D K b0 sa s H locs L2 f2 ∧ (∀ a k : Nat, P2 a k ↔ PO a k ∨ (a, k) ∈ [(20, 0), (19, 0), (18, 0)]) ∧ ad2 18 0 = q1 ∧ ad2 19 0 = q2 ∧ ad2 20 0 = q3 := ⟨Pu P 20 0, au ad 20 0 q3, L ++ [q3], va_up f q3 _, (B.arr (fun h => ((hI 20 0).mp h).elim hn_20 (by simp)) hq rfl (fun b c => rf_1 rfl)), w, (Pu_iff hI), ((au_ne (fun h => absurd h.1 (by decide))).trans h_18_0), ((au_ne (fun h => absurd h.1 (by decide))).trans h_19_0), au_self⟩
  refine t_putF C (hnm.trans rfl) w B.2.2.2.1 B.2.2.2.2.1 rfl cin_4 tyX4 tyX4_ok nmX4 2 (by decide) (Nat.le_of_ble_eq_true rfl) rfl rfl rfl rfl gw_160 dX4_init_28 (fun H locs w => ?_)
  obtain ⟨f, B, w⟩ : ∃ (f2 : Nat → va_E), Bd K SI (fun b => b = x) PO adO LO fO P ad L f2 x 4 [.ref q1, .ref q2, .ref q3, .int 0, .int 0, .int 0, .null, .int 0, .int 0, .int 0, .int 0, .int 0] ∧ Wh D K b0 sa s H locs L f2 := ⟨va_up f x (.inr (4, [.ref q1, .ref q2, .ref q3, .int 0, .int 0, .int 0, .null, .int 0, .int 0, .int 0, .int 0, .int 0])), B.put, w⟩
  refine lv_aload_n hx hb dX4_init_31 rfl (lv_at hl 0 rfl) ?_
  refine lv_iconst (v := 0) hx hb dX4_init_32 (by decide) ?_
  refine t_putv C w B.2.2.2.1 B.2.2.2.2.1 rfl cin_4 tyX4 tyX4_ok nmX4 3 (by decide) (Nat.le_of_ble_eq_true rfl) rfl rfl rfl gw_161 dX4_init_33 (fun H locs w => ?_)
  obtain ⟨f, B, w⟩ : ∃ (f2 : Nat → va_E), Bd K SI (fun b => b = x) PO adO LO fO P ad L f2 x 4 [.ref q1, .ref q2, .ref q3, .int 0, .int 0, .int 0, .null, .int 0, .int 0, .int 0, .int 0, .int 0] ∧ Wh D K b0 sa s H locs L f2 := ⟨va_up f x (.inr (4, [.ref q1, .ref q2, .ref q3, .int 0, .int 0, .int 0, .null, .int 0, .int 0, .int 0, .int 0, .int 0])), B.put, w⟩
  refine lv_aload_n hx hb dX4_init_36 rfl (lv_at hl 0 rfl) ?_
  refine lv_iconst (v := 0) hx hb dX4_init_37 (by decide) ?_
  refine t_putv C w B.2.2.2.1 B.2.2.2.2.1 rfl cin_4 tyX4 tyX4_ok nmX4 4 (by decide) (Nat.le_of_ble_eq_true rfl) rfl rfl rfl gw_162 dX4_init_38 (fun H locs w => ?_)
  obtain ⟨f, B, w⟩ : ∃ (f2 : Nat → va_E), Bd K SI (fun b => b = x) PO adO LO fO P ad L f2 x 4 [.ref q1, .ref q2, .ref q3, .int 0, .int 0, .int 0, .null, .int 0, .int 0, .int 0, .int 0, .int 0] ∧ Wh D K b0 sa s H locs L f2 := ⟨va_up f x (.inr (4, [.ref q1, .ref q2, .ref q3, .int 0, .int 0, .int 0, .null, .int 0, .int 0, .int 0, .int 0, .int 0])), B.put, w⟩
  refine lv_aload_n hx hb dX4_init_41 rfl (lv_at hl 0 rfl) ?_
  refine lv_iconst (v := 0) hx hb dX4_init_42 (by decide) ?_
  refine t_putv C w B.2.2.2.1 B.2.2.2.2.1 rfl cin_4 tyX4 tyX4_ok nmX4 5 (by decide) (Nat.le_of_ble_eq_true rfl) rfl rfl rfl gw_163 dX4_init_43 (fun H locs w => ?_)
  obtain ⟨f, B, w⟩ : ∃ (f2 : Nat → va_E), Bd K SI (fun b => b = x) PO adO LO fO P ad L f2 x 4 [.ref q1, .ref q2, .ref q3, .int 0, .int 0, .int 0, .null, .int 0, .int 0, .int 0, .int 0, .int 0] ∧ Wh D K b0 sa s H locs L f2 := ⟨va_up f x (.inr (4, [.ref q1, .ref q2, .ref q3, .int 0, .int 0, .int 0, .null, .int 0, .int 0, .int 0, .int 0, .int 0])), B.put, w⟩
  refine lv_aload_n hx hb dX4_init_46 rfl (lv_at hl 0 rfl) ?_
  refine lv_sipush (v := 300) hx hb dX4_init_47 (by decide) ?_
  refine g_newI C w (at_ := .int) (ti := 0) (ty := .int) rfl rfl (Or.inl rfl) gw_85 (N := 300) (by decide) (by decide) (by decide) (Nat.le_of_ble_eq_true rfl) (Nat.le_of_ble_eq_true rfl) dX4_init_50 (fun q4 H hq w => ?_)
  obtain ⟨P, ad, L, f, B, w, hI, h_18_0, h_19_0, h_20_0, h_21_0⟩ : ∃ (P2 : Nat → Nat → Prop) (ad2 : Nat → Nat → Nat) (L2 : List Nat) (f2 : Nat → va_E), Bd K SI (fun b => b = x) PO adO LO fO P2 ad2 L2 f2 x 4 [.ref q1, .ref q2, .ref q3, .int 0, .int 0, .int 0, .null, .int 0, .int 0, .int 0, .int 0, .int 0] ∧ Wh D K b0 sa s H locs L2 f2 ∧ (∀ a k : Nat, P2 a k ↔ PO a k ∨ (a, k) ∈ [(21, 0), (20, 0), (19, 0), (18, 0)]) ∧ ad2 18 0 = q1 ∧ ad2 19 0 = q2 ∧ ad2 20 0 = q3 ∧ ad2 21 0 = q4 := ⟨Pu P 21 0, au ad 21 0 q4, L ++ [q4], va_up f q4 _, (B.arr (fun h => ((hI 21 0).mp h).elim hn_21 (by simp)) hq rfl (fun b c => rf_1 rfl)), w, (Pu_iff hI), ((au_ne (fun h => absurd h.1 (by decide))).trans h_18_0), ((au_ne (fun h => absurd h.1 (by decide))).trans h_19_0), ((au_ne (fun h => absurd h.1 (by decide))).trans h_20_0), au_self⟩
  refine t_putF C (hnm.trans rfl) w B.2.2.2.1 B.2.2.2.2.1 rfl cin_4 tyX4 tyX4_ok nmX4 6 (by decide) (Nat.le_of_ble_eq_true rfl) rfl rfl rfl rfl gw_164 dX4_init_52 (fun H locs w => ?_)
  obtain ⟨f, B, w⟩ : ∃ (f2 : Nat → va_E), Bd K SI (fun b => b = x) PO adO LO fO P ad L f2 x 4 [.ref q1, .ref q2, .ref q3, .int 0, .int 0, .int 0, .ref q4, .int 0, .int 0, .int 0, .int 0, .int 0] ∧ Wh D K b0 sa s H locs L f2 := ⟨va_up f x (.inr (4, [.ref q1, .ref q2, .ref q3, .int 0, .int 0, .int 0, .ref q4, .int 0, .int 0, .int 0, .int 0, .int 0])), B.put, w⟩
  refine lv_aload_n hx hb dX4_init_55 rfl (lv_at hl 0 rfl) ?_
  refine lv_iconst (v := 0) hx hb dX4_init_56 (by decide) ?_
  refine t_putv C w B.2.2.2.1 B.2.2.2.2.1 rfl cin_4 tyX4 tyX4_ok nmX4 7 (by decide) (Nat.le_of_ble_eq_true rfl) rfl rfl rfl gw_165 dX4_init_57 (fun H locs w => ?_)
  obtain ⟨f, B, w⟩ : ∃ (f2 : Nat → va_E), Bd K SI (fun b => b = x) PO adO LO fO P ad L f2 x 4 [.ref q1, .ref q2, .ref q3, .int 0, .int 0, .int 0, .ref q4, .int 0, .int 0, .int 0, .int 0, .int 0] ∧ Wh D K b0 sa s H locs L f2 := ⟨va_up f x (.inr (4, [.ref q1, .ref q2, .ref q3, .int 0, .int 0, .int 0, .ref q4, .int 0, .int 0, .int 0, .int 0, .int 0])), B.put, w⟩
  refine lv_aload_n hx hb dX4_init_60 rfl (lv_at hl 0 rfl) ?_
  refine lv_iconst (v := 0) hx hb dX4_init_61 (by decide) ?_
  refine t_putv C w B.2.2.2.1 B.2.2.2.2.1 rfl cin_4 tyX4 tyX4_ok nmX4 8 (by decide) (Nat.le_of_ble_eq_true rfl) rfl rfl rfl gw_166 dX4_init_62 (fun H locs w => ?_)
  obtain ⟨f, B, w⟩ : ∃ (f2 : Nat → va_E), Bd K SI (fun b => b = x) PO adO LO fO P ad L f2 x 4 [.ref q1, .ref q2, .ref q3, .int 0, .int 0, .int 0, .ref q4, .int 0, .int 0, .int 0, .int 0, .int 0] ∧ Wh D K b0 sa s H locs L f2 := ⟨va_up f x (.inr (4, [.ref q1, .ref q2, .ref q3, .int 0, .int 0, .int 0, .ref q4, .int 0, .int 0, .int 0, .int 0, .int 0])), B.put, w⟩
  refine lv_aload_n hx hb dX4_init_65 rfl (lv_at hl 0 rfl) ?_
  refine lv_iconst (v := 0) hx hb dX4_init_66 (by decide) ?_
  refine t_putv C w B.2.2.2.1 B.2.2.2.2.1 rfl cin_4 tyX4 tyX4_ok nmX4 9 (by decide) (Nat.le_of_ble_eq_true rfl) rfl rfl rfl gw_167 dX4_init_67 (fun H locs w => ?_)
  obtain ⟨f, B, w⟩ : ∃ (f2 : Nat → va_E), Bd K SI (fun b => b = x) PO adO LO fO P ad L f2 x 4 [.ref q1, .ref q2, .ref q3, .int 0, .int 0, .int 0, .ref q4, .int 0, .int 0, .int 0, .int 0, .int 0] ∧ Wh D K b0 sa s H locs L f2 := ⟨va_up f x (.inr (4, [.ref q1, .ref q2, .ref q3, .int 0, .int 0, .int 0, .ref q4, .int 0, .int 0, .int 0, .int 0, .int 0])), B.put, w⟩
  refine lv_aload_n hx hb dX4_init_70 rfl (lv_at hl 0 rfl) ?_
  refine lv_iconst (v := 0) hx hb dX4_init_71 (by decide) ?_
  refine t_putv C w B.2.2.2.1 B.2.2.2.2.1 rfl cin_4 tyX4 tyX4_ok nmX4 10 (by decide) (Nat.le_of_ble_eq_true rfl) rfl rfl rfl gw_168 dX4_init_72 (fun H locs w => ?_)
  obtain ⟨f, B, w⟩ : ∃ (f2 : Nat → va_E), Bd K SI (fun b => b = x) PO adO LO fO P ad L f2 x 4 [.ref q1, .ref q2, .ref q3, .int 0, .int 0, .int 0, .ref q4, .int 0, .int 0, .int 0, .int 0, .int 0] ∧ Wh D K b0 sa s H locs L f2 := ⟨va_up f x (.inr (4, [.ref q1, .ref q2, .ref q3, .int 0, .int 0, .int 0, .ref q4, .int 0, .int 0, .int 0, .int 0, .int 0])), B.put, w⟩
  refine lv_aload_n hx hb dX4_init_75 rfl (lv_at hl 0 rfl) ?_
  refine lv_iconst (v := (-1)) hx hb dX4_init_76 (by decide) ?_
  refine t_putv C w B.2.2.2.1 B.2.2.2.2.1 rfl cin_4 tyX4 tyX4_ok nmX4 11 (by decide) (Nat.le_of_ble_eq_true rfl) rfl rfl rfl gw_170 dX4_init_77 (fun H locs w => ?_)
  obtain ⟨f, B, w⟩ : ∃ (f2 : Nat → va_E), Bd K SI (fun b => b = x) PO adO LO fO P ad L f2 x 4 [.ref q1, .ref q2, .ref q3, .int 0, .int 0, .int 0, .ref q4, .int 0, .int 0, .int 0, .int 0, .int (-1)] ∧ Wh D K b0 sa s H locs L f2 := ⟨va_up f x (.inr (4, [.ref q1, .ref q2, .ref q3, .int 0, .int 0, .int 0, .ref q4, .int 0, .int 0, .int 0, .int 0, .int (-1)])), B.put, w⟩
  have hcell : (.inr (4, [.ref q1, .ref q2, .ref q3, .int 0, .int 0, .int 0, .ref q4, .int 0, .int 0, .int 0, .int 0, .int (-1)]) : va_E) = cellOf K (au ad 17 0 x) SI 17 0 := by
    rw [cell_0 rfl]
    show (Sum.inr (4, [.ref q1, .ref q2, .ref q3, .int 0, .int 0, .int 0, .ref q4, .int 0, .int 0, .int 0, .int 0, .int (-1)]) : va_E) = Sum.inr (4, [.ref (ad 18 0), .ref (ad 19 0), .ref (ad 20 0), .int 0, .int 0, .int 0, .ref (ad 21 0), .int 0, .int 0, .int 0, .int 0, .int (-1)])
    rw [h_18_0, h_19_0, h_20_0, h_21_0]
  have href : ∀ b c : Nat, Rf SI 17 0 b c → P b c := by
    intro b c hr
    obtain ⟨j, hj, hd, hq⟩ := rf_0 rfl hr
    match j, hj, hd, hq with
    | 0, _, _, hq => have e9 : (18, 0) = (b, c) := hq; cases e9; exact ((hI 18 0).mpr (Or.inr (by simp)))
    | 1, _, _, hq => have e9 : (19, 0) = (b, c) := hq; cases e9; exact ((hI 19 0).mpr (Or.inr (by simp)))
    | 2, _, _, hq => have e9 : (20, 0) = (b, c) := hq; cases e9; exact ((hI 20 0).mpr (Or.inr (by simp)))
    | 3, _, hd, _ => exact absurd rfl hd
    | 4, _, hd, _ => exact absurd rfl hd
    | 5, _, hd, _ => exact absurd rfl hd
    | 6, _, _, hq => have e9 : (21, 0) = (b, c) := hq; cases e9; exact ((hI 21 0).mpr (Or.inr (by simp)))
    | 7, _, hd, _ => exact absurd rfl hd
    | 8, _, hd, _ => exact absurd rfl hd
    | 9, _, hd, _ => exact absurd rfl hd
    | 10, _, hd, _ => exact absurd rfl hd
    | 11, _, hd, _ => exact absurd rfl hd
    | (j + 12), hj, _, _ => exact absurd hj (show ¬ j + 12 < 12 by omega)
  have z := B.fin (fun h => ((hI 17 0).mp h).elim hn_17 (by simp)) hcell href
  exact t_vret C hr hlk w ⟨_, _, _, _, rfl, rfl, z.1, z.2.1, Pu_iff hI, z.2.2, au_self⟩ (by decide) (by decide) dX4_init_80
theorem dX5_init_0 : decode cX5_init 0 = .ok (.aload_n 0, 1) := by decide +kernel
theorem dX5_init_1 : decode cX5_init 1 = .ok (.invokespecial 3, 3) := by decide +kernel
theorem dX5_init_4 : decode cX5_init 4 = .ok (.aload_n 0, 1) := by decide +kernel
theorem dX5_init_5 : decode cX5_init 5 = .ok (.iconst 0, 1) := by decide +kernel
theorem dX5_init_6 : decode cX5_init 6 = .ok (.putfield 9, 3) := by decide +kernel
theorem dX5_init_9 : decode cX5_init 9 = .ok (.aload_n 0, 1) := by decide +kernel
theorem dX5_init_10 : decode cX5_init 10 = .ok (.iconst 0, 1) := by decide +kernel
theorem dX5_init_11 : decode cX5_init 11 = .ok (.putfield 15, 3) := by decide +kernel
theorem dX5_init_14 : decode cX5_init 14 = .ok (.aload_n 0, 1) := by decide +kernel
theorem dX5_init_15 : decode cX5_init 15 = .ok (.iconst (-1), 1) := by decide +kernel
theorem dX5_init_16 : decode cX5_init 16 = .ok (.putfield 18, 3) := by decide +kernel
theorem dX5_init_19 : decode cX5_init 19 = .ok (.aload_n 0, 1) := by decide +kernel
theorem dX5_init_20 : decode cX5_init 20 = .ok (.iconst 0, 1) := by decide +kernel
theorem dX5_init_21 : decode cX5_init 21 = .ok (.putfield 21, 3) := by decide +kernel
theorem dX5_init_24 : decode cX5_init 24 = .ok (.aload_n 0, 1) := by decide +kernel
theorem dX5_init_25 : decode cX5_init 25 = .ok (.iconst 0, 1) := by decide +kernel
theorem dX5_init_26 : decode cX5_init 26 = .ok (.putfield 24, 3) := by decide +kernel
theorem dX5_init_29 : decode cX5_init 29 = .ok (.aload_n 0, 1) := by decide +kernel
theorem dX5_init_30 : decode cX5_init 30 = .ok (.iconst 0, 1) := by decide +kernel
theorem dX5_init_31 : decode cX5_init 31 = .ok (.putfield 27, 3) := by decide +kernel
theorem dX5_init_34 : decode cX5_init 34 = .ok (.aload_n 0, 1) := by decide +kernel
theorem dX5_init_35 : decode cX5_init 35 = .ok (.iconst 0, 1) := by decide +kernel
theorem dX5_init_36 : decode cX5_init 36 = .ok (.putfield 30, 3) := by decide +kernel
theorem dX5_init_39 : decode cX5_init 39 = .ok (.aload_n 0, 1) := by decide +kernel
theorem dX5_init_40 : decode cX5_init 40 = .ok (.iconst 0, 1) := by decide +kernel
theorem dX5_init_41 : decode cX5_init 41 = .ok (.putfield 33, 3) := by decide +kernel
theorem dX5_init_44 : decode cX5_init 44 = .ok (.aload_n 0, 1) := by decide +kernel
theorem dX5_init_45 : decode cX5_init 45 = .ok (.iconst 0, 1) := by decide +kernel
theorem dX5_init_46 : decode cX5_init 46 = .ok (.putfield 36, 3) := by decide +kernel
theorem dX5_init_49 : decode cX5_init 49 = .ok (.aload_n 0, 1) := by decide +kernel
theorem dX5_init_50 : decode cX5_init 50 = .ok (.iconst 0, 1) := by decide +kernel
theorem dX5_init_51 : decode cX5_init 51 = .ok (.putfield 39, 3) := by decide +kernel
theorem dX5_init_54 : decode cX5_init 54 = .ok (.aload_n 0, 1) := by decide +kernel
theorem dX5_init_55 : decode cX5_init 55 = .ok (.iconst 0, 1) := by decide +kernel
theorem dX5_init_56 : decode cX5_init 56 = .ok (.putfield 42, 3) := by decide +kernel
theorem dX5_init_59 : decode cX5_init 59 = .ok (.aload_n 0, 1) := by decide +kernel
theorem dX5_init_60 : decode cX5_init 60 = .ok (.iconst 0, 1) := by decide +kernel
theorem dX5_init_61 : decode cX5_init 61 = .ok (.putfield 45, 3) := by decide +kernel
theorem dX5_init_64 : decode cX5_init 64 = .ok (.aload_n 0, 1) := by decide +kernel
theorem dX5_init_65 : decode cX5_init 65 = .ok (.iconst 0, 1) := by decide +kernel
theorem dX5_init_66 : decode cX5_init 66 = .ok (.putfield 48, 3) := by decide +kernel
theorem dX5_init_69 : decode cX5_init 69 = .ok (.aload_n 0, 1) := by decide +kernel
theorem dX5_init_70 : decode cX5_init 70 = .ok (.iconst 0, 1) := by decide +kernel
theorem dX5_init_71 : decode cX5_init 71 = .ok (.putfield 51, 3) := by decide +kernel
theorem dX5_init_74 : decode cX5_init 74 = .ok (.aload_n 0, 1) := by decide +kernel
theorem dX5_init_75 : decode cX5_init 75 = .ok (.iconst 0, 1) := by decide +kernel
theorem dX5_init_76 : decode cX5_init 76 = .ok (.putfield 54, 3) := by decide +kernel
theorem dX5_init_79 : decode cX5_init 79 = .ok (.aload_n 0, 1) := by decide +kernel
theorem dX5_init_80 : decode cX5_init 80 = .ok (.iconst 5, 1) := by decide +kernel
theorem dX5_init_81 : decode cX5_init 81 = .ok (.newarray .int, 2) := by decide +kernel
theorem dX5_init_83 : decode cX5_init 83 = .ok (.putfield 57, 3) := by decide +kernel
theorem dX5_init_86 : decode cX5_init 86 = .ok (.aload_n 0, 1) := by decide +kernel
theorem dX5_init_87 : decode cX5_init 87 = .ok (.iconst 0, 1) := by decide +kernel
theorem dX5_init_88 : decode cX5_init 88 = .ok (.putfield 61, 3) := by decide +kernel
theorem dX5_init_91 : decode cX5_init 91 = .ok (.return_, 1) := by decide +kernel
set_option maxHeartbeats 8000000 in
set_option maxRecDepth 100000 in
theorem g_X5_init (l : Launch) (D : va_G) (K : Nat → ClassId) (b0 : Nat) (sa : sT) (sz : Nat) (LO : List Nat) (fO : Nat → va_E) (adO : Nat → Nat → Nat) (PO : Nat → Nat → Prop) (S : fS) (hw : PW K adO PO S LO fO) (hR : RC PO S) (i : Nat) (h25 : ∀ j : Nat, ge S 25 i j = tI j) (h26 : ∀ j : Nat, ge S 26 i j = 0) (hn_25 : ¬ PO 25 i) (hn_26 : ¬ PO 26 i) (x : Nat) (hm : x ∈ LO) (hfx : fO x = .inr (5, [.int 0, .int 0, .int 0, .int 0, .int 0, .int 0, .int 0, .int 0, .int 0, .int 0, .int 0, .int 0, .int 0, .int 0, .int 0, .null, .int 0])) (hne : ∀ a k : Nat, PO a k → adO a k ≠ x) : Met l yX5_init (.code yX5_init cX5_init 1 none :: gt) { frames := 1, cells := 1, slots := 5, locals := 12 } (va_Pc [.ref x] (hPre D K b0 sa sz LO fO)) (hQ D K b0 (fun v9 u9 => ∃ (P2 : Nat → Nat → Prop) (ad2 : Nat → Nat → Nat) (L2 : List Nat) (f2 : Nat → va_E), v9 = none ∧ u9 = lU L2 f2 ∧ PW K ad2 P2 S L2 f2 ∧ RC P2 S ∧ (∀ a k : Nat, P2 a k ↔ PO a k ∨ (a, k) ∈ [(25, i), (26, i)]) ∧ Gr (fun b => b = x) PO adO LO fO P2 ad2 L2 f2 ∧ ad2 25 i = x)) 1 5 (fun q => b0 ≤ q) := by
  refine t_of (own := RX5) (by decide) rfl ?_ (Nat.le_of_ble_eq_true rfl)
  intro p e s m below meth c ls C w hsz hr hlk hnm hl
  have hx := C.1
  have hb := C.2.1
  have hl : lv_has ls 1 [(0, .ref x)] := hl
  obtain ⟨H, eH⟩ : ∃ z, z = s.heap := ⟨_, rfl⟩
  obtain ⟨locs, el⟩ : ∃ z : List Loc, z = [] := ⟨_, rfl⟩
  rw [← eH, ← el] at w ⊢
  obtain ⟨P, ad, L, f, B, w, hI⟩ : ∃ (P2 : Nat → Nat → Prop) (ad2 : Nat → Nat → Nat) (L2 : List Nat) (f2 : Nat → va_E), Bd K S (fun b => b = x) PO adO LO fO P2 ad2 L2 f2 x 5 [.int 0, .int 0, .int 0, .int 0, .int 0, .int 0, .int 0, .int 0, .int 0, .int 0, .int 0, .int 0, .int 0, .int 0, .int 0, .null, .int 0] ∧ Wh D K b0 sa s H locs L2 f2 ∧ (∀ a k : Nat, P2 a k ↔ PO a k ∨ (a, k) ∈ ([] : List (Nat × Nat))) := ⟨PO, adO, LO, fO, Bd.of hw hR hm hfx hne, w, fun a k => by simp⟩
  refine lv_aload_n hx hb dX5_init_0 rfl (lv_at hl 0 rfl) ?_
  refine t_obj0 C hl.1 gw_218 gw_29 gw_30 dX5_init_1 (by decide) (Nat.le_of_ble_eq_true rfl) ?_
  refine lv_aload_n hx hb dX5_init_4 rfl (lv_at hl 0 rfl) ?_
  refine lv_iconst (v := 0) hx hb dX5_init_5 (by decide) ?_
  refine t_putv C w B.2.2.2.1 B.2.2.2.2.1 rfl cin_5 tyX5 tyX5_ok nmX5 0 (by decide) (Nat.le_of_ble_eq_true rfl) rfl rfl rfl gw_219 dX5_init_6 (fun H locs w => ?_)
  obtain ⟨f, B, w⟩ : ∃ (f2 : Nat → va_E), Bd K S (fun b => b = x) PO adO LO fO P ad L f2 x 5 [.int 0, .int 0, .int 0, .int 0, .int 0, .int 0, .int 0, .int 0, .int 0, .int 0, .int 0, .int 0, .int 0, .int 0, .int 0, .null, .int 0] ∧ Wh D K b0 sa s H locs L f2 := ⟨va_up f x (.inr (5, [.int 0, .int 0, .int 0, .int 0, .int 0, .int 0, .int 0, .int 0, .int 0, .int 0, .int 0, .int 0, .int 0, .int 0, .int 0, .null, .int 0])), B.put, w⟩
  refine lv_aload_n hx hb dX5_init_9 rfl (lv_at hl 0 rfl) ?_
  refine lv_iconst (v := 0) hx hb dX5_init_10 (by decide) ?_
  refine t_putv C w B.2.2.2.1 B.2.2.2.2.1 rfl cin_5 tyX5 tyX5_ok nmX5 1 (by decide) (Nat.le_of_ble_eq_true rfl) rfl rfl rfl gw_220 dX5_init_11 (fun H locs w => ?_)
  obtain ⟨f, B, w⟩ : ∃ (f2 : Nat → va_E), Bd K S (fun b => b = x) PO adO LO fO P ad L f2 x 5 [.int 0, .int 0, .int 0, .int 0, .int 0, .int 0, .int 0, .int 0, .int 0, .int 0, .int 0, .int 0, .int 0, .int 0, .int 0, .null, .int 0] ∧ Wh D K b0 sa s H locs L f2 := ⟨va_up f x (.inr (5, [.int 0, .int 0, .int 0, .int 0, .int 0, .int 0, .int 0, .int 0, .int 0, .int 0, .int 0, .int 0, .int 0, .int 0, .int 0, .null, .int 0])), B.put, w⟩
  refine lv_aload_n hx hb dX5_init_14 rfl (lv_at hl 0 rfl) ?_
  refine lv_iconst (v := (-1)) hx hb dX5_init_15 (by decide) ?_
  refine t_putv C w B.2.2.2.1 B.2.2.2.2.1 rfl cin_5 tyX5 tyX5_ok nmX5 2 (by decide) (Nat.le_of_ble_eq_true rfl) rfl rfl rfl gw_223 dX5_init_16 (fun H locs w => ?_)
  obtain ⟨f, B, w⟩ : ∃ (f2 : Nat → va_E), Bd K S (fun b => b = x) PO adO LO fO P ad L f2 x 5 [.int 0, .int 0, .int (-1), .int 0, .int 0, .int 0, .int 0, .int 0, .int 0, .int 0, .int 0, .int 0, .int 0, .int 0, .int 0, .null, .int 0] ∧ Wh D K b0 sa s H locs L f2 := ⟨va_up f x (.inr (5, [.int 0, .int 0, .int (-1), .int 0, .int 0, .int 0, .int 0, .int 0, .int 0, .int 0, .int 0, .int 0, .int 0, .int 0, .int 0, .null, .int 0])), B.put, w⟩
  refine lv_aload_n hx hb dX5_init_19 rfl (lv_at hl 0 rfl) ?_
  refine lv_iconst (v := 0) hx hb dX5_init_20 (by decide) ?_
  refine t_putv C w B.2.2.2.1 B.2.2.2.2.1 rfl cin_5 tyX5 tyX5_ok nmX5 3 (by decide) (Nat.le_of_ble_eq_true rfl) rfl rfl rfl gw_225 dX5_init_21 (fun H locs w => ?_)
  obtain ⟨f, B, w⟩ : ∃ (f2 : Nat → va_E), Bd K S (fun b => b = x) PO adO LO fO P ad L f2 x 5 [.int 0, .int 0, .int (-1), .int 0, .int 0, .int 0, .int 0, .int 0, .int 0, .int 0, .int 0, .int 0, .int 0, .int 0, .int 0, .null, .int 0] ∧ Wh D K b0 sa s H locs L f2 := ⟨va_up f x (.inr (5, [.int 0, .int 0, .int (-1), .int 0, .int 0, .int 0, .int 0, .int 0, .int 0, .int 0, .int 0, .int 0, .int 0, .int 0, .int 0, .null, .int 0])), B.put, w⟩
  refine lv_aload_n hx hb dX5_init_24 rfl (lv_at hl 0 rfl) ?_
  refine lv_iconst (v := 0) hx hb dX5_init_25 (by decide) ?_
  refine t_putv C w B.2.2.2.1 B.2.2.2.2.1 rfl cin_5 tyX5 tyX5_ok nmX5 4 (by decide) (Nat.le_of_ble_eq_true rfl) rfl rfl rfl gw_227 dX5_init_26 (fun H locs w => ?_)
  obtain ⟨f, B, w⟩ : ∃ (f2 : Nat → va_E), Bd K S (fun b => b = x) PO adO LO fO P ad L f2 x 5 [.int 0, .int 0, .int (-1), .int 0, .int 0, .int 0, .int 0, .int 0, .int 0, .int 0, .int 0, .int 0, .int 0, .int 0, .int 0, .null, .int 0] ∧ Wh D K b0 sa s H locs L f2 := ⟨va_up f x (.inr (5, [.int 0, .int 0, .int (-1), .int 0, .int 0, .int 0, .int 0, .int 0, .int 0, .int 0, .int 0, .int 0, .int 0, .int 0, .int 0, .null, .int 0])), B.put, w⟩
  refine lv_aload_n hx hb dX5_init_29 rfl (lv_at hl 0 rfl) ?_
  refine lv_iconst (v := 0) hx hb dX5_init_30 (by decide) ?_
  refine t_putv C w B.2.2.2.1 B.2.2.2.2.1 rfl cin_5 tyX5 tyX5_ok nmX5 5 (by decide) (Nat.le_of_ble_eq_true rfl) rfl rfl rfl gw_230 dX5_init_31 (fun H locs w => ?_)
  obtain ⟨f, B, w⟩ : ∃ (f2 : Nat → va_E), Bd K S (fun b => b = x) PO adO LO fO P ad L f2 x 5 [.int 0, .int 0, .int (-1), .int 0, .int 0, .int 0, .int 0, .int 0, .int 0, .int 0, .int 0, .int 0, .int 0, .int 0, .int 0, .null, .int 0] ∧ Wh D K b0 sa s H locs L f2 := ⟨va_up f x (.inr (5, [.int 0, .int 0, .int (-1), .int 0, .int 0, .int 0, .int 0, .int 0, .int 0, .int 0, .int 0, .int 0, .int 0, .int 0, .int 0, .null, .int 0])), B.put, w⟩
  refine lv_aload_n hx hb dX5_init_34 rfl (lv_at hl 0 rfl) ?_
  refine lv_iconst (v := 0) hx hb dX5_init_35 (by decide) ?_
  refine t_putv C w B.2.2.2.1 B.2.2.2.2.1 rfl cin_5 tyX5 tyX5_ok nmX5 6 (by decide) (Nat.le_of_ble_eq_true rfl) rfl rfl rfl gw_233 dX5_init_36 (fun H locs w => ?_)
  obtain ⟨f, B, w⟩ : ∃ (f2 : Nat → va_E), Bd K S (fun b => b = x) PO adO LO fO P ad L f2 x 5 [.int 0, .int 0, .int (-1), .int 0, .int 0, .int 0, .int 0, .int 0, .int 0, .int 0, .int 0, .int 0, .int 0, .int 0, .int 0, .null, .int 0] ∧ Wh D K b0 sa s H locs L f2 := ⟨va_up f x (.inr (5, [.int 0, .int 0, .int (-1), .int 0, .int 0, .int 0, .int 0, .int 0, .int 0, .int 0, .int 0, .int 0, .int 0, .int 0, .int 0, .null, .int 0])), B.put, w⟩
  refine lv_aload_n hx hb dX5_init_39 rfl (lv_at hl 0 rfl) ?_
  refine lv_iconst (v := 0) hx hb dX5_init_40 (by decide) ?_
  refine t_putv C w B.2.2.2.1 B.2.2.2.2.1 rfl cin_5 tyX5 tyX5_ok nmX5 7 (by decide) (Nat.le_of_ble_eq_true rfl) rfl rfl rfl gw_236 dX5_init_41 (fun H locs w => ?_)
  obtain ⟨f, B, w⟩ : ∃ (f2 : Nat → va_E), Bd K S (fun b => b = x) PO adO LO fO P ad L f2 x 5 [.int 0, .int 0, .int (-1), .int 0, .int 0, .int 0, .int 0, .int 0, .int 0, .int 0, .int 0, .int 0, .int 0, .int 0, .int 0, .null, .int 0] ∧ Wh D K b0 sa s H locs L f2 := ⟨va_up f x (.inr (5, [.int 0, .int 0, .int (-1), .int 0, .int 0, .int 0, .int 0, .int 0, .int 0, .int 0, .int 0, .int 0, .int 0, .int 0, .int 0, .null, .int 0])), B.put, w⟩
  refine lv_aload_n hx hb dX5_init_44 rfl (lv_at hl 0 rfl) ?_
  refine lv_iconst (v := 0) hx hb dX5_init_45 (by decide) ?_
  refine t_putv C w B.2.2.2.1 B.2.2.2.2.1 rfl cin_5 tyX5 tyX5_ok nmX5 8 (by decide) (Nat.le_of_ble_eq_true rfl) rfl rfl rfl gw_238 dX5_init_46 (fun H locs w => ?_)
  obtain ⟨f, B, w⟩ : ∃ (f2 : Nat → va_E), Bd K S (fun b => b = x) PO adO LO fO P ad L f2 x 5 [.int 0, .int 0, .int (-1), .int 0, .int 0, .int 0, .int 0, .int 0, .int 0, .int 0, .int 0, .int 0, .int 0, .int 0, .int 0, .null, .int 0] ∧ Wh D K b0 sa s H locs L f2 := ⟨va_up f x (.inr (5, [.int 0, .int 0, .int (-1), .int 0, .int 0, .int 0, .int 0, .int 0, .int 0, .int 0, .int 0, .int 0, .int 0, .int 0, .int 0, .null, .int 0])), B.put, w⟩
  refine lv_aload_n hx hb dX5_init_49 rfl (lv_at hl 0 rfl) ?_
  refine lv_iconst (v := 0) hx hb dX5_init_50 (by decide) ?_
  refine t_putv C w B.2.2.2.1 B.2.2.2.2.1 rfl cin_5 tyX5 tyX5_ok nmX5 9 (by decide) (Nat.le_of_ble_eq_true rfl) rfl rfl rfl gw_240 dX5_init_51 (fun H locs w => ?_)
  obtain ⟨f, B, w⟩ : ∃ (f2 : Nat → va_E), Bd K S (fun b => b = x) PO adO LO fO P ad L f2 x 5 [.int 0, .int 0, .int (-1), .int 0, .int 0, .int 0, .int 0, .int 0, .int 0, .int 0, .int 0, .int 0, .int 0, .int 0, .int 0, .null, .int 0] ∧ Wh D K b0 sa s H locs L f2 := ⟨va_up f x (.inr (5, [.int 0, .int 0, .int (-1), .int 0, .int 0, .int 0, .int 0, .int 0, .int 0, .int 0, .int 0, .int 0, .int 0, .int 0, .int 0, .null, .int 0])), B.put, w⟩
  refine lv_aload_n hx hb dX5_init_54 rfl (lv_at hl 0 rfl) ?_
  refine lv_iconst (v := 0) hx hb dX5_init_55 (by decide) ?_
  refine t_putv C w B.2.2.2.1 B.2.2.2.2.1 rfl cin_5 tyX5 tyX5_ok nmX5 10 (by decide) (Nat.le_of_ble_eq_true rfl) rfl rfl rfl gw_243 dX5_init_56 (fun H locs w => ?_)
  obtain ⟨f, B, w⟩ : ∃ (f2 : Nat → va_E), Bd K S (fun b => b = x) PO adO LO fO P ad L f2 x 5 [.int 0, .int 0, .int (-1), .int 0, .int 0, .int 0, .int 0, .int 0, .int 0, .int 0, .int 0, .int 0, .int 0, .int 0, .int 0, .null, .int 0] ∧ Wh D K b0 sa s H locs L f2 := ⟨va_up f x (.inr (5, [.int 0, .int 0, .int (-1), .int 0, .int 0, .int 0, .int 0, .int 0, .int 0, .int 0, .int 0, .int 0, .int 0, .int 0, .int 0, .null, .int 0])), B.put, w⟩
  refine lv_aload_n hx hb dX5_init_59 rfl (lv_at hl 0 rfl) ?_
  refine lv_iconst (v := 0) hx hb dX5_init_60 (by decide) ?_
  refine t_putv C w B.2.2.2.1 B.2.2.2.2.1 rfl cin_5 tyX5 tyX5_ok nmX5 11 (by decide) (Nat.le_of_ble_eq_true rfl) rfl rfl rfl gw_244 dX5_init_61 (fun H locs w => ?_)
  obtain ⟨f, B, w⟩ : ∃ (f2 : Nat → va_E), Bd K S (fun b => b = x) PO adO LO fO P ad L f2 x 5 [.int 0, .int 0, .int (-1), .int 0, .int 0, .int 0, .int 0, .int 0, .int 0, .int 0, .int 0, .int 0, .int 0, .int 0, .int 0, .null, .int 0] ∧ Wh D K b0 sa s H locs L f2 := ⟨va_up f x (.inr (5, [.int 0, .int 0, .int (-1), .int 0, .int 0, .int 0, .int 0, .int 0, .int 0, .int 0, .int 0, .int 0, .int 0, .int 0, .int 0, .null, .int 0])), B.put, w⟩
  refine lv_aload_n hx hb dX5_init_64 rfl (lv_at hl 0 rfl) ?_
  refine lv_iconst (v := 0) hx hb dX5_init_65 (by decide) ?_
  refine t_putv C w B.2.2.2.1 B.2.2.2.2.1 rfl cin_5 tyX5 tyX5_ok nmX5 12 (by decide) (Nat.le_of_ble_eq_true rfl) rfl rfl rfl gw_245 dX5_init_66 (fun H locs w => ?_)
  obtain ⟨f, B, w⟩ : ∃ (f2 : Nat → va_E), Bd K S (fun b => b = x) PO adO LO fO P ad L f2 x 5 [.int 0, .int 0, .int (-1), .int 0, .int 0, .int 0, .int 0, .int 0, .int 0, .int 0, .int 0, .int 0, .int 0, .int 0, .int 0, .null, .int 0] ∧ Wh D K b0 sa s H locs L f2 := ⟨va_up f x (.inr (5, [.int 0, .int 0, .int (-1), .int 0, .int 0, .int 0, .int 0, .int 0, .int 0, .int 0, .int 0, .int 0, .int 0, .int 0, .int 0, .null, .int 0])), B.put, w⟩
  refine lv_aload_n hx hb dX5_init_69 rfl (lv_at hl 0 rfl) ?_
  refine lv_iconst (v := 0) hx hb dX5_init_70 (by decide) ?_
  refine t_putv C w B.2.2.2.1 B.2.2.2.2.1 rfl cin_5 tyX5 tyX5_ok nmX5 13 (by decide) (Nat.le_of_ble_eq_true rfl) rfl rfl rfl gw_246 dX5_init_71 (fun H locs w => ?_)
  obtain ⟨f, B, w⟩ : ∃ (f2 : Nat → va_E), Bd K S (fun b => b = x) PO adO LO fO P ad L f2 x 5 [.int 0, .int 0, .int (-1), .int 0, .int 0, .int 0, .int 0, .int 0, .int 0, .int 0, .int 0, .int 0, .int 0, .int 0, .int 0, .null, .int 0] ∧ Wh D K b0 sa s H locs L f2 := ⟨va_up f x (.inr (5, [.int 0, .int 0, .int (-1), .int 0, .int 0, .int 0, .int 0, .int 0, .int 0, .int 0, .int 0, .int 0, .int 0, .int 0, .int 0, .null, .int 0])), B.put, w⟩
  refine lv_aload_n hx hb dX5_init_74 rfl (lv_at hl 0 rfl) ?_
  refine lv_iconst (v := 0) hx hb dX5_init_75 (by decide) ?_
  refine t_putv C w B.2.2.2.1 B.2.2.2.2.1 rfl cin_5 tyX5 tyX5_ok nmX5 14 (by decide) (Nat.le_of_ble_eq_true rfl) rfl rfl rfl gw_247 dX5_init_76 (fun H locs w => ?_)
  obtain ⟨f, B, w⟩ : ∃ (f2 : Nat → va_E), Bd K S (fun b => b = x) PO adO LO fO P ad L f2 x 5 [.int 0, .int 0, .int (-1), .int 0, .int 0, .int 0, .int 0, .int 0, .int 0, .int 0, .int 0, .int 0, .int 0, .int 0, .int 0, .null, .int 0] ∧ Wh D K b0 sa s H locs L f2 := ⟨va_up f x (.inr (5, [.int 0, .int 0, .int (-1), .int 0, .int 0, .int 0, .int 0, .int 0, .int 0, .int 0, .int 0, .int 0, .int 0, .int 0, .int 0, .null, .int 0])), B.put, w⟩
  refine lv_aload_n hx hb dX5_init_79 rfl (lv_at hl 0 rfl) ?_
  refine lv_iconst (v := 5) hx hb dX5_init_80 (by decide) ?_
  refine g_newI C w (at_ := .int) (ti := 0) (ty := .int) rfl rfl (Or.inl rfl) gw_85 (N := 5) (by decide) (by decide) (by decide) (Nat.le_of_ble_eq_true rfl) (Nat.le_of_ble_eq_true rfl) dX5_init_81 (fun q1 H hq w => ?_)
  obtain ⟨P, ad, L, f, B, w, hI, h_26_i⟩ : ∃ (P2 : Nat → Nat → Prop) (ad2 : Nat → Nat → Nat) (L2 : List Nat) (f2 : Nat → va_E), Bd K S (fun b => b = x) PO adO LO fO P2 ad2 L2 f2 x 5 [.int 0, .int 0, .int (-1), .int 0, .int 0, .int 0, .int 0, .int 0, .int 0, .int 0, .int 0, .int 0, .int 0, .int 0, .int 0, .null, .int 0] ∧ Wh D K b0 sa s H locs L2 f2 ∧ (∀ a k : Nat, P2 a k ↔ PO a k ∨ (a, k) ∈ [(26, i)]) ∧ ad2 26 i = q1 := ⟨Pu P 26 i, au ad 26 i q1, L ++ [q1], va_up f q1 _, (B.arr (fun h => ((hI 26 i).mp h).elim hn_26 (by simp)) hq (by rw [cell_1 rfl, show (fun j => ge S 26 i j) = fun _ => 0 from funext h26]; rfl) (fun b c => rf_1 rfl)), w, (Pu_iff hI), au_self⟩
  refine t_putF C (hnm.trans rfl) w B.2.2.2.1 B.2.2.2.2.1 rfl cin_5 tyX5 tyX5_ok nmX5 15 (by decide) (Nat.le_of_ble_eq_true rfl) rfl rfl rfl rfl gw_248 dX5_init_83 (fun H locs w => ?_)
  obtain ⟨f, B, w⟩ : ∃ (f2 : Nat → va_E), Bd K S (fun b => b = x) PO adO LO fO P ad L f2 x 5 [.int 0, .int 0, .int (-1), .int 0, .int 0, .int 0, .int 0, .int 0, .int 0, .int 0, .int 0, .int 0, .int 0, .int 0, .int 0, .ref q1, .int 0] ∧ Wh D K b0 sa s H locs L f2 := ⟨va_up f x (.inr (5, [.int 0, .int 0, .int (-1), .int 0, .int 0, .int 0, .int 0, .int 0, .int 0, .int 0, .int 0, .int 0, .int 0, .int 0, .int 0, .ref q1, .int 0])), B.put, w⟩
  refine lv_aload_n hx hb dX5_init_86 rfl (lv_at hl 0 rfl) ?_
  refine lv_iconst (v := 0) hx hb dX5_init_87 (by decide) ?_
  refine t_putv C w B.2.2.2.1 B.2.2.2.2.1 rfl cin_5 tyX5 tyX5_ok nmX5 16 (by decide) (Nat.le_of_ble_eq_true rfl) rfl rfl rfl gw_249 dX5_init_88 (fun H locs w => ?_)
  obtain ⟨f, B, w⟩ : ∃ (f2 : Nat → va_E), Bd K S (fun b => b = x) PO adO LO fO P ad L f2 x 5 [.int 0, .int 0, .int (-1), .int 0, .int 0, .int 0, .int 0, .int 0, .int 0, .int 0, .int 0, .int 0, .int 0, .int 0, .int 0, .ref q1, .int 0] ∧ Wh D K b0 sa s H locs L f2 := ⟨va_up f x (.inr (5, [.int 0, .int 0, .int (-1), .int 0, .int 0, .int 0, .int 0, .int 0, .int 0, .int 0, .int 0, .int 0, .int 0, .int 0, .int 0, .ref q1, .int 0])), B.put, w⟩
  have hcell : (.inr (5, [.int 0, .int 0, .int (-1), .int 0, .int 0, .int 0, .int 0, .int 0, .int 0, .int 0, .int 0, .int 0, .int 0, .int 0, .int 0, .ref q1, .int 0]) : va_E) = cellOf K (au ad 25 i x) S 25 i := by
    rw [cell_0 rfl]
    show (Sum.inr (5, [.int 0, .int 0, .int (-1), .int 0, .int 0, .int 0, .int 0, .int 0, .int 0, .int 0, .int 0, .int 0, .int 0, .int 0, .int 0, .ref q1, .int 0]) : va_E) = Sum.inr (5, [.int (ge S 25 i 0), .int (ge S 25 i 1), .int (ge S 25 i 2), .int (ge S 25 i 3), .int (ge S 25 i 4), .int (ge S 25 i 5), .int (ge S 25 i 6), .int (ge S 25 i 7), .int (ge S 25 i 8), .int (ge S 25 i 9), .int (ge S 25 i 10), .int (ge S 25 i 11), .int (ge S 25 i 12), .int (ge S 25 i 13), .int (ge S 25 i 14), .ref (ad 26 i), .int (ge S 25 i 16)])
    simp only [h25]
    rw [h_26_i]
    rfl
  have href : ∀ b c : Nat, Rf S 25 i b c → P b c := by
    intro b c hr
    obtain ⟨j, hj, hd, hq⟩ := rf_0 rfl hr
    match j, hj, hd, hq with
    | 0, _, hd, _ => exact absurd rfl hd
    | 1, _, hd, _ => exact absurd rfl hd
    | 2, _, hd, _ => exact absurd rfl hd
    | 3, _, hd, _ => exact absurd rfl hd
    | 4, _, hd, _ => exact absurd rfl hd
    | 5, _, hd, _ => exact absurd rfl hd
    | 6, _, hd, _ => exact absurd rfl hd
    | 7, _, hd, _ => exact absurd rfl hd
    | 8, _, hd, _ => exact absurd rfl hd
    | 9, _, hd, _ => exact absurd rfl hd
    | 10, _, hd, _ => exact absurd rfl hd
    | 11, _, hd, _ => exact absurd rfl hd
    | 12, _, hd, _ => exact absurd rfl hd
    | 13, _, hd, _ => exact absurd rfl hd
    | 14, _, hd, _ => exact absurd rfl hd
    | 15, _, _, hq => have e9 : (26, i) = (b, c) := hq; cases e9; exact ((hI 26 i).mpr (Or.inr (by simp)))
    | 16, _, hd, _ => exact absurd rfl hd
    | (j + 17), hj, _, _ => exact absurd hj (show ¬ j + 17 < 17 by omega)
  have z := B.fin (fun h => ((hI 25 i).mp h).elim hn_25 (by simp)) hcell href
  exact t_vret C hr hlk w ⟨_, _, _, _, rfl, rfl, z.1, z.2.1, Pu_iff hI, z.2.2, au_self⟩ (by decide) (by decide) dX5_init_91
