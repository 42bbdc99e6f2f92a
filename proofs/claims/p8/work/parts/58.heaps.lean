theorem dX2_init_0 : decode cX2_init 0 = .ok (.aload_n 0, 1) := by decide +kernel
theorem dX2_init_1 : decode cX2_init 1 = .ok (.invokespecial 3, 3) := by decide +kernel
theorem dX2_init_4 : decode cX2_init 4 = .ok (.aload_n 0, 1) := by decide +kernel
theorem dX2_init_5 : decode cX2_init 5 = .ok (.iconst 0, 1) := by decide +kernel
theorem dX2_init_6 : decode cX2_init 6 = .ok (.putfield 9, 3) := by decide +kernel
theorem dX2_init_9 : decode cX2_init 9 = .ok (.aload_n 0, 1) := by decide +kernel
theorem dX2_init_10 : decode cX2_init 10 = .ok (.bipush 24, 2) := by decide +kernel
theorem dX2_init_12 : decode cX2_init 12 = .ok (.newarray .int, 2) := by decide +kernel
theorem dX2_init_14 : decode cX2_init 14 = .ok (.putfield 15, 3) := by decide +kernel
theorem dX2_init_17 : decode cX2_init 17 = .ok (.aload_n 0, 1) := by decide +kernel
theorem dX2_init_18 : decode cX2_init 18 = .ok (.bipush 24, 2) := by decide +kernel
theorem dX2_init_20 : decode cX2_init 20 = .ok (.newarray .int, 2) := by decide +kernel
theorem dX2_init_22 : decode cX2_init 22 = .ok (.putfield 19, 3) := by decide +kernel
theorem dX2_init_25 : decode cX2_init 25 = .ok (.aload_n 0, 1) := by decide +kernel
theorem dX2_init_26 : decode cX2_init 26 = .ok (.bipush 24, 2) := by decide +kernel
theorem dX2_init_28 : decode cX2_init 28 = .ok (.newarray .int, 2) := by decide +kernel
theorem dX2_init_30 : decode cX2_init 30 = .ok (.putfield 22, 3) := by decide +kernel
theorem dX2_init_33 : decode cX2_init 33 = .ok (.aload_n 0, 1) := by decide +kernel
theorem dX2_init_34 : decode cX2_init 34 = .ok (.bipush 24, 2) := by decide +kernel
theorem dX2_init_36 : decode cX2_init 36 = .ok (.newarray .int, 2) := by decide +kernel
theorem dX2_init_38 : decode cX2_init 38 = .ok (.putfield 25, 3) := by decide +kernel
theorem dX2_init_41 : decode cX2_init 41 = .ok (.aload_n 0, 1) := by decide +kernel
theorem dX2_init_42 : decode cX2_init 42 = .ok (.bipush 24, 2) := by decide +kernel
theorem dX2_init_44 : decode cX2_init 44 = .ok (.newarray .int, 2) := by decide +kernel
theorem dX2_init_46 : decode cX2_init 46 = .ok (.putfield 28, 3) := by decide +kernel
theorem dX2_init_49 : decode cX2_init 49 = .ok (.aload_n 0, 1) := by decide +kernel
theorem dX2_init_50 : decode cX2_init 50 = .ok (.bipush 24, 2) := by decide +kernel
theorem dX2_init_52 : decode cX2_init 52 = .ok (.newarray .int, 2) := by decide +kernel
theorem dX2_init_54 : decode cX2_init 54 = .ok (.putfield 31, 3) := by decide +kernel
theorem dX2_init_57 : decode cX2_init 57 = .ok (.aload_n 0, 1) := by decide +kernel
theorem dX2_init_58 : decode cX2_init 58 = .ok (.bipush 24, 2) := by decide +kernel
theorem dX2_init_60 : decode cX2_init 60 = .ok (.newarray .int, 2) := by decide +kernel
theorem dX2_init_62 : decode cX2_init 62 = .ok (.putfield 34, 3) := by decide +kernel
theorem dX2_init_65 : decode cX2_init 65 = .ok (.aload_n 0, 1) := by decide +kernel
theorem dX2_init_66 : decode cX2_init 66 = .ok (.bipush 64, 2) := by decide +kernel
theorem dX2_init_68 : decode cX2_init 68 = .ok (.newarray .int, 2) := by decide +kernel
theorem dX2_init_70 : decode cX2_init 70 = .ok (.putfield 37, 3) := by decide +kernel
theorem dX2_init_73 : decode cX2_init 73 = .ok (.aload_n 0, 1) := by decide +kernel
theorem dX2_init_74 : decode cX2_init 74 = .ok (.getfield 37, 3) := by decide +kernel
theorem dX2_init_77 : decode cX2_init 77 = .ok (.iconst (-1), 1) := by decide +kernel
theorem dX2_init_78 : decode cX2_init 78 = .ok (.invokestatic 40, 3) := by decide +kernel
theorem dX2_init_81 : decode cX2_init 81 = .ok (.return_, 1) := by decide +kernel
set_option maxHeartbeats 8000000 in
set_option maxRecDepth 100000 in
theorem g_X2_init (l : Launch) (D : va_G) (K : Nat → ClassId) (b0 : Nat) (sa : sT) (sz : Nat) (LO : List Nat) (fO : Nat → va_E) (adO : Nat → Nat → Nat) (PO : Nat → Nat → Prop) (hw : PW K adO PO SI LO fO) (hR : RC PO SI) (i : Nat) (hn_2 : ¬ PO 2 i) (hn_3 : ¬ PO 3 i) (hn_4 : ¬ PO 4 i) (hn_5 : ¬ PO 5 i) (hn_6 : ¬ PO 6 i) (hn_7 : ¬ PO 7 i) (hn_8 : ¬ PO 8 i) (hn_9 : ¬ PO 9 i) (hn_10 : ¬ PO 10 i) (x : Nat) (hm : x ∈ LO) (hfx : fO x = .inr (2, [.int 0, .null, .null, .null, .null, .null, .null, .null, .null])) (hne : ∀ a k : Nat, PO a k → adO a k ≠ x) : Met l yX2_init (.code yX2_init cX2_init 1 none :: gt) { frames := 1, cells := 8, slots := 232, locals := 23 } (va_Pc [.ref x] (hPre D K b0 sa sz LO fO)) (hQ D K b0 (fun v9 u9 => ∃ (P2 : Nat → Nat → Prop) (ad2 : Nat → Nat → Nat) (L2 : List Nat) (f2 : Nat → va_E), v9 = none ∧ u9 = lU L2 f2 ∧ PW K ad2 P2 SI L2 f2 ∧ RC P2 SI ∧ (∀ a k : Nat, P2 a k ↔ PO a k ∨ (a, k) ∈ [(2, i), (10, i), (9, i), (8, i), (7, i), (6, i), (5, i), (4, i), (3, i)]) ∧ Gr (fun b => b = x) PO adO LO fO P2 ad2 L2 f2 ∧ ad2 2 i = x)) 8 232 (fun q => b0 ≤ q) := by
  refine t_of (own := RX2) (by decide) rfl ?_ (Nat.le_of_ble_eq_true rfl)
  intro p e s m below meth c ls C w hsz hr hlk hnm hl
  have hx := C.1
  have hb := C.2.1
  have hl : lv_has ls 1 [(0, .ref x)] := hl
  obtain ⟨H, eH⟩ : ∃ z, z = s.heap := ⟨_, rfl⟩
  obtain ⟨locs, el⟩ : ∃ z : List Loc, z = [] := ⟨_, rfl⟩
  rw [← eH, ← el] at w ⊢
  obtain ⟨P, ad, L, f, B, w, hI⟩ : ∃ (P2 : Nat → Nat → Prop) (ad2 : Nat → Nat → Nat) (L2 : List Nat) (f2 : Nat → va_E), Bd K SI (fun b => b = x) PO adO LO fO P2 ad2 L2 f2 x 2 [.int 0, .null, .null, .null, .null, .null, .null, .null, .null] ∧ Wh D K b0 sa s H locs L2 f2 ∧ (∀ a k : Nat, P2 a k ↔ PO a k ∨ (a, k) ∈ ([] : List (Nat × Nat))) := ⟨PO, adO, LO, fO, Bd.of hw hR hm hfx hne, w, fun a k => by simp⟩
  refine lv_aload_n hx hb dX2_init_0 rfl (lv_at hl 0 rfl) ?_
  refine t_obj0 C hl.1 gw_42 gw_29 gw_30 dX2_init_1 (by decide) (Nat.le_of_ble_eq_true rfl) ?_
  refine lv_aload_n hx hb dX2_init_4 rfl (lv_at hl 0 rfl) ?_
  refine lv_iconst (v := 0) hx hb dX2_init_5 (by decide) ?_
  refine t_putv C w B.2.2.2.1 B.2.2.2.2.1 rfl cin_2 tyX2 tyX2_ok nmX2 0 (by decide) (Nat.le_of_ble_eq_true rfl) rfl rfl rfl gw_46 dX2_init_6 (fun H locs w => ?_)
  obtain ⟨f, B, w⟩ : ∃ (f2 : Nat → va_E), Bd K SI (fun b => b = x) PO adO LO fO P ad L f2 x 2 [.int 0, .null, .null, .null, .null, .null, .null, .null, .null] ∧ Wh D K b0 sa s H locs L f2 := ⟨va_up f x (.inr (2, [.int 0, .null, .null, .null, .null, .null, .null, .null, .null])), B.put, w⟩
  refine lv_aload_n hx hb dX2_init_9 rfl (lv_at hl 0 rfl) ?_
  refine lv_bipush (v := 24) hx hb dX2_init_10 (by decide) ?_
  refine g_newI C w (at_ := .int) (ti := 0) (ty := .int) rfl rfl (Or.inl rfl) gw_85 (N := 24) (by decide) (by decide) (by decide) (Nat.le_of_ble_eq_true rfl) (Nat.le_of_ble_eq_true rfl) dX2_init_12 (fun q1 H hq w => ?_)
  obtain ⟨P, ad, L, f, B, w, hI, h_3_i⟩ : ∃ (P2 : Nat → Nat → Prop) (ad2 : Nat → Nat → Nat) (L2 : List Nat) (f2 : Nat → va_E), Bd K SI (fun b => b = x) PO adO LO fO P2 ad2 L2 f2 x 2 [.int 0, .null, .null, .null, .null, .null, .null, .null, .null] ∧ Wh D K b0 sa s H locs L2 f2 ∧ (∀ a k : Nat, P2 a k ↔ PO a k ∨ (a, k) ∈ [(3, i)]) ∧ ad2 3 i = q1 := ⟨Pu P 3 i, au ad 3 i q1, L ++ [q1], va_up f q1 _, (B.arr (fun h => ((hI 3 i).mp h).elim hn_3 (by simp)) hq rfl (fun b c => rf_1 rfl)), w, (Pu_iff hI), au_self⟩
  refine t_putF C (hnm.trans rfl) w B.2.2.2.1 B.2.2.2.2.1 rfl cin_2 tyX2 tyX2_ok nmX2 1 (by decide) (Nat.le_of_ble_eq_true rfl) rfl rfl rfl rfl gw_48 dX2_init_14 (fun H locs w => ?_)
  obtain ⟨f, B, w⟩ : ∃ (f2 : Nat → va_E), Bd K SI (fun b => b = x) PO adO LO fO P ad L f2 x 2 [.int 0, .ref q1, .null, .null, .null, .null, .null, .null, .null] ∧ Wh D K b0 sa s H locs L f2 := ⟨va_up f x (.inr (2, [.int 0, .ref q1, .null, .null, .null, .null, .null, .null, .null])), B.put, w⟩
  refine lv_aload_n hx hb dX2_init_17 rfl (lv_at hl 0 rfl) ?_
  refine lv_bipush (v := 24) hx hb dX2_init_18 (by decide) ?_
  refine g_newI C w (at_ := .int) (ti := 0) (ty := .int) rfl rfl (Or.inl rfl) gw_85 (N := 24) (by decide) (by decide) (by decide) (Nat.le_of_ble_eq_true rfl) (Nat.le_of_ble_eq_true rfl) dX2_init_20 (fun q2 H hq w => ?_)
  obtain ⟨P, ad, L, f, B, w, hI, h_3_i, h_4_i⟩ : ∃ (P2 : Nat → Nat → Prop) (ad2 : Nat → Nat → Nat) (L2 : List Nat) (f2 : Nat → va_E), Bd K SI (fun b => b = x) PO adO LO fO P2 ad2 L2 f2 x 2 [.int 0, .ref q1, .null, .null, .null, .null, .null, .null, .null] ∧ Wh D K b0 sa s H locs L2 f2 ∧ (∀ a k : Nat, P2 a k ↔ PO a k ∨ (a, k) ∈ [(4, i), (3, i)]) ∧ ad2 3 i = q1 ∧ ad2 4 i = q2 := ⟨Pu P 4 i, au ad 4 i q2, L ++ [q2], va_up f q2 _, (B.arr (fun h => ((hI 4 i).mp h).elim hn_4 (by simp)) hq rfl (fun b c => rf_1 rfl)), w, (Pu_iff hI), ((au_ne (fun h => absurd h.1 (by decide))).trans h_3_i), au_self⟩
  refine t_putF C (hnm.trans rfl) w B.2.2.2.1 B.2.2.2.2.1 rfl cin_2 tyX2 tyX2_ok nmX2 2 (by decide) (Nat.le_of_ble_eq_true rfl) rfl rfl rfl rfl gw_51 dX2_init_22 (fun H locs w => ?_)
  obtain ⟨f, B, w⟩ : ∃ (f2 : Nat → va_E), Bd K SI (fun b => b = x) PO adO LO fO P ad L f2 x 2 [.int 0, .ref q1, .ref q2, .null, .null, .null, .null, .null, .null] ∧ Wh D K b0 sa s H locs L f2 := ⟨va_up f x (.inr (2, [.int 0, .ref q1, .ref q2, .null, .null, .null, .null, .null, .null])), B.put, w⟩
  refine lv_aload_n hx hb dX2_init_25 rfl (lv_at hl 0 rfl) ?_
  refine lv_bipush (v := 24) hx hb dX2_init_26 (by decide) ?_
  refine g_newI C w (at_ := .int) (ti := 0) (ty := .int) rfl rfl (Or.inl rfl) gw_85 (N := 24) (by decide) (by decide) (by decide) (Nat.le_of_ble_eq_true rfl) (Nat.le_of_ble_eq_true rfl) dX2_init_28 (fun q3 H hq w => ?_)
  obtain ⟨P, ad, L, f, B, w, hI, h_3_i, h_4_i, h_5_i⟩ : ∃ (P2 : Nat → Nat → Prop) (ad2 : Nat → Nat → Nat) (L2 : List Nat) (f2 : Nat → va_E), Bd K SI (fun b => b = x) PO adO LO fO P2 ad2 L2 f2 x 2 [.int 0, .ref q1, .ref q2, .null, .null, .null, .null, .null, .null] ∧ Wh D K b0 sa s H locs L2 f2 ∧ (∀ a k : Nat, P2 a k ↔ PO a k ∨ (a, k) ∈ [(5, i), (4, i), (3, i)]) ∧ ad2 3 i = q1 ∧ ad2 4 i = q2 ∧ ad2 5 i = q3 := ⟨Pu P 5 i, au ad 5 i q3, L ++ [q3], va_up f q3 _, (B.arr (fun h => ((hI 5 i).mp h).elim hn_5 (by simp)) hq rfl (fun b c => rf_1 rfl)), w, (Pu_iff hI), ((au_ne (fun h => absurd h.1 (by decide))).trans h_3_i), ((au_ne (fun h => absurd h.1 (by decide))).trans h_4_i), au_self⟩
  refine t_putF C (hnm.trans rfl) w B.2.2.2.1 B.2.2.2.2.1 rfl cin_2 tyX2 tyX2_ok nmX2 3 (by decide) (Nat.le_of_ble_eq_true rfl) rfl rfl rfl rfl gw_54 dX2_init_30 (fun H locs w => ?_)
  obtain ⟨f, B, w⟩ : ∃ (f2 : Nat → va_E), Bd K SI (fun b => b = x) PO adO LO fO P ad L f2 x 2 [.int 0, .ref q1, .ref q2, .ref q3, .null, .null, .null, .null, .null] ∧ Wh D K b0 sa s H locs L f2 := ⟨va_up f x (.inr (2, [.int 0, .ref q1, .ref q2, .ref q3, .null, .null, .null, .null, .null])), B.put, w⟩
  refine lv_aload_n hx hb dX2_init_33 rfl (lv_at hl 0 rfl) ?_
  refine lv_bipush (v := 24) hx hb dX2_init_34 (by decide) ?_
  refine g_newI C w (at_ := .int) (ti := 0) (ty := .int) rfl rfl (Or.inl rfl) gw_85 (N := 24) (by decide) (by decide) (by decide) (Nat.le_of_ble_eq_true rfl) (Nat.le_of_ble_eq_true rfl) dX2_init_36 (fun q4 H hq w => ?_)
  obtain ⟨P, ad, L, f, B, w, hI, h_3_i, h_4_i, h_5_i, h_6_i⟩ : ∃ (P2 : Nat → Nat → Prop) (ad2 : Nat → Nat → Nat) (L2 : List Nat) (f2 : Nat → va_E), Bd K SI (fun b => b = x) PO adO LO fO P2 ad2 L2 f2 x 2 [.int 0, .ref q1, .ref q2, .ref q3, .null, .null, .null, .null, .null] ∧ Wh D K b0 sa s H locs L2 f2 ∧ (∀ a k : Nat, P2 a k ↔ PO a k ∨ (a, k) ∈ [(6, i), (5, i), (4, i), (3, i)]) ∧ ad2 3 i = q1 ∧ ad2 4 i = q2 ∧ ad2 5 i = q3 ∧ ad2 6 i = q4 := ⟨Pu P 6 i, au ad 6 i q4, L ++ [q4], va_up f q4 _, (B.arr (fun h => ((hI 6 i).mp h).elim hn_6 (by simp)) hq rfl (fun b c => rf_1 rfl)), w, (Pu_iff hI), ((au_ne (fun h => absurd h.1 (by decide))).trans h_3_i), ((au_ne (fun h => absurd h.1 (by decide))).trans h_4_i), ((au_ne (fun h => absurd h.1 (by decide))).trans h_5_i), au_self⟩
  refine t_putF C (hnm.trans rfl) w B.2.2.2.1 B.2.2.2.2.1 rfl cin_2 tyX2 tyX2_ok nmX2 4 (by decide) (Nat.le_of_ble_eq_true rfl) rfl rfl rfl rfl gw_56 dX2_init_38 (fun H locs w => ?_)
  obtain ⟨f, B, w⟩ : ∃ (f2 : Nat → va_E), Bd K SI (fun b => b = x) PO adO LO fO P ad L f2 x 2 [.int 0, .ref q1, .ref q2, .ref q3, .ref q4, .null, .null, .null, .null] ∧ Wh D K b0 sa s H locs L f2 := ⟨va_up f x (.inr (2, [.int 0, .ref q1, .ref q2, .ref q3, .ref q4, .null, .null, .null, .null])), B.put, w⟩
  refine lv_aload_n hx hb dX2_init_41 rfl (lv_at hl 0 rfl) ?_
  refine lv_bipush (v := 24) hx hb dX2_init_42 (by decide) ?_
  refine g_newI C w (at_ := .int) (ti := 0) (ty := .int) rfl rfl (Or.inl rfl) gw_85 (N := 24) (by decide) (by decide) (by decide) (Nat.le_of_ble_eq_true rfl) (Nat.le_of_ble_eq_true rfl) dX2_init_44 (fun q5 H hq w => ?_)
  obtain ⟨P, ad, L, f, B, w, hI, h_3_i, h_4_i, h_5_i, h_6_i, h_7_i⟩ : ∃ (P2 : Nat → Nat → Prop) (ad2 : Nat → Nat → Nat) (L2 : List Nat) (f2 : Nat → va_E), Bd K SI (fun b => b = x) PO adO LO fO P2 ad2 L2 f2 x 2 [.int 0, .ref q1, .ref q2, .ref q3, .ref q4, .null, .null, .null, .null] ∧ Wh D K b0 sa s H locs L2 f2 ∧ (∀ a k : Nat, P2 a k ↔ PO a k ∨ (a, k) ∈ [(7, i), (6, i), (5, i), (4, i), (3, i)]) ∧ ad2 3 i = q1 ∧ ad2 4 i = q2 ∧ ad2 5 i = q3 ∧ ad2 6 i = q4 ∧ ad2 7 i = q5 := ⟨Pu P 7 i, au ad 7 i q5, L ++ [q5], va_up f q5 _, (B.arr (fun h => ((hI 7 i).mp h).elim hn_7 (by simp)) hq rfl (fun b c => rf_1 rfl)), w, (Pu_iff hI), ((au_ne (fun h => absurd h.1 (by decide))).trans h_3_i), ((au_ne (fun h => absurd h.1 (by decide))).trans h_4_i), ((au_ne (fun h => absurd h.1 (by decide))).trans h_5_i), ((au_ne (fun h => absurd h.1 (by decide))).trans h_6_i), au_self⟩
  refine t_putF C (hnm.trans rfl) w B.2.2.2.1 B.2.2.2.2.1 rfl cin_2 tyX2 tyX2_ok nmX2 5 (by decide) (Nat.le_of_ble_eq_true rfl) rfl rfl rfl rfl gw_59 dX2_init_46 (fun H locs w => ?_)
  obtain ⟨f, B, w⟩ : ∃ (f2 : Nat → va_E), Bd K SI (fun b => b = x) PO adO LO fO P ad L f2 x 2 [.int 0, .ref q1, .ref q2, .ref q3, .ref q4, .ref q5, .null, .null, .null] ∧ Wh D K b0 sa s H locs L f2 := ⟨va_up f x (.inr (2, [.int 0, .ref q1, .ref q2, .ref q3, .ref q4, .ref q5, .null, .null, .null])), B.put, w⟩
  refine lv_aload_n hx hb dX2_init_49 rfl (lv_at hl 0 rfl) ?_
  refine lv_bipush (v := 24) hx hb dX2_init_50 (by decide) ?_
  refine g_newI C w (at_ := .int) (ti := 0) (ty := .int) rfl rfl (Or.inl rfl) gw_85 (N := 24) (by decide) (by decide) (by decide) (Nat.le_of_ble_eq_true rfl) (Nat.le_of_ble_eq_true rfl) dX2_init_52 (fun q6 H hq w => ?_)
  obtain ⟨P, ad, L, f, B, w, hI, h_3_i, h_4_i, h_5_i, h_6_i, h_7_i, h_8_i⟩ : ∃ (P2 : Nat → Nat → Prop) (ad2 : Nat → Nat → Nat) (L2 : List Nat) (f2 : Nat → va_E), Bd K SI (fun b => b = x) PO adO LO fO P2 ad2 L2 f2 x 2 [.int 0, .ref q1, .ref q2, .ref q3, .ref q4, .ref q5, .null, .null, .null] ∧ Wh D K b0 sa s H locs L2 f2 ∧ (∀ a k : Nat, P2 a k ↔ PO a k ∨ (a, k) ∈ [(8, i), (7, i), (6, i), (5, i), (4, i), (3, i)]) ∧ ad2 3 i = q1 ∧ ad2 4 i = q2 ∧ ad2 5 i = q3 ∧ ad2 6 i = q4 ∧ ad2 7 i = q5 ∧ ad2 8 i = q6 := ⟨Pu P 8 i, au ad 8 i q6, L ++ [q6], va_up f q6 _, (B.arr (fun h => ((hI 8 i).mp h).elim hn_8 (by simp)) hq rfl (fun b c => rf_1 rfl)), w, (Pu_iff hI), ((au_ne (fun h => absurd h.1 (by decide))).trans h_3_i), ((au_ne (fun h => absurd h.1 (by decide))).trans h_4_i), ((au_ne (fun h => absurd h.1 (by decide))).trans h_5_i), ((au_ne (fun h => absurd h.1 (by decide))).trans h_6_i), ((au_ne (fun h => absurd h.1 (by decide))).trans h_7_i), au_self⟩
  refine t_putF C (hnm.trans rfl) w B.2.2.2.1 B.2.2.2.2.1 rfl cin_2 tyX2 tyX2_ok nmX2 6 (by decide) (Nat.le_of_ble_eq_true rfl) rfl rfl rfl rfl gw_60 dX2_init_54 (fun H locs w => ?_)
  obtain ⟨f, B, w⟩ : ∃ (f2 : Nat → va_E), Bd K SI (fun b => b = x) PO adO LO fO P ad L f2 x 2 [.int 0, .ref q1, .ref q2, .ref q3, .ref q4, .ref q5, .ref q6, .null, .null] ∧ Wh D K b0 sa s H locs L f2 := ⟨va_up f x (.inr (2, [.int 0, .ref q1, .ref q2, .ref q3, .ref q4, .ref q5, .ref q6, .null, .null])), B.put, w⟩
  refine lv_aload_n hx hb dX2_init_57 rfl (lv_at hl 0 rfl) ?_
  refine lv_bipush (v := 24) hx hb dX2_init_58 (by decide) ?_
  refine g_newI C w (at_ := .int) (ti := 0) (ty := .int) rfl rfl (Or.inl rfl) gw_85 (N := 24) (by decide) (by decide) (by decide) (Nat.le_of_ble_eq_true rfl) (Nat.le_of_ble_eq_true rfl) dX2_init_60 (fun q7 H hq w => ?_)
  obtain ⟨P, ad, L, f, B, w, hI, h_3_i, h_4_i, h_5_i, h_6_i, h_7_i, h_8_i, h_9_i⟩ : ∃ (P2 : Nat → Nat → Prop) (ad2 : Nat → Nat → Nat) (L2 : List Nat) (f2 : Nat → va_E), Bd K SI (fun b => b = x) PO adO LO fO P2 ad2 L2 f2 x 2 [.int 0, .ref q1, .ref q2, .ref q3, .ref q4, .ref q5, .ref q6, .null, .null] ∧ Wh D K b0 sa s H locs L2 f2 ∧ (∀ a k : Nat, P2 a k ↔ PO a k ∨ (a, k) ∈ [(9, i), (8, i), (7, i), (6, i), (5, i), (4, i), (3, i)]) ∧ ad2 3 i = q1 ∧ ad2 4 i = q2 ∧ ad2 5 i = q3 ∧ ad2 6 i = q4 ∧ ad2 7 i = q5 ∧ ad2 8 i = q6 ∧ ad2 9 i = q7 := ⟨Pu P 9 i, au ad 9 i q7, L ++ [q7], va_up f q7 _, (B.arr (fun h => ((hI 9 i).mp h).elim hn_9 (by simp)) hq rfl (fun b c => rf_1 rfl)), w, (Pu_iff hI), ((au_ne (fun h => absurd h.1 (by decide))).trans h_3_i), ((au_ne (fun h => absurd h.1 (by decide))).trans h_4_i), ((au_ne (fun h => absurd h.1 (by decide))).trans h_5_i), ((au_ne (fun h => absurd h.1 (by decide))).trans h_6_i), ((au_ne (fun h => absurd h.1 (by decide))).trans h_7_i), ((au_ne (fun h => absurd h.1 (by decide))).trans h_8_i), au_self⟩
  refine t_putF C (hnm.trans rfl) w B.2.2.2.1 B.2.2.2.2.1 rfl cin_2 tyX2 tyX2_ok nmX2 7 (by decide) (Nat.le_of_ble_eq_true rfl) rfl rfl rfl rfl gw_62 dX2_init_62 (fun H locs w => ?_)
  obtain ⟨f, B, w⟩ : ∃ (f2 : Nat → va_E), Bd K SI (fun b => b = x) PO adO LO fO P ad L f2 x 2 [.int 0, .ref q1, .ref q2, .ref q3, .ref q4, .ref q5, .ref q6, .ref q7, .null] ∧ Wh D K b0 sa s H locs L f2 := ⟨va_up f x (.inr (2, [.int 0, .ref q1, .ref q2, .ref q3, .ref q4, .ref q5, .ref q6, .ref q7, .null])), B.put, w⟩
  refine lv_aload_n hx hb dX2_init_65 rfl (lv_at hl 0 rfl) ?_
  refine lv_bipush (v := 64) hx hb dX2_init_66 (by decide) ?_
  refine g_newI C w (at_ := .int) (ti := 0) (ty := .int) rfl rfl (Or.inl rfl) gw_85 (N := 64) (by decide) (by decide) (by decide) (Nat.le_of_ble_eq_true rfl) (Nat.le_of_ble_eq_true rfl) dX2_init_68 (fun q8 H hq w => ?_)
  obtain ⟨L, f, B, w, R_q8⟩ : ∃ (L2 : List Nat) (f2 : Nat → va_E), Bd K SI (fun b => b = x) PO adO LO fO P ad L2 f2 x 2 [.int 0, .ref q1, .ref q2, .ref q3, .ref q4, .ref q5, .ref q6, .ref q7, .null] ∧ Wh D K b0 sa s H locs L2 f2 ∧ Rw P ad LO L2 f2 x q8 (.inl (K 0, 64, .inl (fun _ => 0))) := ⟨L ++ [q8], va_up f q8 (.inl (K 0, 64, .inl (fun _ => 0))), (B.raw hq).1, w, (B.raw hq).2⟩
  refine t_putF C (hnm.trans rfl) w B.2.2.2.1 B.2.2.2.2.1 rfl cin_2 tyX2 tyX2_ok nmX2 8 (by decide) (Nat.le_of_ble_eq_true rfl) rfl rfl rfl rfl gw_63 dX2_init_70 (fun H locs w => ?_)
  obtain ⟨f, B, w, R_q8⟩ : ∃ (f2 : Nat → va_E), Bd K SI (fun b => b = x) PO adO LO fO P ad L f2 x 2 [.int 0, .ref q1, .ref q2, .ref q3, .ref q4, .ref q5, .ref q6, .ref q7, .ref q8] ∧ Wh D K b0 sa s H locs L f2 ∧ Rw P ad LO L f2 x q8 (.inl (K 0, 64, .inl (fun _ => 0))) := ⟨va_up f x (.inr (2, [.int 0, .ref q1, .ref q2, .ref q3, .ref q4, .ref q5, .ref q6, .ref q7, .ref q8])), B.put, w, R_q8.put⟩
  refine lv_aload_n hx hb dX2_init_73 rfl (lv_at hl 0 rfl) ?_
  refine t_getv C w B.2.2.2.1 B.2.2.2.2.1 rfl cin_2 8 (by decide) (v := .ref q8) rfl gw_63 dX2_init_74 ?_
  refine lv_iconst (v := (-1)) hx hb dX2_init_77 (by decide) ?_
  refine t_callS (n := 2) (As := [.ref q8, .int (-1)]) C w (c_fillR l D K b0 sa _ L f q8 R_q8.1 R_q8.2.1) gw_45 gw_43 gw_44 gw_4 ⟨by decide, by decide, by decide +kernel⟩ rfl rfl ⟨by decide, by decide⟩ rfl hl.1 rfl (Nat.le_of_ble_eq_true rfl) dX2_init_78 ⟨Nat.le_of_ble_eq_true rfl, Nat.le_of_ble_eq_true rfl⟩ (fun v9 u H locs hp w => ?_)
  obtain ⟨f3, rfl, rfl, hf3, hk3⟩ := hp
  have z := B.set R_q8 hk3 hf3
  obtain ⟨P, ad, L, f, B, w, hI, h_3_i, h_4_i, h_5_i, h_6_i, h_7_i, h_8_i, h_9_i, h_10_i⟩ : ∃ (P2 : Nat → Nat → Prop) (ad2 : Nat → Nat → Nat) (L2 : List Nat) (f2 : Nat → va_E), Bd K SI (fun b => b = x) PO adO LO fO P2 ad2 L2 f2 x 2 [.int 0, .ref q1, .ref q2, .ref q3, .ref q4, .ref q5, .ref q6, .ref q7, .ref q8] ∧ Wh D K b0 sa s H locs L2 f2 ∧ (∀ a k : Nat, P2 a k ↔ PO a k ∨ (a, k) ∈ [(10, i), (9, i), (8, i), (7, i), (6, i), (5, i), (4, i), (3, i)]) ∧ ad2 3 i = q1 ∧ ad2 4 i = q2 ∧ ad2 5 i = q3 ∧ ad2 6 i = q4 ∧ ad2 7 i = q5 ∧ ad2 8 i = q6 ∧ ad2 9 i = q7 ∧ ad2 10 i = q8 := ⟨Pu P 10 i, au ad 10 i q8, L, f3, (z.1.addR z.2 (fun h => ((hI 10 i).mp h).elim hn_10 (by simp)) rfl (fun b c hr => absurd hr (rf_1 rfl))), w, (Pu_iff hI), ((au_ne (fun h => absurd h.1 (by decide))).trans h_3_i), ((au_ne (fun h => absurd h.1 (by decide))).trans h_4_i), ((au_ne (fun h => absurd h.1 (by decide))).trans h_5_i), ((au_ne (fun h => absurd h.1 (by decide))).trans h_6_i), ((au_ne (fun h => absurd h.1 (by decide))).trans h_7_i), ((au_ne (fun h => absurd h.1 (by decide))).trans h_8_i), ((au_ne (fun h => absurd h.1 (by decide))).trans h_9_i), au_self⟩
  have hcell : (.inr (2, [.int 0, .ref q1, .ref q2, .ref q3, .ref q4, .ref q5, .ref q6, .ref q7, .ref q8]) : va_E) = cellOf K (au ad 2 i x) SI 2 i := by
    rw [cell_0 rfl]
    show (Sum.inr (2, [.int 0, .ref q1, .ref q2, .ref q3, .ref q4, .ref q5, .ref q6, .ref q7, .ref q8]) : va_E) = Sum.inr (2, [.int 0, .ref (ad 3 i), .ref (ad 4 i), .ref (ad 5 i), .ref (ad 6 i), .ref (ad 7 i), .ref (ad 8 i), .ref (ad 9 i), .ref (ad 10 i)])
    rw [h_3_i, h_4_i, h_5_i, h_6_i, h_7_i, h_8_i, h_9_i, h_10_i]
  have href : ∀ b c : Nat, Rf SI 2 i b c → P b c := by
    intro b c hr
    obtain ⟨j, hj, hd, hq⟩ := rf_0 rfl hr
    match j, hj, hd, hq with
    | 0, _, hd, _ => exact absurd rfl hd
    | 1, _, _, hq => have e9 : (3, i) = (b, c) := hq; cases e9; exact ((hI 3 i).mpr (Or.inr (by simp)))
    | 2, _, _, hq => have e9 : (4, i) = (b, c) := hq; cases e9; exact ((hI 4 i).mpr (Or.inr (by simp)))
    | 3, _, _, hq => have e9 : (5, i) = (b, c) := hq; cases e9; exact ((hI 5 i).mpr (Or.inr (by simp)))
    | 4, _, _, hq => have e9 : (6, i) = (b, c) := hq; cases e9; exact ((hI 6 i).mpr (Or.inr (by simp)))
    | 5, _, _, hq => have e9 : (7, i) = (b, c) := hq; cases e9; exact ((hI 7 i).mpr (Or.inr (by simp)))
    | 6, _, _, hq => have e9 : (8, i) = (b, c) := hq; cases e9; exact ((hI 8 i).mpr (Or.inr (by simp)))
    | 7, _, _, hq => have e9 : (9, i) = (b, c) := hq; cases e9; exact ((hI 9 i).mpr (Or.inr (by simp)))
    | 8, _, _, hq => have e9 : (10, i) = (b, c) := hq; cases e9; exact ((hI 10 i).mpr (Or.inr (by simp)))
    | (j + 9), hj, _, _ => exact absurd hj (show ¬ j + 9 < 9 by omega)
  have z := B.fin (fun h => ((hI 2 i).mp h).elim hn_2 (by simp)) hcell href
  exact t_vret C hr hlk w ⟨_, _, _, _, rfl, rfl, z.1, z.2.1, Pu_iff hI, z.2.2, au_self⟩ (by decide) (by decide) dX2_init_81
