def l6 : List (Nat × Nat) := [(0, 0), (28, 0), (27, 0), (25, 0), (26, 0), (22, 0), (24, 0), (23, 0), (17, 0), (21, 0), (20, 0), (19, 0), (18, 0), (16, 0), (15, 0), (14, 0), (13, 0), (12, 0), (1, 4), (11, 4), (2, 4), (10, 4), (9, 4), (8, 4), (7, 4), (6, 4), (5, 4), (4, 4), (3, 4), (1, 3), (11, 3), (2, 3), (10, 3), (9, 3), (8, 3), (7, 3), (6, 3), (5, 3), (4, 3), (3, 3), (1, 2), (11, 2), (2, 2), (10, 2), (9, 2), (8, 2), (7, 2), (6, 2), (5, 2), (4, 2), (3, 2), (1, 1), (11, 1), (2, 1), (10, 1), (9, 1), (8, 1), (7, 1), (6, 1), (5, 1), (4, 1), (3, 1), (1, 0), (11, 0), (2, 0), (10, 0), (9, 0), (8, 0), (7, 0), (6, 0), (5, 0), (4, 0), (3, 0)]
def l7 : List Nat := [40, 71, 70, 69, 68, 67, 66, 65, 64, 63, 62, 61, 60, 59, 58, 57, 56, 55, 54, 53, 52, 51, 50, 49, 48, 47, 46, 45, 44, 43, 42, 41]
theorem l6_lt : ∀ q ∈ l6, q.1 < 40 := by decide
theorem l6_inb : ((List.range 40).all fun a => (List.range 5).all fun k => Nat.ble (if a = 25 ∨ a = 26 then 1 else if a = 29 ∨ a = 30 then 0 else (fam a).2.2.2) k || (l6.any fun q => q.1 == a && q.2 == k)) = true := by decide +kernel
theorem l6_in (a : Nat) (ha : a < 40) (k : Nat) (hk : k < 5) (h : k < (if a = 25 ∨ a = 26 then 1 else if a = 29 ∨ a = 30 then 0 else (fam a).2.2.2)) : (a, k) ∈ l6 := by
  have h1 := List.all_eq_true.mp (List.all_eq_true.mp l6_inb a (List.mem_range.mpr ha)) k (List.mem_range.mpr hk)
  have h2 : Nat.ble (if a = 25 ∨ a = 26 then 1 else if a = 29 ∨ a = 30 then 0 else (fam a).2.2.2) k = false := by
    cases e : Nat.ble (if a = 25 ∨ a = 26 then 1 else if a = 29 ∨ a = 30 then 0 else (fam a).2.2.2) k
    · rfl
    · exact absurd (Nat.le_of_ble_eq_true e) (Nat.not_le_of_gt h)
  rw [h2, Bool.false_or] at h1
  obtain ⟨q, hq, e⟩ := List.any_eq_true.mp h1
  rw [Bool.and_eq_true, beq_iff_eq, beq_iff_eq] at e
  have e9 : (a, k) = q := by rw [← e.1, ← e.2]
  rw [e9]
  exact hq
theorem l6_5 : ∀ a : Nat, a < 40 → (if a = 25 ∨ a = 26 then 1 else if a = 29 ∨ a = 30 then 0 else (fam a).2.2.2) ≤ 5 := by decide +kernel
theorem l7_in : ∀ a : Nat, a < 92 → 40 ≤ a → 0 < (fam a).2.2.2 → a ∈ l7 := by decide +kernel
theorem isn_st {P2 P4 : Nat → Nat → Prop} (h2 : ∀ a k : Nat, P2 a k ↔ False ∨ (a, k) ∈ l6) (h4 : ∀ a k : Nat, P4 a k ↔ P2 a k ∨ (a ∈ l7 ∧ k < (fam a).2.2.2)) : ∀ a k : Nat, isn (1, 0) a k → P4 a k := by
  intro a k h
  have hh : k < (if a = 25 ∨ a = 26 then 1 else if a = 29 ∨ a = 30 then 0 else (fam a).2.2.2) := h
  refine (h4 a k).mpr ?_
  by_cases q : a < 40
  · have h5 := l6_5 a q
    exact Or.inl ((h2 a k).mpr (Or.inr (l6_in a q k (by omega) hh)))
  · rw [if_neg (by omega), if_neg (by omega)] at hh
    by_cases q2 : a < 92
    · exact Or.inr ⟨l7_in a q2 (by omega) (by omega), hh⟩
    · rw [fam_out (show famL.length ≤ a by show 92 ≤ a; omega)] at hh
      exact absurd hh (Nat.not_lt_zero _)
set_option maxHeartbeats 8000000 in
set_option maxRecDepth 100000 in
theorem start_of {I : fS → Prop} (hGd : Good I) {p : Program} {e : Env} {s : State} {m : MethodId} {below : List Frame} {meth : Method} {c : Code} (l : Launch) (hls : l.stackTraces = false) {b L : Nat} {xs : Nat → Int32} (hL : L ≤ 3072) (C0 : lw_At p s m meth c b L xs) : W p l e room_1 s m #[Value.ref b] below meth c s.heap [] 0 0 (lw_Z below #[Value.ref b] s) (entryFrame m ([Value.ref b] : List Value).toArray 7) := by
  obtain ⟨hx, hb, hr, hml, hown, hts, hX, hbl, hlk, hgv⟩ := id C0
  have C : CallFix p m c cL_law 7 s #[Value.ref b] gt RL := ⟨hx, hb, hml, hown, fun w hw => hts w (gt_tbl w hw)⟩
  obtain ⟨D, K, sa, w⟩ := law_world hts hgv
  have hl := lv_entry ([.ref b]) (n := 7) (Nat.le_of_ble_eq_true rfl)
  rw [lg_entry_eq]
  generalize (lg_sl ([.ref b]) ++ List.replicate (7 - (lg_sl ([.ref b])).length) Slot.unset).toArray = ls at hl ⊢
  have hl : lv_has ls 7 [(0, .ref b)] := hl
  have hw0 : PW K (fun _ _ => 0) (fun _ _ => False) SI [] (fun _ => .inr (0, [])) := ⟨fun a i h => h.elim, fun a i a' i' h => h.elim⟩
  have hR0 : RC (fun _ _ => False) SI := fun a i b c h => h.elim
  refine g_new C w (t := 6) rfl cin_6 tyX6 tyX6_ok gw_23 gw_24 gw_1 (fs := [.null, .null, .null, .int 0, .null, .int 0, .null, .int 0, .null, .int 0, .null, .int 0, .int 0, .null, .null, .null, .null, .null]) dfl_6 (Nat.le_of_ble_eq_true rfl) (Nat.le_of_ble_eq_true rfl) dL_law_0 (fun x H hq w => ?_)
  refine lv_dup hx hb dL_law_3 rfl ?_
  have hmx : x ∈ [] ++ [x] := List.mem_append_right _ (List.mem_singleton.mpr rfl)
  refine t_callI (n := 0) (As := []) C w (g_X6_init l D K _ sa _ _ _ _ _ (hw0.pool hq) hR0 (fun _ _ h => h) x hmx (va_up_self _ _ _) (fun _ _ h => h.elim)) gw_27 gw_25 rfl gw_26 gw_1 ⟨by decide, by decide, by decide +kernel⟩ rfl rfl ⟨Nat.le_of_ble_eq_true rfl, Nat.le_of_ble_eq_true rfl⟩ rfl hl.1 rfl (Nat.le_of_ble_eq_true rfl) dL_law_4 ⟨Nat.le_of_ble_eq_true rfl, Nat.le_of_ble_eq_true rfl⟩ (fun v u H locs hp w => ?_)
  obtain ⟨P2, ad2, L2, f2, rfl, rfl, hw2, hR2, hI2, hG2, had2⟩ := hp
  have w : Wh D K s.heap.size sa s H locs L2 f2 := w
  refine lv_astore_n (lv' := [(1, .ref x), (0, .ref b)]) hx hb dL_law_7 rfl hl (by decide) rfl (fun ls hl => ?_)
  refine g_new C w (t := 7) rfl cin_7 tyX7 tyX7_ok gw_1148 gw_1149 gw_8 (fs := (Value.int 0 :: Value.int 0 :: Value.int 0 :: Value.int 0 :: Value.int 0 :: Value.int 0 :: Value.int 0 :: Value.int 0 :: Value.int 0 :: Value.int 0 :: Value.null :: Value.null :: Value.null :: Value.int 0 :: Value.int 0 :: Value.int 0 :: Value.int 0 :: Value.null :: Value.int 0 :: Value.int 0 :: Value.int 0 :: Value.int 0 :: Value.null :: Value.null :: Value.null :: Value.null :: Value.null :: Value.null :: Value.null :: Value.null :: Value.int 0 :: Value.int 0 :: Value.int 0 :: Value.int 0 :: Value.int 0 :: Value.int 0 :: Value.int 0 :: Value.int 0 :: Value.int 0 :: Value.null :: Value.int 0 :: Value.int 0 :: Value.int 0 :: Value.int 0 :: Value.int 0 :: Value.int 0 :: Value.int 0 :: Value.null :: Value.int 0 :: Value.null :: Value.null :: Value.null :: Value.null :: Value.null :: Value.null :: Value.null :: Value.int 0 :: [])) dfl_7 (Nat.le_of_ble_eq_true rfl) (Nat.le_of_ble_eq_true rfl) dL_law_8 (fun y H hqy w => ?_)
  refine lv_dup hx hb dL_law_11 rfl ?_
  have hmy : y ∈ L2 ++ [y] := List.mem_append_right _ (List.mem_singleton.mpr rfl)
  refine t_callI (n := 0) (As := []) C w (g_X7_init l D K _ sa _ _ _ ad2 P2 (hw2.pool hqy) hR2 (fun a i ha hp => ((hI2 a i).mp hp).elim id (fun z => absurd (l6_lt _ z) (by show ¬ a < 40; omega))) y hmy (va_up_self _ _ _) (hw2.fr hqy)) gw_1152 gw_1150 rfl gw_1151 gw_8 ⟨by decide, by decide, by decide +kernel⟩ rfl rfl ⟨Nat.le_of_ble_eq_true rfl, Nat.le_of_ble_eq_true rfl⟩ rfl hl.1 rfl (Nat.le_of_ble_eq_true rfl) dL_law_12 ⟨Nat.le_of_ble_eq_true rfl, Nat.le_of_ble_eq_true rfl⟩ (fun v u H locs hp w => ?_)
  obtain ⟨P4, ad4, L4, f4, rfl, rfl, hw4, hR4, hI4, hG4, had4⟩ := hp
  have w : Wh D K s.heap.size sa s H locs L4 f4 := w
  have hx4 : ad4 0 0 = x := (hG4.1 0 0 ((hI2 0 0).mpr (Or.inr (by decide)))).2.trans had2
  refine lv_astore_n (lv' := [(2, .ref y), (1, .ref x), (0, .ref b)]) hx hb dL_law_15 rfl hl (by decide) rfl (fun ls hl => ?_)
  refine lv_iconst (v := 1) hx hb dL_law_16 (by decide) ?_
  refine g_newL C w gw_1691 (N := 1) (by decide) (by decide) (by decide) (Nat.le_of_ble_eq_true rfl) (Nat.le_of_ble_eq_true rfl) dL_law_17 (fun o H hqo w => ?_)
  refine lv_astore_n (lv' := [(3, .ref o), (2, .ref y), (1, .ref x), (0, .ref b)]) hx hb dL_law_19 rfl hl (by decide) rfl (fun ls hl => ?_)
  refine lv_iconst (v := 0) hx hb dL_law_20 (by decide) ?_
  refine lv_istore (lv' := [(4, .int 0), (3, .ref o), (2, .ref y), (1, .ref x), (0, .ref b)]) hx hb dL_law_21 hl (by decide) rfl (fun ls hl => ?_)
  refine W.widen (k := 1258) (n := 28357) (Nat.le_of_ble_eq_true rfl) (Nat.le_of_ble_eq_true rfl) ?_
  have hst := isn_st hI2 hI4
  rw [← hx4, ← had4] at hl
  exact law_loop hGd hls ⟨C, hX, hbl, hr, hlk, hL⟩ 512 0 SI 1258 28357 hGd.1 (by omega) (Nat.zero_le _) (by decide) (by decide) ad4 (1, 0) _ _ H locs ls ⟨w, (hw4.mono hst).pool hqo, rfl, by decide, List.mem_append_right _ (List.mem_singleton.mpr rfl), (hw4.mono hst).fr hqo, _, va_up_self _ _ _⟩ (lv_sub hl [4, 3, 2, 1, 0] rfl)
