/-! what the functions must do, call by call, for a property I of the memory -/
def St_0 (I : fS → Prop) : Prop := ∀ S : fS, I S → ∀ a1 a2 a3 a4 : Int32, ∃ (ec : Nat) (v : Int32) (S1 : fS) (v2 : Int32) (S2 : fS), (ec = 0 ∨ ec = 1 ∨ ec = 2) ∧ F_X6_lay a1 a2 a3 a4 S = some ((ec, v), S1) ∧ F_X7_lay a1 a2 a3 a4 S1 = some (v2, S2) ∧ I S2
def St_1 (I : fS → Prop) : Prop := ∀ S : fS, I S → ∀ a1 a2 : Int32, ∃ (ec : Nat) (v : Int32) (S1 : fS) (v2 : Int32) (S2 : fS), (ec = 0 ∨ ec = 3) ∧ F_X6_wire a1 (if a2 = 0 then 0 else 1) S = some ((ec, v), S1) ∧ F_X7_wire a1 (if a2 = 0 then 0 else 1) S1 = some (v2, S2) ∧ I S2
def St_2 (I : fS → Prop) : Prop := ∀ S : fS, I S → ∀ a1 : Int32, ∃ (ec : Nat) (v : Int32) (S1 : fS) (v2 : Int32) (S2 : fS), (ec = 0 ∨ ec = 3) ∧ F_X6_key a1 S = some ((ec, v), S1) ∧ F_X7_key a1 S1 = some (v2, S2) ∧ I S2
def St_3 (I : fS → Prop) : Prop := ∀ S : fS, I S → ∀ a1 a2 : Int32, ∃ (ec : Nat) (v : Int32) (S1 : fS) (v2 : Int32) (S2 : fS), (ec = 0 ∨ ec = 1 ∨ ec = 3) ∧ F_X6_thing a1 a2 S = some ((ec, v), S1) ∧ F_X7_thing a1 a2 S1 = some (v2, S2) ∧ I S2
def St_4 (I : fS → Prop) : Prop := ∀ S : fS, I S → ∀ a1 a2 : Int32, ∃ (ec : Nat) (v : Int32) (S1 : fS) (v2 : Int32) (S2 : fS), (ec = 0 ∨ ec = 2) ∧ F_X6_top a1 (if a2 = 0 then 0 else 1) S = some ((ec, v), S1) ∧ F_X7_top a1 (if a2 = 0 then 0 else 1) S1 = some (v2, S2) ∧ I S2
def St_5 (I : fS → Prop) : Prop := ∀ S : fS, I S → ∀ a1 : Int32, ∃ (ec : Nat) (v : Int32) (S1 : fS) (v2 : Int32) (S2 : fS), (ec = 0 ∨ ec = 1 ∨ ec = 2) ∧ F_X6_hole a1 S = some ((ec, v), S1) ∧ F_X7_hole a1 S1 = some (v2, S2) ∧ I S2
def St_6 (I : fS → Prop) : Prop := ∀ S : fS, I S → ∀ a1 a2 : Int32, ∃ (ec : Nat) (v : Int32) (S1 : fS) (v2 : Int32) (S2 : fS), (ec = 0 ∨ ec = 1) ∧ F_X6_set a1 a2 S = some ((ec, v), S1) ∧ F_X7_set a1 a2 S1 = some (v2, S2) ∧ I S2 ∧ ge S2 40 0 0 = (if ec = 0 then 0 else 1) ∧ (ec = 0 → v = v2)
def St_7 (I : fS → Prop) : Prop := ∀ S : fS, I S → ∀ a1 : Int32, ∃ (v : Int32) (S1 : fS) (v2 : Int32) (S2 : fS), F_X6_seed a1 S = some (v, S1) ∧ F_X7_seed a1 S1 = some (v2, S2) ∧ I S2
def St_8 (I : fS → Prop) : Prop := ∀ S : fS, I S → ∀ a1 a2 a3 a4 a5 : Int32, ∃ (v : Int32) (S1 : fS) (v2 : Int32) (S2 : fS), F_X6_feed a1 a2 a3 a4 a5 S = some (v, S1) ∧ F_X7_feed a1 a2 a3 a4 a5 S1 = some (v2, S2) ∧ I S2
def St_9 (I : fS → Prop) : Prop := ∀ S : fS, I S → ∀ a1 a2 : Int32, ∃ (ec : Nat) (v : Int32) (S1 : fS) (v2 : Int32) (S2 : fS), (ec = 0 ∨ ec = 1) ∧ F_X6_program a1 (if a2 = 0 then 0 else 1) S = some ((ec, v), S1) ∧ F_X7_program a1 (if a2 = 0 then 0 else 1) S1 = some (v2, S2) ∧ I S2
def St_10 (I : fS → Prop) : Prop := ∀ S : fS, I S → ∃ (v : Int32) (S1 : fS) (v2 : Int32) (S2 : fS), F_X6_fault  S = some (v, S1) ∧ F_X7_fault  S1 = some (v2, S2) ∧ I S2
def St_11 (I : fS → Prop) : Prop := ∀ S : fS, I S → ∀ a1 : Int32, ∃ (ec : Nat) (v : Int32) (S1 : fS) (v2 : Int32) (S2 : fS), (ec = 0 ∨ ec = 1) ∧ F_X6_force a1 S = some ((ec, v), S1) ∧ F_X7_force a1 S1 = some (v2, S2) ∧ I S2
def St_12 (I : fS → Prop) : Prop := ∀ S : fS, I S → ∀ a1 a2 : Int32, ∃ (ec : Nat) (v : Int32) (S1 : fS) (v2 : Int32) (S2 : fS), (ec = 0 ∨ ec = 1) ∧ F_X6_tells a1 a2 S = some ((ec, v), S1) ∧ F_X7_tells a1 a2 S1 = some (v2, S2) ∧ I S2
def St_13 (I : fS → Prop) : Prop := ∀ S : fS, I S → ∀ a1 : Int32, ∃ (ec : Nat) (v : Int32) (S1 : fS) (v2 : Int32) (S2 : fS), (ec = 0 ∨ ec = 2) ∧ F_X6_attempt a1 S = some ((ec, v), S1) ∧ F_X7_attempt a1 S1 = some (v2, S2) ∧ I S2
def St_14 (I : fS → Prop) : Prop := ∀ S : fS, I S → ∀ a1 a2 : Int32, ∃ (ec : Nat) (v : Int32) (S1 : fS) (v2 : Int32) (S2 : fS), (ec = 0 ∨ ec = 1 ∨ ec = 3) ∧ F_X6_record a1 a2 S = some ((ec, v), S1) ∧ F_X7_record a1 a2 S1 = some (v2, S2) ∧ I S2
def St_15 (I : fS → Prop) : Prop := ∀ S : fS, I S → ∀ a1 : Int32, ∃ (ec : Nat) (v : Int32) (S1 : fS) (v2 : Int32) (S2 : fS), (ec = 0 ∨ ec = 1) ∧ F_X6_hand a1 S = some ((ec, v), S1) ∧ F_X7_hand a1 S1 = some (v2, S2) ∧ I S2
def St_16 (I : fS → Prop) : Prop := ∀ S : fS, I S → ∀ a1 a2 : Int32, ∃ (ec : Nat) (v : Int32) (S1 : fS) (v2 : Int32) (S2 : fS), (ec = 0 ∨ ec = 2 ∨ ec = 3) ∧ F_X6_play a1 a2 S = some ((ec, v), S1) ∧ F_X7_play a1 a2 S1 = some (v2, S2) ∧ I S2
def St_17 (I : fS → Prop) : Prop := ∀ S : fS, I S → ∀ a1 : Int32, ∃ (v : Int32) (S1 : fS) (v2 : Int32) (S2 : fS), F_X6_can (if a1 = 0 then 0 else 1) S = some (v, S1) ∧ F_X7_can (if a1 = 0 then 0 else 1) S1 = some (v2, S2) ∧ I S2
def St_18 (I : fS → Prop) : Prop := ∀ S : fS, I S → ∀ a1 a2 a3 : Int32, ∃ (ec : Nat) (v : Int32) (S1 : fS) (v2 : Int32) (S2 : fS), (ec = 0 ∨ ec = 1 ∨ ec = 2 ∨ ec = 3) ∧ F_X6_odds a1 a2 a3 S = some ((ec, v), S1) ∧ F_X7_odds a1 a2 a3 S1 = some (v2, S2) ∧ I S2
def St_19 (I : fS → Prop) : Prop := ∀ S : fS, I S → ∀ a1 : Int32, ∃ (ec : Nat) (v : Int32) (S1 : fS) (v2 : Int32) (S2 : fS), (ec = 0 ∨ ec = 3) ∧ F_X6_weights a1 S = some ((ec, v), S1) ∧ F_X7_weights a1 S1 = some (v2, S2) ∧ I S2
def St_20 (I : fS → Prop) : Prop := ∀ S : fS, I S → ∀ a1 a2 : Int32, ∃ (ec : Nat) (v : Int32) (S1 : fS) (v2 : Int32) (S2 : fS), (ec = 0 ∨ ec = 1 ∨ ec = 2) ∧ F_X6_when a1 a2 S = some ((ec, v), S1) ∧ F_X7_when a1 a2 S1 = some (v2, S2) ∧ I S2
def St_21 (I : fS → Prop) : Prop := ∀ S : fS, I S → ∃ (v : Int32) (S1 : fS) (v2 : Int32) (S2 : fS), F_X6_fitting  S = some (v, S1) ∧ F_X7_fitting  S1 = some (v2, S2) ∧ I S2
def St_22 (I : fS → Prop) : Prop := ∀ S : fS, I S → ∀ a1 : Int32, ∃ (ec : Nat) (v : Int32) (S1 : fS) (v2 : Int32) (S2 : fS), (ec = 0 ∨ ec = 1) ∧ F_X6_strange a1 S = some ((ec, v), S1) ∧ F_X7_strange a1 S1 = some (v2, S2) ∧ I S2
def St_23 (I : fS → Prop) : Prop := ∀ S : fS, I S → ∀ a1 : Int32, ∃ (ec : Nat) (v : Int32) (S1 : fS) (v2 : Int32) (S2 : fS), (ec = 0 ∨ ec = 2) ∧ F_X6_guess a1 S = some ((ec, v), S1) ∧ F_X7_guess a1 S1 = some (v2, S2) ∧ I S2
def St_24 (I : fS → Prop) : Prop := ∀ S : fS, I S → ∃ (v : Int32) (S1 : fS) (v2 : Int32) (S2 : fS), F_X6_refill  S = some (v, S1) ∧ F_X7_refill  S1 = some (v2, S2) ∧ I S2
def St_25 (I : fS → Prop) : Prop := ∀ S : fS, I S → ∀ a1 a2 a3 : Int32, ∃ (ec : Nat) (v : Int32) (S1 : fS) (v2 : Int32) (S2 : fS), (ec = 0 ∨ ec = 1 ∨ ec = 2) ∧ F_X6_worth a1 a2 a3 S = some ((ec, v), S1) ∧ F_X7_worth a1 a2 a3 S1 = some (v2, S2) ∧ I S2
def St_26 (I : fS → Prop) : Prop := ∀ S : fS, I S → ∀ a1 a2 : Int32, ∃ (ec : Nat) (v : Int32) (S1 : fS) (v2 : Int32) (S2 : fS), (ec = 0 ∨ ec = 2) ∧ F_X6_bide a1 a2 S = some ((ec, v), S1) ∧ F_X7_bide a1 a2 S1 = some (v2, S2) ∧ I S2
def St_27 (I : fS → Prop) : Prop := ∀ S : fS, I S → ∀ a1 a2 a3 : Int32, ∃ (ec : Nat) (v : Int32) (S1 : fS) (v2 : Int32) (S2 : fS), (ec = 0 ∨ ec = 1 ∨ ec = 2 ∨ ec = 3) ∧ F_X6_settle a1 a2 a3 S = some ((ec, v), S1) ∧ F_X7_settle a1 a2 a3 S1 = some (v2, S2) ∧ I S2
def St_28 (I : fS → Prop) : Prop := ∀ S : fS, I S → ∀ a1 a2 : Int32, ∃ (ec : Nat) (v : Int32) (S1 : fS) (v2 : Int32) (S2 : fS), (ec = 0 ∨ ec = 2 ∨ ec = 3) ∧ F_X6_back a1 a2 S = some ((ec, v), S1) ∧ F_X7_back a1 a2 S1 = some (v2, S2) ∧ I S2
def St_29 (I : fS → Prop) : Prop := ∀ S : fS, I S → ∀ a1 : Int32, ∃ (ec : Nat) (v : Int32) (S1 : fS) (v2 : Int32) (S2 : fS), (ec = 0 ∨ ec = 3) ∧ F_X6_broken a1 S = some ((ec, v), S1) ∧ F_X7_broken a1 S1 = some (v2, S2) ∧ I S2
def St_30 (I : fS → Prop) : Prop := ∀ S : fS, I S → ∀ a1 a2 a3 a4 a5 : Int32, ∃ (ec : Nat) (v : Int32) (S1 : fS) (v2 : Int32) (S2 : fS), (ec = 0 ∨ ec = 1 ∨ ec = 3) ∧ F_X6_cut a1 a2 a3 a4 a5 S = some ((ec, v), S1) ∧ F_X7_cut a1 a2 a3 a4 a5 S1 = some (v2, S2) ∧ I S2
def St_31 (I : fS → Prop) : Prop := ∀ S : fS, I S → ∀ a1 a2 a3 a4 : Int32, ∃ (ec : Nat) (v : Int32) (S1 : fS) (v2 : Int32) (S2 : fS), (ec = 0 ∨ ec = 1 ∨ ec = 2) ∧ F_X6_player a1 a2 a3 a4 S = some ((ec, v), S1) ∧ F_X7_player a1 a2 a3 a4 S1 = some (v2, S2) ∧ I S2
def St_32 (I : fS → Prop) : Prop := ∀ S : fS, I S → ∀ a1 : Int32, ∃ (ec : Nat) (v : Int32) (S1 : fS) (v2 : Int32) (S2 : fS), (ec = 0 ∨ ec = 1) ∧ F_X6_fair a1 S = some ((ec, v), S1) ∧ F_X7_fair a1 S1 = some (v2, S2) ∧ I S2
def St_33 (I : fS → Prop) : Prop := ∀ S : fS, I S → ∃ (v : Int32) (S1 : fS) (v2 : Int32) (S2 : fS), F_X6_image  S = some (v, S1) ∧ F_X7_image  S1 = some (v2, S2) ∧ I S2
def St_34 (I : fS → Prop) : Prop := ∀ S : fS, I S → ∃ (v : Int32) (S1 : fS) (v2 : Int32) (S2 : fS), F_X6_restore  S = some (v, S1) ∧ F_X7_restore  S1 = some (v2, S2) ∧ I S2
def St_35 (I : fS → Prop) : Prop := ∀ S : fS, I S → ∀ a1 : Int32, ∃ (v : Int32) (S1 : fS) (v2 : Int32) (S2 : fS), F_X6_count a1 S = some (v, S1) ∧ F_X7_count a1 S1 = some (v2, S2) ∧ I S2
def Good (I : fS → Prop) : Prop := I SI ∧ St_0 I ∧ St_1 I ∧ St_2 I ∧ St_3 I ∧ St_4 I ∧ St_5 I ∧ St_6 I ∧ St_7 I ∧ St_8 I ∧ St_9 I ∧ St_10 I ∧ St_11 I ∧ St_12 I ∧ St_13 I ∧ St_14 I ∧ St_15 I ∧ St_16 I ∧ St_17 I ∧ St_18 I ∧ St_19 I ∧ St_20 I ∧ St_21 I ∧ St_22 I ∧ St_23 I ∧ St_24 I ∧ St_25 I ∧ St_26 I ∧ St_27 I ∧ St_28 I ∧ St_29 I ∧ St_30 I ∧ St_31 I ∧ St_32 I ∧ St_33 I ∧ St_34 I ∧ St_35 I
set_option maxHeartbeats 8000000 in
set_option maxRecDepth 100000 in
theorem law_body {p : Program} {l : Launch} {e : Env} {s : State} {m : MethodId} {below : List Frame} {meth : Method} {c : Code} {b N : Nat} {xs : Nat → Int32} {D : va_G} {K : Nat → ClassId} {sa : sT} {o i : Nat} {cells slots : Nat} {Q : State → Prop} {I : fS → Prop} (hG : Good I) (hls : l.stackTraces = false) (A : LwC p s m meth c b N xs) (hi : i + 6 ≤ N) {S : fS} (hS : I S) (hc : cells + 6 ≤ 601024) (hs : slots + 307 ≤ 7293033) (kk : ∀ S2 : fS, I S2 → LwK D K sa p l e s m below meth c b o i S2 (cells + 6) (slots + 307) Q 1585) : LwK D K sa p l e s m below meth c b o i S cells slots Q 33 := by
  intro ad n L f H locs ls B hl
  obtain ⟨C, hX, hbl, hrt, hlk, hNm⟩ := id A
  have hx := C.1
  have hb := C.2.1
  have w := B.1
  refine lv_aload_n hx hb dL_law_33 rfl (lv_at hl 0 rfl) ?_
  refine lv_iload hx hb dL_law_34 (lv_at hl 4 rfl) ?_
  refine t_sld hx hb hX hbl w (j := i) (nI_clamp (by omega)) (vp_in_nI (by omega) (by omega)) dL_law_36 ?_
  refine lv_bipush (v := 63) hx hb dL_law_37 (by decide) ?_
  refine lv_iand hx hb dL_law_39 ?_
  refine lv_topi (fun y ey => ?_)
  by_cases c0 : y.toInt = 0
  · refine lv_tableIn (tgt := 200) hx hb dL_law_40 (by omega) (by omega) (by rw [c0]; rfl) (by decide) ?_
    obtain ⟨ec, v, S1, v2, S2, hec, h1, h2, hS2⟩ := (hG.2.1) S hS (xs (i + 1)) (xs (i + 2)) (xs (i + 3)) (xs (i + 4))
    exact arm_0 hls A hi hec h1 h2 hc hs (kk S2 hS2) ad n L f H locs ls B hl
  by_cases c1 : y.toInt = 1
  · refine lv_tableIn (tgt := 264) hx hb dL_law_40 (by omega) (by omega) (by rw [c1]; rfl) (by decide) ?_
    obtain ⟨ec, v, S1, v2, S2, hec, h1, h2, hS2⟩ := (hG.2.2.1) S hS (xs (i + 1)) (xs (i + 2))
    exact arm_1 hls A hi hec h1 h2 hc hs (kk S2 hS2) ad n L f H locs ls B hl
  by_cases c2 : y.toInt = 2
  · refine lv_tableIn (tgt := 320) hx hb dL_law_40 (by omega) (by omega) (by rw [c2]; rfl) (by decide) ?_
    obtain ⟨ec, v, S1, v2, S2, hec, h1, h2, hS2⟩ := (hG.2.2.2.1) S hS (xs (i + 1))
    exact arm_2 hls A hi hec h1 h2 hc hs (kk S2 hS2) ad n L f H locs ls B hl
  by_cases c3 : y.toInt = 3
  · refine lv_tableIn (tgt := 348) hx hb dL_law_40 (by omega) (by omega) (by rw [c3]; rfl) (by decide) ?_
    obtain ⟨ec, v, S1, v2, S2, hec, h1, h2, hS2⟩ := (hG.2.2.2.2.1) S hS (xs (i + 1)) (xs (i + 2))
    exact arm_3 hls A hi hec h1 h2 hc hs (kk S2 hS2) ad n L f H locs ls B hl
  by_cases c4 : y.toInt = 4
  · refine lv_tableIn (tgt := 388) hx hb dL_law_40 (by omega) (by omega) (by rw [c4]; rfl) (by decide) ?_
    obtain ⟨ec, v, S1, v2, S2, hec, h1, h2, hS2⟩ := (hG.2.2.2.2.2.1) S hS (xs (i + 1)) (xs (i + 2))
    exact arm_4 hls A hi hec h1 h2 hc hs (kk S2 hS2) ad n L f H locs ls B hl
  by_cases c5 : y.toInt = 5
  · refine lv_tableIn (tgt := 444) hx hb dL_law_40 (by omega) (by omega) (by rw [c5]; rfl) (by decide) ?_
    obtain ⟨ec, v, S1, v2, S2, hec, h1, h2, hS2⟩ := (hG.2.2.2.2.2.2.1) S hS (xs (i + 1))
    exact arm_5 hls A hi hec h1 h2 hc hs (kk S2 hS2) ad n L f H locs ls B hl
  by_cases c6 : y.toInt = 6
  · refine lv_tableIn (tgt := 472) hx hb dL_law_40 (by omega) (by omega) (by rw [c6]; rfl) (by decide) ?_
    obtain ⟨ec, v, S1, v2, S2, hec, h1, h2, hS2, hth, hv9⟩ := (hG.2.2.2.2.2.2.2.1) S hS (xs (i + 1)) (xs (i + 2))
    exact arm_6 hls A hi hec h1 h2 hth hv9 hc hs (kk S2 hS2) ad n L f H locs ls B hl
  by_cases c7 : y.toInt = 7
  · refine lv_tableIn (tgt := 540) hx hb dL_law_40 (by omega) (by omega) (by rw [c7]; rfl) (by decide) ?_
    obtain ⟨v, S1, v2, S2, h1, h2, hS2⟩ := (hG.2.2.2.2.2.2.2.2.1) S hS (xs (i + 1))
    exact arm_7 hls A hi h1 h2 hc hs (kk S2 hS2) ad n L f H locs ls B hl
  by_cases c8 : y.toInt = 8
  · refine lv_tableIn (tgt := 565) hx hb dL_law_40 (by omega) (by omega) (by rw [c8]; rfl) (by decide) ?_
    obtain ⟨v, S1, v2, S2, h1, h2, hS2⟩ := (hG.2.2.2.2.2.2.2.2.2.1) S hS (xs (i + 1)) (xs (i + 2)) (xs (i + 3)) (xs (i + 4)) (xs (i + 5))
    exact arm_8 hls A hi h1 h2 hc hs (kk S2 hS2) ad n L f H locs ls B hl
  by_cases c9 : y.toInt = 9
  · refine lv_tableIn (tgt := 638) hx hb dL_law_40 (by omega) (by omega) (by rw [c9]; rfl) (by decide) ?_
    obtain ⟨ec, v, S1, v2, S2, hec, h1, h2, hS2⟩ := (hG.2.2.2.2.2.2.2.2.2.2.1) S hS (xs (i + 1)) (xs (i + 2))
    exact arm_9 hls A hi hec h1 h2 hc hs (kk S2 hS2) ad n L f H locs ls B hl
  by_cases c10 : y.toInt = 10
  · refine lv_tableIn (tgt := 694) hx hb dL_law_40 (by omega) (by omega) (by rw [c10]; rfl) (by decide) ?_
    obtain ⟨v, S1, v2, S2, h1, h2, hS2⟩ := (hG.2.2.2.2.2.2.2.2.2.2.2.1) S hS 
    exact arm_10 hls A hi h1 h2 hc hs (kk S2 hS2) ad n L f H locs ls B hl
  by_cases c11 : y.toInt = 11
  · refine lv_tableIn (tgt := 707) hx hb dL_law_40 (by omega) (by omega) (by rw [c11]; rfl) (by decide) ?_
    obtain ⟨ec, v, S1, v2, S2, hec, h1, h2, hS2⟩ := (hG.2.2.2.2.2.2.2.2.2.2.2.2.1) S hS (xs (i + 1))
    exact arm_11 hls A hi hec h1 h2 hc hs (kk S2 hS2) ad n L f H locs ls B hl
  by_cases c12 : y.toInt = 12
  · refine lv_tableIn (tgt := 735) hx hb dL_law_40 (by omega) (by omega) (by rw [c12]; rfl) (by decide) ?_
    obtain ⟨ec, v, S1, v2, S2, hec, h1, h2, hS2⟩ := (hG.2.2.2.2.2.2.2.2.2.2.2.2.2.1) S hS (xs (i + 1)) (xs (i + 2))
    exact arm_12 hls A hi hec h1 h2 hc hs (kk S2 hS2) ad n L f H locs ls B hl
  by_cases c13 : y.toInt = 13
  · refine lv_tableIn (tgt := 775) hx hb dL_law_40 (by omega) (by omega) (by rw [c13]; rfl) (by decide) ?_
    obtain ⟨ec, v, S1, v2, S2, hec, h1, h2, hS2⟩ := (hG.2.2.2.2.2.2.2.2.2.2.2.2.2.2.1) S hS (xs (i + 1))
    exact arm_13 hls A hi hec h1 h2 hc hs (kk S2 hS2) ad n L f H locs ls B hl
  by_cases c14 : y.toInt = 14
  · refine lv_tableIn (tgt := 803) hx hb dL_law_40 (by omega) (by omega) (by rw [c14]; rfl) (by decide) ?_
    obtain ⟨ec, v, S1, v2, S2, hec, h1, h2, hS2⟩ := (hG.2.2.2.2.2.2.2.2.2.2.2.2.2.2.2.1) S hS (xs (i + 1)) (xs (i + 2))
    exact arm_14 hls A hi hec h1 h2 hc hs (kk S2 hS2) ad n L f H locs ls B hl
  by_cases c15 : y.toInt = 15
  · refine lv_tableIn (tgt := 843) hx hb dL_law_40 (by omega) (by omega) (by rw [c15]; rfl) (by decide) ?_
    obtain ⟨ec, v, S1, v2, S2, hec, h1, h2, hS2⟩ := (hG.2.2.2.2.2.2.2.2.2.2.2.2.2.2.2.2.1) S hS (xs (i + 1))
    exact arm_15 hls A hi hec h1 h2 hc hs (kk S2 hS2) ad n L f H locs ls B hl
  by_cases c16 : y.toInt = 16
  · refine lv_tableIn (tgt := 871) hx hb dL_law_40 (by omega) (by omega) (by rw [c16]; rfl) (by decide) ?_
    obtain ⟨ec, v, S1, v2, S2, hec, h1, h2, hS2⟩ := (hG.2.2.2.2.2.2.2.2.2.2.2.2.2.2.2.2.2.1) S hS (xs (i + 1)) (xs (i + 2))
    exact arm_16 hls A hi hec h1 h2 hc hs (kk S2 hS2) ad n L f H locs ls B hl
  by_cases c17 : y.toInt = 17
  · refine lv_tableIn (tgt := 911) hx hb dL_law_40 (by omega) (by omega) (by rw [c17]; rfl) (by decide) ?_
    obtain ⟨v, S1, v2, S2, h1, h2, hS2⟩ := (hG.2.2.2.2.2.2.2.2.2.2.2.2.2.2.2.2.2.2.1) S hS (xs (i + 1))
    exact arm_17 hls A hi h1 h2 hc hs (kk S2 hS2) ad n L f H locs ls B hl
  by_cases c18 : y.toInt = 18
  · refine lv_tableIn (tgt := 952) hx hb dL_law_40 (by omega) (by omega) (by rw [c18]; rfl) (by decide) ?_
    obtain ⟨ec, v, S1, v2, S2, hec, h1, h2, hS2⟩ := (hG.2.2.2.2.2.2.2.2.2.2.2.2.2.2.2.2.2.2.2.1) S hS (xs (i + 1)) (xs (i + 2)) (xs (i + 3))
    exact arm_18 hls A hi hec h1 h2 hc hs (kk S2 hS2) ad n L f H locs ls B hl
  by_cases c19 : y.toInt = 19
  · refine lv_tableIn (tgt := 1004) hx hb dL_law_40 (by omega) (by omega) (by rw [c19]; rfl) (by decide) ?_
    obtain ⟨ec, v, S1, v2, S2, hec, h1, h2, hS2⟩ := (hG.2.2.2.2.2.2.2.2.2.2.2.2.2.2.2.2.2.2.2.2.1) S hS (xs (i + 1))
    exact arm_19 hls A hi hec h1 h2 hc hs (kk S2 hS2) ad n L f H locs ls B hl
  by_cases c20 : y.toInt = 20
  · refine lv_tableIn (tgt := 1032) hx hb dL_law_40 (by omega) (by omega) (by rw [c20]; rfl) (by decide) ?_
    obtain ⟨ec, v, S1, v2, S2, hec, h1, h2, hS2⟩ := (hG.2.2.2.2.2.2.2.2.2.2.2.2.2.2.2.2.2.2.2.2.2.1) S hS (xs (i + 1)) (xs (i + 2))
    exact arm_20 hls A hi hec h1 h2 hc hs (kk S2 hS2) ad n L f H locs ls B hl
  by_cases c21 : y.toInt = 21
  · refine lv_tableIn (tgt := 1072) hx hb dL_law_40 (by omega) (by omega) (by rw [c21]; rfl) (by decide) ?_
    obtain ⟨v, S1, v2, S2, h1, h2, hS2⟩ := (hG.2.2.2.2.2.2.2.2.2.2.2.2.2.2.2.2.2.2.2.2.2.2.1) S hS 
    exact arm_21 hls A hi h1 h2 hc hs (kk S2 hS2) ad n L f H locs ls B hl
  by_cases c22 : y.toInt = 22
  · refine lv_tableIn (tgt := 1085) hx hb dL_law_40 (by omega) (by omega) (by rw [c22]; rfl) (by decide) ?_
    obtain ⟨ec, v, S1, v2, S2, hec, h1, h2, hS2⟩ := (hG.2.2.2.2.2.2.2.2.2.2.2.2.2.2.2.2.2.2.2.2.2.2.2.1) S hS (xs (i + 1))
    exact arm_22 hls A hi hec h1 h2 hc hs (kk S2 hS2) ad n L f H locs ls B hl
  by_cases c23 : y.toInt = 23
  · refine lv_tableIn (tgt := 1113) hx hb dL_law_40 (by omega) (by omega) (by rw [c23]; rfl) (by decide) ?_
    obtain ⟨ec, v, S1, v2, S2, hec, h1, h2, hS2⟩ := (hG.2.2.2.2.2.2.2.2.2.2.2.2.2.2.2.2.2.2.2.2.2.2.2.2.1) S hS (xs (i + 1))
    exact arm_23 hls A hi hec h1 h2 hc hs (kk S2 hS2) ad n L f H locs ls B hl
  by_cases c24 : y.toInt = 24
  · refine lv_tableIn (tgt := 1141) hx hb dL_law_40 (by omega) (by omega) (by rw [c24]; rfl) (by decide) ?_
    obtain ⟨v, S1, v2, S2, h1, h2, hS2⟩ := (hG.2.2.2.2.2.2.2.2.2.2.2.2.2.2.2.2.2.2.2.2.2.2.2.2.2.1) S hS 
    exact arm_24 hls A hi h1 h2 hc hs (kk S2 hS2) ad n L f H locs ls B hl
  by_cases c25 : y.toInt = 25
  · refine lv_tableIn (tgt := 1154) hx hb dL_law_40 (by omega) (by omega) (by rw [c25]; rfl) (by decide) ?_
    obtain ⟨ec, v, S1, v2, S2, hec, h1, h2, hS2⟩ := (hG.2.2.2.2.2.2.2.2.2.2.2.2.2.2.2.2.2.2.2.2.2.2.2.2.2.2.1) S hS (xs (i + 1)) (xs (i + 2)) (xs (i + 3))
    exact arm_25 hls A hi hec h1 h2 hc hs (kk S2 hS2) ad n L f H locs ls B hl
  by_cases c26 : y.toInt = 26
  · refine lv_tableIn (tgt := 1206) hx hb dL_law_40 (by omega) (by omega) (by rw [c26]; rfl) (by decide) ?_
    obtain ⟨ec, v, S1, v2, S2, hec, h1, h2, hS2⟩ := (hG.2.2.2.2.2.2.2.2.2.2.2.2.2.2.2.2.2.2.2.2.2.2.2.2.2.2.2.1) S hS (xs (i + 1)) (xs (i + 2))
    exact arm_26 hls A hi hec h1 h2 hc hs (kk S2 hS2) ad n L f H locs ls B hl
  by_cases c27 : y.toInt = 27
  · refine lv_tableIn (tgt := 1246) hx hb dL_law_40 (by omega) (by omega) (by rw [c27]; rfl) (by decide) ?_
    obtain ⟨ec, v, S1, v2, S2, hec, h1, h2, hS2⟩ := (hG.2.2.2.2.2.2.2.2.2.2.2.2.2.2.2.2.2.2.2.2.2.2.2.2.2.2.2.2.1) S hS (xs (i + 1)) (xs (i + 2)) (xs (i + 3))
    exact arm_27 hls A hi hec h1 h2 hc hs (kk S2 hS2) ad n L f H locs ls B hl
  by_cases c28 : y.toInt = 28
  · refine lv_tableIn (tgt := 1298) hx hb dL_law_40 (by omega) (by omega) (by rw [c28]; rfl) (by decide) ?_
    obtain ⟨ec, v, S1, v2, S2, hec, h1, h2, hS2⟩ := (hG.2.2.2.2.2.2.2.2.2.2.2.2.2.2.2.2.2.2.2.2.2.2.2.2.2.2.2.2.2.1) S hS (xs (i + 1)) (xs (i + 2))
    exact arm_28 hls A hi hec h1 h2 hc hs (kk S2 hS2) ad n L f H locs ls B hl
  by_cases c29 : y.toInt = 29
  · refine lv_tableIn (tgt := 1338) hx hb dL_law_40 (by omega) (by omega) (by rw [c29]; rfl) (by decide) ?_
    obtain ⟨ec, v, S1, v2, S2, hec, h1, h2, hS2⟩ := (hG.2.2.2.2.2.2.2.2.2.2.2.2.2.2.2.2.2.2.2.2.2.2.2.2.2.2.2.2.2.2.1) S hS (xs (i + 1))
    exact arm_29 hls A hi hec h1 h2 hc hs (kk S2 hS2) ad n L f H locs ls B hl
  by_cases c30 : y.toInt = 30
  · refine lv_tableIn (tgt := 1366) hx hb dL_law_40 (by omega) (by omega) (by rw [c30]; rfl) (by decide) ?_
    obtain ⟨ec, v, S1, v2, S2, hec, h1, h2, hS2⟩ := (hG.2.2.2.2.2.2.2.2.2.2.2.2.2.2.2.2.2.2.2.2.2.2.2.2.2.2.2.2.2.2.2.1) S hS (xs (i + 1)) (xs (i + 2)) (xs (i + 3)) (xs (i + 4)) (xs (i + 5))
    exact arm_30 hls A hi hec h1 h2 hc hs (kk S2 hS2) ad n L f H locs ls B hl
  by_cases c31 : y.toInt = 31
  · refine lv_tableIn (tgt := 1442) hx hb dL_law_40 (by omega) (by omega) (by rw [c31]; rfl) (by decide) ?_
    obtain ⟨ec, v, S1, v2, S2, hec, h1, h2, hS2⟩ := (hG.2.2.2.2.2.2.2.2.2.2.2.2.2.2.2.2.2.2.2.2.2.2.2.2.2.2.2.2.2.2.2.2.1) S hS (xs (i + 1)) (xs (i + 2)) (xs (i + 3)) (xs (i + 4))
    exact arm_31 hls A hi hec h1 h2 hc hs (kk S2 hS2) ad n L f H locs ls B hl
  by_cases c32 : y.toInt = 32
  · refine lv_tableIn (tgt := 1506) hx hb dL_law_40 (by omega) (by omega) (by rw [c32]; rfl) (by decide) ?_
    obtain ⟨ec, v, S1, v2, S2, hec, h1, h2, hS2⟩ := (hG.2.2.2.2.2.2.2.2.2.2.2.2.2.2.2.2.2.2.2.2.2.2.2.2.2.2.2.2.2.2.2.2.2.1) S hS (xs (i + 1))
    exact arm_32 hls A hi hec h1 h2 hc hs (kk S2 hS2) ad n L f H locs ls B hl
  by_cases c33 : y.toInt = 33
  · refine lv_tableIn (tgt := 1534) hx hb dL_law_40 (by omega) (by omega) (by rw [c33]; rfl) (by decide) ?_
    obtain ⟨v, S1, v2, S2, h1, h2, hS2⟩ := (hG.2.2.2.2.2.2.2.2.2.2.2.2.2.2.2.2.2.2.2.2.2.2.2.2.2.2.2.2.2.2.2.2.2.2.1) S hS 
    exact arm_33 hls A hi h1 h2 hc hs (kk S2 hS2) ad n L f H locs ls B hl
  by_cases c34 : y.toInt = 34
  · refine lv_tableIn (tgt := 1547) hx hb dL_law_40 (by omega) (by omega) (by rw [c34]; rfl) (by decide) ?_
    obtain ⟨v, S1, v2, S2, h1, h2, hS2⟩ := (hG.2.2.2.2.2.2.2.2.2.2.2.2.2.2.2.2.2.2.2.2.2.2.2.2.2.2.2.2.2.2.2.2.2.2.2.1) S hS 
    exact arm_34 hls A hi h1 h2 hc hs (kk S2 hS2) ad n L f H locs ls B hl
  by_cases c35 : y.toInt = 35
  · refine lv_tableIn (tgt := 1560) hx hb dL_law_40 (by omega) (by omega) (by rw [c35]; rfl) (by decide) ?_
    obtain ⟨v, S1, v2, S2, h1, h2, hS2⟩ := (hG.2.2.2.2.2.2.2.2.2.2.2.2.2.2.2.2.2.2.2.2.2.2.2.2.2.2.2.2.2.2.2.2.2.2.2.2) S hS (xs (i + 1))
    exact arm_35 hls A hi h1 h2 hc hs (kk S2 hS2) ad n L f H locs ls B hl
  refine lv_tableOut (tgt := 1585) hx hb dL_law_40 (by omega) (by decide) ?_
  exact W.widen (k := cells + 6) (n := slots + 307) (by omega) (by omega) (kk S hS ad n L f H locs ls B hl)
set_option maxRecDepth 100000 in
theorem law_out {p : Program} {l : Launch} {e : Env} {s : State} {m : MethodId} {below : List Frame} {meth : Method} {c : Code} {b : Nat} {D : va_G} {K : Nat → ClassId} {sa : sT} {H : Heap} {locs : List Loc} {L : List Nat} {f : Nat → va_E} {cells slots : Nat} {ls : Array Slot} (hx : p.tables.exec = Jvm.exec) (hb : c.code = cL_law) (hr : meth.sig.returnType = ret) (hlk : meth.locks = false) (w : Wh D K s.heap.size sa s H locs L f) (hc : cells ≤ 601024) (hs : slots ≤ 7293033) :
    W p l e room_1 s m #[Value.ref b] below meth c H locs cells slots (lw_Z below #[Value.ref b] s) (F0 m 1591 ls []) := by
  refine lv_iconst (v := 1) hx hb dL_law_1591 (by decide) ?_
  refine va_forget (fun q hq => w.2.2.2.2.1.2.2 q hq) ?_
  refine W.widen (k := 601024) (n := 7293033) hc hs ?_
  exact lw_ret hx hb hr hlk dL_law_1592
set_option maxHeartbeats 8000000 in
set_option maxRecDepth 100000 in
theorem law_loop {p : Program} {l : Launch} {e : Env} {s : State} {m : MethodId} {below : List Frame} {meth : Method} {c : Code} {b N : Nat} {xs : Nat → Int32} {D : va_G} {K : Nat → ClassId} {sa : sT} {o : Nat} {I : fS → Prop} (hG : Good I) (hls : l.stackTraces = false) (A : LwC p s m meth c b N xs) : ∀ (r i : Nat) (S : fS) (cells slots : Nat), I S → N ≤ i + 6 * r + 5 → i ≤ N → cells + 6 * r ≤ 601024 → slots + 307 * r ≤ 7293033 → LwK D K sa p l e s m below meth c b o i S cells slots (lw_Z below #[Value.ref b] s) 23 := by
  have hN := A.2.2.2.2.2
  have head : ∀ (i : Nat) (S : fS) (cells slots : Nat), i ≤ N → cells ≤ 601024 → slots ≤ 7293033 → (i + 6 ≤ N → LwK D K sa p l e s m below meth c b o i S cells slots (lw_Z below #[Value.ref b] s) 33) → LwK D K sa p l e s m below meth c b o i S cells slots (lw_Z below #[Value.ref b] s) 23 := by
    intro i S cells slots hi4 hc hs kb ad n L f H locs ls B hl
    obtain ⟨C, hX, hbl, hrt, hlk, hNm⟩ := id A
    have hx := C.1
    have hb := C.2.1
    have w := B.1
    refine lv_iload hx hb dL_law_23 (lv_at hl 4 rfl) ?_
    refine lv_aload_n hx hb dL_law_25 rfl (lv_at hl 0 rfl) ?_
    refine va_slen (A := fun q => s.heap.size ≤ q) hx hb hX hbl (Nat.not_le.mpr hbl) w.2.2.2.2.1 dL_law_26 ?_
    refine lv_bipush (v := 6) hx hb dL_law_27 (by decide) ?_
    refine lv_isub hx hb dL_law_29 ?_
    have t1 : (nI i).toInt = (i : Int) := nI_toInt (by omega)
    have t2 : (Int32.ofNat N).toInt = (N : Int) := nI_toInt (by omega)
    have t6 : (6 : Int32).toInt = 6 := by decide
    have t3 : (Int32.ofNat N - 6).toInt = (N : Int) - 6 := by rw [ti_sub (by rw [t2, t6]; omega) (by rw [t2, t6]; omega), t2, t6]
    refine lv_icmp_gt (tgt := 1591) hx hb dL_law_30 (by decide) (fun c0 => ?_) (fun c0 => ?_)
    · exact law_out hx hb hrt hlk w hc hs
    · have c1 := nlt_toInt c0
      exact kb (by omega) ad n L f H locs ls B hl
  intro r
  induction r with
  | zero =>
    intro i S cells slots hS hr hi4 hc hs
    exact head i S cells slots hi4 (by omega) (by omega) (fun h6 => absurd h6 (by omega))
  | succ r ih =>
    intro i S cells slots hS hr hi4 hc hs
    refine head i S cells slots hi4 (by omega) (by omega) (fun h6 => law_body hG hls A h6 hS (by omega) (by omega) (fun S2 hS2 => ?_))
    intro ad n L f H locs ls B hl
    obtain ⟨C, hX, hbl, hrt, hlk, hNm⟩ := id A
    have hx := C.1
    have hb := C.2.1
    refine lv_iinc (v := nI (i + 6)) (lv' := [(4, .int (nI (i + 6))), (0, .ref b), (1, .ref (ad 0 0)), (2, .ref (ad 40 0)), (3, .ref o)]) hx hb dL_law_1585 hl (k := 4) rfl (by show nI i + Int32.ofInt 6 = nI (i + 6); exact nI_ad2 i 6) (by decide) rfl (fun ls hl => ?_)
    refine lv_goto (tgt := 23) hx hb dL_law_1588 (by decide) ?_
    exact ih (i + 6) S2 (cells + 6) (slots + 307) hS2 (by omega) (by omega) (by omega) (by omega) ad n L f H locs ls B (lv_sub hl [1, 2, 3, 4, 0] rfl)
