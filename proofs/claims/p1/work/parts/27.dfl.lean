theorem dfl_0 : ∀ j, j < 13 → defaultValue (tyX0 j) = vp_V [.null, .int 0, .int 0, .int 0, .int 0, .int 0, .int 0, .int 0, .int 0, .int 0, .int 0, .null, .int 0] j := by
  intro j hj
  match j, hj with
  | 0, _ => rfl
  | 1, _ => rfl
  | 2, _ => rfl
  | 3, _ => rfl
  | 4, _ => rfl
  | 5, _ => rfl
  | 6, _ => rfl
  | 7, _ => rfl
  | 8, _ => rfl
  | 9, _ => rfl
  | 10, _ => rfl
  | 11, _ => rfl
  | 12, _ => rfl
  | (_ + 13), h => exact absurd h (by omega)
theorem dfl_1 : ∀ j, j < 1 → defaultValue (tyX1 j) = vp_V [.null] j := by
  intro j hj
  match j, hj with
  | 0, _ => rfl
  | (_ + 1), h => exact absurd h (by omega)
theorem dfl_2 : ∀ j, j < 9 → defaultValue (tyX2 j) = vp_V [.int 0, .null, .null, .null, .null, .null, .null, .null, .null] j := by
  intro j hj
  match j, hj with
  | 0, _ => rfl
  | 1, _ => rfl
  | 2, _ => rfl
  | 3, _ => rfl
  | 4, _ => rfl
  | 5, _ => rfl
  | 6, _ => rfl
  | 7, _ => rfl
  | 8, _ => rfl
  | (_ + 9), h => exact absurd h (by omega)
theorem dfl_3 : ∀ j, j < 3 → defaultValue (tyX3 j) = vp_V [.null, .int 0, .null] j := by
  intro j hj
  match j, hj with
  | 0, _ => rfl
  | 1, _ => rfl
  | 2, _ => rfl
  | (_ + 3), h => exact absurd h (by omega)
theorem dfl_4 : ∀ j, j < 12 → defaultValue (tyX4 j) = vp_V [.null, .null, .null, .int 0, .int 0, .int 0, .null, .int 0, .int 0, .int 0, .int 0, .int 0] j := by
  intro j hj
  match j, hj with
  | 0, _ => rfl
  | 1, _ => rfl
  | 2, _ => rfl
  | 3, _ => rfl
  | 4, _ => rfl
  | 5, _ => rfl
  | 6, _ => rfl
  | 7, _ => rfl
  | 8, _ => rfl
  | 9, _ => rfl
  | 10, _ => rfl
  | 11, _ => rfl
  | (_ + 12), h => exact absurd h (by omega)
theorem dfl_5 : ∀ j, j < 17 → defaultValue (tyX5 j) = vp_V [.int 0, .int 0, .int 0, .int 0, .int 0, .int 0, .int 0, .int 0, .int 0, .int 0, .int 0, .int 0, .int 0, .int 0, .int 0, .null, .int 0] j := by
  intro j hj
  match j, hj with
  | 0, _ => rfl
  | 1, _ => rfl
  | 2, _ => rfl
  | 3, _ => rfl
  | 4, _ => rfl
  | 5, _ => rfl
  | 6, _ => rfl
  | 7, _ => rfl
  | 8, _ => rfl
  | 9, _ => rfl
  | 10, _ => rfl
  | 11, _ => rfl
  | 12, _ => rfl
  | 13, _ => rfl
  | 14, _ => rfl
  | 15, _ => rfl
  | 16, _ => rfl
  | (_ + 17), h => exact absurd h (by omega)
theorem dfl_6 : ∀ j, j < 18 → defaultValue (tyX6 j) = vp_V [.null, .null, .null, .int 0, .null, .int 0, .null, .int 0, .null, .int 0, .null, .int 0, .int 0, .null, .null, .null, .null, .null] j := by
  intro j hj
  match j, hj with
  | 0, _ => rfl
  | 1, _ => rfl
  | 2, _ => rfl
  | 3, _ => rfl
  | 4, _ => rfl
  | 5, _ => rfl
  | 6, _ => rfl
  | 7, _ => rfl
  | 8, _ => rfl
  | 9, _ => rfl
  | 10, _ => rfl
  | 11, _ => rfl
  | 12, _ => rfl
  | 13, _ => rfl
  | 14, _ => rfl
  | 15, _ => rfl
  | 16, _ => rfl
  | 17, _ => rfl
  | (_ + 18), h => exact absurd h (by omega)
theorem dfl_7 : ∀ j, j < 57 → defaultValue (tyX7 j) = vp_V [.int 0, .int 0, .int 0, .int 0, .int 0, .int 0, .int 0, .int 0, .int 0, .int 0, .null, .null, .null, .int 0, .int 0, .int 0, .int 0, .null, .int 0, .int 0, .int 0, .int 0, .null, .null, .null, .null, .null, .null, .null, .null, .int 0, .int 0, .int 0, .int 0, .int 0, .int 0, .int 0, .int 0, .int 0, .null, .int 0, .int 0, .int 0, .int 0, .int 0, .int 0, .int 0, .null, .int 0, .null, .null, .null, .null, .null, .null, .null, .int 0] j := by
  intro j hj
  match j, hj with
  | 0, _ => rfl
  | 1, _ => rfl
  | 2, _ => rfl
  | 3, _ => rfl
  | 4, _ => rfl
  | 5, _ => rfl
  | 6, _ => rfl
  | 7, _ => rfl
  | 8, _ => rfl
  | 9, _ => rfl
  | 10, _ => rfl
  | 11, _ => rfl
  | 12, _ => rfl
  | 13, _ => rfl
  | 14, _ => rfl
  | 15, _ => rfl
  | 16, _ => rfl
  | 17, _ => rfl
  | 18, _ => rfl
  | 19, _ => rfl
  | 20, _ => rfl
  | 21, _ => rfl
  | 22, _ => rfl
  | 23, _ => rfl
  | 24, _ => rfl
  | 25, _ => rfl
  | 26, _ => rfl
  | 27, _ => rfl
  | 28, _ => rfl
  | 29, _ => rfl
  | 30, _ => rfl
  | 31, _ => rfl
  | 32, _ => rfl
  | 33, _ => rfl
  | 34, _ => rfl
  | 35, _ => rfl
  | 36, _ => rfl
  | 37, _ => rfl
  | 38, _ => rfl
  | 39, _ => rfl
  | 40, _ => rfl
  | 41, _ => rfl
  | 42, _ => rfl
  | 43, _ => rfl
  | 44, _ => rfl
  | 45, _ => rfl
  | 46, _ => rfl
  | 47, _ => rfl
  | 48, _ => rfl
  | 49, _ => rfl
  | 50, _ => rfl
  | 51, _ => rfl
  | 52, _ => rfl
  | 53, _ => rfl
  | 54, _ => rfl
  | 55, _ => rfl
  | 56, _ => rfl
  | (_ + 57), h => exact absurd h (by omega)
theorem Ex.tagX {T : List Nat} {X : Nat → Prop} {Ψ0 Ψ : Nat → Nat} {L0 L : List Nat} {f0 f : Nat → va_E} (h : Ex T X Ψ0 L0 f0 Ψ L f) {q t : Nat} (hq : q ∈ L0) (hx : X q) : Ex T X Ψ0 L0 f0 (va_up Ψ q t) L f := by
  refine ⟨fun b hb => ?_, fun b hb => ?_⟩
  · have h1 := h.1 b hb
    refine ⟨h1.1, fun hn => ?_⟩
    have hne : b ≠ q := fun e => hn (by rw [e]; exact hx)
    rw [va_up_ne _ _ hne]
    exact h1.2 hn
  · by_cases e : b = q
    · subst e
      exact Or.inl hq
    · rw [va_up_ne _ _ e]
      exact h.2 b hb
theorem t_tagX {T : List Nat} {X : Nat → Prop} {Ψ0 Ψ : Nat → Nat} {L0 L : List Nat} {f0 f : Nat → va_E} {K : Nat → ClassId} {G : tG} (hT : TW K G Ψ L f) (hE : Ex T X Ψ0 L0 f0 Ψ L f) {q t : Nat} (h9 : Ψ q = 9) (hq : q ∈ L0) (hx : X q) (he : tye K G Ψ L t (f q)) : ∃ Ψ1 : Nat → Nat, TW K G Ψ1 L f ∧ Ex T X Ψ0 L0 f0 Ψ1 L f ∧ (∀ b : Nat, Ψ b ≠ 9 → Ψ1 b = Ψ b) ∧ (∀ b : Nat, b ≠ q → Ψ1 b = Ψ b) ∧ Ψ1 q = t := by
  refine ⟨va_up Ψ q t, fun b hb => ?_, hE.tagX hq hx, fun b hb => va_up_ne _ _ (fun e : b = q => hb (by rw [e]; exact h9)), fun b hb => va_up_ne _ _ hb, va_up_self _ _ _⟩
  have hx : ∀ a : Nat, a ∈ L → a ∈ L ∧ (Ψ a ≠ 9 → va_up Ψ q t a = Ψ a) := fun a ha => ⟨ha, fun hn => va_up_ne _ _ (fun e : a = q => hn (by rw [e]; exact h9))⟩
  by_cases e : b = q
  · subst e
    rw [va_up_self]
    exact he.ext hx
  · rw [va_up_ne _ _ e]
    exact (hT b hb).ext hx
theorem Ex.raw2 {T : List Nat} {X : Nat → Prop} {Ψ0 Ψ : Nat → Nat} {L0 L : List Nat} {f0 f f1 : Nat → va_E} (h : Ex T X Ψ0 L0 f0 Ψ L f) {q : Nat} (hz : q ∈ L0 → X q) (hk : ∀ b : Nat, b ≠ q → f1 b = f b) : Ex T X Ψ0 L0 f0 Ψ L f1 :=
  ⟨fun b hb => ⟨(h.1 b hb).1, fun hx => ⟨((h.1 b hb).2 hx).1, fun h9 => (hk b (fun e : b = q => hx (by rw [e]; exact hz (e ▸ hb)))).trans (((h.1 b hb).2 hx).2 h9)⟩⟩, h.2⟩
set_option maxHeartbeats 4000000 in
set_option maxRecDepth 100000 in
theorem c_fillR (l : Launch) (D : va_G) (K : Nat → ClassId) (b0 : Nat) (sa : Nat × Nat × Nat) (sz : Nat) (L : List Nat) (f0 : Nat → va_E) (Ψ : Nat → Nat) (G : tG) (hT : TW K G Ψ L f0) (ar : Nat) (hm_ar : ar ∈ L) (ht_ar : Ψ ar = 9) (hf_ar : f0 ar = .inl (K 0, 64, .inl (fun _ => 0))) : Met l yJ7_fill_53178 (.code yJ7_fill_53178 cJ7_fill_53178 4 none :: gt) { frames := 0, cells := 0, slots := 0, locals := 0 } (va_Pc [.ref ar, .int (-1)] (hPre D K b0 sa sz L f0)) (hQ D K b0 (fun v9 u9 => ∃ (f2 : Nat → va_E) (g : Nat → Int32), v9 = none ∧ u9 = (G, Ψ, L, f2) ∧ TW K G Ψ L f2 ∧ f2 ar = .inl (K 0, 64, .inl g) ∧ (∀ j : Nat, j < 64 → g j = -1) ∧ ∀ b : Nat, b ≠ ar → f2 b = f0 b)) 0 0 (fun q => b0 ≤ q) := by
  refine t_of (own := RJ7) (by decide) rfl ?_ (Nat.le_of_ble_eq_true rfl)
  intro p e s m below meth c ls C w hsz hr hlk hnm hl
  have hx := C.1
  have hb := C.2.1
  have hl : lv_has ls 4 [(0, .ref ar), (1, .int (-1))] := hl
  refine lv_iconst (v := 0) hx hb dJ7_fill_53178_0 (by decide) ?_
  refine lv_istore_n (lv' := [(2, .int 0), (0, .ref ar), (1, .int (-1))]) hx hb dJ7_fill_53178_1 rfl hl (by decide) rfl (fun ls hl => ?_)
  refine lv_aload_n hx hb dJ7_fill_53178_2 rfl (lv_at hl 1 rfl) ?_
  refine t_alenR C w hm_ar hf_ar (ti := 0) rfl (v := 64) (by decide) dJ7_fill_53178_3 ?_
  refine lv_istore_n (lv' := [(3, .int 64), (2, .int 0), (0, .ref ar), (1, .int (-1))]) hx hb dJ7_fill_53178_4 rfl hl (by decide) rfl (fun ls hl => ?_)
  have loop1 : ∀ (n i1 : Nat), i1 ≤ 64 → 64 - i1 < n → ∀ (g : Nat → Int32) (f : Nat → va_E) (H : Heap) (locs : List Loc), Wh D K b0 sa s H locs L f → TW K G Ψ L f → f ar = .inl (K 0, 64, .inl g) → (∀ j : Nat, j < i1 → g j = -1) → (∀ b : Nat, b ≠ ar → f b = f0 b) → ∀ ls : Array Slot, lv_has ls 4 [(3, .int 64), (2, .int (nI i1)), (0, .ref ar), (1, .int (-1))] → W p l e { frames := 0, cells := 0, slots := 0, locals := 0 } s m [.ref ar, .int (-1)].toArray below meth c H locs 0 0 (MQ below (hQ D K b0 (fun v9 u9 => ∃ (f2 : Nat → va_E) (g : Nat → Int32), v9 = none ∧ u9 = (G, Ψ, L, f2) ∧ TW K G Ψ L f2 ∧ f2 ar = .inl (K 0, 64, .inl g) ∧ (∀ j : Nat, j < 64 → g j = -1) ∧ ∀ b : Nat, b ≠ ar → f2 b = f0 b)) [.ref ar, .int (-1)].toArray s 0 0 (fun q => b0 ≤ q)) (F0 m 5 ls []) := by
    intro n
    induction n with
    | zero => intro i1 h1 h2; exact absurd h2 (Nat.not_lt_zero _)
    | succ n ih1 =>
      intro i1 hi1 hn1 g f H locs w hT hf hg hk ls hl
      have ti1 : (nI i1).toInt = (i1 : Int) := nI_toInt (by omega)
      refine lv_iload_n hx hb dJ7_fill_53178_5 rfl (lv_at hl 1 rfl) ?_
      refine lv_iload_n hx hb dJ7_fill_53178_6 rfl (lv_at hl 0 rfl) ?_
      have n64 : (64 : Int32).toInt = 64 := by decide
      refine lv_icmp_ge (tgt := 20) hx hb dJ7_fill_53178_7 (by decide) (fun c2 => ?_) (fun c2 => ?_)
      · have c2 := le_toInt c2
        exact t_vret C hr hlk w ⟨_, g, rfl, rfl, hT, hf, fun j hj => hg j (by omega), hk⟩ (by decide) (by decide) dJ7_fill_53178_20
      · have c2 := nle_toInt c2
        refine lv_aload_n hx hb dJ7_fill_53178_10 rfl (lv_at hl 2 rfl) ?_
        refine lv_iload_n hx hb dJ7_fill_53178_11 rfl (lv_at hl 1 rfl) ?_
        refine lv_iload_n hx hb dJ7_fill_53178_12 rfl (lv_at hl 3 rfl) ?_
        refine t_iastR C w hT hm_ar ht_ar hf (vp_in_iff.mpr ⟨by omega, (show _ < ((64 : Nat) : Int) by omega)⟩) dJ7_fill_53178_13 (fun f H locs w hT hf2 hk2 => ?_)
        refine lv_iinc (v := (nI (i1 + 1))) (lv' := [(2, .int (nI (i1 + 1))), (3, .int 64), (0, .ref ar), (1, .int (-1))]) hx hb dJ7_fill_53178_14 hl (k := 1) rfl (by exact nI_1 i1) (by decide) rfl (fun ls hl => ?_)
        refine lv_goto (tgt := 5) hx hb dJ7_fill_53178_17 (by decide) ?_
        refine ih1 (i1 + 1) (by omega) (by omega) _ _ _ _ w hT hf2 (fun j hj => ?_) (fun b hb => (hk2 b hb).trans (hk b hb)) ls (lv_sub hl [1, 0, 2, 3] rfl)
        have hi : (nI i1).toNatClampNeg = i1 := by
          have : (nI i1).toNatClampNeg = (nI i1).toInt.toNat := rfl
          rw [this, ti1]; exact Int.toNat_natCast i1
        rw [hi]
        by_cases q : j = i1
        · subst q
          rw [pk_us]
        · rw [pk_un q]
          exact hg j (by omega)
  exact loop1 65 0 (by decide) (by decide) _ _ _ _ w hT hf_ar (fun j hj => absurd hj (Nat.not_lt_zero _)) (fun b _ => rfl) ls hl
