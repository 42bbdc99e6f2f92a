/-! the memory that the constructors leave -/
def iniL : List (List Int32) := [[0, 0, 0, 0, 0, 0, 0, 0, 0, 0, 0, 0, -1, 0, 0, 0, 0, 0], [0, 63, 14, 1, 0, 1, -1, 0, 0, 0, 0, 0, 0], [0, 0, 0, 0, 0, 0, 0, 0, 0], [], [], [], [], [], [], [], [], [], [], [], [], [], [], [0, 0, 0, 0, 0, 0, 0, 0, 0, 0, 0, -1], [], [], [], [], [0, 0, 0], [], [], [0, 0, -1, 0, 0, 0, 0, 0, 0, 0, 0, 0, 0, 0, 0, 0, 0], [], [], [], [], [], [], [], [], [], [], [], [], [], [], [0, 0, 0, -1, 0, 0, 0, 0, 0, 0, 0, 0, 0, 0, 0, -1, 0, 0, 0, 0, 0, 0, 0, 0, 0, 0, 0, 0, 0, 0, 63, 14, 1, 0, 1, 0, 0, 0, 0, 0, 0, 0, 0, 0, 0, 0, 0, 0, 0, 0, 0, 0, 0, 0, 0, 0, 0], [], [], [], [], [], [], [], [], [], [], [], [], [], [], [], [], [], [], [], [], [], [], [], [], [], [], [], [], [], [], [], [], [], [], [], [], [], [], [], [], [], [], [], [], [], [], [], [], [], [], []]
def tI (j : Nat) : Int32 := (iniL.getD 25 []).getD j 0
def SI : fS := (fun a _ j => if a = 10 then (if j < 64 then -1 else 0) else (iniL.getD a []).getD j 0, fun _ _ _ => none, (1, 0), fun _ => 0)
set_option maxHeartbeats 4000000 in
set_option maxRecDepth 100000 in
theorem c_fillR (l : Launch) (D : va_G) (K : Nat → ClassId) (b0 : Nat) (sa : sT) (sz : Nat) (L : List Nat) (f0 : Nat → va_E) (ar : Nat) (hm_ar : ar ∈ L) (hf_ar : f0 ar = .inl (K 0, 64, .inl (fun _ => 0))) : Met l yJ7_fill_53178 (.code yJ7_fill_53178 cJ7_fill_53178 4 none :: gt) { frames := 0, cells := 0, slots := 0, locals := 0 } (va_Pc [.ref ar, .int (-1)] (hPre D K b0 sa sz L f0)) (hQ D K b0 (fun v9 u9 => ∃ f2 : Nat → va_E, v9 = none ∧ u9 = lU L f2 ∧ f2 ar = .inl (K 0, 64, .inl (fun j => if j < 64 then -1 else 0)) ∧ ∀ b : Nat, b ≠ ar → f2 b = f0 b)) 0 0 (fun q => b0 ≤ q) := by
  refine t_of (own := RJ7) (by decide) rfl ?_ (Nat.le_of_ble_eq_true rfl)
  intro p e s m below meth c ls C w hsz hr hlk hnm hl
  have hx := C.1
  have hb := C.2.1
  have hl : lv_has ls 4 [(0, .ref ar), (1, .int (-1))] := hl
  refine lv_iconst (v := 0) hx hb dJ7_fill_53178_0 (by decide) ?_
  refine lv_istore_n (lv' := [(2, .int 0), (0, .ref ar), (1, .int (-1))]) hx hb dJ7_fill_53178_1 rfl hl (by decide) rfl (fun ls hl => ?_)
  refine lv_aload_n hx hb dJ7_fill_53178_2 rfl (lv_at hl 1 rfl) ?_
  refine g_alen C w hm_ar hf_ar (ti := 0) rfl (v := 64) (by decide) dJ7_fill_53178_3 ?_
  refine lv_istore_n (lv' := [(3, .int 64), (2, .int 0), (0, .ref ar), (1, .int (-1))]) hx hb dJ7_fill_53178_4 rfl hl (by decide) rfl (fun ls hl => ?_)
  have loop1 : ∀ (n i1 : Nat), i1 ≤ 64 → 64 - i1 < n → ∀ (f : Nat → va_E) (H : Heap) (locs : List Loc), Wh D K b0 sa s H locs L f → f ar = .inl (K 0, 64, .inl (fun j => if j < i1 then -1 else 0)) → (∀ b : Nat, b ≠ ar → f b = f0 b) → ∀ ls : Array Slot, lv_has ls 4 [(3, .int 64), (2, .int (nI i1)), (0, .ref ar), (1, .int (-1))] → W p l e { frames := 0, cells := 0, slots := 0, locals := 0 } s m [.ref ar, .int (-1)].toArray below meth c H locs 0 0 (MQ below (hQ D K b0 (fun v9 u9 => ∃ f2 : Nat → va_E, v9 = none ∧ u9 = lU L f2 ∧ f2 ar = .inl (K 0, 64, .inl (fun j => if j < 64 then -1 else 0)) ∧ ∀ b : Nat, b ≠ ar → f2 b = f0 b)) [.ref ar, .int (-1)].toArray s 0 0 (fun q => b0 ≤ q)) (F0 m 5 ls []) := by
    intro n
    induction n with
    | zero => intro i1 h1 h2; exact absurd h2 (Nat.not_lt_zero _)
    | succ n ih1 =>
      intro i1 hi1 hn1 f H locs w hf hk ls hl
      have ti1 : (nI i1).toInt = (i1 : Int) := nI_toInt (by omega)
      refine lv_iload_n hx hb dJ7_fill_53178_5 rfl (lv_at hl 1 rfl) ?_
      refine lv_iload_n hx hb dJ7_fill_53178_6 rfl (lv_at hl 0 rfl) ?_
      have n64 : (64 : Int32).toInt = 64 := by decide
      refine lv_icmp_ge (tgt := 20) hx hb dJ7_fill_53178_7 (by decide) (fun c2 => ?_) (fun c2 => ?_)
      · have c2 := le_toInt c2
        have e64 : i1 = 64 := by omega
        rw [e64] at hf
        exact t_vret C hr hlk w ⟨_, rfl, rfl, hf, hk⟩ (by decide) (by decide) dJ7_fill_53178_20
      · have c2 := nle_toInt c2
        refine lv_aload_n hx hb dJ7_fill_53178_10 rfl (lv_at hl 2 rfl) ?_
        refine lv_iload_n hx hb dJ7_fill_53178_11 rfl (lv_at hl 1 rfl) ?_
        refine lv_iload_n hx hb dJ7_fill_53178_12 rfl (lv_at hl 3 rfl) ?_
        refine g_iast C w hm_ar hf (vp_in_iff.mpr ⟨by omega, (show _ < ((64 : Nat) : Int) by omega)⟩) dJ7_fill_53178_13 (fun H locs w => ?_)
        refine lv_iinc (v := (nI (i1 + 1))) (lv' := [(2, .int (nI (i1 + 1))), (3, .int 64), (0, .ref ar), (1, .int (-1))]) hx hb dJ7_fill_53178_14 hl (k := 1) rfl (by exact nI_1 i1) (by decide) rfl (fun ls hl => ?_)
        refine lv_goto (tgt := 5) hx hb dJ7_fill_53178_17 (by decide) ?_
        have hi : (nI i1).toNatClampNeg = i1 := by
          have : (nI i1).toNatClampNeg = (nI i1).toInt.toNat := rfl
          rw [this, ti1]; exact Int.toNat_natCast i1
        refine ih1 (i1 + 1) (by omega) (by omega) _ _ _ w ?_ (fun b hb => (va_up_ne _ _ hb).trans (hk b hb)) ls (lv_sub hl [1, 0, 2, 3] rfl)
        rw [va_up_self, hi]
        refine congrArg (fun g => (.inl (K 0, 64, .inl g) : va_E)) (funext fun j => ?_)
        by_cases q : j = i1
        · subst q
          rw [pk_us, if_pos (by omega)]
        · rw [pk_un q]
          by_cases q2 : j < i1
          · rw [if_pos q2, if_pos (by omega)]
          · rw [if_neg q2, if_neg (by omega)]
  exact loop1 65 0 (by decide) (by decide) _ _ _ w (by rw [hf_ar]; exact congrArg (fun g => (.inl (K 0, 64, .inl g) : va_E)) (funext fun j => (if_neg (Nat.not_lt_zero j)).symm)) (fun b _ => rfl) ls hl
