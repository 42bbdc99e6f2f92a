/-! kinds of tokens: what stands at a place of a text -/
theorem zk_and {A : Type} {x : Option (A × fS)} {Q Q2 : A → fS → Prop} (h : zk x Q) (h2 : zk x Q2) : zk x (fun v T => Q v T ∧ Q2 v T) := by
  obtain ⟨v, T, e, q⟩ := h
  obtain ⟨v2, T2, e2, q2⟩ := h2
  rw [e] at e2
  have e3 := Option.some.inj e2
  have e4 : v = v2 := congrArg Prod.fst e3
  have e5 : T = T2 := congrArg Prod.snd e3
  rw [← e4, ← e5] at q2
  exact ⟨v, T, e, q, q2⟩
/-- only what W names is written -/
def FX (W : Nat → Nat → Nat → Bool) (S T : fS) : Prop := (∀ a i j : Nat, W a i j = false → ge T a i j = ge S a i j) ∧ T.2 = S.2
section FXS
variable {W W1 : Nat → Nat → Nat → Bool} {S T U : fS} {a i j : Nat} {v : Int32}
theorem FX.rf : FX W S S := ⟨fun _ _ _ _ => rfl, rfl⟩
theorem FX.tr (h : FX W S T) (h2 : FX W T U) : FX W S U := ⟨fun a i j q => (h2.1 a i j q).trans (h.1 a i j q), h2.2.trans h.2⟩
theorem FX.wr (h : FX W S T) (hw : W a i j = true) : FX W S (pu T a i j v) := by
  refine ⟨fun a' i' j' q => ?_, h.2⟩
  rw [ge_pu, if_neg (fun e => by rw [e.1, e.2.1, e.2.2, hw] at q; cases q)]
  exact h.1 a' i' j' q
theorem FX.sub (h : FX W1 S T) (hs : ∀ a i j : Nat, W a i j = false → W1 a i j = false) : FX W S T := ⟨fun a i j q => h.1 a i j (hs a i j q), h.2⟩
end FXS
def wr : List Int → Int
  | [] => 0
  | x :: r => 27 * wr r + x
theorem wr_nn : ∀ l : List Int, (∀ x ∈ l, 1 ≤ x ∧ x ≤ 26) → 0 ≤ wr l
  | [], _ => Int.le_refl _
  | x :: r, h => by
    have a := wr_nn r (fun y hy => h y (List.mem_cons_of_mem _ hy))
    have c := h x (List.mem_cons_self ..)
    show 0 ≤ 27 * wr r + x
    omega
theorem wv_wr {b : Nat → Int} {q : Nat} : ∀ (l : List Int), (∀ x ∈ l, 1 ≤ x ∧ x ≤ 26) → ∀ n : Nat, q + n ≤ rn b 97 122 q → wv b q n = wr l → n = l.length ∧ ∀ k : Nat, k < n → b (q + k) - 96 = l.getD (n - 1 - k) 0
  | [], _, 0, _, _ => ⟨rfl, fun k h => absurd h (Nat.not_lt_zero _)⟩
  | [], _, n + 1, hn, h => by
    have a := wv_in (b := b) q n (by omega)
    have c := rn_in (b := b) (lo := 97) (hi := 122) (p := q) (i := q + n) (by omega) (by omega)
    have h : 27 * wv b q n + (b (q + n) - 96) = 0 := h
    omega
  | x :: r, hl, 0, _, h => by
    have a := wr_nn r (fun y hy => hl y (List.mem_cons_of_mem _ hy))
    have c := hl x (List.mem_cons_self ..)
    have h : 0 = 27 * wr r + x := h
    omega
  | x :: r, hl, n + 1, hn, h => by
    have a := rn_in (b := b) (lo := 97) (hi := 122) (p := q) (i := q + n) (by omega) (by omega)
    have c := hl x (List.mem_cons_self ..)
    have h : 27 * wv b q n + (b (q + n) - 96) = 27 * wr r + x := h
    have e1 : b (q + n) - 96 = x := by omega
    have e2 : wv b q n = wr r := by omega
    obtain ⟨i1, i2⟩ := wv_wr r (fun y hy => hl y (List.mem_cons_of_mem _ hy)) n (by omega) e2
    refine ⟨by rw [List.length_cons, i1], fun k hk => ?_⟩
    by_cases d : k = n
    · subst d
      rw [show k + 1 - 1 - k = 0 from by omega]
      exact e1
    · rw [i2 k (by omega), show n + 1 - 1 - k = (n - 1 - k) + 1 from by omega]
      rfl
theorem wr_wv {b : Nat → Int} {q : Nat} : ∀ (l : List Int), (∀ k : Nat, k < l.length → b (q + k) - 96 = l.getD (l.length - 1 - k) 0) → wv b q l.length = wr l
  | [], _ => rfl
  | x :: r, h => by
    have a := h r.length (by rw [List.length_cons]; omega)
    rw [List.length_cons, show r.length + 1 - 1 - r.length = 0 from by omega] at a
    have a : b (q + r.length) - 96 = x := a
    have c := wr_wv (b := b) (q := q) r (fun k hk => by
      have z := h k (by rw [List.length_cons]; omega)
      rw [List.length_cons, show r.length + 1 - 1 - k = (r.length - 1 - k) + 1 from by omega] at z
      exact z)
    show 27 * wv b q r.length + (b (q + r.length) - 96) = 27 * wr r + x
    omega
theorem wc_wr {b : Nat → Int} {q : Nat} {l : List Int} (hl : ∀ x ∈ l, 1 ≤ x ∧ x ≤ 26) (h5 : l.length ≤ 5) : wc b q = wr l ↔ (rn b 97 122 q - q = l.length ∧ ∀ k : Nat, k < l.length → b (q + k) - 96 = l.getD (l.length - 1 - k) 0) := by
  have hrl := rn_le (b := b) (lo := 97) (hi := 122) q
  constructor
  · intro h
    unfold wc at h
    by_cases c : rn b 97 122 q - q ≤ 5
    · rw [if_pos c] at h
      obtain ⟨i1, i2⟩ := wv_wr l hl (rn b 97 122 q - q) (by omega) h
      rw [i1] at i2
      exact ⟨i1, i2⟩
    · rw [if_neg c] at h
      have := wr_nn l hl
      omega
  · rintro ⟨h1, h2⟩
    unfold wc
    rw [if_pos (by omega), h1]
    exact wr_wv l h2
/-- the sixteen words, the last letter first, and their numbers -/
def rlL : List (List Int) := [[16, 9, 18, 7], [16, 9, 12, 19], [19, 20, 15, 12], [6, 9], [18, 15], [4, 14, 1], [20, 15, 14], [20, 19, 1, 5, 12], [20, 19, 15, 13], [19, 5, 9, 18, 20], [5, 3, 14, 9, 19], [19, 14, 9, 15, 3], [4, 9, 1, 16], [18, 21, 15, 8], [20, 15, 12], [14, 1, 3]]
def cdL : List Int := [151162, 382984, 247690, 249, 423, 1111, 10631, 6476969, 267347, 10989829, 10284818, 1896526, 315904, 168984, 9173, 2228]
def cd (r : Nat) : Int := cdL.getD r 0
theorem rl_ok : ∀ r : Nat, r < 16 → (∀ x ∈ rlL.getD r [], 1 ≤ x ∧ x ≤ 26) ∧ (rlL.getD r []).length ≤ 5 ∧ (rlL.getD r []).length = rsN.getD r 0 ∧ wr (rlL.getD r []) = cd r ∧ ∀ k : Nat, k < rsN.getD r 0 → ((rsB.getD r []).getD k 0).toInt - 96 = (rlL.getD r []).getD (rsN.getD r 0 - 1 - k) 0 := by decide
theorem wc_cd {b : Nat → Int} {q r : Nat} (hr : r < 16) : wc b q = cd r ↔ (rn b 97 122 q - q = rsN.getD r 0 ∧ ∀ k : Nat, k < rsN.getD r 0 → b (q + k) = ((rsB.getD r []).getD k 0).toInt) := by
  obtain ⟨h1, h2, h3, h4, h5⟩ := rl_ok r hr
  rw [← h4, wc_wr h1 h2, h3]
  constructor
  · rintro ⟨a, c⟩
    refine ⟨a, fun k hk => ?_⟩
    have x := c k hk
    have y := h5 k hk
    omega
  · rintro ⟨a, c⟩
    refine ⟨a, fun k hk => ?_⟩
    have x := c k hk
    have y := h5 k hk
    omega
/-- the kind of a word by its number -/
def wkd (c : Int) : Int := if c = 151162 then 260 else if c = 382984 then 261 else if c = 247690 then 262 else if c = 249 then 263 else if c = 423 then 264 else if c = 1111 then 265 else if c = 10631 then 266 else if c = 6476969 then 267 else if c = 267347 then 268 else if c = 10989829 then 270 else if c = 10284818 then 271 else if c = 1896526 then 272 else if c = 315904 then 273 else if c = 168984 then 274 else if c = 9173 then 275 else if c = 2228 then 276 else 258
def isdg (b : Nat → Int) (q : Nat) : Prop := 48 ≤ b q ∧ b q ≤ 57
def islt (b : Nat → Int) (q : Nat) : Prop := 97 ≤ b q ∧ b q ≤ 122
noncomputable def kd (b : Nat → Int) (q : Nat) : Int := if 48 ≤ b q ∧ b q ≤ 57 then 257 else if 97 ≤ b q ∧ b q ≤ 122 then wkd (wc b q) else if b q = -1 then 256 else b q
/-- where a token ends -/
noncomputable def te (b : Nat → Int) (q : Nat) : Nat := if 48 ≤ b q ∧ b q ≤ 57 then rn b 48 57 q else if 97 ≤ b q ∧ b q ≤ 122 then rn b 97 122 q else if b q = -1 then q else q + 1
def c1k (v : Int) : Int := if v ≤ 1000 then v else 1000
noncomputable def nb (b : Nat → Int) (q : Nat) : Int := if 48 ≤ b q ∧ b q ≤ 57 then c1k (nuv b q (rn b 48 57 q - q)) else 0
/-- where the tokens stand -/
noncomputable def tpos (b : Nat → Int) : Nat → Nat
  | 0 => sk b 0
  | k + 1 => sk b (te b (tpos b k))
section KDS
variable {b : Nat → Int} {p q : Nat}
theorem rn_gt {lo hi : Int} (h : TXT b) (hl : 0 ≤ lo) (hq : lo ≤ b q ∧ b q ≤ hi) : q < rn b lo hi q := by
  have h1 := rn_le (b := b) (lo := lo) (hi := hi) q
  by_cases c : q = rn b lo hi q
  · have := rn_ne h hl (lo := lo) (hi := hi) q
    rw [← c] at this
    exact absurd hq this
  · omega
theorem rn_no {lo hi : Int} (h : TXT b) (hl : 0 ≤ lo) (hq : ¬ (lo ≤ b q ∧ b q ≤ hi)) : rn b lo hi q = q := rn_un h hl (Nat.le_refl _) (fun i h1 h2 => by omega) hq
theorem te_le (h : TXT b) : q ≤ te b q := by
  unfold te
  by_cases c : 48 ≤ b q ∧ b q ≤ 57
  · rw [if_pos c]; exact rn_le q
  · rw [if_neg c]
    by_cases c2 : 97 ≤ b q ∧ b q ≤ 122
    · rw [if_pos c2]; exact rn_le q
    · rw [if_neg c2]
      by_cases c3 : b q = -1
      · rw [if_pos c3]; exact Nat.le_refl _
      · rw [if_neg c3]; omega
theorem te_lt (h : TXT b) (hq : ¬ b q = -1) : q < te b q := by
  unfold te
  by_cases c : 48 ≤ b q ∧ b q ≤ 57
  · rw [if_pos c]; exact rn_gt h (by decide) c
  · rw [if_neg c]
    by_cases c2 : 97 ≤ b q ∧ b q ≤ 122
    · rw [if_pos c2]; exact rn_gt h (by decide) c2
    · rw [if_neg c2, if_neg hq]; omega
theorem te_dg (c : 48 ≤ b q ∧ b q ≤ 57) : te b q = rn b 48 57 q := by unfold te; rw [if_pos c]
theorem te_lt2 (c : 97 ≤ b q ∧ b q ≤ 122) : te b q = rn b 97 122 q := by unfold te; rw [if_neg (by omega), if_pos c]
theorem te_sg (c : ¬ (48 ≤ b q ∧ b q ≤ 57)) (c2 : ¬ (97 ≤ b q ∧ b q ≤ 122)) (c3 : ¬ b q = -1) : te b q = q + 1 := by unfold te; rw [if_neg c, if_neg c2, if_neg c3]
theorem kd_dg (c : 48 ≤ b q ∧ b q ≤ 57) : kd b q = 257 := by unfold kd; rw [if_pos c]
theorem kd_lt (c : 97 ≤ b q ∧ b q ≤ 122) : kd b q = wkd (wc b q) := by unfold kd; rw [if_neg (by omega), if_pos c]
theorem kd_sg (c : ¬ (48 ≤ b q ∧ b q ≤ 57)) (c2 : ¬ (97 ≤ b q ∧ b q ≤ 122)) (c3 : ¬ b q = -1) : kd b q = b q := by unfold kd; rw [if_neg c, if_neg c2, if_neg c3]
theorem kd_end (c : b q = -1) : kd b q = 256 := by unfold kd; rw [if_neg (by omega), if_neg (by omega), if_pos c]
theorem wkd_bd (c : Int) : 258 ≤ wkd c ∧ wkd c ≤ 276 := by
  unfold wkd
  omega
/-- what a kind says of the bytes -/
theorem kd_257 (hb : b q ≤ 255) : kd b q = 257 ↔ (48 ≤ b q ∧ b q ≤ 57) := by
  unfold kd
  have := wkd_bd (wc b q)
  omega
theorem kd_256 (hb : b q ≤ 255) : kd b q = 256 ↔ b q = -1 := by
  unfold kd
  have := wkd_bd (wc b q)
  omega
/-- a sign's kind is its byte -/
theorem kd_sign {c : Int} (hb : b q ≤ 255) (h0 : 0 ≤ c) (h1 : ¬ (48 ≤ c ∧ c ≤ 57)) (h2 : ¬ (97 ≤ c ∧ c ≤ 122)) (h3 : c ≤ 255) : kd b q = c ↔ b q = c := by
  unfold kd
  have := wkd_bd (wc b q)
  omega
theorem wc_no (h : TXT b) (c : ¬ (97 ≤ b q ∧ b q ≤ 122)) : wc b q = 0 := by
  unfold wc
  rw [rn_no h (by decide) c, Nat.sub_self]
  rfl
/-- a word's kind is its number's -/
theorem kd_word {c : Int} (h : TXT b) (hb : b q ≤ 255) (h1 : 259 ≤ c) : kd b q = c ↔ wkd (wc b q) = c := by
  by_cases c1 : 97 ≤ b q ∧ b q ≤ 122
  · rw [kd_lt c1]
  · rw [wc_no h c1]
    have e : wkd 0 = 258 := by decide
    rw [e]
    unfold kd
    rw [if_neg c1]
    repeat' split
    all_goals omega
end KDS
