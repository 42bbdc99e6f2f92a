/-! texts: what stands at a place, where blanks, digits, letters end. A text is a function b of the place, -1 past its end -/
def TXT (b : Nat → Int) : Prop := ∀ i : Nat, 300 ≤ i → b i = -1
def skp (b : Nat → Int) : Nat → Nat → Nat
  | 0, p => p
  | f + 1, p => if b p = 32 then skp b f (p + 1) else p
def run (b : Nat → Int) (lo hi : Int) : Nat → Nat → Nat
  | 0, p => p
  | f + 1, p => if lo ≤ b p ∧ b p ≤ hi then run b lo hi f (p + 1) else p
/-- the first place from p on that is no blank -/
def sk (b : Nat → Int) (p : Nat) : Nat := skp b (302 - p) p
/-- where the digits, the letters from p on end -/
def rn (b : Nat → Int) (lo hi : Int) (p : Nat) : Nat := run b lo hi (302 - p) p
section TXS
variable {b : Nat → Int} {lo hi : Int}
theorem skp_le : ∀ (f p : Nat), p ≤ skp b f p
  | 0, p => Nat.le_refl p
  | f + 1, p => by
    unfold skp
    by_cases c : b p = 32
    · rw [if_pos c]
      have := skp_le f (p + 1)
      omega
    · rw [if_neg c]
      exact Nat.le_refl p
theorem skp_spec (hb : TXT b) : ∀ (f p : Nat), 302 ≤ f + p → b (skp b f p) ≠ 32
  | 0, p, h => by
    show b p ≠ 32
    rw [hb p (by omega)]
    decide
  | f + 1, p, h => by
    unfold skp
    by_cases c : b p = 32
    · rw [if_pos c]
      exact skp_spec hb f (p + 1) (by omega)
    · rw [if_neg c]
      exact c
theorem skp_bl : ∀ (f p i : Nat), p ≤ i → i < skp b f p → b i = 32
  | 0, p, i, h1, h2 => by
    have h2 : i < p := h2
    omega
  | f + 1, p, i, h1, h2 => by
    unfold skp at h2
    by_cases c : b p = 32
    · rw [if_pos c] at h2
      by_cases e : i = p
      · rw [e]; exact c
      · exact skp_bl f (p + 1) i (by omega) h2
    · rw [if_neg c] at h2
      omega
theorem sk_le (p : Nat) : p ≤ sk b p := skp_le _ p
theorem sk_ne (hb : TXT b) (p : Nat) : b (sk b p) ≠ 32 := skp_spec hb _ p (by omega)
theorem sk_bl {p i : Nat} (h1 : p ≤ i) (h2 : i < sk b p) : b i = 32 := skp_bl _ p i h1 h2
/-- what is known of it makes it out -/
theorem sk_un (hb : TXT b) {p q : Nat} (h1 : p ≤ q) (h2 : ∀ i : Nat, p ≤ i → i < q → b i = 32) (h3 : b q ≠ 32) : sk b p = q := by
  by_cases c : sk b p < q
  · exact absurd (h2 _ (sk_le p) c) (sk_ne hb p)
  · by_cases d : q < sk b p
    · exact absurd (sk_bl h1 d) h3
    · omega
theorem sk_st (hb : TXT b) {p : Nat} (h : b p ≠ 32) : sk b p = p := sk_un hb (Nat.le_refl p) (fun i h1 h2 => by omega) h
theorem sk_sk (hb : TXT b) (p : Nat) : sk b (sk b p) = sk b p := sk_st hb (sk_ne hb p)
theorem sk_up (hb : TXT b) {p : Nat} (h : b p = 32) : sk b (p + 1) = sk b p := by
  have h1 := sk_le (b := b) p
  have h2 : sk b p ≠ p := fun e => sk_ne hb p (by rw [e]; exact h)
  exact sk_un hb (by omega) (fun i a c => sk_bl (by omega) c) (sk_ne hb p)
theorem sk_300 (hb : TXT b) {p : Nat} (hp : p ≤ 300) : sk b p ≤ 300 := by
  by_cases c : sk b p ≤ 300
  · exact c
  · have := sk_bl (b := b) (p := p) (i := 300) hp (by omega)
    rw [hb 300 (Nat.le_refl _)] at this
    exact absurd this (by decide)
theorem run_le : ∀ (f p : Nat), p ≤ run b lo hi f p
  | 0, p => Nat.le_refl p
  | f + 1, p => by
    unfold run
    by_cases c : lo ≤ b p ∧ b p ≤ hi
    · rw [if_pos c]
      have := run_le f (p + 1)
      omega
    · rw [if_neg c]
      exact Nat.le_refl p
theorem run_spec (hb : TXT b) (hl : 0 ≤ lo) : ∀ (f p : Nat), 302 ≤ f + p → ¬ (lo ≤ b (run b lo hi f p) ∧ b (run b lo hi f p) ≤ hi)
  | 0, p, h => by
    show ¬ (lo ≤ b p ∧ b p ≤ hi)
    rw [hb p (by omega)]
    omega
  | f + 1, p, h => by
    unfold run
    by_cases c : lo ≤ b p ∧ b p ≤ hi
    · rw [if_pos c]
      exact run_spec hb hl f (p + 1) (by omega)
    · rw [if_neg c]
      exact c
theorem run_in : ∀ (f p i : Nat), p ≤ i → i < run b lo hi f p → lo ≤ b i ∧ b i ≤ hi
  | 0, p, i, h1, h2 => by
    have h2 : i < p := h2
    omega
  | f + 1, p, i, h1, h2 => by
    unfold run at h2
    by_cases c : lo ≤ b p ∧ b p ≤ hi
    · rw [if_pos c] at h2
      by_cases e : i = p
      · rw [e]; exact c
      · exact run_in f (p + 1) i (by omega) h2
    · rw [if_neg c] at h2
      omega
theorem rn_le (p : Nat) : p ≤ rn b lo hi p := run_le _ p
theorem rn_ne (hb : TXT b) (hl : 0 ≤ lo) (p : Nat) : ¬ (lo ≤ b (rn b lo hi p) ∧ b (rn b lo hi p) ≤ hi) := run_spec hb hl _ p (by omega)
theorem rn_in {p i : Nat} (h1 : p ≤ i) (h2 : i < rn b lo hi p) : lo ≤ b i ∧ b i ≤ hi := run_in _ p i h1 h2
theorem rn_un (hb : TXT b) (hl : 0 ≤ lo) {p q : Nat} (h1 : p ≤ q) (h2 : ∀ i : Nat, p ≤ i → i < q → lo ≤ b i ∧ b i ≤ hi) (h3 : ¬ (lo ≤ b q ∧ b q ≤ hi)) : rn b lo hi p = q := by
  by_cases c : rn b lo hi p < q
  · exact absurd (h2 _ (rn_le p) c) (rn_ne hb hl p)
  · by_cases d : q < rn b lo hi p
    · exact absurd (rn_in h1 d) h3
    · omega
theorem rn_300 (hb : TXT b) (hl : 0 ≤ lo) {p : Nat} (hp : p ≤ 300) : rn b lo hi p ≤ 300 := by
  by_cases c : rn b lo hi p ≤ 300
  · exact c
  · have := rn_in (b := b) (lo := lo) (hi := hi) (p := p) (i := 300) hp (by omega)
    rw [hb 300 (Nat.le_refl _)] at this
    omega
theorem rn_up {p : Nat} (hb : TXT b) (hl : 0 ≤ lo) (h : lo ≤ b p ∧ b p ≤ hi) : rn b lo hi (p + 1) = rn b lo hi p := by
  have h1 := rn_le (b := b) (lo := lo) (hi := hi) p
  have h2 : rn b lo hi p ≠ p := fun e => rn_ne hb hl p (by rw [e]; exact h)
  exact rn_un hb hl (by omega) (fun i a c => rn_in (by omega) c) (rn_ne hb hl p)
end TXS
/-! a number: its value, and what each side makes of a great one -/
def nuv (b : Nat → Int) (p : Nat) : Nat → Int
  | 0 => 0
  | k + 1 => 10 * nuv b p k + (b (p + k) - 48)
/-! a word: the letters from p to q, as a number to the base 27 -/
def wv (b : Nat → Int) (p : Nat) : Nat → Int
  | 0 => 0
  | k + 1 => 27 * wv b p k + (b (p + k) - 96)
/-- the text from p on spells w, and no letter follows -/
def spl (b : Nat → Int) (p : Nat) (w : List Int) : Prop := rn b 97 122 p = p + w.length ∧ ∀ k : Nat, k < w.length → b (p + k) = w.getD k 0
section WVS
variable {b : Nat → Int} {p : Nat}
theorem wv_bd (hl : ∀ k : Nat, k < 5 → p + k < rn b 97 122 p → 97 ≤ b (p + k) ∧ b (p + k) ≤ 122) : ∀ k : Nat, k ≤ 5 → p + k ≤ rn b 97 122 p → 0 ≤ wv b p k
  | 0, _, _ => Int.le_refl _
  | k + 1, h, h2 => by
    have a := wv_bd hl k (by omega) (by omega)
    have c := hl k (by omega) (by omega)
    show 0 ≤ 27 * wv b p k + (b (p + k) - 96)
    omega
end WVS
