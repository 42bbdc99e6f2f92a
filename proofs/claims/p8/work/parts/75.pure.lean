/-! the pure part: what the functions do to the flat memory, no machine in it. zk: it ends with an answer and a memory of which Q holds -/
def zk {A : Type} (x : Option (A × fS)) (Q : A → fS → Prop) : Prop := ∃ (v : A) (S : fS), x = some (v, S) ∧ Q v S
section ZK
variable {A B : Type} {Q : A → fS → Prop}
theorem zk_some {v : A} {S : fS} (h : Q v S) : zk (some (v, S)) Q := ⟨v, S, rfl, h⟩
theorem zk_imp {x : Option (A × fS)} {Q' : A → fS → Prop} (h : zk x Q') (hi : ∀ (v : A) (S : fS), Q' v S → Q v S) : zk x Q := by
  obtain ⟨v, S, e, q⟩ := h
  exact ⟨v, S, e, hi v S q⟩
theorem zk_iv {v : Int32} {k : Int32 → Option (A × fS)} (h : ∀ x : Int32, x = v → zk (k x) Q) : zk (iv v k) Q := h v rfl
theorem zk_ivq {v x : Int32} {k : Int32 → Option (A × fS)} (e : v = x) (h : zk (k x) Q) : zk (iv v k) Q := by
  subst e
  exact h
theorem zk_sv {S : fS} {k : fS → Option (A × fS)} (h : ∀ x : fS, x = S → zk (k x) Q) : zk (sv S k) Q := h S rfl
theorem zk_qv {v : Option Nat} {k : Option Nat → Option (A × fS)} (h : ∀ x : Option Nat, x = v → zk (k x) Q) : zk (qv v k) Q := h v rfl
theorem zk_nv {v : Nat} {k : Nat → Option (A × fS)} (h : ∀ x : Nat, x = v → zk (k x) Q) : zk (nv v k) Q := h v rfl
theorem zk_gd {c : Prop} {ins : Decidable c} {k : Option (A × fS)} (hc : c) (h : zk k Q) : zk (@gd (A × fS) c ins k) Q := by
  unfold gd
  rw [if_pos hc]
  exact h
theorem zk_gdc {c : Prop} {k : Option (A × fS)} (hc : c) (h : zk k Q) : zk (gdc c k) Q := by
  unfold gdc
  exact zk_gd hc h
theorem zk_bb {c : Prop} {ins : Decidable c} {x y : Option (A × fS)} (h1 : c → zk x Q) (h2 : ¬ c → zk y Q) : zk (@bb (A × fS) c ins x y) Q := by
  unfold bb
  by_cases q : c
  · rw [if_pos q]
    exact h1 q
  · rw [if_neg q]
    exact h2 q
theorem zk_bbt {c : Prop} {ins : Decidable c} {x y : Option (A × fS)} (hc : c) (h : zk x Q) : zk (@bb (A × fS) c ins x y) Q := zk_bb (fun _ => h) (fun q => absurd hc q)
theorem zk_bbf {c : Prop} {ins : Decidable c} {x y : Option (A × fS)} (hc : ¬ c) (h : zk y Q) : zk (@bb (A × fS) c ins x y) Q := zk_bb (fun q => absurd q hc) (fun _ => h)
theorem zk_lt {a b : Int32} {ins : Decidable (a < b)} {x y : Option (A × fS)} (h1 : a.toInt < b.toInt → zk x Q) (h2 : b.toInt ≤ a.toInt → zk y Q) : zk (@bb (A × fS) (a < b) ins x y) Q := zk_bb (fun q => h1 (lt_toInt q)) (fun q => h2 (nlt_toInt q))
theorem zk_le {a b : Int32} {ins : Decidable (a ≤ b)} {x y : Option (A × fS)} (h1 : a.toInt ≤ b.toInt → zk x Q) (h2 : b.toInt < a.toInt → zk y Q) : zk (@bb (A × fS) (a ≤ b) ins x y) Q := zk_bb (fun q => h1 (le_toInt q)) (fun q => h2 (nle_toInt q))
theorem zk_eq {a b : Int32} {ins : Decidable (a = b)} {x y : Option (A × fS)} (h1 : a.toInt = b.toInt → zk x Q) (h2 : ¬ a.toInt = b.toInt → zk y Q) : zk (@bb (A × fS) (a = b) ins x y) Q := zk_bb (fun q => h1 (eq_toInt q)) (fun q => h2 (ne_toInt q))
theorem zk_bd {x : Option (B × fS)} {k : B → fS → Option (A × fS)} {Q1 : B → fS → Prop} (h : zk x Q1) (hk : ∀ (v : B) (S : fS), Q1 v S → zk (k v S) Q) : zk (bd x k) Q := by
  obtain ⟨v, S, e, q⟩ := h
  rw [e]
  exact hk v S q
theorem zk_bx {x : Option ((Nat × Int32) × fS)} {k : Int32 → fS → Option ((Nat × Int32) × fS)} {Q : Nat × Int32 → fS → Prop} {Q1 : Nat × Int32 → fS → Prop} (h : zk x Q1) (h0 : ∀ (v : Int32) (S : fS), Q1 (0, v) S → zk (k v S) Q) (h1 : ∀ (e : Nat) (v : Int32) (S : fS), Q1 (e + 1, v) S → Q (e + 1, v) S) : zk (bx x k) Q := by
  obtain ⟨⟨e, v⟩, S, he, q⟩ := h
  rw [he]
  match e, q with
  | 0, q => exact h0 v S q
  | e + 1, q => exact ⟨(e + 1, v), S, rfl, h1 e v S q⟩
theorem zk_oc {o : Option Nat} {x : Option (A × fS)} {k : Nat → Option (A × fS)} (h0 : o = none → zk x Q) (h1 : ∀ t : Nat, o = some t → zk (k t) Q) : zk (oc o x k) Q := by
  match o, h0, h1 with
  | none, h0, _ => exact h0 rfl
  | some t, _, h1 => exact h1 t rfl
end ZK
theorem zk_lpn {A Z : Type} {body : (Z → fS → Option (A × fS)) → Z → fS → Option (A × fS)} (I : Z → fS → Prop) (mu : Z → fS → Nat) (Q : Z → fS → A → fS → Prop) (hb : ∀ (k : Z → fS → Option (A × fS)) (z : Z) (S : fS), I z S → (∀ (z' : Z) (S' : fS), I z' S' → mu z' S' < mu z S → zk (k z' S') (Q z' S')) → zk (body k z S) (Q z S)) : ∀ (n : Nat) (z : Z) (S : fS), I z S → mu z S < n → zk (lp body n z S) (Q z S)
  | 0, _, _, _, h => absurd h (Nat.not_lt_zero _)
  | n + 1, z, S, hi, hm => hb (lp body n) z S hi (fun z' S' hi' hm' => zk_lpn I mu Q hb n z' S' hi' (by omega))
theorem zk_lp {A Z : Type} {body : (Z → fS → Option (A × fS)) → Z → fS → Option (A × fS)} (I : Z → fS → Prop) (mu : Z → fS → Nat) (Q : Z → fS → A → fS → Prop) (hb : ∀ (k : Z → fS → Option (A × fS)) (z : Z) (S : fS), I z S → (∀ (z' : Z) (S' : fS), I z' S' → mu z' S' < mu z S → zk (k z' S') (Q z' S')) → zk (body k z S) (Q z S)) (z : Z) (S : fS) (hi : I z S) (hm : mu z S < 4294967296) : zk (lp body fuel z S) (Q z S) := zk_lpn I mu Q hb fuel z S hi (Nat.lt_of_lt_of_le hm fuel_ge)
/-! the ranges of the cells -/
def rgF : Int × Int := (-2147483648, 2147483647)
def rg (a j : Nat) : Int × Int := if a = 0 then (if j = 3 then (0, 3) else if j = 5 then (0, 6) else if j = 7 then (0, 3) else if j = 9 then (0, 6) else if j = 11 then (0, 300) else rgF) else if a = 1 then (if j = 12 then (0, 200) else rgF) else if a = 2 then (if j = 0 then (0, 24) else rgF) else if a = 17 then (if j = 3 then (0, 300) else if j = 5 then (0, 300) else if j = 7 then (0, 300) else if j = 8 then (0, 6) else rgF) else if a = 22 then (if j = 1 then (0, 300) else rgF) else if a = 25 then (if j = 16 then (0, 5) else rgF) else if a = 40 then (if j = 1 then (0, 300) else if j = 2 then (0, 300) else if j = 4 then (0, 301) else if j = 5 then (0, 7) else if j = 8 then (-1, 8) else if j = 13 then (0, 6) else if j = 14 then (0, 3) else if j = 15 then (-1, 5) else if j = 16 then (0, 1) else if j = 21 then (0, 24) else if j = 30 then (0, 63) else if j = 40 then (0, 5) else if j = 46 then (0, 200) else if j = 48 then (0, 6) else if j = 56 then (0, 3) else rgF) else if a = 41 then (0, 255) else if a = 43 then (0, 255) else if a = 44 then (0, 300) else if a = 49 then (0, 63) else if a = 50 then (-2, 63) else if a = 51 then (0, 1) else if a = 53 then (0, 23) else if a = 54 then (0, 24) else if a = 55 then (0, 23) else if a = 59 then (0, 7) else if a = 61 then (0, 23) else if a = 63 then (0, 24) else if a = 65 then (-2, 63) else if a = 67 then (if j = 4 then (0, 63) else if j = 10 then (-1, 5) else rgF) else rgF
def RI (S : fS) : Prop := ∀ a i j : Nat, (rg a j).1 ≤ (ge S a i j).toInt ∧ (ge S a i j).toInt ≤ (rg a j).2
section RS
variable {S S' S0 S1 S2 : fS} {a i j a' i' j' m m1 : Nat} {v : Int32}
theorem RI.wr (h : RI S) (h1 : (rg a j).1 ≤ v.toInt) (h2 : v.toInt ≤ (rg a j).2) : RI (pu S a i j v) := by
  intro a' i' j'
  rw [ge_pu]
  by_cases q : a' = a ∧ i' = i ∧ j' = j
  · rw [if_pos q, q.1, q.2.2]
    exact ⟨h1, h2⟩
  · rw [if_neg q]
    exact h a' i' j'
theorem RI.wf (h : RI S) (hr : rg a j = rgF) : RI (pu S a i j v) := h.wr (by rw [hr]; exact (ti_bd v).1) (by rw [hr]; exact (ti_bd v).2)
theorem RI.wb {n r0 r1 : Nat} (h : RI S) : RI (pb S a r0 (fun j => if j < n then ge S a r1 j else ge S a r0 j)) := by
  intro a' i' j'
  rw [ge_pb]
  by_cases q : a' = a ∧ i' = r0
  · rw [if_pos q, q.1]
    show (rg a j').1 ≤ (if j' < n then ge S a r1 j' else ge S a r0 j').toInt ∧ (if j' < n then ge S a r1 j' else ge S a r0 j').toInt ≤ (rg a j').2
    by_cases c : j' < n
    · rw [if_pos c]
      exact h a r1 j'
    · rw [if_neg c]
      exact h a r0 j'
  · rw [if_neg q]
    exact h a' i' j'
theorem ge_pua (h : a' ≠ a) : ge (pu S a i j v) a' i' j' = ge S a' i' j' := by rw [ge_pu, if_neg (fun q => h q.1)]
theorem ge_puj (h : j' ≠ j) : ge (pu S a i j v) a' i' j' = ge S a' i' j' := by rw [ge_pu, if_neg (fun q => h q.2.2)]
theorem ge_pui (h : i' ≠ i) : ge (pu S a i j v) a' i' j' = ge S a' i' j' := by rw [ge_pu, if_neg (fun q => h q.2.1)]
theorem ge_pus : ge (pu S a i j v) a i j = v := by rw [ge_pu, if_pos ⟨rfl, rfl, rfl⟩]
end RS
/-! the regions of the memory, and what a function leaves alone (bit 31: refs, counts and lengths) -/
def rgn (a j : Nat) : Nat := if a = 17 then (if j = 8 then 12 else (if a < 40 then 0 else 16)) else if a = 0 then (if j = 11 then 1 else if j = 9 then 2 else if j = 3 then 3 else if j = 5 then 6 else if j = 7 then 6 else (if a < 40 then 0 else 16)) else if a = 15 then 2 else if a = 1 then (if j = 12 then 5 else if j = 2 then 4 else if j = 3 then 4 else if j = 4 then 4 else if j = 5 then 7 else if j = 6 then 8 else if j = 1 then 9 else 10) else if a = 25 then 11 else if a = 26 then 11 else if a = 40 then (if j = 1 then 17 else if j = 48 then 18 else if j = 56 then 19 else if j = 31 then 20 else if j = 32 then 20 else if j = 33 then 20 else if j = 46 then 21 else if j = 13 then 22 else if j = 14 then 22 else if j = 34 then 23 else if j = 21 then 26 else if j = 2 then 25 else if j = 8 then 25 else if j = 15 then 27 else if j = 30 then 28 else if j = 4 then 29 else if j = 5 then 32 else if j = 6 then 33 else if j = 40 then 34 else (if a < 40 then 0 else 16)) else if a = 59 then 18 else if a = 41 then 25 else if a = 43 then 25 else if a = 44 then 25 else if a = 55 then 34 else if a = 50 then 24 else if a = 53 then 24 else if a = 54 then 24 else if a = 61 then 30 else if a = 63 then 30 else if a = 65 then 30 else if a = 67 then 35 else if a = 69 then 35 else (if a < 40 then 0 else 16)
def Fr (m : Nat) (S S' : fS) : Prop := (∀ a i j : Nat, m.testBit (rgn a j) = false → ge S' a i j = ge S a i j) ∧ (m.testBit 31 = false → S'.2 = S.2)
section FS
variable {S S' S0 S1 S2 : fS} {a i j a' i' j' m m1 : Nat} {v : Int32}
theorem Fr.rf : Fr m S S := ⟨fun _ _ _ _ => rfl, fun _ => rfl⟩
theorem Fr.tr (h : Fr m S S1) (h2 : Fr m S1 S2) : Fr m S S2 := ⟨fun a i j q => (h2.1 a i j q).trans (h.1 a i j q), fun q => (h2.2 q).trans (h.2 q)⟩
theorem Fr.wr {k : Nat} (h : Fr m S0 S) (hk : rgn a j = k) (hm : m.testBit k = true) : Fr m S0 (pu S a i j v) := by
  subst hk
  refine ⟨fun a' i' j' q => ?_, fun q => h.2 q⟩
  rw [ge_pu, if_neg (fun e => by rw [e.1, e.2.2, hm] at q; cases q)]
  exact h.1 a' i' j' q
theorem Fr.wb {k r0 : Nat} {g : Nat → Int32} (h : Fr m S0 S) (hk : ∀ j : Nat, rgn a j = k) (hm : m.testBit k = true) : Fr m S0 (pb S a r0 g) := by
  refine ⟨fun a' i' j' q => ?_, fun q => h.2 q⟩
  rw [ge_pb, if_neg (fun e => by rw [e.1, hk, hm] at q; cases q)]
  exact h.1 a' i' j' q
theorem Fr.sub (h : Fr m1 S S1) (hs : m1 ||| m = m) : Fr m S S1 := by
  have hk : ∀ k : Nat, m.testBit k = false → m1.testBit k = false := by
    intro k q
    rw [← hs, Nat.testBit_or] at q
    cases e : m1.testBit k
    · rfl
    · rw [e] at q; cases q
  exact ⟨fun a i j q => h.1 a i j (hk _ q), fun q => h.2 (hk _ q)⟩
end FS
/-! arithmetic of the counts -/
theorem ti_inc {a : Int32} (h : a.toInt + 1 ≤ 2147483647) : (a + Int32.ofInt 1).toInt = a.toInt + 1 := by
  have h1 : (Int32.ofInt 1).toInt = 1 := rfl
  have h2 := ti_bd a
  rw [ti_add (by omega) (by omega), h1]
theorem cn_eq {x : Int32} (h : 0 ≤ x.toInt) : ((x.toNatClampNeg : Nat) : Int) = x.toInt := by
  have e : x.toNatClampNeg = x.toInt.toNat := rfl
  rw [e]
  omega
theorem ti_mul {a b : Int32} (h1 : -2147483648 ≤ a.toInt * b.toInt) (h2 : a.toInt * b.toInt ≤ 2147483647) : (a * b).toInt = a.toInt * b.toInt := by
  rw [Int32.toInt_mul]
  exact Int.bmod_eq_of_le (by omega) (by omega)
theorem ti_dv {a b : Int32} (ha : 0 ≤ a.toInt) (hb : 0 < b.toInt) : (a / b).toInt = a.toInt / b.toInt := by
  have h1 := ti_bd a
  have h3 : a.toInt / b.toInt ≤ a.toInt := Int.ediv_le_self _ ha
  have h4 : 0 ≤ a.toInt / b.toInt := Int.ediv_nonneg ha (by omega)
  rw [Int32.toInt_div, Int.tdiv_eq_ediv_of_nonneg ha]
  exact Int.bmod_eq_of_le (by omega) (by omega)
theorem ti_modv {a b : Int32} (ha : 0 ≤ a.toInt) (hb : 0 < b.toInt) : 0 ≤ (a - a / b * b).toInt ∧ (a - a / b * b).toInt < b.toInt := by
  have h1 := ti_bd a
  have h2 := ti_dv ha hb
  have h4 : 0 ≤ a.toInt / b.toInt * b.toInt := Int.mul_nonneg (Int.ediv_nonneg ha (by omega)) (by omega)
  have h5 : a.toInt / b.toInt * b.toInt ≤ a.toInt := Int.ediv_mul_le _ (by omega)
  have h6 : (a / b * b).toInt = a.toInt / b.toInt * b.toInt := by rw [ti_mul (by rw [h2]; omega) (by rw [h2]; omega), h2]
  have h7 : (a - a / b * b).toInt = a.toInt - a.toInt / b.toInt * b.toInt := by rw [ti_sub (by rw [h6]; omega) (by rw [h6]; omega), h6]
  have h8 : a.toInt % b.toInt = a.toInt - a.toInt / b.toInt * b.toInt := by rw [Int.emod_def, Int.mul_comm]
  rw [h7, ← h8]
  exact ⟨Int.emod_nonneg _ (by omega), Int.emod_lt_of_pos _ hb⟩
theorem ti_div {a b : Int32} {c : Nat} (hb : b.toInt = (c : Int)) (hc : 0 < c) (ha : 0 ≤ a.toInt) {m : Int} (hm : a.toInt / (c : Int) ≤ m) : 0 ≤ (a / b).toInt ∧ (a / b).toInt ≤ m := by
  rw [ti_dv ha (by omega), hb]
  exact ⟨Int.ediv_nonneg ha (by omega), hm⟩
theorem ti_mod {a b : Int32} {c : Nat} (hb : b.toInt = (c : Int)) (hc : 0 < c) (ha : 0 ≤ a.toInt) : 0 ≤ (a - a / b * b).toInt ∧ (a - a / b * b).toInt < (c : Int) := by
  rw [← hb]
  exact ti_modv ha (by omega)
theorem zi_min {a b y : Int32} (h : y = if a < b then a else b) : y.toInt ≤ a.toInt ∧ y.toInt ≤ b.toInt ∧ (y.toInt = a.toInt ∨ y.toInt = b.toInt) := by
  by_cases q : a < b
  · rw [if_pos q] at h
    have := lt_toInt q
    subst h
    omega
  · rw [if_neg q] at h
    have := nlt_toInt q
    subst h
    omega
theorem zi_max {a b y : Int32} (h : y = if a < b then b else a) : a.toInt ≤ y.toInt ∧ b.toInt ≤ y.toInt ∧ (y.toInt = a.toInt ∨ y.toInt = b.toInt) := mm_max h
theorem z01 {v : Int32} (h : v.toInt = 0 ∨ v.toInt = 1) : v = 0 ∨ v = 1 := h.elim (fun q => Or.inl (of_toInt q)) (fun q => Or.inr (of_toInt q))
theorem zn0 {v : Int32} (h : ¬ v.toInt = 0) : ¬ v = 0 := fun q => h (eq_toInt q)
theorem ti_and {x c : Int32} {n : Nat} (hc : c.toBitVec.toNat = n) (hn : n < 2147483648) : 0 ≤ (x &&& c).toInt ∧ (x &&& c).toInt ≤ (n : Int) := by
  have h1 : (x &&& c).toBitVec.toNat ≤ n := by
    rw [Int32.toBitVec_and, BitVec.toNat_and, ← hc]
    exact Nat.and_le_right
  have h2 : (x &&& c).toInt = (x &&& c).toBitVec.toInt := rfl
  rw [h2, BitVec.toInt_eq_toNat_of_lt (by omega)]
  omega
theorem ti_and7 (x : Int32) : 0 ≤ (x &&& 7).toInt ∧ (x &&& 7).toInt ≤ 7 := ti_and (n := 7) rfl (by decide)
theorem ti_and255 (x : Int32) : 0 ≤ (x &&& 255).toInt ∧ (x &&& 255).toInt ≤ 255 := ti_and (n := 255) rfl (by decide)
theorem ti_and32767 (x : Int32) : 0 ≤ (x &&& 32767).toInt ∧ (x &&& 32767).toInt ≤ 32767 := ti_and (n := 32767) rfl (by decide)
