/-! the reference's walker: exactly where it comes to -/
def bt (S : fS) (p : Nat) : Int := if p ≤ 301 then byv S (Int32.ofNat p) else -1
def at7 (S : fS) : Nat := (ge S 40 0 4).toNatClampNeg
section BTS
variable {S T U : fS} {m : Nat}
theorem on_toInt {p : Nat} (h : p ≤ 301) : (Int32.ofNat p).toInt = (p : Int) := nI_toInt (by omega)
theorem bt_txt (R : RI S) : TXT (bt S) := by
  intro i hi
  unfold bt
  by_cases c : i ≤ 301
  · rw [if_pos c]
    have h := byv_bd R (Int32.ofNat i)
    have h2 := on_toInt c
    have h3 := R.sz
    omega
  · rw [if_neg c]
theorem bt_bd (R : RI S) (p : Nat) : -1 ≤ bt S p ∧ bt S p ≤ 255 := by
  unfold bt
  by_cases c : p ≤ 301
  · rw [if_pos c]
    have h := byv_bd R (Int32.ofNat p)
    omega
  · rw [if_neg c]
    omega
theorem bt_fr (F : Fr m S T) (hm : m.testBit 25 = false) : bt T = bt S := by
  funext p
  unfold bt
  rw [byv_fr F hm]
theorem bt_at {x : Int32} {p : Nat} (h : x.toInt = (p : Int)) (hp : p ≤ 301) : byv S x = bt S p := by
  unfold bt
  rw [if_pos hp]
  exact byv_c (by rw [on_toInt hp]; exact h)
theorem bt_lt (R : RI S) {p : Nat} (h : 0 ≤ bt S p) : (p : Int) < (ge S 40 0 2).toInt := by
  unfold bt at h
  by_cases c : p ≤ 301
  · rw [if_pos c] at h
    have h1 := byv_bd R (Int32.ofNat p)
    have h2 := on_toInt c
    omega
  · rw [if_neg c] at h
    omega
theorem bt_sz (R : RI S) {p : Nat} (h : bt S p ≠ -1) : 0 ≤ bt S p := by
  have := bt_bd R p
  omega
theorem at7_eq (R : RI S) : ((at7 S : Nat) : Int) = (ge S 40 0 4).toInt := cn_eq R.at.1
theorem at7_le (R : RI S) : at7 S ≤ 301 := by
  have h1 := at7_eq R
  have h2 := R.at
  omega
theorem at7_un (R : RI S) {p : Nat} (h : (ge S 40 0 4).toInt = (p : Int)) : at7 S = p := by
  have h1 := at7_eq R
  omega
/-! the place alone is moved, to p -/
def MV (S T : fS) (p : Nat) : Prop := RI T ∧ Fr 536870912 S T ∧ at7 T = p
theorem MV.rf (R : RI S) : MV S S (at7 S) := ⟨R, Fr.rf, rfl⟩
theorem MV.tr {p q : Nat} (h : MV S T p) (h2 : MV T U q) : MV S U q := ⟨h2.1, h.2.1.tr h2.2.1, h2.2.2⟩
theorem MV.tx {p : Nat} (h : MV S T p) : bt T = bt S := bt_fr h.2.1 rfl
theorem MV.up {x : Int32} {p : Nat} (R : RI S) (hx : x.toInt = (p : Int)) (hp : p ≤ 301) : MV S (pu S 40 0 4 x) p := by
  have R2 : RI (pu S 40 0 4 x) := R.wr (show (0 : Int) ≤ x.toInt by omega) (show x.toInt ≤ 301 by omega)
  exact ⟨R2, Fr.rf.wr (k := 29) rfl rfl, at7_un R2 (by rw [ge_pus]; exact hx)⟩
theorem e_byteAt (x : Int32) (R : RI S) {p : Nat} (h : x.toInt = (p : Int)) (hp : p ≤ 301) : zk (F_X7_byteAt x S) (fun v T => S = T ∧ v.toInt = bt S p) := zk_imp (s_F_X7_byteAt x S R (by omega)) (fun v T q => ⟨q.1, by rw [q.2]; exact bt_at h hp⟩)
theorem e_blanks (R : RI S) : zk (F_X7_blanks S) (fun _ T => MV S T (sk (bt S) (at7 S))) := by
  have l1 : (1 : Int32).toInt = 1 := by decide
  have l32 : (32 : Int32).toInt = 32 := by decide
  unfold F_X7_blanks
  refine zk_lp (fun (_ : Unit) T => RI T ∧ Fr 536870912 S T ∧ sk (bt S) (at7 T) = sk (bt S) (at7 S)) (fun (_ : Unit) T => (302 - (ge T 40 0 4).toInt).toNat) (fun _ _ (_ : Int32) T => MV S T (sk (bt S) (at7 S))) ?_ () S ⟨R, Fr.rf, rfl⟩ (by have := R.at; show (302 - (ge S 40 0 4).toInt).toNat < 4294967296; omega)
  intro k z T hI hk
  obtain ⟨RT, FT, hs⟩ := hI
  have g := RT.at
  have gs := RT.sz
  have ha := at7_eq RT
  have hbt : bt T = bt S := bt_fr FT rfl
  have htx := bt_txt R
  unfold B_X7_blanks_0
  refine zk_iv fun x e => ?_
  subst e
  refine zk_bd (e_byteAt _ RT (p := at7 T) (by omega) (by omega)) (fun v U h => ?_)
  obtain ⟨rfl, hv⟩ := h
  rw [hbt] at hv
  refine zk_eq (fun c => ?_) (fun c => ?_)
  · have h32 : bt S (at7 T) = 32 := by omega
    have hlt := bt_lt RT (p := at7 T) (by rw [hbt]; omega)
    refine zk_iv fun x e => ?_
    subst e
    refine zk_iv fun y e => ?_
    have gy : y.toInt = ((at7 T + 1 : Nat) : Int) := by rw [e, ti_add (by omega) (by omega), l1]; omega
    refine zk_sv fun V E => ?_
    have u : MV T V (at7 T + 1) := by rw [E]; exact MV.up RT gy (by omega)
    have e4 : ge V 40 0 4 = y := by rw [E]; exact ge_pus
    exact hk () V ⟨u.1, FT.tr u.2.1, by rw [u.2.2, sk_up htx h32]; exact hs⟩ (by show (302 - (ge V 40 0 4).toInt).toNat < (302 - (ge T 40 0 4).toInt).toNat; rw [e4]; omega)
  · refine zk_some ⟨RT, FT, ?_⟩
    rw [← hs]
    exact (sk_st htx (by omega)).symm
/-! the word that stands at q: its number to the base 27, -1 if it has more than five letters -/
def wc (b : Nat → Int) (q : Nat) : Int := if rn b 97 122 q - q ≤ 5 then wv b q (rn b 97 122 q - q) else -1
theorem wv_in {b : Nat → Int} (q : Nat) : ∀ k : Nat, q + k ≤ rn b 97 122 q → 0 ≤ wv b q k ∧ wv b q k < ((27 ^ k : Nat) : Int)
  | 0, _ => ⟨Int.le_refl _, show (0 : Int) < ((27 ^ 0 : Nat) : Int) by decide⟩
  | k + 1, h => by
    have a := wv_in (b := b) q k (by omega)
    have c := rn_in (b := b) (lo := 97) (hi := 122) (p := q) (i := q + k) (by omega) (by omega)
    have e : wv b q (k + 1) = 27 * wv b q k + (b (q + k) - 96) := rfl
    have e2 : ((27 ^ (k + 1) : Nat) : Int) = 27 * ((27 ^ k : Nat) : Int) := by rw [Nat.pow_succ]; omega
    rw [e, e2]
    omega
theorem wc_len {b : Nat → Int} {q n : Nat} (h : ((27 ^ n : Nat) : Int) ≤ wc b q) : q + n < rn b 97 122 q := by
  have h1 := rn_le (b := b) (lo := 97) (hi := 122) q
  by_cases c : q + n < rn b 97 122 q
  · exact c
  · unfold wc at h
    have p0 : 0 < (27 : Nat) ^ n := Nat.pow_pos (by decide)
    by_cases c2 : rn b 97 122 q - q ≤ 5
    · rw [if_pos c2] at h
      have w := wv_in (b := b) q (rn b 97 122 q - q) (by omega)
      have m : (27 : Nat) ^ (rn b 97 122 q - q) ≤ 27 ^ n := Nat.pow_le_pow_right (by decide) (by omega)
      omega
    · rw [if_neg c2] at h
      omega
theorem e_wordHere (R : RI S) : zk (F_X7_wordHere S) (fun v T => MV S T (sk (bt S) (at7 S)) ∧ v.toInt = wc (bt S) (sk (bt S) (at7 S))) := by
  have l0 : (0 : Int32).toInt = 0 := by decide
  have l1 : (1 : Int32).toInt = 1 := by decide
  have lm1 : (-1 : Int32).toInt = -1 := by decide
  have l5 : (5 : Int32).toInt = 5 := by decide
  have l97 : (97 : Int32).toInt = 97 := by decide
  have l122 : (122 : Int32).toInt = 122 := by decide
  unfold F_X7_wordHere
  refine zk_bd (e_blanks R) (fun _ S1 u => ?_)
  have R1 := u.1
  have hb : bt S1 = bt S := u.tx
  have htx := bt_txt R
  have ha := at7_eq R1
  have hle := at7_le R1
  rw [← u.2.2]
  have hr : rn (bt S) 97 122 (at7 S1) ≤ 301 := by
    by_cases c : at7 S1 ≤ 300
    · have := rn_300 (b := bt S) (lo := 97) (hi := 122) htx (by decide) c
      omega
    · have e : at7 S1 = 301 := by omega
      rw [rn_un (b := bt S) (lo := 97) (hi := 122) htx (by decide) (q := 301) (p := at7 S1) (by omega) (fun i h1 h2 => by omega) (by rw [htx 301 (by decide)]; decide)]
      exact Nat.le_refl _
  have hrl := rn_le (b := bt S) (lo := 97) (hi := 122) (at7 S1)
  have hrn := rn_ne (b := bt S) (lo := 97) (hi := 122) htx (by decide) (at7 S1)
  refine zk_lp (fun (z : Int32 × Int32) T => S1 = T ∧ 0 ≤ z.2.toInt ∧ (at7 S1 : Int) + z.2.toInt ≤ (rn (bt S) 97 122 (at7 S1) : Int) ∧ (z.2.toInt ≤ 5 → z.1.toInt = wv (bt S) (at7 S1) z.2.toNatClampNeg)) (fun (z : Int32 × Int32) _ => (302 - z.2.toInt).toNat) (fun _ _ (v : Int32) T => MV S T (at7 S1) ∧ v.toInt = wc (bt S) (at7 S1)) ?_ (0, 0) S1 ⟨rfl, by show (0 : Int) ≤ (0 : Int32).toInt; decide, by show (at7 S1 : Int) + (0 : Int32).toInt ≤ _; omega, fun _ => by show (0 : Int32).toInt = wv (bt S) (at7 S1) (0 : Int32).toNatClampNeg; exact l0⟩ (by show (302 - (0 : Int32).toInt).toNat < 4294967296; decide)
  intro k z T hI hk
  obtain ⟨a1, a2⟩ := z
  obtain ⟨rfl, h1, h2, h3⟩ := hI
  dsimp only at h1 h2 h3
  have hc := cn_eq h1
  have fin : rn (bt S) 97 122 (at7 S1) = at7 S1 + a2.toNatClampNeg → zk (B_X7_wordHere_74 a1 a2 S1) (fun v T => MV S T (at7 S1) ∧ v.toInt = wc (bt S) (at7 S1)) := by
    intro e
    have e2 : rn (bt S) 97 122 (at7 S1) - at7 S1 = a2.toNatClampNeg := by omega
    unfold B_X7_wordHere_74 wc
    rw [e2]
    refine zk_le (fun c => ?_) (fun c => ?_)
    · exact zk_some ⟨⟨u.1, u.2.1, rfl⟩, by rw [if_pos (by omega)]; exact h3 (by omega)⟩
    · exact zk_some ⟨⟨u.1, u.2.1, rfl⟩, by rw [if_neg (by omega)]; exact lm1⟩
  unfold B_X7_wordHere_8
  dsimp only
  refine zk_iv fun x3 e3 => ?_
  refine zk_iv fun x4 e4 => ?_
  have g4 : x4.toInt = ((at7 S1 + a2.toNatClampNeg : Nat) : Int) := by rw [e4, e3, ti_add (by omega) (by omega)]; omega
  refine zk_bd (e_byteAt x4 R1 g4 (by omega)) (fun v5 T h => ?_)
  obtain ⟨rfl, hv5⟩ := h
  rw [hb] at hv5
  have stop : ¬ (97 ≤ v5.toInt ∧ v5.toInt ≤ 122) → rn (bt S) 97 122 (at7 S1) = at7 S1 + a2.toNatClampNeg := by
    intro c
    by_cases d : rn (bt S) 97 122 (at7 S1) = at7 S1 + a2.toNatClampNeg
    · exact d
    · have := rn_in (b := bt S) (lo := 97) (hi := 122) (p := at7 S1) (i := at7 S1 + a2.toNatClampNeg) (by omega) (by omega)
      omega
  refine zk_lt (fun c => fin (stop (by omega))) (fun c => ?_)
  refine zk_ivq (x := x3) e3.symm ?_
  refine zk_ivq (x := x4) e4.symm ?_
  refine zk_bd (e_byteAt x4 R1 g4 (by omega)) (fun v11 T h => ?_)
  obtain ⟨rfl, hv11⟩ := h
  rw [hb] at hv11
  refine zk_lt (fun c2 => fin (stop (by omega))) (fun c2 => ?_)
  have hlt : at7 S1 + a2.toNatClampNeg < rn (bt S) 97 122 (at7 S1) := by
    by_cases d : at7 S1 + a2.toNatClampNeg = rn (bt S) 97 122 (at7 S1)
    · rw [← d] at hrn
      exact absurd ⟨by omega, by omega⟩ hrn
    · omega
  have go : ∀ t : Int32, (a2.toInt ≤ 4 → t.toInt = wv (bt S) (at7 S1) (a2.toNatClampNeg + 1)) → zk (B_X7_wordHere_67 k a2 t S1) (fun v T => MV S T (at7 S1) ∧ v.toInt = wc (bt S) (at7 S1)) := by
    intro t ht
    unfold B_X7_wordHere_67
    refine zk_iv fun y ey => ?_
    have gy : y.toInt = a2.toInt + 1 := by rw [ey]; exact ti_inc (by omega)
    have hy := cn_eq (x := y) (by omega)
    refine hk (t, y) S1 ⟨rfl, by dsimp only; omega, by dsimp only; omega, fun q => ?_⟩ (by show (302 - y.toInt).toNat < (302 - a2.toInt).toNat; omega)
    dsimp only at q ⊢
    rw [ht (by omega), show y.toNatClampNeg = a2.toNatClampNeg + 1 from by omega]
  refine zk_le (fun c => go a1 (fun q => by omega)) (fun c3 => ?_)
  refine zk_iv fun x16 e16 => ?_
  refine zk_ivq (x := x3) e3.symm ?_
  refine zk_ivq (x := x4) e4.symm ?_
  refine zk_bd (e_byteAt x4 R1 g4 (by omega)) (fun v19 T h => ?_)
  obtain ⟨rfl, hv19⟩ := h
  rw [hb] at hv19
  refine zk_iv fun x22 e22 => ?_
  refine zk_iv fun x23 e23 => ?_
  refine zk_iv fun x24 e24 => ?_
  refine go x24 (fun q => ?_)
  have e1 := h3 (by omega)
  have bd := wv_in (b := bt S) (at7 S1) a2.toNatClampNeg (by omega)
  have bd2 : (27 : Nat) ^ a2.toNatClampNeg ≤ 27 ^ 4 := Nat.pow_le_pow_right (by decide) (by omega)
  have bd3 : (27 : Nat) ^ 4 = 531441 := rfl
  have g16 : x16.toInt = 27 * a1.toInt := by rw [e16]; exact ti_mulc (c := 27) (by decide) (by omega) (by omega)
  have g22 : x22.toInt = x16.toInt + v19.toInt := by rw [e22]; exact ti_add (by omega) (by omega)
  have g23 : x23.toInt = x22.toInt - (97 : Int32).toInt := by rw [e23]; exact ti_sub (by omega) (by omega)
  have g24 : x24.toInt = x23.toInt + (1 : Int32).toInt := by rw [e24]; exact ti_add (by omega) (by omega)
  show x24.toInt = 27 * wv (bt S) (at7 S1) a2.toNatClampNeg + (bt S (at7 S1 + a2.toNatClampNeg) - 96)
  omega
end BTS
