/-! the class's tokens: kept, and all of them -/
def Wl (a _ j : Nat) : Bool := Nat.beq a 18 || (Nat.beq a 19 || (Nat.beq a 20 || (Nat.beq a 17 && Nat.beq j 3)))
theorem TB.fx {W : Nat → Nat → Nat → Bool} {S T : fS} {b : Nat → Int} {n : Nat} (h : TB S b n) (F : FX W S T) (hw : ∀ j : Nat, W 16 0 j = false) : TB T b n := ⟨h.1, fun p hp => by rw [F.1 16 0 p (hw p)]; exact h.2.1 p hp, h.2.2⟩
theorem x_keepToken (p1 p2 p3 : Int32) {S : fS} {k : Nat} (hk : (ge S 17 0 3).toInt = (k : Int)) (h3 : k < 300) : zk (F_X4_keepToken p1 p2 p3 S) (fun _ T => FX Wl S T ∧ (ge T 17 0 3).toInt = ((k + 1 : Nat) : Int) ∧ (ge T 18 0 k = p1 ∧ ge T 19 0 k = p2 ∧ ge T 20 0 k = p3) ∧ ∀ j : Nat, j < k → ge T 18 0 j = ge S 18 0 j ∧ ge T 19 0 j = ge S 19 0 j ∧ ge T 20 0 j = ge S 20 0 j) := by
  have l300 : (300 : Int32).toInt = 300 := by decide
  have l1 : (1 : Int32).toInt = 1 := by decide
  unfold F_X4_keepToken
  refine zk_iv fun x1 e1 => ?_
  have g1 : x1.toInt = (k : Int) := by rw [e1]; exact hk
  have hr : x1.toNatClampNeg = k := by have := cn_eq (x := x1) (by omega); omega
  refine zk_le (fun c => absurd c (by omega)) (fun _ => ?_)
  refine zk_ivq (x := x1) e1.symm ?_
  refine zk_gd ⟨by omega, by omega⟩ ?_
  refine zk_sv fun S5 E5 => ?_
  refine zk_ivq (x := x1) (by rw [E5, ge_pua (by decide)]; exact e1.symm) ?_
  refine zk_gd ⟨by omega, by omega⟩ ?_
  refine zk_sv fun S8 E8 => ?_
  refine zk_ivq (x := x1) (by rw [E8, ge_pua (by decide), E5, ge_pua (by decide)]; exact e1.symm) ?_
  refine zk_gd ⟨by omega, by omega⟩ ?_
  refine zk_sv fun S11 E11 => ?_
  refine zk_ivq (x := x1) (by rw [E11, ge_pua (by decide), E8, ge_pua (by decide), E5, ge_pua (by decide)]; exact e1.symm) ?_
  refine zk_iv fun x13 e13 => ?_
  have g13 : x13.toInt = ((k + 1 : Nat) : Int) := by rw [e13, ti_add (by omega) (by omega), l1]; omega
  refine zk_sv fun S14 E14 => ?_
  rw [hr] at E5 E8 E11
  have F5 : FX Wl S S5 := by rw [E5]; exact FX.rf.wr rfl
  have F8 : FX Wl S S8 := by rw [E8]; exact F5.wr rfl
  have F11 : FX Wl S S11 := by rw [E11]; exact F8.wr rfl
  have F14 : FX Wl S S14 := by rw [E14]; exact F11.wr rfl
  refine zk_some ⟨F14, by rw [E14, ge_pus]; exact g13, ⟨?_, ?_, ?_⟩, fun j hj => ⟨?_, ?_, ?_⟩⟩
  · rw [E14, ge_pua (by decide), E11, ge_pua (by decide), E8, ge_pua (by decide), E5, ge_pus]
  · rw [E14, ge_pua (by decide), E11, ge_pua (by decide), E8, ge_pus]
  · rw [E14, ge_pua (by decide), E11, ge_pus]
  · rw [E14, ge_pua (by decide), E11, ge_pua (by decide), E8, ge_pua (by decide), E5, ge_puj (by omega)]
  · rw [E14, ge_pua (by decide), E11, ge_pua (by decide), E8, ge_puj (by omega), E5, ge_pua (by decide)]
  · rw [E14, ge_pua (by decide), E11, ge_puj (by omega), E8, ge_pua (by decide), E5, ge_pua (by decide)]
/-- the first k tokens stand in the rows -/
def LT (S : fS) (b : Nat → Int) (k : Nat) : Prop := ∀ j : Nat, j < k → (ge S 18 0 j).toInt = kd b (tpos b j) ∧ (ge S 19 0 j).toInt = (tpos b j : Int) ∧ (ge S 20 0 j).toInt = nb b (tpos b j) ∧ ¬ b (tpos b j) = -1
theorem LT.up {S T : fS} {b : Nat → Int} {k : Nat} (h : LT S b k) {p1 p2 p3 : Int32} (hs : ∀ j : Nat, j < k → ge T 18 0 j = ge S 18 0 j ∧ ge T 19 0 j = ge S 19 0 j ∧ ge T 20 0 j = ge S 20 0 j) (hn : ge T 18 0 k = p1 ∧ ge T 19 0 k = p2 ∧ ge T 20 0 k = p3) (h1 : p1.toInt = kd b (tpos b k)) (h2 : p2.toInt = (tpos b k : Int)) (h3 : p3.toInt = nb b (tpos b k)) (h4 : ¬ b (tpos b k) = -1) : LT T b (k + 1) := by
  intro j hj
  by_cases d : j = k
  · rw [d, hn.1, hn.2.1, hn.2.2]
    exact ⟨h1, h2, h3, h4⟩
  · obtain ⟨a1, a2, a3⟩ := hs j (by omega)
    rw [a1, a2, a3]
    exact h j (by omega)
theorem rn_n {S : fS} {b : Nat → Int} {n p : Nat} {lo hi : Int} (hT : TB S b n) (hl : 0 ≤ lo) (hp : p ≤ n) : rn b lo hi p ≤ n := by
  by_cases c : rn b lo hi p ≤ n
  · exact c
  · have h := rn_in (b := b) (lo := lo) (hi := hi) (p := p) (i := n) hp (by omega)
    rw [hT.2.2 n (Nat.le_refl _)] at h
    omega
theorem x_addToken {S : fS} {b : Nat → Int} {n p k : Nat} {p2 : Int32} (hT : TB S b n) (hn : (ge S 17 0 5).toInt = (n : Int)) (hp : p2.toInt = (p : Int)) (hpn : p < n) (hk : (ge S 17 0 3).toInt = (k : Int)) (hkp : k ≤ p) (hs : sk b p = tpos b k) (hL : LT S b k) : zk (F_X4_addToken p2 S) (fun v T => FX Wl S T ∧ ∃ p' k' : Nat, v.toInt = (p' : Int) ∧ p < p' ∧ p' ≤ n ∧ (ge T 17 0 3).toInt = (k' : Int) ∧ k' ≤ p' ∧ sk b p' = tpos b k' ∧ LT T b k') := by
  have h300 := hT.1
  have htx := hT.tx
  have l0 : (0 : Int32).toInt = 0 := by decide
  have l1 : (1 : Int32).toInt = 1 := by decide
  have l32 : (32 : Int32).toInt = 32 := by decide
  have l48 : (48 : Int32).toInt = 48 := by decide
  have l57 : (57 : Int32).toInt = 57 := by decide
  have l97 : (97 : Int32).toInt = 97 := by decide
  have l122 : (122 : Int32).toInt = 122 := by decide
  have l257 : (257 : Int32).toInt = 257 := by decide
  have hr : p2.toNatClampNeg = p := by have := cn_eq (x := p2) (by omega); omega
  unfold F_X4_addToken
  refine zk_gd ⟨by omega, by omega⟩ ?_
  refine zk_iv fun x2 e2 => ?_
  rw [hr] at e2
  have hb := hT.2.1 p hpn
  rw [← e2] at hb
  refine zk_eq (fun c => ?_) (fun c => ?_)
  · refine zk_iv fun x34 e34 => ?_
    have g34 : x34.toInt = ((p + 1 : Nat) : Int) := by rw [e34, ti_add (by omega) (by omega), l1]; omega
    exact zk_some ⟨FX.rf, p + 1, k, g34, by omega, by omega, hk, by omega, by rw [sk_up htx (by omega)]; exact hs, hL⟩
  · have hsp : sk b p = p := sk_st htx (by omega)
    have etk : tpos b k = p := by rw [← hs, hsp]
    have hne : ¬ b p = -1 := by omega
    have nxt : ∀ q : Nat, te b p = q → sk b q = tpos b (k + 1) := by
      intro q hq
      show _ = sk b (te b (tpos b k))
      rw [etk, hq]
    refine zk_bd (w_in x2 48 57 S) (fun v4 T h => ?_)
    obtain ⟨rfl, hd⟩ := h
    refine zk_eq (fun c1 => ?_) (fun c1 => ?_)
    · have nd : ¬ (48 ≤ b p ∧ b p ≤ 57) := by omega
      refine zk_bd (w_in x2 97 122 S) (fun v8 T h => ?_)
      obtain ⟨rfl, hl⟩ := h
      refine zk_eq (fun c2 => ?_) (fun c2 => ?_)
      · have nl : ¬ (97 ≤ b p ∧ b p ≤ 122) := by omega
        refine zk_bd (x_keepToken x2 p2 0 hk (by omega)) (fun _ T h => ?_)
        obtain ⟨F, k1, kn, ks⟩ := h
        refine zk_iv fun x15 e15 => ?_
        have g15 : x15.toInt = ((p + 1 : Nat) : Int) := by rw [e15, ti_add (by omega) (by omega), l1]; omega
        exact zk_some ⟨F, p + 1, k + 1, g15, by omega, by omega, k1, by omega, nxt _ (te_sg nd nl hne), hL.up ks kn (by rw [etk, kd_sg nd nl hne]; exact hb.1.symm) (by rw [etk]; exact hp) (by rw [etk]; unfold nb; rw [if_neg nd]; exact l0) (by rw [etk]; exact hne)⟩
      · have yl : 97 ≤ b p ∧ b p ≤ 122 := by omega
        have hrn := rn_n (lo := 97) (hi := 122) hT (by decide) (Nat.le_of_lt hpn)
        have hgt := rn_gt (lo := 97) (hi := 122) htx (by decide) yl
        refine zk_bd (x_runEnd (p := p) hT hn hp (Nat.le_of_lt hpn) (by decide)) (fun v16 T h => ?_)
        obtain ⟨rfl, h16⟩ := h
        rw [l97, l122] at h16
        refine zk_bd (x_wordIn hT hp h16 hrn) (fun v19 T h => ?_)
        obtain ⟨rfl, h19⟩ := h
        refine zk_bd (x_keepToken v19 p2 0 hk (by omega)) (fun _ T h => ?_)
        obtain ⟨F, k1, kn, ks⟩ := h
        exact zk_some ⟨F, rn b 97 122 p, k + 1, h16, hgt, hrn, k1, by omega, nxt _ (te_lt2 yl), hL.up ks kn (by rw [etk, kd_lt yl]; exact h19) (by rw [etk]; exact hp) (by rw [etk]; unfold nb; rw [if_neg nd]; exact l0) (by rw [etk]; exact hne)⟩
    · have yd : 48 ≤ b p ∧ b p ≤ 57 := by omega
      have hrn := rn_n (lo := 48) (hi := 57) hT (by decide) (Nat.le_of_lt hpn)
      have hgt := rn_gt (lo := 48) (hi := 57) htx (by decide) yd
      refine zk_bd (x_runEnd (p := p) hT hn hp (Nat.le_of_lt hpn) (by decide)) (fun v25 T h => ?_)
      obtain ⟨rfl, h25⟩ := h
      rw [l48, l57] at h25
      refine zk_bd (x_numberIn hT hp h25 (by omega) hrn (fun i h1 h2 => rn_in h1 h2)) (fun v28 T h => ?_)
      obtain ⟨rfl, h28⟩ := h
      refine zk_bd (x_keepToken 257 p2 v28 hk (by omega)) (fun _ T h => ?_)
      obtain ⟨F, k1, kn, ks⟩ := h
      exact zk_some ⟨F, rn b 48 57 p, k + 1, h25, hgt, hrn, k1, by omega, nxt _ (te_dg yd), hL.up ks kn (by rw [etk, kd_dg yd]; exact l257) (by rw [etk]; exact hp) (by rw [etk]; unfold nb; rw [if_pos yd]; exact h28) (by rw [etk]; exact hne)⟩
/-- what stands in the reader's rows: all tokens of b, law or not -/
def LX (S : fS) (b : Nat → Int) (n N : Nat) : Prop := TB S b n ∧ (ge S 17 0 5).toInt = (n : Int) ∧ (ge S 17 0 3).toInt = (N : Int) ∧ N ≤ n ∧ LT S b N ∧ tpos b N = n
def Wb (a _ j : Nat) : Bool := Nat.beq a 18 || (Nat.beq a 19 || (Nat.beq a 20 || Nat.beq a 17))
theorem x_begin {S : fS} {b : Nat → Int} {n : Nat} {p2 p3 : Int32} (hT : TB S b n) (hp : p2.toInt = (n : Int)) (h3 : p3 = 0 ∨ p3 = 1) : zk (F_X4_begin p2 p3 S) (fun _ T => FX Wb S T ∧ ge T 17 0 9 = p3 ∧ (ge T 17 0 4).toInt = 0 ∧ (ge T 17 0 7).toInt = 0 ∧ (ge T 17 0 8).toInt = 0 ∧ (ge T 17 0 10).toInt = 0 ∧ (ge T 17 0 11).toInt = -1 ∧ ∃ N : Nat, LX T b n N) := by
  have h300 := hT.1
  have htx := hT.tx
  have l0 : (0 : Int32).toInt = 0 := by decide
  have lm1 : (-1 : Int32).toInt = -1 := by decide
  have l300 : (300 : Int32).toInt = 300 := by decide
  have hsub : ∀ a i j : Nat, Wb a i j = false → Wl a i j = false := by
    intro a i j h
    unfold Wb at h
    unfold Wl
    cases h1 : Nat.beq a 18 <;> cases h2 : Nat.beq a 19 <;> cases h3 : Nat.beq a 20 <;> cases h4 : Nat.beq a 17 <;> rw [h1, h2, h3, h4] at h <;> first | rfl | cases h
  unfold F_X4_begin
  refine zk_iv fun x9 e9 => ?_
  have g9 := zi_min (a := 300) (b := p2) e9
  refine zk_iv fun x10 e10 => ?_
  have g10 := zi_max e10
  refine zk_sv fun S11 E11 => ?_
  refine zk_gd h3 ?_
  refine zk_sv fun S13 E13 => ?_
  refine zk_sv fun S14 E14 => ?_
  refine zk_sv fun S15 E15 => ?_
  refine zk_sv fun S16 E16 => ?_
  refine zk_sv fun S17 E17 => ?_
  refine zk_sv fun S18 E18 => ?_
  refine zk_sv fun S19 E19 => ?_
  have F11 : FX Wb S S11 := by rw [E11]; exact FX.rf.wr rfl
  have F13 : FX Wb S S13 := by rw [E13]; exact F11.wr rfl
  have F14 : FX Wb S S14 := by rw [E14]; exact F13.wr rfl
  have F15 : FX Wb S S15 := by rw [E15]; exact F14.wr rfl
  have F16 : FX Wb S S16 := by rw [E16]; exact F15.wr rfl
  have F17 : FX Wb S S17 := by rw [E17]; exact F16.wr rfl
  have F18 : FX Wb S S18 := by rw [E18]; exact F17.wr rfl
  have F19 : FX Wb S S19 := by rw [E19]; exact F18.wr rfl
  have a5 : (ge S19 17 0 5).toInt = (n : Int) := by rw [E19, ge_puj (by decide), E18, ge_puj (by decide), E17, ge_puj (by decide), E16, ge_puj (by decide), E15, ge_puj (by decide), E14, ge_puj (by decide), E13, ge_puj (by decide), E11, ge_pus]; omega
  have a9 : ge S19 17 0 9 = p3 := by rw [E19, ge_puj (by decide), E18, ge_puj (by decide), E17, ge_puj (by decide), E16, ge_puj (by decide), E15, ge_puj (by decide), E14, ge_puj (by decide), E13, ge_pus]
  have a3 : ge S19 17 0 3 = 0 := by rw [E19, ge_puj (by decide), E18, ge_puj (by decide), E17, ge_puj (by decide), E16, ge_puj (by decide), E15, ge_puj (by decide), E14, ge_pus]
  have a4 : ge S19 17 0 4 = 0 := by rw [E19, ge_puj (by decide), E18, ge_puj (by decide), E17, ge_puj (by decide), E16, ge_puj (by decide), E15, ge_pus]
  have a7 : ge S19 17 0 7 = 0 := by rw [E19, ge_puj (by decide), E18, ge_puj (by decide), E17, ge_puj (by decide), E16, ge_pus]
  have a8 : ge S19 17 0 8 = 0 := by rw [E19, ge_puj (by decide), E18, ge_puj (by decide), E17, ge_pus]
  have a10 : ge S19 17 0 10 = 0 := by rw [E19, ge_puj (by decide), E18, ge_pus]
  have a11 : ge S19 17 0 11 = -1 := by rw [E19, ge_pus]
  refine zk_lp (fun (z : Int32 × Int32) T => FX Wl S19 T ∧ ∃ p k : Nat, z.1.toInt = (p : Int) ∧ p ≤ n ∧ (ge T 17 0 3).toInt = (k : Int) ∧ k ≤ p ∧ sk b p = tpos b k ∧ LT T b k ∧ 0 ≤ z.2.toInt ∧ z.2.toInt ≤ (p : Int)) (fun (z : Int32 × Int32) _ => (302 - z.1.toInt).toNat) (fun _ _ (_ : Int32) T => FX Wb S T ∧ ge T 17 0 9 = p3 ∧ (ge T 17 0 4).toInt = 0 ∧ (ge T 17 0 7).toInt = 0 ∧ (ge T 17 0 8).toInt = 0 ∧ (ge T 17 0 10).toInt = 0 ∧ (ge T 17 0 11).toInt = -1 ∧ ∃ N : Nat, LX T b n N) ?_ (0, 0) S19 ⟨FX.rf, 0, 0, l0, Nat.zero_le _, by rw [a3]; exact l0, Nat.le_refl _, rfl, fun j h => absurd h (Nat.not_lt_zero _), by rw [l0]; exact Int.le_refl _, by rw [l0]; exact Int.le_refl _⟩ (by show (302 - (0 : Int32).toInt).toNat < 4294967296; rw [l0]; decide)
  intro k z T hI hk
  obtain ⟨q4, q5⟩ := z
  obtain ⟨F, p, t, h1, h2, hk3, h5, h6, h7, h8, h9⟩ := hI
  dsimp only at h1 h8 h9
  have FB : FX Wb S T := F19.tr (F.sub hsub)
  have hTT : TB T b n := hT.fx FB (fun _ => rfl)
  have hn : (ge T 17 0 5).toInt = (n : Int) := by rw [F.1 17 0 5 rfl]; exact a5
  unfold B_X4_begin_55
  dsimp only
  have fin : p = n → FX Wb S T ∧ ge T 17 0 9 = p3 ∧ (ge T 17 0 4).toInt = 0 ∧ (ge T 17 0 7).toInt = 0 ∧ (ge T 17 0 8).toInt = 0 ∧ (ge T 17 0 10).toInt = 0 ∧ (ge T 17 0 11).toInt = -1 ∧ ∃ N : Nat, LX T b n N := by
    intro e
    subst e
    refine ⟨FB, by rw [F.1 17 0 9 rfl]; exact a9, by rw [F.1 17 0 4 rfl, a4]; exact l0, by rw [F.1 17 0 7 rfl, a7]; exact l0, by rw [F.1 17 0 8 rfl, a8]; exact l0, by rw [F.1 17 0 10 rfl, a10]; exact l0, by rw [F.1 17 0 11 rfl, a11]; exact lm1, t, hTT, hn, hk3, h5, h7, ?_⟩
    rw [← h6]
    exact sk_st htx (by rw [hT.2.2 p (Nat.le_refl _)]; decide)
  refine zk_iv fun x1 e1 => ?_
  have g1 : x1.toInt = (n : Int) := by rw [e1]; exact hn
  refine zk_le (fun c => zk_some (fin (by omega))) (fun c => ?_)
  refine zk_ivq (x := x1) e1.symm ?_
  refine zk_le (fun c2 => zk_some (fin (by omega))) (fun c2 => ?_)
  refine zk_bd (x_addToken hTT hn h1 (by omega) hk3 h5 h6 h7) (fun v5 U h => ?_)
  obtain ⟨FU, p', k', u1, u2, u3, u4, u5, u6, u7⟩ := h
  refine zk_iv fun x8 e8 => ?_
  have g8 : x8.toInt = q5.toInt + 1 := by rw [e8]; exact ti_inc (by omega)
  exact hk (v5, x8) U ⟨F.tr FU, p', k', u1, u3, u4, u5, u6, u7, by dsimp only; omega, by dsimp only; omega⟩ (by show (302 - v5.toInt).toNat < (302 - q4.toInt).toNat; omega)
