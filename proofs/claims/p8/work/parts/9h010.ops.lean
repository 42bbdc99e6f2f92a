/-! the stack machine as a function on lists -/
abbrev sM : Type := List Int32 × (Int32 × Int32 × Int32)
/-- a name by its word's kind -/
def nme (env : Nat → Int32) (k : Int) : Int32 := if k = 270 then env 0 else if k = 271 then env 1 else if k = 272 then env 2 else if k = 273 then env 3 else if k = 274 then env 4 else if k = 275 then env 5 else env 6
def jn (p x y : Int32) : Int32 := if p.toInt = 2000 then x + y else if p.toInt = 2001 then x - y else if p.toInt = 2002 then x * y else if p.toInt = 2003 then (if y = 0 then 0 else x / y) else if p.toInt = 2004 then (if y < x then y else x) else if p.toInt = 2005 then (if x < y then y else x) else if p.toInt = 2006 then (if y ≤ x then 0 else 1) else if p.toInt = 2007 then (if x ≤ y then 0 else 1) else if p.toInt = 2008 then (if x = y then 1 else 0) else if p.toInt = 2009 then x &&& y else x ||| y
def tl3 (k : Int) (v : Int32) (g : Int32 × Int32 × Int32) : Int32 × Int32 × Int32 := if k = 0 then (v, g.2.1, g.2.2) else if k = 1 then (g.1, v, g.2.2) else if k = 2 then (g.1, g.2.1, v) else g
def hd0 (l : List Int32) : Int32 := l.headD 0
def xw (env : Nat → Int32) (c : Int32) (s : sM) : sM :=
  if c.toInt < 1000 then (c :: s.1, s.2) else
  if c.toInt < 2000 then (nme env (c.toInt - 1000) :: s.1, s.2) else
  if c.toInt = 2011 then ((if hd0 s.1 = 0 then 1 else 0) :: s.1.tail, s.2) else
  if c.toInt < 2020 then (jn c (hd0 s.1.tail) (hd0 s.1) :: s.1.tail.tail, s.2) else
  if c.toInt < 2030 then (s.1.tail, tl3 (c.toInt - 2020) (hd0 s.1) s.2) else
  (s.1.tail.tail, if hd0 s.1 = 0 then s.2 else tl3 (c.toInt - 2030) (hd0 s.1.tail) s.2)
def xs (env : Nat → Int32) : List Int32 → sM → sM
  | [], s => s
  | c :: r, s => xs env r (xw env c s)
theorem xs_app (env : Nat → Int32) : ∀ (l m : List Int32) (s : sM), xs env (l ++ m) s = xs env m (xs env l s)
  | [], _, _ => rfl
  | c :: r, m, s => xs_app env r m (xw env c s)
theorem xs_one (env : Nat → Int32) (c : Int32) (s : sM) : xs env [c] s = xw env c s := rfl
theorem xw_num {env : Nat → Int32} {c : Int32} {s : sM} (h : c.toInt < 1000) : xw env c s = (c :: s.1, s.2) := by unfold xw; rw [if_pos h]
theorem xw_nam {env : Nat → Int32} {c : Int32} {s : sM} {k : Int} (h : c.toInt = 1000 + k) (h1 : 0 ≤ k) (h2 : k < 1000) : xw env c s = (nme env k :: s.1, s.2) := by
  unfold xw
  rw [if_neg (by omega), if_pos (by omega), show c.toInt - 1000 = k from by omega]
theorem xw_not {env : Nat → Int32} {x : Int32} {st : List Int32} {g : Int32 × Int32 × Int32} : xw env 2011 (x :: st, g) = ((if x = 0 then 1 else 0) :: st, g) := rfl
theorem xw_jn {env : Nat → Int32} {c x y : Int32} {st : List Int32} {g : Int32 × Int32 × Int32} (h1 : 2000 ≤ c.toInt) (h2 : c.toInt < 2011) : xw env c (y :: x :: st, g) = (jn c x y :: st, g) := by
  unfold xw
  rw [if_neg (by omega), if_neg (by omega), if_neg (by omega), if_pos (by omega)]
  rfl
theorem xw_tell {env : Nat → Int32} {c x : Int32} {st : List Int32} {g : Int32 × Int32 × Int32} (h1 : 2020 ≤ c.toInt) (h2 : c.toInt < 2030) : xw env c (x :: st, g) = (st, tl3 (c.toInt - 2020) x g) := by
  unfold xw
  rw [if_neg (by omega), if_neg (by omega), if_neg (by omega), if_neg (by omega), if_pos (by omega)]
  rfl
theorem xw_tif {env : Nat → Int32} {c x y : Int32} {st : List Int32} {g : Int32 × Int32 × Int32} (h1 : 2030 ≤ c.toInt) : xw env c (y :: x :: st, g) = (st, if y = 0 then g else tl3 (c.toInt - 2030) x g) := by
  unfold xw
  rw [if_neg (by omega), if_neg (by omega), if_neg (by omega), if_neg (by omega), if_neg (by omega)]
  rfl
/-! the reader's state: all tokens; at token i, o brackets stand, the code is l -/
def CD (S : fS) (l : List Int32) : Prop := (ge S 17 0 7).toInt = (l.length : Int) ∧ ∀ k : Nat, k < l.length → ge S 21 0 k = l.getD k 0
def RD (S : fS) (b : Nat → Int) (law : Bool) (n N i o : Nat) (l : List Int32) : Prop := LX S b n N ∧ law = decide (¬ ge S 17 0 9 = 0) ∧ (ge S 17 0 4).toInt = (i : Int) ∧ i ≤ N ∧ (ge S 17 0 8).toInt = (o : Int) ∧ o ≤ 6 ∧ CD S l ∧ l.length ≤ i
def Wr (a _ j : Nat) : Bool := Nat.beq a 21 || (Nat.beq a 17 && (Nat.beq j 4 || (Nat.beq j 7 || (Nat.beq j 8 || (Nat.beq j 10 || Nat.beq j 11)))))
section RDS
variable {b : Nat → Int} {law : Bool} {n N i o : Nat} {l : List Int32} {S T : fS}
theorem LX.fx (h : LX S b n N) (F : FX Wr S T) : LX T b n N := by
  obtain ⟨h1, h2, h3, h4, h5, h6⟩ := h
  exact ⟨h1.fx F (fun _ => rfl), by rw [F.1 17 0 5 rfl]; exact h2, by rw [F.1 17 0 3 rfl]; exact h3, h4, fun j hj => by rw [F.1 18 0 j rfl, F.1 19 0 j rfl, F.1 20 0 j rfl]; exact h5 j hj, h6⟩
theorem RD.tx (h : RD S b law n N i o l) : TXT b := h.1.1.tx
theorem RD.N300 (h : RD S b law n N i o l) : N ≤ 300 := Nat.le_trans h.1.2.2.2.1 h.1.1.1
theorem RD.byt (h : RD S b law n N i o l) (q : Nat) : -1 ≤ b q ∧ b q ≤ 255 := h.1.1.le q
theorem RD.fin (h : RD S b law n N i o l) : b (tpos b N) = -1 := by rw [h.1.2.2.2.2.2]; exact h.1.1.2.2 n (Nat.le_refl _)
theorem RD.ne (h : RD S b law n N i o l) (hi : i < N) : ¬ b (tpos b i) = -1 := (h.1.2.2.2.2.1 i hi).2.2.2
theorem RD.lt (h : RD S b law n N i o l) (hb : ¬ b (tpos b i) = -1) : i < N := by
  by_cases c : i < N
  · exact c
  · have e : i = N := by have := h.2.2.2.1; omega
    rw [e] at hb
    exact absurd h.fin hb
theorem tp_sk (h : TXT b) (k : Nat) : sk b (tpos b k) = tpos b k := by
  match k with
  | 0 => exact sk_sk h 0
  | k + 1 => exact sk_sk h _
theorem RD.tp1 (h : RD S b law n N i o l) {j : Nat} (hj : j < N) : tpos b j < tpos b (j + 1) := by
  have a := te_lt h.tx (h.1.2.2.2.2.1 j hj).2.2.2
  have c := sk_le (b := b) (te b (tpos b j))
  show tpos b j < sk b (te b (tpos b j))
  omega
theorem RD.tpm (h : RD S b law n N i o l) {j k : Nat} (hjk : j < k) (hk : k ≤ N) : tpos b j < tpos b k := by
  induction k with
  | zero => omega
  | succ k ih =>
    have a := h.tp1 (j := k) (by omega)
    by_cases c : j = k
    · rw [c]; exact a
    · have := ih (by omega) (by omega)
      omega
theorem RD.tpn (h : RD S b law n N i o l) {j : Nat} (hj : j ≤ N) : tpos b j ≤ n := by
  have e := h.1.2.2.2.2.2
  by_cases c : j = N
  · rw [c, e]; exact Nat.le_refl _
  · have := h.tpm (j := j) (k := N) (by omega) (Nat.le_refl _)
    omega
/-- the step of the place alone -/
theorem RD.mv (h : RD S b law n N i o l) {x : Int32} {i' : Nat} (hx : x.toInt = (i' : Int)) (h1 : i ≤ i') (h2 : i' ≤ N) : FX Wr S (pu S 17 0 4 x) ∧ RD (pu S 17 0 4 x) b law n N i' o l := by
  have F : FX Wr S (pu S 17 0 4 x) := FX.rf.wr rfl
  obtain ⟨a1, a2, a3, a4, a5, a6, a7, a8⟩ := h
  refine ⟨F, a1.fx F, by rw [ge_puj (by decide)]; exact a2, by rw [ge_pus]; exact hx, h2, by rw [ge_puj (by decide)]; exact a5, a6, ⟨by rw [ge_puj (by decide)]; exact a7.1, fun k hk => by rw [ge_pua (by decide)]; exact a7.2 k hk⟩, by omega⟩
theorem RD.op (h : RD S b law n N i o l) {x : Int32} {o' : Nat} (hx : x.toInt = (o' : Int)) (h2 : o' ≤ 6) : FX Wr S (pu S 17 0 8 x) ∧ RD (pu S 17 0 8 x) b law n N i o' l := by
  have F : FX Wr S (pu S 17 0 8 x) := FX.rf.wr rfl
  obtain ⟨a1, a2, a3, a4, a5, a6, a7, a8⟩ := h
  refine ⟨F, a1.fx F, by rw [ge_puj (by decide)]; exact a2, by rw [ge_puj (by decide)]; exact a3, a4, by rw [ge_pus]; exact hx, h2, ⟨by rw [ge_puj (by decide)]; exact a7.1, fun k hk => by rw [ge_pua (by decide)]; exact a7.2 k hk⟩, a8⟩
theorem x_here (h : RD S b law n N i o l) : zk (F_X4_here S) (fun v T => S = T ∧ v.toInt = kd b (tpos b i)) := by
  have l0 : (0 : Int32).toInt = 0 := by decide
  have l256 : (256 : Int32).toInt = 256 := by decide
  have hN := h.N300
  have he := h.fin
  obtain ⟨⟨a1, a2, a3, a4, a5, a6⟩, b2, b3, b4, b5, b6, b7, b8⟩ := h
  unfold F_X4_here
  refine zk_iv fun x1 e1 => ?_
  have g1 : x1.toInt = (i : Int) := by rw [e1]; exact b3
  refine zk_lt (fun c => absurd c (by omega)) (fun _ => ?_)
  refine zk_ivq (x := x1) e1.symm ?_
  refine zk_iv fun x4 e4 => ?_
  have g4 : x4.toInt = (N : Int) := by rw [e4]; exact a3
  refine zk_le (fun c => ?_) (fun c => ?_)
  · have e : i = N := by omega
    refine zk_some ⟨rfl, ?_⟩
    rw [e, kd_end he]
    exact l256
  · refine zk_ivq (x := x1) e1.symm ?_
    refine zk_gd ⟨by omega, by omega⟩ ?_
    refine zk_iv fun x8 e8 => ?_
    refine zk_some ⟨rfl, ?_⟩
    rw [e8, show x1.toNatClampNeg = i from by have := cn_eq (x := x1) (by omega); omega]
    exact (a5 i (by omega)).1
theorem x_passed (c : Int32) (hc : ¬ c.toInt = 256) (h : RD S b law n N i o l) : zk (F_X4_passed c S) (fun v T => (v.toInt = 0 ∧ S = T ∧ ¬ kd b (tpos b i) = c.toInt) ∨ (v.toInt = 1 ∧ kd b (tpos b i) = c.toInt ∧ i < N ∧ FX Wr S T ∧ RD T b law n N (i + 1) o l)) := by
  have l0 : (0 : Int32).toInt = 0 := by decide
  have l1 : (1 : Int32).toInt = 1 := by decide
  have hN := h.N300
  unfold F_X4_passed
  refine zk_bd (x_here h) (fun v1 T q => ?_)
  obtain ⟨rfl, h1⟩ := q
  refine zk_eq (fun e => ?_) (fun e => zk_some (Or.inl ⟨l0, rfl, by omega⟩))
  have hi : i < N := h.lt (fun q => by rw [kd_end q] at h1; omega)
  refine zk_iv fun x5 e5 => ?_
  have g5 : x5.toInt = (i : Int) := by rw [e5]; exact h.2.2.1
  refine zk_iv fun x6 e6 => ?_
  have g6 : x6.toInt = ((i + 1 : Nat) : Int) := by rw [e6, ti_add (by omega) (by omega), l1]; omega
  refine zk_sv fun S7 E7 => ?_
  have m := h.mv g6 (by omega) (by omega)
  rw [← E7] at m
  exact zk_some (Or.inr ⟨l1, by omega, hi, m.1, m.2⟩)
/-- a fault, at the token's place -/
def FT (b : Nat → Int) (S T : fS) (i : Nat) (k : Int32) : Prop := FX Wr S T ∧ ge T 17 0 10 = k ∧ (ge T 17 0 11).toInt = (tpos b i : Int)
theorem x_fail (k : Int32) (h : RD S b law n N i o l) : zk (F_X4_fail k S) (fun v T => v.toInt = 0 ∧ FT b S T i k) := by
  have l0 : (0 : Int32).toInt = 0 := by decide
  have hN := h.N300
  obtain ⟨⟨a1, a2, a3, a4, a5, a6⟩, b2, b3, b4, b5, b6, b7, b8⟩ := h
  have J : ∀ (t : Int32) (T : fS), T = pu S 17 0 10 k → t.toInt = (tpos b i : Int) → zk (B_X4_fail_40 t T) (fun v T => v.toInt = 0 ∧ FT b S T i k) := by
    intro t T E ht
    unfold B_X4_fail_40
    refine zk_sv fun S1 E1 => ?_
    have F : FX Wr S T := by rw [E]; exact FX.rf.wr rfl
    refine zk_some ⟨l0, by rw [E1]; exact F.wr rfl, ?_, ?_⟩
    · rw [E1, ge_puj (by decide), E, ge_pus]
    · rw [E1, ge_pus]; exact ht
  unfold F_X4_fail
  refine zk_sv fun S3 E3 => ?_
  refine zk_iv fun x4 e4 => ?_
  have g4 : x4.toInt = (i : Int) := by rw [e4, E3, ge_puj (by decide)]; exact b3
  refine zk_lt (fun c => absurd c (by omega)) (fun _ => ?_)
  refine zk_ivq (x := x4) e4.symm ?_
  refine zk_iv fun x7 e7 => ?_
  have g7 : x7.toInt = (N : Int) := by rw [e7, E3, ge_puj (by decide)]; exact a3
  refine zk_le (fun c => ?_) (fun c => ?_)
  · unfold B_X4_fail_36
    refine zk_iv fun x2 e2 => ?_
    refine J x2 S3 E3 ?_
    rw [e2, E3, ge_puj (by decide), show i = N from by omega, a6]
    exact a2
  · refine zk_ivq (x := x4) e4.symm ?_
    refine zk_gd ⟨by omega, by omega⟩ ?_
    refine zk_iv fun x11 e11 => ?_
    refine J x11 S3 E3 ?_
    rw [e11, E3, ge_pua (by decide), show x4.toNatClampNeg = i from by have := cn_eq (x := x4) (by omega); omega]
    exact (a5 i (by omega)).2.1
/-- a fault whose answer is passed on -/
theorem x_failg (k : Int32) (h : RD S b law n N i o l) : zk (bd (F_X4_fail k S) (fun v T => gd (v = 0 ∨ v = 1) (some (v, T)))) (fun v T => v.toInt = 0 ∧ FT b S T i k) := by
  refine zk_bd (x_fail k h) (fun v T q => ?_)
  exact zk_gd (Or.inl (of_toInt (by rw [q.1]; decide))) (zk_some q)
def RZ (S : fS) (b : Nat → Int) (law : Bool) (n N i o : Nat) (l : List Int32) : Prop := LX S b n N ∧ law = decide (¬ ge S 17 0 9 = 0) ∧ (ge S 17 0 4).toInt = (i : Int) ∧ i ≤ N ∧ (ge S 17 0 8).toInt = (o : Int) ∧ o ≤ 6 ∧ CD S l
theorem x_emitz (c : Int32) (h : RD S b law n N i o l) (hl : l.length < 300) : zk (F_X4_emit c S) (fun _ T => FX Wr S T ∧ RZ T b law n N i o (l ++ [c])) := by
  have l300 : (300 : Int32).toInt = 300 := by decide
  have l1 : (1 : Int32).toInt = 1 := by decide
  obtain ⟨b1, b2, b3, b4, b5, b6, b7, b8⟩ := h
  unfold F_X4_emit
  refine zk_iv fun x1 e1 => ?_
  have g1 : x1.toInt = (l.length : Int) := by rw [e1]; exact b7.1
  have hr : x1.toNatClampNeg = l.length := by have := cn_eq (x := x1) (by omega); omega
  refine zk_le (fun c => absurd c (by omega)) (fun _ => ?_)
  refine zk_ivq (x := x1) e1.symm ?_
  refine zk_gd ⟨by omega, by omega⟩ ?_
  refine zk_sv fun S5 E5 => ?_
  refine zk_ivq (x := x1) (by rw [E5, ge_pua (by decide)]; exact e1.symm) ?_
  refine zk_iv fun x7 e7 => ?_
  have g7 : x7.toInt = ((l.length + 1 : Nat) : Int) := by rw [e7, ti_add (by omega) (by omega), l1]; omega
  refine zk_sv fun S8 E8 => ?_
  rw [hr] at E5
  have F5 : FX Wr S S5 := by rw [E5]; exact FX.rf.wr rfl
  have F8 : FX Wr S S8 := by rw [E8]; exact F5.wr rfl
  have el : (l ++ [c]).length = l.length + 1 := by rw [List.length_append]; rfl
  refine zk_some ⟨F8, b1.fx F8, by rw [F8.1 17 0 9 rfl]; exact b2, ?_, b4, ?_, b6, ⟨?_, fun k hk => ?_⟩⟩
  · rw [E8, ge_puj (by decide), E5, ge_pua (by decide)]; exact b3
  · rw [E8, ge_puj (by decide), E5, ge_pua (by decide)]; exact b5
  · rw [E8, ge_pus, el]; exact g7
  · rw [el] at hk
    rw [E8, ge_pua (by decide), E5]
    by_cases d : k = l.length
    · rw [d, ge_pus, List.getD_eq_getElem?_getD, List.getElem?_append_right (Nat.le_refl _), Nat.sub_self]
      rfl
    · rw [ge_puj d, List.getD_eq_getElem?_getD, List.getElem?_append_left (by omega), ← List.getD_eq_getElem?_getD]
      exact b7.2 k (by omega)
theorem x_emit (c : Int32) (h : RD S b law n N i o l) (hl : l.length + 1 ≤ i) : zk (F_X4_emit c S) (fun _ T => FX Wr S T ∧ RD T b law n N i o (l ++ [c])) := by
  have hN := h.N300
  have hi := h.2.2.2.1
  refine zk_imp (x_emitz c h (by omega)) (fun _ T q => ?_)
  obtain ⟨F, t1, t2, t3, t4, t5, t6, t7⟩ := q
  exact ⟨F, t1, t2, t3, t4, t5, t6, t7, by rw [List.length_append]; exact hl⟩
/-- the code of a token, and then the next token -/
theorem x_emitat (c : Int32) (h : RD S b law n N i o l) (hi : i < N) : zk (bd (F_X4_emit c S) (fun _ T => iv (ge T 17 0 4) (fun x => iv (x + (1 : Int32)) (fun y => sv (pu T 17 0 4 y) (fun U => some ((1 : Int32), U)))))) (fun v U => v.toInt = 1 ∧ FX Wr S U ∧ RD U b law n N (i + 1) o (l ++ [c])) := by
  have l1 : (1 : Int32).toInt = 1 := by decide
  have hN := h.N300
  have h8 := h.2.2.2.2.2.2.2
  refine zk_bd (x_emitz c h (by omega)) (fun _ T q => ?_)
  obtain ⟨F, t1, t2, t3, t4, t5, t6, t7⟩ := q
  refine zk_iv fun x5 e5 => ?_
  refine zk_iv fun x6 e6 => ?_
  have g6 : x6.toInt = ((i + 1 : Nat) : Int) := by rw [e6, e5, ti_add (by omega) (by omega), l1, t3]; omega
  refine zk_sv fun S7 E7 => ?_
  have F7 : FX Wr T S7 := by rw [E7]; exact FX.rf.wr rfl
  exact zk_some ⟨l1, F.tr F7, t1.fx F7, by rw [F7.1 17 0 9 rfl]; exact t2, by rw [E7, ge_pus]; exact g6, by omega, by rw [E7, ge_puj (by decide)]; exact t5, t6, ⟨by rw [E7, ge_puj (by decide)]; exact t7.1, fun k hk => by rw [E7, ge_pua (by decide)]; exact t7.2 k hk⟩, by rw [List.length_append]; show l.length + 1 ≤ i + 1; omega⟩
theorem x_opened (c : Int32) (hc : ¬ c.toInt = 256) (h : RD S b law n N i o l) : zk (F_X4_opened c S) (fun v T => (v.toInt = 0 ∧ ((¬ kd b (tpos b i) = c.toInt ∧ FT b S T i 1) ∨ (kd b (tpos b i) = c.toInt ∧ o = 6 ∧ FT b S T i 3))) ∨ (v.toInt = 1 ∧ kd b (tpos b i) = c.toInt ∧ i < N ∧ o < 6 ∧ FX Wr S T ∧ RD T b law n N (i + 1) (o + 1) l)) := by
  have l0 : (0 : Int32).toInt = 0 := by decide
  have l1 : (1 : Int32).toInt = 1 := by decide
  have l6 : (6 : Int32).toInt = 6 := by decide
  have hN := h.N300
  unfold F_X4_opened
  refine zk_bd (x_here h) (fun v1 T q => ?_)
  obtain ⟨rfl, h1⟩ := q
  refine zk_eq (fun e => ?_) (fun e => zk_imp (x_failg 1 h) (fun v T q => Or.inl ⟨q.1, Or.inl ⟨by omega, q.2⟩⟩))
  have hi : i < N := h.lt (fun q => by rw [kd_end q] at h1; omega)
  refine zk_iv fun x5 e5 => ?_
  have g5 : x5.toInt = (o : Int) := by rw [e5]; exact h.2.2.2.2.1
  have ho := h.2.2.2.2.2.1
  refine zk_lt (fun c2 => ?_) (fun c2 => zk_imp (x_failg 3 h) (fun v T q => Or.inl ⟨q.1, Or.inr ⟨by omega, by omega, q.2⟩⟩))
  refine zk_ivq (x := x5) e5.symm ?_
  refine zk_iv fun x8 e8 => ?_
  have g8 : x8.toInt = ((o + 1 : Nat) : Int) := by rw [e8, ti_add (by omega) (by omega), l1]; omega
  refine zk_sv fun S9 E9 => ?_
  have m := h.op g8 (by omega)
  rw [← E9] at m
  refine zk_iv fun x10 e10 => ?_
  have g10 : x10.toInt = (i : Int) := by rw [e10]; exact m.2.2.2.1
  refine zk_iv fun x11 e11 => ?_
  have g11 : x11.toInt = ((i + 1 : Nat) : Int) := by rw [e11, ti_add (by omega) (by omega), l1]; omega
  refine zk_sv fun S12 E12 => ?_
  have m2 := m.2.mv g11 (by omega) (by omega)
  rw [← E12] at m2
  exact zk_some (Or.inr ⟨l1, by omega, hi, by omega, m.1.tr m2.1, m2.2⟩)
theorem x_closed (c : Int32) (hc : ¬ c.toInt = 256) (h : RD S b law n N i (o + 1) l) : zk (F_X4_closed c S) (fun v T => (v.toInt = 0 ∧ ¬ kd b (tpos b i) = c.toInt ∧ FT b S T i 1) ∨ (v.toInt = 1 ∧ kd b (tpos b i) = c.toInt ∧ i < N ∧ FX Wr S T ∧ RD T b law n N (i + 1) o l)) := by
  have l0 : (0 : Int32).toInt = 0 := by decide
  have l1 : (1 : Int32).toInt = 1 := by decide
  unfold F_X4_closed
  refine zk_bd (x_passed c hc h) (fun v1 T q => ?_)
  rcases q with ⟨q1, rfl, q3⟩ | ⟨q1, q2, q3, q4, q5⟩
  · exact zk_bbt (of_toInt (by rw [q1]; exact l0.symm)) (zk_imp (x_failg 1 h) (fun v T q => Or.inl ⟨q.1, q3, q.2⟩))
  · refine zk_eq (fun e => absurd e (by omega)) (fun _ => ?_)
    refine zk_iv fun x5 e5 => ?_
    have g5 : x5.toInt = ((o + 1 : Nat) : Int) := by rw [e5]; exact q5.2.2.2.2.1
    have ho := q5.2.2.2.2.2.1
    refine zk_iv fun x6 e6 => ?_
    have g6 : x6.toInt = (o : Int) := by rw [e6, ti_sub (by omega) (by omega), l1]; omega
    refine zk_sv fun S7 E7 => ?_
    have m := q5.op g6 (by omega)
    rw [← E7] at m
    exact zk_some (Or.inr ⟨l1, q2, q3, q4.tr m.1, m.2⟩)
theorem x_comparison (h : RD S b law n N i o l) : zk (F_X4_comparison S) (fun v T => S = T ∧ ((kd b (tpos b i) = 60 ∧ v = 2006) ∨ (kd b (tpos b i) = 61 ∧ v = 2008) ∨ (kd b (tpos b i) = 62 ∧ v = 2007) ∨ (¬ kd b (tpos b i) = 60 ∧ ¬ kd b (tpos b i) = 61 ∧ ¬ kd b (tpos b i) = 62 ∧ v = -1))) := by
  unfold F_X4_comparison
  refine zk_bd (x_here h) (fun v1 T q => ?_)
  obtain ⟨rfl, h1⟩ := q
  refine zk_bb (fun c => zk_some ⟨rfl, Or.inl ⟨by omega, rfl⟩⟩) (fun c => ?_)
  refine zk_bb (fun c2 => zk_some ⟨rfl, Or.inr (Or.inl ⟨by omega, rfl⟩)⟩) (fun c2 => ?_)
  exact zk_bb (fun c3 => zk_some ⟨rfl, Or.inr (Or.inr (Or.inl ⟨by omega, rfl⟩))⟩) (fun c3 => zk_some ⟨rfl, Or.inr (Or.inr (Or.inr ⟨by omega, by omega, by omega, rfl⟩))⟩)
end RDS
