/-! the class's reader, exactly: clauses, whole texts -/
section VCL
variable {b : Nat → Int} {law : Bool} {n N i cl : Nat} {l : List Int32} {S T : fS}
def CQ (b : Nat → Int) (law : Bool) (n N i cl : Nat) (l : List Int32) (v : Int32) (T : fS) : Prop :=
  (v.toInt = 0 ∧ ∀ (env : Nat → Int32) (g : G3) (q : Nat), sk b q = tpos b i → ∃ e : Int × Nat, nCk b law env q cl g = .error e) ∨
  (v.toInt = 1 ∧ ∃ (i' : Nat) (m : List Int32), RD T b law n N i' 0 (l ++ m) ∧ i < i' ∧ ∀ (env : Nat → Int32) (g : G3) (q : Nat), sk b q = tpos b i → ∃ (q' : Nat) (g' : G3), nCk b law env q cl g = .ok (q', g') ∧ sk b q' = tpos b i' ∧ ∀ st : List Int32, xs env m (st, g) = (st, g'))
theorem wix_kd (h : RD S b law n N i 0 l) : (wixq (wc b (tpos b i)) = -1 ↔ ¬ (260 ≤ kd b (tpos b i) ∧ kd b (tpos b i) ≤ 262)) ∧ (260 ≤ kd b (tpos b i) ∧ kd b (tpos b i) ≤ 262 → wixq (wc b (tpos b i)) = kd b (tpos b i) - 260) := by
  have hb := h.bd
  by_cases yl : 97 ≤ b (tpos b i) ∧ b (tpos b i) ≤ 122
  · rw [kd_lt yl]
    unfold wixq wkd
    omega
  · rw [wc_no h.tx yl]
    have e : wixq 0 = -1 := by decide
    have e2 : ¬ (260 ≤ kd b (tpos b i) ∧ kd b (tpos b i) ≤ 262) := by
      unfold kd
      rw [if_neg yl]
      omega
    exact ⟨⟨fun _ => e2, fun _ => e⟩, fun q => absurd q e2⟩
/-- the end of a clause: its code, its sign -/
theorem v_90 {c w t : Int32} {mu : List Int32} (h : RD S b law n N i 0 l) (hc : 0 ≤ c.toInt ∧ c.toInt ≤ 2500) (hw : 0 ≤ w.toInt ∧ w.toInt ≤ 300) (ht : t = c + w - 260) (hl : l.length + 1 ≤ i) : zk (B_X4_clause_90 w c S) (fun v T => FX Wr S T ∧ ((v.toInt = 0 ∧ ¬ b (tpos b i) = 59) ∨ (v.toInt = 1 ∧ b (tpos b i) = 59 ∧ i < N ∧ tpos b (i + 1) = sk b (tpos b i + 1) ∧ RD T b law n N (i + 1) 0 (l ++ [t])))) := by
  have l0 : (0 : Int32).toInt = 0 := by decide
  have l1 : (1 : Int32).toInt = 1 := by decide
  have l59 : (59 : Int32).toInt = 59 := by decide
  unfold B_X4_clause_90
  refine zk_iv fun x1 e1 => ?_
  refine zk_iv fun x2 e2 => ?_
  have e3 : x2 = t := by rw [e2, e1, ht]
  rw [e3]
  refine zk_bd (x_emit t h hl) (fun _ S4 u => ?_)
  obtain ⟨F4, h4⟩ := u
  refine zk_bd (x_passed 59 (by decide) h4) (fun v6 S7 u => ?_)
  rcases u with ⟨u1, rfl, u3⟩ | ⟨u1, u2, u3, u4, u5⟩
  · refine zk_bbt (of_toInt (by rw [u1]; exact l0.symm)) ?_
    rw [l59] at u3
    have nb := h4.ns u3 (by decide) (by decide) (by decide) (by decide)
    refine zk_bd (x_fail 1 h4) (fun v10 S11 u => ?_)
    exact zk_bbt (of_toInt (by rw [u.1]; exact l0.symm)) (zk_some ⟨F4.tr u.2.1, Or.inl ⟨l0, nb⟩⟩)
  · refine zk_bbf (fun e => by rw [e] at u1; omega) ?_
    rw [l59] at u2
    obtain ⟨c1, c2⟩ := h4.sg u2 (by decide) (by decide) (by decide) (by decide)
    unfold B_X4_clause_116
    exact zk_some ⟨F4.tr u4, Or.inr ⟨l1, c1, u3, c2, u5⟩⟩
theorem nZ_ok {q : Nat} {g : G3} (h : b (sk b q) = 59) : nZ b q g = .ok (sk b q + 1, g) := by unfold nZ; rw [if_pos h]
theorem nZ_no {q : Nat} {g : G3} (h : ¬ b (sk b q) = 59) : nZ b q g = .error (1, sk b q) := by unfold nZ; rw [if_neg h]
theorem v_clause {p1 : Int32} (h : RD S b law n N i 0 l) (hc : p1.toInt = (cl : Int)) (h12 : cl ≤ 12) : zk (F_X4_clause p1 S) (fun v T => FX Wr S T ∧ CQ b law n N i cl l v T) := by
  have l0 : (0 : Int32).toInt = 0 := by decide
  have l1 : (1 : Int32).toInt = 1 := by decide
  have l12 : (12 : Int32).toInt = 12 := by decide
  have l260 : (260 : Int32).toInt = 260 := by decide
  have l262 : (262 : Int32).toInt = 262 := by decide
  have l2020 : (2020 : Int32).toInt = 2020 := by decide
  have l2030 : (2030 : Int32).toInt = 2030 := by decide
  have htx := h.tx
  have hN := h.N300
  obtain ⟨wx1, wx2⟩ := wix_kd h
  have H := n_R4 b law n N 64
  unfold F_X4_clause
  refine zk_bd (x_here h) (fun v15 S16 q => ?_)
  obtain ⟨rfl, hv⟩ := q
  refine zk_bd (w_in v15 260 262 S) (fun v18 S19 q => ?_)
  obtain ⟨rfl, hin⟩ := q
  rw [l260, l262, hv] at hin
  refine zk_eq (fun c => ?_) (fun c => ?_)
  · refine zk_imp (x_failg 1 h) (fun v T u => ⟨u.2.1, Or.inl ⟨u.1, fun env g q hq => ?_⟩⟩)
    unfold nCk
    rw [hq, if_pos (wx1.2 (by omega))]
    exact ⟨_, rfl⟩
  · have hk : 260 ≤ kd b (tpos b i) ∧ kd b (tpos b i) ≤ 262 := by omega
    have wk := wx2 hk
    refine zk_lt (fun c2 => ?_) (fun c2 => ?_)
    · have hcl : ¬ cl = 12 := by omega
      have hi : i < N := h.lt (fun q => by rw [kd_end q] at hk; omega)
      obtain ⟨k0, hk0⟩ : ∃ k0 : Int, kd b (tpos b i) = k0 := ⟨_, rfl⟩
      obtain ⟨_, _, nx⟩ := h.wd (c := k0) hk0 (by omega)
      refine zk_iv fun x23 e23 => ?_
      refine zk_iv fun x24 e24 => ?_
      have g23 : x23.toInt = (i : Int) := by rw [e23]; exact h.2.2.1
      have g24 : x24.toInt = ((i + 1 : Nat) : Int) := by rw [e24, ti_add (by omega) (by omega), l1]; omega
      refine zk_sv fun S25 E25 => ?_
      have m25 := h.mv g24 (by omega) (by omega)
      rw [← E25] at m25
      have hl8 := h.2.2.2.2.2.2.2
      unfold F_X4_sum
      refine zk_bd (H.2.2.2.1 0 S25 (i + 1) 0 l m25.2 (by omega)) (fun v26 S27 u => ?_)
      obtain ⟨F27, P27⟩ := u
      have FF := m25.1.tr F27
      -- what the walk does up to there
      have C0 : ∀ (env : Nat → Int32) (g : G3) (q : Nat), sk b q = tpos b i → nCk b law env q cl g = (match wS b law env (rn b 97 122 (tpos b i)) with | .error e => .error e | .ok z => nI9 b law env (kd b (tpos b i) - 260) g z.1 z.2) := by
        intro env g q hq
        unfold nCk
        rw [hq, if_neg (by rw [wk]; omega), if_neg hcl, wk]
        cases wS b law env (rn b 97 122 (tpos b i)) <;> rfl
      refine zk_eq (fun c => ?_) (fun c => ?_)
      · refine zk_some ⟨FF, Or.inl ⟨l0, fun env g q hq => ?_⟩⟩
        obtain ⟨e, e1, _⟩ := P27.f (by omega) (env, 64, rn b 97 122 (tpos b i)) ⟨by dsimp only; omega, nx.symm⟩
        have e1 : wS b law env (rn b 97 122 (tpos b i)) = .error e := e1
        rw [C0 env g q hq, e1]
        exact ⟨e, rfl⟩
      · obtain ⟨i1, ms, t1, t2, t3, t4⟩ := P27.t (by omega)
        have C1 : ∀ (env : Nat → Int32) (g : G3) (q : Nat), sk b q = tpos b i → ∃ (p : Nat) (y : Int32), sk b p = tpos b i1 ∧ nCk b law env q cl g = nI9 b law env (kd b (tpos b i) - 260) g p y ∧ ∀ (st : List Int32) (g : G3), xs env ms (st, g) = (y :: st, g) := by
          intro env g q hq
          obtain ⟨p, y, w1, w2, _, w4⟩ := t4 (env, 64, rn b 97 122 (tpos b i)) ⟨by dsimp only; omega, nx.symm⟩
          have w1 : wS b law env (rn b 97 122 (tpos b i)) = .ok (p, y) := w1
          refine ⟨p, y, w2, ?_, w4⟩
          rw [C0 env g q hq, w1]
        refine zk_bd (x_passed 263 (by decide) t1) (fun v30 S31 u => ?_)
        have hlen : (l ++ ms).length + 1 ≤ i1 := by rw [List.length_append]; omega
        rcases u with ⟨u1, rfl, u3⟩ | ⟨u1, u2, u3, u4, u5⟩
        · refine zk_bbt (of_toInt (by rw [u1]; exact l0.symm)) ?_
          have nw : ¬ wc b (tpos b i1) = 249 := t1.nw u3 (by decide) (by decide)
          unfold B_X4_clause_76
          refine zk_bbt (of_toInt (by rw [u1]; exact l0.symm)) ?_
          refine zk_imp (v_90 (mu := ms) t1 (by omega) (by omega) rfl hlen) (fun v T u => ?_)
          obtain ⟨F, u⟩ := u
          refine ⟨FF.tr F, ?_⟩
          rcases u with ⟨r1, r2⟩ | ⟨r1, r2, r3, r4, r5⟩
          · refine Or.inl ⟨r1, fun env g q hq => ?_⟩
            obtain ⟨p, y, k1, k2, k3⟩ := C1 env g q hq
            rw [k2]
            unfold nI9
            rw [k1, if_neg nw, nZ_no (by rw [k1]; exact r2)]
            exact ⟨_, rfl⟩
          · rw [List.append_assoc] at r5
            refine Or.inr ⟨r1, i1 + 1, _, r5, by omega, fun env g q hq => ?_⟩
            obtain ⟨p, y, k1, k2, k3⟩ := C1 env g q hq
            have gt : (2020 + v15 - 260 : Int32).toInt = 2020 + (kd b (tpos b i) - 260) := by
              have a1 : (2020 + v15 : Int32).toInt = 2020 + v15.toInt := by rw [ti_add (by omega) (by omega), l2020]
              rw [ti_sub (by omega) (by omega), a1, l260, hv]
              omega
            refine ⟨tpos b i1 + 1, tl3 (kd b (tpos b i) - 260) y g, ?_, r4.symm, fun st => ?_⟩
            · rw [k2]
              unfold nI9
              rw [k1, if_neg nw, nZ_ok (by rw [k1]; exact r2), k1]
            · rw [xs_app, k3, xs_one, xw_tell (by omega) (by omega), gt]
              congr 2
              omega
        · refine zk_bbf (fun e => by rw [e] at u1; omega) ?_
          obtain ⟨wk1, _, nx1⟩ := t1.wd (c := 263) u2 (by decide)
          have hw := (wkd_in wk1).2.2.2.1 rfl
          unfold F_X4_condition
          refine zk_bd (H.1 0 S31 (i1 + 1) 0 (l ++ ms) u5 (by omega)) (fun v34 S35 u => ?_)
          obtain ⟨F35, P35⟩ := u
          have FG := (FF.tr u4).tr F35
          refine zk_eq (fun c => ?_) (fun c => ?_)
          · refine zk_some ⟨FG, Or.inl ⟨l0, fun env g q hq => ?_⟩⟩
            obtain ⟨p, y, k1, k2, k3⟩ := C1 env g q hq
            obtain ⟨e, e1, _⟩ := P35.f (by omega) (env, 64, rn b 97 122 (tpos b i1)) ⟨by dsimp only; omega, nx1.symm⟩
            have e1 : wO b law env (rn b 97 122 (tpos b i1)) = .error e := e1
            rw [k2]
            unfold nI9
            rw [k1, if_pos hw, e1]
            exact ⟨e, rfl⟩
          · obtain ⟨i2, mc, s1, s2, s3, s4⟩ := P35.t (by omega)
            have hlen2 : (l ++ ms ++ mc).length + 1 ≤ i2 := by
              have := s1.2.2.2.2.2.2.2
              rw [List.length_append, List.length_append]
              omega
            unfold B_X4_clause_76
            refine zk_bbf (fun e => by rw [e] at u1; omega) ?_
            refine zk_imp (v_90 (mu := ms) s1 (by omega) (by omega) rfl hlen2) (fun v T u => ?_)
            obtain ⟨F, u⟩ := u
            refine ⟨FG.tr F, ?_⟩
            have C2 : ∀ (env : Nat → Int32) (g : G3) (q : Nat), sk b q = tpos b i → ∃ (p : Nat) (y z : Int32), sk b p = tpos b i2 ∧ nCk b law env q cl g = nZ b p (if z = 0 then g else tl3 (kd b (tpos b i) - 260) y g) ∧ ∀ (st : List Int32) (g : G3), xs env (ms ++ mc) (st, g) = (z :: y :: st, g) := by
              intro env g q hq
              obtain ⟨p, y, k1, k2, k3⟩ := C1 env g q hq
              obtain ⟨p2, z, w1, w2, _, w4⟩ := s4 (env, 64, rn b 97 122 (tpos b i1)) ⟨by dsimp only; omega, nx1.symm⟩
              have w1 : wO b law env (rn b 97 122 (tpos b i1)) = .ok (p2, z) := w1
              have w4 : ∀ (st : List Int32) (g : G3), xs env mc (st, g) = (z :: st, g) := w4
              refine ⟨p2, y, z, w2, ?_, fun st g => by rw [xs_app, k3, w4]⟩
              rw [k2]
              unfold nI9
              rw [k1, if_pos hw, w1]
            rcases u with ⟨r1, r2⟩ | ⟨r1, r2, r3, r4, r5⟩
            · refine Or.inl ⟨r1, fun env g q hq => ?_⟩
              obtain ⟨p, y, z, k1, k2, k3⟩ := C2 env g q hq
              rw [k2, nZ_no (by rw [k1]; exact r2)]
              exact ⟨_, rfl⟩
            · rw [List.append_assoc, List.append_assoc] at r5
              refine Or.inr ⟨r1, i2 + 1, _, r5, by omega, fun env g q hq => ?_⟩
              obtain ⟨p, y, z, k1, k2, k3⟩ := C2 env g q hq
              have gt : (2030 + v15 - 260 : Int32).toInt = 2030 + (kd b (tpos b i) - 260) := by
                have a1 : (2030 + v15 : Int32).toInt = 2030 + v15.toInt := by rw [ti_add (by omega) (by omega), l2030]
                rw [ti_sub (by omega) (by omega), a1, l260, hv]
                omega
              refine ⟨tpos b i2 + 1, if z = 0 then g else tl3 (kd b (tpos b i) - 260) y g, ?_, r4.symm, fun st => ?_⟩
              · rw [k2, nZ_ok (by rw [k1]; exact r2), k1]
              · rw [← List.append_assoc, xs_app, k3, xs_one, xw_tif (by omega), gt, show 2030 + (kd b (tpos b i) - 260) - 2030 = kd b (tpos b i) - 260 from by omega]
    · have hcl : cl = 12 := by omega
      refine zk_imp (x_failg 3 h) (fun v T u => ⟨u.2.1, Or.inl ⟨u.1, fun env g q hq => ?_⟩⟩)
      unfold nCk
      rw [hq, if_neg (by rw [wk]; omega), if_pos hcl]
      exact ⟨_, rfl⟩
def z3 : G3 := (0, 0, 0)
/-- what is read of a whole program -/
def RPq (b : Nat → Int) (v : Int32) (T : fS) : Prop :=
  (v.toInt = 0 ∧ ∀ env : Nat → Int32, ∃ e : Int × Nat, nW b false env 302 0 0 (0, 0, 0) = .error e) ∨
  (v.toInt = 1 ∧ ∃ l : List Int32, CD T l ∧ l.length ≤ 300 ∧ ∀ env : Nat → Int32, ∃ g : G3, nW b false env 302 0 0 (0, 0, 0) = .ok g ∧ xs env l ([], (0, 0, 0)) = ([], g))
def RLq (b : Nat → Int) (v : Int32) (T : fS) : Prop :=
  (v.toInt = 0 ∧ ∀ env : Nat → Int32, ∃ e : Int × Nat, nL b true env = .error e) ∨
  (v.toInt = 1 ∧ ∃ l : List Int32, CD T l ∧ l.length ≤ 300 ∧ ∀ env : Nat → Int32, ∃ y : Int32, nL b true env = .ok y ∧ ∀ g : G3, xs env l ([], g) = ([y], g))
theorem nW_st {law : Bool} {env : Nat → Int32} {f p cl : Nat} {g : G3} (h : b (sk b p) = -1) : nW b law env (f + 1) p cl g = .ok g := by unfold nW; rw [if_pos h]
theorem nW_go {law : Bool} {env : Nat → Int32} {f p cl : Nat} {g : G3} (h : ¬ b (sk b p) = -1) : nW b law env (f + 1) p cl g = (match nCk b law env p cl g with | .error e => .error e | .ok z => nW b law env f z.1 (cl + 1) z.2) := by
  conv => lhs; unfold nW
  rw [if_neg h]
  cases nCk b law env p cl g <;> rfl
theorem RD.start {S : fS} {p3 : Int32} (hX : LX S b n N) (h9 : ge S 17 0 9 = p3) (hl : law = decide (¬ p3 = 0)) (h4 : (ge S 17 0 4).toInt = 0) (h7 : (ge S 17 0 7).toInt = 0) (h8 : (ge S 17 0 8).toInt = 0) : RD S b law n N 0 0 [] := ⟨hX, by rw [h9]; exact hl, h4, Nat.zero_le _, h8, Nat.zero_le _, ⟨h7, fun k hk => absurd hk (Nat.not_lt_zero _)⟩, Nat.zero_le _⟩
theorem Wr_b : ∀ a i j : Nat, (Nat.beq a 21 || Wb a i j) = false → Wr a i j = false := by
  intro a i j h
  unfold Wb at h
  unfold Wr
  cases h0 : Nat.beq a 21 <;> cases h1 : Nat.beq a 18 <;> cases h2 : Nat.beq a 19 <;> cases h3 : Nat.beq a 20 <;> cases h4 : Nat.beq a 17 <;> rw [h0, h1, h2, h3, h4] at h <;> first | rfl | cases h
def Wvq (a i j : Nat) : Bool := Nat.beq a 21 || Wb a i j
theorem Wb_vq : ∀ a i j : Nat, Wvq a i j = false → Wb a i j = false := by
  intro a i j h
  unfold Wvq at h
  cases h0 : Nat.beq a 21 <;> rw [h0] at h
  · exact h
  · cases h
theorem v_readProgram {p2 : Int32} (hT : TB S b n) (hp : p2.toInt = (n : Int)) : zk (F_X4_readProgram p2 S) (fun v T => FX Wvq S T ∧ RPq b v T) := by
  have l0 : (0 : Int32).toInt = 0 := by decide
  have l1 : (1 : Int32).toInt = 1 := by decide
  have l256 : (256 : Int32).toInt = 256 := by decide
  have l300 : (300 : Int32).toInt = 300 := by decide
  unfold F_X4_readProgram
  refine zk_bd (x_begin hT hp (Or.inl rfl)) (fun _ S12 q => ?_)
  obtain ⟨F12, h9, h4, h7, h8, _, _, N, hX⟩ := q
  have hn300 := hT.1
  have h0 : RD S12 b false n N 0 0 [] := RD.start hX h9 (by decide) h4 h7 h8
  have FS : FX Wvq S S12 := F12.sub Wb_vq
  refine zk_lp (fun (z : Int32) T => FX Wvq S T ∧ ∃ (i cl : Nat) (l : List Int32), RD T b false n N i 0 l ∧ z.toInt = (cl : Int) ∧ cl ≤ i ∧ cl ≤ 12 ∧ ∀ env : Nat → Int32, ∃ (p f : Nat) (g : G3), sk b p = tpos b i ∧ 302 ≤ f + tpos b i ∧ nW b false env 302 0 0 (0, 0, 0) = nW b false env f p cl g ∧ xs env l ([], (0, 0, 0)) = ([], g)) (fun _ T => (302 - (ge T 17 0 4).toInt).toNat) (fun _ _ (v : Int32) T => FX Wvq S T ∧ RPq b v T) ?_ 0 S12 ⟨FS, 0, 0, [], h0, l0, Nat.le_refl _, by omega, fun env => ⟨0, 302, (0, 0, 0), rfl, by omega, rfl, rfl⟩⟩ (by show (302 - (ge S12 17 0 4).toInt).toNat < 4294967296; omega)
  intro k z T hI hk
  obtain ⟨FT, i, cl, l, h, hz, hci, hc12, hE⟩ := hI
  have hN := h.N300
  have hiN := h.2.2.2.1
  have hat := h.2.2.1
  have htp := h.tpn hiN
  unfold B_X4_readProgram_9
  refine zk_lt (fun c => absurd c (by omega)) (fun _ => ?_)
  refine zk_bd (x_here h) (fun v2 S3 q => ?_)
  obtain ⟨rfl, hv⟩ := q
  refine zk_eq (fun c => ?_) (fun c => ?_)
  · have hb : b (tpos b i) = -1 := (kd_256 h.bd.2).1 (by omega)
    refine zk_some ⟨FT, Or.inr ⟨l1, l, h.2.2.2.2.2.2.1, by have := h.2.2.2.2.2.2.2; omega, fun env => ?_⟩⟩
    obtain ⟨p, f, g, k1, k2, k3, k4⟩ := hE env
    obtain ⟨f', rfl⟩ : ∃ f' : Nat, f = f' + 1 := ⟨f - 1, by omega⟩
    exact ⟨g, by rw [k3, nW_st (by rw [k1]; exact hb)], k4⟩
  · have hb : ¬ b (tpos b i) = -1 := fun q => c (by rw [hv, kd_end q, l256])
    refine zk_bd (v_clause h hz hc12) (fun v6 S7 q => ?_)
    obtain ⟨F7, P7⟩ := q
    have F7 : FX Wvq S S7 := FT.tr (F7.sub (fun a i j q => Wr_b a i j q))
    rcases P7 with ⟨q1, q2⟩ | ⟨q1, i', m, q3, q4, q5⟩
    · refine zk_bbt (of_toInt (by rw [q1]; exact l0.symm)) (zk_some ⟨F7, Or.inl ⟨l0, fun env => ?_⟩⟩)
      obtain ⟨p, f, g, k1, k2, k3, k4⟩ := hE env
      obtain ⟨f', rfl⟩ : ∃ f' : Nat, f = f' + 1 := ⟨f - 1, by omega⟩
      obtain ⟨e, he⟩ := q2 env g p k1
      exact ⟨e, by rw [k3, nW_go (by rw [k1]; exact hb), he]⟩
    · refine zk_bbf (fun e => by rw [e] at q1; omega) ?_
      refine zk_iv fun x10 e10 => ?_
      have g10 : x10.toInt = ((cl + 1 : Nat) : Int) := by rw [e10, ti_inc (by omega)]; omega
      have hat' := q3.2.2.1
      have mono := h.tpm (j := i) (k := i') q4 q3.2.2.2.1
      -- a clause that is read is one of the first twelve
      have hc11 : cl + 1 ≤ 12 := by
        by_cases d : cl = 12
        · obtain ⟨p, f, g, k1, k2, k3, k4⟩ := hE (fun _ => 0)
          obtain ⟨q', g', w1, _, _⟩ := q5 (fun _ => 0) g p k1
          unfold nCk at w1
          by_cases c9 : wixq (wc b (sk b p)) = -1
          · rw [if_pos c9] at w1; cases w1
          · rw [if_neg c9, if_pos d] at w1; cases w1
        · omega
      refine hk x10 S7 ⟨F7, i', cl + 1, l ++ m, q3, g10, by omega, hc11, fun env => ?_⟩ (by show (302 - (ge S7 17 0 4).toInt).toNat < (302 - (ge T 17 0 4).toInt).toNat; omega)
      obtain ⟨p, f, g, k1, k2, k3, k4⟩ := hE env
      obtain ⟨f', rfl⟩ : ∃ f' : Nat, f = f' + 1 := ⟨f - 1, by omega⟩
      obtain ⟨q', g', w1, w2, w3⟩ := q5 env g p k1
      refine ⟨q', f', g', w2, by omega, ?_, by rw [xs_app, k4, w3]⟩
      rw [k3, nW_go (by rw [k1]; exact hb), w1]
theorem v_readLaw {p2 : Int32} (hT : TB S b n) (hp : p2.toInt = (n : Int)) : zk (F_X4_readLaw p2 S) (fun v T => FX Wvq S T ∧ RLq b v T) := by
  have l0 : (0 : Int32).toInt = 0 := by decide
  have l1 : (1 : Int32).toInt = 1 := by decide
  have l59 : (59 : Int32).toInt = 59 := by decide
  have l256 : (256 : Int32).toInt = 256 := by decide
  unfold F_X4_readLaw
  refine zk_bd (x_begin hT hp (Or.inr rfl)) (fun _ S2 q => ?_)
  obtain ⟨F2, h9, h4, h7, h8, _, _, N, hX⟩ := q
  have hn300 := hT.1
  have h0 : RD S2 b true n N 0 0 [] := RD.start hX h9 (by decide) h4 h7 h8
  have FS : FX Wvq S S2 := F2.sub Wb_vq
  have htx := h0.tx
  unfold F_X4_condition
  refine zk_bd ((n_R4 b true n N 64).1 0 S2 0 0 [] h0 (by omega)) (fun v4 S5 q => ?_)
  obtain ⟨F5, P5⟩ := q
  have F5 : FX Wvq S S5 := FS.tr (F5.sub (fun a i j q => Wr_b a i j q))
  refine zk_eq (fun c => ?_) (fun c => ?_)
  · refine zk_some ⟨F5, Or.inl ⟨l0, fun env => ?_⟩⟩
    obtain ⟨e, e1, _⟩ := P5.f (by omega) (env, 64, 0) ⟨by dsimp only; omega, rfl⟩
    have e1 : wO b true env 0 = .error e := e1
    unfold nL
    rw [e1]
    exact ⟨e, rfl⟩
  · obtain ⟨i1, m, t1, t2, t3, t4⟩ := P5.t (by omega)
    have C1 : ∀ env : Nat → Int32, ∃ (p : Nat) (y : Int32), sk b p = tpos b i1 ∧ wO b true env 0 = .ok (p, y) ∧ ∀ g : G3, xs env m ([], g) = ([y], g) := by
      intro env
      obtain ⟨p, y, w1, w2, _, w4⟩ := t4 (env, 64, 0) ⟨by dsimp only; omega, rfl⟩
      exact ⟨p, y, w2, w1, fun g => w4 [] g⟩
    refine zk_bd (x_passed 59 (by decide) t1) (fun v8 S9 u => ?_)
    rcases u with ⟨u1, rfl, u3⟩ | ⟨u1, u2, u3, u4, u5⟩
    · refine zk_bbt (of_toInt (by rw [u1]; exact l0.symm)) ?_
      rw [l59] at u3
      have nb := t1.ns u3 (by decide) (by decide) (by decide) (by decide)
      refine zk_imp (x_failg 1 t1) (fun v T u => ⟨F5.tr (u.2.1.sub (fun a i j q => Wr_b a i j q)), Or.inl ⟨u.1, fun env => ?_⟩⟩)
      obtain ⟨p, y, k1, k2, k3⟩ := C1 env
      unfold nL
      rw [k2]
      dsimp only
      rw [k1, if_neg nb]
      exact ⟨_, rfl⟩
    · refine zk_bbf (fun e => by rw [e] at u1; omega) ?_
      rw [l59] at u2
      obtain ⟨c1, c2⟩ := t1.sg u2 (by decide) (by decide) (by decide) (by decide)
      have F9 : FX Wvq S S9 := F5.tr (u4.sub (fun a i j q => Wr_b a i j q))
      refine zk_bd (x_here u5) (fun v12 S13 q => ?_)
      obtain ⟨rfl, hv⟩ := q
      refine zk_eq (fun c => ?_) (fun c => ?_)
      · have hb : b (tpos b (i1 + 1)) = -1 := (kd_256 u5.bd.2).1 (by omega)
        unfold B_X4_readLaw_49
        have hN := u5.N300
        have hiN := u5.2.2.2.1
        refine zk_some ⟨F9, Or.inr ⟨l1, [] ++ m, u5.2.2.2.2.2.2.1, by have := u5.2.2.2.2.2.2.2; omega, fun env => ?_⟩⟩
        obtain ⟨p, y, k1, k2, k3⟩ := C1 env
        refine ⟨y, ?_, k3⟩
        unfold nL
        rw [k2]
        dsimp only
        rw [k1, if_pos c1, ← c2, if_pos hb]
      · have hb : ¬ b (tpos b (i1 + 1)) = -1 := fun q => c (by rw [hv, kd_end q, l256])
        refine zk_bd (x_fail 1 u5) (fun v16 S17 u => ?_)
        refine zk_bbt (of_toInt (by rw [u.1]; exact l0.symm)) (zk_some ⟨F9.tr (u.2.1.sub (fun a i j q => Wr_b a i j q)), Or.inl ⟨l0, fun env => ?_⟩⟩)
        obtain ⟨p, y, k1, k2, k3⟩ := C1 env
        unfold nL
        rw [k2]
        dsimp only
        rw [k1, if_pos c1, ← c2, if_neg hb]
        exact ⟨_, rfl⟩
end VCL
