/-! program: both sides read alike -/
/-- cells alone -/
def CE (W : Nat → Nat → Nat → Bool) (S T : fS) : Prop := ∀ a i j : Nat, W a i j = false → ge T a i j = ge S a i j
def Wpg (a _ j : Nat) : Bool := (Nat.ble 16 a && Nat.ble a 21) || ((Nat.beq a 30 || (Nat.beq a 43 || Nat.beq a 44)) || ((Nat.beq a 0 && (Nat.beq j 5 || (Nat.beq j 7 || (Nat.beq j 11 || Nat.beq j 12)))) || (Nat.beq a 40 && (Nat.ble j 9 || (Nat.beq j 13 || (Nat.beq j 14 || (Nat.beq j 16 || (Nat.beq j 18 || (Nat.beq j 19 || Nat.beq j 20)))))))))
section CES
variable {S T U V : fS} {W : Nat → Nat → Nat → Bool}
theorem CE.rf : CE W S S := fun _ _ _ _ => rfl
theorem CE.tr (h : CE W S T) (g : CE W T U) : CE W S U := fun a i j q => (g a i j q).trans (h a i j q)
theorem FX.ce {V : Nat → Nat → Nat → Bool} (h : FX V S T) (hs : ∀ a i j : Nat, W a i j = false → V a i j = false) : CE W S T := fun a i j q => h.1 a i j (hs a i j q)
theorem CE.wr {a i j : Nat} {v : Int32} (h : CE W S T) (hw : W a i j = true) : CE W S (pu T a i j v) := fun a' i' j' q => by
  rw [ge_pu, if_neg (fun e => by rw [e.1, e.2.1, e.2.2, hw] at q; cases q)]
  exact h a' i' j' q
theorem Wpg_n {a i j : Nat} (h : (1 ≤ a ∧ a ≤ 15) ∨ (22 ≤ a ∧ a ≤ 29) ∨ (31 ≤ a ∧ a ≤ 39) ∨ a = 41 ∨ a = 42 ∨ 45 ≤ a) : Wpg a i j = false := by
  unfold Wpg
  rw [beq_out (by omega : a ≠ 30), beq_out (by omega : a ≠ 43), beq_out (by omega : a ≠ 44), beq_out (by omega : a ≠ 0), beq_out (by omega : a ≠ 40)]
  by_cases d : a < 16
  · rw [ble_no d]; rfl
  · rw [ble_no (by omega : 21 < a), Bool.and_false]; rfl
theorem Wpg_40 {i j : Nat} (h : j = 15 ∨ j = 17 ∨ 21 ≤ j) : Wpg 40 i j = false := by
  show (false || (false || (false || (true && (Nat.ble j 9 || (Nat.beq j 13 || (Nat.beq j 14 || (Nat.beq j 16 || (Nat.beq j 18 || (Nat.beq j 19 || Nat.beq j 20)))))))))) = false
  rw [ble_no (by omega : 9 < j), beq_out (by omega : j ≠ 13), beq_out (by omega : j ≠ 14), beq_out (by omega : j ≠ 16), beq_out (by omega : j ≠ 18), beq_out (by omega : j ≠ 19), beq_out (by omega : j ≠ 20)]
  rfl
/-- what stays when programs come -/
theorem RLv.pg (h : RLv S) (h0 : 0 ≤ nq S) (F : CE Wpg S T) (g11 : ∀ i j : Nat, gr T 11 i j = gr S 11 i j) (nt : nT T = nT S) (h13 : (ge S 40 0 13).toInt ≤ (ge T 40 0 13).toInt) (hP : PGq T) (ht : TPE T) : RLv T := by
  obtain ⟨ha, _, hi⟩ := h
  have hb := ha.b h0
  obtain ⟨m, m2, r1, r2, r3⟩ := hb.2.2.2.2.2.2.2
  obtain ⟨H, hO, B, N, _, hI, hs, hR, hn, hH⟩ := ha
  have c : ∀ a i j : Nat, ((1 ≤ a ∧ a ≤ 15) ∨ (22 ≤ a ∧ a ≤ 29) ∨ (31 ≤ a ∧ a ≤ 39) ∨ a = 41 ∨ a = 42 ∨ 45 ≤ a) → ge T a i j = ge S a i j := fun a i j q => F a i j (Wpg_n q)
  have c40 : ∀ j : Nat, (j = 15 ∨ j = 17 ∨ 21 ≤ j) → ge T 40 0 j = ge S 40 0 j := fun j q => F 40 0 j (Wpg_40 q)
  have ar : AR S T m := ⟨fun t _ => ⟨c _ _ _ (by decide), c _ _ _ (by decide), c _ _ _ (by decide), c _ _ _ (by decide), c _ _ _ (by decide), c _ _ _ (by decide)⟩, fun x k _ _ => c _ _ _ (by decide), fun x _ => c _ _ _ (by decide), ⟨c40 _ (by decide), c40 _ (by decide), c40 _ (by decide), c40 _ (by decide), c40 _ (by decide), c40 _ (by decide), c40 _ (by decide), c40 _ (by decide), c40 _ (by decide), c40 _ (by decide), c40 _ (by decide), c40 _ (by decide)⟩, h13, fun k j _ _ => c _ _ _ (by decide)⟩
  have ac : AC S T m := ⟨fun j _ _ _ => c _ _ _ (by decide), c _ _ _ (by decide), fun a j h3 h9 _ => c _ _ _ (by omega), fun j _ => c _ _ _ (by decide), fun k _ => g11 0 k, fun t j _ _ => c _ _ _ (by decide), by rw [nt]; exact Nat.le_refl _⟩
  refine ⟨(hb.cg r2 ar ac).a hP (by rw [nt]; exact hn) (hH.mv (F 0 0 9 rfl) (c40 48 (by decide)) (fun k => c _ _ _ (by decide)) (fun k j => c _ _ _ (by decide))), ht, hi.mv ⟨fun k hk => ⟨fun x j _ => c _ _ _ (by decide), fun j => c _ _ _ (by decide), fun j => c _ _ _ (by decide), fun j => c _ _ _ (by decide), fun q j _ => c _ _ _ (by decide), fun r j _ => c _ _ _ (by decide), fun a j h1 h2 => c _ _ _ (by omega), fun j => g11 _ _⟩, fun t j _ _ => c _ _ _ (by decide), by rw [nt]; exact Nat.le_refl _, h13⟩ (F 0 0 3 rfl) (c40 56 (by decide))⟩
end CES
section PRG
variable {S T U V : fS} {p p2 : Int32} {n m : Nat}
/-- the text told: n bytes of the tape -/
def txq (S : fS) (n k : Nat) : Int := if k < n then (ge S 41 0 k).toInt else -1
theorem tx_TB (R : RI S) (ht : TPE S) (hn : (n : Int) ≤ (ge S 0 0 11).toInt) (h300 : n ≤ 300) : TB S (txq S n) n := by
  refine ⟨h300, fun k hk => ?_, fun k hk => ?_⟩
  · have b : 0 ≤ (ge S 41 0 k).toInt ∧ (ge S 41 0 k).toInt ≤ 255 := R 41 0 k
    unfold txq
    rw [if_pos hk, ht.2 k (by omega)]
    exact ⟨rfl, b⟩
  · unfold txq
    rw [if_neg (by omega)]
theorem TB.cg {b : Nat → Int} (h : TB S b n) (e : ∀ k : Nat, ge T 16 0 k = ge S 16 0 k) : TB T b n := ⟨h.1, fun k hk => by rw [e k]; exact h.2.1 k hk, h.2.2⟩
/-- what a text says, as a program or as a law: no fault -/
def okP (b : Nat → Int) : Prop := ∀ env : Nat → Int32, ∃ g : G3, nW b false env 302 0 0 (0, 0, 0) = .ok g
def okL (b : Nat → Int) : Prop := ∀ env : Nat → Int32, ∃ y : Int32, nL b true env = .ok y
/-- a code stands for a text -/
def cdPw (b : Nat → Int) (l : List Int32) : Prop := ∀ env : Nat → Int32, ∃ g : G3, nW b false env 302 0 0 (0, 0, 0) = .ok g ∧ xs env l ([], (0, 0, 0)) = ([], g)
def cdLw (b : Nat → Int) (l : List Int32) : Prop := ∀ env : Nat → Int32, ∃ y : Int32, nL b true env = .ok y ∧ ∀ g : G3, xs env l ([], g) = ([y], g)
/-- a program more: the class -/
theorem Wvq_pg : ∀ a i j : Nat, Wpg a i j = false → Wvq a i j = false := by
  intro a i j h
  have n17 : a ≠ 17 := fun q => by rw [q] at h; exact tf h rfl
  have n18 : a ≠ 18 := fun q => by rw [q] at h; exact tf h rfl
  have n19 : a ≠ 19 := fun q => by rw [q] at h; exact tf h rfl
  have n20 : a ≠ 20 := fun q => by rw [q] at h; exact tf h rfl
  have n21 : a ≠ 21 := fun q => by rw [q] at h; exact tf h rfl
  unfold Wvq Wb
  rw [beq_out n17, beq_out n18, beq_out n19, beq_out n20, beq_out n21]
  rfl
theorem Wvq_lo {a i j : Nat} (h : a ≤ 16 ∨ 22 ≤ a) : Wvq a i j = false := by
  unfold Wvq Wb
  rw [beq_out (by omega : a ≠ 17), beq_out (by omega : a ≠ 18), beq_out (by omega : a ≠ 19), beq_out (by omega : a ≠ 20), beq_out (by omega : a ≠ 21)]
  rfl
theorem ge_newC {x : Int32} {a i j : Nat} : ge (newC S x) a i j = if a = 30 ∧ i = nC S then (if j < x.toNatClampNeg then ge S 21 0 j else 0) else ge S a i j := rfl
/-- a code is kept: what a call writes of it -/
def KPg (a c5 : Nat) (S T : fS) (m : Nat) (l : List Int32) : Prop := CE Wpg S T ∧ SRq S T ∧ (∀ i j : Nat, gr T 11 i j = gr S 11 i j) ∧ nT T = nT S ∧ (∀ b j : Nat, b ≠ a → gr T b 0 j = gr S b 0 j) ∧ (∀ j : Nat, gr T a 0 j = if j = m then some (nC S) else gr S a 0 j) ∧ (∀ c : Nat, c < nC S → ln T c = ln S c ∧ ∀ j : Nat, ge T 30 c j = ge S 30 c j) ∧ CP T (nC S) l ∧ (∀ j : Nat, j ≠ c5 → ge T 0 0 j = ge S 0 0 j) ∧ (ge T 0 0 c5).toInt = (m : Int) + 1
theorem y_code {l : List Int32} (hC : CD S l) (h300 : l.length ≤ 300) : pk (F_X4_codeRead S) (fun t T => t = nC S ∧ CE Wpg S T ∧ SRq S T ∧ T.2.1 = S.2.1 ∧ nT T = nT S ∧ (∀ c : Nat, c < nC S → ln T c = ln S c ∧ ∀ j : Nat, ge T 30 c j = ge S 30 c j) ∧ CP T (nC S) l ∧ ∀ j : Nat, ge T 0 0 j = ge S 0 0 j) := by
  unfold F_X4_codeRead
  refine pq_iv fun x e => pq_gd fun _ => pq_gdc fun _ => pq_nv fun t et => pq_sv fun T E => pq_some ?_
  have hx : x.toNatClampNeg = l.length := cnNq (by rw [e]; exact hC.1)
  refine ⟨et, fun a i j h => ?_, fun a i j h => ?_, by rw [E]; rfl, by rw [E]; rfl, fun c hc => ⟨?_, fun j => ?_⟩, ⟨?_, h300, fun k hk => ?_⟩, fun j => ?_⟩
  · have n30 : a ≠ 30 := fun q => by rw [q] at h; exact tf h rfl
    rw [E, ge_newC, if_neg (fun q => n30 q.1)]
  · rw [E, ge_newC, if_neg (by omega)]
  · rw [E]
    show (if c = nC S then x.toNatClampNeg else S.2.2.2 c) = S.2.2.2 c
    rw [if_neg (by omega)]
  · rw [E, ge_newC, if_neg (by omega)]
  · rw [E]
    show (if nC S = nC S then x.toNatClampNeg else S.2.2.2 (nC S)) = l.length
    rw [if_pos rfl, hx]
  · rw [E, ge_newC, if_pos ⟨rfl, rfl⟩, hx, if_pos hk]
    exact hC.2 k hk
  · rw [E, ge_newC, if_neg (by omega)]
theorem y_keepP {l : List Int32} (hC : CD S l) (h300 : l.length ≤ 300) (hm : (ge S 0 0 5).toInt = (m : Int)) (m6 : m < 6) : pk (F_X6_keepProgram S) (fun _ T => KPg 13 5 S T m l) := by
  have l1 : (1 : Int32).toInt = 1 := by decide
  have l6 : (6 : Int32).toInt = 6 := by decide
  unfold F_X6_keepProgram
  refine pq_iv fun x1 e1 => pq_lt (fun _ => ?_) (fun q => absurd q (by rw [e1, hm, l6]; omega))
  refine pq_iv fun x3 e3 => pq_bd (y_code hC h300) (fun t S5 q => ?_)
  obtain ⟨rfl, c1, c2, c3, c4, c5, c6, c7⟩ := q
  have g3 : x3.toInt = (m : Int) := by rw [e3]; exact hm
  rw [cnNq g3]
  refine pq_gd fun _ => pq_gd fun _ => pq_sv fun S9 E9 => pq_iv fun x10 e10 => pq_iv fun x11 e11 => pq_sv fun S12 E12 => pq_iv fun x13 e13 => pq_iv fun x14 e14 => pq_some ?_
  have k9 : ∀ a i j : Nat, ge S9 a i j = ge S5 a i j := fun a i j => by rw [E9]; rfl
  have g12 : S12.2 = S9.2 := by rw [E12]; rfl
  have gg : ∀ a i j : Nat, gr S12 a i j = if a = 13 ∧ i = 0 ∧ j = m then some (nC S) else gr S a i j := fun a i j => by
    have e1 : gr S12 a i j = gr S9 a i j := by unfold gr; rw [g12]
    rw [e1, E9]
    show (if a = 13 ∧ i = 0 ∧ j = m then some (nC S) else S5.2.1 a i j) = _
    rw [c3]
    rfl
  have n9 : S9.2.2 = S5.2.2 := by rw [E9]; rfl
  refine ⟨fun a i j h => ?_, fun a i j h => ?_, fun i j => by rw [gg, if_neg (by omega)], ?_, fun b j hb => by rw [gg, if_neg (fun q => hb q.1)], fun j => ?_, fun c hc => ⟨?_, fun j => ?_⟩, ?_, fun j hj => ?_, ?_⟩
  · have n0 : ¬ (a = 0 ∧ i = 0 ∧ j = 5) := fun q => by rw [q.1, q.2.1, q.2.2] at h; exact tf h rfl
    rw [E12, ge_pu, if_neg n0, k9]
    exact c1 a i j h
  · rw [E12, ge_pua (by omega), k9]
    exact c2 a i j h
  · have e1 : nT S12 = nT S9 := congrArg (fun z => z.2.1.1) g12
    have e2 : nT S9 = nT S5 := congrArg (fun z => z.1.1) n9
    rw [e1, e2, c4]
  · rw [gg]
    by_cases d : j = m
    · rw [if_pos ⟨rfl, rfl, d⟩, if_pos d]
    · rw [if_neg (fun q => d q.2.2), if_neg d]
  · have e1 : ln S12 c = ln S9 c := congrFun (congrArg (fun z => z.2.2) g12) c
    have e2 : ln S9 c = ln S5 c := congrFun (congrArg (fun z => z.2) n9) c
    rw [e1, e2]
    exact (c5 c hc).1
  · rw [E12, ge_pua (by decide), k9]
    exact (c5 c hc).2 j
  · obtain ⟨p1, p2, p3⟩ := c6
    refine ⟨?_, p2, fun k hk => by rw [E12, ge_pua (by decide), k9]; exact p3 k hk⟩
    have e1 : ln S12 (nC S) = ln S9 (nC S) := congrFun (congrArg (fun z => z.2.2) g12) _
    have e2 : ln S9 (nC S) = ln S5 (nC S) := congrFun (congrArg (fun z => z.2) n9) _
    rw [e1, e2]
    exact p1
  · rw [E12, ge_puj hj, k9]; exact c7 j
  · rw [E12, ge_pus, e11, e10, k9, c7, ti_add (by omega) (by omega), hm, l1]
theorem y_keepL {l : List Int32} (hC : CD S l) (h300 : l.length ≤ 300) (hm : (ge S 0 0 7).toInt = (m : Int)) (m3 : m < 3) : pk (F_X6_keepLaw S) (fun _ T => KPg 14 7 S T m l) := by
  have l1 : (1 : Int32).toInt = 1 := by decide
  have l3 : (3 : Int32).toInt = 3 := by decide
  unfold F_X6_keepLaw
  refine pq_iv fun x1 e1 => pq_lt (fun _ => ?_) (fun q => absurd q (by rw [e1, hm, l3]; omega))
  refine pq_iv fun x3 e3 => pq_bd (y_code hC h300) (fun t S5 q => ?_)
  obtain ⟨rfl, c1, c2, c3, c4, c5, c6, c7⟩ := q
  have g3 : x3.toInt = (m : Int) := by rw [e3]; exact hm
  rw [cnNq g3]
  refine pq_gd fun _ => pq_gd fun _ => pq_sv fun S9 E9 => pq_iv fun x10 e10 => pq_iv fun x11 e11 => pq_sv fun S12 E12 => pq_iv fun x13 e13 => pq_iv fun x14 e14 => pq_some ?_
  have k9 : ∀ a i j : Nat, ge S9 a i j = ge S5 a i j := fun a i j => by rw [E9]; rfl
  have g12 : S12.2 = S9.2 := by rw [E12]; rfl
  have gg : ∀ a i j : Nat, gr S12 a i j = if a = 14 ∧ i = 0 ∧ j = m then some (nC S) else gr S a i j := fun a i j => by
    have e1 : gr S12 a i j = gr S9 a i j := by unfold gr; rw [g12]
    rw [e1, E9]
    show (if a = 14 ∧ i = 0 ∧ j = m then some (nC S) else S5.2.1 a i j) = _
    rw [c3]
    rfl
  have n9 : S9.2.2 = S5.2.2 := by rw [E9]; rfl
  refine ⟨fun a i j h => ?_, fun a i j h => ?_, fun i j => by rw [gg, if_neg (by omega)], ?_, fun b j hb => by rw [gg, if_neg (fun q => hb q.1)], fun j => ?_, fun c hc => ⟨?_, fun j => ?_⟩, ?_, fun j hj => ?_, ?_⟩
  · have n0 : ¬ (a = 0 ∧ i = 0 ∧ j = 7) := fun q => by rw [q.1, q.2.1, q.2.2] at h; exact tf h rfl
    rw [E12, ge_pu, if_neg n0, k9]
    exact c1 a i j h
  · rw [E12, ge_pua (by omega), k9]
    exact c2 a i j h
  · have e1 : nT S12 = nT S9 := congrArg (fun z => z.2.1.1) g12
    have e2 : nT S9 = nT S5 := congrArg (fun z => z.1.1) n9
    rw [e1, e2, c4]
  · rw [gg]
    by_cases d : j = m
    · rw [if_pos ⟨rfl, rfl, d⟩, if_pos d]
    · rw [if_neg (fun q => d q.2.2), if_neg d]
  · have e1 : ln S12 c = ln S9 c := congrFun (congrArg (fun z => z.2.2) g12) c
    have e2 : ln S9 c = ln S5 c := congrFun (congrArg (fun z => z.2) n9) c
    rw [e1, e2]
    exact (c5 c hc).1
  · rw [E12, ge_pua (by decide), k9]
    exact (c5 c hc).2 j
  · obtain ⟨p1, p2, p3⟩ := c6
    refine ⟨?_, p2, fun k hk => by rw [E12, ge_pua (by decide), k9]; exact p3 k hk⟩
    have e1 : ln S12 (nC S) = ln S9 (nC S) := congrFun (congrArg (fun z => z.2.2) g12) _
    have e2 : ln S9 (nC S) = ln S5 (nC S) := congrFun (congrArg (fun z => z.2) n9) _
    rw [e1, e2]
    exact p1
  · rw [E12, ge_puj hj, k9]; exact c7 j
  · rw [E12, ge_pus, e11, e10, k9, c7, ti_add (by omega) (by omega), hm, l1]
end PRG
/-! the program read, both sides -/
section PRG2
variable {S T U V : fS} {p p2 : Int32} {n m : Nat}
theorem GI_c (h : GI S) {a j c : Nat} (ha : a = 13 ∨ a = 14) (hg : gr S a 0 j = some c) : c < nC S := h.1.2 a 0 j c ha hg
/-- a text more: the reference -/
def TXq (S T : fS) (to n : Nat) : Prop := CE Wpg S T ∧ T.2 = S.2 ∧ (∀ a i j : Nat, a < 40 → ge T a i j = ge S a i j) ∧ (∀ t : Nat, t ≠ to → ge T 44 0 t = ge S 44 0 t ∧ ∀ j : Nat, ge T 43 t j = ge S 43 t j) ∧ btx T to = txq S n
theorem TXq.bt {to t : Nat} (h : TXq S T to n) (ht : t ≠ to) : btx T t = btx S t := by
  obtain ⟨_, _, _, h4, _⟩ := h
  obtain ⟨a, b⟩ := h4 t ht
  funext k
  unfold btx
  rw [a, b k]
theorem CP_up {c : Nat} {P : List Int32} (h : CP S c P) (e : ln T c = ln S c ∧ ∀ j : Nat, ge T 30 c j = ge S 30 c j) : CP T c P := ⟨by rw [e.1]; exact h.1, h.2.1, fun k hk => by rw [e.2 k]; exact h.2.2 k hk⟩
/-- programs with one more -/
theorem PG_P {l : List Int32} (hP : PGq S) (hG : GI S) (hm : (ge S 40 0 13).toInt = (m : Int)) (m6 : m < 6) (K : KPg 13 5 S T m l) (X : TXq T U m n) (hb : cdPw (txq S n) l) (h13 : (ge U 40 0 13).toInt = (m : Int) + 1) (h14 : ge U 40 0 14 = ge T 40 0 14) : PGq U := by
  obtain ⟨k1, k2, k3, k4, k5, k6, k7, k8, k9, k10⟩ := K
  obtain ⟨⟨m', m6', p5, p13, pg⟩, ⟨q, q3, p7, p14, lg⟩⟩ := hP
  have em : m' = m := by omega
  rw [em] at pg
  have x2 := X.2.1
  have gU : ∀ a j : Nat, gr U a 0 j = gr T a 0 j := fun a j => by unfold gr; rw [x2]
  have lU : ∀ c : Nat, ln U c = ln T c := fun c => by unfold ln; rw [x2]
  have cU : ∀ (c : Nat) (P : List Int32), CP T c P → CP U c P := fun c P h => CP_up h ⟨lU c, fun j => X.2.2.1 30 c j (by decide)⟩
  have tS : ∀ t : Nat, t ≠ m → btx U t = btx S t := fun t ht => by rw [X.bt ht, k2.btxE]
  refine ⟨⟨m + 1, by omega, by rw [X.2.2.1 0 0 5 (by decide)]; omega, by rw [h13]; omega, fun t ht => ?_⟩, ⟨q, q3, by rw [X.2.2.1 0 0 7 (by decide), k9 7 (by decide)]; exact p7, by rw [h14, k2 40 0 14 (by decide)]; exact p14, fun t ht => ?_⟩⟩
  · by_cases d : t = m
    · refine ⟨nC S, by rw [gU, k6, if_pos d], l, cU _ _ k8, fun env => ?_⟩
      rw [d, X.2.2.2.2, show txq T n = txq S n from funext fun k => by unfold txq; rw [k2 41 0 k (by decide)]]
      exact hb env
    · obtain ⟨c, gc, P, hc, hE⟩ := pg t (by omega)
      exact ⟨c, by rw [gU, k6, if_neg d]; exact gc, P, cU _ _ (CP_up hc (k7 c (GI_c hG (Or.inl rfl) gc))), by rw [tS t d]; exact hE⟩
  · obtain ⟨c, gc, P, hc, hE⟩ := lg t ht
    exact ⟨c, by rw [gU, k5 14 t (by decide)]; exact gc, P, cU _ _ (CP_up hc (k7 c (GI_c hG (Or.inr rfl) gc))), by rw [tS (6 + t) (by omega)]; exact hE⟩
theorem PG_L {l : List Int32} (hP : PGq S) (hG : GI S) (hm : (ge S 40 0 14).toInt = (m : Int)) (m3 : m < 3) (K : KPg 14 7 S T m l) (X : TXq T U (6 + m) n) (hb : cdLw (txq S n) l) (h14 : (ge U 40 0 14).toInt = (m : Int) + 1) (h13 : ge U 40 0 13 = ge T 40 0 13) : PGq U := by
  obtain ⟨k1, k2, k3, k4, k5, k6, k7, k8, k9, k10⟩ := K
  obtain ⟨⟨q, q6, p5, p13, pg⟩, ⟨m', m3', p7, p14, lg⟩⟩ := hP
  have em : m' = m := by omega
  rw [em] at lg
  have x2 := X.2.1
  have gU : ∀ a j : Nat, gr U a 0 j = gr T a 0 j := fun a j => by unfold gr; rw [x2]
  have lU : ∀ c : Nat, ln U c = ln T c := fun c => by unfold ln; rw [x2]
  have cU : ∀ (c : Nat) (P : List Int32), CP T c P → CP U c P := fun c P h => CP_up h ⟨lU c, fun j => X.2.2.1 30 c j (by decide)⟩
  have tS : ∀ t : Nat, t ≠ 6 + m → btx U t = btx S t := fun t ht => by rw [X.bt ht, k2.btxE]
  refine ⟨⟨q, q6, by rw [X.2.2.1 0 0 5 (by decide), k9 5 (by decide)]; exact p5, by rw [h13, k2 40 0 13 (by decide)]; exact p13, fun t ht => ?_⟩, ⟨m + 1, by omega, by rw [X.2.2.1 0 0 7 (by decide)]; omega, by rw [h14]; omega, fun t ht => ?_⟩⟩
  · obtain ⟨c, gc, P, hc, hE⟩ := pg t ht
    exact ⟨c, by rw [gU, k5 13 t (by decide)]; exact gc, P, cU _ _ (CP_up hc (k7 c (GI_c hG (Or.inl rfl) gc))), by rw [tS t (by omega)]; exact hE⟩
  · by_cases d : t = m
    · refine ⟨nC S, by rw [gU, k6, if_pos d], l, cU _ _ k8, fun env => ?_⟩
      rw [d, X.2.2.2.2, show txq T n = txq S n from funext fun k => by unfold txq; rw [k2 41 0 k (by decide)]]
      exact hb env
    · obtain ⟨c, gc, P, hc, hE⟩ := lg t (by omega)
      exact ⟨c, by rw [gU, k6, if_neg d]; exact gc, P, cU _ _ (CP_up hc (k7 c (GI_c hG (Or.inr rfl) gc))), by rw [tS (6 + t) (by omega)]; exact hE⟩
/-- the tape's text in the reference's reader -/
theorem bt_tape (h8 : ge S 40 0 8 = -1) (h2 : (ge S 40 0 2).toInt = (n : Int)) (hn : n ≤ 300) : bt S = txq S n := by
  have lm1 : (-1 : Int32).toInt = -1 := by decide
  funext k
  unfold bt txq
  by_cases c : k ≤ 301
  · rw [if_pos c]
    unfold byv
    rw [h2, on_toInt c, h8, if_pos lm1]
    have e : (Int32.ofNat k).toNatClampNeg = k := by have := cn_eq (x := Int32.ofNat k) (by rw [on_toInt c]; omega); rw [on_toInt c] at this; omega
    rw [e]
    by_cases d : k < n
    · rw [if_pos (by omega), if_pos d]
    · rw [if_neg (by omega), if_neg d]
  · rw [if_neg c, if_neg (by omega)]
/-- the copy of the text, and the count -/
theorem q_keep {a1 a2 a3 : Int32} {to : Nat} (h1 : a1.toInt = (n : Int)) (h3 : a3.toInt = (to : Int)) (hn : n ≤ 300) (h6 : (ge S 40 0 13).toInt ≤ 6) (h6' : (ge S 40 0 14).toInt ≤ 3) (g6 : 0 ≤ (ge S 40 0 13).toInt) (g6' : 0 ≤ (ge S 40 0 14).toInt) : pk (B_X7_program_140 a1 a2 a3 S) (fun _ T => TXq S T to n ∧ (a2 = 0 → (ge T 40 0 13).toInt = (ge S 40 0 13).toInt + 1 ∧ ge T 40 0 14 = ge S 40 0 14) ∧ (¬ a2 = 0 → (ge T 40 0 14).toInt = (ge S 40 0 14).toInt + 1 ∧ ge T 40 0 13 = ge S 40 0 13) ∧ ge T 40 0 0 = ge S 40 0 0 ∧ ge T 40 0 1 = ge S 40 0 1) := by
  have l0 : (0 : Int32).toInt = 0 := by decide
  have l1 : (1 : Int32).toInt = 1 := by decide
  unfold B_X7_program_140
  refine pq_lp (fun (y : Int32 × Int32 × Int32 × Int32) V => y.1 = a1 ∧ y.2.1 = a2 ∧ y.2.2.1 = a3 ∧ V.2 = S.2 ∧ (∀ a i j : Nat, ¬ (a = 43 ∧ i = to) → ge V a i j = ge S a i j) ∧ ∃ i : Nat, y.2.2.2.toInt = (i : Int) ∧ i ≤ n ∧ ∀ k : Nat, k < i → ge V 43 to k = ge S 41 0 k) (fun _ _ (_ : Int32) T => TXq S T to n ∧ (a2 = 0 → (ge T 40 0 13).toInt = (ge S 40 0 13).toInt + 1 ∧ ge T 40 0 14 = ge S 40 0 14) ∧ (¬ a2 = 0 → (ge T 40 0 14).toInt = (ge S 40 0 14).toInt + 1 ∧ ge T 40 0 13 = ge S 40 0 13) ∧ ge T 40 0 0 = ge S 40 0 0 ∧ ge T 40 0 1 = ge S 40 0 1) ?_ fuel (a1, a2, a3, 0) S ⟨rfl, rfl, rfl, rfl, fun _ _ _ _ => rfl, 0, l0, by omega, fun k hk => absurd hk (Nat.not_lt_zero _)⟩
  intro k hk y V hy
  obtain ⟨b1, b2, b3, b4⟩ := y
  obtain ⟨f1, f2, f3, e2, ee, i, i1, i2, i3⟩ := hy
  dsimp only at f1 f2 f3 i1
  subst f1
  subst f2
  subst f3
  unfold B_X7_program_144
  dsimp only
  refine pq_le (fun c0 => ?_) (fun c0 => ?_)
  · have ein : i = n := by omega
    rw [ein] at i3
    rw [cnNq h3]
    refine pq_gd fun _ => pq_sv fun S8 E8 => ?_
    have e82 : S8.2 = S.2 := by rw [E8]; exact e2
    have e40 : ∀ j : Nat, ge S8 40 0 j = ge S 40 0 j := fun j => by rw [E8, ge_pua (by decide), ee 40 0 j (by omega)]
    have tx : ∀ T : fS, T.2 = S8.2 → (∀ a i j : Nat, ¬ (a = 40 ∧ (j = 13 ∨ j = 14)) → ge T a i j = ge S8 a i j) → TXq S T to n := by
      intro T h2 hT
      have t44 : ∀ t : Nat, ge T 44 0 t = if t = to then b1 else ge S 44 0 t := fun t => by
        rw [hT 44 0 t (by omega), E8, ge_pu]
        by_cases d : t = to
        · rw [if_pos ⟨rfl, rfl, d⟩, if_pos d]
        · rw [if_neg (fun q => d q.2.2), if_neg d, ee 44 0 t (by omega)]
      have t43 : ∀ t j : Nat, ge T 43 t j = ge V 43 t j := fun t j => by rw [hT 43 t j (by omega), E8, ge_pua (by decide)]
      refine ⟨fun a i j h => ?_, h2.trans e82, fun a i j ha => ?_, fun t ht => ⟨by rw [t44, if_neg ht], fun j => by rw [t43, ee 43 t j (fun q => ht q.2)]⟩, funext fun k => ?_⟩
      · have n43 : a ≠ 43 := fun q => by rw [q] at h; exact tf h rfl
        have n44 : a ≠ 44 := fun q => by rw [q] at h; exact tf h rfl
        have n13 : ¬ (a = 40 ∧ (j = 13 ∨ j = 14)) := fun q => by
          rw [q.1] at h
          rcases q.2 with r | r
          · rw [r] at h; exact tf h rfl
          · rw [r] at h; exact tf h rfl
        rw [hT a i j n13, E8, ge_pua n44, ee a i j (fun q => n43 q.1)]
      · rw [hT a i j (by omega), E8, ge_pua (by omega), ee a i j (by omega)]
      · unfold btx txq
        rw [t44, if_pos rfl, h1]
        by_cases d : k < n
        · rw [if_pos (by omega), if_pos d, t43, i3 k d]
        · rw [if_neg (by omega), if_neg d]
    have fin : ∀ T : fS, pk (B_X7_program_206 b2 T) (fun _ U => T = U) := fun T => by
      unfold B_X7_program_206
      exact pq_bb (fun _ => pq_iv fun _ _ => pq_iv fun _ _ => pq_some rfl) (fun _ => pq_iv fun _ _ => pq_iv fun _ _ => pq_some rfl)
    refine pq_bb (fun d => pq_iv fun x10 e10 => pq_iv fun x11 e11 => pq_sv fun S12 E12 => pq_imp (fin S12) (fun _ U q => ?_)) (fun d => pq_iv fun x13 e13 => pq_iv fun x14 e14 => pq_sv fun S15 E15 => pq_imp (fin S15) (fun _ U q => ?_))
    · rw [← q]
      refine ⟨tx S12 (by rw [E12]; rfl) (fun a i j hh => by rw [E12, ge_pu, if_neg (fun q => hh ⟨q.1, Or.inl q.2.2⟩)]), fun _ => ⟨?_, by rw [E12, ge_puj (by decide), e40]⟩, fun q => absurd d q, by rw [E12, ge_puj (by decide), e40], by rw [E12, ge_puj (by decide), e40]⟩
      rw [E12, ge_pus, e11, e10, e40, ti_add (by omega) (by omega), l1]
    · rw [← q]
      refine ⟨tx S15 (by rw [E15]; rfl) (fun a i j hh => by rw [E15, ge_pu, if_neg (fun q => hh ⟨q.1, Or.inr q.2.2⟩)]), fun q => absurd q d, fun _ => ⟨?_, by rw [E15, ge_puj (by decide), e40]⟩, by rw [E15, ge_puj (by decide), e40], by rw [E15, ge_puj (by decide), e40]⟩
      rw [E15, ge_pus, e14, e13, e40, ti_add (by omega) (by omega), l1]
  · rw [cnNq h3, cnNq i1]
    refine pq_gd fun _ => pq_gd fun _ => pq_iv fun x18 e18 => pq_gd fun _ => pq_sv fun S20 E20 => pq_iv fun x21 e21 => ?_
    have g21 : x21.toInt = b4.toInt + 1 := by rw [e21]; exact ti_inc (by omega)
    refine hk (b1, b2, b3, x21) S20 ⟨rfl, rfl, rfl, by rw [E20]; exact e2, fun a i' j hh => ?_, i + 1, by dsimp only; omega, by omega, fun l hl => ?_⟩
    · rw [E20, ge_pu, if_neg (fun q => hh ⟨q.1, q.2.1⟩)]
      exact ee a i' j hh
    · by_cases d : l = i
      · rw [E20, d, ge_pus, e18, ee 41 0 i (by omega)]
      · rw [E20, ge_puj d]; exact i3 l (by omega)
end PRG2
theorem GI.fx1 {S T : fS} {W : Nat → Nat → Nat → Bool} (h : GI S) (F : FX W S T) (h12 : ∀ i : Nat, W 1 i 12 = false) : GI T := by
  have e1 : ∀ a i j : Nat, gr T a i j = gr S a i j := fun a i j => gr_fx F a i j
  have e2 : nT T = nT S := congrArg (fun z => z.2.1.1) F.2
  have e3 : nC T = nC S := congrArg (fun z => z.2.1.2) F.2
  have e4 : ∀ i : Nat, ln T i = ln S i := fun i => by unfold ln; rw [F.2]
  refine ⟨⟨fun i j t q => ?_, fun a i j t ha q => ?_⟩, fun i k hk => ?_, fun i => by rw [e4]; exact h.2.2 i⟩
  · rw [e2]; rw [e1] at q; exact h.1.1 i j t q
  · rw [e3]; rw [e1] at q; exact h.1.2 a i j t ha q
  · rw [F.1 1 i 12 (h12 i)] at hk
    obtain ⟨t, q⟩ := h.2.1 i k hk
    exact ⟨t, by rw [e1]; exact q⟩
section PRG3
variable {S T U V : fS} {p p2 : Int32} {n m : Nat}
def RKw (R : Nat → Int32) (x6 : Option ((Nat × Int32) × fS)) (f7 : fS → Option (Int32 × fS)) : Prop := pk x6 (fun r T1 => pk (f7 T1) (fun _ T2 => RLv T2 ∧ ge T2 40 0 0 = R r.1))
theorem RK.w {R : Nat → Int32} {x6 : Option ((Nat × Int32) × fS)} {f7 : fS → Option (Int32 × fS)} (h : RK R x6 f7) : RKw R x6 f7 := pq_imp h (fun _ _ q => pq_imp q (fun _ _ q => ⟨q.1, q.2.1⟩))
theorem RKw.lift {R : Nat → Int32} {f6 : fS → Option ((Nat × Int32) × fS)} {f7 : fS → Option (Int32 × fS)} (hs : ∀ (G S : fS), sm G (f6 S) (f6 (mx S G))) (h7 : ∀ T : fS, f7 T = f7 (e0 T)) (hk : ∀ S : fS, IV S → ge S 40 0 0 = 0 → RKw R (f6 S) f7) (h : IV S) : RKw R (f6 S) f7 := by
  intro r T1 e
  have hsr := sm_SR hs r T1 e
  have q := hs (e0 S) S
  unfold sm at q
  rw [e, mx_e0] at q
  have z := hk (e0 S) (h.wr 0) ge_pus r (mx T1 (e0 S)) q
  rw [mx_e0' hsr, ← h7] at z
  exact z
def W1q (a i j : Nat) : Bool := Wvq a i j || (Nat.beq a 0 && (Nat.beq j 11 || Nat.beq j 12))
theorem W1q_v : ∀ a i j : Nat, W1q a i j = false → Wvq a i j = false := fun a i j h => (Bool.or_eq_false_iff.1 h).1
theorem W1q_pg : ∀ a i j : Nat, Wpg a i j = false → W1q a i j = false := by
  intro a i j h
  unfold W1q
  rw [Wvq_pg a i j h]
  by_cases d : a = 0
  · rw [d] at h
    have m11 : j ≠ 11 := fun q => by rw [q] at h; exact tf h rfl
    have m12 : j ≠ 12 := fun q => by rw [q] at h; exact tf h rfl
    rw [beq_out m11, beq_out m12]
    cases Nat.beq a 0 <;> rfl
  · rw [beq_out d]; rfl
/-- the text has been read -/
def RDq (S T : fS) : Prop := FX W1q S T ∧ ge T 0 0 11 = 0 ∧ ∀ j : Nat, j ≠ 11 → j ≠ 12 → ge T 0 0 j = ge S 0 0 j
def notP (S : fS) (n : Nat) (p2 : Int32) : Prop := (p2 = 0 → (ge S 40 0 13).toInt = 6 ∨ ∀ env : Nat → Int32, ∃ e : Int × Nat, nW (txq S n) false env 302 0 0 (0, 0, 0) = .error e) ∧ (¬ p2 = 0 → (ge S 40 0 14).toInt = 3 ∨ ∀ env : Nat → Int32, ∃ e : Int × Nat, nL (txq S n) true env = .error e)
def PRr (S T : fS) (n : Nat) (p2 : Int32) : Prop := (RDq S T ∧ notP S n p2) ∨ ∃ (S2 : fS) (l : List Int32) (m : Nat), RDq S S2 ∧ ((p2 = 0 ∧ (ge S 40 0 13).toInt = (m : Int) ∧ m < 6 ∧ KPg 13 5 S2 T m l ∧ cdPw (txq S n) l) ∨ (¬ p2 = 0 ∧ (ge S 40 0 14).toInt = (m : Int) ∧ m < 3 ∧ KPg 14 7 S2 T m l ∧ cdLw (txq S n) l))
theorem y_prog (h : IV S) : pk (F_X6_program p p2 S) (fun r T => (r.1 = 1 ∧ ¬ (0 ≤ p.toInt ∧ p.toInt ≤ (ge S 40 0 1).toInt) ∧ T = S) ∨ (r.1 = 0 ∧ ∃ n : Nat, p.toInt = (n : Int) ∧ (n : Int) ≤ (ge S 40 0 1).toInt ∧ n ≤ 300 ∧ PRr S T n p2)) := by
  have l0 : (0 : Int32).toInt = 0 := by decide
  obtain ⟨⟨H, hO, B, N, hP, hI, _⟩, ht, _⟩ := h.2.2.2
  have R := h.1
  have e11 := ht.1
  have b11 : 0 ≤ (ge S 40 0 1).toInt ∧ (ge S 40 0 1).toInt ≤ 300 := R 40 0 1
  obtain ⟨⟨mp, mp6, p5, p13, _⟩, ⟨ml, ml3, p7, p14, _⟩⟩ := hP
  unfold F_X6_program
  refine pq_iv fun x13 e13 => ?_
  refine pg_w (fun hc => pg_n1 ?_) (fun hc => pg_n0 (Or.inl ⟨rfl, fun q => hc (by rw [e13, e11, l0]; exact q), rfl⟩))
  rw [e13, e11, l0] at hc
  obtain ⟨n, hn⟩ : ∃ n : Nat, p.toInt = (n : Int) := ⟨p.toInt.toNat, by omega⟩
  refine pq_sv fun S21 E21 => ?_
  have F21 : FX W1q S S21 := by rw [E21]; exact FX.rf.wr rfl
  have hT : TB S21 (txq S n) n := (tx_TB R ht (by rw [e11]; omega) (by omega)).cg (fun k => by rw [E21, ge_pua (by decide)])
  have tail : ∀ (v : Int32) (S24 : fS), FX Wvq S21 S24 → (v = 0 → notP S n p2) → (¬ v = 0 → ∃ l : List Int32, CD S24 l ∧ l.length ≤ 300 ∧ (p2 = 0 → cdPw (txq S n) l) ∧ (¬ p2 = 0 → cdLw (txq S n) l)) → pk (B_X6_program_48 p2 v S24) (fun r T => (r.1 = 1 ∧ ¬ (0 ≤ p.toInt ∧ p.toInt ≤ (ge S 40 0 1).toInt) ∧ T = S) ∨ (r.1 = 0 ∧ ∃ n : Nat, p.toInt = (n : Int) ∧ (n : Int) ≤ (ge S 40 0 1).toInt ∧ n ≤ 300 ∧ PRr S T n p2)) := by
    intro v S24 F24 hno hyes
    unfold B_X6_program_48
    refine pq_iv fun x1 e1 => pq_sv fun S2 E2 => ?_
    have F2 : FX W1q S S2 := by rw [E2]; exact (F21.tr (F24.sub W1q_v)).wr rfl
    have rd : RDq S S2 := by
      refine ⟨F2, ?_, fun j h11 h12 => ?_⟩
      · rw [E2, ge_puj (by decide), F24.1 0 0 11 rfl, E21, ge_pus]
      · rw [E2, ge_puj h12, F24.1 0 0 j (Wvq_lo (by decide)), E21, ge_puj h11]
    have s2 : SRq S S2 := fun a i j ha => F2.1 a i j (by
      unfold W1q
      rw [Wvq_lo (by omega), beq_out (by omega : a ≠ 0)]
      rfl)
    have fin : ∀ (v : Int32) (T : fS), PRr S T n p2 → (((0, v) : Nat × Int32).1 = 1 ∧ ¬ (0 ≤ p.toInt ∧ p.toInt ≤ (ge S 40 0 1).toInt) ∧ T = S) ∨ (((0, v) : Nat × Int32).1 = 0 ∧ ∃ n : Nat, p.toInt = (n : Int) ∧ (n : Int) ≤ (ge S 40 0 1).toInt ∧ n ≤ 300 ∧ PRr S T n p2) := fun v T q => Or.inr ⟨rfl, n, hn, by omega, by omega, q⟩
    refine pq_bb (fun d => pq_iv fun x11 _ => pq_iv fun x12 _ => pq_some (fin _ _ (Or.inl ⟨rd, hno d⟩))) (fun d => ?_)
    obtain ⟨l, hC, h300, hp, hl⟩ := hyes d
    have hC2 : CD S2 l := ⟨by rw [E2, ge_pua (by decide)]; exact hC.1, fun k hk => by rw [E2, ge_pua (by decide)]; exact hC.2 k hk⟩
    refine pq_bb (fun d2 => ?_) (fun d2 => ?_)
    · by_cases m6 : mp < 6
      · exact pq_bd (y_keepP (m := mp) hC2 h300 (by rw [rd.2.2 5 (by decide) (by decide)]; exact p5) m6) (fun v T q => pq_some (fin _ _ (Or.inr ⟨S2, l, mp, rd, Or.inl ⟨d2, p13, m6, q, hp d2⟩⟩)))
      · have l6 : (6 : Int32).toInt = 6 := by decide
        refine pq_bd (Q1 := fun _ T => S2 = T) ?_ (fun v T q => pq_some (fin _ _ (Or.inl ⟨by rw [← q]; exact rd, fun _ => Or.inl (by omega), fun q => absurd d2 q⟩)))
        unfold F_X6_keepProgram
        exact pq_iv fun x1 e1 => pq_lt (fun q => absurd q (by rw [e1, rd.2.2 5 (by decide) (by decide), p5, l6]; omega)) (fun _ => pq_some rfl)
    · by_cases m3 : ml < 3
      · exact pq_bd (y_keepL (m := ml) hC2 h300 (by rw [rd.2.2 7 (by decide) (by decide)]; exact p7) m3) (fun v T q => pq_some (fin _ _ (Or.inr ⟨S2, l, ml, rd, Or.inr ⟨d2, p14, m3, q, hl d2⟩⟩)))
      · have l3 : (3 : Int32).toInt = 3 := by decide
        refine pq_bd (Q1 := fun _ T => S2 = T) ?_ (fun v T q => pq_some (fin _ _ (Or.inl ⟨by rw [← q]; exact rd, fun q => absurd q d2, fun _ => Or.inl (by omega)⟩)))
        unfold F_X6_keepLaw
        exact pq_iv fun x1 e1 => pq_lt (fun q => absurd q (by rw [e1, rd.2.2 7 (by decide) (by decide), p7, l3]; omega)) (fun _ => pq_some rfl)
  refine pq_bb (fun d2 => pq_bd (v_readProgram hT hn).pk (fun v S24 q => ?_)) (fun d2 => pq_bd (v_readLaw hT hn).pk (fun v S24 q => ?_))
  · obtain ⟨F24, q⟩ := q
    refine tail v S24 F24 (fun e => ⟨fun _ => Or.inr ?_, fun q => absurd d2 q⟩) (fun e => ?_)
    · rcases q with ⟨_, q⟩ | ⟨q1, _⟩
      · exact q
      · rw [e, l0] at q1; exact absurd q1 (by decide)
    · rcases q with ⟨q1, _⟩ | ⟨_, l, c1, c2, c3⟩
      · exact absurd (of_toInt (by rw [q1, l0])) e
      · exact ⟨l, c1, c2, fun _ => c3, fun q => absurd d2 q⟩
  · obtain ⟨F24, q⟩ := q
    refine tail v S24 F24 (fun e => ⟨fun q => absurd q d2, fun _ => Or.inr ?_⟩) (fun e => ?_)
    · rcases q with ⟨_, q⟩ | ⟨q1, _⟩
      · exact q
      · rw [e, l0] at q1; exact absurd q1 (by decide)
    · rcases q with ⟨q1, _⟩ | ⟨_, l, c1, c2, c3⟩
      · exact absurd (of_toInt (by rw [q1, l0])) e
      · exact ⟨l, c1, c2, fun q => absurd q d2, fun _ => c3⟩
/-- the reference's cells of its reader -/
def W7q (a _ j : Nat) : Bool := Nat.beq a 40 && (Nat.beq j 1 || (Nat.beq j 2 || (Nat.beq j 3 || (Nat.beq j 4 || (Nat.beq j 5 || (Nat.beq j 6 || (Nat.beq j 7 || (Nat.beq j 8 || (Nat.beq j 9 || (Nat.beq j 16 || (Nat.beq j 18 || (Nat.beq j 19 || Nat.beq j 20))))))))))))
theorem W7q_8 : ∀ a i j : Nat, W7q a i j = false → W8 a i j = false := by
  intro a i j h
  unfold W8
  by_cases d : a = 40
  · rw [d] at h
    have m4 : j ≠ 4 := fun q => by rw [q] at h; exact tf h rfl
    have m5 : j ≠ 5 := fun q => by rw [q] at h; exact tf h rfl
    have m6 : j ≠ 6 := fun q => by rw [q] at h; exact tf h rfl
    have m7 : j ≠ 7 := fun q => by rw [q] at h; exact tf h rfl
    have m9 : j ≠ 9 := fun q => by rw [q] at h; exact tf h rfl
    have m18 : j ≠ 18 := fun q => by rw [q] at h; exact tf h rfl
    have m19 : j ≠ 19 := fun q => by rw [q] at h; exact tf h rfl
    have m20 : j ≠ 20 := fun q => by rw [q] at h; exact tf h rfl
    rw [beq_out m4, beq_out m5, beq_out m6, beq_out m7, beq_out m9, beq_out m18, beq_out m19, beq_out m20]
    cases Nat.beq a 40 <;> rfl
  · rw [beq_out d]; rfl
theorem W7q_pg : ∀ a i j : Nat, Wpg a i j = false → W7q a i j = false := by
  intro a i j h
  unfold W7q
  by_cases d : a = 40
  · rw [d] at h
    have m : ∀ k : Nat, Wpg 40 i k = true → j ≠ k := fun k hk q => by rw [q] at h; exact tf h hk
    rw [beq_out (m 1 rfl), beq_out (m 2 rfl), beq_out (m 3 rfl), beq_out (m 4 rfl), beq_out (m 5 rfl), beq_out (m 6 rfl), beq_out (m 7 rfl), beq_out (m 8 rfl), beq_out (m 9 rfl), beq_out (m 16 rfl), beq_out (m 18 rfl), beq_out (m 19 rfl), beq_out (m 20 rfl)]
    cases Nat.beq a 40 <;> rfl
  · rw [beq_out d]; rfl
theorem TXq.base {to : Nat} (F : FX W7q S T) (h : TXq T U to n) : TXq S U to n := by
  obtain ⟨h1, h2, h3, h4, h5⟩ := h
  refine ⟨(F.ce W7q_pg).tr h1, h2.trans F.2, fun a i j ha => ?_, fun t ht => ⟨?_, fun j => ?_⟩, ?_⟩
  · rw [h3 a i j ha, F.1 a i j (by unfold W7q; rw [beq_out (by omega : a ≠ 40)]; rfl)]
  · rw [(h4 t ht).1, F.1 44 0 t rfl]
  · rw [(h4 t ht).2 j, F.1 43 t j rfl]
  · rw [h5]
    funext k
    unfold txq
    rw [F.1 41 0 k rfl]
/-- the reference's reading: the three ways out -/
theorem q_prog {Q : Int32 → fS → Prop} (RT : RI T) (z : ge T 40 0 0 = 0) (hn : p.toInt = (n : Int)) (hL : (n : Int) ≤ (ge T 40 0 1).toInt) (n300 : n ≤ 300) (h2 : p2 = 0 ∨ p2 = 1) (hno : ∀ (v : Int32) (U : fS), FX W7q T U → ge U 40 0 1 = 0 → ge U 40 0 0 = 0 → ((p2 = 0 ∧ ((ge T 40 0 13).toInt = 6 ∨ ¬ okP (txq T n))) ∨ (¬ p2 = 0 ∧ ((ge T 40 0 14).toInt = 3 ∨ ¬ okL (txq T n)))) → Q v U) (hyes : ∀ (v : Int32) (U : fS) (to : Nat), ge U 40 0 1 = 0 → ge U 40 0 0 = 0 → TXq T U to n → ((p2 = 0 ∧ ¬ (ge T 40 0 13).toInt = 6 ∧ (∃ env : Nat → Int32, ∃ g : G3, nW (txq T n) false env 302 0 0 (0, 0, 0) = .ok g) ∧ (ge T 40 0 13).toInt = (to : Int) ∧ (ge U 40 0 13).toInt = (ge T 40 0 13).toInt + 1 ∧ ge U 40 0 14 = ge T 40 0 14) ∨ (¬ p2 = 0 ∧ ¬ (ge T 40 0 14).toInt = 3 ∧ (∃ env : Nat → Int32, ∃ y : Int32, nL (txq T n) true env = .ok y) ∧ 6 + (ge T 40 0 14).toInt = (to : Int) ∧ (ge U 40 0 14).toInt = (ge T 40 0 14).toInt + 1 ∧ ge U 40 0 13 = ge T 40 0 13)) → Q v U) : pk (F_X7_program p p2 T) Q := by
  have l0 : (0 : Int32).toInt = 0 := by decide
  have l1 : (1 : Int32).toInt = 1 := by decide
  have l3 : (3 : Int32).toInt = 3 := by decide
  have l6 : (6 : Int32).toInt = 6 := by decide
  have lm1 : (-1 : Int32).toInt = -1 := by decide
  have b13 : 0 ≤ (ge T 40 0 13).toInt ∧ (ge T 40 0 13).toInt ≤ 6 := RT 40 0 13
  have b14 : 0 ≤ (ge T 40 0 14).toInt ∧ (ge T 40 0 14).toInt ≤ 3 := RT 40 0 14
  unfold F_X7_program
  refine pg7_0 z (pq_iv fun x55 e55 => pg_7 (fun _ => pg_b1 ?_) (fun q => absurd (by rw [l0, e55]; omega) q))
  unfold B_X7_program_23
  refine pg7_ok z (pq_sv fun S47 E47 => pq_sv fun S48 E48 => ?_)
  have F48 : FX W7q T S48 := by
    have f : FX W7q T S47 := by rw [E47]; exact FX.rf.wr rfl
    rw [E48]; exact f.wr rfl
  have t1 : ge S48 40 0 1 = 0 := by rw [E48, ge_puj (by decide), E47, ge_pus]
  have z48 : ge S48 40 0 0 = 0 := by rw [F48.1 40 0 0 rfl]; exact z
  have R48 : RI S48 := by
    have r : RI S47 := by rw [E47]; exact RT.wr (by rw [l0]; decide) (by rw [l0]; decide)
    rw [E48]; exact r.wf rfl
  have x13 : ge S48 40 0 13 = ge T 40 0 13 := F48.1 40 0 13 rfl
  have x14 : ge S48 40 0 14 = ge T 40 0 14 := F48.1 40 0 14 rfl
  have main : ¬ (p2 = 0 ∧ (ge T 40 0 13).toInt = 6) → ¬ (¬ p2 = 0 ∧ (ge T 40 0 14).toInt = 3) → pk (B_X7_program_68 p p2 S48) Q := by
    intro n6 n3
    unfold B_X7_program_68
    refine pq_sv fun S32 E32 => pq_sv fun S33 E33 => pq_gd fun _ => pq_sv fun S35 E35 => ?_
    have F35 : FX W7q T S35 := by
      have f1 : FX W7q T S32 := by rw [E32]; exact F48.wr rfl
      have f2 : FX W7q T S33 := by rw [E33]; exact f1.wr rfl
      rw [E35]; exact f2.wr rfl
    have R35 : RI S35 := by
      have r1 : RI S32 := by rw [E32]; exact R48.wr (by rw [lm1]; decide) (by rw [lm1]; decide)
      have r2 : RI S33 := by rw [E33]; exact r1.wr (show (0 : Int) ≤ p.toInt by omega) (show p.toInt ≤ 300 by omega)
      rw [E35]
      rcases h2 with e | e
      · rw [e]; exact r2.wr (by rw [l0]; decide) (by rw [l0]; decide)
      · rw [e]; exact r2.wr (by rw [l1]; decide) (by rw [l1]; decide)
    have t35 : ge S35 40 0 1 = 0 := by rw [E35, ge_puj (by decide), E33, ge_puj (by decide), E32, ge_puj (by decide)]; exact t1
    have c8 : ge S35 40 0 8 = -1 := by rw [E35, ge_puj (by decide), E33, ge_puj (by decide), E32, ge_pus]
    have c2 : ge S35 40 0 2 = p := by rw [E35, ge_puj (by decide), E33, ge_pus]
    have c16 : ge S35 40 0 16 = p2 := by rw [E35, ge_pus]
    have b35 : bt S35 = txq T n := by
      rw [bt_tape c8 (by rw [c2]; exact hn) n300]
      funext k
      unfold txq
      rw [F35.1 41 0 k rfl]
    have fin : ∀ (S38 : fS) , FX W8 S35 S38 → ((ge S38 40 0 6).toInt = 0 → (p2 = 0 → ∃ env : Nat → Int32, ∃ g : G3, nW (txq T n) false env 302 0 0 (0, 0, 0) = .ok g) ∧ (¬ p2 = 0 → ∃ env : Nat → Int32, ∃ y : Int32, nL (txq T n) true env = .ok y)) → (¬ (ge S38 40 0 6).toInt = 0 → (p2 = 0 → ¬ okP (txq T n)) ∧ (¬ p2 = 0 → ¬ okL (txq T n))) → pk (B_X7_program_99 p p2 S38) Q := by
      intro S38 F38 hok hbad
      unfold B_X7_program_99
      refine pq_iv fun x22 e22 => pq_sv fun S23 E23 => pq_iv fun x24 e24 => ?_
      have G38 : FX W7q T S38 := F35.tr (F38.sub W7q_8)
      have G23 : FX W7q T S23 := by rw [E23]; exact G38.wr rfl
      have t23 : ge S23 40 0 1 = 0 := by rw [E23, ge_puj (by decide), F38.1 40 0 1 rfl]; exact t35
      have z23 : ge S23 40 0 0 = 0 := by rw [G23.1 40 0 0 rfl]; exact z
      have g24 : x24 = ge S38 40 0 6 := by rw [e24, E23, ge_puj (by decide)]
      have y13 : ge S23 40 0 13 = ge T 40 0 13 := G23.1 40 0 13 rfl
      have y14 : ge S23 40 0 14 = ge T 40 0 14 := G23.1 40 0 14 rfl
      refine pq_bb (fun d => ?_) (fun d => pq_iv fun x30 _ => pq_iv fun x31 _ => pq_some (hno _ S23 G23 t23 z23 ?_))
      · have ok := hok (by rw [← g24, d, l0])
        refine pq_bb (fun d2 => pq_iv fun x27 e27 => ?_) (fun d2 => pq_iv fun x28 e28 => pq_iv fun x29 e29 => ?_)
        · obtain ⟨to, hto⟩ : ∃ to : Nat, (ge T 40 0 13).toInt = (to : Int) := ⟨(ge T 40 0 13).toInt.toNat, by omega⟩
          refine pq_imp (q_keep (to := to) hn (by rw [e27, y13]; exact hto) n300 (by rw [y13]; exact b13.2) (by rw [y14]; exact b14.2) (by rw [y13]; exact b13.1) (by rw [y14]; exact b14.1)) (fun v U q => ?_)
          obtain ⟨q1, q2, q3, q4, q5⟩ := q
          refine hyes v U to (by rw [q5]; exact t23) (by rw [q4]; exact z23) (q1.base G23) (Or.inl ⟨d2, fun e => n6 ⟨d2, e⟩, ok.1 d2, hto, by rw [(q2 d2).1, y13], by rw [(q2 d2).2, y14]⟩)
        · obtain ⟨to, hto⟩ : ∃ to : Nat, 6 + (ge T 40 0 14).toInt = (to : Int) := ⟨(6 + (ge T 40 0 14).toInt).toNat, by omega⟩
          refine pq_imp (q_keep (to := to) hn (by rw [e29, e28, y14, ti_add (by omega) (by omega), l6]; exact hto) n300 (by rw [y13]; exact b13.2) (by rw [y14]; exact b14.2) (by rw [y13]; exact b13.1) (by rw [y14]; exact b14.1)) (fun v U q => ?_)
          obtain ⟨q1, q2, q3, q4, q5⟩ := q
          refine hyes v U to (by rw [q5]; exact t23) (by rw [q4]; exact z23) (q1.base G23) (Or.inr ⟨d2, fun e => n3 ⟨d2, e⟩, ok.2 d2, hto, by rw [(q3 d2).1, y14], by rw [(q3 d2).2, y13]⟩)
      · have bad := hbad (fun e => d (of_toInt (by rw [g24, e, l0])))
        by_cases d2 : p2 = 0
        · exact Or.inl ⟨d2, Or.inr (bad.1 d2)⟩
        · exact Or.inr ⟨d2, Or.inr (bad.2 d2)⟩
    have nm : ∀ law : Bool, law = decide (¬ p2 = 0) → NMq S35 (txq T n) law (fun i => ge S35 45 0 i) := fun law hl => ⟨b35, fun i _ => rfl, by rw [c16]; exact hl⟩
    refine pq_bb (fun d2 => pq_bd (pq_and (q_walks R35 (nm false (by rw [d2]; rfl))) (w_F_X7_walks (W := W8) rfl rfl rfl rfl rfl rfl rfl rfl FX.rf).go) (fun _ S38 q => ?_)) (fun d2 => pq_bd (pq_and (q_walksLaw R35 (nm true (by rw [decide_eq_true d2]))) (w_F_X7_walksLaw (W := W8) rfl rfl rfl rfl FX.rf).go) (fun v S38 q => ?_))
    · obtain ⟨q1, F38⟩ := q
      cases hw : nW (txq T n) false (fun i => ge S35 45 0 i) 302 0 0 (0, 0, 0) with
      | error e =>
        rw [hw] at q1
        have q1 : EFq S38 e := q1
        refine fin S38 F38 (fun w => absurd (q1.1.symm.trans w) q1.2.2) (fun _ => ⟨fun _ ok => ?_, fun q => absurd d2 q⟩)
        obtain ⟨g, hg⟩ := ok (fun i => ge S35 45 0 i)
        rw [hw] at hg
        cases hg
      | ok g =>
        rw [hw] at q1
        have q1 : (ge S38 40 0 6).toInt = 0 ∧ tg S38 = g := q1
        exact fin S38 F38 (fun _ => ⟨fun _ => ⟨_, g, hw⟩, fun q => absurd d2 q⟩) (fun w => absurd q1.1 w)
    · obtain ⟨q1, F38⟩ := q
      cases hw : nL (txq T n) true (fun i => ge S35 45 0 i) with
      | error e =>
        rw [hw] at q1
        have q1 : EFq S38 e := q1
        refine fin S38 F38 (fun w => absurd (q1.1.symm.trans w) q1.2.2) (fun _ => ⟨fun q => absurd q d2, fun _ ok => ?_⟩)
        obtain ⟨y, hy⟩ := ok (fun i => ge S35 45 0 i)
        rw [hw] at hy
        cases hy
      | ok y =>
        rw [hw] at q1
        have q1 : (ge S38 40 0 6).toInt = 0 ∧ v = y := q1
        exact fin S38 F38 (fun _ => ⟨fun q => absurd q d2, fun _ => ⟨_, y, hw⟩⟩) (fun w => absurd q1.1 w)
  refine pq_bb (fun d2 => pq_iv fun x50 e50 => ?_) (fun d2 => pq_iv fun x52 e52 => ?_)
  · rw [x13] at e50
    refine pq_bb (fun d => pq_some (hno _ S48 F48 t1 z48 (Or.inl ⟨d2, Or.inl (by rw [← e50, d, l6])⟩))) (fun d => main (fun q => d (of_toInt (by rw [e50, q.2, l6]))) (fun q => absurd d2 q.1))
  · rw [x14] at e52
    refine pq_bb (fun d => pq_some (hno _ S48 F48 t1 z48 (Or.inr ⟨d2, Or.inl (by rw [← e52, d, l3])⟩))) (fun d => main (fun q => absurd q.1 d2) (fun q => d (of_toInt (by rw [e52, q.2, l3]))))
theorem RDq.PG (h : RDq S T) (hP : PGq S) : PGq T := hP.fx h.1 rfl rfl rfl rfl (fun _ => rfl) (fun _ _ => rfl) (fun _ _ => rfl)
theorem okP_no (h : ∀ env : Nat → Int32, ∃ e : Int × Nat, nW (txq S n) false env 302 0 0 (0, 0, 0) = .error e) : ¬ ∃ env : Nat → Int32, ∃ g : G3, nW (txq S n) false env 302 0 0 (0, 0, 0) = .ok g := by
  rintro ⟨env, g, hg⟩
  obtain ⟨e, he⟩ := h env
  rw [he] at hg
  cases hg
theorem okL_no (h : ∀ env : Nat → Int32, ∃ e : Int × Nat, nL (txq S n) true env = .error e) : ¬ ∃ env : Nat → Int32, ∃ y : Int32, nL (txq S n) true env = .ok y := by
  rintro ⟨env, g, hg⟩
  obtain ⟨e, he⟩ := h env
  rw [he] at hg
  cases hg
theorem rk_program (h : IV S) (z : ge S 40 0 0 = 0) (h2 : p2 = 0 ∨ p2 = 1) : RKw (fun ec => if ec = 0 then 0 else 1) (F_X6_program p p2 S) (F_X7_program p p2) := by
  have l0 : (0 : Int32).toInt = 0 := by decide
  have hL := h.2.2.2
  obtain ⟨⟨H, hO, B, N, hP, hI, _⟩, ht, _⟩ := h.2.2.2
  have h0 := h.nq
  unfold RKw
  refine pq_imp (pq_and (s_F_X6_program p p2 S h.1 h.2.1).pk (y_prog h)) (fun r T1 q => ?_)
  obtain ⟨⟨R1, _, G1, _⟩, q⟩ := q
  rcases q with ⟨q1, q2, q3⟩ | ⟨q1, n, hn, hnL, n300, q⟩
  · rw [q3]
    unfold F_X7_program
    refine pg7_0 z (pq_iv fun x55 e55 => pg_7 (fun q => absurd (by rw [l0, e55] at q; exact q) q2) (fun _ => pg_b0 ?_))
    unfold B_X7_program_23
    exact pg7_no z (by decide) (pq_some ⟨(h.wr 1).2.2.2, by rw [ge_pus, q1]; rfl⟩)
  · have s1 : SRq S T1 := by
      rcases q with ⟨rd, _⟩ | ⟨S2, l, m, rd, q⟩
      · exact fun a i j ha => rd.1.1 a i j (by unfold W1q; rw [Wvq_lo (by omega), beq_out (by omega : a ≠ 0)]; rfl)
      · have s2 : SRq S S2 := fun a i j ha => rd.1.1 a i j (by unfold W1q; rw [Wvq_lo (by omega), beq_out (by omega : a ≠ 0)]; rfl)
        rcases q with ⟨_, _, _, K, _⟩ | ⟨_, _, _, K, _⟩
        · exact s2.tr K.2.1
        · exact s2.tr K.2.1
    have z1 := RI_z z s1
    have tx1 : txq T1 n = txq S n := funext fun k => by unfold txq; rw [s1 41 0 k (by decide)]
    have e13 := s1 40 0 13 (by decide)
    have e14 := s1 40 0 14 (by decide)
    have b13 : 0 ≤ (ge S 40 0 13).toInt := (h.1 40 0 13).1
    have tpe : ∀ U : fS, ge U 0 0 11 = 0 → ge U 40 0 1 = 0 → TPE U := fun U a b => ⟨by rw [a, b], fun k hk => absurd hk (by rw [a, l0]; omega)⟩
    rcases q with ⟨rd, nP⟩ | ⟨S2, l, m, rd, q⟩
    · refine q_prog R1 z1 hn (by rw [s1 40 0 1 (by decide)]; exact hnL) n300 h2 (fun v U FU u1 u0 _ => ?_) (fun v U to u1 u0 X q => ?_)
      · have F1 : CE Wpg S T1 := rd.1.ce W1q_pg
        have PU : PGq U := (rd.PG hP).fx FU rfl rfl rfl rfl (fun _ => rfl) (fun _ _ => rfl) (fun _ _ => rfl)
        refine ⟨hL.pg h0 (F1.tr (FU.ce W7q_pg)) (fun i j => by unfold gr; rw [FU.2, rd.1.2]) ?_ (by rw [FU.1 40 0 13 rfl, e13]; exact Int.le_refl _) PU (tpe U (by rw [FU.1 0 0 11 rfl]; exact rd.2.1) u1), by rw [u0, q1]; rfl⟩
        have e : U.2 = S.2 := FU.2.trans rd.1.2
        exact congrArg (fun z => z.2.1.1) e
      · exfalso
        rw [tx1, e13, e14] at q
        rcases q with ⟨d, n6, ok, _⟩ | ⟨d, n3, ok, _⟩
        · rcases nP.1 d with a | a
          · exact n6 a
          · exact okP_no a ok
        · rcases nP.2 d with a | a
          · exact n3 a
          · exact okL_no a ok
    · have F2 : CE Wpg S S2 := rd.1.ce W1q_pg
      have G2 : GI S2 := h.2.1.fx1 rd.1 (fun _ => rfl)
      have s2 : SRq S S2 := fun a i j ha => rd.1.1 a i j (by unfold W1q; rw [Wvq_lo (by omega), beq_out (by omega : a ≠ 0)]; rfl)
      have tx2 : txq S2 n = txq S n := funext fun k => by unfold txq; rw [s2 41 0 k (by decide)]
      have close : ∀ (a c5 : Nat) (U : fS) (to : Nat), KPg a c5 S2 T1 m l → c5 ≠ 11 → TXq T1 U to n → (ge S 40 0 13).toInt ≤ (ge U 40 0 13).toInt → PGq U → ge U 40 0 1 = 0 → RLv U := by
        intro a c5 U to K hc X h13 PU u1
        obtain ⟨k1, k2, k3, k4, k5, k6, k7, k8, k9, k10⟩ := K
        refine hL.pg h0 ((F2.tr k1).tr X.1) (fun i j => ?_) ?_ h13 PU (tpe U (by rw [X.2.2.1 0 0 11 (by decide), k9 11 (fun e => hc e.symm)]; exact rd.2.1) u1)
        · have e : gr U 11 i j = gr T1 11 i j := by unfold gr; rw [X.2.1]
          rw [e, k3]
          unfold gr
          rw [rd.1.2]
        · have e : nT U = nT T1 := congrArg (fun z => z.2.1.1) X.2.1
          have e2 : nT S2 = nT S := congrArg (fun z => z.2.1.1) rd.1.2
          rw [e, k4, e2]
      rcases q with ⟨d, hm, m6, K, hb⟩ | ⟨d, hm, m3, K, hb⟩
      · refine q_prog R1 z1 hn (by rw [s1 40 0 1 (by decide)]; exact hnL) n300 h2 (fun v U FU u1 u0 q => ?_) (fun v U to u1 u0 X q => ?_)
        · exfalso
          rw [tx1, e13] at q
          rcases q with ⟨_, a⟩ | ⟨a, _⟩
          · rcases a with a | a
            · omega
            · exact a (fun env => by obtain ⟨g, hg, _⟩ := hb env; exact ⟨g, hg⟩)
          · exact a d
        · rcases q with ⟨_, _, _, hto, u13, u14⟩ | ⟨a, _⟩
          · have et : to = m := by rw [e13, hm] at hto; omega
            rw [et] at X
            have PU : PGq U := PG_P (n := n) (rd.PG hP) G2 (by rw [s2 40 0 13 (by decide)]; exact hm) m6 K X (by rw [tx2]; exact hb) (by rw [u13, e13, hm]) u14
            exact ⟨close 13 5 U m K (by decide) X (by rw [u13, e13]; omega) PU u1, by rw [u0, q1]; rfl⟩
          · exact absurd d a
      · refine q_prog R1 z1 hn (by rw [s1 40 0 1 (by decide)]; exact hnL) n300 h2 (fun v U FU u1 u0 q => ?_) (fun v U to u1 u0 X q => ?_)
        · exfalso
          rw [tx1, e14] at q
          rcases q with ⟨a, _⟩ | ⟨_, a⟩
          · exact d a
          · rcases a with a | a
            · omega
            · exact a (fun env => by obtain ⟨g, hg, _⟩ := hb env; exact ⟨g, hg⟩)
        · rcases q with ⟨a, _⟩ | ⟨_, _, _, hto, u14, u13⟩
          · exact absurd a d
          · have et : to = 6 + m := by rw [e14, hm] at hto; omega
            rw [et] at X
            have PU : PGq U := PG_L (n := n) (rd.PG hP) G2 (by rw [s2 40 0 14 (by decide)]; exact hm) m3 K X (by rw [tx2]; exact hb) (by rw [u14, e14, hm]) u13
            exact ⟨close 14 7 U (6 + m) K (by decide) X (by rw [u13, e13]; exact Int.le_refl _) PU u1, by rw [u0, q1]; rfl⟩
end PRG3
