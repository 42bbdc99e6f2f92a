/-! the reference's try that is recorded -/
def Wpu (m a i j : Nat) : Bool := Wcn a i j || W57 m a i j
def Wpt (m a i j : Nat) : Bool := Wpu m a i j || (Nat.beq a 40 && Nat.beq j 34)
def Wat (m a i j : Nat) : Bool := Wpt m a i j || Wa8 m a i j
/-- the lot of the next try that is recorded -/
noncomputable def lotq (S : fS) : Int32 := if loS S = 1 then 0 else drV (ge S 40 0 34) (Int32.ofNat (loS S))
noncomputable def glS (S : fS) : G3 := Classical.epsilon (fun g => TLq S (lotq S) g)
theorem glS_ok {S : fS} (h : TOK S) : TLq S (lotq S) (glS S) := Classical.epsilon_spec (h (lotq S))
section RE7
variable {S T U : fS} {c m : Nat} {p : Int32}
theorem GOt {V : Nat → Nat → Nat → Bool} (F : FX V S T) (h : ∀ a j : Nat, 46 ≤ a ∧ a ≤ 54 → V a 0 j = false) (h53 : ∀ c j : Nat, V 53 c j = false) (h30 : V 40 0 30 = false) (h31 : V 40 0 31 = false) (G : GOq T U c) : GOq S U c := by
  have e1 : hh T = hh S := funext fun c => by unfold hh; rw [F.1 54 0 c (h 54 c (by decide))]
  have e2 : hq T = hq S := funext fun c => funext fun k => by unfold hq; rw [F.1 53 c k (h53 c k)]
  have e5 : tq T = tq S := funext fun c => by unfold tq; rw [e1, e2]
  have e6 : ∀ lk d, gn T c lk d = gn S c lk d := fun lk d => by unfold gn; rw [e5, F.1 47 0 _ (h 47 _ (by decide))]
  have e7 : ∀ lk d, gF T c lk d = gF S c lk d := by
    intro lk d
    induction d with
    | zero => rfl
    | succ d ih =>
      show gF T c lk d ++ _ = gF S c lk d ++ _
      rw [ih, e6]
  have e8 : gL T c = gL S c := by unfold gL; rw [e5, F.1 47 0 _ (h 47 _ (by decide)), e7]
  have e9 : ∀ L, wsm T L = wsm S L := fun L => by
    unfold wsm
    congr 1
    funext a t
    rw [F.1 46 0 t (h 46 t (by decide))]
  have e10 : ∀ L, wrd T L = wrd S L := fun L => by
    unfold wrd
    congr 1
    funext t
    rw [F.1 51 0 t (h 51 t (by decide))]
  have e11 : upq T c = upq S c := by unfold upq; rw [e1]
  have e13 : mis T c = mis S c := by unfold mis; rw [e5, F.1 40 0 30 h30, F.1 40 0 31 h31]
  unfold GOq RGq at G ⊢
  rw [e13, e8, e10, e11, e9] at G
  exact G
theorem Wpu_c : ∀ a i j : Nat, Wpu m a i j = false → Wcn a i j = false := fun a i j h => (Bool.or_eq_false_iff.1 h).1
theorem Wpu_7 : ∀ a i j : Nat, Wpu m a i j = false → Wt7 a i j = false := fun a i j h => Wt7_c a i j (Wpu_c a i j h)
theorem Wpu_t {j : Nat} : Wpu m 57 m j = true := by unfold Wpu; rw [w57_t]; exact Bool.or_true _
theorem Wpt_u : ∀ a i j : Nat, Wpt m a i j = false → Wpu m a i j = false := fun a i j h => (Bool.or_eq_false_iff.1 h).1
theorem Wat_p : ∀ a i j : Nat, Wat m a i j = false → Wpt m a i j = false := fun a i j h => (Bool.or_eq_false_iff.1 h).1
theorem Wat_8 : ∀ a i j : Nat, Wat m a i j = false → Wa8 m a i j = false := fun a i j h => (Bool.or_eq_false_iff.1 h).2
theorem Wpt_out {a j : Nat} (h : 46 ≤ a ∧ a ≤ 54) : Wpt m a 0 j = false := by
  unfold Wpt Wpu
  rw [Wcn_out (by omega) (by omega) (by omega) (by omega) (by omega), w57_out (by omega), beq_out (by omega : a ≠ 40)]
  rfl
/-- what a recorded try leaves in the reference -/
def QAq (S : fS) (m c : Nat) (p v : Int32) (T : fS) : Prop := FX (Wat m) S T ∧ RVq T (nq S) ∧ MWq S c (clm (glS S)).1 (clm (glS S)).2.1 (hw T) (HS T) ∧ v = oq S c (clm (glS S)).1 (clm (glS S)).2.1 ∧ CNq S T (oq S c (clm (glS S)).1 (clm (glS S)).2.1) (feq S c (clm (glS S)).1 (clm (glS S)).2.1) ∧ (ge T 57 m 0 = p ∧ ge T 57 m 1 = oq S c (clm (glS S)).1 (clm (glS S)).2.1 ∧ (ge T 57 m 2).toInt = (if oq S c (clm (glS S)).1 (clm (glS S)).2.1 = 3 then lgq S c (clm (glS S)).1 (clm (glS S)).2.1 else -1) ∧ ge T 57 m 3 = lotq S ∧ (∀ j : Nat, j < 5 → ge T 57 m (4 + j) = env1 S 0 j) ∧ (∃ u : Int32, CAN (PAq S false) u ∧ ge T 57 m 9 = (if u = -1 then 0 else 1)) ∧ ge T 57 m 12 = ge S 40 0 30 ∧ ∃ V : fS, GOq S V c ∧ ge T 57 m 10 = ge V 40 0 44 ∧ ge T 57 m 11 = ge V 40 0 45) ∧ ge T 40 0 46 = ge S 40 0 46 + 1 ∧ ge T 40 0 34 = (if loS S = 1 then ge S 40 0 34 else drS (ge S 40 0 34))
theorem q_attemptAt (RS : RI S) (H : HVq S) (hO : HOq S) (hP : PGq S) (hI : IFq S) (hp : p.toInt = (c : Int)) (hc : c < 64) (hm : (ge S 40 0 46).toInt = (m : Int)) : pk (F_X7_attemptAt p S) (fun v T => QAq S m c p v T) := by
  have l0 : (0 : Int32).toInt = 0 := by decide
  have l1 : (1 : Int32).toInt = 1 := by decide
  have l5 : (5 : Int32).toInt = 5 := by decide
  have TO := TOK_of hP hI
  have lb := loS_bd S
  have if5 : -1 ≤ (ge S 40 0 15).toInt ∧ (ge S 40 0 15).toInt ≤ 5 := by
    obtain ⟨m, m6, _, m40, _⟩ := hP.1
    obtain ⟨_, i2, i3⟩ := hI
    omega
  -- behind the lot
  have fin : ∀ (X : fS) (t0 u : Int32), RI X → FX (Wpt m) S X → (∀ j : Nat, j < 5 → ge X 57 m (4 + j) = env1 S 0 j) → CAN (PAq S false) u → ge X 57 m 9 = (if u = -1 then 0 else 1) → ge X 40 0 34 = (if loS S = 1 then ge S 40 0 34 else drS (ge S 40 0 34)) → pk (B_X7_attemptAt_80L p m (lotq S) X) (fun v T => QAq S m c p v T) := by
    intro X t0 u RX FX1 r4 Cu r9 r34
    obtain ⟨hhE, hqE, hwE, nE, oE, lE, gE, HVE, vE⟩ := SRt FX1 (fun a j h => Wpt_out h) (fun c j => rfl) rfl rfl rfl (clm (glS S)).1 (clm (glS S)).2.1 c
    have HSE : HS X = HS S := by funext c; unfold HS; rw [hqE, hhE]
    have lcE : lcq X c (clm (glS S)).1 (clm (glS S)).2.1 = lcq S c (clm (glS S)).1 (clm (glS S)).2.1 := by unfold lcq; rw [oE, lE]
    have feE : feq X c (clm (glS S)).1 (clm (glS S)).2.1 = feq S c (clm (glS S)).1 (clm (glS S)).2.1 := by unfold feq; rw [oE, gE, vE]
    have tX : TLq X (lotq S) (glS S) := by
      show TPq X (ge X 40 0 15).toInt (env1 X (lotq S)) (glS S)
      rw [FX1.1 40 0 15 rfl]
      refine TPq.fx (TPq.cg (glS_ok TO) (fun i hi => ?_)) FX1 (fun _ => rfl) (fun _ _ => rfl)
      unfold env1
      rw [FX1.1 40 0 35 rfl, FX1.1 40 0 36 rfl, FX1.1 40 0 37 rfl, FX1.1 40 0 32 rfl, FX1.1 40 0 38 rfl, FX1.1 40 0 33 rfl]
    refine pq_imp (q_at80 (m := m) RX (HVE H) (by unfold HOq; rw [FX1.1 40 0 30 rfl]; exact hO) tX hp hc) (fun v T q => ?_)
    obtain ⟨q1, q2, q3, q4, q5, ⟨w0, w1, w2, w3, w4, w5, V, w6, w7, w8⟩, q7⟩ := q
    rw [nE] at q2
    unfold MWq at q3
    rw [oE, gE, lcE, hwE, HSE, nE] at q3
    rw [oE] at q4 w1
    rw [oE, feE] at q5
    rw [oE, lE] at w2
    rw [FX1.1 40 0 30 rfl] at w5
    refine ⟨(FX1.sub Wat_p).tr (q1.sub Wat_8), q2, q3, q4, ?_, ⟨w0, w1, w2, w3, fun j hj => ?_, ⟨u, Cu, ?_⟩, w5, V, GOt FX1 (fun a j h => Wpt_out h) (fun _ _ => rfl) rfl rfl w6, w7, w8⟩, ?_, ?_⟩
    · obtain ⟨c1, c2, c3, c4, c5⟩ := q5
      rw [FX1.1 40 0 35 rfl] at c2
      rw [FX1.1 40 0 36 rfl] at c3
      rw [FX1.1 40 0 37 rfl, FX1.1 40 0 32 rfl] at c4
      rw [FX1.1 40 0 38 rfl] at c5
      exact ⟨c1, c2, c3, c4, c5⟩
    · rw [w4 (4 + j) (by omega) (by omega), r4 j hj]
    · rw [w4 9 (by omega) (by omega), r9]
    · rw [q7, FX1.1 40 0 46 rfl]
    · rw [q1.1 40 0 34 rfl, r34]
  unfold F_X7_attemptAt
  refine pq_iv fun x46 e46 => pq_gd fun _ => ?_
  rw [cnNq (y := x46) (m := m) (by rw [e46]; exact hm)]
  refine pq_bd (pq_and (s_F_X7_canNow 0 S RS (by decide)).pk (q_canNow (all := false) RS H hO hP hI rfl)) (fun u S49 q => ?_)
  obtain ⟨⟨R49, _⟩, F49, Cu⟩ := q
  have main : ∀ t0 : Int32, t0 = (if u = -1 then 0 else 1) → pk (B_X7_attemptAt_27L p m t0 9 m S49) (fun v T => QAq S m c p v T) := by
    intro t0 h0
    unfold B_X7_attemptAt_27L
    refine pq_gd fun _ => pq_sv fun S42 E42 => ?_
    have n9 : (9 : Int32).toNatClampNeg = 9 := by decide
    rw [n9] at E42
    have R42 : RI S42 := by rw [E42]; exact R49.wf rfl
    have F42 : FX (Wpu m) S S42 := by rw [E42]; exact (F49.sub Wpu_c).wr Wpu_t
    refine pq_bd (pq_and (s_F_X7_namesOf 1 S42 R42).pk (q_names1 0)) (fun _ S44 q => ?_)
    obtain ⟨⟨R44, _⟩, F44, n44, _⟩ := q
    have G44 : FX (Wpu m) S S44 := F42.tr ((F44.sub W45_t).sub Wpu_7)
    have nm : ∀ j : Nat, j < 5 → ge S44 45 0 j = env1 S 0 j := by
      intro j hj
      have e := n44 j (by omega)
      unfold envN at e
      rw [if_neg (by omega)] at e
      rw [e]
      unfold env1
      rw [F42.1 40 0 35 rfl, F42.1 40 0 36 rfl, F42.1 40 0 37 rfl, F42.1 40 0 32 rfl, F42.1 40 0 38 rfl, F42.1 40 0 33 rfl]
    have r9 : ge S44 57 m 9 = t0 := by rw [F44.1 57 m 9 rfl, E42, ge_pus]
    refine pq_lp (fun (z : Int32 × Nat × Int32) V => RI V ∧ FX (Wpu m) S V ∧ z.1 = p ∧ z.2.1 = m ∧ (∀ j : Nat, j < 5 → ge V 45 0 j = env1 S 0 j) ∧ ge V 57 m 9 = t0 ∧ ∃ i : Nat, z.2.2.toInt = (i : Int) ∧ i ≤ 5 ∧ ∀ j : Nat, j < i → ge V 57 m (4 + j) = env1 S 0 j) (fun _ _ v T => QAq S m c p v T) ?_ fuel (p, m, 0) S44 ⟨R44, G44, rfl, rfl, nm, r9, 0, l0, by omega, fun j h => absurd h (Nat.not_lt_zero _)⟩
    intro k hk z V hz
    obtain ⟨d1, d2, d3⟩ := z
    obtain ⟨RV, FV, f1, f2, nV, g9, i, i1, i2, i3⟩ := hz
    dsimp only at f1 f2 i1
    rw [f1, f2]
    unfold B_X7_attemptAt_35L
    refine pq_le (fun c5 => ?_) (fun c5 => ?_)
    · have i5 : i = 5 := by omega
      rw [i5] at i3
      refine pq_iv fun x27 e27 => ?_
      rw [FV.1 40 0 15 rfl] at e27
      have tV : TPq V x27.toInt (envN V 0) (tlS S 0) := by
        rw [e27]
        refine TPq.fx (TPq.cg (tlS_ok TO 0) (fun i hi => ?_)) FV (fun _ => rfl) (fun _ _ => rfl)
        unfold envN
        by_cases d : i = 5
        · rw [if_pos d, d]
          rfl
        · rw [if_neg d, nV i (by omega)]
          exact env1_5 _ _ hi d
      unfold F_X7_lotsBy
      refine pq_bd (pq_bd (Q := fun v X => RI X ∧ FX Wt7 V X ∧ v.toInt = (loS S : Int)) (pq_and (s_F_X7_tellsBy x27 0 V RV (by rw [e27]; exact if5)).pk (q_tellsq RV tV)) (fun _ X q => ?_)) (fun v28 S29 q => ?_)
      · obtain ⟨⟨RX, _⟩, FX1, _, _, t1⟩ := q
        refine pq_iv fun x4 e4 => pq_some ⟨RX, FX1, ?_⟩
        rw [e4, ← lb.2.2]
        exact congrArg (fun z => z.2.2.toInt) t1
      obtain ⟨R29, F29, g28⟩ := q
      have G29 : FX (Wpu m) S S29 := FV.tr (F29.sub Wpu_7)
      have r29 : ∀ j : Nat, ge S29 57 m j = ge V 57 m j := fun j => F29.1 57 m j rfl
      refine pq_le (fun c1 => ?_) (fun c1 => ?_)
      · have L1 : loS S = 1 := by omega
        have e0 : lotq S = 0 := by unfold lotq; rw [if_pos L1]
        rw [← e0]
        exact fin S29 t0 u R29 (G29.sub Wpt_u) (fun j hj => by rw [r29, i3 j hj]) Cu (by rw [r29, g9, h0]) (by rw [if_pos L1, G29.1 40 0 34 rfl])
      · have L1 : ¬ loS S = 1 := by omega
        refine pq_bd q_draw (fun v32 S33 q => ?_)
        obtain ⟨q1, q2⟩ := q
        rw [G29.1 40 0 34 rfl] at q1 q2
        have e0 : v32 = lotq S := by
          unfold lotq
          rw [if_neg L1, q1, oNi g28 (by omega)]
        rw [e0]
        have G33 : FX (Wpt m) S S33 := by rw [q2]; exact (G29.sub Wpt_u).wr (by show (_ || true) = true; exact Bool.or_true _)
        refine fin S33 t0 u (by rw [q2]; exact R29.wf rfl) G33 (fun j hj => ?_) Cu ?_ ?_
        · rw [q2, ge_pua (by decide), r29, i3 j hj]
        · rw [q2, ge_pua (by decide), r29, g9, h0]
        · rw [q2, ge_pus, if_neg L1]
    · refine pq_iv fun x35 e35 => pq_gd fun _ => ?_
      rw [cnNq i1]
      refine pq_iv fun x37 e37 => pq_gd fun _ => ?_
      have l4 : (4 : Int32).toInt = 4 := by decide
      have g35 : x35.toInt = ((4 + i : Nat) : Int) := by rw [e35, ti_add (by omega) (by omega)]; omega
      rw [cnNq g35]
      refine pq_sv fun S39 E39 => pq_iv fun x40 e40 => ?_
      have g40 : x40.toInt = d3.toInt + 1 := by rw [e40]; exact ti_inc (by omega)
      refine hk (p, m, x40) S39 ⟨by rw [E39]; exact RV.wf rfl, by rw [E39]; exact FV.wr Wpu_t, rfl, rfl, fun j hj => by rw [E39, ge_pua (by decide)]; exact nV j hj, by rw [E39, ge_puj (by omega)]; exact g9, i + 1, by dsimp only; omega, by omega, fun j hj => ?_⟩
      by_cases d : j = i
      · rw [E39, d, ge_pus, e37, nV i (by omega)]
      · rw [E39, ge_puj (by omega)]
        exact i3 j (by omega)
  exact pq_bb (fun c => main 0 (by rw [if_pos c])) (fun c => main 1 (by rw [if_neg c]))
end RE7
