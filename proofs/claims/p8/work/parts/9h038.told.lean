/-! what is told, on both sides alike -/
section CGW
variable {b : Nat → Int} {env env' : Nat → Int32}
theorem nmv_bd (q : Nat) : nmv b false q ≤ 5 ∧ -1 ≤ nmv b false q := by
  rw [nmv_wkd]
  have := wkd_bd (wc b q)
  by_cases c : 270 ≤ wkd (wc b q) ∧ wkd (wc b q) ≤ (if false = true then 276 else 275)
  · rw [if_pos c]
    have h2 := c.2
    rw [if_neg (by decide)] at h2
    omega
  · rw [if_neg c]
    decide
theorem nU_cg (h : ∀ i : Nat, i < 6 → env i = env' i) (r : Nat → Nat → Nat → RS7) (p o : Nat) : nU b false env r p o = nU b false env' r p o := by
  have a := nmv_bd (b := b) (sk b p)
  unfold nU
  by_cases c : ¬ nmv b false (sk b p) = -1
  · rw [h (nmv b false (sk b p)).toNat (by omega)]
  · rw [if_neg c, if_neg c]
theorem Wk_cg (h : ∀ i : Nat, i < 6 → env i = env' i) : ∀ d : Nat, Wk b false env d = Wk b false env' d
  | 0 => rfl
  | d + 1 => by
    have ih := Wk_cg h d
    funext j p o
    match j with
    | 0 =>
      show nU b false env (Wk b false env d) p o = nU b false env' (Wk b false env' d) p o
      rw [ih]
      exact nU_cg h _ p o
    | 1 => show nP b (Wk b false env d) p o = nP b (Wk b false env' d) p o; rw [ih]
    | 2 => show nS b (Wk b false env d) p o = nS b (Wk b false env' d) p o; rw [ih]
    | 3 => show nT7 b (Wk b false env d) p o = nT7 b (Wk b false env' d) p o; rw [ih]
    | 4 => show nA b (Wk b false env d) p o = nA b (Wk b false env' d) p o; rw [ih]
    | j + 5 => show nO b (Wk b false env d) p o = nO b (Wk b false env' d) p o; rw [ih]
theorem nC_cg (h : ∀ i : Nat, i < 6 → env i = env' i) (p cl : Nat) (g : G3) : nCk b false env p cl g = nCk b false env' p cl g := by
  unfold nCk nI9 wS wO
  rw [Wk_cg h 64]
theorem nW_cg (h : ∀ i : Nat, i < 6 → env i = env' i) : ∀ (f p cl : Nat) (g : G3), nW b false env f p cl g = nW b false env' f p cl g
  | 0, _, _, _ => rfl
  | f + 1, p, cl, g => by
    by_cases c : b (sk b p) = -1
    · rw [nW_st c, nW_st c]
    · rw [nW_go c, nW_go c, nC_cg h]
      cases nCk b false env' p cl g with
      | error e => rfl
      | ok z => exact nW_cg h f z.1 (cl + 1) z.2
end CGW
/-- a program on both sides: the text t, the code c -/
def PRq (S : fS) (t c : Nat) : Prop := ∃ P : List Int32, CP S c P ∧ ∀ env : Nat → Int32, ∃ g : G3, nW (btx S t) false env 302 0 0 (0, 0, 0) = .ok g ∧ runP env P = ([], g)
def LRq (S : fS) (t c : Nat) : Prop := ∃ P : List Int32, CP S c P ∧ ∀ env : Nat → Int32, ∃ y : Int32, nL (btx S t) true env = .ok y ∧ ∀ g : G3, xs env P ([], g) = ([y], g)
/-- all programs and laws -/
def PGq (S : fS) : Prop := (∃ m : Nat, m ≤ 6 ∧ (ge S 0 0 5).toInt = (m : Int) ∧ (ge S 40 0 13).toInt = (m : Int) ∧ ∀ t : Nat, t < m → ∃ c : Nat, gr S 13 0 t = some c ∧ PRq S t c) ∧ (∃ m : Nat, m ≤ 3 ∧ (ge S 0 0 7).toInt = (m : Int) ∧ (ge S 40 0 14).toInt = (m : Int) ∧ ∀ t : Nat, t < m → ∃ c : Nat, gr S 14 0 t = some c ∧ LRq S (6 + t) c)
/-- which program is in force -/
def IFq (S : fS) : Prop := ge S 1 0 6 = ge S 40 0 15 ∧ -1 ≤ (ge S 40 0 15).toInt ∧ (ge S 40 0 15).toInt < (ge S 40 0 13).toInt
def env1 (S : fS) (lot : Int32) (i : Nat) : Int32 := if i = 0 then ge S 40 0 35 + 1 else if i = 1 then ge S 40 0 36 + 1 else if i = 2 then ge S 40 0 37 + ge S 40 0 32 else if i = 3 then ge S 40 0 38 else if i = 4 then ge S 40 0 33 else lot
/-- what the program o (none: -1) tells by these names -/
def TPq (S : fS) (o : Int) (env : Nat → Int32) (g : G3) : Prop := (o = -1 ∧ g = (0, 0, 0)) ∨ ∃ t : Nat, o = (t : Int) ∧ t ≤ 5 ∧ nW (btx S t) false env 302 0 0 (0, 0, 0) = .ok g
/-- what is told for a try now -/
def TLq (S : fS) (lot : Int32) (g : G3) : Prop := TPq S (ge S 40 0 15).toInt (env1 S lot) g
/-- box b's numbers are the reference's -/
def NBq (S : fS) (b : Nat) : Prop := ge S 1 b 3 = ge S 40 0 32 ∧ ge S 1 b 4 = ge S 40 0 33 ∧ ge S 1 b 7 = ge S 40 0 35 ∧ ge S 1 b 8 = ge S 40 0 36 ∧ ge S 1 b 9 = ge S 40 0 37 ∧ ge S 1 b 10 = ge S 40 0 38
def Wnm (r a i j : Nat) : Bool := (Nat.beq a 25 && (Nat.beq j 4 || (Nat.beq j 5 || (Nat.beq j 6 || (Nat.beq j 7 || Nat.beq j 8))))) && Nat.beq i r
section TLD
variable {S T : fS} {r b : Nat} {o : Int} {lot : Int32} {env env' : Nat → Int32} {g g' : G3}
theorem TPq.un (h : TPq S o env g) (h' : TPq S o env g') : g = g' := by
  rcases h with ⟨a, rfl⟩ | ⟨t, a, _, e⟩ <;> rcases h' with ⟨a', rfl⟩ | ⟨t', a', _, e'⟩
  · rfl
  · omega
  · omega
  · have : t = t' := by omega
    rw [← this, e] at e'
    cases e'
    rfl
theorem TPq.cg (h : TPq S o env g) (he : ∀ i : Nat, i < 6 → env i = env' i) : TPq S o env' g := by
  rcases h with h | ⟨t, a, b, e⟩
  · exact Or.inl h
  · exact Or.inr ⟨t, a, b, by rw [← nW_cg he]; exact e⟩
theorem TPq.ex (hP : PGq S) (ho : -1 ≤ o) (ho2 : o < (ge S 40 0 13).toInt) (env : Nat → Int32) : ∃ g : G3, TPq S o env g := by
  obtain ⟨m, m6, _, m40, hm⟩ := hP.1
  by_cases c : o = -1
  · exact ⟨(0, 0, 0), Or.inl ⟨c, rfl⟩⟩
  · obtain ⟨cc, _, P, _, hE⟩ := hm o.toNat (by omega)
    obtain ⟨g, e, _⟩ := hE env
    exact ⟨g, Or.inr ⟨o.toNat, by omega, by omega, e⟩⟩
/-- only texts and their lengths count -/
theorem TPq.fx {V : Nat → Nat → Nat → Bool} (h : TPq S o env g) (F : FX V S T) (h1 : ∀ t : Nat, V 44 0 t = false) (h2 : ∀ t k : Nat, V 43 t k = false) : TPq T o env g := by
  rcases h with h | ⟨t, a, b, e⟩
  · exact Or.inl h
  · exact Or.inr ⟨t, a, b, by rw [btx.fx F (h1 t) (h2 t)]; exact e⟩
theorem PRq.fx {V : Nat → Nat → Nat → Bool} {t c : Nat} (h : PRq S t c) (F : FX V S T) (h1 : V 44 0 t = false) (h2 : ∀ k : Nat, V 43 t k = false) (h3 : ∀ j : Nat, V 30 c j = false) : PRq T t c := by
  obtain ⟨P, p1, p2⟩ := h
  exact ⟨P, p1.fx F h3, by rw [btx.fx F h1 h2]; exact p2⟩
theorem LRq.fx {V : Nat → Nat → Nat → Bool} {t c : Nat} (h : LRq S t c) (F : FX V S T) (h1 : V 44 0 t = false) (h2 : ∀ k : Nat, V 43 t k = false) (h3 : ∀ j : Nat, V 30 c j = false) : LRq T t c := by
  obtain ⟨P, p1, p2⟩ := h
  exact ⟨P, p1.fx F h3, by rw [btx.fx F h1 h2]; exact p2⟩
theorem gr_fx {V : Nat → Nat → Nat → Bool} (F : FX V S T) (a i j : Nat) : gr T a i j = gr S a i j := by unfold gr; rw [F.2]
theorem PGq.fx {V : Nat → Nat → Nat → Bool} (h : PGq S) (F : FX V S T) (a5 : V 0 0 5 = false) (a7 : V 0 0 7 = false) (a13 : V 40 0 13 = false) (a14 : V 40 0 14 = false) (h1 : ∀ t : Nat, V 44 0 t = false) (h2 : ∀ t k : Nat, V 43 t k = false) (h3 : ∀ c j : Nat, V 30 c j = false) : PGq T := by
  obtain ⟨⟨m, m1, m2, m3, m4⟩, ⟨l, l1, l2, l3, l4⟩⟩ := h
  refine ⟨⟨m, m1, by rw [F.1 0 0 5 a5]; exact m2, by rw [F.1 40 0 13 a13]; exact m3, fun t ht => ?_⟩, ⟨l, l1, by rw [F.1 0 0 7 a7]; exact l2, by rw [F.1 40 0 14 a14]; exact l3, fun t ht => ?_⟩⟩
  · obtain ⟨c, e, q⟩ := m4 t ht
    exact ⟨c, by rw [gr_fx F]; exact e, q.fx F (h1 t) (h2 t) (h3 c)⟩
  · obtain ⟨c, e, q⟩ := l4 t ht
    exact ⟨c, by rw [gr_fx F]; exact e, q.fx F (h1 _) (h2 _) (h3 c)⟩
theorem y_nameNext : pk (F_X5_nameNext r b S) (fun _ T => FX (Wnm r) S T ∧ ge T 25 r 4 = ge S 1 b 7 + 1 ∧ ge T 25 r 5 = ge S 1 b 8 + 1 ∧ ge T 25 r 6 = ge S 1 b 9 + ge S 1 b 3 ∧ ge T 25 r 7 = ge S 1 b 10 ∧ ge T 25 r 8 = ge S 1 b 4) := by
  unfold F_X5_nameNext
  refine pq_iv fun x1 e1 => pq_iv fun x2 e2 => pq_sv fun S3 E3 => ?_
  refine pq_iv fun x4 e4 => pq_iv fun x5 e5 => pq_sv fun S6 E6 => ?_
  refine pq_iv fun x7 e7 => pq_iv fun x8 e8 => pq_iv fun x9 e9 => pq_sv fun S10 E10 => ?_
  refine pq_iv fun x11 e11 => pq_sv fun S12 E12 => ?_
  refine pq_iv fun x13 e13 => pq_sv fun S14 E14 => pq_some ?_
  have F3 : FX (Wnm r) S S3 := by rw [E3]; exact FX.rf.wr (Nat.beq_refl r)
  have F6 : FX (Wnm r) S S6 := by rw [E6]; exact F3.wr (Nat.beq_refl r)
  have F10 : FX (Wnm r) S S10 := by rw [E10]; exact F6.wr (Nat.beq_refl r)
  have F12 : FX (Wnm r) S S12 := by rw [E12]; exact F10.wr (Nat.beq_refl r)
  have F14 : FX (Wnm r) S S14 := by rw [E14]; exact F12.wr (Nat.beq_refl r)
  rw [F3.1 1 b 8 rfl] at e4
  rw [F6.1 1 b 9 rfl] at e7
  rw [F6.1 1 b 3 rfl] at e8
  rw [F10.1 1 b 10 rfl] at e11
  rw [F12.1 1 b 4 rfl] at e13
  refine ⟨F14, ?_, ?_, ?_, ?_, ?_⟩
  · rw [E14, ge_puj (by decide), E12, ge_puj (by decide), E10, ge_puj (by decide), E6, ge_puj (by decide), E3, ge_pus, e2, e1]
  · rw [E14, ge_puj (by decide), E12, ge_puj (by decide), E10, ge_puj (by decide), E6, ge_pus, e5, e4]
  · rw [E14, ge_puj (by decide), E12, ge_puj (by decide), E10, ge_pus, e9, e7, e8]
  · rw [E14, ge_puj (by decide), E12, ge_pus, e11]
  · rw [E14, ge_pus, e13]
/-- the code of a program, none for none -/
def COq (S : fS) (o : Int) (x : Option Nat) : Prop := (o = -1 ∧ x = none) ∨ ∃ t c : Nat, o = (t : Int) ∧ t ≤ 5 ∧ x = some c ∧ PRq S t c
theorem y_codeInForce (hP : PGq S) (hI : IFq S) : pk (F_X6_codeInForce S) (fun x T => S = T ∧ COq S (ge S 40 0 15).toInt x) := by
  have l0 : (0 : Int32).toInt = 0 := by decide
  have l1 : (1 : Int32).toInt = 1 := by decide
  obtain ⟨m, m6, m0, m40, hm⟩ := hP.1
  obtain ⟨i1, i2, i3⟩ := hI
  unfold F_X6_codeInForce
  refine pq_iv fun x1 e1 => pq_iv fun x2 e2 => pq_iv fun x3 e3 => ?_
  rw [i1] at e1
  have g3 : x3.toInt = (m : Int) - 1 := by rw [e3, e2, ti_sub (by omega) (by omega), m0, l1]
  refine pq_bd (w_in x1 0 x3 S).pk (fun v4 T q => ?_)
  obtain ⟨rfl, q4⟩ := q
  rw [e1] at q4
  refine pq_eq (fun c => pq_some ⟨rfl, Or.inl ⟨by omega, rfl⟩⟩) (fun c => ?_)
  refine pq_iv fun x8 e8 => ?_
  rw [i1] at e8
  obtain ⟨t, ht⟩ : ∃ t : Nat, (ge S 40 0 15).toInt = (t : Int) := ⟨(ge S 40 0 15).toInt.toNat, by omega⟩
  have g8 : x8.toInt = (t : Int) := by rw [e8]; exact ht
  rw [cnNq g8]
  refine pq_gd fun _ => pq_qv fun o10 e10 => pq_some ⟨rfl, ?_⟩
  obtain ⟨c, hc, hR⟩ := hm t (by omega)
  exact Or.inr ⟨t, c, ht, by omega, by rw [e10, hc], hR⟩
/-- the machine works a code by a try's names -/
theorem y_runq {x : Option Nat} (hC : COq S o x) (p3 : Int32) : pk (F_X3_run x r p3 S) (fun _ T => FX Wmq S T ∧ ∃ (st : List Int32) (g : G3), MR T st g ∧ TPq S o (envT S r p3) g) := by
  rcases hC with ⟨h1, rfl⟩ | ⟨t, c, h1, h5, rfl, P, hP, hE⟩
  · exact pq_imp (y_run0 p3) (fun _ T q => ⟨q.1, [], (0, 0, 0), q.2, Or.inl ⟨h1, rfl⟩⟩)
  · obtain ⟨g, e, e2⟩ := hE (envT S r p3)
    refine pq_imp (y_run p3 hP) (fun _ T q => ⟨q.1, [], g, ?_, Or.inr ⟨t, h1, h5, e⟩⟩)
    have z := q.2
    rw [e2] at z
    exact z
/-- the names of the next try, in the class -/
theorem envT_1 {U : fS} (hN : NBq S b) (h4 : ge U 25 r 4 = ge S 1 b 7 + 1) (h5 : ge U 25 r 5 = ge S 1 b 8 + 1) (h6 : ge U 25 r 6 = ge S 1 b 9 + ge S 1 b 3) (h7 : ge U 25 r 7 = ge S 1 b 10) (h8 : ge U 25 r 8 = ge S 1 b 4) : ∀ i : Nat, i < 6 → envT U r lot i = env1 S lot i := by
  obtain ⟨n3, n4, n7, n8, n9, n10⟩ := hN
  intro i hi
  have : i = 0 ∨ i = 1 ∨ i = 2 ∨ i = 3 ∨ i = 4 ∨ i = 5 := by omega
  rcases this with rfl | rfl | rfl | rfl | rfl | rfl
  · show ge U 25 r 4 = ge S 40 0 35 + 1; rw [h4, n7]
  · show ge U 25 r 5 = ge S 40 0 36 + 1; rw [h5, n8]
  · show ge U 25 r 6 = ge S 40 0 37 + ge S 40 0 32; rw [h6, n9, n3]
  · show ge U 25 r 7 = ge S 40 0 38; rw [h7, n10]
  · show ge U 25 r 8 = ge S 40 0 33; rw [h8, n4]
  · rfl
/-- the names of the next try, in the reference -/
theorem q_names1 (lot : Int32) : pk (F_X7_namesOf 1 S) (fun _ T => FX W45 S T ∧ (∀ i : Nat, i < 6 → envN T lot i = env1 S lot i) ∧ ge T 45 0 6 = 0) := by
  refine pq_imp (q_namesOf 1) (fun _ T q => ?_)
  obtain ⟨F, n0, n1, n2, n3, n4, n5, n6⟩ := q
  refine ⟨F, fun i hi => ?_, n6⟩
  have : i = 0 ∨ i = 1 ∨ i = 2 ∨ i = 3 ∨ i = 4 ∨ i = 5 := by omega
  rcases this with rfl | rfl | rfl | rfl | rfl | rfl
  · exact n0
  · exact n1
  · show ge T 45 0 2 = ge S 40 0 37 + ge S 40 0 32; rw [n2, Int32.one_mul]
  · exact n3
  · exact n4
  · rfl
/-- the reference tells by a program -/
theorem q_tellsq {p : Int32} {g : G3} (RS : RI S) (h : TPq S p.toInt (envN S lot) g) : pk (F_X7_tellsBy p lot S) (fun _ T => FX Wt7 S T ∧ (∀ i : Nat, i ≠ 5 → ge T 45 0 i = ge S 45 0 i) ∧ ge T 45 0 5 = lot ∧ tg T = clm g) := by
  have lm1 : (-1 : Int32).toInt = -1 := by decide
  refine q_tellsBy RS ?_
  rcases h with ⟨a, e⟩ | h
  · exact Or.inl ⟨of_toInt (by rw [a, lm1]), e⟩
  · exact Or.inr h
end TLD
