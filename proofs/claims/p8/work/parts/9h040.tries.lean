/-! a whole try, on both sides -/
def WscR (r a i j : Nat) : Bool := ((Nat.beq a 25 || Nat.beq a 26) && Nat.beq i r) || (Nat.beq a 22 || (Nat.beq a 23 || (Nat.beq a 24 || (Nat.beq a 27 || Nat.beq a 28))))
section WSS
variable {r : Nat}
theorem Wm_s : ∀ a i j : Nat, WscR r a i j = false → Wmq a i j = false := by
  intro a i j h
  unfold WscR at h
  unfold Wmq
  have h := (Bool.or_eq_false_iff.1 h).2
  cases h1 : Nat.beq a 22 <;> cases h2 : Nat.beq a 23 <;> cases h3 : Nat.beq a 24 <;> rw [h1, h2, h3] at h <;> first | rfl | cases h
theorem Wx_s {a i : Nat} (h : ((Nat.beq a 25 || Nat.beq a 26) && Nat.beq i r) = false) (J K : Bool) : ((Nat.beq a 26 && J || Nat.beq a 25 && K) && Nat.beq i r) = false := by
  cases h1 : Nat.beq i r
  · exact Bool.and_false _
  · rw [h1, Bool.and_true] at h
    have h := Bool.or_eq_false_iff.1 h
    rw [h.1, h.2]
    rfl
theorem Wn_s : ∀ a i j : Nat, WscR r a i j = false → Wnm r a i j = false := by
  intro a i j h
  unfold WscR at h
  unfold Wnm
  have z := Wx_s (Bool.or_eq_false_iff.1 h).1 false (Nat.beq j 4 || (Nat.beq j 5 || (Nat.beq j 6 || (Nat.beq j 7 || Nat.beq j 8))))
  rw [Bool.and_false, Bool.false_or] at z
  exact z
theorem Wl_s : ∀ a i j : Nat, WscR r a i j = false → Wlk r a i j = false := by
  intro a i j h
  unfold WscR at h
  unfold Wlk
  have z := Wx_s (Bool.or_eq_false_iff.1 h).1 true (Nat.beq j 0 || (Nat.beq j 1 || (Nat.beq j 2 || (Nat.beq j 10 || (Nat.beq j 11 || (Nat.beq j 12 || (Nat.beq j 13 || (Nat.beq j 14 || Nat.beq j 16))))))))
  rw [Bool.and_true] at z
  exact z
theorem Wc_s : ∀ a i j : Nat, WscR r a i j = false → Wc25 r a i j = false := by
  intro a i j h
  unfold WscR at h
  unfold Wc25
  have z := Wx_s (Bool.or_eq_false_iff.1 h).1 false (Nat.beq j 1 || Nat.beq j 2)
  rw [Bool.and_false, Bool.false_or] at z
  exact z
theorem Ws_r : ∀ a i j : Nat, 40 ≤ a → WscR r a i j = false := by
  intro a i j h
  unfold WscR
  have n : ∀ k : Nat, k < 40 → Nat.beq a k = false := fun k hk => by
    cases e : Nat.beq a k
    · rfl
    · have := Nat.eq_of_beq_eq_true e
      omega
  rw [n 25 (by decide), n 26 (by decide), n 22 (by decide), n 23 (by decide), n 24 (by decide), n 27 (by decide), n 28 (by decide)]
  rfl
theorem Ws_l : ∀ a i j : Nat, 1 ≤ a ∧ a ≤ 10 → WscR r a i j = false := by
  intro a i j h
  unfold WscR
  have n : ∀ k : Nat, 10 < k → Nat.beq a k = false := fun k hk => by
    cases e : Nat.beq a k
    · rfl
    · have := Nat.eq_of_beq_eq_true e
      omega
  rw [n 25 (by decide), n 26 (by decide), n 22 (by decide), n 23 (by decide), n 24 (by decide), n 27 (by decide), n 28 (by decide)]
  rfl
end WSS
theorem MR.fx {V : Nat → Nat → Nat → Bool} {S T : fS} {st : List Int32} {g : G3} (h : MR S st g) (F : FX V S T) (h1 : V 22 0 1 = false) (h2 : ∀ j : Nat, V 23 0 j = false) (h3 : ∀ j : Nat, V 24 0 j = false) : MR T st g := by
  unfold MR
  rw [F.1 22 0 1 h1, F.1 24 0 0 (h3 0), F.1 24 0 1 (h3 1), F.1 24 0 2 (h3 2)]
  exact ⟨h.1, fun k hk => by rw [F.1 23 0 _ (h2 _)]; exact h.2.1 k hk, h.2.2⟩
noncomputable def lcq (S : fS) (c : Nat) (g s : Int32) : Option Nat := if oq S c g s = 3 then some (lgq S c g s).toNat else none
/-- how all lies behind a try -/
def MWq (S : fS) (c : Nat) (g s : Int32) (w : Nat → Int) (X : Nat → List Nat) : Prop := if oq S c g s = 3 ∨ oq S c g s = 5 then MVq (glq S c) (lcq S c g s) (hw S) (HS S) w X (nq S) else MVq [] none (hw S) (HS S) w X (nq S)
noncomputable def feq (S : fS) (c : Nat) (g s : Int32) : Int32 := if oq S c g s = 5 then vsm S (glq S c) else 0
/-- a hole in the box -/
def HOq (S : fS) : Prop := 0 ≤ (ge S 40 0 30).toInt ∧ (ge S 40 0 30).toInt ≤ 63
section TRI
variable {S T : fS} {c r b : Nat} {p lot : Int32} {g : G3}
theorem y_probeCopy (H : HVq S) (hO : HOq S) (B : BVq S 1) (N : NBq S 1) (hP : PGq S) (hI : IFq S) (hT : TLq S 0 g) (hp : p.toInt = (c : Int)) (hc : c < 64) : pk (F_X6_probeCopy p S) (fun _ T => FX (WscR 0) S T ∧ CAq S T 0 c (clm g).1 (clm g).2.1) := by
  unfold F_X6_probeCopy
  refine pq_bd y_nameNext (fun _ S2 q => ?_)
  obtain ⟨F2, n4, n5, n6, n7, n8⟩ := q
  have s2 : SRq S S2 := (F2.sub Wn_s).sr Ws_r
  have P2 : PGq S2 := hP.fx F2 rfl rfl rfl rfl (fun _ => rfl) (fun _ _ => rfl) (fun _ _ => rfl)
  have I2 : IFq S2 := ⟨by rw [F2.1 1 0 6 rfl, s2 40 0 15 (by decide)]; exact hI.1, by rw [s2 40 0 15 (by decide)]; exact hI.2.1, by rw [s2 40 0 15 (by decide), s2 40 0 13 (by decide)]; exact hI.2.2⟩
  refine pq_bd (y_codeInForce P2 I2) (fun v4 U q => ?_)
  obtain ⟨rfl, q4⟩ := q
  refine pq_bd (y_runq (r := 0) q4 0) (fun _ S8 q => ?_)
  obtain ⟨F8, st, g', m8, t8⟩ := q
  have eg : g' = g := by
    have t9 : TLq S2 0 g' := by
      unfold TLq
      refine t8.cg (fun i hi => ?_)
      rw [envT_1 (S := S) (lot := 0) N n4 n5 n6 n7 n8 i hi, s2.env1E]
    have t1 := s2.TL hT
    exact t9.un t1
  rw [eg] at m8
  have G8 : FX (WscR 0) S S8 := (F2.sub Wn_s).tr (F8.sub Wm_s)
  have s8 : SRq S S8 := G8.sr Ws_r
  have B8 : BVq S8 1 := s8.BV B (fun a j ha => G8.1 a 1 j (Ws_l a 1 j ha))
  refine pq_bd (y_look (s8.HV H) B8 hp hc (by rw [s8 40 0 30 (by decide)]; exact hO)) (fun _ S11 q => ?_)
  obtain ⟨F11, L11⟩ := q
  have m11 := m8.fx F11 rfl (fun _ => rfl) (fun _ => rfl)
  refine pq_bd (y_grip m11) (fun v13 U q => ?_)
  obtain ⟨rfl, q13⟩ := q
  refine pq_bd (y_slip m11) (fun v16 U q => ?_)
  obtain ⟨rfl, q16⟩ := q
  refine pq_bd (y_carryq L11) (fun _ U q => pq_some ?_)
  obtain ⟨FU, cU⟩ := q
  refine ⟨(G8.tr (F11.sub Wl_s)).tr (FU.sub Wc_s), ?_⟩
  rw [q13, q16] at cU
  exact s8.CA cU
def Wtc (a i j : Nat) : Bool := WscR 0 a i j || Wmv 1 a i j
/-- a try on the copy -/
theorem y_tryOnCopy (H : HVq S) (hO : HOq S) (B : BVq S 1) (N : NBq S 1) (hP : PGq S) (hI : IFq S) (hT : TLq S 0 g) (hp : p.toInt = (c : Int)) (hc : c < 64) : pk (F_X6_tryOnCopy p S) (fun v T => FX Wtc S T ∧ v = oq S c (clm g).1 (clm g).2.1 ∧ (∃ (w : Nat → Int) (hp : Nat → Nat → Int) (ht : Nat → Int), CVq T 1 (nq S) w hp ht ∧ MWq S c (clm g).1 (clm g).2.1 w (HLv hp ht)) ∧ CNk S T 1 (oq S c (clm g).1 (clm g).2.1) (feq S c (clm g).1 (clm g).2.1)) := by
  unfold F_X6_tryOnCopy
  refine pq_bd (y_probeCopy H hO B N hP hI hT hp hc) (fun _ S2 q => ?_)
  obtain ⟨F2, C2⟩ := q
  obtain ⟨a0, a10, a1, a2, a16, a26, _⟩ := C2
  have s2 : SRq S S2 := F2.sr Ws_r
  obtain ⟨k1, k2, k3⟩ := glq_ok H hc (S := S)
  have CV2 : CVq S2 1 (nq S) (hw S) (hq S) (hh S) := B.1.fx F2 (fun _ => rfl) (fun _ => rfl) (fun _ => rfl) (fun _ => rfl)
  have vs : vsm S2 (glq S c) = vsm S (glq S c) := s2.vsmE _
  refine pq_bd (y_move (L := glq S c) CV2 k1 k2 ⟨a16, a26, k3⟩ (lcq S c (clm g).1 (clm g).2.1) ?_ (fun t ht => by rw [F2.1 5 1 t rfl, s2 48 0 t (by decide)]; exact (B.2.1 t ht).2.2.1)) (fun _ S5 q => ?_)
  · rw [a1]
    by_cases z : oq S c (clm g).1 (clm g).2.1 = 3
    · obtain ⟨l, l1, l2⟩ := lgq_bd H hc hO z
      refine Or.inl ⟨z, l, ?_, l1, by rw [a2]; exact l2⟩
      unfold lcq
      rw [if_pos z, l2, Int.toNat_natCast]
    · by_cases z5 : oq S c (clm g).1 (clm g).2.1 = 5
      · refine Or.inr (Or.inl ⟨z5, ?_⟩)
        unfold lcq
        rw [if_neg z]
      · exact Or.inr (Or.inr ⟨z, z5⟩)
  · obtain ⟨F5, ⟨w, hp', ht', q1, q2⟩, q3⟩ := q
    refine pq_iv fun x7 e7 => pq_some ?_
    have FA : FX Wtc S S5 := (F2.sub (fun a i j h => (Bool.or_eq_false_iff.1 h).1)).tr (F5.sub (fun a i j h => (Bool.or_eq_false_iff.1 h).2))
    rw [a1] at q2 q3
    refine ⟨FA, by rw [e7, F5.1 25 0 1 rfl]; exact a1, ⟨w, hp', ht', q1, q2⟩, ?_⟩
    obtain ⟨c7, c8, c9, c10⟩ := q3
    refine ⟨by rw [c7, F2.1 1 1 7 rfl], by rw [c8, F2.1 1 1 8 rfl], by rw [c9, F2.1 1 1 9 rfl, F2.1 1 1 3 rfl], ?_⟩
    rw [c10, F2.1 1 1 10 rfl, vs]
    rfl
/-! the reference -/
theorem r_fall0 {o : Int32} {n : Int} (R : RVq S n) (h3 : o ≠ 3) (h5 : o ≠ 5) (hf0 : ge S 40 0 43 = 0) : pk (lp (B_X7_triesAt_41) fuel (o, 0) S) (fun _ T => FX Wtr S T ∧ RVq T n ∧ MVq [] none (hw S) (HS S) (hw T) (HS T) n ∧ CNq S T o 0) := by
  refine pq_lp (fun (z : Int32 × Int32) T => z.1 = o ∧ T = S) (fun _ _ (_ : Int32) T => FX Wtr S T ∧ RVq T n ∧ MVq [] none (hw S) (HS S) (hw T) (HS T) n ∧ CNq S T o 0) ?_ fuel (o, 0) S ⟨rfl, rfl⟩
  intro k hk z T hI
  obtain ⟨a3, a4⟩ := z
  obtain ⟨e1, e2⟩ := hI
  dsimp only at e1
  subst e1
  subst e2
  have stop : pk (B_X7_triesAt_116 a3 T) (fun _ U => FX Wtr T U ∧ RVq U n ∧ MVq [] none (hw T) (HS T) (hw U) (HS U) n ∧ CNq T U a3 0) := by
    refine pq_imp (r_116 FX.rf rfl rfl rfl rfl hf0) (fun _ U q => ?_)
    obtain ⟨q1, q2, q3⟩ := q
    have e9 : HS U = HS T := funext fun c => HS_ne q3
    refine ⟨q1, RV_ne q3 R, ?_, q2⟩
    rw [hw_ne q3, e9]
    exact ⟨fun c _ => by rw [flt_nil, if_neg (fun q => nomatch q), List.append_nil], fun u _ => by rw [if_neg (fun q => nomatch q)]⟩
  unfold B_X7_triesAt_41
  dsimp only
  refine pq_iv fun x e => ?_
  exact pq_bb (fun _ => stop) (fun _ => pq_bb (fun c => absurd c h3) (fun _ => pq_bb (fun c => absurd c h5) (fun _ => stop)))
def Wts (a i j : Nat) : Bool := Wt7 a i j || (Wgr a i j || Wtr a i j)
theorem HV_RV (H : HVq S) : RVq S (nq S) := ⟨H.1, H.2.1, fun t ht => (H.2.2.2 t ht).2⟩
/-- what a try reads of the reference stays while it is told -/
theorem SRt {V : Nat → Nat → Nat → Bool} (F : FX V S T) (h : ∀ a j : Nat, 46 ≤ a ∧ a ≤ 54 → V a 0 j = false) (h53 : ∀ c j : Nat, V 53 c j = false) (h21 : V 40 0 21 = false) (h30 : V 40 0 30 = false) (h31 : V 40 0 31 = false) (g s : Int32) (c : Nat) : hh T = hh S ∧ hq T = hq S ∧ hw T = hw S ∧ nq T = nq S ∧ oq T c g s = oq S c g s ∧ lgq T c g s = lgq S c g s ∧ glq T c = glq S c ∧ (HVq S → HVq T) ∧ (∀ L : List Nat, vsm T L = vsm S L) := by
  have e1 : hh T = hh S := funext fun c => by unfold hh; rw [F.1 54 0 c (h 54 c (by decide))]
  have e2 : hq T = hq S := funext fun c => funext fun k => by unfold hq; rw [F.1 53 c k (h53 c k)]
  have e3 : hw T = hw S := funext fun c => by unfold hw; rw [F.1 50 0 c (h 50 c (by decide))]
  have e4 : nq T = nq S := by unfold nq; rw [F.1 40 0 21 h21]
  have e5 : tq T = tq S := funext fun c => by unfold tq; rw [e1, e2]
  have e6 : ∀ lk d, gn T c lk d = gn S c lk d := fun lk d => by unfold gn; rw [e5, F.1 47 0 _ (h 47 _ (by decide))]
  have e7 : ∀ lk d, gF T c lk d = gF S c lk d := by
    intro lk d
    induction d with
    | zero => rfl
    | succ d ih =>
      show gF T c lk d ++ _ = gF S c lk d ++ _
      rw [ih, e6]
  have e8 : gL T c = gL S c := by unfold gL; rw [e5, F.1 47 0 _ (h 47 _ (by decide)), e7]
  have e9 : ∀ L, wsm T L = wsm S L := fun L => by
    unfold wsm
    congr 1
    funext a t
    rw [F.1 46 0 t (h 46 t (by decide))]
  have e10 : ∀ L, wrd T L = wrd S L := fun L => by
    unfold wrd
    congr 1
    funext t
    rw [F.1 51 0 t (h 51 t (by decide))]
  have e11 : upq T c = upq S c := by unfold upq; rw [e1]
  have e12 : hoN T = hoN S := by unfold hoN; rw [F.1 40 0 30 h30]
  have e13 : misB T c = misB S c := by unfold misB; rw [e5, F.1 40 0 30 h30, F.1 40 0 31 h31]
  have e14 : stS T c g s = stS S c g s := by unfold stS; rw [e8, e9, e12, e11]
  have e15 : oq T c g s = oq S c g s := by unfold oq; rw [e13, e8, e10, e14, e12, e11]
  refine ⟨e1, e2, e3, e4, e15, by unfold lgq; rw [e15, e14, e12, e11], by unfold glq; rw [e13, e8], fun H => ?_, fun L => ?_⟩
  · obtain ⟨h1, h2, h3, h4⟩ := H
    refine ⟨by rw [e4, e3, e2, e1]; exact h1, by rw [e1]; exact h2, by rw [e4]; exact h3, fun t ht => ?_⟩
    rw [e4] at ht
    rw [F.1 47 0 t (h 47 t (by decide)), F.1 51 0 t (h 51 t (by decide)), e3]
    exact h4 t ht
  · unfold vsm
    congr 1
    funext a t
    rw [F.1 48 0 t (h 48 t (by decide))]
end TRI
