/-! worth, bide: the calls -/
section BID
variable {S T T1 T' R R' U V V' W : fS} {c c1 c2 n m N : Nat} {p p1 p2 p3 v w : Int32}
theorem pk_self {A : Type} {x : Option (A × fS)} : pk x (fun v T => x = some (v, T)) := fun _ _ e => e
theorem Wtc_b {a i j : Nat} (h : a < 22) (h2 : i ≠ 1 ∨ 11 ≤ a ∨ a = 0) : Wtc a i j = false := by
  unfold Wtc WscR Wmv
  rw [beq_out (by omega : a ≠ 25), beq_out (by omega : a ≠ 26), beq_out (by omega : a ≠ 22), beq_out (by omega : a ≠ 23), beq_out (by omega : a ≠ 24), beq_out (by omega : a ≠ 27), beq_out (by omega : a ≠ 28)]
  by_cases d : i = 1
  · rw [beq_out (by omega : a ≠ 8), beq_out (by omega : a ≠ 9), beq_out (by omega : a ≠ 10), beq_out (by omega : a ≠ 1)]
    rfl
  · rw [beq_out d, Bool.and_false]
    rfl
theorem Wtc_25 {i j : Nat} (h : 1 ≤ i) : Wtc 25 i j = false := by
  show (((true && Nat.beq i 0) || false) || (false && Nat.beq i 1)) = false
  rw [beq_out (by omega : i ≠ 0)]
  rfl
theorem Wtc_30 {i j : Nat} : Wtc 30 i j = false := rfl
/-- the copy is made -/
theorem KR_copy (h : IV S) (cp : CPb S T1 1 0 m) : KR (mx T1 S) := by
  obtain ⟨H, hO, B, N, hP, hI, hs, hR, hn, hH⟩ := h.2.2.2.1
  obtain ⟨p1, p2, p3, p4, p5, p6, p7, p8⟩ := cp
  have s : SRq S (mx T1 S) := fun a i j q => mx_hi q
  have n24 := H.2.2.1
  have o : ∀ a i j : Nat, a < 40 → ¬ (1 ≤ a ∧ a ≤ 10 ∧ i = 1) → ge (mx T1 S) a i j = ge S a i j := fun a i j h1 h2 => by rw [mx_lo h1, p1 a i j h2]
  obtain ⟨⟨b1, b2, b3, b4, b5, b6⟩, bb, bc, bd0⟩ := B
  refine ⟨s.HV H, s.HO hO, ⟨⟨?_, ?_, ?_, ?_, fun t ht => ?_, ?_⟩, fun t ht => ?_, ?_, ?_⟩, ?_, ?_, ?_⟩
  · rw [s.nqE, s.hwE, s.hqE, s.hhE]; exact b1
  · rw [s.hqE, s.hhE]
    refine b2.cg (fun _ _ => rfl) (fun _ _ _ _ => rfl) (fun x hx => by rw [mx_lo (by decide), p4 x hx]) (fun x k hx hk => ?_)
    have a := b1.1 x k hx hk
    rw [mx_lo (by decide), p3 9 _ (by decide) (by decide) (by omega)]
  · rw [s.nqE, mx_lo (by decide), p2]; exact b3
  · rw [s.nqE]; exact b4
  · rw [s.nqE] at ht
    rw [s.hwE, mx_lo (by decide), p3 8 t (by decide) (by decide) (by omega)]
    exact b5 t ht
  · rw [s.hhE]; exact b6
  · rw [s.nqE] at ht
    rw [s 46 0 t (by decide), s 47 0 t (by decide), s 48 0 t (by decide), s 49 0 t (by decide), s 51 0 t (by decide), mx_lo (by decide), mx_lo (by decide), mx_lo (by decide), mx_lo (by decide), mx_lo (by decide), p3 3 t (by decide) (by decide) (by omega), p3 4 t (by decide) (by decide) (by omega), p3 5 t (by decide) (by decide) (by omega), p3 6 t (by decide) (by decide) (by omega), p3 7 t (by decide) (by decide) (by omega)]
    exact bb t ht
  · rw [mx_lo (by decide), p5 1 (by decide) (by decide) (by decide), s 40 0 30 (by decide)]; exact bc
  · rw [mx_lo (by decide), p5 2 (by decide) (by decide) (by decide), s 40 0 31 (by decide)]; exact bd0
  · obtain ⟨n3, n4, n7, n8, n9, n10⟩ := N
    refine ⟨?_, ?_, ?_, ?_, ?_, ?_⟩
    · rw [mx_lo (by decide), p5 3 (by decide) (by decide) (by decide), s 40 0 32 (by decide)]; exact n3
    · rw [mx_lo (by decide), p5 4 (by decide) (by decide) (by decide), s 40 0 33 (by decide)]; exact n4
    · rw [mx_lo (by decide), p5 7 (by decide) (by decide) (by decide), s 40 0 35 (by decide)]; exact n7
    · rw [mx_lo (by decide), p5 8 (by decide) (by decide) (by decide), s 40 0 36 (by decide)]; exact n8
    · rw [mx_lo (by decide), p5 9 (by decide) (by decide) (by decide), s 40 0 37 (by decide)]; exact n9
    · rw [mx_lo (by decide), p5 10 (by decide) (by decide) (by decide), s 40 0 38 (by decide)]; exact n10
  · obtain ⟨⟨mp, mp6, a5, a13, pg⟩, ⟨ml, ml3, a7, a14, lg⟩⟩ := hP
    have gW : ∀ a j : Nat, a ≠ 11 → gr (mx T1 S) a 0 j = gr S a 0 j := fun a j ha => p7 a 0 j (fun q => ha q.1)
    have eln : ∀ c : Nat, ln (mx T1 S) c = ln S c := fun c => congrFun (congrArg (fun z => z.2) p8) c
    refine ⟨⟨mp, mp6, by rw [o 0 0 5 (by decide) (by omega)]; exact a5, by rw [s 40 0 13 (by decide)]; exact a13, fun t ht => ?_⟩, ⟨ml, ml3, by rw [o 0 0 7 (by decide) (by omega)]; exact a7, by rw [s 40 0 14 (by decide)]; exact a14, fun t ht => ?_⟩⟩
    · obtain ⟨c, c1, P, hc, hE⟩ := pg t ht
      exact ⟨c, by rw [gW 13 t (by decide)]; exact c1, P, CP_up hc ⟨eln c, fun j => o 30 c j (by decide) (by omega)⟩, by rw [s.btxE]; exact hE⟩
    · obtain ⟨c, c1, P, hc, hE⟩ := lg t ht
      exact ⟨c, by rw [gW 14 t (by decide)]; exact c1, P, CP_up hc ⟨eln c, fun j => o 30 c j (by decide) (by omega)⟩, by rw [s.btxE]; exact hE⟩
  · unfold IFq at *
    rw [o 1 0 6 (by decide) (by omega), s 40 0 15 (by decide), s 40 0 13 (by decide)]
    exact hI
theorem KR_at (K : KR (mx T1 S)) (R0 : RI S) (s : SRq S T') : KR (mx T1 T') := K.rs R0 (AR.sr s) (PG_mx K.2.2.2.2.1 (s 40 0 13 (by decide)) (s 40 0 14 (by decide)) (fun t => s 44 0 t (by decide)) (fun t k => s 43 t k (by decide)))
/-- all is as before again -/
theorem RLv.wo (h : RLv S) (h0 : 0 ≤ nq S) (cp : CPb S T1 1 0 m) (ce : CEl T1 T') (s : SRq S T') (E : EQw T' W) : RLv W := by
  obtain ⟨ha, ht, hi⟩ := h
  have hb := ha.b h0
  obtain ⟨H, hO, B, N, hP, hI, hs, ⟨m', m200, r1, r2, r3⟩, hn1, hH⟩ := ha
  obtain ⟨p1, p2, p3, p4, p5, p6, p7, p8⟩ := cp
  have n24 := H.2.2.1
  have lo : ∀ a i j : Nat, a < 40 → Wtc a i j = false → ¬ (1 ≤ a ∧ a ≤ 10 ∧ i = 1) → ge W a i j = ge S a i j := fun a i j h1 h2 h3 => by rw [E.2.1 a i j (Wwf_ok (by omega)), ce.1 a i j h1 h2, p1 a i j h3]
  have w2 : W.2 = T1.2 := E.1.trans ce.2
  have gW : ∀ a i j : Nat, gr W a i j = gr T1 a i j := fun a i j => by unfold gr; rw [w2]
  have nW : nT W = nT S := by
    have e1 : nT W = nT T1 := congrArg (fun z => z.2.1.1) w2
    have e2 : nT T1 = nT S := congrArg (fun z => z.1.1) p8
    rw [e1, e2]
  have eln : ∀ c : Nat, ln W c = ln S c := fun c => by
    have e1 : ln W c = ln T1 c := congrFun (congrArg (fun z => z.2.2) w2) c
    have e2 : ln T1 c = ln S c := congrFun (congrArg (fun z => z.2) p8) c
    rw [e1, e2]
  have hiW : ∀ a i j : Nat, 40 ≤ a → Wwf a i j = false → ge W a i j = ge S a i j := fun a i j h1 h2 => by rw [E.2.1 a i j h2, s a i j h1]
  have bx : ∀ a i j : Nat, 1 ≤ a → a ≤ 10 → i ≠ 1 → ge W a i j = ge S a i j := fun a i j h1 h2 h3 => lo a i j (by omega) (Wtc_b (by omega) (Or.inl h3)) (by omega)
  have c25 : ∀ t j : Nat, 1 ≤ t → ge W 25 t j = ge S 25 t j := fun t j h1 => lo 25 t j (by decide) (Wtc_25 h1) (by omega)
  have nT' : nq T' ≤ 24 := by rw [s.nqE]; exact n24
  have ar : AR S W m' := (AR.sr s).tr (E.ar nT')
  have ac : AC S W m' := ⟨fun j _ _ _ => bx 1 0 j (by decide) (by decide) (by decide), bx 2 0 0 (by decide) (by decide) (by decide), fun a j h1 h2 _ => bx a 0 j (by omega) (by omega) (by decide), fun j _ => bx 10 0 j (by decide) (by decide) (by decide), fun k _ => by rw [gW, p7 11 0 k (by omega)], fun t j h1 _ => c25 t j h1, by rw [nW]; exact Nat.le_refl _⟩
  have e0 : ∀ j : Nat, ge W 0 0 j = ge S 0 0 j := fun j => lo 0 0 j (by decide) (Wtc_b (by decide) (by omega)) (by omega)
  have hPW : PGq W := by
    obtain ⟨⟨mp, mp6, a5, a13, pg⟩, ⟨ml, ml3, a7, a14, lg⟩⟩ := hP
    have e30 : ∀ c j : Nat, ge W 30 c j = ge S 30 c j := fun c j => lo 30 c j (by decide) rfl (by omega)
    have ebt : ∀ t : Nat, btx W t = btx S t := fun t => funext fun k => by unfold btx; rw [hiW 44 0 t (by decide) (Wwf_ok (by omega)), hiW 43 t k (by decide) (Wwf_ok (by omega))]
    refine ⟨⟨mp, mp6, by rw [e0]; exact a5, by rw [hiW 40 0 13 (by decide) (Wwf_40 rfl)]; exact a13, fun t ht => ?_⟩, ⟨ml, ml3, by rw [e0]; exact a7, by rw [hiW 40 0 14 (by decide) (Wwf_40 rfl)]; exact a14, fun t ht => ?_⟩⟩
    · obtain ⟨c, c1, P, hc, hE⟩ := pg t ht
      exact ⟨c, by rw [gW, p7 13 0 t (by omega)]; exact c1, P, CP_up hc ⟨eln c, e30 c⟩, by rw [ebt]; exact hE⟩
    · obtain ⟨c, c1, P, hc, hE⟩ := lg t ht
      exact ⟨c, by rw [gW, p7 14 0 t (by omega)]; exact c1, P, CP_up hc ⟨eln c, e30 c⟩, by rw [ebt]; exact hE⟩
  refine ⟨(hb.cg r2 ar ac).a hPW (by rw [nW]; exact hn1) (hH.mv (e0 9) (hiW 40 0 48 (by decide) (Wwf_40 rfl)) (fun k => lo 15 0 k (by decide) (Wtc_b (by decide) (by omega)) (by omega)) (fun k j => hiW 59 k j (by decide) (Wwf_ok (by omega)))), ht.mv (e0 11) (hiW 40 0 1 (by decide) (Wwf_40 rfl)) (fun k => lo 16 0 k (by decide) (Wtc_b (by decide) (by omega)) (by omega)) (fun k => hiW 41 0 k (by decide) (Wwf_ok (by omega))), hi.mv ⟨fun k hk => ⟨fun c j hc => ?_, fun j => ?_, fun j => ?_, fun j => ?_, fun q j hq => ?_, fun r j hr => ?_, fun a j h1 h2 => ?_, fun j => ?_⟩, fun t j h1 _ => c25 t j h1, by rw [nW]; exact Nat.le_refl _, by rw [hiW 40 0 13 (by decide) (Wwf_40 rfl)]; exact Int.le_refl _⟩ (e0 3) (hiW 40 0 56 (by decide) (Wwf_40 rfl))⟩
  · rw [E.2.2.2.2.2.2.1 _ j (by omega), s 61 _ j (by decide)]
  · rw [E.2.2.2.2.2.2.2.1 k j hk, s 63 k j (by decide)]
  · rw [E.2.2.2.2.2.2.2.2.1 k j hk, s 65 k j (by decide)]
  · rw [E.2.2.2.2.2.2.2.2.2 k j hk, s 67 k j (by decide)]
  · exact hiW 69 _ j (by decide) (Wwf_ok (by omega))
  · exact hiW 71 _ j (by decide) (Wwf_ok (by omega))
  · exact bx a (2 + k) j h1 h2 (by omega)
  · rw [gW, p7 11 _ j (by omega)]
def stW (p : Int32) (U V : fS) : Prop := ∃ v : Int32, F_X6_tryOnCopy p U = some (v, V)
theorem stW_un : ∀ U V V' : fS, stW p U V → stW p U V' → V = V' := by
  rintro U V V' ⟨v, h⟩ ⟨v', h'⟩
  rw [h] at h'
  exact congrArg Prod.snd (Option.some.inj h')
theorem stW_K (hp : p.toInt = (c : Int)) (hc : c < 64) : STK (stW p) p := by
  rintro U V R ⟨v, h⟩ K RR
  obtain ⟨F, q⟩ := k_step K RR hp hc h
  exact ⟨CEl.mxx F, pq_imp q (fun _ _ q => ⟨q.1, q.2.1⟩)⟩
def wrng (p : Int32) : Prop := (1 : Int32).toInt ≤ p.toInt ∧ p.toInt ≤ (20 : Int32).toInt
theorem rk_worth (h : IV S) (z : ge S 40 0 0 = 0) : RK (fun ec => if ec = 0 then 0 else if ec = 1 then 2 else 1) (F_X6_worth p p2 p3 S) (F_X7_worth p p2 p3) := by
  have l1 : (1 : Int32).toInt = 1 := by decide
  have h0 := h.nq
  obtain ⟨_, _, _, _, _, _, _, ⟨m, m200, r1, _, _⟩, _⟩ := h.2.2.2.1
  unfold RK
  have c6 : pk (F_X6_worth p p2 p3 S) (fun r T => (r.1 = 2 ∧ ¬ (ic p ∧ ic p2) ∧ T = S) ∨ (r.1 = 1 ∧ ic p ∧ ic p2 ∧ ¬ wrng p3 ∧ T = S) ∨ (r.1 = 0 ∧ ic p ∧ ic p2 ∧ wrng p3 ∧ ∃ (N : Nat) (T1 V : fS), p3.toInt = (N : Int) + 1 ∧ CPb S T1 1 0 m ∧ GH (stW p) N T1 V ∧ F_X6_worthOnCopy p2 V = some (r.2, T))) := by
    unfold F_X6_worth
    refine pg_cell (fun hc => ?_) (fun hc => Or.inl ⟨rfl, fun q => hc q.1, rfl⟩)
    refine pg_cell (fun hc2 => ?_) (fun hc2 => Or.inl ⟨rfl, fun q => hc2 q.2, rfl⟩)
    refine pg_w (fun h3 => pg_n1 ?_) (fun h3 => pg_n0 (Or.inr (Or.inl ⟨rfl, hc, hc2, h3, rfl⟩)))
    have h3' := h3.1
    rw [l1] at h3'
    obtain ⟨N, hN⟩ : ∃ N : Nat, p3.toInt = (N : Int) + 1 := ⟨(p3.toInt - 1).toNat, by omega⟩
    refine pq_bd (y_copy (by decide) r1 m200) (fun _ T1 cp => ?_)
    have b3 := ti_bd p3
    refine pq_lp (fun (y : Int32 × Int32 × Int32 × Int32) V => y.1 = p ∧ y.2.1 = p2 ∧ y.2.2.1 = p3 ∧ ∃ n : Nat, y.2.2.2.toInt = (n : Int) + 1 ∧ n ≤ N ∧ GH (stW p) n T1 V) (fun _ _ (r : Nat × Int32) T => (r.1 = 2 ∧ ¬ (ic p ∧ ic p2) ∧ T = S) ∨ (r.1 = 1 ∧ ic p ∧ ic p2 ∧ ¬ wrng p3 ∧ T = S) ∨ (r.1 = 0 ∧ ic p ∧ ic p2 ∧ wrng p3 ∧ ∃ (N : Nat) (T1 V : fS), p3.toInt = (N : Int) + 1 ∧ CPb S T1 1 0 m ∧ GH (stW p) N T1 V ∧ F_X6_worthOnCopy p2 V = some (r.2, T))) ?_ fuel (p, p2, p3, 1) T1 ⟨rfl, rfl, rfl, 0, l1, by omega, rfl⟩
    intro k hk y V hy
    obtain ⟨a1, a2, a3, a4⟩ := y
    obtain ⟨f1, f2, f3, n, i1, i2, gV⟩ := hy
    dsimp only at f1 f2 f3 i1
    subst f1
    subst f2
    subst f3
    unfold B_X6_worth_32
    dsimp only
    refine pq_le (fun c => pq_bd pk_self (fun v2 S3 q => pq_some (Or.inr (Or.inr ⟨rfl, hc, hc2, h3, N, T1, V, hN, cp, ?_, q⟩)))) (fun c => pq_bd pk_self (fun v5 S6 q => pq_iv fun x8 e8 => ?_))
    · have : n = N := by omega
      rw [← this]
      exact gV
    · have g8 : x8.toInt = a4.toInt + 1 := by rw [e8]; exact ti_inc (by omega)
      exact hk (a1, a2, a3, x8) S6 ⟨rfl, rfl, rfl, n + 1, by dsimp only; omega, by omega, ⟨V, gV, v5, q⟩⟩
  have sr : pk (F_X6_worth p p2 p3 S) (fun _ T => SRq S T) := sm_SR (f := F_X6_worth p p2 p3) (fun G S => m_F_X6_worth (G := G) (S := S) p p2 p3)
  refine pq_imp (pq_and (s_F_X6_worth p p2 p3 S h.1 h.2.1).pk (pq_and sr c6)) (fun r T1' q => ?_)
  obtain ⟨⟨R1, F1, _⟩, s1, q⟩ := q
  have z1 := RI_z z s1
  have H1 : HI T1' := h.2.2.1.fr F1 rfl
  rcases q with ⟨q1, q2, q3⟩ | ⟨q1, q2, q3, q4, q5⟩ | ⟨q1, q2, q3, q4, N, T1, V, hN, cp, gV, ew⟩
  · rw [q3]
    have no : pk (B_X7_worth_20 p p2 p3 S) (fun v2 T2 => RLv T2 ∧ ge T2 40 0 0 = (fun ec => if ec = 0 then (0 : Int32) else if ec = 1 then 2 else 1) r.1 ∧ (r.1 = 0 → r.2 = v2)) := by
      unfold B_X7_worth_20 B_X7_worth_25
      exact pg7_no z (by decide) (pq_some ⟨(h.wr 1).2.2.2, by rw [ge_pus, q1]; rfl, fun d => by omega⟩)
    unfold F_X7_worth
    exact pg7_0 z (pg7_cell (fun c1 => pg_b1 (pg7_cell (fun c2 => absurd ⟨c1, c2⟩ q2) (fun _ => pg_b0 no))) (fun _ => pg_b0 no))
  · rw [q5]
    unfold F_X7_worth
    refine pg7_0 z (pg7_cell (fun _ => pg_b1 (pg7_cell (fun _ => pg_b1 ?_) (fun c => absurd q3 c))) (fun c => absurd q2 c))
    unfold B_X7_worth_25
    refine pg7_ok z (pg_7 (fun c => absurd c q4) (fun _ => pg_b0 ?_))
    unfold B_X7_worth_48
    exact pg7_no z (by decide) (pq_some ⟨(h.wr 2).2.2.2, by rw [ge_pus, q1]; rfl, fun d => by omega⟩)
  · obtain ⟨c1, hp, hc1⟩ := ic_nat q2
    obtain ⟨c2, hp2, hc2⟩ := ic_nat q3
    unfold F_X7_worth
    refine pg7_0 z1 (pg7_cell (fun _ => pg_b1 (pg7_cell (fun _ => pg_b1 ?_) (fun c => absurd q3 c))) (fun c => absurd q2 c))
    unfold B_X7_worth_25
    refine pg7_ok z1 (pg_7 (fun _ => pg_b1 ?_) (fun c => absurd q4 c))
    unfold B_X7_worth_48
    refine pg7_ok z1 ?_
    have K0 := KR_at (KR_copy h cp) h.1 s1
    refine pq_bd (q_worthOf (stW_K hp hc1) stW_un R1 H1 K0 hp hc1 hp2 hc2 hN gV ew) (fun v W q => pq_some ⟨?_, ?_, fun _ => q.1.symm⟩)
    · exact h.2.2.2.wo h0 cp q.2.2 s1 q.2.1
    · rw [q.2.1.2.1 40 0 0 (Wwf_40 rfl), z1, q1]; rfl
/-! bide -/
def stB (p p2 : Int32) (U V : fS) : Prop := ∃ (w : Int32) (U' : fS), F_X6_worthOnCopy p2 U = some (w, U') ∧ stW p U' V
theorem some_un {A : Type} {x : Option (A × fS)} {a a' : A} {U U' : fS} (h : x = some (a, U)) (h' : x = some (a', U')) : a = a' ∧ U = U' := by
  rw [h] at h'
  have e := Option.some.inj h'
  exact ⟨congrArg Prod.fst e, congrArg Prod.snd e⟩
theorem stB_un : ∀ U V V' : fS, stB p p2 U V → stB p p2 U V' → V = V' := by
  rintro U V V' ⟨w, X, h, g⟩ ⟨w', X', h', g'⟩
  have e := (some_un h h').2
  rw [← e] at g'
  exact stW_un _ _ _ g g'
theorem stB_K (hp : p.toInt = (c : Int)) (hc : c < 64) (hp2 : p2.toInt = (c2 : Int)) (hc2 : c2 < 64) : STK (stB p p2) p := by
  rintro U V R ⟨w, X, h, g⟩ K RR
  obtain ⟨F, _⟩ := k_worth K RR.nqR RR hp2 hc2 h
  obtain ⟨ce, q⟩ := stW_K hp hc X V R g (K.sc RR.nqR F) RR
  exact ⟨(CEl.mxx (F.sub sc_tc)).tr ce, q⟩
/-- the worth behind n tries -/
def WVq (p p2 : Int32) (T1 : fS) (n : Nat) (w : Int32) : Prop := ∃ U U' : fS, GH (stB p p2) n T1 U ∧ F_X6_worthOnCopy p2 U = some (w, U')
theorem WVq.un {w' : Int32} (h : WVq p p2 T1 n w) (g : WVq p p2 T1 n w') : w = w' := by
  obtain ⟨U, X, h1, h2⟩ := h
  obtain ⟨U', X', g1, g2⟩ := g
  have e := GH.un stB_un h1 g1
  rw [← e] at g2
  exact (some_un h2 g2).1
def BSq (p p2 : Int32) (T1 : fS) : Nat → Int32 → Int32 → Prop
  | 0, b, g => b = 1 ∧ WVq p p2 T1 0 g
  | n + 1, b, g => ∃ b' g' w : Int32, BSq p p2 T1 n b' g' ∧ WVq p p2 T1 (n + 1) w ∧ ((w ≤ g' ∧ b = b' ∧ g = g') ∨ (¬ w ≤ g' ∧ b = Int32.ofNat (n + 2) ∧ g = w))
theorem BSq.un : ∀ {n : Nat} {b g b' g' : Int32}, BSq p p2 T1 n b g → BSq p p2 T1 n b' g' → b = b' ∧ g = g'
  | 0, _, _, _, _, h, k => ⟨h.1.trans k.1.symm, h.2.un k.2⟩
  | n + 1, _, _, _, _, ⟨b1, g1, w, h, hw, d⟩, ⟨b2, g2, w', k, kw, e⟩ => by
    obtain ⟨e1, e2⟩ := BSq.un h k
    have e3 := hw.un kw
    rw [← e1, ← e2, ← e3] at e
    rcases d with ⟨x1, x2, x3⟩ | ⟨x1, x2, x3⟩ <;> rcases e with ⟨y1, y2, y3⟩ | ⟨y1, y2, y3⟩
    · exact ⟨x2.trans y2.symm, x3.trans y3.symm⟩
    · exact absurd x1 y1
    · exact absurd y1 x1
    · exact ⟨x2.trans y2.symm, x3.trans y3.symm⟩
theorem rk_bide (h : IV S) (z : ge S 40 0 0 = 0) : RK (fun ec => if ec = 0 then 0 else 1) (F_X6_bide p p2 S) (F_X7_bide p p2) := by
  have l1 : (1 : Int32).toInt = 1 := by decide
  have l2 : (2 : Int32).toInt = 2 := by decide
  have l20 : (20 : Int32).toInt = 20 := by decide
  have h0 := h.nq
  obtain ⟨_, _, _, _, _, _, _, ⟨m, m200, r1, _, _⟩, _⟩ := h.2.2.2.1
  unfold RK
  have c6 : pk (F_X6_bide p p2 S) (fun r T => (r.1 = 2 ∧ ¬ (ic p ∧ ic p2) ∧ T = S) ∨ (r.1 = 0 ∧ ic p ∧ ic p2 ∧ ∃ (T1 U : fS) (w g : Int32), CPb S T1 1 0 m ∧ BSq p p2 T1 19 r.2 g ∧ GH (stB p p2) 19 T1 U ∧ F_X6_worthOnCopy p2 U = some (w, T))) := by
    unfold F_X6_bide
    refine pg_cell (fun hc => ?_) (fun hc => Or.inl ⟨rfl, fun q => hc q.1, rfl⟩)
    refine pg_cell (fun hc2 => ?_) (fun hc2 => Or.inl ⟨rfl, fun q => hc2 q.2, rfl⟩)
    refine pq_bd (y_copy (by decide) r1 m200) (fun _ T1 cp => pq_bd pk_self (fun v21 S22 q22 => ?_))
    refine pq_lp (fun (y : Int32 × Int32 × Int32 × Int32 × Int32) V => y.1 = p ∧ y.2.1 = p2 ∧ ∃ (n : Nat) (U : fS) (w : Int32), y.2.2.2.2.toInt = (n : Int) + 2 ∧ n ≤ 19 ∧ BSq p p2 T1 n y.2.2.1 y.2.2.2.1 ∧ GH (stB p p2) n T1 U ∧ F_X6_worthOnCopy p2 U = some (w, V)) (fun _ _ (r : Nat × Int32) T => (r.1 = 2 ∧ ¬ (ic p ∧ ic p2) ∧ T = S) ∨ (r.1 = 0 ∧ ic p ∧ ic p2 ∧ ∃ (T1 U : fS) (w g : Int32), CPb S T1 1 0 m ∧ BSq p p2 T1 19 r.2 g ∧ GH (stB p p2) 19 T1 U ∧ F_X6_worthOnCopy p2 U = some (w, T))) ?_ fuel (p, p2, 1, v21, 2) S22 ⟨rfl, rfl, 0, T1, v21, l2, by omega, ⟨rfl, T1, S22, rfl, q22⟩, rfl, q22⟩
    intro k hk y V hy
    obtain ⟨a1, a2, a3, a4, a5⟩ := y
    obtain ⟨f1, f2, n, U, w, i1, i2, i3, i4, i5⟩ := hy
    dsimp only at f1 f2 i1 i3
    subst f1
    subst f2
    unfold B_X6_bide_31
    dsimp only
    refine pq_lt (fun c => pq_some (Or.inr ⟨rfl, hc, hc2, T1, U, w, a4, cp, ?_, ?_, i5⟩)) (fun c => ?_)
    · have : n = 19 := by omega
      rw [this] at i3
      exact i3
    · have : n = 19 := by omega
      rw [this] at i4
      exact i4
    refine pq_bd pk_self (fun v3 S4 q3 => pq_bd pk_self (fun v6 S7 q6 => ?_))
    have g4 : GH (stB a1 a2) (n + 1) T1 S4 := ⟨U, i4, w, V, i5, v3, q3⟩
    have wv : WVq a1 a2 T1 (n + 1) v6 := ⟨S4, S7, g4, q6⟩
    have nx : ∀ b g : Int32, BSq a1 a2 T1 (n + 1) b g → pk (B_X6_bide_65 k a1 a2 b g a5 S7) (fun r T => (r.1 = 2 ∧ ¬ (ic a1 ∧ ic a2) ∧ T = S) ∨ (r.1 = 0 ∧ ic a1 ∧ ic a2 ∧ ∃ (T1 U : fS) (w g : Int32), CPb S T1 1 0 m ∧ BSq a1 a2 T1 19 r.2 g ∧ GH (stB a1 a2) 19 T1 U ∧ F_X6_worthOnCopy a2 U = some (w, T))) := by
      intro b g hb
      unfold B_X6_bide_65
      refine pq_iv fun x1 e1 => ?_
      have g1 : x1.toInt = a5.toInt + 1 := by rw [e1]; exact ti_inc (by omega)
      exact hk (a1, a2, b, g, x1) S7 ⟨rfl, rfl, n + 1, S4, v6, by dsimp only; omega, by omega, hb, g4, q6⟩
    have e5 : a5 = Int32.ofNat (n + 2) := ofN (by rw [i1]; omega) (by omega)
    exact pq_bb (fun d => nx a3 a4 ⟨a3, a4, v6, i3, wv, Or.inl ⟨d, rfl, rfl⟩⟩) (fun d => nx a5 v6 ⟨a3, a4, v6, i3, wv, Or.inr ⟨d, e5, rfl⟩⟩)
  have sr : pk (F_X6_bide p p2 S) (fun _ T => SRq S T) := sm_SR (f := F_X6_bide p p2) (fun G S => m_F_X6_bide (G := G) (S := S) p p2)
  refine pq_imp (pq_and (s_F_X6_bide p p2 S h.1 h.2.1).pk (pq_and sr c6)) (fun r T1' q => ?_)
  obtain ⟨⟨R1, F1, _⟩, s1, q⟩ := q
  have z1 := RI_z z s1
  have H1 : HI T1' := h.2.2.1.fr F1 rfl
  rcases q with ⟨q1, q2, q3⟩ | ⟨q1, q2, q3, T1, U, w, g, cp, bs, gU, ew⟩
  · rw [q3]
    have no : pk (B_X7_bide_20 p p2 S) (fun v2 T2 => RLv T2 ∧ ge T2 40 0 0 = (fun ec => if ec = 0 then (0 : Int32) else 1) r.1 ∧ (r.1 = 0 → r.2 = v2)) := by
      unfold B_X7_bide_20 B_X7_bide_25
      exact pg7_no z (by decide) (pq_some ⟨(h.wr 1).2.2.2, by rw [ge_pus, q1]; rfl, fun d => by omega⟩)
    unfold F_X7_bide
    exact pg7_0 z (pg7_cell (fun c1 => pg_b1 (pg7_cell (fun c2 => absurd ⟨c1, c2⟩ q2) (fun _ => pg_b0 no))) (fun _ => pg_b0 no))
  · obtain ⟨c1, hp, hc1⟩ := ic_nat q2
    obtain ⟨c2, hp2, hc2⟩ := ic_nat q3
    have K0 := KR_at (KR_copy h cp) h.1 s1
    have lastw : WVq p p2 T1 19 w := ⟨U, T1', gU, ew⟩
    -- the worth behind n tries, told by the reference
    have wo : ∀ (n : Nat) (x : Int32) (R : fS), n ≤ 19 → x.toInt = (n : Int) + 1 → RI R → HI R → EQw T1' R → pk (F_X7_worthOf p p2 x R) (fun v W => WVq p p2 T1 n v ∧ RI W ∧ HI W ∧ EQw T1' W ∧ (n = 19 → CEl T1 T1')) := by
      intro n x R hn hx RR HR ER
      have K1 : KR (mx T1 R) := K0.eq R1 ER
      have ex : ∃ (V V' : fS) (wn : Int32), GH (stB p p2) n T1 V ∧ F_X6_worthOnCopy p2 V = some (wn, V') ∧ (n = 19 → V' = T1') := by
        by_cases d : n = 19
        · rw [d]; exact ⟨U, T1', w, gU, ew, fun _ => rfl⟩
        · obtain ⟨V, V2, gV, wn, V', hw, _⟩ := GH.pre gU (n := n) (by omega)
          exact ⟨V, V', wn, gV, hw, fun e => absurd e d⟩
      obtain ⟨V, V', wn, gV, hw, hV⟩ := ex
      refine pq_imp (pq_and (s_F_X7_worthOf p p2 x R RR HR ⟨by omega, by omega, by omega, by omega⟩).pk (q_worthOf (stB_K hp hc1 hp2 hc2) stB_un RR HR K1 hp hc1 hp2 hc2 hx gV hw)) (fun v W q => ?_)
      obtain ⟨⟨RW, _, HW, _⟩, ev, EW, ce⟩ := q
      exact ⟨⟨V, V', gV, by rw [ev]; exact hw⟩, RW, HW, ER.tr EW, fun d => by rw [← hV d]; exact ce⟩
    unfold F_X7_bide
    refine pg7_0 z1 (pg7_cell (fun _ => pg_b1 (pg7_cell (fun _ => pg_b1 ?_) (fun c => absurd q3 c))) (fun c => absurd q2 c))
    unfold B_X7_bide_25
    refine pg7_ok z1 (pq_bd (wo 0 1 T1' (by omega) l1 R1 H1 EQw.rf) (fun v12 R q => ?_))
    obtain ⟨w0, RR, HR, ER, _⟩ := q
    refine pq_lp (fun (y : Int32 × Int32 × Int32 × Int32 × Int32) R => y.1 = p ∧ y.2.1 = p2 ∧ RI R ∧ HI R ∧ EQw T1' R ∧ ∃ n : Nat, y.2.2.2.2.toInt = (n : Int) + 2 ∧ n ≤ 19 ∧ BSq p p2 T1 n y.2.2.1 y.2.2.2.1 ∧ (n = 19 → CEl T1 T1')) (fun _ _ (v2 : Int32) T2 => RLv T2 ∧ ge T2 40 0 0 = (fun ec => if ec = 0 then (0 : Int32) else 1) r.1 ∧ (r.1 = 0 → r.2 = v2)) ?_ fuel (p, p2, 1, v12, 2) R ⟨rfl, rfl, RR, HR, ER, 0, l2, by omega, ⟨rfl, w0⟩, fun d => absurd d (by omega)⟩
    intro k hk y R hy
    obtain ⟨a1, a2, a3, a4, a5⟩ := y
    obtain ⟨f1, f2, RR, HR, ER, n, i1, i2, i3, i4⟩ := hy
    dsimp only at f1 f2 i1 i3
    subst f1
    subst f2
    unfold B_X7_bide_48
    dsimp only
    refine pq_lt (fun c => ?_) (fun c => ?_)
    · have en : n = 19 := by omega
      rw [en] at i3
      refine pq_some ⟨h.2.2.2.wo h0 cp (i4 en) s1 ER, ?_, fun _ => (BSq.un bs i3).1⟩
      rw [ER.2.1 40 0 0 (Wwf_40 rfl), z1, q1]; rfl
    refine pq_bd (wo (n + 1) a5 R (by omega) (by omega) RR HR ER) (fun v4 R2 q => ?_)
    obtain ⟨wv, RR2, HR2, ER2, ce⟩ := q
    have e5 : a5 = Int32.ofNat (n + 2) := ofN (by rw [i1]; omega) (by omega)
    have nx : ∀ b g : Int32, BSq a1 a2 T1 (n + 1) b g → pk (B_X7_bide_93 k a1 a2 b a5 g R2) (fun v2 T2 => RLv T2 ∧ ge T2 40 0 0 = (fun ec => if ec = 0 then (0 : Int32) else 1) r.1 ∧ (r.1 = 0 → r.2 = v2)) := by
      intro b g hb
      unfold B_X7_bide_93
      refine pq_iv fun x1 e1 => ?_
      have g1 : x1.toInt = a5.toInt + 1 := by rw [e1]; exact ti_inc (by omega)
      exact hk (a1, a2, b, g, x1) R2 ⟨rfl, rfl, RR2, HR2, ER2, n + 1, by dsimp only; omega, by omega, hb, ce⟩
    refine pq_bb (fun d => ?_) (fun d => ?_)
    · unfold B_X7_bide_78
      exact pq_bb (fun _ => nx a3 a4 ⟨a3, a4, v4, i3, wv, Or.inl ⟨d, rfl, rfl⟩⟩) (fun q => absurd d q)
    · unfold B_X7_bide_78
      exact pq_bb (fun q => absurd q d) (fun _ => nx a5 v4 ⟨a3, a4, v4, i3, wv, Or.inr ⟨d, e5, rfl⟩⟩)
end BID
