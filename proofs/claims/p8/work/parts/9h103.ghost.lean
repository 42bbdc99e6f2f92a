/-! the copy of the box against the reference: a memory mixed of both -/
def KR (M : fS) : Prop := HVq M ∧ HOq M ∧ BVq M 1 ∧ NBq M 1 ∧ PGq M ∧ IFq M
section GHO
variable {S T T' R R' M M' U V : fS} {c n m : Nat} {p v w : Int32}
theorem mx_SR : SRq (mx T R) R := fun a i j h => (mx_hi h).symm
theorem mx_FX {W : Nat → Nat → Nat → Bool} (F : FX W R R') : FX W (mx T R) (mx T R') := by
  refine ⟨fun a i j h => ?_, rfl⟩
  by_cases q : a < 40
  · rw [mx_lo q, mx_lo q]
  · rw [mx_hi (by omega), mx_hi (by omega)]
    exact F.1 a i j h
theorem mx_le {a i j : Nat} (h : a < 40) : ge (mx T R) a i j = ge T a i j := mx_lo h
theorem Wts_lo {a i j : Nat} (h : a < 40) : Wts a i j = false := by
  unfold Wts Wtr Wg
  rw [Wt7_out (by omega) (by omega), Wgr_out (by omega) (by omega), beq_out (by omega : a ≠ 40), beq_out (by omega : a ≠ 53), beq_out (by omega : a ≠ 54), beq_out (by omega : a ≠ 50)]
  rfl
theorem Wts_hi {a i j : Nat} (h : (41 ≤ a ∧ a ≤ 44) ∨ (46 ≤ a ∧ a ≤ 49) ∨ (51 ≤ a ∧ a ≤ 52) ∨ 56 ≤ a) : Wts a i j = false := by
  unfold Wts Wtr Wg
  rw [Wt7_out (by omega) (by omega), Wgr_out (by omega) (by omega), beq_out (by omega : a ≠ 40), beq_out (by omega : a ≠ 53), beq_out (by omega : a ≠ 54), beq_out (by omega : a ≠ 50)]
  rfl
/-- only what it speaks of -/
theorem KR.cg (h : KR M) (h0 : 0 ≤ nq M) (a : AR M M' 0) (b1 : ∀ j : Nat, 1 ≤ j → j ≤ 12 → j ≠ 11 → ge M' 1 1 j = ge M 1 1 j) (b2 : ge M' 2 1 0 = ge M 2 1 0) (b3 : ∀ x j : Nat, 3 ≤ x → x ≤ 9 → j < 24 → ge M' x 1 j = ge M x 1 j) (b4 : ∀ j : Nat, j < 64 → ge M' 10 1 j = ge M 10 1 j) (hP : PGq M') (hI : ge M' 1 0 6 = ge M 1 0 6) : KR M' := by
  obtain ⟨H, hO, B, N, _, I⟩ := h
  obtain ⟨e1, e2, e3, e4⟩ := a.HB h0 H
  have hT := a.HV h0 H
  have en := a.nqE
  have n24 := H.2.2.1
  obtain ⟨c1, c2, c4, c5⟩ := B
  obtain ⟨a1, a2, a3, ⟨x21, x30, x31, x32, x33, x34, x35, x36, x37, x38, x15, x46⟩, a13, _⟩ := a
  refine ⟨hT, ?_, ⟨?_, fun t ht => ?_, ?_, ?_⟩, ?_, hP, ?_⟩
  · unfold HOq
    rw [x30]; exact hO
  · rw [en]
    obtain ⟨h1, h2, h3, h4, h5, h6⟩ := c1.cg e1 e2 e3
    refine ⟨h1, h2.cg (fun _ _ => rfl) (fun _ _ _ _ => rfl) (fun c hc => by rw [b4 c hc]) (fun c k hc hk => ?_), by rw [b2]; exact h3, h4, fun t ht => by rw [b3 8 t (by decide) (by decide) (by omega)]; exact h5 t ht, h6⟩
    have := h1.1 c k hc hk
    rw [b3 9 _ (by decide) (by decide) (by omega)]
  · rw [en] at ht
    obtain ⟨x1, x2, x3, x4, x5, x6⟩ := a1 t ht
    rw [b3 3 t (by decide) (by decide) (by omega), b3 4 t (by decide) (by decide) (by omega), b3 5 t (by decide) (by decide) (by omega), b3 6 t (by decide) (by decide) (by omega), b3 7 t (by decide) (by decide) (by omega), x1, x2, x3, x4, x6]
    exact c2 t ht
  · rw [b1 1 (by decide) (by decide) (by decide), x30]; exact c4
  · rw [b1 2 (by decide) (by decide) (by decide), x31]; exact c5
  · unfold NBq at *
    rw [b1 3 (by decide) (by decide) (by decide), b1 4 (by decide) (by decide) (by decide), b1 7 (by decide) (by decide) (by decide), b1 8 (by decide) (by decide) (by decide), b1 9 (by decide) (by decide) (by decide), b1 10 (by decide) (by decide) (by decide), x32, x33, x35, x36, x37, x38]
    exact N
  · unfold IFq at *
    rw [hI, x15]
    exact ⟨I.1, I.2.1, by have := I.2.2; omega⟩
/-- scratch does not matter -/
theorem KR.sc (h : KR M) (h0 : 0 ≤ nq M) (F : FX (WscR 0) M M') : KR M' := by
  have s : SRq M M' := F.sr Ws_r
  obtain ⟨H, hO, B, N, hP, I⟩ := h
  exact ⟨s.HV H, s.HO hO, s.BV B (fun a j ha => F.1 a 1 j (Ws_l a 1 j ha)), s.NB N (fun j => F.1 1 1 j rfl), hP.fx F rfl rfl rfl rfl (fun _ => rfl) (fun _ _ => rfl) (fun _ _ => rfl), s.IF (F.1 1 0 6 rfl) I⟩
/-- a try on the copy and the reference's try -/
theorem k_step (K : KR (mx T R)) (RR : RI R) (hp : p.toInt = (c : Int)) (hc : c < 64) (e6 : F_X6_tryOnCopy p T = some (v, T')) : FX Wtc (mx T R) (mx T' R) ∧ pk (F_X7_triesAt p 0 R) (fun _ R' => KR (mx T' R') ∧ FX Wts R R' ∧ ge R' 40 0 41 = v) := by
  obtain ⟨H, hO, B, N, hP, I⟩ := K
  have K' : KR (mx T R) := ⟨H, hO, B, N, hP, I⟩
  have s0 : SRq (mx T R) R := mx_SR
  obtain ⟨g, hT⟩ := TOK_of hP I 0
  have q := m_F_X6_tryOnCopy (G := R) (S := T) p
  unfold sm at q
  rw [e6] at q
  obtain ⟨F6, ev, CV, CN⟩ := y_tryOnCopy H hO B N hP I hT hp hc v (mx T' R) q
  refine ⟨F6, pq_imp (r_triesAt RR (s0.HV H) (s0.HO hO) (s0.TL hT) hp hc) (fun _ R' q => ?_)⟩
  obtain ⟨F7, RV, MW, e41, _, CQ⟩ := q
  have G7 : FX Wts (mx T' R) (mx T' R') := mx_FX F7
  have s1 : SRq (mx T' R') R' := mx_SR
  have c40 : ∀ j : Nat, Wts 40 0 j = false → ge (mx T' R') 40 0 j = ge (mx T R) 40 0 j := fun j hj => by rw [mx_hi (by decide), mx_hi (by decide)]; exact F7.1 40 0 j hj
  have hi : ∀ a i j : Nat, 40 ≤ a → Wts a i j = false → ge (mx T' R') a i j = ge (mx T R) a i j := fun a i j h hj => by rw [mx_hi h, mx_hi h]; exact F7.1 a i j hj
  have lo : ∀ a i j : Nat, a < 40 → Wtc a i j = false → ge (mx T' R') a i j = ge (mx T R) a i j := fun a i j h hj => by
    have z := F6.1 a i j hj
    rw [mx_lo h] at z ⊢
    exact z
  have en : nq (mx T' R') = nq (mx T R) := by unfold nq; rw [c40 21 rfl]
  have RV' : RVq (mx T' R') (nq (mx T R)) := by
    obtain ⟨v1, v2, v3⟩ := RV
    have ew := s1.hwE
    have eh := s1.hhE
    have eq := s1.hqE
    rw [s0.nqE] at v1 v3
    rw [ew, eh, eq] at v1
    rw [eh] at v2
    rw [ew] at v3
    exact ⟨v1, v2, v3⟩
  have MW' : MWq (mx T R) c (clm g).1 (clm g).2.1 (hw (mx T' R')) (HS (mx T' R')) := by
    rw [s0.MWE, s1.hwE, s1.HSE] at MW
    exact MW
  have CQ' : CNq (mx T R) (mx T' R') (oq (mx T R) c (clm g).1 (clm g).2.1) (feq (mx T R) c (clm g).1 (clm g).2.1) := by
    rw [s0.oqE, s0.feE] at CQ
    unfold CNq at CQ ⊢
    rw [mx_hi (by decide), mx_hi (by decide), mx_hi (by decide), mx_hi (by decide), mx_hi (by decide), mx_hi (by decide), mx_hi (by decide), mx_hi (by decide), mx_hi (by decide), mx_hi (by decide)]
    exact CQ
  have n24 := H.2.2.1
  have C1 := CV_step (T2 := mx T' R') CV RV' MW' (fun a j ha => by rw [mx_lo (by omega), mx_lo (by omega)])
  refine ⟨⟨⟨by rw [en]; exact RV'.1, RV'.2.1, by rw [en]; exact n24, fun t ht => ?_⟩, ?_, ⟨by rw [en]; exact C1, fun t ht => ?_, ?_, ?_⟩, ?_, ?_, ?_⟩, F7, ?_⟩
  · rw [en] at ht
    rw [hi 47 0 t (by decide) rfl, hi 51 0 t (by decide) rfl]
    exact ⟨(H.2.2.2 t ht).1, RV'.2.2 t ht⟩
  · unfold HOq
    rw [c40 30 rfl]; exact hO
  · rw [en] at ht
    rw [lo 3 1 t (by decide) rfl, lo 4 1 t (by decide) rfl, lo 5 1 t (by decide) rfl, lo 6 1 t (by decide) rfl, lo 7 1 t (by decide) rfl, hi 46 0 t (by decide) rfl, hi 47 0 t (by decide) rfl, hi 48 0 t (by decide) rfl, hi 49 0 t (by decide) rfl, hi 51 0 t (by decide) rfl]
    exact B.2.1 t ht
  · rw [lo 1 1 1 (by decide) rfl, c40 30 rfl]; exact B.2.2.1
  · rw [lo 1 1 2 (by decide) rfl, c40 31 rfl]; exact B.2.2.2
  · exact CN_step N CN CQ' (fun j => by rw [mx_lo (by decide), mx_lo (by decide)]) ⟨F6.1 1 1 3 rfl, F6.1 1 1 4 rfl⟩ ⟨c40 32 rfl, c40 33 rfl⟩
  · exact (hP.fx F6 rfl rfl rfl rfl (fun _ => rfl) (fun _ _ => rfl) (fun _ _ => rfl)).fx G7 rfl rfl rfl rfl (fun _ => rfl) (fun _ _ => rfl) (fun _ _ => rfl)
  · unfold IFq at *
    rw [lo 1 0 6 (by decide) rfl, c40 15 rfl, c40 13 rfl]; exact I
  · rw [e41, ev]
    exact s0.oqE c _ _
/-- what a try on the copy would be worth -/
theorem k_worth (K : KR (mx T R)) (h0 : 0 ≤ nq (mx T R)) (RR : RI R) (hp : p.toInt = (c : Int)) (hc : c < 64) (e6 : F_X6_worthOnCopy p T = some (w, T')) : FX (WscR 0) (mx T R) (mx T' R) ∧ pk (F_X7_triesAt p 0 R) (fun _ R' => w = ge R' 40 0 43 - ge R' 40 0 32 ∧ FX Wts R R') := by
  obtain ⟨H, hO, B, N, hP, I⟩ := K
  have s0 : SRq (mx T R) R := mx_SR
  obtain ⟨g, hT⟩ := TOK_of hP I 0
  have q := m_F_X6_worthOnCopy (G := R) (S := T) p
  unfold sm at q
  rw [e6] at q
  have main : pk (F_X6_worthOnCopy p (mx T R)) (fun v X => FX (WscR 0) (mx T R) X ∧ v = feq (mx T R) c (clm g).1 (clm g).2.1 - ge (mx T R) 40 0 32) := by
    unfold F_X6_worthOnCopy
    refine pq_bd (y_probeCopy H hO B N hP I hT hp hc) (fun _ X q => ?_)
    obtain ⟨FX1, ca⟩ := q
    obtain ⟨a0, a10, a1, a2, a16, a26, _⟩ := ca
    have sX : SRq (mx T R) X := FX1.sr Ws_r
    have g34 : ∀ t : Int32, t = feq (mx T R) c (clm g).1 (clm g).2.1 → pk (B_X6_worthOnCopy_34 t X) (fun v X => FX (WscR 0) (mx T R) X ∧ v = feq (mx T R) c (clm g).1 (clm g).2.1 - ge (mx T R) 40 0 32) := fun t ht => by
      unfold B_X6_worthOnCopy_34
      exact pq_iv fun x1 e1 => pq_iv fun x2 e2 => pq_some ⟨FX1, by rw [e2, e1, ht, FX1.1 1 1 3 rfl, N.1]⟩
    refine pq_iv fun x6 e6 => ?_
    rw [a1] at e6
    refine pq_bb (fun d => ?_) (fun d => g34 0 ?_)
    · obtain ⟨k1, k2, k3⟩ := glq_ok H hc (S := mx T R)
      refine pq_bd (y_valueOfAll (L := glq (mx T R) c) (n := nq (mx T R)) ⟨a16, a26, k3⟩ (by rw [FX1.1 2 1 0 rfl]; exact B.1.2.2.1) H.2.2.1 (fun u hu => (k2 u hu).1) (fun t ht => by rw [FX1.1 5 1 t rfl, sX 48 0 t (by decide)]; exact (B.2.1 t ht).2.2.1)) (fun v8 Y q => ?_)
      obtain ⟨rfl, q8⟩ := q
      refine g34 v8 ?_
      rw [q8, sX.vsmE]
      unfold feq
      rw [if_pos (by rw [← e6]; exact d)]
    · unfold feq
      rw [if_neg (by rw [← e6]; exact d)]
  obtain ⟨F6, ew⟩ := main w (mx T' R) q
  refine ⟨F6, pq_imp (r_triesAt RR (s0.HV H) (s0.HO hO) (s0.TL hT) hp hc) (fun _ R' q => ?_)⟩
  obtain ⟨F7, RV, MW, e41, _, CQ⟩ := q
  refine ⟨?_, F7⟩
  rw [ew, CQ.1, F7.1 40 0 32 rfl, s0.feE, mx_hi (by decide)]
/-! chains of tries -/
def GH (st : fS → fS → Prop) : Nat → fS → fS → Prop
  | 0, T, V => V = T
  | n + 1, T, V => ∃ U : fS, GH st n T U ∧ st U V
theorem GH.un {st : fS → fS → Prop} (hd : ∀ U V V' : fS, st U V → st U V' → V = V') : ∀ {n : Nat} {T V V' : fS}, GH st n T V → GH st n T V' → V = V'
  | 0, _, _, _, h, h' => h.trans h'.symm
  | n + 1, _, _, _, ⟨U, h, s⟩, ⟨U', h', s'⟩ => by
    have e := GH.un hd h h'
    rw [← e] at s'
    exact hd _ _ _ s s'
theorem GH.pre {st : fS → fS → Prop} : ∀ {N : Nat} {T V : fS}, GH st N T V → ∀ {n : Nat}, n < N → ∃ U V' : fS, GH st n T U ∧ st U V'
  | 0, _, _, _, _, h => absurd h (Nat.not_lt_zero _)
  | N + 1, T, V, ⟨U, g, s⟩, n, h => by
    by_cases d : n = N
    · rw [d]; exact ⟨U, V, g, s⟩
    · exact GH.pre g (by omega)
end GHO
