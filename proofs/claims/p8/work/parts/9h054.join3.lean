/-! both sides of a recorded try: the record behind it -/
section JO3
variable {S T1 T2 T : fS} {c m t k : Nat} {p v v2 : Int32}
theorem TRq_ge (h : TRq S t k) (e25 : ∀ j : Nat, ge T 25 t j = ge S 25 t j) (e57 : ∀ j : Nat, ge T 57 k j = ge S 57 k j) : TRq T t k := by
  have en : ∀ j : Nat, rcN T k j = rcN S k j := fun j => by unfold rcN; rw [e57]
  obtain ⟨h1, h2, h3⟩ := h
  refine ⟨fun j hj => by rw [e25, e57]; exact h1 j hj, ?_, fun q => ?_⟩
  · unfold RKq at h2 ⊢
    rw [e57, e57, e57, e57, e57, en, en, en]
    exact h2
  · rw [e57] at q
    have z := h3 q
    rw [en, en, en, e57]
    unfold TYq at z ⊢
    rw [e25, e25, e25, e25, e25, e25]
    exact z
theorem Wat_57 {j : Nat} (h : k ≠ m) : Wat m 57 k j = false := by
  have w : W57 m 57 k j = false := by show Nat.beq k m = false; exact beq_out h
  unfold Wat Wpt Wpu Wa8
  rw [w]
  rfl
theorem Q_RC (hm : (ge S 1 0 12).toInt = (m : Int)) (hm2 : m < 200) (hR : RCq S 0) (hn : 1 ≤ nT S) (hp : p.toInt = (c : Int)) (hc : c < 64) (hK : QKq S m c (nT S) v T1) (hQ : QAq T1 m c p v2 T2) : RCq T2 0 := by
  have l1 : (1 : Int32).toInt = 1 := by decide
  have lm1 : (-1 : Int32).toInt = -1 := by decide
  have s := QK_SR hK
  have lo : ∀ a i j : Nat, a < 40 → ge T2 a i j = ge T1 a i j := fun a i j h => Q_lo hQ h
  obtain ⟨nT1, gg⟩ := QK_gr hK
  have k25 : ∀ r j : Nat, 1 ≤ r → r < nT S → ge T1 25 r j = ge S 25 r j := fun r j h1 h2 => QK_25 hK h1 h2
  obtain ⟨F2, _, _, _, _, ⟨w0, w1, w2, w3, w4, ⟨u2, Cu2, w9⟩, w12, V, G, w10, w11⟩, w46, _⟩ := hQ
  obtain ⟨X, U, F1, K, e, _, x4, ⟨u, Cu, x9⟩, _⟩ := hK
  obtain ⟨FK, _, _, y0, y1, y2, y3, y4, q10, yT⟩ := K
  rw [s.glE, s.oqE] at w1
  rw [s.glE, s.oqE, s.lgqE] at w2
  rw [s.lotE] at w3
  rw [s.PAE] at Cu2
  have sX : SRq S X := nw_SR.tr (F1.sr Wpr_r)
  rw [sX.oqE] at y1
  rw [sX.lgqE] at y2
  rw [sX.misE, show hoN X = hoN S from sX.hoNE, sX.upqE, sX.wsmE, sX.gLE] at yT
  have eu : u2 = u := CAN.un Cu2 Cu
  have eU : ∀ i j : Nat, ge T2 25 i j = ge U 25 i j := fun i j => by
    rw [lo 25 i j (by decide), e]
    show ge (pu (pr U 11 0 m (some (nT S))) 1 0 12 _) 25 i j = _
    rw [ge_pua (by decide)]
    rfl
  obtain ⟨m', m200, r1, r2, r3⟩ := hR
  have em : m' = m := by omega
  rw [em] at r2 r3
  have e12 : ge T1 1 0 12 = ge S 1 0 12 + 1 := by
    rw [e]
    show ge (pu (pr U 11 0 m (some (nT S))) 1 0 12 (ge U 1 0 12 + 1)) 1 0 12 = _
    rw [ge_pus]
    rw [FK.1 1 0 12 rfl, F1.1 1 0 12 rfl, nw_ge (by decide) (by decide)]
  refine ⟨m + 1, by omega, ?_, ?_, fun k hk => ?_⟩
  · rw [lo 1 0 12 (by decide), e12, ti_add (by omega) (by omega)]
    omega
  · rw [w46, s 40 0 46 (by decide), ti_add (by omega) (by omega)]
    omega
  have nT2 : nT T2 = nT S + 1 := by rw [← nT1]; exact congrArg (fun z => z.2.1.1) F2.2
  have g2 : ∀ j : Nat, gr T2 11 0 j = if j = m then some (nT S) else gr S 11 0 j := fun j => by
    rw [gr_fx F2, gg]
    by_cases d : j = m
    · rw [if_pos ⟨rfl, rfl, d⟩, if_pos d]
    · rw [if_neg (fun q => d q.2.2), if_neg d]
  by_cases d : k = m
  · refine ⟨nT S, by rw [g2, if_pos d], ?_, hn, by omega⟩
    rw [d]
    have c0 : (ge T2 57 m 0).toInt = (c : Int) := by rw [w0]; exact hp
    have n0 : rcN T2 m 0 = c := cnNq c0
    have n12 : rcN T2 m 12 = hoN S := by unfold rcN hoN; rw [w12, s 40 0 30 (by decide)]
    refine ⟨fun j hj => ?_, ?_, fun q => ?_⟩
    · rw [eU]
      have : j = 0 ∨ j = 1 ∨ j = 2 ∨ j = 3 ∨ (4 ≤ j ∧ j < 9) ∨ j = 9 := by omega
      rcases this with rfl | rfl | rfl | rfl | h | rfl
      · exact of_toInt (by rw [y0, c0])
      · rw [y1, w1]
      · refine of_toInt ?_
        rw [y2, w2]
        unfold lgq
        by_cases d3 : oq S c (clm (glS S)).1 (clm (glS S)).2.1 = 3
        · rw [if_pos d3, if_pos d3]
        · rw [if_neg d3, if_neg d3]
      · rw [y3, w3]
      · have a := y4 j (by omega) hj
        have b := x4 (j - 4) (by omega)
        have b2 := w4 (j - 4) (by omega)
        rw [show 4 + (j - 4) = j by omega] at b b2
        rw [a, b, b2, s.env1E]
      · rw [y4 9 (by omega) (by omega), x9, w9, eu]
    · unfold RKq
      by_cases z : oq S c (clm (glS S)).1 (clm (glS S)).2.1 = 0 ∨ oq S c (clm (glS S)).1 (clm (glS S)).2.1 = 4
      · refine Or.inl ⟨by rw [w1]; exact z, of_toInt ?_⟩
        rw [w2, if_neg (fun q => by rw [q] at z; exact absurd z (by decide)), lm1]
      · refine Or.inr ⟨by rw [w1]; exact z, ?_⟩
        have nmi : ¬ mis S c := fun q => z (Or.inl (by unfold oq; rw [if_pos (mis_B q)]))
        obtain ⟨z0, z10, z11, z12, z13, z14, zc, zh, zne, zup⟩ := yT.resolve_left nmi
        obtain ⟨_, G⟩ := G
        rw [s.misE] at G
        obtain ⟨_, _, _, g45⟩ := G.resolve_left (fun q => nmi q.1)
        rw [s.upqE, ← w11] at g45
        have n11 : rcN T2 m 11 = upq S c := cnNq g45
        refine ⟨by rw [n0]; exact c0, ?_, by rw [n11]; exact g45, by rw [n0]; exact hc, by rw [n12]; exact zh, by rw [n0, n12]; exact zne, by rw [n11]; exact zup⟩
        rw [n12, w12, s 40 0 30 (by decide), ← sX 40 0 30 (by decide), ← q10]
        exact z10
    · have z : ¬ (oq S c (clm (glS S)).1 (clm (glS S)).2.1 = 0 ∨ oq S c (clm (glS S)).1 (clm (glS S)).2.1 = 4) := by rw [← w1]; exact q
      have nmi : ¬ mis S c := fun q => z (Or.inl (by unfold oq; rw [if_pos (mis_B q)]))
      have zz := yT.resolve_left nmi
      obtain ⟨_, G⟩ := G
      rw [s.misE] at G
      obtain ⟨_, g44, _, g45⟩ := G.resolve_left (fun q => nmi q.1)
      obtain ⟨_, _, g44⟩ := g44
      rw [s.upqE, ← w11] at g45
      rw [s.gLE, s.wsmE] at g44
      have n11 : rcN T2 m 11 = upq S c := cnNq g45
      rw [n0, n12, n11, w10, g44]
      unfold TYq at zz ⊢
      rw [eU, eU, eU, eU, eU, eU]
      exact zz
  · obtain ⟨t', g1, h2, h3, h4⟩ := r3 k (by omega)
    refine ⟨t', by rw [g2, if_neg d]; exact g1, TRq_ge h2 (fun j => ?_) (fun j => ?_), h3, by omega⟩
    · rw [lo 25 t' j (by decide), k25 t' j h3 h4]
    · rw [F2.1 57 k j (Wat_57 d), s 57 k j (by decide)]
end JO3
