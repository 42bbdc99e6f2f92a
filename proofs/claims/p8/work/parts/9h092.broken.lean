/-! broken: laws hold or not, both sides -/
section BRK
variable {S T V : fS} {p : Int32} {t m c : Nat} {e : Nat → Int32}
def LHq (S : fS) (t : Nat) (e : Nat → Int32) : Prop := ∃ y : Int32, nL (btx S (6 + t)) true e = .ok y ∧ ¬ y = 0
theorem LHq.iff {y : Int32} (h : nL (btx S (6 + t)) true e = .ok y) : LHq S t e ↔ ¬ y = 0 := by
  constructor
  · rintro ⟨y', h', hy⟩
    rw [h] at h'
    cases h'
    exact hy
  · exact fun q => ⟨y, h, q⟩
theorem y_holds {r : Nat} (hL : LRq V (6 + t) c) : pk (F_X3_holds (some c) r V) (fun v T => FX Wmq V T ∧ ((v = 0 ∧ ¬ LHq V t (envT V r 0)) ∨ (v = 1 ∧ LHq V t (envT V r 0)))) := by
  obtain ⟨P, hP, hE⟩ := hL
  obtain ⟨y, hy, hx⟩ := hE (envT V r 0)
  have rp : runP (envT V r 0) P = ([y], (0, 0, 0)) := hx (0, 0, 0)
  have li := LHq.iff hy
  unfold F_X3_holds
  refine pq_bd (y_run 0 hP) (fun _ U q => ?_)
  obtain ⟨FU, mU⟩ := q
  rw [rp] at mU
  refine pq_bd (y_pop mU) (fun v4 X q => ?_)
  obtain ⟨FX1, q4, _⟩ := q
  have e4 : v4 = y := q4
  refine pq_bb (fun d => pq_some ⟨FU.tr FX1, Or.inl ⟨rfl, fun q => li.1 q (e4.symm.trans d)⟩⟩) (fun d => pq_some ⟨FU.tr FX1, Or.inr ⟨rfl, li.2 (fun q => d (e4.trans q))⟩⟩)
theorem q_law {x : Int32} (RV : RI V) (hx : x.toInt = ((6 + t : Nat) : Int)) (ht : t < 3) (he : ∀ i : Nat, i < 7 → ge V 45 0 i = e i) (hy : ∃ y : Int32, nL (btx V (6 + t)) true e = .ok y) {k : Int32 → fS → Option (Int32 × fS)} {Q : Int32 → fS → Prop} (h : ∀ (v : Int32) (U : fS), RI U → FX Wt7 V U → ((v = 0 ∧ ¬ LHq V t e) ∨ (¬ v = 0 ∧ LHq V t e)) → pk (k v U) Q) : pk (bd (F_X7_reads x V) (fun _ S4 => bd (F_X7_walksLaw S4) k)) Q := by
  refine pq_bd (pq_and (s_F_X7_reads x V RV (by omega)).pk (q_reads hx)) (fun _ S4 q => ?_)
  obtain ⟨⟨R4, _⟩, F4, m4, h8, h2, h16⟩ := q
  rw [if_neg (by omega)] at h16
  have b4 : bt S4 = btx V (6 + t) := by
    rw [bt_btx R4 (by rw [h8]; exact hx) (by rw [h2, F4.1 44 0 _ rfl]), btx.fx F4 rfl (fun _ => rfl)]
  have hN : NMq S4 (btx V (6 + t)) true e := ⟨b4, fun i hi => by rw [m4]; exact he i hi, by rw [h16]; decide⟩
  obtain ⟨y, hy⟩ := hy
  have li := LHq.iff hy
  refine pq_bd (pq_and (s_F_X7_walksLaw S4 R4).pk (pq_and (q_walksLaw R4 hN) (w_F_X7_walksLaw (W := W8) rfl rfl rfl rfl FX.rf).go)) (fun v U q => ?_)
  obtain ⟨⟨RU, _⟩, q1, FU⟩ := q
  rw [hy] at q1
  have ev : v = y := q1.2
  refine h v U RU (F4.tr (FU.sub W8_t)) ?_
  by_cases d : v = 0
  · exact Or.inl ⟨d, fun q => li.1 q (ev.symm.trans d)⟩
  · exact Or.inr ⟨d, li.2 (fun q => d (ev.trans q))⟩
/-- the names of a record, of the next try -/
def envB (S : fS) (k i : Nat) : Int32 := if i = 0 then ge S 57 k 4 else if i = 1 then ge S 57 k 5 else if i = 2 then ge S 57 k 6 else if i = 3 then ge S 57 k 7 else if i = 4 then ge S 57 k 8 else if i = 5 then 0 else ge S 57 k 9
def envC (S : fS) (x : Int32) (i : Nat) : Int32 := if i < 6 then env1 S 0 i else x
def canb (u : Int32) : Int32 := if u = -1 then 0 else 1
def BPq (S : fS) (t m k : Nat) : Prop := (k < m → LHq S t (envB S k)) ∧ (k = m → ∃ u : Int32, CAN (PAq S false) u ∧ LHq S t (envC S (canb u)))
theorem BPq.rec {k : Nat} (hk : k < m) : BPq S t m k ↔ LHq S t (envB S k) := ⟨fun h => h.1 hk, fun h => ⟨fun _ => h, fun e => absurd e (by omega)⟩⟩
theorem BPq.nxt {u : Int32} (hu : CAN (PAq S false) u) : BPq S t m m ↔ LHq S t (envC S (canb u)) := ⟨fun h => by
  obtain ⟨u', h1, h2⟩ := h.2 rfl
  rw [CAN.un hu h1]
  exact h2, fun h => ⟨fun q => absurd q (Nat.lt_irrefl _), fun _ => ⟨u, hu, h⟩⟩⟩
theorem btx_w {W : Nat → Nat → Nat → Bool} (F : FX W S V) (h44 : ∀ t : Nat, W 44 0 t = false) (h43 : ∀ t k : Nat, W 43 t k = false) : LHq V t e = LHq S t e := by
  unfold LHq
  rw [btx.fx F (h44 _) (h43 _)]
theorem btx_sr (s : SRq S V) : LHq V t e = LHq S t e := by
  unfold LHq
  rw [s.btxE]
theorem envB_T {r k : Nat} (h : TRq S r k) : envT S r 0 = envB S k := by
  funext i
  unfold envT envB
  rw [h.1 4 (by decide), h.1 5 (by decide), h.1 6 (by decide), h.1 7 (by decide), h.1 8 (by decide), h.1 9 (by decide)]
theorem y6_broken (h : IV S) (hm : (ge S 40 0 46).toInt = (m : Int)) : pk (F_X6_broken p S) (fun r T => FX (WscR 0) S T ∧ ((r.1 = 3 ∧ ¬ ie p (ge S 40 0 14)) ∨ (r.1 = 0 ∧ ie p (ge S 40 0 14) ∧ ∃ t : Nat, p.toInt = (t : Int) ∧ FNO (BPq S t m) (m + 1) r.2))) := by
  have l0 : (0 : Int32).toInt = 0 := by decide
  obtain ⟨H, hO, B, N, hP, hI, hs, hR, _⟩ := h.2.2.2.1
  have hR' := hR
  obtain ⟨m', m200, r1, r2, r3⟩ := hR
  have em : m' = m := by omega
  rw [em] at m200 r1 r3
  obtain ⟨ml, ml3, p7, p14, lg⟩ := hP.2
  unfold F_X6_broken
  refine pq_iv fun x29 e29 => pg_el (by rw [e29, p7]; omega) (fun hc => ?_) (fun hc => ⟨FX.rf, Or.inl ⟨rfl, fun q => hc ⟨q.1, by rw [e29, p7, ← p14]; exact q.2⟩⟩⟩)
  have hc' : ie p (ge S 40 0 14) := ⟨hc.1, by have := hc.2; rw [e29, p7] at this; rw [p14]; exact this⟩
  obtain ⟨t, hp⟩ : ∃ t : Nat, p.toInt = (t : Int) := ⟨p.toInt.toNat, by have := hc.1; omega⟩
  have ht : t < ml := by have := hc'.2; rw [hp, p14] at this; omega
  obtain ⟨c, gc, hL⟩ := lg t ht
  have lV : ∀ V : fS, FX (WscR 0) S V → LRq V (6 + t) c := fun V F => hL.fx F rfl (fun _ => rfl) (fun _ => rfl)
  refine pq_lp (fun (y : Int32 × Int32) V => y.1 = p ∧ FX (WscR 0) S V ∧ ∃ i : Nat, y.2.toInt = (i : Int) ∧ i ≤ m ∧ ∀ k : Nat, k < i → BPq S t m k) (fun _ _ (r : Nat × Int32) T => FX (WscR 0) S T ∧ ((r.1 = 3 ∧ ¬ ie p (ge S 40 0 14)) ∨ (r.1 = 0 ∧ ie p (ge S 40 0 14) ∧ ∃ t : Nat, p.toInt = (t : Int) ∧ FNO (BPq S t m) (m + 1) r.2))) ?_ fuel (p, 0) S ⟨rfl, FX.rf, 0, l0, Nat.zero_le _, fun k hk => absurd hk (Nat.not_lt_zero _)⟩
  intro k2 hk2 y V hy
  obtain ⟨a1, a2⟩ := y
  obtain ⟨f1, FV, i, i1, i2, i3⟩ := hy
  dsimp only at f1 i1
  subst f1
  have RCV : ∀ k : Nat, k < m → ∃ u : Nat, gr V 11 0 k = some u ∧ TRq V u k ∧ 1 ≤ u := fun k hk => by
    obtain ⟨u, g1, g2, g3, _⟩ := r3 k hk
    refine ⟨u, by rw [gr_fx FV]; exact g1, g2.fx FV (fun j => ?_) (fun j => rfl), g3⟩
    show ((true && Nat.beq u 0) || false) = false
    rw [beq_out (by omega : u ≠ 0)]
    rfl
  unfold B_X6_broken_10
  dsimp only
  refine pq_iv fun x12 e12 => ?_
  rw [FV.1 1 0 12 rfl] at e12
  refine pq_le (fun c0 => ?_) (fun c0 => ?_)
  · have eim : i = m := by rw [e12, r1] at c0; omega
    rw [eim] at i1 i3
    have sV : SRq S V := FV.sr Ws_r
    have g1 : ∀ j : Nat, ge V 1 0 j = ge S 1 0 j := fun j => FV.1 1 0 j rfl
    have BV : BVq V 0 := sV.BV B (fun a j ha => FV.1 a 0 j (Ws_l a 0 j ha))
    have NV : NBq V 0 := sV.NB N g1
    have PV : PGq V := hP.fx FV rfl rfl rfl rfl (fun _ => rfl) (fun _ _ => rfl) (fun _ _ => rfl)
    refine pq_bd (y_leastPaying (all := false) (sV.HV H) (sV.HO hO) BV NV PV (sV.IF (g1 6) hI) rfl) (fun v14 U q => ?_)
    obtain ⟨FU, cU⟩ := q
    rw [sV.PAE] at cU
    have GU : FX (WscR 0) S U := FV.tr FU
    have go : ∀ x : Int32, x = canb v14 → pk (B_X6_broken_67 a1 x U) (fun r T => FX (WscR 0) S T ∧ ((r.1 = 3 ∧ ¬ ie a1 (ge S 40 0 14)) ∨ (r.1 = 0 ∧ ie a1 (ge S 40 0 14) ∧ ∃ t : Nat, a1.toInt = (t : Int) ∧ FNO (BPq S t m) (m + 1) r.2))) := by
      intro x hx
      unfold B_X6_broken_67
      refine pq_bd (y_nameNext (b := 0)) (fun _ X q => ?_)
      obtain ⟨FX1, k4, k5, k6, k7, k8⟩ := q
      have GX : FX (WscR 0) S X := GU.tr (FX1.sub Wn_s)
      refine pq_sv fun S4 E4 => ?_
      have G4 : FX (WscR 0) S S4 := by rw [E4]; exact GX.wr rfl
      have s4 : SRq S S4 := G4.sr Ws_r
      rw [cnNq hp]
      refine pq_gd fun _ => pq_qv fun o6 e6 => ?_
      rw [e6, gr_fx G4, gc]
      have ee : envT S4 0 0 = envC S x := by
        have z := envT_1 (S := S) (U := S4) (r := 0) (lot := 0) N (by rw [E4, ge_puj (by decide), k4, GU.1 1 0 7 rfl]) (by rw [E4, ge_puj (by decide), k5, GU.1 1 0 8 rfl]) (by rw [E4, ge_puj (by decide), k6, GU.1 1 0 9 rfl, GU.1 1 0 3 rfl]) (by rw [E4, ge_puj (by decide), k7, GU.1 1 0 10 rfl]) (by rw [E4, ge_puj (by decide), k8, GU.1 1 0 4 rfl])
        funext i
        unfold envC
        by_cases d : i < 6
        · rw [if_pos d]; exact z i d
        · rw [if_neg d]
          unfold envT
          rw [if_neg (by omega), if_neg (by omega), if_neg (by omega), if_neg (by omega), if_neg (by omega), if_neg (by omega), E4, ge_pus]
      refine pq_bd (y_holds (lV S4 G4)) (fun v7 Z q => ?_)
      obtain ⟨FZ, q⟩ := q
      rw [ee, btx_sr s4] at q
      have GZ : FX (WscR 0) S Z := G4.tr (FZ.sub Wm_s)
      have bn := BPq.nxt (t := t) (m := m) cU
      rw [← hx] at bn
      rcases q with ⟨q1, q2⟩ | ⟨q1, q2⟩
      · refine pq_bb (fun _ => pq_iv fun x11 e11 => pq_some ⟨GZ, Or.inr ⟨rfl, hc', t, hp, Or.inr ⟨m, by omega, by rw [e11, GZ.1 1 0 12 rfl]; exact r1, fun w => q2 (bn.1 w), i3⟩⟩⟩) (fun e => absurd q1 e)
      · refine pq_bb (fun e => absurd (q1.symm.trans e) (by decide)) (fun _ => pq_some ⟨GZ, Or.inr ⟨rfl, hc', t, hp, Or.inl ⟨rfl, fun k hk => ?_⟩⟩⟩)
        by_cases d : k = m
        · rw [d]; exact bn.2 q2
        · exact i3 k (by omega)
    refine pq_bb (fun d => go 0 ?_) (fun d => go 1 ?_)
    · unfold canb; rw [if_pos d]
    · unfold canb; rw [if_neg d]
  · rw [e12, r1] at c0
    have him : i < m := by omega
    obtain ⟨u, g1, g2, g3⟩ := RCV i him
    rw [cnNq hp]
    refine pq_gd fun _ => pq_qv fun o19 e19 => ?_
    rw [e19, gr_fx FV, gc]
    refine pq_bd (y_recordAt i1 (by omega) g1) (fun v20 X q => ?_)
    obtain ⟨rfl, rfl⟩ := q
    refine pq_gd fun _ => pq_bd (y_holds (lV V FV)) (fun v24 Z q => ?_)
    obtain ⟨FZ, q⟩ := q
    have sV : SRq S V := FV.sr Ws_r
    have eB : envB V i = envB S i := by
      funext j
      unfold envB
      rw [sV 57 i 4 (by decide), sV 57 i 5 (by decide), sV 57 i 6 (by decide), sV 57 i 7 (by decide), sV 57 i 8 (by decide), sV 57 i 9 (by decide)]
    rw [envB_T g2, eB, btx_sr sV] at q
    have GZ : FX (WscR 0) S Z := FV.tr (FZ.sub Wm_s)
    have bn := BPq.rec (S := S) (t := t) him
    rcases q with ⟨q1, q2⟩ | ⟨q1, q2⟩
    · exact pq_bb (fun _ => pq_some ⟨GZ, Or.inr ⟨rfl, hc', t, hp, Or.inr ⟨i, by omega, i1, fun w => q2 (bn.1 w), i3⟩⟩⟩) (fun e => absurd q1 e)
    · refine pq_bb (fun e => absurd (q1.symm.trans e) (by decide)) (fun _ => pq_iv fun x28 e28 => ?_)
      have g28 : x28.toInt = a2.toInt + 1 := by rw [e28]; exact ti_inc (by omega)
      refine hk2 (a1, x28) Z ⟨rfl, GZ, i + 1, by dsimp only; omega, by omega, fun k hk => ?_⟩
      by_cases d : k = i
      · rw [d]; exact bn.2 q2
      · exact i3 k (by omega)
/-! the reference -/
theorem TLq_cn {lot : Int32} {g : G3} (F : FX Wcn S T) : TLq T lot g = TLq S lot g := by
  have F' : FX Wcn T S := ⟨fun a i j q => (F.1 a i j q).symm, F.2.symm⟩
  unfold TLq
  rw [F.1 40 0 15 rfl, env1_cn F]
  exact propext ⟨fun q => q.fx F' (fun _ => rfl) (fun _ _ => rfl), fun q => q.fx F (fun _ => rfl) (fun _ _ => rfl)⟩
theorem PAq_cn {all : Bool} (F : FX Wcn S T) : PAq T all = PAq S all := by
  have e : tlS T = tlS S := funext fun lot => by
    unfold tlS
    congr 1
    funext g
    exact TLq_cn F
  have e1 : grS T = grS S := funext fun lot => by unfold grS; rw [e]
  have e2 : slS T = slS S := funext fun lot => by unfold slS; rw [e]
  have e3 : loS T = loS S := by unfold loS; rw [e]
  have e4 : ∀ c lot : Nat, PYq T c lot = PYq S c lot := fun c lot => by unfold PYq; rw [e1, e2, (SRc F _ _ c).1]
  funext c
  unfold PAq
  rw [e3]
  simp only [e4]
theorem q_br125 {a1 a2 a3 : Int32} {Q : Int32 → fS → Prop} {k36 : (Int32 × Int32) → fS → Option (Int32 × fS)} (RV : RI V) (FV : FX Wcn S V) (hp : a1.toInt = (t : Int)) (ht : t < 3) (he : ∀ i : Nat, i < 6 → ge V 45 0 i = e i) (h6 : a3 = e 6) (hy : ∃ y : Int32, nL (btx S (6 + t)) true e = .ok y) (h0 : ∀ U : fS, FX Wcn S U → ¬ LHq S t e → Q a2 U) (h1 : ∀ U : fS, RI U → FX Wcn S U → LHq S t e → pk (k36 (a1, a2 + Int32.ofInt 1) U) Q) : pk (B_X7_broken_125 k36 a1 a2 a3 V) Q := by
  have c6 : (6 : Int32).toNatClampNeg = 6 := by decide
  have l6 : (6 : Int32).toInt = 6 := by decide
  unfold B_X7_broken_125
  rw [c6]
  refine pq_sv fun S1 E1 => pq_iv fun x2 e2 => ?_
  have R1 : RI S1 := by rw [E1]; exact RV.wf rfl
  have F1 : FX Wcn S S1 := by rw [E1]; exact FV.wr rfl
  have g2 : x2.toInt = ((6 + t : Nat) : Int) := by rw [e2, ti_add (by omega) (by omega), l6, hp]; omega
  have en : ∀ i : Nat, i < 7 → ge S1 45 0 i = e i := fun i hi => by
    by_cases d : i = 6
    · rw [E1, d, ge_pus, h6]
    · rw [E1, ge_puj d]; exact he i (by omega)
  have el : LHq S1 t e = LHq S t e := btx_w F1 (fun _ => rfl) (fun _ _ => rfl)
  refine q_law R1 g2 ht en (by rw [btx.fx F1 rfl (fun _ => rfl)]; exact hy) (fun v U RU FU q => ?_)
  rw [el] at q
  have GU : FX Wcn S U := F1.tr (FU.sub Wt7_c)
  rcases q with ⟨q1, q2⟩ | ⟨q1, q2⟩
  · exact pq_bb (fun _ => pq_some (h0 U GU q2)) (fun d => absurd q1 d)
  · exact pq_bb (fun d => absurd d q1) (fun _ => pq_iv fun x10 e10 => by rw [e10]; exact h1 U RU GU q2)
theorem br125L : B_X7_broken_125L = B_X7_broken_125 := rfl
theorem br87L : B_X7_broken_87L = B_X7_broken_87 := rfl
theorem br78L : B_X7_broken_78L = B_X7_broken_78 := rfl
/-- the names, from the record or not -/
theorem q_br78 {a1 a2 a3 : Int32} {i : Nat} {Q : Int32 → fS → Prop} {k36 : (Int32 × Int32) → fS → Option (Int32 × fS)} (RV : RI V) (FV : FX Wcn S V) (hm : (ge S 40 0 46).toInt = (m : Int)) (m200 : m ≤ 200) (hi : a2.toInt = (i : Int)) (him : i ≤ m) (hp : a1.toInt = (t : Int)) (ht : t < 3) (he : (i < m ∧ e = envB S i ∧ a3 = ge S 57 i 9) ∨ (i = m ∧ e = envC S a3)) (hy : ∃ y : Int32, nL (btx S (6 + t)) true e = .ok y) (h0 : ∀ U : fS, FX Wcn S U → ¬ LHq S t e → Q a2 U) (h1 : ∀ U : fS, RI U → FX Wcn S U → LHq S t e → pk (k36 (a1, a2 + Int32.ofInt 1) U) Q) : pk (B_X7_broken_78 k36 a1 a2 a3 V) Q := by
  have l0 : (0 : Int32).toInt = 0 := by decide
  have l4 : (4 : Int32).toInt = 4 := by decide
  have l5 : (5 : Int32).toInt = 5 := by decide
  unfold B_X7_broken_78
  refine pq_bd (pq_and (pq_and (s_F_X7_namesOf 1 V RV).pk (q_names1 0)) (q_namesOf 1)) (fun _ X q => ?_)
  obtain ⟨⟨⟨RX, _⟩, FX1, nX, _⟩, _, _, _, _, _, _, n5, _⟩ := q
  have GX : FX Wcn S X := FV.tr (FX1.sub (fun a i j h => W45_t a i j (Wt7_c a i j h)))
  have eX : ∀ l : Nat, l < 5 → ge X 45 0 l = env1 S 0 l := fun l hl => by
    have z := nX l (by omega)
    unfold envN at z
    rw [if_neg (by omega), env1_cn FV] at z
    exact z
  refine pq_lp (fun (y : Int32 × Int32 × Int32 × Int32) U => y.1 = a1 ∧ y.2.1 = a2 ∧ y.2.2.1 = a3 ∧ RI U ∧ FX Wcn S U ∧ ge U 45 0 5 = 0 ∧ ∃ j : Nat, y.2.2.2.toInt = (j : Int) ∧ j ≤ 5 ∧ (i = m → j = 0 ∧ ∀ l : Nat, l < 5 → ge U 45 0 l = env1 S 0 l) ∧ (i < m → ∀ l : Nat, l < j → ge U 45 0 l = ge S 57 i (4 + l))) (fun _ _ (v : Int32) U => Q v U) ?_ fuel (a1, a2, a3, 0) X ⟨rfl, rfl, rfl, RX, GX, n5, 0, l0, by omega, fun _ => ⟨rfl, eX⟩, fun _ l hl => absurd hl (Nat.not_lt_zero _)⟩
  intro k hk y U hy2
  obtain ⟨b1, b2, b3, b4⟩ := y
  obtain ⟨f1, f2, f3, RU, FU, u5, j, j1, j2, j3, j4⟩ := hy2
  dsimp only at f1 f2 f3 j1
  subst f1
  subst f2
  subst f3
  have fin : (i = m ∨ j = 5) → pk (B_X7_broken_125 k36 b1 b2 b3 U) Q := by
    intro hj
    rcases he with ⟨d, e1, e2⟩ | ⟨d, e1⟩
    · have j5 : j = 5 := by omega
      refine q_br125 RU FU hp ht (fun l hl => ?_) ?_ hy h0 h1
      · rw [e1]
        by_cases d5 : l = 5
        · rw [d5, u5]; rfl
        · rw [j4 d l (by omega)]
          have : l = 0 ∨ l = 1 ∨ l = 2 ∨ l = 3 ∨ l = 4 := by omega
          rcases this with rfl | rfl | rfl | rfl | rfl <;> rfl
      · rw [e1, e2]; rfl
    · refine q_br125 RU FU hp ht (fun l hl => ?_) ?_ hy h0 h1
      · rw [e1]
        unfold envC
        rw [if_pos hl]
        by_cases d5 : l = 5
        · rw [d5, u5]; rfl
        · exact (j3 d).2 l (by omega)
      · rw [e1]; rfl
  unfold B_X7_broken_87
  dsimp only
  refine pq_le (fun c0 => fin (Or.inr (by omega))) (fun c0 => pq_iv fun x e => ?_)
  rw [FU.1 40 0 46 rfl] at e
  refine pq_le (fun c1 => fin (Or.inl (by rw [e, hm] at c1; omega))) (fun c1 => ?_)
  rw [e, hm] at c1
  have hi2 : i < m := by omega
  refine pq_gd fun _ => pq_iv fun x15 e15 => pq_gd fun _ => pq_iv fun x17 e17 => pq_gd fun _ => pq_sv fun S19 E19 => pq_iv fun x20 e20 => ?_
  have g15 : x15.toInt = ((4 + j : Nat) : Int) := by rw [e15, ti_add (by omega) (by omega), l4, j1]; omega
  rw [cnNq hi, cnNq g15, FU.1 57 i (4 + j) rfl] at e17
  rw [cnNq j1] at E19
  have g20 : x20.toInt = b4.toInt + 1 := by rw [e20]; exact ti_inc (by omega)
  refine hk (b1, b2, b3, x20) S19 ⟨rfl, rfl, rfl, by rw [E19]; exact RU.wf rfl, by rw [E19]; exact FU.wr rfl, by rw [E19, ge_puj (by omega)]; exact u5, j + 1, by dsimp only; omega, by omega, fun d => absurd d (by omega), fun d l hl => ?_⟩
  by_cases dl : l = j
  · rw [E19, dl, ge_pus, e17]
  · rw [E19, ge_puj dl]; exact j4 d l (by omega)
theorem q7_broken (RT : RI T) (hL : RLv T) (z : ge T 40 0 0 = 0) (hm : (ge T 40 0 46).toInt = (m : Int)) : pk (F_X7_broken p T) (fun v U => FX WX T U ∧ ((ge U 40 0 0 = 1 ∧ ¬ ie p (ge T 40 0 14)) ∨ (ge U 40 0 0 = 0 ∧ ie p (ge T 40 0 14) ∧ ∃ t : Nat, p.toInt = (t : Int) ∧ FNO (BPq T t m) (m + 1) v))) := by
  have l0 : (0 : Int32).toInt = 0 := by decide
  obtain ⟨H, hO, B, N, hP, hI, hs, hR, _⟩ := hL.1
  obtain ⟨m', m200, r1, r2, r3⟩ := hR
  have em : m' = m := by omega
  rw [em] at m200
  obtain ⟨ml, ml3, p7, p14, lg⟩ := hP.2
  have h14 : 0 ≤ (ge T 40 0 14).toInt := (RT 40 0 14).1
  unfold F_X7_broken
  refine pg7_0 z (pq_iv fun x e => pq_iv fun y ey => pg7_el (n := x) (by rw [e]; exact h14) ey (fun c1 => pg_b1 ?_) (fun c1 => pg_b0 ?_))
  · rw [e] at c1
    obtain ⟨t, hp⟩ : ∃ t : Nat, p.toInt = (t : Int) := ⟨p.toInt.toNat, by have := c1.1; omega⟩
    have ht : t < ml := by have := c1.2; rw [hp, p14] at this; omega
    obtain ⟨c, gc, P, _, hE⟩ := lg t ht
    have hy : ∀ env : Nat → Int32, ∃ y : Int32, nL (btx T (6 + t)) true env = .ok y := fun env => by
      obtain ⟨y, q, _⟩ := hE env
      exact ⟨y, q⟩
    have zz : ∀ U : fS, FX Wcn T U → ge U 40 0 0 = 0 := fun U FU => by rw [FU.1 40 0 0 rfl]; exact z
    unfold B_X7_broken_25
    refine pg7_ok z ?_
    refine pq_lp (fun (y : Int32 × Int32) V => y.1 = p ∧ RI V ∧ FX Wcn T V ∧ ∃ i : Nat, y.2.toInt = (i : Int) ∧ i ≤ m ∧ ∀ k : Nat, k < i → BPq T t m k) (fun _ _ (v : Int32) U => FX WX T U ∧ ((ge U 40 0 0 = 1 ∧ ¬ ie p (ge T 40 0 14)) ∨ (ge U 40 0 0 = 0 ∧ ie p (ge T 40 0 14) ∧ ∃ t : Nat, p.toInt = (t : Int) ∧ FNO (BPq T t m) (m + 1) v))) ?_ fuel (p, 0) T ⟨rfl, RT, FX.rf, 0, l0, Nat.zero_le _, fun k hk => absurd hk (Nat.not_lt_zero _)⟩
    intro k2 hk2 y V hy2
    obtain ⟨a1, a2⟩ := y
    obtain ⟨f1, RV, FV, i, i1, i2, i3⟩ := hy2
    dsimp only at f1 i1
    subst f1
    have fin : ∀ (v : Int32) (U : fS), FX Wcn T U → FNO (BPq T t m) (m + 1) v → FX WX T U ∧ ((ge U 40 0 0 = 1 ∧ ¬ ie a1 (ge T 40 0 14)) ∨ (ge U 40 0 0 = 0 ∧ ie a1 (ge T 40 0 14) ∧ ∃ t : Nat, a1.toInt = (t : Int) ∧ FNO (BPq T t m) (m + 1) v)) := fun v U FU h => ⟨FU.sub WX_cn, Or.inr ⟨zz U FU, c1, t, hp, h⟩⟩
    unfold B_X7_broken_36
    dsimp only
    refine pq_iv fun x53 e53 => pq_lt (fun q => absurd q (by rw [e53, FV.1 40 0 46 rfl, hm]; omega)) (fun _ => pq_iv fun x55 e55 => ?_)
    rw [FV.1 40 0 46 rfl] at e55
    refine pq_le (fun c0 => ?_) (fun c0 => ?_)
    · have eim : i = m := by rw [e55, hm] at c0; omega
      rw [eim] at i1 i3
      obtain ⟨_, H1, O1, _⟩ := SRc FV 0 0 0
      have PV : PGq V := hP.fx FV rfl rfl rfl rfl (fun _ => rfl) (fun _ _ => rfl) (fun _ _ => rfl)
      have IV' : IFq V := ⟨by rw [FV.1 1 0 6 rfl, FV.1 40 0 15 rfl]; exact hI.1, by rw [FV.1 40 0 15 rfl]; exact hI.2.1, by rw [FV.1 40 0 15 rfl, FV.1 40 0 13 rfl]; exact hI.2.2⟩
      refine pq_bd (pq_and (s_F_X7_canNow 0 V RV ⟨by decide, by decide⟩).pk (q_canNow (all := false) RV (H1 H) (O1 hO) PV IV' rfl)) (fun v57 U q => ?_)
      obtain ⟨⟨RU, _⟩, FU, cU⟩ := q
      have GU : FX Wcn T U := FV.tr FU
      have cT : CAN (PAq T false) v57 := by
        have e : PAq V false = PAq T false := PAq_cn FV
        rw [← e]
        exact cU
      have bn := BPq.nxt (t := t) (m := m) cT
      have go : ∀ x : Int32, x = canb v57 → pk (B_X7_broken_78L (lp (B_X7_broken_36L) fuel) a1 a2 x U) (fun v U => FX WX T U ∧ ((ge U 40 0 0 = 1 ∧ ¬ ie a1 (ge T 40 0 14)) ∨ (ge U 40 0 0 = 0 ∧ ie a1 (ge T 40 0 14) ∧ ∃ t : Nat, a1.toInt = (t : Int) ∧ FNO (BPq T t m) (m + 1) v))) := by
        intro x hx
        rw [← hx] at bn
        rw [br78L]
        refine q_br78 (S := T) (e := envC T x) RU GU hm m200 i1 (Nat.le_refl _) hp (by omega) (Or.inr ⟨rfl, rfl⟩) (hy _) (fun W FW q => fin a2 W FW (Or.inr ⟨m, by omega, i1, fun w => q (bn.1 w), i3⟩)) (fun W RW FW q => ?_)
        refine pq_lp (fun (y : Int32 × Int32) X => FX Wcn T X ∧ (m : Int) < y.2.toInt) (fun _ _ (v : Int32) U => FX WX T U ∧ ((ge U 40 0 0 = 1 ∧ ¬ ie a1 (ge T 40 0 14)) ∨ (ge U 40 0 0 = 0 ∧ ie a1 (ge T 40 0 14) ∧ ∃ t : Nat, a1.toInt = (t : Int) ∧ FNO (BPq T t m) (m + 1) v))) ?_ fuel (a1, a2 + Int32.ofInt 1) W ⟨FW, by dsimp only; rw [ti_inc (by omega)]; omega⟩
        intro k3 hk3 y3 X hy3
        obtain ⟨b1, b2⟩ := y3
        obtain ⟨FX3, g3⟩ := hy3
        dsimp only at g3
        unfold B_X7_broken_36L
        dsimp only
        refine pq_iv fun x24 e24 => pq_lt (fun _ => pq_some (fin (-1) X FX3 (Or.inl ⟨rfl, fun k hk => ?_⟩))) (fun q => absurd q (by rw [e24, FX3.1 40 0 46 rfl, hm]; omega))
        by_cases d : k = m
        · rw [d]; exact bn.2 q
        · exact i3 k (by omega)
      refine pq_bb (fun d => go 0 ?_) (fun d => go 1 ?_)
      · unfold canb; rw [if_pos d]
      · unfold canb; rw [if_neg d]
    · rw [e55, hm] at c0
      have him : i < m := by omega
      have bn := BPq.rec (S := T) (t := t) him
      have c9 : (9 : Int32).toNatClampNeg = 9 := by decide
      refine pq_gd fun _ => pq_iv fun x62 e62 => ?_
      rw [cnNq i1, c9, FV.1 57 i 9 rfl] at e62
      refine q_br78 (S := T) (e := envB T i) RV FV hm m200 i1 i2 hp (by omega) (Or.inl ⟨him, rfl, e62⟩) (hy _) (fun W FW q => fin a2 W FW (Or.inr ⟨i, by omega, i1, fun w => q (bn.1 w), i3⟩)) (fun W RW FW q => ?_)
      have g1 : (a2 + Int32.ofInt 1).toInt = a2.toInt + 1 := ti_inc (by omega)
      refine hk2 (a1, a2 + Int32.ofInt 1) W ⟨rfl, RW, FW, i + 1, by dsimp only; omega, by omega, fun k hk => ?_⟩
      by_cases d : k = i
      · rw [d]; exact bn.2 q
      · exact i3 k (by omega)
  · rw [e] at c1
    unfold B_X7_broken_25
    exact pg7_no z (by decide) (pq_some ⟨FX.rf.wr rfl, Or.inl ⟨ge_pus, c1⟩⟩)
theorem rk_broken (h : IV S) (z : ge S 40 0 0 = 0) : RK (fun ec => if ec = 0 then 0 else 1) (F_X6_broken p S) (F_X7_broken p) := by
  obtain ⟨m, hm⟩ : ∃ m : Nat, (ge S 40 0 46).toInt = (m : Int) := by
    obtain ⟨_, _, _, _, _, _, _, ⟨m, _, _, r2, _⟩, _⟩ := h.2.2.2.1
    exact ⟨m, r2⟩
  refine rk_mk (A := fun ec v => (ec = 3 ∧ ¬ ie p (ge S 40 0 14)) ∨ (ec = 0 ∧ ie p (ge S 40 0 14) ∧ ∃ t : Nat, p.toInt = (t : Int) ∧ FNO (BPq S t m) (m + 1) v)) (C := fun ec v => (ec = 1 ∧ ¬ ie p (ge S 40 0 14)) ∨ (ec = 0 ∧ ie p (ge S 40 0 14) ∧ ∃ t : Nat, p.toInt = (t : Int) ∧ FNO (BPq S t m) (m + 1) v)) h z (s_F_X6_broken p S h.1 h.2.1) (fun _ _ q => q.1) (y6_broken h hm) (fun T RT F hL zT => ?_) (fun ec v t' v2 a c => ?_)
  · have s1 : SRq S T := F.sr Ws_r
    refine pq_imp (q7_broken (m := m) RT hL zT (by rw [s1 40 0 46 (by decide)]; exact hm)) (fun v U q => ⟨q.1, ?_⟩)
    have q2 := q.2
    have eo : ∀ t : Nat, BPq T t m = BPq S t m := fun t => funext fun k => by
      have eb : envB T k = envB S k := by
        funext j
        unfold envB
        rw [s1 57 k 4 (by decide), s1 57 k 5 (by decide), s1 57 k 6 (by decide), s1 57 k 7 (by decide), s1 57 k 8 (by decide), s1 57 k 9 (by decide)]
      have ec : ∀ x : Int32, envC T x = envC S x := fun x => by
        funext j
        unfold envC
        rw [s1.env1E]
      unfold BPq
      rw [eb, btx_sr s1, s1.PAE]
      simp only [ec, btx_sr s1]
    rw [s1 40 0 14 (by decide)] at q2
    simp only [eo] at q2
    exact q2
  · rcases a with ⟨a1, a2⟩ | ⟨a1, a2, k, a3, a4⟩ <;> rcases c with ⟨c1, c2⟩ | ⟨c1, c2, k', c3, c4⟩
    · exact ⟨by rw [a1, c1]; rfl, fun q => by omega⟩
    · exact absurd c2 a2
    · exact absurd a2 c2
    · have ek : k' = k := by omega
      rw [ek] at c4
      exact ⟨by rw [a1, c1]; rfl, fun _ => a4.un c4⟩
end BRK
