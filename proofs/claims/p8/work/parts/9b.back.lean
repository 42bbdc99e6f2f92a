/-! the pure part: the reference, laid back; tries on what is laid back -/
section BCK
variable {S T U : fS}
def BK (S T : fS) (k0 : Nat) : Prop := (∀ c i : Nat, c < 64 → i < 24 → ge T 53 c i = ge S 61 (64 * k0 + c) i) ∧ (∀ c : Nat, c < 64 → ge T 54 0 c = ge S 63 k0 c) ∧ ∀ t : Nat, t < 24 → ge T 50 0 t = ge S 65 k0 t
def BI (S T : fS) (k0 : Nat) (c : Int) : Prop := RI T ∧ Fr 16842752 S T ∧ (∀ c' i : Nat, (c' : Int) < c → i < 24 → ge T 53 c' i = ge S 61 (64 * k0 + c') i) ∧ ∀ c' : Nat, (c' : Int) < c → ge T 54 0 c' = ge S 63 k0 c'
theorem h7_back65 (p1 : Int32) (S : fS) (hp : 0 ≤ p1.toInt ∧ p1.toInt ≤ 3) (T0 : fS) (h : BI S T0 p1.toNatClampNeg 64) : zk (lp (B_X7_laysBack_65) fuel (p1, 0) T0) (fun _ T => RI T ∧ Fr 16842752 S T ∧ BK S T p1.toNatClampNeg) := by
  have l0 : (0 : Int32).toInt = 0 := by decide
  have l24 : (24 : Int32).toInt = 24 := by decide
  refine zk_lp (fun (z : Int32 × Int32) T => z.1 = p1 ∧ 0 ≤ z.2.toInt ∧ z.2.toInt ≤ 24 ∧ BI S T p1.toNatClampNeg 64 ∧ ∀ t : Nat, (t : Int) < z.2.toInt → ge T 50 0 t = ge S 65 p1.toNatClampNeg t) (fun (z : Int32 × Int32) _ => (24 - z.2.toInt).toNat) (fun _ _ (_ : Int32) T => RI T ∧ Fr 16842752 S T ∧ BK S T p1.toNatClampNeg) ?_ (p1, 0) T0 ⟨rfl, by show (0 : Int) ≤ (0 : Int32).toInt; decide, by show (0 : Int32).toInt ≤ 24; decide, h, fun t q => by have q : (t : Int) < (0 : Int32).toInt := q; omega⟩ (by show (24 - (0 : Int32).toInt).toNat < 4294967296; decide)
  clear h
  intro k z T hI hk
  obtain ⟨a1, a2⟩ := z
  obtain ⟨h1, h2, h3, hL, hW⟩ := hI
  dsimp only at h1 h2 h3 hW
  subst h1
  obtain ⟨RT, FT, A, B⟩ := hL
  have hc := cn_eq h2
  unfold B_X7_laysBack_65
  dsimp only
  refine zk_le (fun c => ?_) (fun c => ?_)
  · refine zk_gd ⟨by omega, by omega⟩ ?_
    refine zk_iv fun x1 _ => ?_
    refine zk_sv fun S1 E1 => ?_
    refine zk_gd ⟨by omega, by omega⟩ ?_
    refine zk_iv fun x2 _ => ?_
    refine zk_sv fun S2 E2 => ?_
    refine zk_gd ⟨by omega, by omega⟩ ?_
    refine zk_iv fun x3 _ => ?_
    refine zk_sv fun S3 E3 => ?_
    refine zk_gd ⟨by omega, by omega⟩ ?_
    refine zk_iv fun x4 _ => ?_
    refine zk_sv fun S4 E4 => ?_
    have R1 : RI S1 := by rw [E1]; exact RT.wf rfl
    have R2 : RI S2 := by rw [E2]; exact R1.wf rfl
    have R3 : RI S3 := by rw [E3]; exact R2.wf rfl
    have R4 : RI S4 := by rw [E4]; exact R3.wf rfl
    have F1 : Fr 16842752 S S1 := by rw [E1]; exact FT.wr (k := 16) rfl rfl
    have F2 : Fr 16842752 S S2 := by rw [E2]; exact F1.wr (k := 16) rfl rfl
    have F3 : Fr 16842752 S S3 := by rw [E3]; exact F2.wr (k := 16) rfl rfl
    have F4 : Fr 16842752 S S4 := by rw [E4]; exact F3.wr (k := 16) rfl rfl
    have n : ∀ a i j : Nat, a ≠ 40 → ge S4 a i j = ge T a i j := fun a i j ha => by rw [E4, ge_pua ha, E3, ge_pua ha, E2, ge_pua ha, E1, ge_pua ha]
    refine zk_some ⟨R4, F4, fun c' i hc' hi => ?_, fun c' hc' => ?_, fun t ht => ?_⟩
    · rw [n _ _ _ (by decide)]; exact A c' i (by omega) hi
    · rw [n _ _ _ (by decide)]; exact B c' (by omega)
    · rw [n _ _ _ (by decide)]; exact hW t (by omega)
  · refine zk_gd ⟨by omega, by omega⟩ ?_
    refine zk_gd ⟨by omega, by omega⟩ ?_
    refine zk_iv fun x e => ?_
    have gx : -2 ≤ x.toInt ∧ x.toInt ≤ 63 := by rw [e]; exact RT 65 _ _
    have ex : x = ge S 65 a1.toNatClampNeg a2.toNatClampNeg := by rw [e]; exact FT.1 65 _ _ (by rw [show rgn 65 a2.toNatClampNeg = 30 from rfl]; rfl)
    refine zk_gd ⟨by omega, by omega⟩ ?_
    refine zk_sv fun V E => ?_
    refine zk_iv fun y ey => ?_
    have gy : y.toInt = a2.toInt + 1 := by rw [ey]; exact ti_inc (by omega)
    have RV : RI V := by rw [E]; exact RT.wr (show (-2 : Int) ≤ x.toInt by omega) (show x.toInt ≤ 63 by omega)
    have FV : Fr 16842752 S V := by rw [E]; exact FT.wr (k := 24) rfl rfl
    have n : ∀ a i j : Nat, a ≠ 50 → ge V a i j = ge T a i j := fun a i j ha => by rw [E, ge_pua ha]
    refine hk (a1, y) V ⟨rfl, by dsimp only; omega, by dsimp only; omega, ⟨RV, FV, fun c' i hc' hi => ?_, fun c' hc' => ?_⟩, fun t ht => ?_⟩ (by show (24 - y.toInt).toNat < (24 - a2.toInt).toNat; omega)
    · rw [n _ _ _ (by decide)]; exact A c' i hc' hi
    · rw [n _ _ _ (by decide)]; exact B c' hc'
    · dsimp only at ht
      rw [E, ge_pu]
      by_cases z : t = a2.toNatClampNeg
      · rw [if_pos ⟨rfl, rfl, z⟩, ex, z]
      · rw [if_neg (fun q => z q.2.2)]; exact hW t (by omega)
theorem h7_back10 (k2 : Int32 × Int32 → fS → Option (Int32 × fS)) (p1 c : Int32) (S : fS) (hp : 0 ≤ p1.toInt ∧ p1.toInt ≤ 3) (hcc : 0 ≤ c.toInt ∧ c.toInt ≤ 63) {Q : Int32 → fS → Prop} (hk2 : ∀ (y : Int32) (T : fS), y.toInt = c.toInt + 1 → BI S T p1.toNatClampNeg y.toInt → zk (k2 (p1, y) T) Q) (T0 : fS) (h : BI S T0 p1.toNatClampNeg c.toInt) : zk (lp (B_X7_laysBack_10 k2) fuel (p1, c, 0) T0) Q := by
  have l0 : (0 : Int32).toInt = 0 := by decide
  have l64 : (64 : Int32).toInt = 64 := by decide
  have l24 : (24 : Int32).toInt = 24 := by decide
  have hc0 := cn_eq hp.1
  have hc1 := cn_eq hcc.1
  refine zk_lp (fun (z : Int32 × Int32 × Int32) T => z.1 = p1 ∧ z.2.1 = c ∧ 0 ≤ z.2.2.toInt ∧ z.2.2.toInt ≤ 24 ∧ BI S T p1.toNatClampNeg c.toInt ∧ ∀ i : Nat, (i : Int) < z.2.2.toInt → ge T 53 c.toNatClampNeg i = ge S 61 (64 * p1.toNatClampNeg + c.toNatClampNeg) i) (fun (z : Int32 × Int32 × Int32) _ => (24 - z.2.2.toInt).toNat) (fun _ _ (v : Int32) T => Q v T) ?_ (p1, c, 0) T0 ⟨rfl, rfl, by show (0 : Int) ≤ (0 : Int32).toInt; decide, by show (0 : Int32).toInt ≤ 24; decide, h, fun t q => by have q : (t : Int) < (0 : Int32).toInt := q; omega⟩ (by show (24 - (0 : Int32).toInt).toNat < 4294967296; decide)
  clear h
  intro k z T hI hk
  obtain ⟨a1, a2, a3⟩ := z
  obtain ⟨h1, h2, h3, h4, hL, hW⟩ := hI
  dsimp only at h1 h2 h3 h4 hW
  subst h1
  subst h2
  obtain ⟨RT, FT, A, B⟩ := hL
  have hc := cn_eq h3
  unfold B_X7_laysBack_10
  dsimp only
  refine zk_le (fun cc => ?_) (fun cc => ?_)
  · refine zk_gd ⟨by omega, by omega⟩ ?_
    refine zk_gd ⟨by omega, by omega⟩ ?_
    refine zk_iv fun x e => ?_
    have gx : 0 ≤ x.toInt ∧ x.toInt ≤ 24 := by rw [e]; exact RT 63 _ _
    have ex : x = ge S 63 a1.toNatClampNeg a2.toNatClampNeg := by rw [e]; exact FT.1 63 _ _ (by rw [show rgn 63 a2.toNatClampNeg = 30 from rfl]; rfl)
    refine zk_gd ⟨by omega, by omega⟩ ?_
    refine zk_sv fun V E => ?_
    refine zk_iv fun y ey => ?_
    have gy : y.toInt = a2.toInt + 1 := by rw [ey]; exact ti_inc (by omega)
    have RV : RI V := by rw [E]; exact RT.wr (show (0 : Int) ≤ x.toInt by omega) (show x.toInt ≤ 24 by omega)
    have FV : Fr 16842752 S V := by rw [E]; exact FT.wr (k := 24) rfl rfl
    have n : ∀ a i j : Nat, a ≠ 54 → ge V a i j = ge T a i j := fun a i j ha => by rw [E, ge_pua ha]
    refine hk2 y V gy ⟨RV, FV, fun c' i hc' hi => ?_, fun c' hc' => ?_⟩
    · rw [n _ _ _ (by decide)]
      by_cases z : (c' : Int) < a2.toInt
      · exact A c' i z hi
      · have e9 : c' = a2.toNatClampNeg := by omega
        rw [e9]; exact hW i (by omega)
    · rw [E, ge_pu]
      by_cases z : c' = a2.toNatClampNeg
      · rw [if_pos ⟨rfl, rfl, z⟩, ex, z]
      · rw [if_neg (fun q => z q.2.2)]; exact B c' (by omega)
  · refine zk_gd ⟨by omega, by omega⟩ ?_
    refine zk_iv fun x8 e8 => ?_
    have g8 : x8.toInt = 64 * a1.toInt := by rw [e8, ti_mulc (c := 64) (by decide) (by omega) (by omega)]
    refine zk_iv fun x9 e9 => ?_
    have g9 : x9.toInt = 64 * a1.toInt + a2.toInt := by rw [e9, ti_add (by omega) (by omega), g8]
    have hc9 := cn_eq (x := x9) (by omega)
    refine zk_gd ⟨by omega, by omega⟩ ?_
    refine zk_gd ⟨by omega, by omega⟩ ?_
    refine zk_iv fun x e => ?_
    have er : x9.toNatClampNeg = 64 * a1.toNatClampNeg + a2.toNatClampNeg := by omega
    rw [er] at e
    have gx : 0 ≤ x.toInt ∧ x.toInt ≤ 23 := by rw [e]; exact RT 61 _ _
    have ex : x = ge S 61 (64 * a1.toNatClampNeg + a2.toNatClampNeg) a3.toNatClampNeg := by rw [e]; exact FT.1 61 _ _ (by rw [show rgn 61 a3.toNatClampNeg = 30 from rfl]; rfl)
    refine zk_gd ⟨by omega, by omega⟩ ?_
    refine zk_sv fun V E => ?_
    refine zk_iv fun y ey => ?_
    have gy : y.toInt = a3.toInt + 1 := by rw [ey]; exact ti_inc (by omega)
    have RV : RI V := by rw [E]; exact RT.wr (show (0 : Int) ≤ x.toInt by omega) (show x.toInt ≤ 23 by omega)
    have FV : Fr 16842752 S V := by rw [E]; exact FT.wr (k := 24) rfl rfl
    have n : ∀ a i j : Nat, a ≠ 53 → ge V a i j = ge T a i j := fun a i j ha => by rw [E, ge_pua ha]
    refine hk (a1, a2, y) V ⟨rfl, rfl, by dsimp only; omega, by dsimp only; omega, ⟨RV, FV, fun c' i hc' hi => ?_, fun c' hc' => ?_⟩, fun t ht => ?_⟩ (by show (24 - y.toInt).toNat < (24 - a3.toInt).toNat; omega)
    · rw [E, ge_pui (by omega)]; exact A c' i hc' hi
    · rw [n _ _ _ (by decide)]; exact B c' hc'
    · dsimp only at ht
      rw [E, ge_pu]
      by_cases z : t = a3.toNatClampNeg
      · rw [if_pos ⟨rfl, rfl, z⟩, ex, z]
      · rw [if_neg (fun q => z q.2.2)]; exact hW t (by omega)
theorem t7_laysBack (p1 : Int32) (S : fS) (RS : RI S) (hp : 0 ≤ p1.toInt ∧ p1.toInt ≤ 3) : zk (F_X7_laysBack p1 S) (fun _ T => RI T ∧ Fr 16842752 S T ∧ BK S T p1.toNatClampNeg) := by
  have l0 : (0 : Int32).toInt = 0 := by decide
  have l64 : (64 : Int32).toInt = 64 := by decide
  unfold F_X7_laysBack
  refine zk_lp (fun (z : Int32 × Int32) T => z.1 = p1 ∧ 0 ≤ z.2.toInt ∧ z.2.toInt ≤ 64 ∧ BI S T p1.toNatClampNeg z.2.toInt) (fun (z : Int32 × Int32) _ => (64 - z.2.toInt).toNat) (fun _ _ (_ : Int32) T => RI T ∧ Fr 16842752 S T ∧ BK S T p1.toNatClampNeg) ?_ (p1, 0) S ⟨rfl, by show (0 : Int) ≤ (0 : Int32).toInt; decide, by show (0 : Int32).toInt ≤ 64; decide, RS, Fr.rf, fun c i q _ => by have q : (c : Int) < (0 : Int32).toInt := q; omega, fun c q => by have q : (c : Int) < (0 : Int32).toInt := q; omega⟩ (by show (64 - (0 : Int32).toInt).toNat < 4294967296; decide)
  intro k z T hI hk
  obtain ⟨a1, a2⟩ := z
  obtain ⟨h1, h2, h3, hL⟩ := hI
  dsimp only at h1 h2 h3 hL
  subst h1
  unfold B_X7_laysBack_2
  dsimp only
  refine zk_le (fun c => ?_) (fun c => ?_)
  · have e : a2.toInt = 64 := by omega
    rw [e] at hL
    exact h7_back65 a1 S hp T hL
  · exact h7_back10 k a1 a2 S hp ⟨h2, by omega⟩ (fun y V gy hV => hk (a1, y) V ⟨rfl, by dsimp only; omega, by dsimp only; omega, hV⟩ (by show (64 - y.toInt).toNat < (64 - a2.toInt).toNat; omega)) T hL
/-! the heaps as they were kept are the heaps of n things -/
theorem BK.hb {k0 : Nat} {n : Int} (h : KB S k0 n) (R : RI S) (b : BK S T k0) (hn : n ≤ 24) : HBn T n := by
  obtain ⟨b1, b2, b3⟩ := b
  refine HB.cg h (fun i hi => ?_) (fun i _ => (R 65 k0 i).2) (fun c hc => ?_) (fun c i hc hi => ?_)
  · show (ge T 50 0 i).toInt = (ge S 65 k0 i).toInt
    rw [b3 i (by omega)]
  · show (ge T 54 0 c).toInt = (ge S 63 k0 c).toInt
    rw [b2 c hc]
  · show (ge T 53 c i).toInt = (ge S 61 (64 * k0 + c) i).toInt
    have hi : (i : Int) < (ge S 63 k0 c).toInt := hi
    have g : (ge S 63 k0 c).toInt ≤ 24 := (R 63 k0 c).2
    rw [b1 c i hc (by omega)]
theorem HI.lays3 (h : HI S) (R : RI S) (F : Fr 35433480192 S T) (o : OTH S T 3) : HI T := by
  have e1 : ge T 40 0 56 = ge S 40 0 56 := F.1 40 0 56 rfl
  have e2 : ge T 40 0 48 = ge S 40 0 48 := F.1 40 0 48 rfl
  have g : (ge S 40 0 56).toInt ≤ 3 := (R 40 0 56).2
  refine ⟨h.1.fr F rfl rfl, fun k q => (h.2.1 k (by rw [← e1]; exact q)).oth R o (fun e => by rw [e1] at q; omega), fun x q => ?_⟩
  rw [hsum_of (fun k => F.1 59 x k (by rw [show rgn 59 k = 18 from rfl]; rfl))]
  exact h.2.2 x (by rw [← e2]; exact q)
def K3 (S : fS) : Prop := KB S 3 (ge S 40 0 21).toInt
theorem K3.fr {m : Nat} (h : K3 S) (F : Fr m S T) (h30 : m.testBit 30 = false) (h26 : m.testBit 26 = false) : K3 T := by
  have e : ge T 40 0 21 = ge S 40 0 21 := F.1 40 0 21 h26
  unfold K3
  rw [e]
  exact KB.of h (fun a i j q => F.1 a i j (by rw [q]; exact h30))
theorem h7_back3 (S : fS) (RS : RI S) (h : HI S) (k3 : K3 S) : zk (F_X7_laysBack 3 S) (fun _ T => RI T ∧ Fr 16842752 S T ∧ HI T) := by
  have g : (ge S 40 0 21).toInt ≤ 24 := (RS 40 0 21).2
  refine zk_imp (t7_laysBack 3 S RS (by decide)) (fun _ T q => ?_)
  obtain ⟨RT, FT, b⟩ := q
  have e : ge T 40 0 21 = ge S 40 0 21 := FT.1 40 0 21 rfl
  refine ⟨RT, FT, h.hs ?_ FT rfl⟩
  have hb := BK.hb (k0 := 3) k3 RS b g
  unfold HSm
  rw [e]
  exact hb
theorem h7_lays3 (S : fS) (RS : RI S) (h : HI S) : zk (F_X7_lays 3 S) (fun _ T => RI T ∧ Fr 35433480192 S T ∧ HI T ∧ K3 T) := by
  refine zk_imp (t7_lays 3 S RS (by decide)) (fun _ T q => ?_)
  obtain ⟨RT, FT, l, o⟩ := q
  have e : ge T 40 0 21 = ge S 40 0 21 := FT.1 40 0 21 rfl
  refine ⟨RT, FT, h.lays3 RS FT o, ?_⟩
  unfold K3
  rw [e]
  exact LAY.kb (k0 := 3) h.1 RS l
theorem s_F_X7_worthOf (p1 p2 p3 : Int32) (S0 : fS) (RS0 : RI S0) (GS0 : HI S0) (hp : 0 ≤ p1.toInt ∧ p1.toInt ≤ 63 ∧ 0 ≤ p2.toInt ∧ p2.toInt ≤ 63) : zk (F_X7_worthOf p1 p2 p3 S0) (fun v S9 => RI S9 ∧ Fr 66085519360 S0 S9 ∧ HI S9 ∧ True) := by
  have l1 : (1 : Int32).toInt = 1 := by decide
  unfold F_X7_worthOf
  refine zk_bd (h7_lays3 S0 RS0 GS0) (fun _ T0 q => ?_)
  obtain ⟨R0, F0, H0, K0⟩ := q
  refine zk_lp (fun (z : Int32 × Int32 × Int32 × Int32) T => z.1 = p1 ∧ z.2.1 = p2 ∧ RI T ∧ Fr 66085519360 S0 T ∧ HI T ∧ K3 T) (fun (z : Int32 × Int32 × Int32 × Int32) _ => (z.2.2.1.toInt - z.2.2.2.toInt).toNat) (fun _ _ (_ : Int32) T => RI T ∧ Fr 66085519360 S0 T ∧ HI T ∧ True) ?_ (p1, p2, p3, 1) T0 ⟨rfl, rfl, R0, F0.sub (by decide), H0, K0⟩ (by show (p3.toInt - (1 : Int32).toInt).toNat < 4294967296; have := ti_bd p3; omega)
  intro k z T hI hk
  obtain ⟨a1, a2, a3, a4⟩ := z
  obtain ⟨h1, h2, RT, FT, HT, KT⟩ := hI
  dsimp only at h1 h2
  subst h1
  subst h2
  unfold B_X7_worthOf_8
  dsimp only
  refine zk_le (fun c => ?_) (fun c => ?_)
  · refine zk_bd (s_F_X7_triesAt a2 0 T RT HT ⟨hp.2.2.1, hp.2.2.2⟩) (fun _ V q => ?_)
    obtain ⟨RV, FV, HV, _⟩ := q
    refine zk_iv fun _ _ => ?_
    refine zk_iv fun _ _ => ?_
    refine zk_iv fun _ _ => ?_
    refine zk_bd (h7_back3 V RV HV (KT.fr FV rfl rfl)) (fun _ W q => ?_)
    obtain ⟨RW, FW, HW⟩ := q
    exact zk_some ⟨RW, (FT.tr (FV.sub (by decide))).tr (FW.sub (by decide)), HW, trivial⟩
  · refine zk_bd (s_F_X7_triesAt a1 0 T RT HT ⟨hp.1, hp.2.1⟩) (fun _ V q => ?_)
    obtain ⟨RV, FV, HV, _⟩ := q
    refine zk_iv fun y ey => ?_
    have b4 := ti_bd a4
    have b3 := ti_bd a3
    have gy : y.toInt = a4.toInt + 1 := by rw [ey]; exact ti_inc (by omega)
    exact hk (a1, a2, a3, y) V ⟨rfl, rfl, RV, FT.tr (FV.sub (by decide)), HV, KT.fr FV rfl rfl⟩ (by show (a3.toInt - y.toInt).toNat < (a3.toInt - a4.toInt).toNat; omega)
def PQ7 (S0 T : fS) : Prop := RI T ∧ Fr 66085519360 S0 T ∧ HI T
theorem h7_pl203 {a3 a4 a5 a6 a7 a8 : Int32} {S0 : fS} (RT : RI T) (F : Fr 66085519360 S0 T) (h : HI T) (k3 : K3 T) : zk (B_X7_player_203 a3 a4 a5 a6 a7 a8 T) (fun _ U => PQ7 S0 U) := by
  unfold B_X7_player_203
  refine zk_bd (h7_back3 T RT h k3) (fun _ W q => ?_)
  obtain ⟨RW, FW, HW⟩ := q
  have w : PQ7 S0 W := ⟨RW, F.tr (FW.sub (by decide)), HW⟩
  exact zk_eq (fun _ => zk_iv fun _ _ => zk_some w) (fun _ => zk_eq (fun _ => zk_some w) (fun _ => zk_eq (fun _ => zk_some w) (fun _ => zk_some w)))
theorem h7_pl127 {k : Int32 × Int32 × Int32 × Int32 × Int32 × Int32 × Int32 → fS → Option (Int32 × fS)} {a1 a3 a4 a5 a6 a7 a8 t0 : Int32} {Q : Int32 → fS → Prop} (RT : RI T) (hk : ∀ x y z : Int32, zk (k (a1, a3, a4, x, a6, y, z) T) Q) : zk (B_X7_player_127 k a1 a3 a4 a5 a6 a7 a8 t0 T) Q := by
  have A : ∀ (x y : Int32), zk (B_X7_player_154 k a1 a3 a4 a6 a7 a8 x y a5 T) Q := by
    intro x y
    unfold B_X7_player_154
    refine zk_iv fun x5 _ => ?_
    refine zk_bd (s_F_X7_within _ _ _ T RT (by decide)) (fun v W q => ?_)
    obtain ⟨rfl, _⟩ := q
    have B : ∀ u : Int32, zk (B_X7_player_179 k a1 a3 a4 v a6 a8 u a7 T) Q := by
      intro u
      unfold B_X7_player_179
      refine zk_iv fun x2 _ => ?_
      refine zk_iv fun x3 _ => ?_
      have C : ∀ u : Int32, zk (B_X7_player_197 k a1 a3 a4 v a6 x2 u a8 T) Q := by
        intro u
        unfold B_X7_player_197
        exact zk_iv fun x1 _ => hk v x2 x1
      exact zk_eq (fun _ => C _) (fun _ => C _)
    exact zk_eq (fun _ => B _) (fun _ => B _)
  unfold B_X7_player_127
  refine zk_eq (fun _ => ?_) (fun _ => A _ _)
  refine zk_iv fun x11 _ => ?_
  exact zk_eq (fun _ => A _ _) (fun _ => A _ _)
theorem h7_pl87 (S0 : fS) (z : Int32 × Int32 × Int32 × Int32 × Int32 × Int32 × Int32) (RT : RI T) (F : Fr 66085519360 S0 T) (h : HI T) (k3 : K3 T) (hz : 0 ≤ z.1.toInt ∧ z.1.toInt ≤ 63) : zk (lp (B_X7_player_87) fuel z T) (fun _ U => PQ7 S0 U) := by
  have l0 : (0 : Int32).toInt = 0 := by decide
  have lo1 : (Int32.ofInt (-1)).toInt = -1 := by decide
  refine zk_lp (fun (z : Int32 × Int32 × Int32 × Int32 × Int32 × Int32 × Int32) T => RI T ∧ Fr 66085519360 S0 T ∧ HI T ∧ K3 T ∧ 0 ≤ z.1.toInt ∧ z.1.toInt ≤ 63) (fun (z : Int32 × Int32 × Int32 × Int32 × Int32 × Int32 × Int32) _ => z.2.2.2.2.1.toInt.toNat) (fun _ _ (_ : Int32) U => PQ7 S0 U) ?_ z T ⟨RT, F, h, k3, hz⟩ (by show z.2.2.2.2.1.toInt.toNat < 4294967296; have := ti_bd z.2.2.2.2.1; omega)
  clear RT F h k3 hz
  intro k z T hI hk
  obtain ⟨a1, a3, a4, a5, a6, a7, a8⟩ := z
  obtain ⟨RT, FT, HT, KT, hz⟩ := hI
  dsimp only at hz
  unfold B_X7_player_87
  dsimp only
  refine zk_le (fun _ => h7_pl203 RT FT HT KT) (fun _ => ?_)
  refine zk_le (fun _ => h7_pl203 RT FT HT KT) (fun c => ?_)
  refine zk_bd (s_F_X7_triesAt a1 0 T RT HT hz) (fun _ V q => ?_)
  obtain ⟨RV, FV, HV, _⟩ := q
  refine zk_iv fun y ey => ?_
  have b6 := ti_bd a6
  have gy : y.toInt = a6.toInt - 1 := by rw [ey, ti_add (by omega) (by omega), lo1]; omega
  have J : ∀ t : Int32, zk (B_X7_player_127 k a1 a3 a4 a5 y a7 a8 t V) (fun _ U => PQ7 S0 U) := fun t => h7_pl127 RV (fun x u w => hk (a1, a3, a4, x, y, u, w) V ⟨RV, FT.tr (FV.sub (by decide)), HV, KT.fr FV rfl rfl, hz⟩ (by show y.toInt.toNat < a6.toInt.toNat; omega))
  have J2 : zk (B_X7_player_122 k a1 a3 a4 a5 y a7 a8 V) (fun _ U => PQ7 S0 U) := by
    unfold B_X7_player_122
    exact J _
  refine zk_iv fun x26 _ => ?_
  refine zk_eq (fun _ => J2) (fun _ => ?_)
  refine zk_iv fun x28 _ => ?_
  exact zk_eq (fun _ => J2) (fun _ => J _)
theorem h7_pl61 {a1 a2 a3 a4 t0 : Int32} {S0 S : fS} (RS : RI S) (F : Fr 66085519360 S0 S) (h : HI S) (ha : 0 ≤ a1.toInt ∧ a1.toInt ≤ 63) : zk (B_X7_player_61 a1 a2 a3 a4 t0 S) (fun _ U => PQ7 S0 U) := by
  unfold B_X7_player_61
  refine zk_bd (s_F_X7_bad t0 2 S RS (by decide)) (fun v S2 q => ?_)
  obtain ⟨R2, f2, _⟩ := q
  have F2 := F.tr (f2.sub (m := 66085519360) (by decide))
  have H2 := h.fr f2 rfl
  refine zk_eq (fun _ => ?_) (fun _ => zk_some ⟨R2, F2, H2⟩)
  refine zk_bd (h7_lays3 S2 R2 H2) (fun _ T q => ?_)
  obtain ⟨RT, FT, HT, KT⟩ := q
  exact h7_pl87 S0 _ RT (F2.tr (FT.sub (by decide))) HT KT ha
theorem h7_player (p1 p2 p3 p4 : Int32) (S0 : fS) (RS : RI S0) (h : HI S0) : zk (F_X7_player p1 p2 p3 p4 S0) (fun _ U => PQ7 S0 U) := by
  have l0 : (0 : Int32).toInt = 0 := by decide
  unfold F_X7_player
  refine zk_sv fun S1 E1 => ?_
  have R1 : RI S1 := by rw [E1]; exact RS.wf rfl
  have F1 : Fr 66085519360 S0 S1 := by rw [E1]; exact Fr.rf.wr (k := 16) rfl rfl
  have H1 : HI S1 := by rw [E1]; exact h.wr (k := 16) rfl rfl
  refine zk_bd (s_F_X7_isCell p1 S1 R1) (fun v T q => ?_)
  obtain ⟨rfl, hv⟩ := q
  have J : ∀ t : Int32, (¬ t.toInt = 0 ∨ (0 ≤ p1.toInt ∧ p1.toInt ≤ 63)) → zk (B_X7_player_18 p1 p2 p3 p4 t S1) (fun _ U => PQ7 S0 U) := by
    intro t ht
    unfold B_X7_player_18 B_X7_player_56
    refine zk_bd (s_F_X7_bad t 1 S1 R1 (by decide)) (fun v2 S2 q => ?_)
    obtain ⟨R2, f2, hv2⟩ := q
    have F2 := F1.tr (f2.sub (m := 66085519360) (by decide))
    have H2 := H1.fr f2 rfl
    refine zk_eq (fun c => ?_) (fun _ => zk_some ⟨R2, F2, H2⟩)
    have K : ∀ t : Int32, zk (B_X7_player_61 p1 p2 p3 p4 t S2) (fun _ U => PQ7 S0 U) := fun t => h7_pl61 R2 F2 H2 (by omega)
    refine zk_bd (s_F_X7_in _ _ _ S2 R2) (fun v3 T q => ?_)
    obtain ⟨rfl, _⟩ := q
    refine zk_eq (fun _ => K _) (fun _ => ?_)
    refine zk_bd (s_F_X7_in _ _ _ S2 R2) (fun v3 T q => ?_)
    obtain ⟨rfl, _⟩ := q
    refine zk_eq (fun _ => K _) (fun _ => ?_)
    refine zk_bd (s_F_X7_in _ _ _ S2 R2) (fun v3 T q => ?_)
    obtain ⟨rfl, _⟩ := q
    exact zk_eq (fun _ => K _) (fun _ => K _)
  exact zk_eq (fun _ => J _ (Or.inl (by decide))) (fun _ => J _ (Or.inr (by omega)))
end BCK
theorem s_F_X7_worth (p1 : Int32) (p2 : Int32) (p3 : Int32) (S0 : fS) (RS0 : RI S0) (GS0 : HI S0) : zk (F_X7_worth p1 p2 p3 S0) (fun v S9 => RI S9 ∧ Fr 66085519360 S0 S9 ∧ HI S9 ∧ True) := by
  have l0 : (0 : Int32).toInt = 0 := by decide
  have l1 : (1 : Int32).toInt = 1 := by decide
  have l2 : (2 : Int32).toInt = 2 := by decide
  have l20 : (20 : Int32).toInt = 20 := by decide
  have FS0 : Fr 66085519360 S0 S0 := Fr.rf
  unfold F_X7_worth
  refine zk_sv fun S1 E1 => ?_
  have RS1 : RI S1 := by rw [E1]; exact RS0.wf rfl
  have FS1 : Fr 66085519360 S0 S1 := by rw [E1]; exact FS0.wr (k := 16) rfl rfl
  have GS1 : HI S1 := by rw [E1]; exact GS0.wr (k := 16) rfl rfl
  refine zk_bd (s_F_X7_isCell _ _ RS1) (fun v2 T3 h2 => ?_)
  obtain ⟨rfl, h2⟩ := h2
  refine zk_eq (fun c4 => ?_) (fun c4 => ?_)
  ·
    unfold B_X7_worth_20
    unfold B_X7_worth_25
    refine zk_bd (s_F_X7_bad _ _ _ RS1 (by omega)) (fun v5 T6 h5 => ?_)
    obtain ⟨RT6, fT6, h5⟩ := h5
    have FT6 := FS1.tr (fT6.sub (m := 66085519360) (by decide))
    have GT6 := GS1.fr fT6 rfl
    refine zk_eq (fun c7 => ?_) (fun c7 => ?_)
    ·
      refine zk_bd (s_F_X7_in _ _ _ _ RT6) (fun v8 T9 h8 => ?_)
      obtain ⟨rfl, h8⟩ := h8
      refine zk_eq (fun c10 => ?_) (fun c10 => ?_)
      ·
        unfold B_X7_worth_48
        refine zk_bd (s_F_X7_bad _ _ _ RT6 (by omega)) (fun v11 T12 h11 => ?_)
        obtain ⟨RT12, fT12, h11⟩ := h11
        have FT12 := FT6.tr (fT12.sub (m := 66085519360) (by decide))
        have GT12 := GT6.fr fT12 rfl
        refine zk_eq (fun c13 => ?_) (fun c13 => ?_)
        ·
          refine zk_bd (s_F_X7_worthOf _ _ _ _ RT12 GT12 (by omega)) (fun v14 T15 h14 => ?_)
          obtain ⟨RT15, fT15, GT15, h14⟩ := h14
          have FT15 := FT12.tr (fT15.sub (m := 66085519360) (by decide))
          exact zk_some ⟨RT15, FT15, GT15, trivial⟩
        ·
          exact zk_some ⟨RT12, FT12, GT12, trivial⟩
      ·
        unfold B_X7_worth_48
        refine zk_bd (s_F_X7_bad _ _ _ RT6 (by omega)) (fun v16 T17 h16 => ?_)
        obtain ⟨RT17, fT17, h16⟩ := h16
        have FT17 := FT6.tr (fT17.sub (m := 66085519360) (by decide))
        have GT17 := GT6.fr fT17 rfl
        refine zk_eq (fun c18 => ?_) (fun c18 => ?_)
        ·
          refine zk_bd (s_F_X7_worthOf _ _ _ _ RT17 GT17 (by omega)) (fun v19 T20 h19 => ?_)
          obtain ⟨RT20, fT20, GT20, h19⟩ := h19
          have FT20 := FT17.tr (fT20.sub (m := 66085519360) (by decide))
          exact zk_some ⟨RT20, FT20, GT20, trivial⟩
        ·
          exact zk_some ⟨RT17, FT17, GT17, trivial⟩
    ·
      exact zk_some ⟨RT6, FT6, GT6, trivial⟩
  ·
    refine zk_bd (s_F_X7_isCell _ _ RS1) (fun v21 T22 h21 => ?_)
    obtain ⟨rfl, h21⟩ := h21
    refine zk_eq (fun c23 => ?_) (fun c23 => ?_)
    ·
      unfold B_X7_worth_20
      unfold B_X7_worth_25
      refine zk_bd (s_F_X7_bad _ _ _ RS1 (by omega)) (fun v24 T25 h24 => ?_)
      obtain ⟨RT25, fT25, h24⟩ := h24
      have FT25 := FS1.tr (fT25.sub (m := 66085519360) (by decide))
      have GT25 := GS1.fr fT25 rfl
      refine zk_eq (fun c26 => ?_) (fun c26 => ?_)
      ·
        refine zk_bd (s_F_X7_in _ _ _ _ RT25) (fun v27 T28 h27 => ?_)
        obtain ⟨rfl, h27⟩ := h27
        refine zk_eq (fun c29 => ?_) (fun c29 => ?_)
        ·
          unfold B_X7_worth_48
          refine zk_bd (s_F_X7_bad _ _ _ RT25 (by omega)) (fun v30 T31 h30 => ?_)
          obtain ⟨RT31, fT31, h30⟩ := h30
          have FT31 := FT25.tr (fT31.sub (m := 66085519360) (by decide))
          have GT31 := GT25.fr fT31 rfl
          refine zk_eq (fun c32 => ?_) (fun c32 => ?_)
          ·
            refine zk_bd (s_F_X7_worthOf _ _ _ _ RT31 GT31 (by omega)) (fun v33 T34 h33 => ?_)
            obtain ⟨RT34, fT34, GT34, h33⟩ := h33
            have FT34 := FT31.tr (fT34.sub (m := 66085519360) (by decide))
            exact zk_some ⟨RT34, FT34, GT34, trivial⟩
          ·
            exact zk_some ⟨RT31, FT31, GT31, trivial⟩
        ·
          unfold B_X7_worth_48
          refine zk_bd (s_F_X7_bad _ _ _ RT25 (by omega)) (fun v35 T36 h35 => ?_)
          obtain ⟨RT36, fT36, h35⟩ := h35
          have FT36 := FT25.tr (fT36.sub (m := 66085519360) (by decide))
          have GT36 := GT25.fr fT36 rfl
          refine zk_eq (fun c37 => ?_) (fun c37 => ?_)
          ·
            refine zk_bd (s_F_X7_worthOf _ _ _ _ RT36 GT36 (by omega)) (fun v38 T39 h38 => ?_)
            obtain ⟨RT39, fT39, GT39, h38⟩ := h38
            have FT39 := FT36.tr (fT39.sub (m := 66085519360) (by decide))
            exact zk_some ⟨RT39, FT39, GT39, trivial⟩
          ·
            exact zk_some ⟨RT36, FT36, GT36, trivial⟩
      ·
        exact zk_some ⟨RT25, FT25, GT25, trivial⟩
    ·
      unfold B_X7_worth_25
      refine zk_bd (s_F_X7_bad _ _ _ RS1 (by omega)) (fun v40 T41 h40 => ?_)
      obtain ⟨RT41, fT41, h40⟩ := h40
      have FT41 := FS1.tr (fT41.sub (m := 66085519360) (by decide))
      have GT41 := GS1.fr fT41 rfl
      refine zk_eq (fun c42 => ?_) (fun c42 => ?_)
      ·
        refine zk_bd (s_F_X7_in _ _ _ _ RT41) (fun v43 T44 h43 => ?_)
        obtain ⟨rfl, h43⟩ := h43
        refine zk_eq (fun c45 => ?_) (fun c45 => ?_)
        ·
          unfold B_X7_worth_48
          refine zk_bd (s_F_X7_bad _ _ _ RT41 (by omega)) (fun v46 T47 h46 => ?_)
          obtain ⟨RT47, fT47, h46⟩ := h46
          have FT47 := FT41.tr (fT47.sub (m := 66085519360) (by decide))
          have GT47 := GT41.fr fT47 rfl
          refine zk_eq (fun c48 => ?_) (fun c48 => ?_)
          ·
            refine zk_bd (s_F_X7_worthOf _ _ _ _ RT47 GT47 (by omega)) (fun v49 T50 h49 => ?_)
            obtain ⟨RT50, fT50, GT50, h49⟩ := h49
            have FT50 := FT47.tr (fT50.sub (m := 66085519360) (by decide))
            exact zk_some ⟨RT50, FT50, GT50, trivial⟩
          ·
            exact zk_some ⟨RT47, FT47, GT47, trivial⟩
        ·
          unfold B_X7_worth_48
          refine zk_bd (s_F_X7_bad _ _ _ RT41 (by omega)) (fun v51 T52 h51 => ?_)
          obtain ⟨RT52, fT52, h51⟩ := h51
          have FT52 := FT41.tr (fT52.sub (m := 66085519360) (by decide))
          have GT52 := GT41.fr fT52 rfl
          refine zk_eq (fun c53 => ?_) (fun c53 => ?_)
          ·
            refine zk_bd (s_F_X7_worthOf _ _ _ _ RT52 GT52 (by omega)) (fun v54 T55 h54 => ?_)
            obtain ⟨RT55, fT55, GT55, h54⟩ := h54
            have FT55 := FT52.tr (fT55.sub (m := 66085519360) (by decide))
            exact zk_some ⟨RT55, FT55, GT55, trivial⟩
          ·
            exact zk_some ⟨RT52, FT52, GT52, trivial⟩
      ·
        exact zk_some ⟨RT41, FT41, GT41, trivial⟩
theorem s_B_X7_bide_48  (z : Int32 × Int32 × Int32 × Int32 × Int32) (S : fS) (RS : RI S) (GS : HI S) (hi : 0 ≤ z.1.toInt ∧ z.1.toInt ≤ 63 ∧ 0 ≤ z.2.1.toInt ∧ z.2.1.toInt ≤ 63 ∧ 1 ≤ z.2.2.2.2.toInt ∧ z.2.2.2.2.toInt ≤ 21) (hm : (21 - z.2.2.2.2.toInt).toNat < 4294967296) : zk (lp (B_X7_bide_48) fuel z S) (fun v S9 => RI S9 ∧ Fr 66085519360 S S9 ∧ HI S9 ∧ True) := by
  have l20 : (20 : Int32).toInt = 20 := by decide
  have lo1 : (Int32.ofInt 1).toInt = 1 := by decide
  refine zk_lp (fun z S => RI S ∧ HI S ∧ (0 ≤ z.1.toInt ∧ z.1.toInt ≤ 63 ∧ 0 ≤ z.2.1.toInt ∧ z.2.1.toInt ≤ 63 ∧ 1 ≤ z.2.2.2.2.toInt ∧ z.2.2.2.2.toInt ≤ 21)) (fun z S => (21 - z.2.2.2.2.toInt).toNat) (fun z S (v : Int32) S9 => RI S9 ∧ Fr 66085519360 S S9 ∧ HI S9 ∧ True) ?_ z S ⟨RS, GS, hi⟩ hm
  clear RS hi hm GS
  intro k z S hI hk
  obtain ⟨RS, GS, hI⟩ := hI
  obtain ⟨a1, a2, a3, a4, a5⟩ := z
  (try dsimp only at hI); (try dsimp only at hk); (try dsimp only)
  have FS : Fr 66085519360 S S := Fr.rf
  unfold B_X7_bide_48
  dsimp only
  refine zk_lt (fun c1 => ?_) (fun c1 => ?_)
  ·
    exact zk_some ⟨RS, FS, GS, trivial⟩
  ·
    refine zk_bd (s_F_X7_worthOf _ _ _ _ RS GS (by omega)) (fun v2 T3 h2 => ?_)
    obtain ⟨RT3, fT3, GT3, h2⟩ := h2
    have FT3 := FS.tr (fT3.sub (m := 66085519360) (by decide))
    have b4 := ti_bd v2
    have b5 := ti_bd a4
    refine zk_le (fun c6 => ?_) (fun c6 => ?_)
    ·
      unfold B_X7_bide_78
      refine zk_le (fun c7 => ?_) (fun c7 => ?_)
      ·
        unfold B_X7_bide_93
        refine zk_iv fun x8 e8 => ?_
        have gx8 : x8.toInt = a5.toInt + (Int32.ofInt 1).toInt := by rw [e8]; exact ti_add (by omega) (by omega)
        refine zk_imp (hk (a1, a2, a3, a4, x8) _ ⟨RT3, GT3, (by (try dsimp only) <;> omega)⟩ (by (try dsimp only) <;> omega)) (fun v9 T10 h9 => ?_)
        obtain ⟨RT10, FT10, GT10, h9⟩ := h9
        exact ⟨RT10, FT3.tr FT10, GT10, trivial⟩
      ·
        unfold B_X7_bide_93
        refine zk_iv fun x11 e11 => ?_
        have gx11 : x11.toInt = a5.toInt + (Int32.ofInt 1).toInt := by rw [e11]; exact ti_add (by omega) (by omega)
        refine zk_imp (hk (a1, a2, a3, v2, x11) _ ⟨RT3, GT3, (by (try dsimp only) <;> omega)⟩ (by (try dsimp only) <;> omega)) (fun v12 T13 h12 => ?_)
        obtain ⟨RT13, FT13, GT13, h12⟩ := h12
        exact ⟨RT13, FT3.tr FT13, GT13, trivial⟩
    ·
      unfold B_X7_bide_78
      refine zk_le (fun c14 => ?_) (fun c14 => ?_)
      ·
        unfold B_X7_bide_93
        refine zk_iv fun x15 e15 => ?_
        have gx15 : x15.toInt = a5.toInt + (Int32.ofInt 1).toInt := by rw [e15]; exact ti_add (by omega) (by omega)
        refine zk_imp (hk (a1, a2, a5, a4, x15) _ ⟨RT3, GT3, (by (try dsimp only) <;> omega)⟩ (by (try dsimp only) <;> omega)) (fun v16 T17 h16 => ?_)
        obtain ⟨RT17, FT17, GT17, h16⟩ := h16
        exact ⟨RT17, FT3.tr FT17, GT17, trivial⟩
      ·
        unfold B_X7_bide_93
        refine zk_iv fun x18 e18 => ?_
        have gx18 : x18.toInt = a5.toInt + (Int32.ofInt 1).toInt := by rw [e18]; exact ti_add (by omega) (by omega)
        refine zk_imp (hk (a1, a2, a5, v2, x18) _ ⟨RT3, GT3, (by (try dsimp only) <;> omega)⟩ (by (try dsimp only) <;> omega)) (fun v19 T20 h19 => ?_)
        obtain ⟨RT20, FT20, GT20, h19⟩ := h19
        exact ⟨RT20, FT3.tr FT20, GT20, trivial⟩
theorem s_F_X7_bide (p1 : Int32) (p2 : Int32) (S0 : fS) (RS0 : RI S0) (GS0 : HI S0) : zk (F_X7_bide p1 p2 S0) (fun v S9 => RI S9 ∧ Fr 66085519360 S0 S9 ∧ HI S9 ∧ True) := by
  have l0 : (0 : Int32).toInt = 0 := by decide
  have l1 : (1 : Int32).toInt = 1 := by decide
  have l2 : (2 : Int32).toInt = 2 := by decide
  have FS0 : Fr 66085519360 S0 S0 := Fr.rf
  unfold F_X7_bide
  refine zk_sv fun S1 E1 => ?_
  have RS1 : RI S1 := by rw [E1]; exact RS0.wf rfl
  have FS1 : Fr 66085519360 S0 S1 := by rw [E1]; exact FS0.wr (k := 16) rfl rfl
  have GS1 : HI S1 := by rw [E1]; exact GS0.wr (k := 16) rfl rfl
  refine zk_bd (s_F_X7_isCell _ _ RS1) (fun v2 T3 h2 => ?_)
  obtain ⟨rfl, h2⟩ := h2
  refine zk_eq (fun c4 => ?_) (fun c4 => ?_)
  ·
    unfold B_X7_bide_20
    unfold B_X7_bide_25
    refine zk_bd (s_F_X7_bad _ _ _ RS1 (by omega)) (fun v5 T6 h5 => ?_)
    obtain ⟨RT6, fT6, h5⟩ := h5
    have FT6 := FS1.tr (fT6.sub (m := 66085519360) (by decide))
    have GT6 := GS1.fr fT6 rfl
    refine zk_eq (fun c7 => ?_) (fun c7 => ?_)
    ·
      refine zk_bd (s_F_X7_worthOf _ _ _ _ RT6 GT6 (by omega)) (fun v8 T9 h8 => ?_)
      obtain ⟨RT9, fT9, GT9, h8⟩ := h8
      have FT9 := FT6.tr (fT9.sub (m := 66085519360) (by decide))
      refine zk_imp (s_B_X7_bide_48 _ _ RT9 GT9 (by (try dsimp only) <;> omega) (by (try dsimp only) <;> omega)) (fun v10 T11 h10 => ?_)
      obtain ⟨RT11, fT11, GT11, h10⟩ := h10
      have FT11 := FT9.tr (fT11.sub (m := 66085519360) (by decide))
      exact ⟨RT11, FT11, GT11, trivial⟩
    ·
      exact zk_some ⟨RT6, FT6, GT6, trivial⟩
  ·
    refine zk_bd (s_F_X7_isCell _ _ RS1) (fun v12 T13 h12 => ?_)
    obtain ⟨rfl, h12⟩ := h12
    refine zk_eq (fun c14 => ?_) (fun c14 => ?_)
    ·
      unfold B_X7_bide_20
      unfold B_X7_bide_25
      refine zk_bd (s_F_X7_bad _ _ _ RS1 (by omega)) (fun v15 T16 h15 => ?_)
      obtain ⟨RT16, fT16, h15⟩ := h15
      have FT16 := FS1.tr (fT16.sub (m := 66085519360) (by decide))
      have GT16 := GS1.fr fT16 rfl
      refine zk_eq (fun c17 => ?_) (fun c17 => ?_)
      ·
        refine zk_bd (s_F_X7_worthOf _ _ _ _ RT16 GT16 (by omega)) (fun v18 T19 h18 => ?_)
        obtain ⟨RT19, fT19, GT19, h18⟩ := h18
        have FT19 := FT16.tr (fT19.sub (m := 66085519360) (by decide))
        refine zk_imp (s_B_X7_bide_48 _ _ RT19 GT19 (by (try dsimp only) <;> omega) (by (try dsimp only) <;> omega)) (fun v20 T21 h20 => ?_)
        obtain ⟨RT21, fT21, GT21, h20⟩ := h20
        have FT21 := FT19.tr (fT21.sub (m := 66085519360) (by decide))
        exact ⟨RT21, FT21, GT21, trivial⟩
      ·
        exact zk_some ⟨RT16, FT16, GT16, trivial⟩
    ·
      unfold B_X7_bide_25
      refine zk_bd (s_F_X7_bad _ _ _ RS1 (by omega)) (fun v22 T23 h22 => ?_)
      obtain ⟨RT23, fT23, h22⟩ := h22
      have FT23 := FS1.tr (fT23.sub (m := 66085519360) (by decide))
      have GT23 := GS1.fr fT23 rfl
      refine zk_eq (fun c24 => ?_) (fun c24 => ?_)
      ·
        refine zk_bd (s_F_X7_worthOf _ _ _ _ RT23 GT23 (by omega)) (fun v25 T26 h25 => ?_)
        obtain ⟨RT26, fT26, GT26, h25⟩ := h25
        have FT26 := FT23.tr (fT26.sub (m := 66085519360) (by decide))
        refine zk_imp (s_B_X7_bide_48 _ _ RT26 GT26 (by (try dsimp only) <;> omega) (by (try dsimp only) <;> omega)) (fun v27 T28 h27 => ?_)
        obtain ⟨RT28, fT28, GT28, h27⟩ := h27
        have FT28 := FT26.tr (fT28.sub (m := 66085519360) (by decide))
        exact ⟨RT28, FT28, GT28, trivial⟩
      ·
        exact zk_some ⟨RT23, FT23, GT23, trivial⟩
