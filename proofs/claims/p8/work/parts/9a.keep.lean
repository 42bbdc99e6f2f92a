/-! the pure part: the reference, what is kept and laid back -/
section KEP
variable {S T U : fS}
/-! the cells of the heaps are copied to the rows of k0 -/
def LAY (S T : fS) (k0 : Nat) : Prop := (∀ c i : Nat, c < 64 → i < 24 → ge T 61 (64 * k0 + c) i = ge S 53 c i) ∧ (∀ c : Nat, c < 64 → ge T 63 k0 c = ge S 54 0 c) ∧ ∀ t : Nat, t < 24 → ge T 65 k0 t = ge S 50 0 t
/-! other rows stay -/
def OTH (S T : fS) (k0 : Nat) : Prop := (∀ r i : Nat, r < 64 * k0 ∨ 64 * k0 + 64 ≤ r → ge T 61 r i = ge S 61 r i) ∧ (∀ k c : Nat, k ≠ k0 → ge T 63 k c = ge S 63 k c) ∧ (∀ k t : Nat, k ≠ k0 → ge T 65 k t = ge S 65 k t) ∧ (∀ k j : Nat, k ≠ k0 → ge T 67 k j = ge S 67 k j) ∧ ∀ k t : Nat, ge T 69 k t = ge S 69 k t
def LI (S T : fS) (k0 : Nat) (c : Int) : Prop := RI T ∧ Fr 35433480192 S T ∧ (∀ c' i : Nat, (c' : Int) < c → i < 24 → ge T 61 (64 * k0 + c') i = ge S 53 c' i) ∧ (∀ c' : Nat, (c' : Int) < c → ge T 63 k0 c' = ge S 54 0 c') ∧ OTH S T k0
theorem h7_lays65 (p1 : Int32) (S : fS) (hp : 0 ≤ p1.toInt ∧ p1.toInt ≤ 3) (T0 : fS) (h : LI S T0 p1.toNatClampNeg 64) : zk (lp (B_X7_lays_65) fuel (p1, 0) T0) (fun _ T => RI T ∧ Fr 35433480192 S T ∧ LAY S T p1.toNatClampNeg ∧ OTH S T p1.toNatClampNeg) := by
  have l0 : (0 : Int32).toInt = 0 := by decide
  have l24 : (24 : Int32).toInt = 24 := by decide
  refine zk_lp (fun (z : Int32 × Int32) T => z.1 = p1 ∧ 0 ≤ z.2.toInt ∧ z.2.toInt ≤ 24 ∧ LI S T p1.toNatClampNeg 64 ∧ ∀ t : Nat, (t : Int) < z.2.toInt → ge T 65 p1.toNatClampNeg t = ge S 50 0 t) (fun (z : Int32 × Int32) _ => (24 - z.2.toInt).toNat) (fun _ _ (_ : Int32) T => RI T ∧ Fr 35433480192 S T ∧ LAY S T p1.toNatClampNeg ∧ OTH S T p1.toNatClampNeg) ?_ (p1, 0) T0 ⟨rfl, by show (0 : Int) ≤ (0 : Int32).toInt; decide, by show (0 : Int32).toInt ≤ 24; decide, h, fun t q => by have q : (t : Int) < (0 : Int32).toInt := q; omega⟩ (by show (24 - (0 : Int32).toInt).toNat < 4294967296; decide)
  clear h
  intro k z T hI hk
  obtain ⟨a1, a2⟩ := z
  obtain ⟨h1, h2, h3, hL, hW⟩ := hI
  dsimp only at h1 h2 h3 hW
  subst h1
  obtain ⟨RT, FT, A, B, o1, o2, o3, o4, o5⟩ := hL
  have hc := cn_eq h2
  unfold B_X7_lays_65
  dsimp only
  refine zk_le (fun c => ?_) (fun c => ?_)
  · refine zk_gd ⟨by omega, by omega⟩ ?_
    refine zk_iv fun x1 _ => ?_
    refine zk_sv fun S1 E1 => ?_
    refine zk_gd ⟨by omega, by omega⟩ ?_
    refine zk_iv fun x2 _ => ?_
    refine zk_sv fun S2 E2 => ?_
    refine zk_gd ⟨by omega, by omega⟩ ?_
    refine zk_iv fun x3 _ => ?_
    refine zk_sv fun S3 E3 => ?_
    refine zk_gd ⟨by omega, by omega⟩ ?_
    refine zk_iv fun x4 _ => ?_
    refine zk_sv fun S4 E4 => ?_
    have E1 : S1 = pu T 67 a1.toNatClampNeg 0 x1 := E1
    have E2 : S2 = pu S1 67 a1.toNatClampNeg 1 x2 := E2
    have E3 : S3 = pu S2 67 a1.toNatClampNeg 2 x3 := E3
    have E4 : S4 = pu S3 67 a1.toNatClampNeg 3 x4 := E4
    have R1 : RI S1 := by rw [E1]; exact RT.wf rfl
    have R2 : RI S2 := by rw [E2]; exact R1.wf rfl
    have R3 : RI S3 := by rw [E3]; exact R2.wf rfl
    have R4 : RI S4 := by rw [E4]; exact R3.wf rfl
    have F1 : Fr 35433480192 S S1 := by rw [E1]; exact FT.wr (k := 35) rfl rfl
    have F2 : Fr 35433480192 S S2 := by rw [E2]; exact F1.wr (k := 35) rfl rfl
    have F3 : Fr 35433480192 S S3 := by rw [E3]; exact F2.wr (k := 35) rfl rfl
    have F4 : Fr 35433480192 S S4 := by rw [E4]; exact F3.wr (k := 35) rfl rfl
    have n : ∀ a i j : Nat, a ≠ 67 → ge S4 a i j = ge T a i j := fun a i j ha => by rw [E4, ge_pua ha, E3, ge_pua ha, E2, ge_pua ha, E1, ge_pua ha]
    have n67 : ∀ i j : Nat, i ≠ a1.toNatClampNeg → ge S4 67 i j = ge T 67 i j := fun i j hi => by rw [E4, ge_pui hi, E3, ge_pui hi, E2, ge_pui hi, E1, ge_pui hi]
    refine zk_some ⟨R4, F4, ⟨fun c' i hc' hi => ?_, fun c' hc' => ?_, fun t ht => ?_⟩, fun r i q => ?_, fun i j q => ?_, fun i j q => ?_, fun i j q => ?_, fun i j => ?_⟩
    · rw [n _ _ _ (by decide)]; exact A c' i (by omega) hi
    · rw [n _ _ _ (by decide)]; exact B c' (by omega)
    · rw [n _ _ _ (by decide)]; exact hW t (by omega)
    · rw [n _ _ _ (by decide)]; exact o1 r i q
    · rw [n _ _ _ (by decide)]; exact o2 i j q
    · rw [n _ _ _ (by decide)]; exact o3 i j q
    · rw [n67 i j q]; exact o4 i j q
    · rw [n _ _ _ (by decide)]; exact o5 i j
  · refine zk_gd ⟨by omega, by omega⟩ ?_
    refine zk_gd ⟨by omega, by omega⟩ ?_
    refine zk_iv fun x e => ?_
    have gx : -2 ≤ x.toInt ∧ x.toInt ≤ 63 := by rw [e]; exact RT 50 0 _
    have ex : x = ge S 50 0 a2.toNatClampNeg := by rw [e]; exact FT.1 50 0 _ (by rw [show rgn 50 a2.toNatClampNeg = 24 from rfl]; rfl)
    refine zk_gd ⟨by omega, by omega⟩ ?_
    refine zk_sv fun V E => ?_
    refine zk_iv fun y ey => ?_
    have gy : y.toInt = a2.toInt + 1 := by rw [ey]; exact ti_inc (by omega)
    have RV : RI V := by rw [E]; exact RT.wr (show (-2 : Int) ≤ x.toInt by omega) (show x.toInt ≤ 63 by omega)
    have FV : Fr 35433480192 S V := by rw [E]; exact FT.wr (k := 30) rfl rfl
    have n : ∀ a i j : Nat, a ≠ 65 → ge V a i j = ge T a i j := fun a i j ha => by rw [E, ge_pua ha]
    refine hk (a1, y) V ⟨rfl, by dsimp only; omega, by dsimp only; omega, ⟨RV, FV, fun c' i hc' hi => ?_, fun c' hc' => ?_, fun r i q => ?_, fun i j q => ?_, fun i j q => ?_, fun i j q => ?_, fun i j => ?_⟩, fun t ht => ?_⟩ (by show (24 - y.toInt).toNat < (24 - a2.toInt).toNat; omega)
    · rw [n _ _ _ (by decide)]; exact A c' i hc' hi
    · rw [n _ _ _ (by decide)]; exact B c' hc'
    · rw [n _ _ _ (by decide)]; exact o1 r i q
    · rw [n _ _ _ (by decide)]; exact o2 i j q
    · rw [E, ge_pui q]; exact o3 i j q
    · rw [n _ _ _ (by decide)]; exact o4 i j q
    · rw [n _ _ _ (by decide)]; exact o5 i j
    · dsimp only at ht
      rw [E, ge_pu]
      by_cases z : t = a2.toNatClampNeg
      · rw [if_pos ⟨rfl, rfl, z⟩, ex, z]
      · rw [if_neg (fun q => z q.2.2)]; exact hW t (by omega)
theorem h7_lays10 (k2 : Int32 × Int32 → fS → Option (Int32 × fS)) (p1 c : Int32) (S : fS) (hp : 0 ≤ p1.toInt ∧ p1.toInt ≤ 3) (hcc : 0 ≤ c.toInt ∧ c.toInt ≤ 63) {Q : Int32 → fS → Prop} (hk2 : ∀ (y : Int32) (T : fS), y.toInt = c.toInt + 1 → LI S T p1.toNatClampNeg y.toInt → zk (k2 (p1, y) T) Q) (T0 : fS) (h : LI S T0 p1.toNatClampNeg c.toInt) : zk (lp (B_X7_lays_10 k2) fuel (p1, c, 0) T0) Q := by
  have l0 : (0 : Int32).toInt = 0 := by decide
  have l64 : (64 : Int32).toInt = 64 := by decide
  have l24 : (24 : Int32).toInt = 24 := by decide
  have hc0 := cn_eq hp.1
  have hc1 := cn_eq hcc.1
  refine zk_lp (fun (z : Int32 × Int32 × Int32) T => z.1 = p1 ∧ z.2.1 = c ∧ 0 ≤ z.2.2.toInt ∧ z.2.2.toInt ≤ 24 ∧ LI S T p1.toNatClampNeg c.toInt ∧ ∀ i : Nat, (i : Int) < z.2.2.toInt → ge T 61 (64 * p1.toNatClampNeg + c.toNatClampNeg) i = ge S 53 c.toNatClampNeg i) (fun (z : Int32 × Int32 × Int32) _ => (24 - z.2.2.toInt).toNat) (fun _ _ (v : Int32) T => Q v T) ?_ (p1, c, 0) T0 ⟨rfl, rfl, by show (0 : Int) ≤ (0 : Int32).toInt; decide, by show (0 : Int32).toInt ≤ 24; decide, h, fun t q => by have q : (t : Int) < (0 : Int32).toInt := q; omega⟩ (by show (24 - (0 : Int32).toInt).toNat < 4294967296; decide)
  clear h
  intro k z T hI hk
  obtain ⟨a1, a2, a3⟩ := z
  obtain ⟨h1, h2, h3, h4, hL, hW⟩ := hI
  dsimp only at h1 h2 h3 h4 hW
  subst h1
  subst h2
  obtain ⟨RT, FT, A, B, o1, o2, o3, o4, o5⟩ := hL
  have hc := cn_eq h3
  unfold B_X7_lays_10
  dsimp only
  refine zk_le (fun cc => ?_) (fun cc => ?_)
  · refine zk_gd ⟨by omega, by omega⟩ ?_
    refine zk_gd ⟨by omega, by omega⟩ ?_
    refine zk_iv fun x e => ?_
    have gx : 0 ≤ x.toInt ∧ x.toInt ≤ 24 := by rw [e]; exact RT 54 0 _
    have ex : x = ge S 54 0 a2.toNatClampNeg := by rw [e]; exact FT.1 54 0 _ (by rw [show rgn 54 a2.toNatClampNeg = 24 from rfl]; rfl)
    refine zk_gd ⟨by omega, by omega⟩ ?_
    refine zk_sv fun V E => ?_
    refine zk_iv fun y ey => ?_
    have gy : y.toInt = a2.toInt + 1 := by rw [ey]; exact ti_inc (by omega)
    have RV : RI V := by rw [E]; exact RT.wr (show (0 : Int) ≤ x.toInt by omega) (show x.toInt ≤ 24 by omega)
    have FV : Fr 35433480192 S V := by rw [E]; exact FT.wr (k := 30) rfl rfl
    have n : ∀ a i j : Nat, a ≠ 63 → ge V a i j = ge T a i j := fun a i j ha => by rw [E, ge_pua ha]
    refine hk2 y V gy ⟨RV, FV, fun c' i hc' hi => ?_, fun c' hc' => ?_, fun r i q => ?_, fun i j q => ?_, fun i j q => ?_, fun i j q => ?_, fun i j => ?_⟩
    · rw [n _ _ _ (by decide)]
      by_cases z : (c' : Int) < a2.toInt
      · exact A c' i z hi
      · have e9 : c' = a2.toNatClampNeg := by omega
        rw [e9]; exact hW i (by omega)
    · rw [E, ge_pu]
      by_cases z : c' = a2.toNatClampNeg
      · rw [if_pos ⟨rfl, rfl, z⟩, ex, z]
      · rw [if_neg (fun q => z q.2.2)]; exact B c' (by omega)
    · rw [n _ _ _ (by decide)]; exact o1 r i q
    · rw [E, ge_pui q]; exact o2 i j q
    · rw [n _ _ _ (by decide)]; exact o3 i j q
    · rw [n _ _ _ (by decide)]; exact o4 i j q
    · rw [n _ _ _ (by decide)]; exact o5 i j
  · refine zk_iv fun x8 e8 => ?_
    have g8 : x8.toInt = 64 * a1.toInt := by rw [e8, ti_mulc (c := 64) (by decide) (by omega) (by omega)]
    refine zk_iv fun x9 e9 => ?_
    have g9 : x9.toInt = 64 * a1.toInt + a2.toInt := by rw [e9, ti_add (by omega) (by omega), g8]
    have hc9 := cn_eq (x := x9) (by omega)
    refine zk_gd ⟨by omega, by omega⟩ ?_
    refine zk_gd ⟨by omega, by omega⟩ ?_
    refine zk_gd ⟨by omega, by omega⟩ ?_
    refine zk_iv fun x e => ?_
    have gx : 0 ≤ x.toInt ∧ x.toInt ≤ 23 := by rw [e]; exact RT 53 _ _
    have ex : x = ge S 53 a2.toNatClampNeg a3.toNatClampNeg := by rw [e]; exact FT.1 53 _ _ (by rw [show rgn 53 a3.toNatClampNeg = 24 from rfl]; rfl)
    refine zk_gd ⟨by omega, by omega⟩ ?_
    refine zk_sv fun V E => ?_
    refine zk_iv fun y ey => ?_
    have gy : y.toInt = a3.toInt + 1 := by rw [ey]; exact ti_inc (by omega)
    have RV : RI V := by rw [E]; exact RT.wr (show (0 : Int) ≤ x.toInt by omega) (show x.toInt ≤ 23 by omega)
    have FV : Fr 35433480192 S V := by rw [E]; exact FT.wr (k := 30) rfl rfl
    have n : ∀ a i j : Nat, a ≠ 61 → ge V a i j = ge T a i j := fun a i j ha => by rw [E, ge_pua ha]
    have er : x9.toNatClampNeg = 64 * a1.toNatClampNeg + a2.toNatClampNeg := by omega
    rw [er] at E
    refine hk (a1, a2, y) V ⟨rfl, rfl, by dsimp only; omega, by dsimp only; omega, ⟨RV, FV, fun c' i hc' hi => ?_, fun c' hc' => ?_, fun r i q => ?_, fun i j q => ?_, fun i j q => ?_, fun i j q => ?_, fun i j => ?_⟩, fun t ht => ?_⟩ (by show (24 - y.toInt).toNat < (24 - a3.toInt).toNat; omega)
    · rw [E, ge_pui (by omega)]; exact A c' i hc' hi
    · rw [n _ _ _ (by decide)]; exact B c' hc'
    · rw [E, ge_pui (by omega)]; exact o1 r i q
    · rw [n _ _ _ (by decide)]; exact o2 i j q
    · rw [n _ _ _ (by decide)]; exact o3 i j q
    · rw [n _ _ _ (by decide)]; exact o4 i j q
    · rw [n _ _ _ (by decide)]; exact o5 i j
    · dsimp only at ht
      rw [E, ge_pu]
      by_cases z : t = a3.toNatClampNeg
      · rw [if_pos ⟨rfl, rfl, z⟩, ex, z]
      · rw [if_neg (fun q => z q.2.2)]; exact hW t (by omega)
theorem t7_lays (p1 : Int32) (S : fS) (RS : RI S) (hp : 0 ≤ p1.toInt ∧ p1.toInt ≤ 3) : zk (F_X7_lays p1 S) (fun _ T => RI T ∧ Fr 35433480192 S T ∧ LAY S T p1.toNatClampNeg ∧ OTH S T p1.toNatClampNeg) := by
  have l0 : (0 : Int32).toInt = 0 := by decide
  have l64 : (64 : Int32).toInt = 64 := by decide
  unfold F_X7_lays
  refine zk_lp (fun (z : Int32 × Int32) T => z.1 = p1 ∧ 0 ≤ z.2.toInt ∧ z.2.toInt ≤ 64 ∧ LI S T p1.toNatClampNeg z.2.toInt) (fun (z : Int32 × Int32) _ => (64 - z.2.toInt).toNat) (fun _ _ (_ : Int32) T => RI T ∧ Fr 35433480192 S T ∧ LAY S T p1.toNatClampNeg ∧ OTH S T p1.toNatClampNeg) ?_ (p1, 0) S ⟨rfl, by show (0 : Int) ≤ (0 : Int32).toInt; decide, by show (0 : Int32).toInt ≤ 64; decide, RS, Fr.rf, fun c i q _ => by have q : (c : Int) < (0 : Int32).toInt := q; omega, fun c q => by have q : (c : Int) < (0 : Int32).toInt := q; omega, fun _ _ _ => rfl, fun _ _ _ => rfl, fun _ _ _ => rfl, fun _ _ _ => rfl, fun _ _ => rfl⟩ (by show (64 - (0 : Int32).toInt).toNat < 4294967296; decide)
  intro k z T hI hk
  obtain ⟨a1, a2⟩ := z
  obtain ⟨h1, h2, h3, hL⟩ := hI
  dsimp only at h1 h2 h3 hL
  subst h1
  unfold B_X7_lays_2
  dsimp only
  refine zk_le (fun c => ?_) (fun c => ?_)
  · have e : a2.toInt = 64 := by omega
    rw [e] at hL
    exact h7_lays65 a1 S hp T hL
  · exact h7_lays10 k a1 a2 S hp ⟨h2, by omega⟩ (fun y V gy hV => hk (a1, y) V ⟨rfl, by dsimp only; omega, by dsimp only; omega, hV⟩ (by show (64 - y.toInt).toNat < (64 - a2.toInt).toNat; omega)) T hL
theorem KB.oth {k k0 : Nat} {n : Int} (h : KB S k n) (R : RI S) (o : OTH S T k0) (hk : k ≠ k0) : KB T k n := by
  obtain ⟨o1, o2, o3, o4, o5⟩ := o
  refine HB.cg h (fun i _ => ?_) (fun i _ => (R 65 k i).2) (fun c hc => ?_) (fun c i hc _ => ?_)
  · show (ge T 65 k i).toInt = (ge S 65 k i).toInt
    rw [o3 k i hk]
  · show (ge T 63 k c).toInt = (ge S 63 k c).toInt
    rw [o2 k c hk]
  · show (ge T 61 (64 * k + c) i).toInt = (ge S 61 (64 * k + c) i).toInt
    rw [o1 _ i (by omega)]
theorem KI.oth {k k0 : Nat} (h : KI S k) (R : RI S) (o : OTH S T k0) (hk : k ≠ k0) : KI T k := by
  obtain ⟨r, n, h1, h2, h3, h4, h5, h6, h7⟩ := h
  exact ⟨r, n, h1, h2, h3, h4, by rw [o.2.2.2.1 k 9 hk]; exact h5, h6.oth R o hk, fun t ht => by rw [o.2.2.2.2]; exact h7 t ht⟩
theorem LAY.kb {k0 : Nat} (h : HSm S) (R : RI S) (l : LAY S T k0) : KB T k0 (ge S 40 0 21).toInt := by
  have gn : (ge S 40 0 21).toInt ≤ 24 := (R 40 0 21).2
  obtain ⟨l1, l2, l3⟩ := l
  refine HB.cg h (fun i hi => ?_) (fun i _ => wl R i) (fun c hc => ?_) (fun c i hc hi => ?_)
  · show (ge T 65 k0 i).toInt = (ge S 50 0 i).toInt
    rw [l3 i (by omega)]
  · show (ge T 63 k0 c).toInt = (ge S 54 0 c).toInt
    rw [l2 c hc]
  · show (ge T 61 (64 * k0 + c) i).toInt = (ge S 53 c i).toInt
    have hi : (i : Int) < (ge S 54 0 c).toInt := hi
    have g : (ge S 54 0 c).toInt ≤ 24 := (R 54 0 c).2
    rw [l1 c i hc (by omega)]
end KEP
