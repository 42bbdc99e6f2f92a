/-! things that fall: the class -/
def Wmv (b a i j : Nat) : Bool := (Nat.beq a 8 || (Nat.beq a 9 || (Nat.beq a 10 || (Nat.beq a 1 && (Nat.beq j 7 || (Nat.beq j 8 || (Nat.beq j 9 || Nat.beq j 10))))))) && Nat.beq i b
theorem Whq_mv (b : Nat) : ∀ a i j : Nat, Wmv b a i j = false → Whq b a i j = false := by
  intro a i j h
  unfold Wmv at h
  unfold Whq
  cases h1 : Nat.beq i b
  · rw [Bool.and_false]
  · rw [h1, Bool.and_true] at h
    rw [Bool.and_true]
    cases h2 : Nat.beq a 8 <;> cases h3 : Nat.beq a 9 <;> cases h4 : Nat.beq a 10 <;> rw [h2, h3, h4] at h <;> first | rfl | cases h
section KMV
variable {S T : fS} {n : Int} {b r : Nat} {L : List Nat} {w0 : Nat → Int} {hp0 : Nat → Nat → Int} {ht0 : Nat → Int}
theorem y_grippedAt {p : Int32} {i : Nat} (hp : p.toInt = (i : Int)) (hi : i < 5) : pk (F_X5_grippedAt r p S) (fun v T => S = T ∧ v = ge S 26 r i) := by
  have l0 : (0 : Int32).toInt = 0 := by decide
  have l5 : (5 : Int32).toInt = 5 := by decide
  unfold F_X5_grippedAt
  refine pq_lt (fun c => absurd c (by omega)) (fun _ => ?_)
  refine pq_le (fun c => absurd c (by omega)) (fun _ => ?_)
  rw [cnNq hp]
  refine pq_gd fun _ => pq_iv fun x e => pq_some ⟨rfl, e⟩
theorem CV_at {w : Nat → Int} {hp : Nat → Nat → Int} {ht : Nat → Int} {t : Nat} (h : CVq S b n w hp ht) (htn : (t : Int) < n) (hw0 : 0 ≤ w t) : ∃ c j : Nat, c < 64 ∧ w t = (c : Int) ∧ (j : Int) < ht c ∧ hp c j = (t : Int) := by
  obtain ⟨k, hk, e⟩ := h.1.2.2 t htn hw0
  have a := (h.2.2.2.2.1 t htn).2
  exact ⟨(w t).toNat, k, by omega, by omega, hk, e⟩
/-- all that is gripped, in the class's rows -/
def GRc (S : fS) (r : Nat) (L : List Nat) : Prop := (ge S 25 r 16).toInt = (L.length : Int) ∧ (∀ k : Nat, k < L.length → (ge S 26 r k).toInt = ((L.getD k 0 : Nat) : Int)) ∧ L.length ≤ 5
theorem GRc.fx {V : Nat → Nat → Nat → Bool} (h : GRc S r L) (F : FX V S T) (h1 : V 25 r 16 = false) (h2 : ∀ k : Nat, V 26 r k = false) : GRc T r L := ⟨by rw [F.1 25 r 16 h1]; exact h.1, fun k hk => by rw [F.1 26 r k (h2 k)]; exact h.2.1 k hk, h.2.2⟩
theorem y_valueOfAll (hG : GRc S r L) (hsz : (ge S 2 b 0).toInt = n) (h24 : n ≤ 24) (hin : ∀ u, u ∈ L → (u : Int) < n) (hv : ∀ t : Nat, (t : Int) < n → ge S 5 b t = ge S 48 0 t) : pk (F_X2_valueOfAll b r S) (fun v T => S = T ∧ v = vsm S L) := by
  have l0 : (0 : Int32).toInt = 0 := by decide
  obtain ⟨g1, g2, g3⟩ := hG
  unfold F_X2_valueOfAll
  refine pq_lp (fun (z : Int32 × Int32) T => S = T ∧ ∃ i : Nat, z.2.toInt = (i : Int) ∧ i ≤ L.length ∧ z.1 = vsm S (L.take i)) (fun _ _ (v : Int32) T => S = T ∧ v = vsm S L) ?_ fuel (0, 0) S ⟨rfl, 0, l0, Nat.zero_le _, rfl⟩
  intro k hk z T hI
  obtain ⟨a2, a3⟩ := z
  obtain ⟨rfl, i, i1, i2, i3⟩ := hI
  dsimp only at i1 i3
  unfold B_X2_valueOfAll_4
  dsimp only
  refine pq_iv fun x1 e1 => ?_
  refine pq_le (fun c0 => pq_some ⟨rfl, ?_⟩) (fun c0 => ?_)
  · rw [e1, g1] at c0
    rw [i3, show i = L.length from by omega, List.take_length]
  · rw [e1, g1] at c0
    have hiL : i < L.length := by omega
    refine pq_bd (y_grippedAt i1 (by omega)) (fun v3 T q => ?_)
    obtain ⟨rfl, q3⟩ := q
    have g := g2 i hiL
    rw [← q3] at g
    have hn := hin _ (getD_mem hiL)
    unfold F_X2_valueOf
    refine pq_bd (Q1 := fun v T => S = T ∧ v = ge S 48 0 (L.getD i 0)) ?_ (fun v6 T q => ?_)
    · refine pq_bd (y_known b v3) (fun v T q => ?_)
      obtain ⟨rfl, q⟩ := q
      refine pq_eq (fun c => absurd c (by omega)) (fun _ => ?_)
      rw [cnNq g]
      refine pq_gd fun _ => pq_iv fun x e => pq_some ⟨rfl, ?_⟩
      rw [e]
      exact hv _ hn
    · obtain ⟨rfl, q6⟩ := q
      refine pq_iv fun x9 e9 => pq_iv fun x10 e10 => ?_
      have g10 : x10.toInt = a3.toInt + 1 := by rw [e10]; exact ti_inc (by omega)
      exact hk (x9, x10) S ⟨rfl, i + 1, by dsimp only; omega, by omega, by rw [take_sn hiL, vsm_app, e9, i3, q6]⟩
/-- the class puts what was let go -/
theorem y_puts {lc : Nat} {x : Int32} (hc : lc < 64) (hnd : L.Nodup) (hin : ∀ u, u ∈ L → (u : Int) < n ∧ 0 ≤ w0 u) (hG : GRc S r L) (hx : (ge S 25 r 2).toInt = (lc : Int)) (h : ∃ (w : Nat → Int) (hp : Nat → Nat → Int) (ht : Nat → Int), CVq S b n w hp ht ∧ MVq L none w0 (HLv hp0 ht0) w (HLv hp ht) n) : pk (lp (B_X0_move_119 b r) fuel 0 S) (fun _ T => FX (Whq b) S T ∧ ∃ (w : Nat → Int) (hp : Nat → Nat → Int) (ht : Nat → Int), CVq T b n w hp ht ∧ MVq L (some lc) w0 (HLv hp0 ht0) w (HLv hp ht) n) := by
  have l0 : (0 : Int32).toInt = 0 := by decide
  obtain ⟨w, hp, ht, hC, hM⟩ := h
  refine pq_lp (fun (z : Int32) T => FX (Whq b) S T ∧ ∃ i : Nat, z.toInt = (i : Int) ∧ i ≤ L.length ∧ ∃ (w : Nat → Int) (hp : Nat → Nat → Int) (ht : Nat → Int), CVq T b n w hp ht ∧ (∀ c : Nat, c < 64 → HLv hp ht c = flt L (HLv hp0 ht0 c) ++ (if c = lc then L.take i else [])) ∧ ∀ u : Nat, (u : Int) < n → w u = if u ∈ L.take i then (lc : Int) else if u ∈ L then -1 else w0 u) (fun _ _ (_ : Int32) T => FX (Whq b) S T ∧ ∃ (w : Nat → Int) (hp : Nat → Nat → Int) (ht : Nat → Int), CVq T b n w hp ht ∧ MVq L (some lc) w0 (HLv hp0 ht0) w (HLv hp ht) n) ?_ fuel 0 S ⟨FX.rf, 0, l0, Nat.zero_le _, w, hp, ht, hC, fun c hc => by rw [hM.1 c hc, List.take_zero, if_neg (fun q => nomatch q)]; split <;> rfl, fun u hu => by rw [List.take_zero, if_neg (fun q => nomatch q), hM.2 u hu]⟩
  intro k hk z T hI
  obtain ⟨F, i, i1, i2, w, hp, ht, hC, hX, hW⟩ := hI
  have hGT := hG.fx F rfl (fun _ => rfl)
  unfold B_X0_move_119
  refine pq_iv fun x1 e1 => ?_
  refine pq_le (fun c0 => pq_some ⟨F, w, hp, ht, hC, fun c hc => ?_, fun u hu => ?_⟩) (fun c0 => ?_)
  · rw [e1, hGT.1] at c0
    rw [hX c hc, show i = L.length from by omega, List.take_length]
    by_cases z : c = lc
    · rw [if_pos z, if_pos (by rw [z])]
    · rw [if_neg z, if_neg (fun q => z (Option.some.inj q).symm)]
  · rw [e1, hGT.1] at c0
    rw [hW u hu, show i = L.length from by omega, List.take_length]
    by_cases z : u ∈ L
    · rw [if_pos z, if_pos z]
    · rw [if_neg z, if_neg z, if_neg z]
  · rw [e1, hGT.1] at c0
    have hiL : i < L.length := by omega
    have mem := getD_mem hiL
    have notin := nd_at hnd hiL
    obtain ⟨t, htt⟩ : ∃ t : Nat, t = L.getD i 0 := ⟨_, rfl⟩
    rw [← htt] at mem notin
    have hti := hin t mem
    have tk := take_sn hiL
    rw [← htt] at tk
    refine pq_bd (y_grippedAt i1 (by have := hG.2.2; omega)) (fun v3 U q => ?_)
    obtain ⟨rfl, q3⟩ := q
    have g3 : v3.toInt = (t : Int) := by rw [q3, htt]; exact hGT.2.1 i hiL
    refine pq_iv fun x6 e6 => ?_
    rw [F.1 25 r 2 rfl] at e6
    refine pq_bd (y_put hC g3 hti.1 (by rw [e6]; exact hx) hc (by rw [hW t hti.1, if_neg notin, if_pos mem]; decide)) (fun _ U q => ?_)
    obtain ⟨FU, CU⟩ := q
    refine pq_iv fun x10 e10 => ?_
    have g10 : x10.toInt = z.toInt + 1 := by rw [e10]; exact ti_inc (by have := hG.2.2; omega)
    refine hk x10 U ⟨F.tr FU, i + 1, by omega, by omega, _, _, _, CU, fun c hc' => ?_, fun u hu => ?_⟩
    · rw [HLv_P (hC.2.2.2.2.2 lc hc)]
      by_cases z : c = lc
      · rw [if_pos z, hX lc hc, if_pos rfl, if_pos z, tk, List.append_assoc, z]
      · rw [if_neg z, hX c hc', if_neg z, if_neg z]
    · unfold wU
      by_cases z : u = t
      · rw [if_pos z, tk, if_pos (by rw [z]; exact List.mem_append.2 (Or.inr (List.mem_singleton.2 rfl)))]
      · rw [if_neg z, hW u hu, tk]
        by_cases z2 : u ∈ L.take i
        · rw [if_pos z2, if_pos (List.mem_append.2 (Or.inl z2))]
        · rw [if_neg z2, if_neg (fun q => (List.mem_append.1 q).elim z2 (fun q => z (List.mem_singleton.1 q)))]
/-- the class's fall -/
theorem y_fall (hC : CVq S b n w0 hp0 ht0) (hnd : L.Nodup) (hin : ∀ u, u ∈ L → (u : Int) < n ∧ 0 ≤ w0 u) (hG : GRc S r L) (lc : Option Nat) (ho : (ge S 25 r 1 = 3 ∧ ∃ c : Nat, lc = some c ∧ c < 64 ∧ (ge S 25 r 2).toInt = (c : Int)) ∨ (ge S 25 r 1 = 5 ∧ lc = none)) (hv : ∀ t : Nat, (t : Int) < n → ge S 5 b t = ge S 48 0 t) : pk (B_X0_move_62 b r S) (fun _ T => FX (Wmv b) S T ∧ (∃ (w : Nat → Int) (hp : Nat → Nat → Int) (ht : Nat → Int), CVq T b n w hp ht ∧ MVq L lc w0 (HLv hp0 ht0) w (HLv hp ht) n) ∧ (∀ j : Nat, j ≠ 10 → ge T 1 b j = ge S 1 b j) ∧ ge T 1 b 10 = ge S 1 b 10 + (if ge S 25 r 1 = 5 then vsm S L else 0)) := by
  have l0 : (0 : Int32).toInt = 0 := by decide
  have lm1 : (-1 : Int32).toInt = -1 := by decide
  unfold B_X0_move_62
  refine pq_lp (fun (z : Int32) T => FX (Whq b) S T ∧ ∃ i : Nat, z.toInt = (i : Int) ∧ i ≤ L.length ∧ ∃ (w : Nat → Int) (hp : Nat → Nat → Int) (ht : Nat → Int), CVq T b n w hp ht ∧ MVq (L.take i) none w0 (HLv hp0 ht0) w (HLv hp ht) n) (fun _ _ (_ : Int32) T => FX (Wmv b) S T ∧ (∃ (w : Nat → Int) (hp : Nat → Nat → Int) (ht : Nat → Int), CVq T b n w hp ht ∧ MVq L lc w0 (HLv hp0 ht0) w (HLv hp ht) n) ∧ (∀ j : Nat, j ≠ 10 → ge T 1 b j = ge S 1 b j) ∧ ge T 1 b 10 = ge S 1 b 10 + (if ge S 25 r 1 = 5 then vsm S L else 0)) ?_ fuel 0 S ⟨FX.rf, 0, l0, Nat.zero_le _, w0, hp0, ht0, hC, fun c _ => by rw [List.take_zero, flt_nil, if_neg (fun q => nomatch q), List.append_nil], fun u _ => by rw [List.take_zero, if_neg (fun q => nomatch q)]⟩
  intro k hk z T hI
  obtain ⟨F, i, i1, i2, w, hp, ht, hCT, hM⟩ := hI
  have hGT := hG.fx F rfl (fun _ => rfl)
  unfold B_X0_move_64
  refine pq_iv fun x11 e11 => ?_
  refine pq_le (fun c0 => ?_) (fun c0 => ?_)
  · rw [e11, hGT.1] at c0
    have e : i = L.length := by omega
    rw [e, List.take_length] at hM
    refine pq_iv fun x13 e13 => ?_
    rw [F.1 25 r 1 rfl] at e13
    refine pq_bb (fun c5 => ?_) (fun c5 => ?_)
    · have o5 : ge S 25 r 1 = 5 := e13.symm.trans c5
      have hlc : lc = none := by
        rcases ho with ⟨h, _⟩ | ⟨_, h⟩
        · rw [o5] at h; exact absurd h (by decide)
        · exact h
      refine pq_iv fun x15 e15 => ?_
      rw [F.1 1 b 10 rfl] at e15
      refine pq_bd (y_valueOfAll hGT hCT.2.2.1 hCT.2.2.2.1 (fun u hu => (hin u hu).1) (fun t ht => by rw [F.1 5 b t rfl, F.1 48 0 t rfl]; exact hv t ht)) (fun v16 U q => ?_)
      obtain ⟨rfl, q16⟩ := q
      have q16 : v16 = vsm S L := by
        rw [q16]
        unfold vsm
        congr 1
        funext a t
        rw [F.1 48 0 t rfl]
      refine pq_iv fun x19 e19 => pq_sv fun S20 E20 => pq_some ?_
      have F20 : FX (Wmv b) S S20 := by rw [E20]; exact (F.sub (Whq_mv b)).wr (Nat.beq_refl b)
      have F20' : FX (fun a i j => Nat.beq a 1 && Nat.beq j 10) T S20 := by rw [E20]; exact FX.rf.wr rfl
      refine ⟨F20, ⟨w, hp, ht, hCT.fx F20' (fun _ => rfl) (fun _ => rfl) (fun _ => rfl) (fun _ => rfl), ?_⟩, fun j hj => ?_, ?_⟩
      · rw [hlc]; exact hM
      · rw [E20, ge_puj hj]
        exact F.1 1 b j rfl
      · rw [E20, ge_pus, if_pos o5, e19, e15, q16]
    · have o3 : ge S 25 r 1 = 3 := by
        rcases ho with ⟨h, _⟩ | ⟨h, _⟩
        · exact h
        · exact absurd (e13.trans h) c5
      rcases ho with ⟨_, c, hlc, hc, h2⟩ | ⟨h, _⟩
      · refine pq_imp (y_puts hc hnd hin hGT (by rw [F.1 25 r 2 rfl]; exact h2) ⟨w, hp, ht, hCT, hM⟩ (x := 0)) (fun _ U q => ?_)
        obtain ⟨FU, w', hp', ht', q1, q2⟩ := q
        have FSU := F.tr FU
        refine ⟨FSU.sub (Whq_mv b), ⟨w', hp', ht', q1, by rw [hlc]; exact q2⟩, fun j _ => FSU.1 1 b j rfl, ?_⟩
        rw [if_neg (by rw [o3]; decide), FSU.1 1 b 10 rfl, Int32.add_zero]
      · rw [o3] at h
        exact absurd h (by decide)
  · rw [e11, hGT.1] at c0
    have hiL : i < L.length := by omega
    have mem := getD_mem hiL
    have notin := nd_at hnd hiL
    obtain ⟨t, htt⟩ : ∃ t : Nat, t = L.getD i 0 := ⟨_, rfl⟩
    rw [← htt] at mem notin
    have hti := hin t mem
    have tk := take_sn hiL
    rw [← htt] at tk
    refine pq_bd (y_grippedAt i1 (by have := hG.2.2; omega)) (fun v21 U q => ?_)
    obtain ⟨rfl, q21⟩ := q
    have g21 : v21.toInt = (t : Int) := by rw [q21, htt]; exact hGT.2.1 i hiL
    have hwt : w t = w0 t := by rw [hM.2 t hti.1, if_neg notin]
    obtain ⟨c, j, hc, hwc, hj, htj⟩ := CV_at hCT hti.1 (by rw [hwt]; exact hti.2)
    refine pq_bd (y_takeOut hCT g21 hti.1 hwc hc hj htj (x := -1) (by decide)) (fun _ U q => ?_)
    obtain ⟨FU, CU⟩ := q
    refine pq_iv fun x27 e27 => ?_
    have g27 : x27.toInt = z.toInt + 1 := by rw [e27]; exact ti_inc (by have := hG.2.2; omega)
    refine hk x27 U ⟨F.tr FU, i + 1, by omega, by omega, _, _, _, CU, fun c' hc' => ?_, fun u hu => ?_⟩
    · rw [HLv_T hCT.1 hc hj htj hc', hM.1 c' hc', if_neg (fun q => nomatch q), if_neg (fun q => nomatch q), List.append_nil, List.append_nil, flt_snoc, tk]
    · unfold wU
      by_cases z : u = t
      · rw [if_pos z, tk, if_pos (by rw [z]; exact List.mem_append.2 (Or.inr (List.mem_singleton.2 rfl)))]
        exact lm1
      · rw [if_neg z, hM.2 u hu, tk]
        by_cases z2 : u ∈ L.take i
        · rw [if_pos z2, if_pos (List.mem_append.2 (Or.inl z2))]
        · rw [if_neg z2, if_neg (fun q => (List.mem_append.1 q).elim z2 (fun q => z (List.mem_singleton.1 q)))]
/-- the counters of the class's try -/
def CNk (S T : fS) (b : Nat) (o fell : Int32) : Prop := ge T 1 b 7 = ge S 1 b 7 + 1 ∧ ge T 1 b 8 = (if o = 5 then 0 else ge S 1 b 8 + 1) ∧ ge T 1 b 9 = ge S 1 b 9 + ge S 1 b 3 ∧ ge T 1 b 10 = ge S 1 b 10 + fell
theorem y_move (hC : CVq S b n w0 hp0 ht0) (hnd : L.Nodup) (hin : ∀ u, u ∈ L → (u : Int) < n ∧ 0 ≤ w0 u) (hG : GRc S r L) (lc : Option Nat) (ho : (ge S 25 r 1 = 3 ∧ ∃ c : Nat, lc = some c ∧ c < 64 ∧ (ge S 25 r 2).toInt = (c : Int)) ∨ (ge S 25 r 1 = 5 ∧ lc = none) ∨ (ge S 25 r 1 ≠ 3 ∧ ge S 25 r 1 ≠ 5)) (hv : ∀ t : Nat, (t : Int) < n → ge S 5 b t = ge S 48 0 t) : pk (F_X0_move b r S) (fun _ T => FX (Wmv b) S T ∧ (∃ (w : Nat → Int) (hp : Nat → Nat → Int) (ht : Nat → Int), CVq T b n w hp ht ∧ (if ge S 25 r 1 = 3 ∨ ge S 25 r 1 = 5 then MVq L lc w0 (HLv hp0 ht0) w (HLv hp ht) n else MVq [] none w0 (HLv hp0 ht0) w (HLv hp ht) n)) ∧ CNk S T b (ge S 25 r 1) (if ge S 25 r 1 = 5 then vsm S L else 0)) := by
  unfold F_X0_move
  refine pq_iv fun x37 e37 => pq_iv fun x38 e38 => pq_sv fun S39 E39 => ?_
  refine pq_iv fun x40 e40 => ?_
  rw [E39, ge_pua (by decide)] at e40
  have F39 : FX (Wmv b) S S39 := by rw [E39]; exact FX.rf.wr (Nat.beq_refl b)
  have J : ∀ v : Int32, v = (if ge S 25 r 1 = 5 then 0 else ge S 1 b 8 + 1) → pk (B_X0_move_29 b r v S39) (fun _ T => FX (Wmv b) S T ∧ (∃ (w : Nat → Int) (hp : Nat → Nat → Int) (ht : Nat → Int), CVq T b n w hp ht ∧ (if ge S 25 r 1 = 3 ∨ ge S 25 r 1 = 5 then MVq L lc w0 (HLv hp0 ht0) w (HLv hp ht) n else MVq [] none w0 (HLv hp0 ht0) w (HLv hp ht) n)) ∧ CNk S T b (ge S 25 r 1) (if ge S 25 r 1 = 5 then vsm S L else 0)) := by
    intro v hvv
    unfold B_X0_move_29
    refine pq_sv fun S28 E28 => pq_iv fun x29 e29 => pq_iv fun x30 e30 => pq_iv fun x31 e31 => pq_sv fun S32 E32 => ?_
    rw [E28, ge_puj (by decide), E39, ge_puj (by decide)] at e29
    rw [E28, ge_puj (by decide), E39, ge_puj (by decide)] at e30
    have F28 : FX (Wmv b) S S28 := by rw [E28]; exact F39.wr (Nat.beq_refl b)
    have F32 : FX (Wmv b) S S32 := by rw [E32]; exact F28.wr (Nat.beq_refl b)
    have F1 : FX (fun a i j => Nat.beq a 1 && (Nat.beq j 7 || (Nat.beq j 8 || Nat.beq j 9))) S S32 := by
      rw [E32, E28, E39]
      exact ((FX.rf.wr rfl).wr rfl).wr rfl
    have C32 : CVq S32 b n w0 hp0 ht0 := hC.fx F1 (fun _ => rfl) (fun _ => rfl) (fun _ => rfl) (fun _ => rfl)
    have G32 := hG.fx F1 rfl (fun _ => rfl)
    have o32 : ge S32 25 r 1 = ge S 25 r 1 := F1.1 25 r 1 rfl
    have c7 : ge S32 1 b 7 = ge S 1 b 7 + 1 := by rw [E32, ge_puj (by decide), E28, ge_puj (by decide), E39, ge_pus, e38, e37]
    have c8 : ge S32 1 b 8 = (if ge S 25 r 1 = 5 then 0 else ge S 1 b 8 + 1) := by rw [E32, ge_puj (by decide), E28, ge_pus, hvv]
    have c9 : ge S32 1 b 9 = ge S 1 b 9 + ge S 1 b 3 := by rw [E32, ge_pus, e31, e29, e30]
    have c10 : ge S32 1 b 10 = ge S 1 b 10 := by rw [E32, ge_puj (by decide), E28, ge_puj (by decide), E39, ge_puj (by decide)]
    have go : (ge S 25 r 1 = 3 ∨ ge S 25 r 1 = 5) → pk (B_X0_move_62 b r S32) (fun _ T => FX (Wmv b) S T ∧ (∃ (w : Nat → Int) (hp : Nat → Nat → Int) (ht : Nat → Int), CVq T b n w hp ht ∧ (if ge S 25 r 1 = 3 ∨ ge S 25 r 1 = 5 then MVq L lc w0 (HLv hp0 ht0) w (HLv hp ht) n else MVq [] none w0 (HLv hp0 ht0) w (HLv hp ht) n)) ∧ CNk S T b (ge S 25 r 1) (if ge S 25 r 1 = 5 then vsm S L else 0)) := by
      intro h35
      have vs : vsm S32 L = vsm S L := by
        unfold vsm
        congr 1
        funext a t
        rw [F1.1 48 0 t rfl]
      refine pq_imp (y_fall C32 hnd hin G32 lc ?_ (fun t ht => by rw [F1.1 5 b t rfl, F1.1 48 0 t rfl]; exact hv t ht)) (fun _ T q => ?_)
      · rw [o32, F1.1 25 r 2 rfl]
        rcases ho with h | h | ⟨h1, h2⟩
        · exact Or.inl h
        · exact Or.inr h
        · exact (h35.elim h1 h2).elim
      · obtain ⟨q1, ⟨w, hp, ht, q2, q3⟩, q4, q5⟩ := q
        refine ⟨F32.tr q1, ⟨w, hp, ht, q2, by rw [if_pos h35]; exact q3⟩, by rw [q4 7 (by decide), c7], by rw [q4 8 (by decide), c8], by rw [q4 9 (by decide), c9], ?_⟩
        rw [q5, o32, c10, vs]
    refine pq_iv fun x33 e33 => ?_
    rw [o32] at e33
    refine pq_bb (fun c5 => go (Or.inr (e33.symm.trans c5))) (fun c5 => ?_)
    refine pq_iv fun x35 e35 => ?_
    rw [o32] at e35
    refine pq_bb (fun c3 => go (Or.inl (e35.symm.trans c3))) (fun c3 => ?_)
    have n3 : ¬ ge S 25 r 1 = 3 := fun q => c3 (e35.trans q)
    have n5 : ¬ ge S 25 r 1 = 5 := fun q => c5 (e33.trans q)
    refine pq_some ⟨F32, ⟨w0, hp0, ht0, C32, ?_⟩, c7, c8, c9, by rw [c10, if_neg n5, Int32.add_zero]⟩
    rw [if_neg (fun q => q.elim n3 n5)]
    exact ⟨fun c _ => by rw [flt_nil, if_neg (fun q => nomatch q), List.append_nil], fun u _ => by rw [if_neg (fun q => nomatch q)]⟩
  refine pq_bb (fun c => J 0 (by rw [← e40, if_pos c])) (fun c => ?_)
  refine pq_iv fun x42 e42 => pq_iv fun x43 e43 => J x43 ?_
  rw [E39, ge_puj (by decide)] at e42
  rw [← e40, if_neg c, e43, e42]
end KMV
