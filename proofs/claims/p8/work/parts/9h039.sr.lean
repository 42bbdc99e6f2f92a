/-! the same reference part -/
def SRq (S T : fS) : Prop := ∀ a i j : Nat, 40 ≤ a → ge T a i j = ge S a i j
section SRS
variable {S T U : fS}
theorem SRq.rf : SRq S S := fun _ _ _ _ => rfl
theorem SRq.tr (h : SRq S T) (h2 : SRq T U) : SRq S U := fun a i j q => (h2 a i j q).trans (h a i j q)
theorem FX.sr {V : Nat → Nat → Nat → Bool} (F : FX V S T) (h : ∀ a i j : Nat, 40 ≤ a → V a i j = false) : SRq S T := fun a i j q => F.1 a i j (h a i j q)
theorem SRq.hhE (h : SRq S T) : hh T = hh S := funext fun c => by unfold hh; rw [h 54 0 c (by decide)]
theorem SRq.hqE (h : SRq S T) : hq T = hq S := funext fun c => funext fun k => by unfold hq; rw [h 53 c k (by decide)]
theorem SRq.hwE (h : SRq S T) : hw T = hw S := funext fun c => by unfold hw; rw [h 50 0 c (by decide)]
theorem SRq.nqE (h : SRq S T) : nq T = nq S := by unfold nq; rw [h 40 0 21 (by decide)]
theorem SRq.tqE (h : SRq S T) : tq T = tq S := funext fun c => by unfold tq; rw [h.hhE, h.hqE]
theorem SRq.gnE (h : SRq S T) (c : Nat) (lk : Int32) (d : Nat) : gn T c lk d = gn S c lk d := by unfold gn; rw [h.tqE, h 47 0 _ (by decide)]
theorem SRq.gFE (h : SRq S T) (c : Nat) (lk : Int32) : ∀ d : Nat, gF T c lk d = gF S c lk d
  | 0 => rfl
  | d + 1 => by
    show gF T c lk d ++ _ = gF S c lk d ++ _
    rw [h.gFE c lk d, h.gnE]
theorem SRq.gLE (h : SRq S T) (c : Nat) : gL T c = gL S c := by unfold gL; rw [h.tqE, h 47 0 _ (by decide), h.gFE]
theorem SRq.wsmE (h : SRq S T) (L : List Nat) : wsm T L = wsm S L := by
  unfold wsm
  congr 1
  funext a t
  rw [h 46 0 t (by decide)]
theorem SRq.vsmE (h : SRq S T) (L : List Nat) : vsm T L = vsm S L := by
  unfold vsm
  congr 1
  funext a t
  rw [h 48 0 t (by decide)]
theorem SRq.wrdE (h : SRq S T) (L : List Nat) : wrd T L = wrd S L := by
  unfold wrd
  congr 1
  funext t
  rw [h 51 0 t (by decide)]
theorem SRq.upqE (h : SRq S T) (c : Nat) : upq T c = upq S c := by unfold upq; rw [h.hhE]
theorem SRq.hoNE (h : SRq S T) : hoN T = hoN S := by unfold hoN; rw [h 40 0 30 (by decide)]
theorem SRq.misBE (h : SRq S T) (c : Nat) : misB T c = misB S c := by unfold misB; rw [h.tqE, h 40 0 30 (by decide), h 40 0 31 (by decide)]
theorem SRq.misE (h : SRq S T) (c : Nat) : mis T c = mis S c := by unfold mis; rw [h.tqE, h 40 0 30 (by decide), h 40 0 31 (by decide)]
theorem SRq.stSE (h : SRq S T) (c : Nat) (g s : Int32) : stS T c g s = stS S c g s := by unfold stS; rw [h.gLE, h.wsmE, h.hoNE, h.upqE]
theorem SRq.oqE (h : SRq S T) (c : Nat) (g s : Int32) : oq T c g s = oq S c g s := by unfold oq; rw [h.misBE, h.gLE, h.wrdE, h.stSE, h.hoNE, h.upqE]
theorem SRq.lgqE (h : SRq S T) (c : Nat) (g s : Int32) : lgq T c g s = lgq S c g s := by unfold lgq; rw [h.oqE, h.stSE, h.hoNE, h.upqE]
theorem SRq.glqE (h : SRq S T) (c : Nat) : glq T c = glq S c := by unfold glq; rw [h.misBE, h.gLE]
theorem SRq.HSE (h : SRq S T) : HS T = HS S := funext fun c => by unfold HS; rw [h.hqE, h.hhE]
theorem SRq.HV (h : SRq S T) (H : HVq S) : HVq T := by
  obtain ⟨h1, h2, h3, h4⟩ := H
  refine ⟨by rw [h.nqE, h.hwE, h.hqE, h.hhE]; exact h1, by rw [h.hhE]; exact h2, by rw [h.nqE]; exact h3, fun t ht => ?_⟩
  rw [h.nqE] at ht
  rw [h 47 0 t (by decide), h 51 0 t (by decide), h.hwE]
  exact h4 t ht
theorem SRq.env1E (h : SRq S T) (lot : Int32) : env1 T lot = env1 S lot := funext fun i => by unfold env1; rw [h 40 0 35 (by decide), h 40 0 36 (by decide), h 40 0 37 (by decide), h 40 0 32 (by decide), h 40 0 38 (by decide), h 40 0 33 (by decide)]
theorem SRq.btxE (h : SRq S T) (t : Nat) : btx T t = btx S t := funext fun k => by unfold btx; rw [h 44 0 t (by decide), h 43 t k (by decide)]
theorem SRq.TP (h : SRq S T) {o : Int} {env : Nat → Int32} {g : G3} (hT : TPq S o env g) : TPq T o env g := by
  rcases hT with a | ⟨t, a, b, e⟩
  · exact Or.inl a
  · exact Or.inr ⟨t, a, b, by rw [h.btxE]; exact e⟩
theorem SRq.TPr (h : SRq S T) {o : Int} {env : Nat → Int32} {g : G3} (hT : TPq T o env g) : TPq S o env g := by
  rcases hT with a | ⟨t, a, b, e⟩
  · exact Or.inl a
  · exact Or.inr ⟨t, a, b, by rw [← h.btxE]; exact e⟩
theorem SRq.TL (h : SRq S T) {lot : Int32} {g : G3} (hT : TLq S lot g) : TLq T lot g := by
  unfold TLq
  rw [h 40 0 15 (by decide), h.env1E]
  exact h.TP hT
theorem SRq.BV (h : SRq S T) {b : Nat} (B : BVq S b) (h1 : ∀ a j : Nat, (1 ≤ a ∧ a ≤ 10) → ge T a b j = ge S a b j) : BVq T b := by
  obtain ⟨⟨c1, c2, c3, c4, c5, c6⟩, b2, b3, b4⟩ := B
  refine ⟨⟨by rw [h.nqE, h.hwE, h.hqE, h.hhE]; exact c1, by rw [h.hqE, h.hhE]; exact c2.cg (fun _ _ => rfl) (fun _ _ _ _ => rfl) (fun c _ => by rw [h1 10 c (by decide)]) (fun c k _ _ => by rw [h1 9 _ (by decide)]), by rw [h1 2 0 (by decide), h.nqE]; exact c3, by rw [h.nqE]; exact c4, fun t ht => by rw [h.nqE] at ht; rw [h1 8 t (by decide), h.hwE]; exact c5 t ht, by rw [h.hhE]; exact c6⟩, fun t ht => ?_, by rw [h1 1 1 (by decide), h 40 0 30 (by decide)]; exact b3, by rw [h1 1 2 (by decide), h 40 0 31 (by decide)]; exact b4⟩
  rw [h.nqE] at ht
  rw [h1 3 t (by decide), h1 4 t (by decide), h1 5 t (by decide), h1 6 t (by decide), h1 7 t (by decide), h 46 0 t (by decide), h 47 0 t (by decide), h 48 0 t (by decide), h 51 0 t (by decide), h 49 0 t (by decide)]
  exact b2 t ht
theorem SRq.NB (h : SRq S T) {b : Nat} (N : NBq S b) (h1 : ∀ j : Nat, ge T 1 b j = ge S 1 b j) : NBq T b := by
  unfold NBq
  rw [h1 3, h1 4, h1 7, h1 8, h1 9, h1 10, h 40 0 32 (by decide), h 40 0 33 (by decide), h 40 0 35 (by decide), h 40 0 36 (by decide), h 40 0 37 (by decide), h 40 0 38 (by decide)]
  exact N
theorem SRq.LO (h : SRq S T) {r c : Nat} {V : fS} (hL : LOq T V r c) : LOq S V r c := by
  unfold LOq GTq at *
  rw [h.misE, h.gLE, h.wsmE, h.wrdE, h.hoNE, h.upqE, h 40 0 30 (by decide)] at hL
  exact hL
theorem SRq.CA (h : SRq S T) {r c : Nat} {V : fS} {g s : Int32} (hL : CAq T V r c g s) : CAq S V r c g s := by
  unfold CAq at *
  rw [h.misE, h.gLE, h.wsmE, h.hoNE, h.upqE, h 40 0 30 (by decide), h.oqE, h.lgqE, h.glqE] at hL
  exact hL
end SRS
/-! what is gripped lies somewhere, each once -/
section GND
variable {S : fS} {c : Nat} {lk : Int32}
theorem tq_w (H : HVq S) (hc : c < 64) (h : ¬ tq S c = -1) : hw S (tq S c).toNat = (c : Int) := by
  unfold tq at h ⊢
  by_cases z : hh S c ≤ 0
  · rw [if_pos z] at h; exact absurd rfl h
  · rw [if_neg z]
    exact (H.1.1 c (hh S c - 1).toNat hc (by omega)).2.2
theorem gn_w (H : HVq S) (hc : c < 64) {d u : Nat} (hu : u ∈ gn S c lk d) : hw S u = nbI c d ∧ 0 ≤ nbI c d := by
  have hin := nbI_in (c := c) (d := d) hc
  unfold gn at hu
  by_cases h1 : nbI c d = -1
  · rw [if_pos h1] at hu; cases hu
  · rw [if_neg h1] at hu
    by_cases h2 : tq S (nbI c d).toNat = -1
    · rw [if_pos h2] at hu; cases hu
    · rw [if_neg h2] at hu
      have a := tq_w H (c := (nbI c d).toNat) (by omega) h2
      by_cases h3 : ge S 47 0 (tq S (nbI c d).toNat).toNat = lk
      · rw [if_pos h3] at hu
        have e := List.mem_singleton.1 hu
        rw [e, a]
        omega
      · rw [if_neg h3] at hu; cases hu
theorem gn_nd (d : Nat) : (gn S c lk d).Nodup := by
  unfold gn
  by_cases h1 : nbI c d = -1
  · rw [if_pos h1]; exact List.nodup_nil
  · rw [if_neg h1]
    by_cases h2 : tq S (nbI c d).toNat = -1
    · rw [if_pos h2]; exact List.nodup_nil
    · rw [if_neg h2]
      by_cases h3 : ge S 47 0 (tq S (nbI c d).toNat).toNat = lk
      · rw [if_pos h3]; exact List.nodup_cons.2 ⟨(fun q => nomatch q), List.nodup_nil⟩
      · rw [if_neg h3]; exact List.nodup_nil
theorem gF_w (H : HVq S) (hc : c < 64) : ∀ (d u : Nat), u ∈ gF S c lk d → ∃ e : Nat, e < d ∧ hw S u = nbI c e ∧ 0 ≤ nbI c e
  | 0, _, h => nomatch h
  | d + 1, u, h => (List.mem_append.1 h).elim (fun q => by
      obtain ⟨e, e1, e2⟩ := gF_w H hc d u q
      exact ⟨e, by omega, e2⟩) (fun q => ⟨d, by omega, gn_w H hc q⟩)
theorem nb_ne {d e : Nat} (h : e < d) (hd : d < 4) (h1 : 0 ≤ nbI c d) (h2 : 0 ≤ nbI c e) : nbI c d ≠ nbI c e := by
  unfold nbI at *
  omega
theorem gF_nd (H : HVq S) (hc : c < 64) : ∀ d : Nat, d ≤ 4 → (gF S c lk d).Nodup
  | 0, _ => List.nodup_nil
  | d + 1, hd => by
    show (gF S c lk d ++ gn S c lk d).Nodup
    rw [List.nodup_append]
    refine ⟨gF_nd H hc d (by omega), gn_nd d, fun u hu v hv e => ?_⟩
    obtain ⟨e1, a1, a2, a3⟩ := gF_w H hc d u hu
    obtain ⟨b1, b2⟩ := gn_w H hc hv
    rw [← e, a2] at b1
    exact nb_ne a1 (by omega) b2 a3 b1.symm
theorem gL_nd (H : HVq S) (hc : c < 64) (h : ¬ tq S c = -1) : (gL S c).Nodup := by
  unfold gL
  refine List.nodup_cons.2 ⟨fun q => ?_, ?_⟩
  · by_cases z : 0 < (ge S 47 0 (tq S c).toNat).toInt
    · rw [if_pos z] at q
      obtain ⟨e, a1, a2, a3⟩ := gF_w H hc 4 _ q
      rw [tq_w H hc h] at a2
      unfold nbI at a2 a3
      omega
    · rw [if_neg z] at q; cases q
  · by_cases z : 0 < (ge S 47 0 (tq S c).toNat).toInt
    · rw [if_pos z]; exact gF_nd H hc 4 (by omega)
    · rw [if_neg z]; exact List.nodup_nil
theorem gL_w (H : HVq S) (hc : c < 64) (h : ¬ tq S c = -1) : ∀ u, u ∈ gL S c → (u : Int) < nq S ∧ 0 ≤ hw S u := by
  intro u hu
  refine ⟨gL_in H hc h u hu, ?_⟩
  unfold gL at hu
  rcases List.mem_cons.1 hu with e | e
  · rw [e, tq_w H hc h]; omega
  · by_cases z : 0 < (ge S 47 0 (tq S c).toNat).toInt
    · rw [if_pos z] at e
      obtain ⟨_, _, a2, a3⟩ := gF_w H hc 4 u e
      omega
    · rw [if_neg z] at e; cases e
theorem gL_len : (gL S c).length ≤ 5 := by
  unfold gL
  by_cases z : 0 < (ge S 47 0 (tq S c).toNat).toInt
  · rw [if_pos z, List.length_cons]
    have := gF_len (S := S) (c := c) (lk := ge S 47 0 (tq S c).toNat) 4
    omega
  · rw [if_neg z]; exact Nat.succ_le_succ (Nat.zero_le _)
theorem glq_ok (H : HVq S) (hc : c < 64) : (glq S c).Nodup ∧ (∀ u, u ∈ glq S c → (u : Int) < nq S ∧ 0 ≤ hw S u) ∧ (glq S c).length ≤ 5 := by
  by_cases z : misB S c = true
  · unfold glq
    rw [if_pos z]
    exact ⟨List.nodup_nil, (fun u q => nomatch q), Nat.zero_le _⟩
  · have hm : ¬ tq S c = -1 := fun q => z (mis_B (Or.inr (Or.inl q)))
    unfold glq
    rw [if_neg z]
    exact ⟨gL_nd H hc hm, gL_w H hc hm, gL_len⟩
theorem lg_bd {c h n : Nat} (hc : c < 64) (hh : h < 64) (hn : (n : Int) ≤ ab (dX c h) + ab (dY c h)) : 0 ≤ lg c h n ∧ lg c h n ≤ 63 := by
  unfold lg sg3 dX dY ab at *
  omega
/-- a fall ends at a cell -/
theorem lgq_bd {g s : Int32} (H : HVq S) (hc : c < 64) (hho : 0 ≤ (ge S 40 0 30).toInt ∧ (ge S 40 0 30).toInt ≤ 63) (h : oq S c g s = 3) : ∃ l : Nat, l < 64 ∧ lgq S c g s = (l : Int) := by
  have hhN := cn_eq hho.1
  have hB : ¬ misB S c = true := by
    intro q
    unfold oq at h
    rw [if_pos q] at h
    exact absurd h (by decide)
  have hm : ¬ mis S c := fun q => hB (mis_B q)
  have h' := h
  rw [oq_n hm] at h'
  have w : ¬ wrd S (gL S c) = true := by
    intro q
    rw [if_pos q] at h'
    exact absurd h' (by decide)
  rw [if_neg w] at h'
  obtain ⟨o1, o2⟩ := ocm_3 h'
  have hne : c ≠ hoN S := fun e => hm (Or.inl (by rw [← hhN, e]; rfl))
  have hup : upq S c ≤ 9 := by
    have hh0 := H.2.1 c hc
    have ht1 : ¬ tq S c = -1 := fun e => hm (Or.inr (Or.inl e))
    unfold tq at ht1
    unfold upq
    by_cases z : hh S c ≤ 0
    · rw [if_pos z] at ht1; exact absurd rfl ht1
    · omega
  have hN : hoN S < 64 := by unfold hoN; omega
  obtain ⟨l1, l2, l3⟩ := lst_bd hc hN hne hup
  have b := lg_bd (n := stS S c g s - upq S c) hc hN (by omega)
  refine ⟨(lgq S c g s).toNat, ?_, ?_⟩
  · unfold lgq
    rw [if_pos h]
    omega
  · unfold lgq
    rw [if_pos h]
    omega
end GND
