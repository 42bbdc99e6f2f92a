/-! a try of both sides, alike -/
section STP
variable {S T T1 T2 : fS} {c : Nat} {p lot : Int32} {g : G3} {gg ss : Int32}
theorem beq_out {a k : Nat} (h : a ≠ k) : Nat.beq a k = false := by
  cases e : Nat.beq a k
  · rfl
  · exact absurd (Nat.eq_of_beq_eq_true e) h
theorem W8_out {a i j : Nat} (h : a ≠ 40) : W8 a i j = false := by unfold W8; rw [beq_out h]; rfl
theorem Wt7_out {a i j : Nat} (h : a ≠ 40) (h2 : a ≠ 45) : Wt7 a i j = false := by unfold Wt7; rw [W8_out h, beq_out h, beq_out h2]; rfl
theorem W45_t : ∀ a i j : Nat, Wt7 a i j = false → W45 a i j = false := fun a i j h => (Bool.or_eq_false_iff.1 (Bool.or_eq_false_iff.1 h).2).1
theorem Wt7_s : ∀ a i j : Nat, Wts a i j = false → Wt7 a i j = false := fun a i j h => (Bool.or_eq_false_iff.1 h).1
theorem Wgr_s : ∀ a i j : Nat, Wts a i j = false → Wgr a i j = false := fun a i j h => (Bool.or_eq_false_iff.1 (Bool.or_eq_false_iff.1 h).2).1
theorem Wtr_s : ∀ a i j : Nat, Wts a i j = false → Wtr a i j = false := fun a i j h => (Bool.or_eq_false_iff.1 (Bool.or_eq_false_iff.1 h).2).2
theorem r_triesAt (RS : RI S) (H : HVq S) (hO : HOq S) (hT : TLq S lot g) (hp : p.toInt = (c : Int)) (hc : c < 64) : pk (F_X7_triesAt p lot S) (fun _ T => FX Wts S T ∧ RVq T (nq S) ∧ MWq S c (clm g).1 (clm g).2.1 (hw T) (HS T) ∧ ge T 40 0 41 = oq S c (clm g).1 (clm g).2.1 ∧ (ge T 40 0 42).toInt = lgq S c (clm g).1 (clm g).2.1 ∧ CNq S T (oq S c (clm g).1 (clm g).2.1) (feq S c (clm g).1 (clm g).2.1)) := by
  unfold F_X7_triesAt
  refine pq_bd (pq_and (s_F_X7_namesOf 1 S RS).pk (q_names1 lot)) (fun _ S37 q => ?_)
  obtain ⟨⟨R37, _⟩, F37, n37, _⟩ := q
  have F37' : FX Wt7 S S37 := F37.sub W45_t
  refine pq_iv fun x39 e39 => ?_
  rw [F37.1 40 0 15 rfl] at e39
  have t37 : TPq S37 x39.toInt (envN S37 lot) g := by
    rw [e39]
    refine TPq.fx ?_ F37 (fun _ => rfl) (fun _ _ => rfl)
    exact hT.cg (fun i hi => (n37 i hi).symm)
  refine pq_bd (q_tellsq R37 t37) (fun _ S41 q => ?_)
  obtain ⟨F41, _, _, tg41⟩ := q
  have G41 : FX Wt7 S S41 := F37'.tr F41
  refine pq_iv fun x43 e43 => pq_iv fun x44 e44 => ?_
  have g43 : x43 = (clm g).1 := by rw [e43]; exact congrArg Prod.fst tg41
  have g44 : x44 = (clm g).2.1 := by rw [e44]; exact congrArg (fun z => z.2.1) tg41
  rw [g43, g44]
  obtain ⟨hhE, hqE, hwE, nE, oE, lE, gE9, HVE, vE⟩ := SRt G41 (fun a j h => Wt7_out (by omega) (by omega)) (fun c j => rfl) rfl rfl rfl (clm g).1 (clm g).2.1 c
  refine pq_bd (q_wouldBe (g := (clm g).1) (s := (clm g).2.1) (HVE H) hp hc (by rw [G41.1 40 0 30 rfl]; exact hO)) (fun v45 S46 q => ?_)
  obtain ⟨F46, o45, l46, k40, k55, _, _⟩ := q
  rw [oE] at o45
  rw [lE] at l46
  rw [gE9] at k40 k55
  refine pq_sv fun S48 E48 => pq_sv fun S49 E49 => ?_
  have G46 : FX Wts S S46 := (G41.sub Wt7_s).tr (F46.sub Wgr_s)
  have F48 : FX Wts S S48 := by rw [E48]; exact G46.wr rfl
  have F49 : FX Wts S S49 := by rw [E49]; exact F48.wr rfl
  have hh9 : hh S49 = hh S := by
    rw [← hhE]
    funext c
    unfold hh
    rw [E49, ge_pua (by decide), E48, ge_pua (by decide), F46.1 54 0 c rfl]
  have hq9 : hq S49 = hq S := by
    rw [← hqE]
    funext c k
    unfold hq
    rw [E49, ge_pua (by decide), E48, ge_pua (by decide), F46.1 53 c k rfl]
  have hw9 : hw S49 = hw S := by
    rw [← hwE]
    funext c
    unfold hw
    rw [E49, ge_pua (by decide), E48, ge_pua (by decide), F46.1 50 0 c rfl]
  have HS9 : HS S49 = HS S := by funext c; unfold HS; rw [hq9, hh9]
  have R49 : RVq S49 (nq S) := by
    have z := HV_RV H
    unfold RVq
    rw [hh9, hq9, hw9]
    exact z
  have z43 : ge S49 40 0 43 = 0 := by rw [E49, ge_pus]
  have z41 : ge S49 40 0 41 = v45 := by rw [E49, ge_puj (by decide), E48, ge_pus]
  have z42 : (ge S49 40 0 42).toInt = lgq S c (clm g).1 (clm g).2.1 := by rw [E49, ge_puj (by decide), E48, ge_puj (by decide)]; exact l46
  have zc : ∀ j : Nat, j = 35 ∨ j = 36 ∨ j = 37 ∨ j = 38 ∨ j = 32 → ge S49 40 0 j = ge S 40 0 j := by
    intro j hj
    rw [E49, ge_puj (by omega), E48, ge_puj (by omega)]
    rcases hj with rfl | rfl | rfl | rfl | rfl <;> rw [F46.1 40 0 _ rfl, G41.1 40 0 _ rfl]
  have vs9 : vsm S49 (glq S c) = vsm S (glq S c) := by
    unfold vsm
    congr 1
    funext a t
    rw [F49.1 48 0 t rfl]
  obtain ⟨k1, k2, k3⟩ := glq_ok H hc (S := S)
  -- the end of it
  have fin : ∀ (T : fS) (f : Int32), FX Wtr S49 T → CNq S49 T v45 f → f = feq S c (clm g).1 (clm g).2.1 → FX Wts S T ∧ ge T 40 0 41 = oq S c (clm g).1 (clm g).2.1 ∧ (ge T 40 0 42).toInt = lgq S c (clm g).1 (clm g).2.1 ∧ CNq S T (oq S c (clm g).1 (clm g).2.1) (feq S c (clm g).1 (clm g).2.1) := by
    intro T f FT hC hf
    refine ⟨F49.tr (FT.sub Wtr_s), by rw [FT.1 40 0 41 rfl, z41, o45], by rw [FT.1 40 0 42 rfl]; exact z42, ?_⟩
    obtain ⟨c1, c2, c3, c4, c5⟩ := hC
    rw [hf] at c1 c5
    rw [o45] at c3
    exact ⟨c1, by rw [c2, zc 35 (by omega)], by rw [c3, zc 36 (by omega)], by rw [c4, zc 37 (by omega), zc 32 (by omega)], by rw [c5, zc 38 (by omega)]⟩
  by_cases d3 : oq S c (clm g).1 (clm g).2.1 = 3
  · obtain ⟨l, l1, l2⟩ := lgq_bd H hc hO d3
    refine pq_imp (r_fall (L := glq S c) R49 (by rw [E49, ge_puj (by decide), E48, ge_puj (by decide)]; exact k40) (fun k hk => by rw [E49, ge_pua (by decide), E48, ge_pua (by decide)]; exact k55 k hk) k3 k1 (fun u hu => by rw [hw9]; exact k2 u hu) (some l) (Or.inl ⟨by rw [o45, d3], l, rfl, l1, by rw [z42, l2]⟩) z43) (fun _ T q => ?_)
    obtain ⟨q1, q2, q3, q4⟩ := q
    rw [o45, if_neg (by rw [d3]; decide)] at q4
    rw [← o45] at q4
    obtain ⟨f1, f2, f3, f4⟩ := fin T 0 q1 q4 (by unfold feq; rw [if_neg (by rw [d3]; decide)])
    refine ⟨f1, q2, ?_, f2, f3, f4⟩
    unfold MWq
    rw [if_pos (Or.inl d3)]
    rw [hw9, HS9] at q3
    unfold lcq
    rw [if_pos d3, l2, Int.toNat_natCast]
    exact q3
  · by_cases d5 : oq S c (clm g).1 (clm g).2.1 = 5
    · refine pq_imp (r_fall (L := glq S c) R49 (by rw [E49, ge_puj (by decide), E48, ge_puj (by decide)]; exact k40) (fun k hk => by rw [E49, ge_pua (by decide), E48, ge_pua (by decide)]; exact k55 k hk) k3 k1 (fun u hu => by rw [hw9]; exact k2 u hu) none (Or.inr (Or.inl ⟨by rw [o45, d5], rfl⟩)) z43) (fun _ T q => ?_)
      obtain ⟨q1, q2, q3, q4⟩ := q
      rw [if_pos (by rw [o45, d5]), vs9] at q4
      obtain ⟨f1, f2, f3, f4⟩ := fin T _ q1 q4 (by unfold feq; rw [if_pos d5])
      refine ⟨f1, q2, ?_, f2, f3, f4⟩
      unfold MWq
      rw [if_pos (Or.inr d5)]
      rw [hw9, HS9] at q3
      unfold lcq
      rw [if_neg d3]
      exact q3
    · refine pq_imp (r_fall0 (o := v45) R49 (by rw [o45]; exact d3) (by rw [o45]; exact d5) z43) (fun _ T q => ?_)
      obtain ⟨q1, q2, q3, q4⟩ := q
      obtain ⟨f1, f2, f3, f4⟩ := fin T 0 q1 q4 (by unfold feq; rw [if_neg d5])
      refine ⟨f1, q2, ?_, f2, f3, f4⟩
      unfold MWq
      rw [if_neg (fun q => q.elim d3 d5)]
      rw [hw9, HS9] at q3
      exact q3
/-- two tellings of the same heaps -/
theorem MW_eq {w w' : Nat → Int} {X X' : Nat → List Nat} (h : MWq S c gg ss w X) (h' : MWq S c gg ss w' X') : (∀ c : Nat, c < 64 → X' c = X c) ∧ ∀ u : Nat, (u : Int) < nq S → w' u = w u := by
  unfold MWq at h h'
  by_cases z : oq S c gg ss = 3 ∨ oq S c gg ss = 5
  · rw [if_pos z] at h h'
    exact ⟨fun c hc => (h'.1 c hc).trans (h.1 c hc).symm, fun u hu => (h'.2 u hu).trans (h.2 u hu).symm⟩
  · rw [if_neg z] at h h'
    exact ⟨fun c hc => (h'.1 c hc).trans (h.1 c hc).symm, fun u hu => (h'.2 u hu).trans (h.2 u hu).symm⟩
theorem HLv_eq2 {n : Int} {w w' : Nat → Int} {hp hp' : Nat → Nat → Int} {ht ht' : Nat → Int} (H : HB n w hp ht) (H' : HB n w' hp' ht') (h0 : 0 ≤ ht c) (h0' : 0 ≤ ht' c) (hc : c < 64) (h : HLv hp ht c = HLv hp' ht' c) : ht' c = ht c ∧ ∀ k : Nat, (k : Int) < ht c → hp' c k = hp c k := by
  have e := congrArg List.length h
  rw [HLv_len, HLv_len] at e
  refine ⟨by omega, fun k hk => ?_⟩
  have a := HLv_at (hp := hp) (ht := ht) (c := c) (k := k) (by omega)
  have b := HLv_at (hp := hp') (ht := ht') (c := c) (k := k) (by omega)
  rw [h, b] at a
  have a := Option.some.inj a
  have x := H.1 c k hc hk
  have y := H'.1 c k hc (by omega)
  omega
/-- the class's box shows the reference's heaps behind a try -/
theorem CV_step {b : Nat} (hv : ∃ (w : Nat → Int) (hp : Nat → Nat → Int) (ht : Nat → Int), CVq T1 b (nq S) w hp ht ∧ MWq S c gg ss w (HLv hp ht)) (R : RVq T2 (nq S)) (hM : MWq S c gg ss (hw T2) (HS T2)) (hs : ∀ a j : Nat, 1 ≤ a ∧ a ≤ 10 → ge T2 a b j = ge T1 a b j) : CVq T2 b (nq S) (hw T2) (hq T2) (hh T2) := by
  obtain ⟨w, hp, ht, hC, hM1⟩ := hv
  obtain ⟨e1, e2⟩ := MW_eq hM1 hM
  have hC2 : CVq T2 b (nq S) w hp ht := by
    obtain ⟨h1, h2, h3, h4, h5, h6⟩ := hC
    exact ⟨h1, h2.cg (fun _ _ => rfl) (fun _ _ _ _ => rfl) (fun c _ => by rw [hs 10 c (by decide)]) (fun c k _ _ => by rw [hs 9 _ (by decide)]), by rw [hs 2 0 (by decide)]; exact h3, h4, fun t ht => by rw [hs 8 t (by decide)]; exact h5 t ht, h6⟩
  have E : ∀ c : Nat, c < 64 → hh T2 c = ht c ∧ ∀ k : Nat, (k : Int) < ht c → hq T2 c k = hp c k := fun c hc => HLv_eq2 hC.1 R.1 (hC.2.2.2.2.2 c hc) (R.2.1 c hc) hc (e1 c hc).symm
  exact hC2.cg e2 (fun c hc => (E c hc).1) (fun c k hc hk => (E c hc).2 k hk)
/-- the same counters -/
theorem CN_step {b : Nat} {o f : Int32} (N : NBq S b) (h1 : CNk S T1 b o f) (h2 : CNq S T2 o f) (hs : ∀ j : Nat, ge T2 1 b j = ge T1 1 b j) (h3 : ge T1 1 b 3 = ge S 1 b 3 ∧ ge T1 1 b 4 = ge S 1 b 4) (h4 : ge T2 40 0 32 = ge S 40 0 32 ∧ ge T2 40 0 33 = ge S 40 0 33) : NBq T2 b := by
  obtain ⟨n3, n4, n7, n8, n9, n10⟩ := N
  obtain ⟨c7, c8, c9, c10⟩ := h1
  obtain ⟨_, d35, d36, d37, d38⟩ := h2
  refine ⟨by rw [hs, h3.1, h4.1, n3], by rw [hs, h3.2, h4.2, n4], by rw [hs, c7, d35, n7], ?_, by rw [hs, c9, d37, n9, n3], by rw [hs, c10, d38, n10]⟩
  rw [hs, c8, d36, n8]
end STP
