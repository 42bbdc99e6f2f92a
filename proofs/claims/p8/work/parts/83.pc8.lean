/-! the pure part: tries made, programs kept -/
theorem RI.newT {S : fS} (h : RI S) : RI (newT S) := by
  intro a i j
  show (rg a j).1 ≤ (if a = 25 ∧ i = nT S then tI j else if a = 26 ∧ i = nT S then 0 else ge S a i j).toInt ∧ (if a = 25 ∧ i = nT S then tI j else if a = 26 ∧ i = nT S then 0 else ge S a i j).toInt ≤ (rg a j).2
  by_cases q : a = 25 ∧ i = nT S
  · rw [if_pos q, q.1]
    by_cases e : j = 16
    · subst e; decide
    · have e9 : rg 25 j = rgF := by
        show (if j = 16 then ((0, 5) : Int × Int) else rgF) = rgF
        rw [if_neg e]
      rw [e9]
      exact ti_bd _
  · rw [if_neg q]
    by_cases q2 : a = 26 ∧ i = nT S
    · rw [if_pos q2, q2.1]
      exact ti_bd _
    · rw [if_neg q2]
      exact h a i j
theorem Fr_newT {S : fS} : Fr 2147485696 S (newT S) := by
  refine ⟨fun a i j q => ?_, fun q => by cases q⟩
  show (if a = 25 ∧ i = nT S then tI j else if a = 26 ∧ i = nT S then 0 else ge S a i j) = ge S a i j
  rw [if_neg (fun e => by rw [e.1, show rgn 25 j = 11 from rfl] at q; cases q), if_neg (fun e => by rw [e.1, show rgn 26 j = 11 from rfl] at q; cases q)]
theorem GI.newT {S : fS} (h : GI S) : GI (newT S) := by
  refine ⟨⟨fun i j t q => Nat.lt_succ_of_lt (h.1.1 i j t q), fun a i j t ha q => h.1.2 a i j t ha q⟩, fun i k q => h.2.1 i k ?_, h.2.2⟩
  rw [← (Fr_newT (S := S)).1 1 i 12 rfl]
  exact q
theorem RI.newC {S : fS} {x : Int32} (h : RI S) : RI (newC S x) := by
  intro a i j
  show (rg a j).1 ≤ (if a = 30 ∧ i = nC S then (if j < x.toNatClampNeg then ge S 21 0 j else 0) else ge S a i j).toInt ∧ (if a = 30 ∧ i = nC S then (if j < x.toNatClampNeg then ge S 21 0 j else 0) else ge S a i j).toInt ≤ (rg a j).2
  by_cases q : a = 30 ∧ i = nC S
  · rw [if_pos q, q.1]
    exact ti_bd _
  · rw [if_neg q]
    exact h a i j
theorem Fr_newC {S : fS} {x : Int32} : Fr 2147483649 S (newC S x) := by
  refine ⟨fun a i j q => ?_, fun q => by cases q⟩
  show (if a = 30 ∧ i = nC S then (if j < x.toNatClampNeg then ge S 21 0 j else 0) else ge S a i j) = ge S a i j
  rw [if_neg (fun e => by rw [e.1, show rgn 30 j = 0 from rfl] at q; cases q)]
theorem GI.newC {S : fS} {x : Int32} (h : GI S) (hx : x.toNatClampNeg ≤ 300) : GI (newC S x) := by
  refine ⟨⟨fun i j t q => h.1.1 i j t q, fun a i j t ha q => Nat.lt_succ_of_lt (h.1.2 a i j t ha q)⟩, fun i k q => h.2.1 i k ?_, fun i => ?_⟩
  · rw [← (Fr_newC (S := S) (x := x)).1 1 i 12 rfl]
    exact q
  · show (if i = nC S then x.toNatClampNeg else ln S i) ≤ 300
    by_cases e : i = nC S
    · rw [if_pos e]; exact hx
    · rw [if_neg e]; exact h.2.2 i
theorem s_F_X4_codeRead (S0 : fS) (RS0 : RI S0) (GS0 : GI S0) : zk (F_X4_codeRead S0) (fun v S9 => RI S9 ∧ Fr 2147483649 S0 S9 ∧ GI S9 ∧ v < nC S9) := by
  unfold F_X4_codeRead
  refine zk_iv fun x e => ?_
  have g : 0 ≤ x.toInt ∧ x.toInt ≤ 300 := by rw [e]; exact RS0 17 _ _
  have hn := cn_eq g.1
  refine zk_gd ⟨by omega, by omega⟩ ?_
  refine zk_gdc GS0.1 ?_
  refine zk_nv fun t et => ?_
  refine zk_sv fun S E => ?_
  refine zk_some ⟨by rw [E]; exact RS0.newC, by rw [E]; exact Fr_newC, by rw [E]; exact GS0.newC (by omega), ?_⟩
  rw [E, et]
  exact Nat.lt_succ_self _
theorem GI.wc {S : fS} {a j t : Nat} (h : GI S) (ha : a = 13 ∨ a = 14) (ht : t < nC S) : GI (pr S a 0 j (some t)) := by
  refine ⟨⟨fun i' j' t' q => ?_, fun a' i' j' t' ha' q => ?_⟩, fun i k q => ?_, h.2.2⟩
  · rw [gr_pr, if_neg (fun e => by rcases ha with rfl | rfl <;> cases e.1)] at q
    exact h.1.1 i' j' t' q
  · rw [gr_pr] at q
    by_cases e : a' = a ∧ i' = 0 ∧ j' = j
    · rw [if_pos e] at q
      cases q
      exact ht
    · rw [if_neg e] at q
      exact h.1.2 a' i' j' t' ha' q
  · rw [gr_pr, if_neg (fun e => by rcases ha with rfl | rfl <;> cases e.1)]
    exact h.2.1 i k q
theorem s_F_X6_keepProgram (S0 : fS) (RS0 : RI S0) (GS0 : GI S0) : zk (F_X6_keepProgram S0) (fun v S9 => RI S9 ∧ Fr 2147483713 S0 S9 ∧ GI S9 ∧ True) := by
  have lN : (6 : Int32).toInt = 6 := by decide
  have l1 : (1 : Int32).toInt = 1 := by decide
  unfold F_X6_keepProgram
  refine zk_iv fun x e => ?_
  have g : 0 ≤ x.toInt ∧ x.toInt ≤ 6 := by rw [e]; exact RS0 0 _ _
  refine zk_lt (fun c => ?_) (fun c => zk_some ⟨RS0, Fr.rf, GS0, trivial⟩)
  refine zk_ivq (x := x) e.symm ?_
  refine zk_bd (s_F_X4_codeRead _ RS0 GS0) (fun v T h => ?_)
  obtain ⟨RT, fT, GT, hv⟩ := h
  refine zk_gd hv ?_
  refine zk_gd ⟨by omega, by omega⟩ ?_
  refine zk_sv fun S2 E2 => ?_
  have g2 : ∀ a i j : Nat, ge S2 a i j = ge T a i j := fun a i j => by rw [E2, ge_pr]
  have R2 : RI S2 := fun a i j => by rw [g2]; exact RT a i j
  have G2 : GI S2 := by rw [E2]; exact GT.wc (by decide) hv
  have F2 : Fr 2147483713 S0 S2 := ⟨fun a i j q => (g2 a i j).trans ((fT.sub (m := 2147483713) (by decide)).1 a i j q), fun q => by cases q⟩
  refine zk_ivq (x := x) ((g2 0 0 5).trans ((fT.1 0 0 5 rfl).trans e.symm)) ?_
  refine zk_iv fun y ey => ?_
  have gy : y.toInt = x.toInt + 1 := by rw [ey, ti_add (by omega) (by omega), l1]
  refine zk_sv fun S3 E3 => ?_
  have R3 : RI S3 := by rw [E3]; exact R2.wr (show (0 : Int) ≤ y.toInt by omega) (show y.toInt ≤ 6 by omega)
  have F3 : Fr 2147483713 S0 S3 := by rw [E3]; exact F2.wr (k := 6) rfl rfl
  have G3 : GI S3 := by rw [E3]; exact G2.wr (k := 6) rfl (by decide)
  refine zk_iv fun z ez => ?_
  refine zk_iv fun w ew => ?_
  exact zk_some ⟨R3, F3, G3, trivial⟩
theorem s_F_X6_keepLaw (S0 : fS) (RS0 : RI S0) (GS0 : GI S0) : zk (F_X6_keepLaw S0) (fun v S9 => RI S9 ∧ Fr 2147483713 S0 S9 ∧ GI S9 ∧ True) := by
  have lN : (3 : Int32).toInt = 3 := by decide
  have l1 : (1 : Int32).toInt = 1 := by decide
  unfold F_X6_keepLaw
  refine zk_iv fun x e => ?_
  have g : 0 ≤ x.toInt ∧ x.toInt ≤ 3 := by rw [e]; exact RS0 0 _ _
  refine zk_lt (fun c => ?_) (fun c => zk_some ⟨RS0, Fr.rf, GS0, trivial⟩)
  refine zk_ivq (x := x) e.symm ?_
  refine zk_bd (s_F_X4_codeRead _ RS0 GS0) (fun v T h => ?_)
  obtain ⟨RT, fT, GT, hv⟩ := h
  refine zk_gd hv ?_
  refine zk_gd ⟨by omega, by omega⟩ ?_
  refine zk_sv fun S2 E2 => ?_
  have g2 : ∀ a i j : Nat, ge S2 a i j = ge T a i j := fun a i j => by rw [E2, ge_pr]
  have R2 : RI S2 := fun a i j => by rw [g2]; exact RT a i j
  have G2 : GI S2 := by rw [E2]; exact GT.wc (by decide) hv
  have F2 : Fr 2147483713 S0 S2 := ⟨fun a i j q => (g2 a i j).trans ((fT.sub (m := 2147483713) (by decide)).1 a i j q), fun q => by cases q⟩
  refine zk_ivq (x := x) ((g2 0 0 7).trans ((fT.1 0 0 7 rfl).trans e.symm)) ?_
  refine zk_iv fun y ey => ?_
  have gy : y.toInt = x.toInt + 1 := by rw [ey, ti_add (by omega) (by omega), l1]
  refine zk_sv fun S3 E3 => ?_
  have R3 : RI S3 := by rw [E3]; exact R2.wr (show (0 : Int) ≤ y.toInt by omega) (show y.toInt ≤ 3 by omega)
  have F3 : Fr 2147483713 S0 S3 := by rw [E3]; exact F2.wr (k := 6) rfl rfl
  have G3 : GI S3 := by rw [E3]; exact G2.wr (k := 6) rfl (by decide)
  refine zk_iv fun z ez => ?_
  refine zk_iv fun w ew => ?_
  exact zk_some ⟨R3, F3, G3, trivial⟩
theorem s_tryAt_t (p1 : Int32) (t : Nat) (S : fS) (RS : RI S) (GS : GI S) (ht : t < nT S) : zk (bd (F_X5_nameNext t 0 S) (fun v41 S42 => bd (F_X6_leastPaying 0 S42) (fun v44 S45 => bb (v44 = ((-1) : Int32)) (B_X6_tryAt_31  p1 t 0 t S45) (B_X6_tryAt_31  p1 t 1 t S45)))) (fun v S9 => RI S9 ∧ Fr 2147486881 S S9 ∧ GI S9 ∧ True) := by
  have lm1 : (-1 : Int32).toInt = -1 := by decide
  have l0 : (0 : Int32).toInt = 0 := by decide
  have l1 : (1 : Int32).toInt = 1 := by decide
  have l3 : (3 : Int32).toInt = 3 := by decide
  have l9 : (9 : Int32).toInt = 9 := by decide
  have FS : Fr 3201 S S := Fr.rf
  refine zk_bd (s_F_X5_nameNext _ _ _ RS) (fun v1 T2 h1 => ?_)
  obtain ⟨RT2, fT2, h1⟩ := h1
  have FT2 := FS.tr (fT2.sub (m := 3201) (by decide))
  have GT2 := GS.fr fT2 rfl rfl
  refine zk_bd (s_F_X6_leastPaying _ _ RT2 GT2 (by omega)) (fun v3 T4 h3 => ?_)
  obtain ⟨RT4, fT4, h3⟩ := h3
  have FT4 := FT2.tr (fT4.sub (m := 3201) (by decide))
  have GT4 := GT2.fr fT4 rfl rfl
  have b5 := ti_bd v3
  refine zk_eq (fun c6 => ?_) (fun c6 => ?_)
  ·
    unfold B_X6_tryAt_31
    refine zk_sv fun S7 E7 => ?_
    have RS7 : RI S7 := by rw [E7]; exact RT4.wf rfl
    have FS7 : Fr 3201 S S7 := by rw [E7]; exact FT4.wr (k := 11) rfl rfl
    have GS7 : GI S7 := by rw [E7]; exact GT4.wr (k := 11) rfl (by decide)
    refine zk_bd (s_F_X6_codeInForce _ RS7 GS7) (fun v8 T9 h8 => ?_)
    obtain ⟨rfl, h8⟩ := h8
    refine zk_bd (s_F_X3_run _ _ _ _ RS7 GS7 h8) (fun v10 T11 h10 => ?_)
    obtain ⟨RT11, fT11, h10⟩ := h10
    have FT11 := FS7.tr (fT11.sub (m := 3201) (by decide))
    have GT11 := GS7.fr fT11 rfl rfl
    refine zk_bd (s_F_X3_lots _ RT11) (fun v12 T13 h12 => ?_)
    obtain ⟨rfl, h12⟩ := h12
    have b14 := ti_bd v12
    refine zk_eq (fun c15 => ?_) (fun c15 => ?_)
    ·
      unfold B_X6_tryAt_78
      refine zk_sv fun S16 E16 => ?_
      have RS16 : RI S16 := by rw [E16]; exact RT11.wf rfl
      have FS16 : Fr 3201 S S16 := by rw [E16]; exact FT11.wr (k := 11) rfl rfl
      have GS16 : GI S16 := by rw [E16]; exact GT11.wr (k := 11) rfl (by decide)
      refine zk_ivq (x := 0) (by rw [E16]; exact ge_pus) ?_
      refine zk_bd (s_F_X3_run _ _ _ _ RS16 GS16 (h8.mv FS7 FS16 rfl)) (fun v17 T18 h17 => ?_)
      obtain ⟨RT18, fT18, h17⟩ := h17
      have FT18 := FS16.tr (fT18.sub (m := 3201) (by decide))
      have GT18 := GS16.fr fT18 rfl rfl
      refine zk_bd (s_F_X5_look _ _ _ _ RT18) (fun v19 T20 h19 => ?_)
      obtain ⟨RT20, fT20, h19⟩ := h19
      have FT20 := FT18.tr (fT20.sub (m := 3201) (by decide))
      have GT20 := GT18.fr fT20 rfl rfl
      refine zk_bd (s_F_X3_grip _ RT20) (fun v21 T22 h21 => ?_)
      obtain ⟨rfl, h21⟩ := h21
      refine zk_bd (s_F_X3_slip _ RT20) (fun v23 T24 h23 => ?_)
      obtain ⟨rfl, h23⟩ := h23
      refine zk_bd (s_F_X5_carry _ _ _ _ RT20) (fun v25 T26 h25 => ?_)
      obtain ⟨RT26, fT26, h25⟩ := h25
      have FT26 := FT20.tr (fT26.sub (m := 3201) (by decide))
      have GT26 := GT20.fr fT26 rfl rfl
      refine zk_bd (s_F_X0_move _ _ _ RT26) (fun v27 T28 h27 => ?_)
      obtain ⟨RT28, fT28, h27⟩ := h27
      have FT28 := FT26.tr (fT28.sub (m := 3201) (by decide))
      have GT28 := GT26.fr fT28 rfl rfl
      refine zk_bd (s_F_X0_keep _ _ _ RT28 GT28 (by rw [show nT T28 = nT S from by unfold nT; rw [FT28.2 rfl]]; exact ht)) (fun v9 T9 h9 => ?_)
      obtain ⟨R9, f9, G9, h9⟩ := h9
      refine zk_iv fun x9 e9 => ?_
      exact zk_some ⟨R9, (FT28.sub (m := 2147486881) (by decide)).tr (f9.sub (m := 2147486881) (by decide)), G9, trivial⟩
    ·
      refine zk_bd (s_F_X0_draw _ _ _ RT11) (fun v29 T30 h29 => ?_)
      obtain ⟨RT30, fT30, h29⟩ := h29
      have FT30 := FT11.tr (fT30.sub (m := 3201) (by decide))
      have GT30 := GT11.fr fT30 rfl rfl
      unfold B_X6_tryAt_78
      refine zk_sv fun S31 E31 => ?_
      have RS31 : RI S31 := by rw [E31]; exact RT30.wf rfl
      have FS31 : Fr 3201 S S31 := by rw [E31]; exact FT30.wr (k := 11) rfl rfl
      have GS31 : GI S31 := by rw [E31]; exact GT30.wr (k := 11) rfl (by decide)
      refine zk_ivq (x := v29) (by rw [E31]; exact ge_pus) ?_
      refine zk_bd (s_F_X3_run _ _ _ _ RS31 GS31 (h8.mv FS7 FS31 rfl)) (fun v32 T33 h32 => ?_)
      obtain ⟨RT33, fT33, h32⟩ := h32
      have FT33 := FS31.tr (fT33.sub (m := 3201) (by decide))
      have GT33 := GS31.fr fT33 rfl rfl
      refine zk_bd (s_F_X5_look _ _ _ _ RT33) (fun v34 T35 h34 => ?_)
      obtain ⟨RT35, fT35, h34⟩ := h34
      have FT35 := FT33.tr (fT35.sub (m := 3201) (by decide))
      have GT35 := GT33.fr fT35 rfl rfl
      refine zk_bd (s_F_X3_grip _ RT35) (fun v36 T37 h36 => ?_)
      obtain ⟨rfl, h36⟩ := h36
      refine zk_bd (s_F_X3_slip _ RT35) (fun v38 T39 h38 => ?_)
      obtain ⟨rfl, h38⟩ := h38
      refine zk_bd (s_F_X5_carry _ _ _ _ RT35) (fun v40 T41 h40 => ?_)
      obtain ⟨RT41, fT41, h40⟩ := h40
      have FT41 := FT35.tr (fT41.sub (m := 3201) (by decide))
      have GT41 := GT35.fr fT41 rfl rfl
      refine zk_bd (s_F_X0_move _ _ _ RT41) (fun v42 T43 h42 => ?_)
      obtain ⟨RT43, fT43, h42⟩ := h42
      have FT43 := FT41.tr (fT43.sub (m := 3201) (by decide))
      have GT43 := GT41.fr fT43 rfl rfl
      refine zk_bd (s_F_X0_keep _ _ _ RT43 GT43 (by rw [show nT T43 = nT S from by unfold nT; rw [FT43.2 rfl]]; exact ht)) (fun v9 T9 h9 => ?_)
      obtain ⟨R9, f9, G9, h9⟩ := h9
      refine zk_iv fun x9 e9 => ?_
      exact zk_some ⟨R9, (FT43.sub (m := 2147486881) (by decide)).tr (f9.sub (m := 2147486881) (by decide)), G9, trivial⟩
  ·
    unfold B_X6_tryAt_31
    refine zk_sv fun S44 E44 => ?_
    have RS44 : RI S44 := by rw [E44]; exact RT4.wf rfl
    have FS44 : Fr 3201 S S44 := by rw [E44]; exact FT4.wr (k := 11) rfl rfl
    have GS44 : GI S44 := by rw [E44]; exact GT4.wr (k := 11) rfl (by decide)
    refine zk_bd (s_F_X6_codeInForce _ RS44 GS44) (fun v45 T46 h45 => ?_)
    obtain ⟨rfl, h45⟩ := h45
    refine zk_bd (s_F_X3_run _ _ _ _ RS44 GS44 h45) (fun v47 T48 h47 => ?_)
    obtain ⟨RT48, fT48, h47⟩ := h47
    have FT48 := FS44.tr (fT48.sub (m := 3201) (by decide))
    have GT48 := GS44.fr fT48 rfl rfl
    refine zk_bd (s_F_X3_lots _ RT48) (fun v49 T50 h49 => ?_)
    obtain ⟨rfl, h49⟩ := h49
    have b51 := ti_bd v49
    refine zk_eq (fun c52 => ?_) (fun c52 => ?_)
    ·
      unfold B_X6_tryAt_78
      refine zk_sv fun S53 E53 => ?_
      have RS53 : RI S53 := by rw [E53]; exact RT48.wf rfl
      have FS53 : Fr 3201 S S53 := by rw [E53]; exact FT48.wr (k := 11) rfl rfl
      have GS53 : GI S53 := by rw [E53]; exact GT48.wr (k := 11) rfl (by decide)
      refine zk_ivq (x := 0) (by rw [E53]; exact ge_pus) ?_
      refine zk_bd (s_F_X3_run _ _ _ _ RS53 GS53 (h45.mv FS44 FS53 rfl)) (fun v54 T55 h54 => ?_)
      obtain ⟨RT55, fT55, h54⟩ := h54
      have FT55 := FS53.tr (fT55.sub (m := 3201) (by decide))
      have GT55 := GS53.fr fT55 rfl rfl
      refine zk_bd (s_F_X5_look _ _ _ _ RT55) (fun v56 T57 h56 => ?_)
      obtain ⟨RT57, fT57, h56⟩ := h56
      have FT57 := FT55.tr (fT57.sub (m := 3201) (by decide))
      have GT57 := GT55.fr fT57 rfl rfl
      refine zk_bd (s_F_X3_grip _ RT57) (fun v58 T59 h58 => ?_)
      obtain ⟨rfl, h58⟩ := h58
      refine zk_bd (s_F_X3_slip _ RT57) (fun v60 T61 h60 => ?_)
      obtain ⟨rfl, h60⟩ := h60
      refine zk_bd (s_F_X5_carry _ _ _ _ RT57) (fun v62 T63 h62 => ?_)
      obtain ⟨RT63, fT63, h62⟩ := h62
      have FT63 := FT57.tr (fT63.sub (m := 3201) (by decide))
      have GT63 := GT57.fr fT63 rfl rfl
      refine zk_bd (s_F_X0_move _ _ _ RT63) (fun v64 T65 h64 => ?_)
      obtain ⟨RT65, fT65, h64⟩ := h64
      have FT65 := FT63.tr (fT65.sub (m := 3201) (by decide))
      have GT65 := GT63.fr fT65 rfl rfl
      refine zk_bd (s_F_X0_keep _ _ _ RT65 GT65 (by rw [show nT T65 = nT S from by unfold nT; rw [FT65.2 rfl]]; exact ht)) (fun v9 T9 h9 => ?_)
      obtain ⟨R9, f9, G9, h9⟩ := h9
      refine zk_iv fun x9 e9 => ?_
      exact zk_some ⟨R9, (FT65.sub (m := 2147486881) (by decide)).tr (f9.sub (m := 2147486881) (by decide)), G9, trivial⟩
    ·
      refine zk_bd (s_F_X0_draw _ _ _ RT48) (fun v66 T67 h66 => ?_)
      obtain ⟨RT67, fT67, h66⟩ := h66
      have FT67 := FT48.tr (fT67.sub (m := 3201) (by decide))
      have GT67 := GT48.fr fT67 rfl rfl
      unfold B_X6_tryAt_78
      refine zk_sv fun S68 E68 => ?_
      have RS68 : RI S68 := by rw [E68]; exact RT67.wf rfl
      have FS68 : Fr 3201 S S68 := by rw [E68]; exact FT67.wr (k := 11) rfl rfl
      have GS68 : GI S68 := by rw [E68]; exact GT67.wr (k := 11) rfl (by decide)
      refine zk_ivq (x := v66) (by rw [E68]; exact ge_pus) ?_
      refine zk_bd (s_F_X3_run _ _ _ _ RS68 GS68 (h45.mv FS44 FS68 rfl)) (fun v69 T70 h69 => ?_)
      obtain ⟨RT70, fT70, h69⟩ := h69
      have FT70 := FS68.tr (fT70.sub (m := 3201) (by decide))
      have GT70 := GS68.fr fT70 rfl rfl
      refine zk_bd (s_F_X5_look _ _ _ _ RT70) (fun v71 T72 h71 => ?_)
      obtain ⟨RT72, fT72, h71⟩ := h71
      have FT72 := FT70.tr (fT72.sub (m := 3201) (by decide))
      have GT72 := GT70.fr fT72 rfl rfl
      refine zk_bd (s_F_X3_grip _ RT72) (fun v73 T74 h73 => ?_)
      obtain ⟨rfl, h73⟩ := h73
      refine zk_bd (s_F_X3_slip _ RT72) (fun v75 T76 h75 => ?_)
      obtain ⟨rfl, h75⟩ := h75
      refine zk_bd (s_F_X5_carry _ _ _ _ RT72) (fun v77 T78 h77 => ?_)
      obtain ⟨RT78, fT78, h77⟩ := h77
      have FT78 := FT72.tr (fT78.sub (m := 3201) (by decide))
      have GT78 := GT72.fr fT78 rfl rfl
      refine zk_bd (s_F_X0_move _ _ _ RT78) (fun v79 T80 h79 => ?_)
      obtain ⟨RT80, fT80, h79⟩ := h79
      have FT80 := FT78.tr (fT80.sub (m := 3201) (by decide))
      have GT80 := GT78.fr fT80 rfl rfl
      refine zk_bd (s_F_X0_keep _ _ _ RT80 GT80 (by rw [show nT T80 = nT S from by unfold nT; rw [FT80.2 rfl]]; exact ht)) (fun v9 T9 h9 => ?_)
      obtain ⟨R9, f9, G9, h9⟩ := h9
      refine zk_iv fun x9 e9 => ?_
      exact zk_some ⟨R9, (FT80.sub (m := 2147486881) (by decide)).tr (f9.sub (m := 2147486881) (by decide)), G9, trivial⟩
theorem s_F_X6_tryAt (p1 : Int32) (S0 : fS) (RS0 : RI S0) (GS0 : GI S0) : zk (F_X6_tryAt p1 S0) (fun v S9 => RI S9 ∧ Fr 2147486881 S0 S9 ∧ GI S9 ∧ True) := by
  unfold F_X6_tryAt
  refine zk_gdc GS0.1 ?_
  refine zk_nv fun t et => ?_
  refine zk_sv fun S E => ?_
  have RS : RI S := by rw [E]; exact RS0.newT
  have GS : GI S := by rw [E]; exact GS0.newT
  have FS : Fr 2147486881 S0 S := by rw [E]; exact Fr_newT.sub (by decide)
  refine zk_imp (s_tryAt_t p1 t S RS GS (by rw [E, et]; exact Nat.lt_succ_self _)) (fun v S9 h => ⟨h.1, FS.tr h.2.1, h.2.2⟩)
theorem s_F_X6_attempt (p1 : Int32) (S0 : fS) (RS0 : RI S0) (GS0 : GI S0) : zk (F_X6_attempt p1 S0) (fun v S9 => RI S9 ∧ Fr 2147486881 S0 S9 ∧ GI S9 ∧ (v.1 = 0 ∨ v.1 = 2)) := by
  have lm1 : (-1 : Int32).toInt = -1 := by decide
  have l0 : (0 : Int32).toInt = 0 := by decide
  have l7 : (7 : Int32).toInt = 7 := by decide
  have l12 : (12 : Int32).toInt = 12 := by decide
  have l200 : (200 : Int32).toInt = 200 := by decide
  have FS0 : Fr 2147486881 S0 S0 := Fr.rf
  unfold F_X6_attempt
  refine zk_bx (s_F_X6_needCell _ _ RS0) (fun v1 T2 h1 => ?_) (fun z3 v1 T2 h1 => ?_)
  ·
    obtain ⟨rfl, h1⟩ := h1
    try dsimp only at h1
    refine zk_iv fun x4 e4 => ?_
    have gx4 : 0 ≤ x4.toInt ∧ x4.toInt ≤ 200 := by rw [e4]; exact RS0 1 _ _
    refine zk_lt (fun c5 => ?_) (fun c5 => ?_)
    ·
      refine zk_bd (s_F_X6_tryAt _ _ RS0 GS0) (fun v6 T7 h6 => ?_)
      obtain ⟨RT7, fT7, GT7, h6⟩ := h6
      have FT7 := FS0.tr (fT7.sub (m := 2147486881) (by decide))
      exact zk_some ⟨RT7, FT7, GT7, by (try dsimp only) <;> omega⟩
    ·
      exact zk_some ⟨RS0, FS0, GS0, by (try dsimp only) <;> omega⟩
  ·
    obtain ⟨rfl, h1⟩ := h1
    try dsimp only at h1
    exact ⟨RS0, FS0, GS0, by (try dsimp only) <;> omega⟩
theorem s_B_X6_play_47  (z : Int32 × Int32 × Int32 × Int32) (S : fS) (RS : RI S) (GS : GI S) (hi : 0 ≤ z.1.toInt ∧ z.1.toInt ≤ 5 ∧ 0 ≤ z.2.2.2.toInt ∧ z.2.2.2.toInt ≤ 8) (hm : (8 - z.2.2.2.toInt).toNat < 4294967296) : zk (lp (B_X6_play_47) fuel z S) (fun v S9 => RI S9 ∧ Fr 2147486881 S S9 ∧ GI S9 ∧ v.1 = 0) := by
  have l0 : (0 : Int32).toInt = 0 := by decide
  have l4 : (4 : Int32).toInt = 4 := by decide
  have l8 : (8 : Int32).toInt = 8 := by decide
  have lo1 : (Int32.ofInt 1).toInt = 1 := by decide
  refine zk_lp (fun z S => RI S ∧ GI S ∧ (0 ≤ z.1.toInt ∧ z.1.toInt ≤ 5 ∧ 0 ≤ z.2.2.2.toInt ∧ z.2.2.2.toInt ≤ 8)) (fun z S => (8 - z.2.2.2.toInt).toNat) (fun z S (v : Nat × Int32) S9 => RI S9 ∧ Fr 2147486881 S S9 ∧ GI S9 ∧ v.1 = 0) ?_ z S ⟨RS, GS, hi⟩ hm
  clear RS hi hm GS
  intro k z S hI hk
  obtain ⟨RS, GS, hI⟩ := hI
  obtain ⟨a1, a2, a3, a4⟩ := z
  (try dsimp only at hI); (try dsimp only at hk); (try dsimp only)
  have FS : Fr 2147486881 S S := Fr.rf
  unfold B_X6_play_47
  dsimp only
  refine zk_le (fun c1 => ?_) (fun c1 => ?_)
  ·
    unfold B_X6_play_89
    refine zk_bd (s_F_X6_cellReached _ _ _ RS) (fun v2 T3 h2 => ?_)
    obtain ⟨rfl, h2⟩ := h2
    refine zk_bd (s_F_X6_tryAt _ _ RS GS) (fun v4 T5 h4 => ?_)
    obtain ⟨RT5, fT5, GT5, h4⟩ := h4
    have FT5 := FS.tr (fT5.sub (m := 2147486881) (by decide))
    exact zk_some ⟨RT5, FT5, GT5, by (try dsimp only) <;> omega⟩
  ·
    refine zk_gd ⟨by omega, by omega⟩ ?_
    refine zk_iv fun x6 e6 => ?_
    refine zk_bd (s_F_X6_weightAt _ _ _ RS) (fun v7 T8 h7 => ?_)
    obtain ⟨rfl, h7⟩ := h7
    have b9 := ti_bd a3
    have b10 := ti_bd v7
    refine zk_lt (fun c11 => ?_) (fun c11 => ?_)
    ·
      unfold B_X6_play_89
      refine zk_bd (s_F_X6_cellReached _ _ _ RS) (fun v12 T13 h12 => ?_)
      obtain ⟨rfl, h12⟩ := h12
      refine zk_bd (s_F_X6_tryAt _ _ RS GS) (fun v14 T15 h14 => ?_)
      obtain ⟨RT15, fT15, GT15, h14⟩ := h14
      have FT15 := FS.tr (fT15.sub (m := 2147486881) (by decide))
      exact zk_some ⟨RT15, FT15, GT15, by (try dsimp only) <;> omega⟩
    ·
      refine zk_gd ⟨by omega, by omega⟩ ?_
      refine zk_ivq (x := x6) e6.symm ?_
      refine zk_bd (s_F_X6_weightAt _ _ _ RS) (fun v16 T17 h16 => ?_)
      obtain ⟨rfl, h16⟩ := h16
      refine zk_iv fun x18 e18 => ?_
      refine zk_iv fun x19 e19 => ?_
      have gx19 : x19.toInt = a4.toInt + (Int32.ofInt 1).toInt := by rw [e19]; exact ti_add (by omega) (by omega)
      refine zk_imp (hk (a1, a2, x18, x19) _ ⟨RS, GS, (by (try dsimp only) <;> omega)⟩ (by (try dsimp only) <;> omega)) (fun v20 T21 h20 => ?_)
      obtain ⟨RT21, FT21, GT21, h20⟩ := h20
      try dsimp only at h20
      exact ⟨RT21, FS.tr FT21, GT21, by omega⟩
theorem s_F_X6_play (p1 : Int32) (p2 : Int32) (S0 : fS) (RS0 : RI S0) (GS0 : GI S0) : zk (F_X6_play p1 p2 S0) (fun v S9 => RI S9 ∧ Fr 2147486881 S0 S9 ∧ GI S9 ∧ (v.1 = 0 ∨ v.1 = 2 ∨ v.1 = 3)) := by
  have lm1 : (-1 : Int32).toInt = -1 := by decide
  have l0 : (0 : Int32).toInt = 0 := by decide
  have l9 : (9 : Int32).toInt = 9 := by decide
  have l12 : (12 : Int32).toInt = 12 := by decide
  have l200 : (200 : Int32).toInt = 200 := by decide
  have FS0 : Fr 2147486881 S0 S0 := Fr.rf
  unfold F_X6_play
  refine zk_iv fun x1 e1 => ?_
  have gx1 : 0 ≤ x1.toInt ∧ x1.toInt ≤ 6 := by rw [e1]; exact RS0 0 _ _
  refine zk_bx (s_F_X6_needElement _ _ _ RS0 (by omega)) (fun v2 T3 h2 => ?_) (fun z4 v2 T3 h2 => ?_)
  ·
    obtain ⟨rfl, h2⟩ := h2
    try dsimp only at h2
    refine zk_bx (s_F_X6_needCell _ _ RS0) (fun v5 T6 h5 => ?_) (fun z7 v5 T6 h5 => ?_)
    ·
      obtain ⟨rfl, h5⟩ := h5
      try dsimp only at h5
      refine zk_iv fun x8 e8 => ?_
      have gx8 : 0 ≤ x8.toInt ∧ x8.toInt ≤ 200 := by rw [e8]; exact RS0 1 _ _
      refine zk_lt (fun c9 => ?_) (fun c9 => ?_)
      ·
        refine zk_gd ⟨by omega, by omega⟩ ?_
        refine zk_iv fun x10 e10 => ?_
        refine zk_bd (s_F_X6_allWeights _ _ RS0) (fun v11 T12 h11 => ?_)
        obtain ⟨rfl, h11⟩ := h11
        refine zk_bd (s_F_X0_draw _ _ _ RS0) (fun v13 T14 h13 => ?_)
        obtain ⟨RT14, fT14, h13⟩ := h13
        have FT14 := FS0.tr (fT14.sub (m := 2147486881) (by decide))
        have GT14 := GS0.fr fT14 rfl rfl
        refine zk_imp (s_B_X6_play_47 _ _ RT14 GT14 (by (try dsimp only) <;> omega) (by (try dsimp only) <;> omega)) (fun v15 T16 h15 => ?_)
        obtain ⟨RT16, fT16, GT16, h15⟩ := h15
        have FT16 := FT14.tr (fT16.sub (m := 2147486881) (by decide))
        try dsimp only at h15
        exact ⟨RT16, FT16, GT16, by omega⟩
      ·
        exact zk_some ⟨RS0, FS0, GS0, by (try dsimp only) <;> omega⟩
    ·
      obtain ⟨rfl, h5⟩ := h5
      try dsimp only at h5
      exact ⟨RS0, FS0, GS0, by (try dsimp only) <;> omega⟩
  ·
    obtain ⟨rfl, h2⟩ := h2
    try dsimp only at h2
    exact ⟨RS0, FS0, GS0, by (try dsimp only) <;> omega⟩
theorem s_F_X6_program (p1 : Int32) (p2 : Int32) (S0 : fS) (RS0 : RI S0) (GS0 : GI S0) : zk (F_X6_program p1 p2 S0) (fun v S9 => RI S9 ∧ Fr 2147487811 S0 S9 ∧ GI S9 ∧ (v.1 = 0 ∨ v.1 = 1)) := by
  have l0 : (0 : Int32).toInt = 0 := by decide
  have l5 : (5 : Int32).toInt = 5 := by decide
  have l8 : (8 : Int32).toInt = 8 := by decide
  have l10 : (10 : Int32).toInt = 10 := by decide
  have l11 : (11 : Int32).toInt = 11 := by decide
  have l12 : (12 : Int32).toInt = 12 := by decide
  have FS0 : Fr 2147487811 S0 S0 := Fr.rf
  unfold F_X6_program
  refine zk_iv fun x1 e1 => ?_
  have gx1 : 0 ≤ x1.toInt ∧ x1.toInt ≤ 300 := by rw [e1]; exact RS0 0 _ _
  refine zk_bd (s_F_X6_within _ _ _ _ RS0) (fun v2 T3 h2 => ?_)
  obtain ⟨rfl, h2⟩ := h2
  refine zk_bx (s_F_X6_need _ _ RS0) (fun v4 T5 h4 => ?_) (fun z6 v4 T5 h4 => ?_)
  ·
    obtain ⟨rfl, h4⟩ := h4
    try dsimp only at h4
    refine zk_sv fun S7 E7 => ?_
    have RS7 : RI S7 := by rw [E7]; exact RS0.wr (show (0 : Int) ≤ (0 : Int32).toInt by omega) (show (0 : Int32).toInt ≤ 300 by omega)
    have FS7 : Fr 2147487811 S0 S7 := by rw [E7]; exact FS0.wr (k := 1) rfl rfl
    have GS7 : GI S7 := by rw [E7]; exact GS0.wr (k := 1) rfl (by decide)
    have b8 := ti_bd p2
    refine zk_eq (fun c9 => ?_) (fun c9 => ?_)
    ·
      refine zk_bd (s_F_X4_readProgram _ _ RS7) (fun v10 T11 h10 => ?_)
      obtain ⟨RT11, fT11, h10⟩ := h10
      have FT11 := FS7.tr (fT11.sub (m := 2147487811) (by decide))
      have GT11 := GS7.fr fT11 rfl rfl
      unfold B_X6_program_48
      refine zk_iv fun x12 e12 => ?_
      refine zk_sv fun S13 E13 => ?_
      have RS13 : RI S13 := by rw [E13]; exact RT11.wf rfl
      have FS13 : Fr 2147487811 S0 S13 := by rw [E13]; exact FT11.wr (k := 0) rfl rfl
      have GS13 : GI S13 := by rw [E13]; exact GT11.wr (k := 0) rfl (by decide)
      have b14 := ti_bd v10
      refine zk_eq (fun c15 => ?_) (fun c15 => ?_)
      ·
        refine zk_iv fun x16 e16 => ?_
        refine zk_iv fun x17 e17 => ?_
        exact zk_some ⟨RS13, FS13, GS13, by (try dsimp only) <;> omega⟩
      ·
        refine zk_eq (fun c18 => ?_) (fun c18 => ?_)
        ·
          refine zk_bd (s_F_X6_keepProgram _ RS13 GS13) (fun v19 T20 h19 => ?_)
          obtain ⟨RT20, fT20, GT20, h19⟩ := h19
          have FT20 := FS13.tr (fT20.sub (m := 2147487811) (by decide))
          exact zk_some ⟨RT20, FT20, GT20, by (try dsimp only) <;> omega⟩
        ·
          exact False.elim (by omega)
    ·
      refine zk_bd (s_F_X4_readLaw _ _ RS7) (fun v21 T22 h21 => ?_)
      obtain ⟨RT22, fT22, h21⟩ := h21
      have FT22 := FS7.tr (fT22.sub (m := 2147487811) (by decide))
      have GT22 := GS7.fr fT22 rfl rfl
      unfold B_X6_program_48
      refine zk_iv fun x23 e23 => ?_
      refine zk_sv fun S24 E24 => ?_
      have RS24 : RI S24 := by rw [E24]; exact RT22.wf rfl
      have FS24 : Fr 2147487811 S0 S24 := by rw [E24]; exact FT22.wr (k := 0) rfl rfl
      have GS24 : GI S24 := by rw [E24]; exact GT22.wr (k := 0) rfl (by decide)
      have b25 := ti_bd v21
      refine zk_eq (fun c26 => ?_) (fun c26 => ?_)
      ·
        refine zk_iv fun x27 e27 => ?_
        refine zk_iv fun x28 e28 => ?_
        exact zk_some ⟨RS24, FS24, GS24, by (try dsimp only) <;> omega⟩
      ·
        refine zk_eq (fun c29 => ?_) (fun c29 => ?_)
        ·
          refine zk_bd (s_F_X6_keepProgram _ RS24 GS24) (fun v30 T31 h30 => ?_)
          obtain ⟨RT31, fT31, GT31, h30⟩ := h30
          have FT31 := FS24.tr (fT31.sub (m := 2147487811) (by decide))
          exact zk_some ⟨RT31, FT31, GT31, by (try dsimp only) <;> omega⟩
        ·
          refine zk_bd (s_F_X6_keepLaw _ RS24 GS24) (fun v32 T33 h32 => ?_)
          obtain ⟨RT33, fT33, GT33, h32⟩ := h32
          have FT33 := FS24.tr (fT33.sub (m := 2147487811) (by decide))
          exact zk_some ⟨RT33, FT33, GT33, by (try dsimp only) <;> omega⟩
  ·
    obtain ⟨rfl, h4⟩ := h4
    try dsimp only at h4
    exact ⟨RS0, FS0, GS0, by (try dsimp only) <;> omega⟩
