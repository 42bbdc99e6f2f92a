/-! an image as a memory of its own; the relation that every call keeps -/
def VW (T : fS) (k : Nat) : fS := (fun a i j =>
  if a = 53 then ge T 61 (64 * k + i) j
  else if a = 54 then ge T 63 k j
  else if a = 50 then ge T 65 k j
  else if a = 40 then (if 35 ≤ j ∧ j ≤ 38 then ge T 67 k (j - 35) else if 30 ≤ j ∧ j ≤ 34 then ge T 67 k (j - 26) else if j = 46 then ge T 67 k 9 / 100 else if j = 21 then ge T 67 k 9 - ge T 67 k 9 / 100 * 100 else if j = 15 then ge T 67 k 10 else ge T 40 i j)
  else if a = 46 then ge T 69 (5 * k) j
  else if a = 47 then ge T 69 (5 * k + 1) j
  else if a = 48 then ge T 69 (5 * k + 2) j
  else if a = 49 then ge T 69 (5 * k + 3) j
  else if a = 51 then ge T 69 (5 * k + 4) j
  else if a = 57 then ge T 71 (200 * k + i) j
  else if 1 ≤ a ∧ a ≤ 10 ∧ i = 0 then ge T a (2 + k) j
  else ge T a i j, fun a i j => if a = 11 ∧ i = 0 then gr T 11 (2 + k) j else gr T a i j, T.2.2)
def IMq (T : fS) (k : Nat) : Prop := RLb (VW T k)
def IMf (S T : fS) : Prop := (∀ k : Nat, k < 3 → (∀ c j : Nat, c < 64 → ge T 61 (64 * k + c) j = ge S 61 (64 * k + c) j) ∧ (∀ j : Nat, ge T 63 k j = ge S 63 k j) ∧ (∀ j : Nat, ge T 65 k j = ge S 65 k j) ∧ (∀ j : Nat, ge T 67 k j = ge S 67 k j) ∧ (∀ q j : Nat, q < 5 → ge T 69 (5 * k + q) j = ge S 69 (5 * k + q) j) ∧ (∀ r j : Nat, r < 200 → ge T 71 (200 * k + r) j = ge S 71 (200 * k + r) j) ∧ (∀ a j : Nat, 1 ≤ a → a ≤ 10 → ge T a (2 + k) j = ge S a (2 + k) j) ∧ ∀ j : Nat, gr T 11 (2 + k) j = gr S 11 (2 + k) j) ∧ (∀ t j : Nat, 1 ≤ t → t < nT S → ge T 25 t j = ge S 25 t j) ∧ nT S ≤ nT T ∧ (ge S 40 0 13).toInt ≤ (ge T 40 0 13).toInt
def TPE (S : fS) : Prop := ge S 0 0 11 = ge S 40 0 1 ∧ ∀ k : Nat, (k : Int) < (ge S 0 0 11).toInt → ge S 16 0 k = ge S 41 0 k
def IMG (S : fS) : Prop := ge S 0 0 3 = ge S 40 0 56 ∧ ∀ k : Nat, (k : Int) < (ge S 0 0 3).toInt → k < 3 → IMq S k
def RLv (S : fS) : Prop := RLa S ∧ TPE S ∧ IMG S
def IV (S : fS) : Prop := RI S ∧ GI S ∧ HI S ∧ RLv S
section VWS
variable {S T U : fS} {k m : Nat}
theorem vw_box {a j : Nat} (h1 : 1 ≤ a) (h2 : a ≤ 10) : ge (VW T k) a 0 j = ge T a (2 + k) j := by
  show (if a = 53 then _ else if a = 54 then _ else if a = 50 then _ else if a = 40 then _ else if a = 46 then _ else if a = 47 then _ else if a = 48 then _ else if a = 49 then _ else if a = 51 then _ else if a = 57 then _ else if 1 ≤ a ∧ a ≤ 10 ∧ 0 = 0 then _ else _) = _
  rw [if_neg (by omega), if_neg (by omega), if_neg (by omega), if_neg (by omega), if_neg (by omega), if_neg (by omega), if_neg (by omega), if_neg (by omega), if_neg (by omega), if_neg (by omega), if_pos ⟨h1, h2, rfl⟩]
theorem vw_11 {j : Nat} : gr (VW T k) 11 0 j = gr T 11 (2 + k) j := rfl
theorem vw_25 {t j : Nat} : ge (VW T k) 25 t j = ge T 25 t j := rfl
theorem vw_57 {i j : Nat} : ge (VW T k) 57 i j = ge T 71 (200 * k + i) j := rfl
theorem vw_13 : ge (VW T k) 40 0 13 = ge T 40 0 13 := rfl
theorem vw_AR (h : IMf S T) (hk : k < 3) (hm : m ≤ 200) (hn : nq (VW S k) ≤ 24) : AR (VW S k) (VW T k) m := by
  obtain ⟨h1, h2, h3, h4⟩ := h
  obtain ⟨k61, k63, k65, k67, k69, k71, _, _⟩ := h1 k hk
  refine ⟨fun t ht => ⟨k69 0 t (by decide), k69 1 t (by decide), k69 2 t (by decide), k69 3 t (by decide), k65 t, k69 4 t (by decide)⟩, fun c j hc _ => k61 c j hc, fun c _ => k63 c, ⟨?_, k67 4, k67 5, k67 6, k67 7, k67 8, k67 0, k67 1, k67 2, k67 3, k67 10, ?_⟩, h4, fun r j hr _ => k71 r j (by omega)⟩
  · show ge T 67 k 9 - ge T 67 k 9 / 100 * 100 = ge S 67 k 9 - ge S 67 k 9 / 100 * 100
    rw [k67 9]
  · show ge T 67 k 9 / 100 = ge S 67 k 9 / 100
    rw [k67 9]
theorem vw_AC (h : IMf S T) (hk : k < 3) : AC (VW S k) (VW T k) m := by
  obtain ⟨h1, h2, h3, h4⟩ := h
  obtain ⟨_, _, _, _, _, _, kb, k11⟩ := h1 k hk
  refine ⟨fun j _ _ _ => ?_, ?_, fun a j h3 h9 _ => ?_, fun j _ => ?_, fun j _ => k11 j, fun t j ht h => h2 t j ht h, h3⟩
  · rw [vw_box (by decide) (by decide), vw_box (by decide) (by decide)]
    exact kb 1 j (by decide) (by decide)
  · rw [vw_box (by decide) (by decide), vw_box (by decide) (by decide)]
    exact kb 2 0 (by decide) (by decide)
  · rw [vw_box (by omega) (by omega), vw_box (by omega) (by omega)]
    exact kb a j (by omega) (by omega)
  · rw [vw_box (by decide) (by decide), vw_box (by decide) (by decide)]
    exact kb 10 j (by decide) (by decide)
theorem IMq.mv (h : IMq S k) (f : IMf S T) (hk : k < 3) : IMq T k := by
  have h' : RLb (VW S k) := h
  obtain ⟨m, m2, r1, r2, r3⟩ := h'.2.2.2.2.2.2.2
  exact h'.cg r2 (vw_AR f hk m2 h'.2.1.2.2.1) (vw_AC f hk)
theorem IMf.rf : IMf S S := ⟨fun _ _ => ⟨fun _ _ _ => rfl, fun _ => rfl, fun _ => rfl, fun _ => rfl, fun _ _ _ => rfl, fun _ _ _ => rfl, fun _ _ _ _ => rfl, fun _ => rfl⟩, fun _ _ _ _ => rfl, Nat.le_refl _, Int.le_refl _⟩
theorem IMf.tr (h : IMf S T) (g : IMf T U) : IMf S U := by
  obtain ⟨h1, h2, h3, h4⟩ := h
  obtain ⟨g1, g2, g3, g4⟩ := g
  refine ⟨fun k hk => ?_, fun t j h0 hl => (g2 t j h0 (Nat.lt_of_lt_of_le hl h3)).trans (h2 t j h0 hl), Nat.le_trans h3 g3, Int.le_trans h4 g4⟩
  obtain ⟨a1, a2, a3, a4, a5, a6, a7, a8⟩ := h1 k hk
  obtain ⟨b1, b2, b3, b4, b5, b6, b7, b8⟩ := g1 k hk
  exact ⟨fun c j hc => (b1 c j hc).trans (a1 c j hc), fun j => (b2 j).trans (a2 j), fun j => (b3 j).trans (a3 j), fun j => (b4 j).trans (a4 j), fun q j hq => (b5 q j hq).trans (a5 q j hq), fun r j hr => (b6 r j hr).trans (a6 r j hr), fun a j h1 h2 => (b7 a j h1 h2).trans (a7 a j h1 h2), fun j => (b8 j).trans (a8 j)⟩
theorem IMf.fx {V : Nat → Nat → Nat → Bool} (F : FX V S T) (h1 : ∀ a i j : Nat, 61 ≤ a → a ≤ 71 → V a i j = false) (hb : ∀ a i j : Nat, 1 ≤ a → a ≤ 10 → 2 ≤ i → V a i j = false) (h25 : ∀ t j : Nat, 1 ≤ t → V 25 t j = false) (h13 : V 40 0 13 = false) : IMf S T := by
  refine ⟨fun k _ => ⟨fun c j _ => F.1 61 _ j (h1 _ _ _ (by decide) (by decide)), fun j => F.1 63 k j (h1 _ _ _ (by decide) (by decide)), fun j => F.1 65 k j (h1 _ _ _ (by decide) (by decide)), fun j => F.1 67 k j (h1 _ _ _ (by decide) (by decide)), fun q j _ => F.1 69 _ j (h1 _ _ _ (by decide) (by decide)), fun r j _ => F.1 71 _ j (h1 _ _ _ (by decide) (by decide)), fun a j h h2 => F.1 a (2 + k) j (hb _ _ _ h h2 (by omega)), fun j => gr_fx F _ _ _⟩, fun t j ht _ => F.1 25 t j (h25 t j ht), ?_, by rw [F.1 40 0 13 h13]; exact Int.le_refl _⟩
  rw [show nT T = nT S from congrArg (fun z => z.2.1.1) F.2]
  exact Nat.le_refl _
/-- the reference's part as it was: only the class wrote -/
theorem IMf.cl (h : SRq S T) (hb : ∀ a i j : Nat, 1 ≤ a → a ≤ 10 → 2 ≤ i → ge T a i j = ge S a i j) (h11 : ∀ i j : Nat, 2 ≤ i → gr T 11 i j = gr S 11 i j) (h25 : ∀ t j : Nat, 1 ≤ t → t < nT S → ge T 25 t j = ge S 25 t j) (hn : nT S ≤ nT T) : IMf S T := by
  refine ⟨fun k _ => ⟨fun c j _ => h 61 _ j (by decide), fun j => h 63 k j (by decide), fun j => h 65 k j (by decide), fun j => h 67 k j (by decide), fun q j _ => h 69 _ j (by decide), fun r j _ => h 71 _ j (by decide), fun a j h h2 => hb a (2 + k) j h h2 (by omega), fun j => h11 _ j (by omega)⟩, h25, hn, by rw [h 40 0 13 (by decide)]; exact Int.le_refl _⟩
theorem IMG.mv (h : IMG S) (f : IMf S T) (e3 : ge T 0 0 3 = ge S 0 0 3) (e56 : ge T 40 0 56 = ge S 40 0 56) : IMG T := by
  refine ⟨by rw [e3, e56]; exact h.1, fun k hk h3 => (h.2 k (by rw [← e3]; exact hk) h3).mv f h3⟩
theorem TPE.mv (h : TPE S) (e11 : ge T 0 0 11 = ge S 0 0 11) (e1 : ge T 40 0 1 = ge S 40 0 1) (e16 : ∀ k : Nat, ge T 16 0 k = ge S 16 0 k) (e41 : ∀ k : Nat, ge T 41 0 k = ge S 41 0 k) : TPE T := by
  refine ⟨by rw [e11, e1]; exact h.1, fun k hk => ?_⟩
  rw [e16, e41]
  exact h.2 k (by rw [← e11]; exact hk)
theorem RLa.b (h : RLa S) (h0 : 0 ≤ nq S) : RLb S := by
  obtain ⟨H, hO, B, N, hP, hI, hs, hR, hn, hH⟩ := h
  exact ⟨h0, H, hO, B, N, hI, hs, hR⟩
theorem HNq.mv (h : HNq S) (e9 : ge T 0 0 9 = ge S 0 0 9) (e48 : ge T 40 0 48 = ge S 40 0 48) (e15 : ∀ k : Nat, ge T 15 0 k = ge S 15 0 k) (e59 : ∀ k j : Nat, ge T 59 k j = ge S 59 k j) : HNq T := by
  unfold HNq
  rw [e9, e48]
  exact ⟨h.1, fun x k hx hk => by rw [e59, e15]; exact h.2 x k hx hk⟩
theorem RLb.a (h : RLb S) (hP : PGq S) (hn : 1 ≤ nT S) (hH : HNq S) : RLa S := by
  obtain ⟨h0, H, hO, B, N, hI, hs, hR⟩ := h
  exact ⟨H, hO, B, N, hP, hI, hs, hR, hn, hH⟩
end VWS
/-! scratch cells -/
def WX (a i j : Nat) : Bool := (Nat.beq a 22 || (Nat.beq a 23 || (Nat.beq a 24 || (Nat.beq a 27 || (Nat.beq a 28 || (Nat.beq a 45 || (Nat.beq a 55 || (Nat.beq a 90 || Nat.beq a 91)))))))) || (((Nat.beq a 25 || Nat.beq a 26) && Nat.beq i 0) || (Nat.beq a 40 && (Nat.beq j 0 || (Nat.beq j 2 || (Nat.beq j 4 || (Nat.beq j 5 || (Nat.beq j 6 || (Nat.beq j 7 || (Nat.beq j 8 || (Nat.beq j 9 || (Nat.beq j 16 || (Nat.beq j 18 || (Nat.beq j 19 || (Nat.beq j 20 || (Nat.beq j 40 || (Nat.beq j 41 || (Nat.beq j 42 || (Nat.beq j 43 || (Nat.beq j 44 || Nat.beq j 45)))))))))))))))))))
section WXS
variable {S T : fS}
theorem WX_out {a i j : Nat} (h : a < 22 ∨ (29 ≤ a ∧ a ≤ 39) ∨ (41 ≤ a ∧ a ≤ 44) ∨ (46 ≤ a ∧ a ≤ 54) ∨ (56 ≤ a ∧ a ≤ 89)) : WX a i j = false := by
  unfold WX
  rw [beq_out (by omega : a ≠ 22), beq_out (by omega : a ≠ 23), beq_out (by omega : a ≠ 24), beq_out (by omega : a ≠ 27), beq_out (by omega : a ≠ 28), beq_out (by omega : a ≠ 45), beq_out (by omega : a ≠ 55), beq_out (by omega : a ≠ 90), beq_out (by omega : a ≠ 91), beq_out (by omega : a ≠ 25), beq_out (by omega : a ≠ 26), beq_out (by omega : a ≠ 40)]
  rfl
theorem WX_25 {t j : Nat} (h : 1 ≤ t) : WX 25 t j = false := by
  show (false || ((true && Nat.beq t 0) || false)) = false
  rw [beq_out (by omega : t ≠ 0)]
  rfl
theorem WX_26 {t j : Nat} (h : 1 ≤ t) : WX 26 t j = false := by
  show (false || ((true && Nat.beq t 0) || false)) = false
  rw [beq_out (by omega : t ≠ 0)]
  rfl
theorem RLv.scr (h : RLv S) (h0 : 0 ≤ nq S) (F : FX WX S T) : RLv T := by
  obtain ⟨ha, ht, hi⟩ := h
  have hb := ha.b h0
  obtain ⟨m, m2, r1, r2, r3⟩ := hb.2.2.2.2.2.2.2
  obtain ⟨H, hO, B, N, hP, hI, hs, hR, hn, hH⟩ := ha
  have ar : AR S T m := AR.fx F (fun a j h1 h2 => WX_out (by omega)) (fun _ _ => WX_out (by decide)) (fun j hj => by
    have : j = 13 ∨ j = 15 ∨ j = 21 ∨ j = 30 ∨ j = 31 ∨ j = 32 ∨ j = 33 ∨ j = 34 ∨ j = 35 ∨ j = 36 ∨ j = 37 ∨ j = 38 ∨ j = 46 := by omega
    rcases this with rfl | rfl | rfl | rfl | rfl | rfl | rfl | rfl | rfl | rfl | rfl | rfl | rfl <;> rfl) (fun _ _ => WX_out (by decide))
  have ac : AC S T m := AC.fx F (fun a j h1 h2 => WX_out (by omega)) (fun t j ht => WX_25 ht)
  have lo : ∀ a i j : Nat, a < 22 → ge T a i j = ge S a i j := fun a i j h => F.1 a i j (WX_out (by omega))
  refine ⟨(hb.cg r2 ar ac).a (hP.fx F (WX_out (by decide)) (WX_out (by decide)) rfl rfl (fun _ => WX_out (by decide)) (fun _ _ => WX_out (by decide)) (fun _ _ => WX_out (by decide))) ?_ (hH.mv (lo _ _ _ (by decide)) (F.1 40 0 48 rfl) (fun k => lo _ _ _ (by decide)) (fun k j => F.1 59 k j (WX_out (by decide)))), ht.mv (lo _ _ _ (by decide)) (F.1 40 0 1 rfl) (fun k => lo _ _ _ (by decide)) (fun k => F.1 41 0 k (WX_out (by decide))), hi.mv (IMf.fx F (fun a i j h1 h2 => WX_out (by omega)) (fun a i j h1 h2 _ => WX_out (by omega)) (fun t j ht => WX_25 ht) rfl) (lo _ _ _ (by decide)) (F.1 40 0 56 rfl)⟩
  rw [show nT T = nT S from congrArg (fun z => z.2.1.1) F.2]
  exact hn
end WXS
