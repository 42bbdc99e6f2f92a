section EV
variable {K : Nat → ClassId} {nO n : Nat × Nat} {adO ad ad2 : Nat → Nat → Nat} {LO L L2 : List Nat} {fO f f2 : Nat → va_E} {S : fS} {P P2 : Nat → Nat → Prop} {q : Nat} {e : va_E}
theorem PW.newT (hw : PW K ad P S L f) (hP : ∀ a i : Nat, isn n a i → P a i) (hn : S.2.2.1 = n) : PW K ad (isn n) (newT S) L f := by
  refine (hw.mono hP).cong (fun a i h => cell_newT (fun z => ?_))
  have hnT : nT S = n.1 := by rw [← hn]; rfl
  rcases z with ⟨rfl | rfl, z⟩
  · have : i < n.1 := h
    omega
  · have : i < n.1 := h
    omega
theorem PW.newC {x : Int32} (hw : PW K ad P S L f) (hP : ∀ a i : Nat, isn n a i → P a i) (hn : S.2.2.1 = n) : PW K ad (isn n) (newC S x) L f := by
  refine (hw.mono hP).cong (fun a i h => cell_newC (fun z => ?_))
  have hnC : nC S = n.2 := by rw [← hn]; rfl
  obtain ⟨rfl, z⟩ := z
  have : i < n.2 := h
  omega
theorem rc_newT (hc : Cl S) (hn : S.2.2.1 = n) (h0 : 0 < n.1) : RC (isn n) (newT S) := fun a i b c hp hr => rc_isn hc hn h0 a i b c hp hr
theorem rc_newC {x : Int32} (hc : Cl S) (hn : S.2.2.1 = n) (h0 : 0 < n.1) : RC (isn n) (newC S x) := fun a i b c hp hr => rc_isn hc hn h0 a i b c hp hr
theorem new_25 (S : fS) (j : Nat) : ge (newT S) 25 (nT S) j = tI j := if_pos ⟨rfl, rfl⟩
theorem new_26 (S : fS) (j : Nat) : ge (newT S) 26 (nT S) j = 0 := by
  show (if 26 = 25 ∧ nT S = nT S then tI j else if 26 = 26 ∧ nT S = nT S then 0 else S.1 26 (nT S) j) = 0
  rw [if_neg (fun h => absurd h.1 (by decide)), if_pos ⟨rfl, rfl⟩]
theorem isn_no25 (hn : S.2.2.1 = n) : ¬ isn n 25 (nT S) := fun h => by
  have h1 : nT S < n.1 := h
  have hnT : nT S = n.1 := by rw [← hn]; rfl
  omega
theorem isn_no26 (hn : S.2.2.1 = n) : ¬ isn n 26 (nT S) := fun h => by
  have h1 : nT S < n.1 := h
  have hnT : nT S = n.1 := by rw [← hn]; rfl
  omega
theorem isn_sT (hn : S.2.2.1 = n) (hI : ∀ a k : Nat, P2 a k ↔ isn n a k ∨ (a, k) ∈ [(25, nT S), (26, nT S)]) : ∀ a k : Nat, isn (n.1 + 1, n.2) a k → P2 a k := by
  intro a k h
  have hnT : nT S = n.1 := by rw [← hn]; rfl
  refine (hI a k).mpr ?_
  unfold isn at h ⊢
  by_cases q1 : a = 25 ∨ a = 26
  · rw [if_pos q1] at h ⊢
    by_cases q2 : k < n.1
    · exact Or.inl q2
    · have e9 : k = nT S := by have h : k < n.1 + 1 := h; omega
      subst e9
      rcases q1 with rfl | rfl
      · exact Or.inr (by simp)
      · exact Or.inr (by simp)
  · rw [if_neg q1] at h ⊢
    exact Or.inl h
theorem gr_pos {X : Nat → Prop} {n2 : Nat × Nat} (h : Gr X (isn n) ad L f (isn n2) ad2 L2 f2) (h0 : 0 < n.1) : 0 < n2.1 := (h.1 25 0 h0).1
theorem gr_T (hG : Gr (fun _ => False) (isn nO) adO LO fO P ad L f) (hP : ∀ a i : Nat, isn n a i → P a i) (hle : ∀ a i : Nat, isn nO a i → isn n a i) (hq : q ∉ L) (g3 : Gr (fun b => b = q) (isn n) ad (L ++ [q]) (va_up f q e) P2 ad2 L2 f2) {n2 : Nat × Nat} (hs : ∀ a k : Nat, isn n2 a k → P2 a k) (h1 : n.1 ≤ n2.1) (h2 : n.2 ≤ n2.2) : Gr (fun _ => False) (isn nO) adO LO fO (isn n2) ad2 L2 f2 := by
  have z := ((hG.sub hP hle).new (e := e) hq).tr g3 (fun b hb e9 => hq (by rw [← (show b = q from e9)]; exact (hG.2 b hb).1))
  exact z.sub hs (fun a i h => isn_up h1 h2 (hle a i h))
/-- a row of its own for the length of a call: block (a, 0), a above all that is referred to -/
theorem PW.tmp (hw : PW K ad P S L f) {a : Nat} (ha : 72 ≤ a) (hk : fk a = 1) (hty : fy a = 0) {N : Nat} (hN : flen S a 0 = N) (hn : ¬ P a 0) (hq : q ∉ L) : PW K (au ad a 0 q) (Pu P a 0) (pb S a 0 (fun _ => 0)) (L ++ [q]) (va_up f q (.inl (K 0, N, .inl (fun _ => 0)))) := by
  have hw1 : PW K ad P (pb S a 0 (fun _ => 0)) L f := hw.cong (fun a' i' hp => cell_pb (fun z => hn (by rw [← z.1, ← z.2]; exact hp)))
  have hag : ∀ a' i' : Nat, P a' i' → au ad a 0 q a' i' = ad a' i' := fun a' i' hp => au_ne (fun z => hn (by rw [← z.1, ← z.2]; exact hp))
  refine ⟨fun a' i' hp => ?_, fun a1 i1 a2 i2 h1 h2 e9 => ?_⟩
  · rcases hp with hp | ⟨e1, e2⟩
    · rw [hag a' i' hp, cell_ext (fun b c hr => au_ne (fun z => by have := rf_lt hr; omega))]
      exact (hw1.pool hq).1 a' i' hp
    · rw [e1, e2, au_self, va_up_self]
      refine ⟨List.mem_append_right _ (List.mem_singleton.mpr rfl), ?_⟩
      rw [cell_1 hk, hty]
      show _ = (Sum.inl (K 0, flen S a 0, _) : va_E)
      rw [hN]
      refine congrArg (fun g => (.inl (K 0, N, .inl g) : va_E)) (funext fun j => ?_)
      rw [ge_pb, if_pos ⟨rfl, rfl⟩]
  · rcases h1 with h1 | ⟨e1, e2⟩
    · rcases h2 with h2 | ⟨e3, e4⟩
      · rw [hag _ _ h1, hag _ _ h2] at e9
        exact hw.2 _ _ _ _ h1 h2 e9
      · rw [e3, e4, hag _ _ h1, au_self] at e9
        exact absurd e9 (hw.fr hq _ _ h1)
    · rcases h2 with h2 | ⟨e3, e4⟩
      · rw [e1, e2, hag _ _ h2, au_self] at e9
        exact absurd e9.symm (hw.fr hq _ _ h2)
      · exact ⟨e1.trans e3.symm, e2.trans e4.symm⟩
theorem gr_tmp (hG : Gr (fun _ => False) (isn nO) adO LO fO P ad L f) {a : Nat} (hn : ¬ P a 0) (hq : q ∉ L) : Gr (fun _ => False) (isn nO) adO LO fO (Pu P a 0) (au ad a 0 q) (L ++ [q]) (va_up f q e) := (hG.new hq).add hn (fun z => hq (hG.2 q z).1)
end EV
