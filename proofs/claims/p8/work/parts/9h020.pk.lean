/-! what holds if a function ends: no measure is wanted, a guard gives its condition -/
def pk {A : Type} (x : Option (A × fS)) (Q : A → fS → Prop) : Prop := ∀ (v : A) (S : fS), x = some (v, S) → Q v S
section PKS
variable {A B : Type} {Q Q2 : A → fS → Prop}
theorem zk.pk {x : Option (A × fS)} (h : zk x Q) : pk x Q := by
  obtain ⟨v, S, e, q⟩ := h
  intro v2 S2 e2
  rw [e] at e2
  have e3 := Option.some.inj e2
  have e4 : v = v2 := congrArg Prod.fst e3
  have e5 : S = S2 := congrArg Prod.snd e3
  rw [← e4, ← e5]
  exact q
theorem zk_pk {x : Option (A × fS)} (h : zk x Q) (h2 : pk x Q2) : zk x (fun v T => Q v T ∧ Q2 v T) := by
  obtain ⟨v, S, e, q⟩ := h
  exact ⟨v, S, e, q, h2 v S e⟩
theorem pq_and {x : Option (A × fS)} (h : pk x Q) (h2 : pk x Q2) : pk x (fun v T => Q v T ∧ Q2 v T) := fun v S e => ⟨h v S e, h2 v S e⟩
theorem pq_imp {x : Option (A × fS)} (h : pk x Q) (hi : ∀ (v : A) (S : fS), Q v S → Q2 v S) : pk x Q2 := fun v S e => hi v S (h v S e)
theorem pq_none : pk (none : Option (A × fS)) Q := fun v S e => nomatch e
theorem pq_some {v : A} {S : fS} (h : Q v S) : pk (some (v, S)) Q := by
  intro v2 S2 e
  have e3 := Option.some.inj e
  have e4 : v = v2 := congrArg Prod.fst e3
  have e5 : S = S2 := congrArg Prod.snd e3
  rw [← e4, ← e5]
  exact h
theorem pq_iv {v : Int32} {k : Int32 → Option (A × fS)} (h : ∀ x : Int32, x = v → pk (k x) Q) : pk (iv v k) Q := h v rfl
theorem pq_sv {S : fS} {k : fS → Option (A × fS)} (h : ∀ x : fS, x = S → pk (k x) Q) : pk (sv S k) Q := h S rfl
theorem pq_qv {v : Option Nat} {k : Option Nat → Option (A × fS)} (h : ∀ x : Option Nat, x = v → pk (k x) Q) : pk (qv v k) Q := h v rfl
theorem pq_nv {v : Nat} {k : Nat → Option (A × fS)} (h : ∀ x : Nat, x = v → pk (k x) Q) : pk (nv v k) Q := h v rfl
theorem pq_gd {c : Prop} {ins : Decidable c} {k : Option (A × fS)} (h : c → pk k Q) : pk (@gd (A × fS) c ins k) Q := by
  unfold gd
  by_cases q : c
  · rw [if_pos q]; exact h q
  · rw [if_neg q]; exact pq_none
theorem pq_gdc {c : Prop} {k : Option (A × fS)} (h : c → pk k Q) : pk (gdc c k) Q := by
  unfold gdc
  exact pq_gd h
theorem pq_bb {c : Prop} {ins : Decidable c} {x y : Option (A × fS)} (h1 : c → pk x Q) (h2 : ¬ c → pk y Q) : pk (@bb (A × fS) c ins x y) Q := by
  unfold bb
  by_cases q : c
  · rw [if_pos q]; exact h1 q
  · rw [if_neg q]; exact h2 q
theorem pq_lt {a b : Int32} {ins : Decidable (a < b)} {x y : Option (A × fS)} (h1 : a.toInt < b.toInt → pk x Q) (h2 : b.toInt ≤ a.toInt → pk y Q) : pk (@bb (A × fS) (a < b) ins x y) Q := pq_bb (fun q => h1 (lt_toInt q)) (fun q => h2 (nlt_toInt q))
theorem pq_le {a b : Int32} {ins : Decidable (a ≤ b)} {x y : Option (A × fS)} (h1 : a.toInt ≤ b.toInt → pk x Q) (h2 : b.toInt < a.toInt → pk y Q) : pk (@bb (A × fS) (a ≤ b) ins x y) Q := pq_bb (fun q => h1 (le_toInt q)) (fun q => h2 (nle_toInt q))
theorem pq_eq {a b : Int32} {ins : Decidable (a = b)} {x y : Option (A × fS)} (h1 : a.toInt = b.toInt → pk x Q) (h2 : ¬ a.toInt = b.toInt → pk y Q) : pk (@bb (A × fS) (a = b) ins x y) Q := pq_bb (fun q => h1 (eq_toInt q)) (fun q => h2 (ne_toInt q))
theorem pq_bd {x : Option (B × fS)} {k : B → fS → Option (A × fS)} {Q1 : B → fS → Prop} (h : pk x Q1) (hk : ∀ (v : B) (S : fS), Q1 v S → pk (k v S) Q) : pk (bd x k) Q := by
  intro v S e
  obtain ⟨w, T, e1, e2⟩ := bd_some e
  exact hk w T (h w T e1) v S e2
theorem pq_oc {o : Option Nat} {x : Option (A × fS)} {k : Nat → Option (A × fS)} (h0 : o = none → pk x Q) (h1 : ∀ t : Nat, o = some t → pk (k t) Q) : pk (oc o x k) Q := by
  match o, h0, h1 with
  | none, h0, _ => exact h0 rfl
  | some t, _, h1 => exact h1 t rfl
theorem pq_lp {Z : Type} {body : (Z → fS → Option (A × fS)) → Z → fS → Option (A × fS)} (I : Z → fS → Prop) (P : Z → fS → A → fS → Prop) (hb : ∀ k : Z → fS → Option (A × fS), (∀ (z : Z) (S : fS), I z S → pk (k z S) (P z S)) → ∀ (z : Z) (S : fS), I z S → pk (body k z S) (P z S)) : ∀ (n : Nat) (z : Z) (S : fS), I z S → pk (lp body n z S) (P z S)
  | 0, _, _, _ => pq_none
  | n + 1, z, S, h => hb (lp body n) (pq_lp I P hb n) z S h
end PKS
theorem pq_bx {Q : Nat × Int32 → fS → Prop} {x : Option ((Nat × Int32) × fS)} {k : Int32 → fS → Option ((Nat × Int32) × fS)} {Q1 : Nat × Int32 → fS → Prop} (h : pk x Q1) (h0 : ∀ (v : Int32) (S : fS), Q1 (0, v) S → pk (k v S) Q) (h1 : ∀ (e : Nat) (v : Int32) (S : fS), Q1 (e + 1, v) S → Q (e + 1, v) S) : pk (bx x k) Q := by
  match x, h with
  | none, _ => exact pq_none
  | some ((0, v), S), h => exact h0 v S (h _ _ rfl)
  | some ((e + 1, v), S), h => exact pq_some (h1 e v S (h _ _ rfl))
/-! what is written -/
def fr {A : Type} (W : Nat → Nat → Nat → Bool) (S0 : fS) (x : Option (A × fS)) : Prop := pk x (fun _ T => FX W S0 T)
section FRS
variable {A B : Type} {W : Nat → Nat → Nat → Bool} {S0 S : fS}
theorem FX.wb {a i : Nat} {g : Nat → Int32} (h : FX W S0 S) (hw : ∀ j : Nat, W a i j = true) : FX W S0 (pb S a i g) := by
  refine ⟨fun a' i' j' q => ?_, h.2⟩
  rw [ge_pb, if_neg (fun e => by rw [e.1, e.2, hw] at q; cases q)]
  exact h.1 a' i' j' q
theorem fr_none : fr W S0 (none : Option (A × fS)) := pq_none
theorem fr_some {v : A} (h : FX W S0 S) : fr W S0 (some (v, S)) := pq_some h
theorem fr_iv {v : Int32} {k : Int32 → Option (A × fS)} (h : ∀ x : Int32, fr W S0 (k x)) : fr W S0 (iv v k) := h v
theorem fr_qv {v : Option Nat} {k : Option Nat → Option (A × fS)} (h : ∀ x : Option Nat, fr W S0 (k x)) : fr W S0 (qv v k) := h v
theorem fr_nv {v : Nat} {k : Nat → Option (A × fS)} (h : ∀ x : Nat, fr W S0 (k x)) : fr W S0 (nv v k) := h v
theorem fr_gd {c : Prop} {ins : Decidable c} {k : Option (A × fS)} (h : c → fr W S0 k) : fr W S0 (@gd (A × fS) c ins k) := pq_gd h
theorem fr_gdc {c : Prop} {k : Option (A × fS)} (h : c → fr W S0 k) : fr W S0 (gdc c k) := pq_gdc h
theorem fr_bb {c : Prop} {ins : Decidable c} {x y : Option (A × fS)} (h1 : c → fr W S0 x) (h2 : ¬ c → fr W S0 y) : fr W S0 (@bb (A × fS) c ins x y) := pq_bb h1 h2
theorem fr_oc {o : Option Nat} {x : Option (A × fS)} {k : Nat → Option (A × fS)} (h0 : o = none → fr W S0 x) (h1 : ∀ t : Nat, o = some t → fr W S0 (k t)) : fr W S0 (oc o x k) := pq_oc h0 h1
theorem fr_pu {a i j : Nat} {v : Int32} {k : fS → Option (A × fS)} (h : FX W S0 S) (hw : W a i j = true) (hk : ∀ T : fS, FX W S0 T → fr W S0 (k T)) : fr W S0 (sv (pu S a i j v) k) := hk _ (h.wr hw)
theorem fr_pb {a i : Nat} {g : Nat → Int32} {k : fS → Option (A × fS)} (h : FX W S0 S) (hw : ∀ j : Nat, W a i j = true) (hk : ∀ T : fS, FX W S0 T → fr W S0 (k T)) : fr W S0 (sv (pb S a i g) k) := hk _ (h.wb hw)
theorem fr_bd {x : Option (B × fS)} {k : B → fS → Option (A × fS)} (h : fr W S0 x) (hk : ∀ (v : B) (T : fS), FX W S0 T → fr W S0 (k v T)) : fr W S0 (bd x k) := pq_bd h hk
theorem fr_lp {Z : Type} {body : (Z → fS → Option (A × fS)) → Z → fS → Option (A × fS)} {n : Nat} {z : Z} (hb : ∀ k : Z → fS → Option (A × fS), (∀ (z : Z) (S : fS), FX W S0 S → fr W S0 (k z S)) → ∀ (z : Z) (S : fS), FX W S0 S → fr W S0 (body k z S)) (h : FX W S0 S) : fr W S0 (lp body n z S) := pq_lp (fun _ S => FX W S0 S) (fun _ _ _ T => FX W S0 T) hb n z S h
theorem fr.go {x : Option (A × fS)} (h : fr W S0 x) : pk x (fun _ T => FX W S0 T) := h
end FRS
theorem fr_bx {W : Nat → Nat → Nat → Bool} {S0 : fS} {x : Option ((Nat × Int32) × fS)} {k : Int32 → fS → Option ((Nat × Int32) × fS)} (h : fr W S0 x) (hk : ∀ (v : Int32) (T : fS), FX W S0 T → fr W S0 (k v T)) : fr W S0 (bx x k) := pq_bx h hk (fun _ _ _ q => q)
