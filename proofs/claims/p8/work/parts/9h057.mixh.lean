/-! the class neither reads nor writes what is the reference's -/
def mx (T G : fS) : fS := (fun a i j => if a < 40 then T.1 a i j else G.1 a i j, T.2)
def mq {A : Type} (G : fS) : Option (A × fS) → Option (A × fS)
  | none => none
  | some (v, T) => some (v, mx T G)
def sm {A : Type} (G : fS) (x y : Option (A × fS)) : Prop := y = mq G x
section MIX
variable {A B : Type} {G T S : fS}
theorem mx_lo {a i j : Nat} (h : a < 40) : ge (mx T G) a i j = ge T a i j := by
  show (if a < 40 then T.1 a i j else G.1 a i j) = T.1 a i j
  rw [if_pos h]
theorem mx_hi {a i j : Nat} (h : 40 ≤ a) : ge (mx T G) a i j = ge G a i j := by
  show (if a < 40 then T.1 a i j else G.1 a i j) = G.1 a i j
  rw [if_neg (by omega)]
theorem pu_mx {a i j : Nat} {v : Int32} (h : a < 40) : pu (mx T G) a i j v = mx (pu T a i j v) G := by
  unfold pu mx
  refine Prod.ext (funext fun a' => funext fun i' => funext fun j' => ?_) rfl
  show (if a' = a ∧ i' = i ∧ j' = j then v else if a' < 40 then T.1 a' i' j' else G.1 a' i' j') = if a' < 40 then (if a' = a ∧ i' = i ∧ j' = j then v else T.1 a' i' j') else G.1 a' i' j'
  by_cases q : a' = a ∧ i' = i ∧ j' = j
  · rw [if_pos q, if_pos q, if_pos (by omega)]
  · rw [if_neg q, if_neg q]
theorem pb_mx {a i : Nat} {g : Nat → Int32} (h : a < 40) : pb (mx T G) a i g = mx (pb T a i g) G := by
  unfold pb mx
  refine Prod.ext (funext fun a' => funext fun i' => funext fun j' => ?_) rfl
  show (if a' = a ∧ i' = i then g j' else if a' < 40 then T.1 a' i' j' else G.1 a' i' j') = if a' < 40 then (if a' = a ∧ i' = i then g j' else T.1 a' i' j') else G.1 a' i' j'
  by_cases q : a' = a ∧ i' = i
  · rw [if_pos q, if_pos q, if_pos (by omega)]
  · rw [if_neg q, if_neg q]
theorem newT_mx : newT (mx T G) = mx (newT T) G := by
  unfold newT mx
  refine Prod.ext (funext fun a' => funext fun i' => funext fun j' => ?_) rfl
  show (if a' = 25 ∧ i' = nT T then tI j' else if a' = 26 ∧ i' = nT T then 0 else if a' < 40 then T.1 a' i' j' else G.1 a' i' j') = if a' < 40 then (if a' = 25 ∧ i' = nT T then tI j' else if a' = 26 ∧ i' = nT T then 0 else T.1 a' i' j') else G.1 a' i' j'
  by_cases q : a' = 25 ∧ i' = nT T
  · rw [if_pos q, if_pos q, if_pos (by omega)]
  · rw [if_neg q, if_neg q]
    by_cases q : a' = 26 ∧ i' = nT T
    · rw [if_pos q, if_pos q, if_pos (by omega)]
    · rw [if_neg q, if_neg q]
theorem newC_mx {x : Int32} : newC (mx T G) x = mx (newC T x) G := by
  unfold newC
  refine Prod.ext (funext fun a' => funext fun i' => funext fun j' => ?_) rfl
  show (if a' = 30 ∧ i' = nC T then (if j' < x.toNatClampNeg then T.1 21 0 j' else 0) else if a' < 40 then T.1 a' i' j' else G.1 a' i' j') = if a' < 40 then (if a' = 30 ∧ i' = nC T then (if j' < x.toNatClampNeg then T.1 21 0 j' else 0) else T.1 a' i' j') else G.1 a' i' j'
  by_cases q : a' = 30 ∧ i' = nC T
  · rw [if_pos q, if_pos q, if_pos (show a' < 40 by omega)]
  · rw [if_neg q, if_neg q]
theorem sm_none : sm G (none : Option (A × fS)) none := rfl
theorem sm_some {v : A} : sm G (some (v, T)) (some (v, mx T G)) := rfl
theorem sm_iv {v v' : Int32} {k k' : Int32 → Option (A × fS)} (e : v' = v) (h : ∀ x : Int32, sm G (k x) (k' x)) : sm G (iv v k) (iv v' k') := by rw [e]; exact h v
theorem sm_nv {v v' : Nat} {k k' : Nat → Option (A × fS)} (e : v' = v) (h : ∀ x : Nat, sm G (k x) (k' x)) : sm G (nv v k) (nv v' k') := by rw [e]; exact h v
theorem sm_qv {v v' : Option Nat} {k k' : Option Nat → Option (A × fS)} (e : v' = v) (h : ∀ x : Option Nat, sm G (k x) (k' x)) : sm G (qv v k) (qv v' k') := by rw [e]; exact h v
theorem sm_pu {a i j : Nat} {v v' : Int32} {k k' : fS → Option (A × fS)} (ha : a < 40) (e : v' = v) (h : ∀ T : fS, sm G (k T) (k' (mx T G))) : sm G (sv (pu T a i j v) k) (sv (pu (mx T G) a i j v') k') := by rw [e, pu_mx ha]; exact h _
theorem sm_pb {a i : Nat} {g g' : Nat → Int32} {k k' : fS → Option (A × fS)} (ha : a < 40) (e : g' = g) (h : ∀ T : fS, sm G (k T) (k' (mx T G))) : sm G (sv (pb T a i g) k) (sv (pb (mx T G) a i g') k') := by rw [e, pb_mx ha]; exact h _
theorem sm_pr {a i j : Nat} {v v' : Option Nat} {k k' : fS → Option (A × fS)} (e : v' = v) (h : ∀ T : fS, sm G (k T) (k' (mx T G))) : sm G (sv (pr T a i j v) k) (sv (pr (mx T G) a i j v') k') := by rw [e]; exact h (pr T a i j v)
theorem sm_newT {k k' : fS → Option (A × fS)} (h : ∀ T : fS, sm G (k T) (k' (mx T G))) : sm G (sv (newT T) k) (sv (newT (mx T G)) k') := by rw [newT_mx]; exact h _
theorem sm_newC {x : Int32} {k k' : fS → Option (A × fS)} (h : ∀ T : fS, sm G (k T) (k' (mx T G))) : sm G (sv (newC T x) k) (sv (newC (mx T G) x) k') := by rw [newC_mx]; exact h _
theorem sm_gd {c c' : Prop} {i : Decidable c} {i' : Decidable c'} {k k' : Option (A × fS)} (e : c' = c) (h : c → sm G k k') : sm G (@gd (A × fS) c i k) (@gd (A × fS) c' i' k') := by
  subst e
  unfold gd
  by_cases q : c'
  · rw [if_pos q, if_pos q]; exact h q
  · rw [if_neg q, if_neg q]; rfl
theorem sm_gdc {c c' : Prop} {k k' : Option (A × fS)} (e : c' = c) (h : c → sm G k k') : sm G (gdc c k) (gdc c' k') := sm_gd e h
theorem sm_bb {c c' : Prop} {i : Decidable c} {i' : Decidable c'} {x x' y y' : Option (A × fS)} (e : c' = c) (h1 : c → sm G x x') (h2 : ¬ c → sm G y y') : sm G (@bb (A × fS) c i x y) (@bb (A × fS) c' i' x' y') := by
  subst e
  unfold bb
  by_cases q : c'
  · rw [if_pos q, if_pos q]; exact h1 q
  · rw [if_neg q, if_neg q]; exact h2 q
theorem sm_oc {o : Option Nat} {x x' : Option (A × fS)} {k k' : Nat → Option (A × fS)} (h0 : o = none → sm G x x') (h1 : ∀ t : Nat, o = some t → sm G (k t) (k' t)) : sm G (oc o x k) (oc o x' k') := by
  match o, h0, h1 with
  | none, h0, _ => exact h0 rfl
  | some t, _, h1 => exact h1 t rfl
theorem sm_bd {x x' : Option (B × fS)} {k k' : B → fS → Option (A × fS)} (h : sm G x x') (hk : ∀ (v : B) (T : fS), sm G (k v T) (k' v (mx T G))) : sm G (bd x k) (bd x' k') := by
  unfold sm at h
  rw [h]
  match x with
  | none => rfl
  | some (v, T) => exact hk v T
theorem sm_lp {Z : Type} {body : (Z → fS → Option (A × fS)) → Z → fS → Option (A × fS)} (hb : ∀ k : Z → fS → Option (A × fS), (∀ (z : Z) (S : fS), sm G (k z S) (k z (mx S G))) → ∀ (z : Z) (S : fS), sm G (body k z S) (body k z (mx S G))) : ∀ (n : Nat) (z : Z) (S : fS), sm G (lp body n z S) (lp body n z (mx S G))
  | 0, _, _ => rfl
  | n + 1, z, S => hb (lp body n) (sm_lp hb n) z S
end MIX
theorem sm_bx {G : fS} {x x' : Option ((Nat × Int32) × fS)} {k k' : Int32 → fS → Option ((Nat × Int32) × fS)} (h : sm G x x') (hk : ∀ (v : Int32) (T : fS), sm G (k v T) (k' v (mx T G))) : sm G (bx x k) (bx x' k') := by
  unfold sm at h
  rw [h]
  match x with
  | none => rfl
  | some ((0, v), T) => exact hk v T
  | some ((e + 1, v), T) => rfl
