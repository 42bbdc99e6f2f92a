/-! the reference's rows of what is kept, exactly -/
def Wly (a _ _ : Nat) : Bool := Nat.beq a 61 || (Nat.beq a 63 || (Nat.beq a 65 || Nat.beq a 67))
def Wlb (a _ j : Nat) : Bool := (Nat.beq a 53 || (Nat.beq a 54 || Nat.beq a 50)) || (Nat.beq a 40 && (Nat.beq j 35 || (Nat.beq j 36 || (Nat.beq j 37 || Nat.beq j 38))))
section LYS
variable {S T : fS} {p : Int32} {k0 : Nat}
theorem q_lays (RS : RI S) (hp : p.toInt = (k0 : Int)) (hk : k0 ≤ 3) : pk (F_X7_lays p S) (fun _ T => RI T ∧ FX Wly S T ∧ LAY S T k0 ∧ OTH S T k0 ∧ ge T 67 k0 0 = ge S 40 0 35 ∧ ge T 67 k0 1 = ge S 40 0 36 ∧ ge T 67 k0 2 = ge S 40 0 37 ∧ ge T 67 k0 3 = ge S 40 0 38) := by
  have l0 : (0 : Int32).toInt = 0 := by decide
  have c0 : (0 : Int32).toNatClampNeg = 0 := by decide
  have c1 : (1 : Int32).toNatClampNeg = 1 := by decide
  have c2 : (2 : Int32).toNatClampNeg = 2 := by decide
  have c3 : (3 : Int32).toNatClampNeg = 3 := by decide
  have ek := cnNq hp
  have main : pk (F_X7_lays p S) (fun _ T => FX Wly S T ∧ ge T 67 k0 0 = ge S 40 0 35 ∧ ge T 67 k0 1 = ge S 40 0 36 ∧ ge T 67 k0 2 = ge S 40 0 37 ∧ ge T 67 k0 3 = ge S 40 0 38) := by
    unfold F_X7_lays
    refine pq_lp (fun (y : Int32 × Int32) V => y.1 = p ∧ FX Wly S V) (fun _ _ (_ : Int32) T => FX Wly S T ∧ ge T 67 k0 0 = ge S 40 0 35 ∧ ge T 67 k0 1 = ge S 40 0 36 ∧ ge T 67 k0 2 = ge S 40 0 37 ∧ ge T 67 k0 3 = ge S 40 0 38) ?_ fuel (p, 0) S ⟨rfl, FX.rf⟩
    intro k hk2 y V hy
    obtain ⟨a1, a2⟩ := y
    obtain ⟨f1, FV⟩ := hy
    dsimp only at f1
    subst f1
    unfold B_X7_lays_2
    dsimp only
    refine pq_bb (fun _ => ?_) (fun _ => ?_)
    · refine pq_lp (fun (y : Int32 × Int32) V => y.1 = a1 ∧ FX Wly S V) (fun _ _ (_ : Int32) T => FX Wly S T ∧ ge T 67 k0 0 = ge S 40 0 35 ∧ ge T 67 k0 1 = ge S 40 0 36 ∧ ge T 67 k0 2 = ge S 40 0 37 ∧ ge T 67 k0 3 = ge S 40 0 38) ?_ fuel (a1, 0) V ⟨rfl, FV⟩
      intro k3 hk3 y V hy
      obtain ⟨b1, b2⟩ := y
      obtain ⟨f1, FV⟩ := hy
      dsimp only at f1
      subst f1
      unfold B_X7_lays_65
      dsimp only
      rw [ek, c0, c1, c2, c3]
      refine pq_bb (fun _ => ?_) (fun _ => ?_)
      · refine pq_gd fun _ => pq_iv fun x19 e19 => pq_sv fun S20 E20 => pq_gd fun _ => pq_iv fun x22 e22 => pq_sv fun S23 E23 => pq_gd fun _ => pq_iv fun x25 e25 => pq_sv fun S26 E26 => pq_gd fun _ => pq_iv fun x28 e28 => pq_sv fun S29 E29 => pq_some ?_
        have F20 : FX Wly S S20 := by rw [E20]; exact FV.wr rfl
        have F23 : FX Wly S S23 := by rw [E23]; exact F20.wr rfl
        have F26 : FX Wly S S26 := by rw [E26]; exact F23.wr rfl
        have F29 : FX Wly S S29 := by rw [E29]; exact F26.wr rfl
        refine ⟨F29, ?_, ?_, ?_, ?_⟩
        · rw [E29, ge_puj (by decide), E26, ge_puj (by decide), E23, ge_puj (by decide), E20, ge_pus, e19, FV.1 40 0 35 rfl]
        · rw [E29, ge_puj (by decide), E26, ge_puj (by decide), E23, ge_pus, e22, F20.1 40 0 36 rfl]
        · rw [E29, ge_puj (by decide), E26, ge_pus, e25, F23.1 40 0 37 rfl]
        · rw [E29, ge_pus, e28, F26.1 40 0 38 rfl]
      · refine pq_gd fun _ => pq_gd fun _ => pq_iv fun x32 e32 => pq_gd fun _ => pq_sv fun S34 E34 => pq_iv fun x35 _ => hk3 (b1, x35) S34 ⟨rfl, by rw [E34]; exact FV.wr rfl⟩
    · refine pq_lp (fun (y : Int32 × Int32 × Int32) V => y.1 = a1 ∧ FX Wly S V) (fun _ _ (_ : Int32) T => FX Wly S T ∧ ge T 67 k0 0 = ge S 40 0 35 ∧ ge T 67 k0 1 = ge S 40 0 36 ∧ ge T 67 k0 2 = ge S 40 0 37 ∧ ge T 67 k0 3 = ge S 40 0 38) ?_ fuel (a1, a2, 0) V ⟨rfl, FV⟩
      intro k3 hk3 y V hy
      obtain ⟨b1, b2, b3⟩ := y
      obtain ⟨f1, FV⟩ := hy
      dsimp only at f1
      subst f1
      unfold B_X7_lays_10
      dsimp only
      refine pq_bb (fun _ => ?_) (fun _ => ?_)
      · exact pq_gd fun _ => pq_gd fun _ => pq_iv fun x4 _ => pq_gd fun _ => pq_sv fun S6 E6 => pq_iv fun x7 _ => hk2 (b1, x7) S6 ⟨rfl, by rw [E6]; exact FV.wr rfl⟩
      · exact pq_iv fun x8 _ => pq_iv fun x9 _ => pq_gd fun _ => pq_gd fun _ => pq_gd fun _ => pq_iv fun x13 _ => pq_gd fun _ => pq_sv fun S15 E15 => pq_iv fun x16 _ => hk3 (b1, b2, x16) S15 ⟨rfl, by rw [E15]; exact FV.wr rfl⟩
  refine pq_imp (pq_and (t7_lays p S RS ⟨by omega, by omega⟩).pk main) (fun v T q => ?_)
  obtain ⟨⟨RT, _, la, ot⟩, F, h⟩ := q
  rw [ek] at la ot
  exact ⟨RT, F, la, ot, h⟩
theorem q_laysBack (RS : RI S) (hp : p.toInt = (k0 : Int)) (hk : k0 ≤ 3) : pk (F_X7_laysBack p S) (fun _ T => RI T ∧ FX Wlb S T ∧ BK S T k0 ∧ ge T 40 0 35 = ge S 67 k0 0 ∧ ge T 40 0 36 = ge S 67 k0 1 ∧ ge T 40 0 37 = ge S 67 k0 2 ∧ ge T 40 0 38 = ge S 67 k0 3) := by
  have l0 : (0 : Int32).toInt = 0 := by decide
  have c0 : (0 : Int32).toNatClampNeg = 0 := by decide
  have c1 : (1 : Int32).toNatClampNeg = 1 := by decide
  have c2 : (2 : Int32).toNatClampNeg = 2 := by decide
  have c3 : (3 : Int32).toNatClampNeg = 3 := by decide
  have ek := cnNq hp
  have main : pk (F_X7_laysBack p S) (fun _ T => FX Wlb S T ∧ ge T 40 0 35 = ge S 67 k0 0 ∧ ge T 40 0 36 = ge S 67 k0 1 ∧ ge T 40 0 37 = ge S 67 k0 2 ∧ ge T 40 0 38 = ge S 67 k0 3) := by
    unfold F_X7_laysBack
    refine pq_lp (fun (y : Int32 × Int32) V => y.1 = p ∧ FX Wlb S V) (fun _ _ (_ : Int32) T => FX Wlb S T ∧ ge T 40 0 35 = ge S 67 k0 0 ∧ ge T 40 0 36 = ge S 67 k0 1 ∧ ge T 40 0 37 = ge S 67 k0 2 ∧ ge T 40 0 38 = ge S 67 k0 3) ?_ fuel (p, 0) S ⟨rfl, FX.rf⟩
    intro k hk2 y V hy
    obtain ⟨a1, a2⟩ := y
    obtain ⟨f1, FV⟩ := hy
    dsimp only at f1
    subst f1
    unfold B_X7_laysBack_2
    dsimp only
    refine pq_bb (fun _ => ?_) (fun _ => ?_)
    · refine pq_lp (fun (y : Int32 × Int32) V => y.1 = a1 ∧ FX Wlb S V) (fun _ _ (_ : Int32) T => FX Wlb S T ∧ ge T 40 0 35 = ge S 67 k0 0 ∧ ge T 40 0 36 = ge S 67 k0 1 ∧ ge T 40 0 37 = ge S 67 k0 2 ∧ ge T 40 0 38 = ge S 67 k0 3) ?_ fuel (a1, 0) V ⟨rfl, FV⟩
      intro k3 hk3 y V hy
      obtain ⟨b1, b2⟩ := y
      obtain ⟨f1, FV⟩ := hy
      dsimp only at f1
      subst f1
      unfold B_X7_laysBack_65
      dsimp only
      rw [ek, c0, c1, c2, c3]
      refine pq_bb (fun _ => ?_) (fun _ => ?_)
      · refine pq_gd fun _ => pq_iv fun x19 e19 => pq_sv fun S20 E20 => pq_gd fun _ => pq_iv fun x22 e22 => pq_sv fun S23 E23 => pq_gd fun _ => pq_iv fun x25 e25 => pq_sv fun S26 E26 => pq_gd fun _ => pq_iv fun x28 e28 => pq_sv fun S29 E29 => pq_some ?_
        have F20 : FX Wlb S S20 := by rw [E20]; exact FV.wr rfl
        have F23 : FX Wlb S S23 := by rw [E23]; exact F20.wr rfl
        have F26 : FX Wlb S S26 := by rw [E26]; exact F23.wr rfl
        have F29 : FX Wlb S S29 := by rw [E29]; exact F26.wr rfl
        refine ⟨F29, ?_, ?_, ?_, ?_⟩
        · rw [E29, ge_puj (by decide), E26, ge_puj (by decide), E23, ge_puj (by decide), E20, ge_pus, e19, FV.1 67 k0 0 rfl]
        · rw [E29, ge_puj (by decide), E26, ge_puj (by decide), E23, ge_pus, e22, F20.1 67 k0 1 rfl]
        · rw [E29, ge_puj (by decide), E26, ge_pus, e25, F23.1 67 k0 2 rfl]
        · rw [E29, ge_pus, e28, F26.1 67 k0 3 rfl]
      · refine pq_gd fun _ => pq_gd fun _ => pq_iv fun x32 e32 => pq_gd fun _ => pq_sv fun S34 E34 => pq_iv fun x35 _ => hk3 (b1, x35) S34 ⟨rfl, by rw [E34]; exact FV.wr rfl⟩
    · refine pq_lp (fun (y : Int32 × Int32 × Int32) V => y.1 = a1 ∧ FX Wlb S V) (fun _ _ (_ : Int32) T => FX Wlb S T ∧ ge T 40 0 35 = ge S 67 k0 0 ∧ ge T 40 0 36 = ge S 67 k0 1 ∧ ge T 40 0 37 = ge S 67 k0 2 ∧ ge T 40 0 38 = ge S 67 k0 3) ?_ fuel (a1, a2, 0) V ⟨rfl, FV⟩
      intro k3 hk3 y V hy
      obtain ⟨b1, b2, b3⟩ := y
      obtain ⟨f1, FV⟩ := hy
      dsimp only at f1
      subst f1
      unfold B_X7_laysBack_10
      dsimp only
      refine pq_bb (fun _ => ?_) (fun _ => ?_)
      · exact pq_gd fun _ => pq_gd fun _ => pq_iv fun x4 _ => pq_gd fun _ => pq_sv fun S6 E6 => pq_iv fun x7 _ => hk2 (b1, x7) S6 ⟨rfl, by rw [E6]; exact FV.wr rfl⟩
      · exact pq_gd fun _ => pq_iv fun x9 _ => pq_iv fun x10 _ => pq_gd fun _ => pq_gd fun _ => pq_iv fun x13 _ => pq_gd fun _ => pq_sv fun S15 E15 => pq_iv fun x16 _ => hk3 (b1, b2, x16) S15 ⟨rfl, by rw [E15]; exact FV.wr rfl⟩
  refine pq_imp (pq_and (t7_laysBack p S RS ⟨by omega, by omega⟩).pk main) (fun v T q => ?_)
  obtain ⟨⟨RT, _, bk⟩, F, h⟩ := q
  rw [ek] at bk
  exact ⟨RT, F, bk, h⟩
end LYS
