/-! a draw; the cell that a hand comes to -/
section DRW
variable {S : fS} {r : Nat} {n : Int32}
/-- the unsigned shift, cut to 15 bits, is the signed one -/
theorem ush16 (x : Int32) : (x.toUInt32 >>> ((16 : Int32).toUInt32 &&& Int32.toUInt32 31)).toInt32 &&& (32767 : Int32) = x >>> ((16 : Int32) &&& 31) &&& (32767 : Int32) := by
  have h : (x.toBitVec >>> 16) &&& 32767#32 = (x.toBitVec.sshiftRight 16) &&& 32767#32 := by
    apply BitVec.eq_of_getLsbD_eq
    intro i hi
    rw [BitVec.getLsbD_and, BitVec.getLsbD_and, BitVec.getLsbD_ushiftRight, BitVec.getLsbD_sshiftRight]
    by_cases c : 16 + i < 32
    · rw [if_pos c, decide_eq_false (by omega : ¬ 32 ≤ i)]
      rfl
    · have e : (32767#32).getLsbD i = false := by
        show Nat.testBit 32767 i = false
        exact Nat.testBit_lt_two_pow (Nat.lt_of_lt_of_le (by decide : 32767 < 2 ^ 15) (Nat.pow_le_pow_right (by decide) (by omega)))
      rw [e, Bool.and_false, Bool.and_false]
  have a1 : (x.toUInt32 >>> ((16 : Int32).toUInt32 &&& Int32.toUInt32 31)).toInt32.toBitVec = x.toBitVec >>> 16 := rfl
  have a2 : (x >>> ((16 : Int32) &&& 31)).toBitVec = x.toBitVec.sshiftRight 16 := rfl
  apply Int32.toBitVec.inj
  show (x.toUInt32 >>> ((16 : Int32).toUInt32 &&& Int32.toUInt32 31)).toInt32.toBitVec &&& 32767#32 = (x >>> ((16 : Int32) &&& 31)).toBitVec &&& 32767#32
  rw [a1, a2]
  exact h
/-- the seed that follows -/
def drS (s : Int32) : Int32 := s * (1103515245 : Int32) + (12345 : Int32)
/-- what it gives out of n -/
def drV (s n : Int32) : Int32 := (drS s >>> ((16 : Int32) &&& 31) &&& (32767 : Int32)) - (drS s >>> ((16 : Int32) &&& 31) &&& (32767 : Int32)) / n * n
theorem q_draw : pk (F_X7_draw n S) (fun v T => v = drV (ge S 40 0 34) n ∧ T = pu S 40 0 34 (drS (ge S 40 0 34))) := by
  unfold F_X7_draw
  refine pq_iv fun x1 e1 => pq_iv fun x2 e2 => pq_iv fun x3 e3 => ?_
  have g3 : x3 = drS (ge S 40 0 34) := by rw [e3, e2, e1]; rfl
  refine pq_sv fun S4 E4 => pq_iv fun x5 e5 => ?_
  rw [E4, ge_pus, g3] at e5
  refine pq_iv fun x6 e6 => pq_iv fun x7 e7 => pq_gd fun _ => pq_iv fun x9 e9 => pq_some ⟨?_, by rw [E4, g3]⟩
  rw [e9, e7, e6, e5]
  rfl
theorem y_draw (hn : 1 ≤ n.toInt) : pk (F_X0_draw r n S) (fun v T => v = drV (ge S 1 r 5) n ∧ T = pu S 1 r 5 (drS (ge S 1 r 5))) := by
  have l0 : (0 : Int32).toInt = 0 := by decide
  unfold F_X0_draw
  refine pq_iv fun x1 e1 => pq_iv fun x2 e2 => pq_iv fun x3 e3 => ?_
  have g3 : x3 = drS (ge S 1 r 5) := by rw [e3, e2, e1]; rfl
  refine pq_sv fun S4 E4 => pq_le (fun c => absurd c (by omega)) (fun _ => pq_iv fun x5 e5 => ?_)
  rw [E4, ge_pus, g3] at e5
  refine pq_iv fun x6 e6 => pq_iv fun x7 e7 => pq_gd fun _ => pq_iv fun x9 e9 => pq_some ⟨?_, by rw [E4, g3]⟩
  rw [e9, e7, e6, e5, ush16]
  rfl
/-- the cell of the hand's i-th weight -/
def rcq (a i : Int32) : Int32 := (8 : Int32) * cwq (a / 8 + i / 3 - 1) 0 7 + cwq (a - a / 8 * 8 + (i - i / 3 * 3) - 1) 0 7
theorem y_cellReached {a i : Int32} : pk (F_X6_cellReached a i S) (fun v T => S = T ∧ v = rcq a i) := by
  unfold F_X6_cellReached
  refine pq_iv fun x1 e1 => pq_iv fun x2 e2 => pq_iv fun x3 e3 => pq_iv fun x4 e4 => pq_iv fun x5 e5 => pq_iv fun x6 e6 => pq_iv fun x7 e7 => pq_iv fun x8 e8 => pq_iv fun x9 e9 => pq_iv fun x10 e10 => pq_iv fun x11 e11 => pq_iv fun x12 e12 => pq_iv fun x13 e13 => pq_iv fun x14 e14 => pq_some ⟨rfl, ?_⟩
  have g10 : x10 = cwq x8 0 7 := by rw [e10, e9]; exact cw_mm x8 0 7 (by decide)
  have g13 : x13 = cwq x4 0 7 := by rw [e13, e12]; exact cw_mm x4 0 7 (by decide)
  rw [e14, e11, g10, g13, e8, e7, e6, e5, e4, e3, e2, e1]
  rfl
theorem q_comesTo {a i : Int32} : pk (F_X7_comesTo a i S) (fun v T => S = T ∧ v = rcq a i) := by
  unfold F_X7_comesTo
  refine pq_iv fun x1 e1 => pq_iv fun x2 e2 => pq_iv fun x3 e3 => pq_iv fun x4 e4 => ?_
  refine pq_bd (q_within x4 0 7) (fun v5 S6 q => ?_)
  obtain ⟨rfl, q5⟩ := q
  refine pq_iv fun x8 e8 => pq_iv fun x9 e9 => pq_iv fun x10 e10 => pq_iv fun x11 e11 => pq_iv fun x12 e12 => ?_
  refine pq_bd (q_within x12 0 7) (fun v13 S14 q => ?_)
  obtain ⟨rfl, q13⟩ := q
  refine pq_iv fun x16 e16 => pq_some ⟨rfl, ?_⟩
  rw [e16, e8, q5, q13, e12, e11, e10, e9, e4, e3, e2, e1]
  rfl
end DRW
