theorem dX7_canNow_0 : decode cX7_canNow 0 = .ok (.aload_n 0, 1) := by decide +kernel
theorem dX7_canNow_1 : decode cX7_canNow 1 = .ok (.iconst 1, 1) := by decide +kernel
theorem dX7_canNow_2 : decode cX7_canNow 2 = .ok (.invokevirtual 247, 3) := by decide +kernel
theorem dX7_canNow_5 : decode cX7_canNow 5 = .ok (.aload_n 0, 1) := by decide +kernel
theorem dX7_canNow_6 : decode cX7_canNow 6 = .ok (.aload_n 0, 1) := by decide +kernel
theorem dX7_canNow_7 : decode cX7_canNow 7 = .ok (.getfield 27, 3) := by decide +kernel
theorem dX7_canNow_10 : decode cX7_canNow 10 = .ok (.invokevirtual 250, 3) := by decide +kernel
theorem dX7_canNow_13 : decode cX7_canNow 13 = .ok (.istore_n 2, 1) := by decide +kernel
theorem dX7_canNow_14 : decode cX7_canNow 14 = .ok (.bipush 36, 2) := by decide +kernel
theorem dX7_canNow_16 : decode cX7_canNow 16 = .ok (.newarray .int, 2) := by decide +kernel
theorem dX7_canNow_18 : decode cX7_canNow 18 = .ok (.astore_n 3, 1) := by decide +kernel
theorem dX7_canNow_19 : decode cX7_canNow 19 = .ok (.bipush 36, 2) := by decide +kernel
theorem dX7_canNow_21 : decode cX7_canNow 21 = .ok (.newarray .int, 2) := by decide +kernel
theorem dX7_canNow_23 : decode cX7_canNow 23 = .ok (.astore 4, 2) := by decide +kernel
theorem dX7_canNow_25 : decode cX7_canNow 25 = .ok (.iconst 0, 1) := by decide +kernel
theorem dX7_canNow_26 : decode cX7_canNow 26 = .ok (.istore 5, 2) := by decide +kernel
theorem dX7_canNow_28 : decode cX7_canNow 28 = .ok (.iload 5, 2) := by decide +kernel
theorem dX7_canNow_30 : decode cX7_canNow 30 = .ok (.iload_n 2, 1) := by decide +kernel
theorem dX7_canNow_31 : decode cX7_canNow 31 = .ok (.if_icmp .ge 36, 3) := by decide +kernel
theorem dX7_canNow_34 : decode cX7_canNow 34 = .ok (.aload_n 0, 1) := by decide +kernel
theorem dX7_canNow_35 : decode cX7_canNow 35 = .ok (.aload_n 0, 1) := by decide +kernel
theorem dX7_canNow_36 : decode cX7_canNow 36 = .ok (.getfield 27, 3) := by decide +kernel
theorem dX7_canNow_39 : decode cX7_canNow 39 = .ok (.iload 5, 2) := by decide +kernel
theorem dX7_canNow_41 : decode cX7_canNow 41 = .ok (.invokevirtual 244, 3) := by decide +kernel
theorem dX7_canNow_44 : decode cX7_canNow 44 = .ok (.aload_n 3, 1) := by decide +kernel
theorem dX7_canNow_45 : decode cX7_canNow 45 = .ok (.iload 5, 2) := by decide +kernel
theorem dX7_canNow_47 : decode cX7_canNow 47 = .ok (.aload_n 0, 1) := by decide +kernel
theorem dX7_canNow_48 : decode cX7_canNow 48 = .ok (.getfield 194, 3) := by decide +kernel
theorem dX7_canNow_51 : decode cX7_canNow 51 = .ok (.iastore, 1) := by decide +kernel
theorem dX7_canNow_52 : decode cX7_canNow 52 = .ok (.aload 4, 2) := by decide +kernel
theorem dX7_canNow_54 : decode cX7_canNow 54 = .ok (.iload 5, 2) := by decide +kernel
theorem dX7_canNow_56 : decode cX7_canNow 56 = .ok (.aload_n 0, 1) := by decide +kernel
theorem dX7_canNow_57 : decode cX7_canNow 57 = .ok (.getfield 197, 3) := by decide +kernel
theorem dX7_canNow_60 : decode cX7_canNow 60 = .ok (.iastore, 1) := by decide +kernel
theorem dX7_canNow_61 : decode cX7_canNow 61 = .ok (.iinc 5 1, 3) := by decide +kernel
theorem dX7_canNow_64 : decode cX7_canNow 64 = .ok (.goto (-36), 3) := by decide +kernel
theorem dX7_canNow_67 : decode cX7_canNow 67 = .ok (.iconst 0, 1) := by decide +kernel
theorem dX7_canNow_68 : decode cX7_canNow 68 = .ok (.istore 5, 2) := by decide +kernel
theorem dX7_canNow_70 : decode cX7_canNow 70 = .ok (.iload 5, 2) := by decide +kernel
theorem dX7_canNow_72 : decode cX7_canNow 72 = .ok (.bipush 64, 2) := by decide +kernel
theorem dX7_canNow_74 : decode cX7_canNow 74 = .ok (.if_icmp .ge 77, 3) := by decide +kernel
theorem dX7_canNow_77 : decode cX7_canNow 77 = .ok (.iconst 0, 1) := by decide +kernel
theorem dX7_canNow_78 : decode cX7_canNow 78 = .ok (.istore 6, 2) := by decide +kernel
theorem dX7_canNow_80 : decode cX7_canNow 80 = .ok (.iconst 0, 1) := by decide +kernel
theorem dX7_canNow_81 : decode cX7_canNow 81 = .ok (.istore 7, 2) := by decide +kernel
theorem dX7_canNow_83 : decode cX7_canNow 83 = .ok (.iload 7, 2) := by decide +kernel
theorem dX7_canNow_85 : decode cX7_canNow 85 = .ok (.iload_n 2, 1) := by decide +kernel
theorem dX7_canNow_86 : decode cX7_canNow 86 = .ok (.if_icmp .ge 38, 3) := by decide +kernel
theorem dX7_canNow_89 : decode cX7_canNow 89 = .ok (.iload 6, 2) := by decide +kernel
theorem dX7_canNow_91 : decode cX7_canNow 91 = .ok (.aload_n 0, 1) := by decide +kernel
theorem dX7_canNow_92 : decode cX7_canNow 92 = .ok (.iload 5, 2) := by decide +kernel
theorem dX7_canNow_94 : decode cX7_canNow 94 = .ok (.aload_n 3, 1) := by decide +kernel
theorem dX7_canNow_95 : decode cX7_canNow 95 = .ok (.iload 7, 2) := by decide +kernel
theorem dX7_canNow_97 : decode cX7_canNow 97 = .ok (.iaload, 1) := by decide +kernel
theorem dX7_canNow_98 : decode cX7_canNow 98 = .ok (.aload 4, 2) := by decide +kernel
theorem dX7_canNow_100 : decode cX7_canNow 100 = .ok (.iload 7, 2) := by decide +kernel
theorem dX7_canNow_102 : decode cX7_canNow 102 = .ok (.iaload, 1) := by decide +kernel
theorem dX7_canNow_103 : decode cX7_canNow 103 = .ok (.invokevirtual 307, 3) := by decide +kernel
theorem dX7_canNow_106 : decode cX7_canNow 106 = .ok (.iconst 5, 1) := by decide +kernel
theorem dX7_canNow_107 : decode cX7_canNow 107 = .ok (.if_icmp .ne 7, 3) := by decide +kernel
theorem dX7_canNow_110 : decode cX7_canNow 110 = .ok (.iconst 1, 1) := by decide +kernel
theorem dX7_canNow_111 : decode cX7_canNow 111 = .ok (.goto 4, 3) := by decide +kernel
theorem dX7_canNow_114 : decode cX7_canNow 114 = .ok (.iconst 0, 1) := by decide +kernel
theorem dX7_canNow_115 : decode cX7_canNow 115 = .ok (.iadd, 1) := by decide +kernel
theorem dX7_canNow_116 : decode cX7_canNow 116 = .ok (.istore 6, 2) := by decide +kernel
theorem dX7_canNow_118 : decode cX7_canNow 118 = .ok (.iinc 7 1, 3) := by decide +kernel
theorem dX7_canNow_121 : decode cX7_canNow 121 = .ok (.goto (-38), 3) := by decide +kernel
theorem dX7_canNow_124 : decode cX7_canNow 124 = .ok (.iload_n 1, 1) := by decide +kernel
theorem dX7_canNow_125 : decode cX7_canNow 125 = .ok (.ifCond .eq 12, 3) := by decide +kernel
theorem dX7_canNow_128 : decode cX7_canNow 128 = .ok (.iload 6, 2) := by decide +kernel
theorem dX7_canNow_130 : decode cX7_canNow 130 = .ok (.iload_n 2, 1) := by decide +kernel
theorem dX7_canNow_131 : decode cX7_canNow 131 = .ok (.if_icmp .ne 14, 3) := by decide +kernel
theorem dX7_canNow_134 : decode cX7_canNow 134 = .ok (.goto 8, 3) := by decide +kernel
theorem dX7_canNow_137 : decode cX7_canNow 137 = .ok (.iload 6, 2) := by decide +kernel
theorem dX7_canNow_139 : decode cX7_canNow 139 = .ok (.ifCond .le 6, 3) := by decide +kernel
theorem dX7_canNow_142 : decode cX7_canNow 142 = .ok (.iload 5, 2) := by decide +kernel
theorem dX7_canNow_144 : decode cX7_canNow 144 = .ok (.ireturn, 1) := by decide +kernel
theorem dX7_canNow_145 : decode cX7_canNow 145 = .ok (.iinc 5 1, 3) := by decide +kernel
theorem dX7_canNow_148 : decode cX7_canNow 148 = .ok (.goto (-78), 3) := by decide +kernel
theorem dX7_canNow_151 : decode cX7_canNow 151 = .ok (.iconst (-1), 1) := by decide +kernel
theorem dX7_canNow_152 : decode cX7_canNow 152 = .ok (.ireturn, 1) := by decide +kernel
noncomputable def B_X7_canNow_115 (k70 : (Int32 × Int32 × Int32) → fS → Option (Int32 × fS)) (k83 : (Int32 × Int32 × Int32 × Int32 × Int32) → fS → Option (Int32 × fS)) (a1 : Int32) (a2 : Int32) (a5 : Int32) (a7 : Int32) (t0 : Int32) (t1 : Int32) (S : fS) : Option (Int32 × fS) := iv (t1 + t0) (fun x1 => iv (a7 + Int32.ofInt 1) (fun x2 => k83 (a1, a2, a5, x1, x2) S))
noncomputable def B_X7_canNow_145 (k70 : (Int32 × Int32 × Int32) → fS → Option (Int32 × fS)) (a1 : Int32) (a2 : Int32) (a5 : Int32) (S : fS) : Option (Int32 × fS) := iv (a5 + Int32.ofInt 1) (fun x3 => k70 (a1, a2, x3) S)
noncomputable def B_X7_canNow_83 (k70 : (Int32 × Int32 × Int32) → fS → Option (Int32 × fS)) (k83 : (Int32 × Int32 × Int32 × Int32 × Int32) → fS → Option (Int32 × fS)) : (Int32 × Int32 × Int32 × Int32 × Int32) → fS → Option (Int32 × fS) := fun ⟨a1, a2, a5, a6, a7⟩ S => bb (a2 ≤ a7) (bb (a1 = (0 : Int32)) (bb (a6 ≤ (0 : Int32)) (B_X7_canNow_145 k70 a1 a2 a5 S) (some (a5, S))) (bb (a6 = a2) (some (a5, S)) (B_X7_canNow_145 k70 a1 a2 a5 S))) (gd (ib a7 36) (iv (ge S 90 0 (a7 : Int32).toNatClampNeg) (fun x9 => gd (ib a7 36) (iv (ge S 91 0 (a7 : Int32).toNatClampNeg) (fun x11 => bd (F_X7_wouldBe a5 x9 x11 S) (fun v12 S13 => bb (v12 = (5 : Int32)) (B_X7_canNow_115 k70 k83 a1 a2 a5 a7 1 a6 S13) (B_X7_canNow_115 k70 k83 a1 a2 a5 a7 0 a6 S13)))))))
noncomputable def B_X7_canNow_70 (k70 : (Int32 × Int32 × Int32) → fS → Option (Int32 × fS)) : (Int32 × Int32 × Int32) → fS → Option (Int32 × fS) := fun ⟨a1, a2, a5⟩ S => bb ((64 : Int32) ≤ a5) (some ((-1), S)) (lp (B_X7_canNow_83 k70) fuel (a1, a2, a5, 0, 0) S)
noncomputable def B_X7_canNow_28 (k28 : (Int32 × Int32 × Int32) → fS → Option (Int32 × fS)) : (Int32 × Int32 × Int32) → fS → Option (Int32 × fS) := fun ⟨a1, a2, a5⟩ S => bb (a2 ≤ a5) (lp (B_X7_canNow_70 ) fuel (a1, a2, 0) S) (iv (ge S 40 0 15) (fun x18 => bd (F_X7_tellsBy x18 a5 S) (fun v19 S20 => iv (ge S20 40 0 18) (fun x22 => gd (ib a5 36) (sv (pu S20 90 0 (a5 : Int32).toNatClampNeg x22) (fun S24 => iv (ge S24 40 0 19) (fun x25 => gd (ib a5 36) (sv (pu S24 91 0 (a5 : Int32).toNatClampNeg x25) (fun S27 => iv (a5 + Int32.ofInt 1) (fun x28 => k28 (a1, a2, x28) S27))))))))))
noncomputable def F_X7_canNow (p1 : Int32) (S0 : fS) : Option (Int32 × fS) := bd (F_X7_namesOf 1 S0) (fun v29 S30 => iv (ge S30 40 0 15) (fun x32 => bd (F_X7_lotsBy x32 S30) (fun v33 S34 => sv (pb S34 90 0 (fun _ => 0)) (fun S36 => sv (pb S36 91 0 (fun _ => 0)) (fun S37 => lp (B_X7_canNow_28 ) fuel (p1, v33, 0) S37)))))
set_option maxHeartbeats 4000000 in
set_option maxRecDepth 100000 in
theorem c_X7_canNow (l : Launch) (D : va_G) (K : Nat → ClassId) (b0 : Nat) (sa : sT) (sz : Nat) (LO : List Nat) (fO : Nat → va_E) (adO : Nat → Nat → Nat) (nO : Nat × Nat) (S0 : fS) (hw : PW K adO (isn nO) S0 LO fO) (hn : S0.2.2.1 = nO) (hprobe : 0 < nO.1) (p1 : Int32) (v : Int32) (S1 : fS) (h : F_X7_canNow p1 S0 = some (v, S1)) : Met l yX7_canNow (.code yX7_canNow cX7_canNow 8 (some .int) :: gt) { frames := 75, cells := 2, slots := 72, locals := 2779 } (va_Pc [.ref (adO 40 0), .int p1] (hPre D K b0 sa sz LO fO)) (hQ D K b0 (fun v9 u9 => ∃ (ad2 : Nat → Nat → Nat) (L2 : List Nat) (f2 : Nat → va_E), v9 = some (.int v) ∧ u9 = lU L2 f2 ∧ PW K ad2 (isn S1.2.2.1) S1 L2 f2 ∧ Gr (fun _ => False) (isn nO) adO LO fO (isn S1.2.2.1) ad2 L2 f2)) 2 72 (fun q => b0 ≤ q) := by
  refine t_of (own := RX7) (by decide) rfl ?_ (Nat.le_of_ble_eq_true rfl)
  intro p e s m below meth c ls C w hsz hr hlk hnm hl
  have hx := C.1
  have hb := C.2.1
  have J115 : ∀ (k70 : (Int32 × Int32 × Int32) → fS → Option (Int32 × fS)) (hk70 : ∀ (a1 : Int32) (a2 : Int32) (a5 : Int32) (S : fS), k70 (a1, a2, a5) S = some (v, S1) → GwG D K b0 sa nO adO LO fO (fun P => P 90 0 ∧ P 91 0) p l e { frames := 75, cells := 2, slots := 72, locals := 2779 } s m [.ref (adO 40 0), .int p1].toArray below meth c 8 (MQ below (hQ D K b0 (fun v9 u9 => ∃ (ad2 : Nat → Nat → Nat) (L2 : List Nat) (f2 : Nat → va_E), v9 = some (.int v) ∧ u9 = lU L2 f2 ∧ PW K ad2 (isn S1.2.2.1) S1 L2 f2 ∧ Gr (fun _ => False) (isn nO) adO LO fO (isn S1.2.2.1) ad2 L2 f2)) [.ref (adO 40 0), .int p1].toArray s 2 72 (fun q => b0 ≤ q)) 2 72 70 (fun ad => [(0, .ref (ad 40 0)), (1, .int a1), (2, .int a2), (3, .ref (ad 90 0)), (4, .ref (ad 91 0)), (5, .int a5)]) (fun ad => []) S) (k83 : (Int32 × Int32 × Int32 × Int32 × Int32) → fS → Option (Int32 × fS)) (hk83 : ∀ (a1 : Int32) (a2 : Int32) (a5 : Int32) (a6 : Int32) (a7 : Int32) (S : fS), k83 (a1, a2, a5, a6, a7) S = some (v, S1) → GwG D K b0 sa nO adO LO fO (fun P => P 90 0 ∧ P 91 0) p l e { frames := 75, cells := 2, slots := 72, locals := 2779 } s m [.ref (adO 40 0), .int p1].toArray below meth c 8 (MQ below (hQ D K b0 (fun v9 u9 => ∃ (ad2 : Nat → Nat → Nat) (L2 : List Nat) (f2 : Nat → va_E), v9 = some (.int v) ∧ u9 = lU L2 f2 ∧ PW K ad2 (isn S1.2.2.1) S1 L2 f2 ∧ Gr (fun _ => False) (isn nO) adO LO fO (isn S1.2.2.1) ad2 L2 f2)) [.ref (adO 40 0), .int p1].toArray s 2 72 (fun q => b0 ≤ q)) 2 72 83 (fun ad => [(0, .ref (ad 40 0)), (1, .int a1), (2, .int a2), (3, .ref (ad 90 0)), (4, .ref (ad 91 0)), (5, .int a5), (6, .int a6), (7, .int a7)]) (fun ad => []) S) (a1 : Int32) (a2 : Int32) (a5 : Int32) (a7 : Int32) (t0 : Int32) (t1 : Int32) (S : fS), B_X7_canNow_115 k70 k83 a1 a2 a5 a7 t0 t1 S = some (v, S1) → GwG D K b0 sa nO adO LO fO (fun P => P 90 0 ∧ P 91 0) p l e { frames := 75, cells := 2, slots := 72, locals := 2779 } s m [.ref (adO 40 0), .int p1].toArray below meth c 8 (MQ below (hQ D K b0 (fun v9 u9 => ∃ (ad2 : Nat → Nat → Nat) (L2 : List Nat) (f2 : Nat → va_E), v9 = some (.int v) ∧ u9 = lU L2 f2 ∧ PW K ad2 (isn S1.2.2.1) S1 L2 f2 ∧ Gr (fun _ => False) (isn nO) adO LO fO (isn S1.2.2.1) ad2 L2 f2)) [.ref (adO 40 0), .int p1].toArray s 2 72 (fun q => b0 ≤ q)) 2 72 115 (fun ad => [(0, .ref (ad 40 0)), (1, .int a1), (2, .int a2), (3, .ref (ad 90 0)), (4, .ref (ad 91 0)), (5, .int a5), (7, .int a7)]) (fun ad => [.int t0, .int t1]) S := by
    intro k70 hk70 k83 hk83 a1 a2 a5 a7 t0 t1 S h
    dsimp only [B_X7_canNow_115] at h
    intro ad P n L f H locs w G ls hl
    obtain ⟨hw, hn, hprobe, hP, hle, hG, ⟨hp90, hp91⟩⟩ := G
    have hl : lv_has ls 8 [(0, .ref (ad 40 0)), (1, .int a1), (2, .int a2), (3, .ref (ad 90 0)), (4, .ref (ad 91 0)), (5, .int a5), (7, .int a7)] := hl
    refine lv_iadd hx hb dX7_canNow_115 ?_
    refine u_iv h (fun x1 h => ?_)
    refine lv_istore (lv' := [(6, .int x1), (0, .ref (ad 40 0)), (1, .int a1), (2, .int a2), (3, .ref (ad 90 0)), (4, .ref (ad 91 0)), (5, .int a5), (7, .int a7)]) hx hb dX7_canNow_116 hl (by decide) rfl (fun ls hl => ?_)
    obtain ⟨x2, ex2, h⟩ := iv_some h
    refine lv_iinc (v := x2) (lv' := [(7, .int x2), (6, .int x1), (0, .ref (ad 40 0)), (1, .int a1), (2, .int a2), (3, .ref (ad 90 0)), (4, .ref (ad 91 0)), (5, .int a5)]) hx hb dX7_canNow_118 hl (k := 7) rfl ex2.symm (by decide) rfl (fun ls hl => ?_)
    refine lv_goto (tgt := 83) hx hb dX7_canNow_121 (by decide) ?_
    exact hk83 a1 a2 a5 x1 x2 S h ad P n L f H locs w ⟨hw, hn, hprobe, hP, hle, hG, ⟨hp90, hp91⟩⟩ ls (lv_sub hl [2, 3, 4, 5, 6, 7, 1, 0] rfl)
  have J145 : ∀ (k70 : (Int32 × Int32 × Int32) → fS → Option (Int32 × fS)) (hk70 : ∀ (a1 : Int32) (a2 : Int32) (a5 : Int32) (S : fS), k70 (a1, a2, a5) S = some (v, S1) → GwG D K b0 sa nO adO LO fO (fun P => P 90 0 ∧ P 91 0) p l e { frames := 75, cells := 2, slots := 72, locals := 2779 } s m [.ref (adO 40 0), .int p1].toArray below meth c 8 (MQ below (hQ D K b0 (fun v9 u9 => ∃ (ad2 : Nat → Nat → Nat) (L2 : List Nat) (f2 : Nat → va_E), v9 = some (.int v) ∧ u9 = lU L2 f2 ∧ PW K ad2 (isn S1.2.2.1) S1 L2 f2 ∧ Gr (fun _ => False) (isn nO) adO LO fO (isn S1.2.2.1) ad2 L2 f2)) [.ref (adO 40 0), .int p1].toArray s 2 72 (fun q => b0 ≤ q)) 2 72 70 (fun ad => [(0, .ref (ad 40 0)), (1, .int a1), (2, .int a2), (3, .ref (ad 90 0)), (4, .ref (ad 91 0)), (5, .int a5)]) (fun ad => []) S) (a1 : Int32) (a2 : Int32) (a5 : Int32) (S : fS), B_X7_canNow_145 k70 a1 a2 a5 S = some (v, S1) → GwG D K b0 sa nO adO LO fO (fun P => P 90 0 ∧ P 91 0) p l e { frames := 75, cells := 2, slots := 72, locals := 2779 } s m [.ref (adO 40 0), .int p1].toArray below meth c 8 (MQ below (hQ D K b0 (fun v9 u9 => ∃ (ad2 : Nat → Nat → Nat) (L2 : List Nat) (f2 : Nat → va_E), v9 = some (.int v) ∧ u9 = lU L2 f2 ∧ PW K ad2 (isn S1.2.2.1) S1 L2 f2 ∧ Gr (fun _ => False) (isn nO) adO LO fO (isn S1.2.2.1) ad2 L2 f2)) [.ref (adO 40 0), .int p1].toArray s 2 72 (fun q => b0 ≤ q)) 2 72 145 (fun ad => [(0, .ref (ad 40 0)), (1, .int a1), (2, .int a2), (3, .ref (ad 90 0)), (4, .ref (ad 91 0)), (5, .int a5)]) (fun ad => []) S := by
    intro k70 hk70 a1 a2 a5 S h
    dsimp only [B_X7_canNow_145] at h
    intro ad P n L f H locs w G ls hl
    obtain ⟨hw, hn, hprobe, hP, hle, hG, ⟨hp90, hp91⟩⟩ := G
    have hl : lv_has ls 8 [(0, .ref (ad 40 0)), (1, .int a1), (2, .int a2), (3, .ref (ad 90 0)), (4, .ref (ad 91 0)), (5, .int a5)] := hl
    obtain ⟨x3, ex3, h⟩ := iv_some h
    refine lv_iinc (v := x3) (lv' := [(5, .int x3), (0, .ref (ad 40 0)), (1, .int a1), (2, .int a2), (3, .ref (ad 90 0)), (4, .ref (ad 91 0))]) hx hb dX7_canNow_145 hl (k := 5) rfl ex3.symm (by decide) rfl (fun ls hl => ?_)
    refine lv_goto (tgt := 70) hx hb dX7_canNow_148 (by decide) ?_
    exact hk70 a1 a2 x3 S h ad P n L f H locs w ⟨hw, hn, hprobe, hP, hle, hG, ⟨hp90, hp91⟩⟩ ls (lv_sub hl [1, 2, 3, 4, 5, 0] rfl)
  have J83 : ∀ (k70 : (Int32 × Int32 × Int32) → fS → Option (Int32 × fS)) (hk70 : ∀ (a1 : Int32) (a2 : Int32) (a5 : Int32) (S : fS), k70 (a1, a2, a5) S = some (v, S1) → GwG D K b0 sa nO adO LO fO (fun P => P 90 0 ∧ P 91 0) p l e { frames := 75, cells := 2, slots := 72, locals := 2779 } s m [.ref (adO 40 0), .int p1].toArray below meth c 8 (MQ below (hQ D K b0 (fun v9 u9 => ∃ (ad2 : Nat → Nat → Nat) (L2 : List Nat) (f2 : Nat → va_E), v9 = some (.int v) ∧ u9 = lU L2 f2 ∧ PW K ad2 (isn S1.2.2.1) S1 L2 f2 ∧ Gr (fun _ => False) (isn nO) adO LO fO (isn S1.2.2.1) ad2 L2 f2)) [.ref (adO 40 0), .int p1].toArray s 2 72 (fun q => b0 ≤ q)) 2 72 70 (fun ad => [(0, .ref (ad 40 0)), (1, .int a1), (2, .int a2), (3, .ref (ad 90 0)), (4, .ref (ad 91 0)), (5, .int a5)]) (fun ad => []) S) (fu : Nat) (a1 : Int32) (a2 : Int32) (a5 : Int32) (a6 : Int32) (a7 : Int32) (S : fS), lp (B_X7_canNow_83 k70) fu (a1, a2, a5, a6, a7) S = some (v, S1) → GwG D K b0 sa nO adO LO fO (fun P => P 90 0 ∧ P 91 0) p l e { frames := 75, cells := 2, slots := 72, locals := 2779 } s m [.ref (adO 40 0), .int p1].toArray below meth c 8 (MQ below (hQ D K b0 (fun v9 u9 => ∃ (ad2 : Nat → Nat → Nat) (L2 : List Nat) (f2 : Nat → va_E), v9 = some (.int v) ∧ u9 = lU L2 f2 ∧ PW K ad2 (isn S1.2.2.1) S1 L2 f2 ∧ Gr (fun _ => False) (isn nO) adO LO fO (isn S1.2.2.1) ad2 L2 f2)) [.ref (adO 40 0), .int p1].toArray s 2 72 (fun q => b0 ≤ q)) 2 72 83 (fun ad => [(0, .ref (ad 40 0)), (1, .int a1), (2, .int a2), (3, .ref (ad 90 0)), (4, .ref (ad 91 0)), (5, .int a5), (6, .int a6), (7, .int a7)]) (fun ad => []) S := by
    intro k70 hk70 fu a1 a2 a5 a6 a7 S h
    refine lp_some (G := (fun q S => GwG D K b0 sa nO adO LO fO (fun P => P 90 0 ∧ P 91 0) p l e { frames := 75, cells := 2, slots := 72, locals := 2779 } s m [.ref (adO 40 0), .int p1].toArray below meth c 8 (MQ below (hQ D K b0 (fun v9 u9 => ∃ (ad2 : Nat → Nat → Nat) (L2 : List Nat) (f2 : Nat → va_E), v9 = some (.int v) ∧ u9 = lU L2 f2 ∧ PW K ad2 (isn S1.2.2.1) S1 L2 f2 ∧ Gr (fun _ => False) (isn nO) adO LO fO (isn S1.2.2.1) ad2 L2 f2)) [.ref (adO 40 0), .int p1].toArray s 2 72 (fun q => b0 ≤ q)) 2 72 83 (fun ad => [(0, .ref (ad 40 0)), (1, .int q.1), (2, .int q.2.1), (3, .ref (ad 90 0)), (4, .ref (ad 91 0)), (5, .int q.2.2.1), (6, .int q.2.2.2.1), (7, .int q.2.2.2.2)]) (fun ad => []) S)) (fun k83 hk83 q S h => ?_) fu (a1, a2, a5, a6, a7) S h
    obtain ⟨a1, a2, a5, a6, a7⟩ := q
    have hk83 : ∀ (a1 : Int32) (a2 : Int32) (a5 : Int32) (a6 : Int32) (a7 : Int32) (S : fS), k83 (a1, a2, a5, a6, a7) S = some (v, S1) → GwG D K b0 sa nO adO LO fO (fun P => P 90 0 ∧ P 91 0) p l e { frames := 75, cells := 2, slots := 72, locals := 2779 } s m [.ref (adO 40 0), .int p1].toArray below meth c 8 (MQ below (hQ D K b0 (fun v9 u9 => ∃ (ad2 : Nat → Nat → Nat) (L2 : List Nat) (f2 : Nat → va_E), v9 = some (.int v) ∧ u9 = lU L2 f2 ∧ PW K ad2 (isn S1.2.2.1) S1 L2 f2 ∧ Gr (fun _ => False) (isn nO) adO LO fO (isn S1.2.2.1) ad2 L2 f2)) [.ref (adO 40 0), .int p1].toArray s 2 72 (fun q => b0 ≤ q)) 2 72 83 (fun ad => [(0, .ref (ad 40 0)), (1, .int a1), (2, .int a2), (3, .ref (ad 90 0)), (4, .ref (ad 91 0)), (5, .int a5), (6, .int a6), (7, .int a7)]) (fun ad => []) S := fun a1 a2 a5 a6 a7 S h => hk83 (a1, a2, a5, a6, a7) S h
    dsimp only [B_X7_canNow_83] at h
    intro ad P n L f H locs w G ls hl
    obtain ⟨hw, hn, hprobe, hP, hle, hG, ⟨hp90, hp91⟩⟩ := G
    have hl : lv_has ls 8 [(0, .ref (ad 40 0)), (1, .int a1), (2, .int a2), (3, .ref (ad 90 0)), (4, .ref (ad 91 0)), (5, .int a5), (6, .int a6), (7, .int a7)] := hl
    refine lv_iload hx hb dX7_canNow_83 (lv_at hl 7 rfl) ?_
    refine lv_iload_n hx hb dX7_canNow_85 rfl (lv_at hl 2 rfl) ?_
    refine lv_icmp_ge (tgt := 124) hx hb dX7_canNow_86 (by decide) (fun c4 => ?_) (fun c4 => ?_)
    · have h := bb_t h c4
      refine lv_iload_n hx hb dX7_canNow_124 rfl (lv_at hl 1 rfl) ?_
      refine lv_if_eq (tgt := 137) hx hb dX7_canNow_125 (by decide) (fun c5 => ?_) (fun c5 => ?_)
      · have h := bb_t h c5
        refine lv_iload hx hb dX7_canNow_137 (lv_at hl 6 rfl) ?_
        refine lv_if_le (tgt := 145) hx hb dX7_canNow_139 (by decide) (fun c6 => ?_) (fun c6 => ?_)
        · have h := bb_t h c6
          exact J145 k70 hk70 a1 a2 a5 S h ad P n L f H locs w ⟨hw, hn, hprobe, hP, hle, hG, ⟨hp90, hp91⟩⟩ ls (lv_sub hl [0, 1, 2, 3, 4, 5] rfl)
        · have h := bb_f h c6
          refine lv_iload hx hb dX7_canNow_142 (lv_at hl 5 rfl) ?_
          exact t_iret C hr hlk w ⟨ad, L, _, so_v h, rfl, gq_w h hw hn hP, gq_g h hn hP hle hG⟩ (by decide) (by decide) dX7_canNow_144
      · have h := bb_f h c5
        refine lv_iload hx hb dX7_canNow_128 (lv_at hl 6 rfl) ?_
        refine lv_iload_n hx hb dX7_canNow_130 rfl (lv_at hl 2 rfl) ?_
        refine lv_icmp_ne (tgt := 145) hx hb dX7_canNow_131 (by decide) (fun c7 => ?_) (fun c7 => ?_)
        · have h := bb_f h c7
          exact J145 k70 hk70 a1 a2 a5 S h ad P n L f H locs w ⟨hw, hn, hprobe, hP, hle, hG, ⟨hp90, hp91⟩⟩ ls (lv_sub hl [0, 1, 2, 3, 4, 5] rfl)
        · have h := bb_t h c7
          refine lv_goto (tgt := 142) hx hb dX7_canNow_134 (by decide) ?_
          refine lv_iload hx hb dX7_canNow_142 (lv_at hl 5 rfl) ?_
          exact t_iret C hr hlk w ⟨ad, L, _, so_v h, rfl, gq_w h hw hn hP, gq_g h hn hP hle hG⟩ (by decide) (by decide) dX7_canNow_144
    · have h := bb_f h c4
      refine lv_iload hx hb dX7_canNow_89 (lv_at hl 6 rfl) ?_
      refine lv_aload_n hx hb dX7_canNow_91 rfl (lv_at hl 0 rfl) ?_
      refine lv_iload hx hb dX7_canNow_92 (lv_at hl 5 rfl) ?_
      refine lv_aload_n hx hb dX7_canNow_94 rfl (lv_at hl 3 rfl) ?_
      refine lv_iload hx hb dX7_canNow_95 (lv_at hl 7 rfl) ?_
      obtain ⟨g8, h⟩ := gd_some h
      refine u_iald C w hw hp90 rfl rfl (n := 36) rfl (vp_in_iff.mpr g8) dX7_canNow_97 ?_
      refine u_iv h (fun x9 h => ?_)
      refine lv_aload hx hb dX7_canNow_98 (lv_at hl 4 rfl) ?_
      refine lv_iload hx hb dX7_canNow_100 (lv_at hl 7 rfl) ?_
      obtain ⟨g10, h⟩ := gd_some h
      refine u_iald C w hw hp91 rfl rfl (n := 36) rfl (vp_in_iff.mpr g10) dX7_canNow_102 ?_
      refine u_iv h (fun x11 h => ?_)
      obtain ⟨v12, S13, h14, h⟩ := bd_some h
      refine u_callV (n := 3) C w hw (hP _ _ (isn_f rfl rfl (by decide))) rfl rfl rfl (c_X7_wouldBe l D K b0 sa _ L _ ad P hP S hw hn a5 x9 x11 v12 S13 h14) gw_1527 gw_1524 gw_1526 gs_52 gw_8 ⟨by decide, by decide, by decide +kernel⟩ rfl rfl ⟨by decide, by decide⟩ rfl hl.1 rfl (Nat.le_of_ble_eq_true rfl) dX7_canNow_103 ⟨Nat.le_of_ble_eq_true rfl, Nat.le_of_ble_eq_true rfl⟩ (fun v9 u H locs hp w => ?_)
      obtain ⟨f2, rfl, rfl, hw, hn, hk1⟩ := hp
      have hG := hG.kp hk1
      generalize f2 = f at w hw hG
      refine lv_iconst (v := 5) hx hb dX7_canNow_106 (by decide) ?_
      refine lv_icmp_ne (tgt := 114) hx hb dX7_canNow_107 (by decide) (fun c15 => ?_) (fun c15 => ?_)
      · have h := bb_f h c15
        refine lv_iconst (v := 0) hx hb dX7_canNow_114 (by decide) ?_
        exact J115 k70 hk70 k83 hk83 a1 a2 a5 a7 0 a6 S13 h ad P n L f H locs w ⟨hw, hn, hprobe, hP, hle, hG, ⟨hp90, hp91⟩⟩ ls (lv_sub hl [0, 1, 2, 3, 4, 5, 7] rfl)
      · have h := bb_t h c15
        refine lv_iconst (v := 1) hx hb dX7_canNow_110 (by decide) ?_
        refine lv_goto (tgt := 115) hx hb dX7_canNow_111 (by decide) ?_
        exact J115 k70 hk70 k83 hk83 a1 a2 a5 a7 1 a6 S13 h ad P n L f H locs w ⟨hw, hn, hprobe, hP, hle, hG, ⟨hp90, hp91⟩⟩ ls (lv_sub hl [0, 1, 2, 3, 4, 5, 7] rfl)
  have J70 : ∀ (fu : Nat) (a1 : Int32) (a2 : Int32) (a5 : Int32) (S : fS), lp (B_X7_canNow_70 ) fu (a1, a2, a5) S = some (v, S1) → GwG D K b0 sa nO adO LO fO (fun P => P 90 0 ∧ P 91 0) p l e { frames := 75, cells := 2, slots := 72, locals := 2779 } s m [.ref (adO 40 0), .int p1].toArray below meth c 8 (MQ below (hQ D K b0 (fun v9 u9 => ∃ (ad2 : Nat → Nat → Nat) (L2 : List Nat) (f2 : Nat → va_E), v9 = some (.int v) ∧ u9 = lU L2 f2 ∧ PW K ad2 (isn S1.2.2.1) S1 L2 f2 ∧ Gr (fun _ => False) (isn nO) adO LO fO (isn S1.2.2.1) ad2 L2 f2)) [.ref (adO 40 0), .int p1].toArray s 2 72 (fun q => b0 ≤ q)) 2 72 70 (fun ad => [(0, .ref (ad 40 0)), (1, .int a1), (2, .int a2), (3, .ref (ad 90 0)), (4, .ref (ad 91 0)), (5, .int a5)]) (fun ad => []) S := by
    intro fu a1 a2 a5 S h
    refine lp_some (G := (fun q S => GwG D K b0 sa nO adO LO fO (fun P => P 90 0 ∧ P 91 0) p l e { frames := 75, cells := 2, slots := 72, locals := 2779 } s m [.ref (adO 40 0), .int p1].toArray below meth c 8 (MQ below (hQ D K b0 (fun v9 u9 => ∃ (ad2 : Nat → Nat → Nat) (L2 : List Nat) (f2 : Nat → va_E), v9 = some (.int v) ∧ u9 = lU L2 f2 ∧ PW K ad2 (isn S1.2.2.1) S1 L2 f2 ∧ Gr (fun _ => False) (isn nO) adO LO fO (isn S1.2.2.1) ad2 L2 f2)) [.ref (adO 40 0), .int p1].toArray s 2 72 (fun q => b0 ≤ q)) 2 72 70 (fun ad => [(0, .ref (ad 40 0)), (1, .int q.1), (2, .int q.2.1), (3, .ref (ad 90 0)), (4, .ref (ad 91 0)), (5, .int q.2.2)]) (fun ad => []) S)) (fun k70 hk70 q S h => ?_) fu (a1, a2, a5) S h
    obtain ⟨a1, a2, a5⟩ := q
    have hk70 : ∀ (a1 : Int32) (a2 : Int32) (a5 : Int32) (S : fS), k70 (a1, a2, a5) S = some (v, S1) → GwG D K b0 sa nO adO LO fO (fun P => P 90 0 ∧ P 91 0) p l e { frames := 75, cells := 2, slots := 72, locals := 2779 } s m [.ref (adO 40 0), .int p1].toArray below meth c 8 (MQ below (hQ D K b0 (fun v9 u9 => ∃ (ad2 : Nat → Nat → Nat) (L2 : List Nat) (f2 : Nat → va_E), v9 = some (.int v) ∧ u9 = lU L2 f2 ∧ PW K ad2 (isn S1.2.2.1) S1 L2 f2 ∧ Gr (fun _ => False) (isn nO) adO LO fO (isn S1.2.2.1) ad2 L2 f2)) [.ref (adO 40 0), .int p1].toArray s 2 72 (fun q => b0 ≤ q)) 2 72 70 (fun ad => [(0, .ref (ad 40 0)), (1, .int a1), (2, .int a2), (3, .ref (ad 90 0)), (4, .ref (ad 91 0)), (5, .int a5)]) (fun ad => []) S := fun a1 a2 a5 S h => hk70 (a1, a2, a5) S h
    dsimp only [B_X7_canNow_70] at h
    intro ad P n L f H locs w G ls hl
    obtain ⟨hw, hn, hprobe, hP, hle, hG, ⟨hp90, hp91⟩⟩ := G
    have hl : lv_has ls 8 [(0, .ref (ad 40 0)), (1, .int a1), (2, .int a2), (3, .ref (ad 90 0)), (4, .ref (ad 91 0)), (5, .int a5)] := hl
    refine lv_iload hx hb dX7_canNow_70 (lv_at hl 5 rfl) ?_
    refine lv_bipush (v := 64) hx hb dX7_canNow_72 (by decide) ?_
    refine lv_icmp_ge (tgt := 151) hx hb dX7_canNow_74 (by decide) (fun c16 => ?_) (fun c16 => ?_)
    · have h := bb_t h c16
      refine lv_iconst (v := (-1)) hx hb dX7_canNow_151 (by decide) ?_
      exact t_iret C hr hlk w ⟨ad, L, _, so_v h, rfl, gq_w h hw hn hP, gq_g h hn hP hle hG⟩ (by decide) (by decide) dX7_canNow_152
    · have h := bb_f h c16
      refine lv_iconst (v := 0) hx hb dX7_canNow_77 (by decide) ?_
      refine lv_istore (lv' := [(6, .int 0), (0, .ref (ad 40 0)), (1, .int a1), (2, .int a2), (3, .ref (ad 90 0)), (4, .ref (ad 91 0)), (5, .int a5)]) hx hb dX7_canNow_78 hl (by decide) rfl (fun ls hl => ?_)
      refine lv_iconst (v := 0) hx hb dX7_canNow_80 (by decide) ?_
      refine lv_istore (lv' := [(7, .int 0), (6, .int 0), (0, .ref (ad 40 0)), (1, .int a1), (2, .int a2), (3, .ref (ad 90 0)), (4, .ref (ad 91 0)), (5, .int a5)]) hx hb dX7_canNow_81 hl (by decide) rfl (fun ls hl => ?_)
      exact J83 k70 hk70 fuel a1 a2 a5 0 0 S h ad P n L f H locs w ⟨hw, hn, hprobe, hP, hle, hG, ⟨hp90, hp91⟩⟩ ls (lv_sub hl [2, 3, 4, 5, 6, 7, 1, 0] rfl)
  have J28 : ∀ (fu : Nat) (a1 : Int32) (a2 : Int32) (a5 : Int32) (S : fS), lp (B_X7_canNow_28 ) fu (a1, a2, a5) S = some (v, S1) → GwG D K b0 sa nO adO LO fO (fun P => P 90 0 ∧ P 91 0) p l e { frames := 75, cells := 2, slots := 72, locals := 2779 } s m [.ref (adO 40 0), .int p1].toArray below meth c 8 (MQ below (hQ D K b0 (fun v9 u9 => ∃ (ad2 : Nat → Nat → Nat) (L2 : List Nat) (f2 : Nat → va_E), v9 = some (.int v) ∧ u9 = lU L2 f2 ∧ PW K ad2 (isn S1.2.2.1) S1 L2 f2 ∧ Gr (fun _ => False) (isn nO) adO LO fO (isn S1.2.2.1) ad2 L2 f2)) [.ref (adO 40 0), .int p1].toArray s 2 72 (fun q => b0 ≤ q)) 2 72 28 (fun ad => [(0, .ref (ad 40 0)), (1, .int a1), (2, .int a2), (3, .ref (ad 90 0)), (4, .ref (ad 91 0)), (5, .int a5)]) (fun ad => []) S := by
    intro fu a1 a2 a5 S h
    refine lp_some (G := (fun q S => GwG D K b0 sa nO adO LO fO (fun P => P 90 0 ∧ P 91 0) p l e { frames := 75, cells := 2, slots := 72, locals := 2779 } s m [.ref (adO 40 0), .int p1].toArray below meth c 8 (MQ below (hQ D K b0 (fun v9 u9 => ∃ (ad2 : Nat → Nat → Nat) (L2 : List Nat) (f2 : Nat → va_E), v9 = some (.int v) ∧ u9 = lU L2 f2 ∧ PW K ad2 (isn S1.2.2.1) S1 L2 f2 ∧ Gr (fun _ => False) (isn nO) adO LO fO (isn S1.2.2.1) ad2 L2 f2)) [.ref (adO 40 0), .int p1].toArray s 2 72 (fun q => b0 ≤ q)) 2 72 28 (fun ad => [(0, .ref (ad 40 0)), (1, .int q.1), (2, .int q.2.1), (3, .ref (ad 90 0)), (4, .ref (ad 91 0)), (5, .int q.2.2)]) (fun ad => []) S)) (fun k28 hk28 q S h => ?_) fu (a1, a2, a5) S h
    obtain ⟨a1, a2, a5⟩ := q
    have hk28 : ∀ (a1 : Int32) (a2 : Int32) (a5 : Int32) (S : fS), k28 (a1, a2, a5) S = some (v, S1) → GwG D K b0 sa nO adO LO fO (fun P => P 90 0 ∧ P 91 0) p l e { frames := 75, cells := 2, slots := 72, locals := 2779 } s m [.ref (adO 40 0), .int p1].toArray below meth c 8 (MQ below (hQ D K b0 (fun v9 u9 => ∃ (ad2 : Nat → Nat → Nat) (L2 : List Nat) (f2 : Nat → va_E), v9 = some (.int v) ∧ u9 = lU L2 f2 ∧ PW K ad2 (isn S1.2.2.1) S1 L2 f2 ∧ Gr (fun _ => False) (isn nO) adO LO fO (isn S1.2.2.1) ad2 L2 f2)) [.ref (adO 40 0), .int p1].toArray s 2 72 (fun q => b0 ≤ q)) 2 72 28 (fun ad => [(0, .ref (ad 40 0)), (1, .int a1), (2, .int a2), (3, .ref (ad 90 0)), (4, .ref (ad 91 0)), (5, .int a5)]) (fun ad => []) S := fun a1 a2 a5 S h => hk28 (a1, a2, a5) S h
    dsimp only [B_X7_canNow_28] at h
    intro ad P n L f H locs w G ls hl
    obtain ⟨hw, hn, hprobe, hP, hle, hG, ⟨hp90, hp91⟩⟩ := G
    have hl : lv_has ls 8 [(0, .ref (ad 40 0)), (1, .int a1), (2, .int a2), (3, .ref (ad 90 0)), (4, .ref (ad 91 0)), (5, .int a5)] := hl
    refine lv_iload hx hb dX7_canNow_28 (lv_at hl 5 rfl) ?_
    refine lv_iload_n hx hb dX7_canNow_30 rfl (lv_at hl 2 rfl) ?_
    refine lv_icmp_ge (tgt := 67) hx hb dX7_canNow_31 (by decide) (fun c17 => ?_) (fun c17 => ?_)
    · have h := bb_t h c17
      refine lv_iconst (v := 0) hx hb dX7_canNow_67 (by decide) ?_
      refine lv_istore (lv' := [(5, .int 0), (0, .ref (ad 40 0)), (1, .int a1), (2, .int a2), (3, .ref (ad 90 0)), (4, .ref (ad 91 0))]) hx hb dX7_canNow_68 hl (by decide) rfl (fun ls hl => ?_)
      exact J70  fuel a1 a2 0 S h ad P n L f H locs w ⟨hw, hn, hprobe, hP, hle, hG, ⟨hp90, hp91⟩⟩ ls (lv_sub hl [1, 2, 3, 4, 5, 0] rfl)
    · have h := bb_f h c17
      refine lv_aload_n hx hb dX7_canNow_34 rfl (lv_at hl 0 rfl) ?_
      refine lv_aload_n hx hb dX7_canNow_35 rfl (lv_at hl 0 rfl) ?_
      refine u_geti C w hw (hP _ _ (isn_f rfl rfl (by decide))) rfl (N := 57) rfl rfl cin_7 15 (by decide) rfl gw_1171 dX7_canNow_36 ?_
      refine u_iv h (fun x18 h => ?_)
      refine lv_iload hx hb dX7_canNow_39 (lv_at hl 5 rfl) ?_
      obtain ⟨v19, S20, h21, h⟩ := bd_some h
      refine u_callV (n := 2) C w hw (hP _ _ (isn_f rfl rfl (by decide))) rfl rfl rfl (c_X7_tellsBy l D K b0 sa _ L _ ad P hP S hw hn x18 a5 v19 S20 h21) gw_1453 gw_1450 gw_1452 gs_44 gw_8 ⟨by decide, by decide, by decide +kernel⟩ rfl rfl ⟨by decide, by decide⟩ rfl hl.1 rfl (Nat.le_of_ble_eq_true rfl) dX7_canNow_41 ⟨Nat.le_of_ble_eq_true rfl, Nat.le_of_ble_eq_true rfl⟩ (fun v9 u H locs hp w => ?_)
      obtain ⟨f2, rfl, rfl, hw, hn, hk1⟩ := hp
      have hG := hG.kp hk1
      generalize f2 = f at w hw hG
      refine lv_aload_n hx hb dX7_canNow_44 rfl (lv_at hl 3 rfl) ?_
      refine lv_iload hx hb dX7_canNow_45 (lv_at hl 5 rfl) ?_
      refine lv_aload_n hx hb dX7_canNow_47 rfl (lv_at hl 0 rfl) ?_
      refine u_geti C w hw (hP _ _ (isn_f rfl rfl (by decide))) rfl (N := 57) rfl rfl cin_7 18 (by decide) rfl gw_1174 dX7_canNow_48 ?_
      refine u_iv h (fun x22 h => ?_)
      obtain ⟨g23, h⟩ := gd_some h
      refine u_iast C w hw hp90 rfl rfl (n := 36) rfl (vp_in_iff.mpr g23) dX7_canNow_51 (fun f H locs w hw hk1 => ?_)
      have hG := hG.kp hk1
      refine u_sv h hw hn (fun S24 h hw hn => ?_)
      refine lv_aload hx hb dX7_canNow_52 (lv_at hl 4 rfl) ?_
      refine lv_iload hx hb dX7_canNow_54 (lv_at hl 5 rfl) ?_
      refine lv_aload_n hx hb dX7_canNow_56 rfl (lv_at hl 0 rfl) ?_
      refine u_geti C w hw (hP _ _ (isn_f rfl rfl (by decide))) rfl (N := 57) rfl rfl cin_7 19 (by decide) rfl gw_1175 dX7_canNow_57 ?_
      refine u_iv h (fun x25 h => ?_)
      obtain ⟨g26, h⟩ := gd_some h
      refine u_iast C w hw hp91 rfl rfl (n := 36) rfl (vp_in_iff.mpr g26) dX7_canNow_60 (fun f H locs w hw hk1 => ?_)
      have hG := hG.kp hk1
      refine u_sv h hw hn (fun S27 h hw hn => ?_)
      obtain ⟨x28, ex28, h⟩ := iv_some h
      refine lv_iinc (v := x28) (lv' := [(5, .int x28), (0, .ref (ad 40 0)), (1, .int a1), (2, .int a2), (3, .ref (ad 90 0)), (4, .ref (ad 91 0))]) hx hb dX7_canNow_61 hl (k := 5) rfl ex28.symm (by decide) rfl (fun ls hl => ?_)
      refine lv_goto (tgt := 28) hx hb dX7_canNow_64 (by decide) ?_
      exact hk28 a1 a2 x28 S27 h ad P n L f H locs w ⟨hw, hn, hprobe, hP, hle, hG, ⟨hp90, hp91⟩⟩ ls (lv_sub hl [1, 2, 3, 4, 5, 0] rfl)
  dsimp only [F_X7_canNow] at h
  obtain ⟨H, eH⟩ : ∃ z, z = s.heap := ⟨_, rfl⟩
  obtain ⟨locs, el⟩ : ∃ z : List Loc, z = [] := ⟨_, rfl⟩
  rw [← eH, ← el] at w ⊢
  obtain ⟨ad, P, n, L, f, w, hw, hn, hprobe, hP, hle, hG, hl, hn90, hn91⟩ : ∃ (ad2 : Nat → Nat → Nat) (P2 : Nat → Nat → Prop) (n2 : Nat × Nat) (L2 : List Nat) (f2 : Nat → va_E), Wh D K b0 sa s H locs L2 f2 ∧ PW K ad2 P2 S0 L2 f2 ∧ S0.2.2.1 = n2 ∧ 0 < n2.1 ∧ (∀ a i : Nat, isn n2 a i → P2 a i) ∧ (∀ a i : Nat, isn nO a i → isn n2 a i) ∧ Gr (fun _ => False) (isn nO) adO LO fO P2 ad2 L2 f2 ∧ lv_has ls 8 [(0, .ref (ad2 40 0)), (1, .int p1)] ∧ ¬ P2 90 0 ∧ ¬ P2 91 0 := ⟨adO, isn nO, nO, LO, fO, w, hw, hn, hprobe, fun _ _ h => h, fun _ _ h => h, Gr.rf, hl, (fun z => absurd z (Nat.not_lt_zero 0)), (fun z => absurd z (Nat.not_lt_zero 0))⟩
  refine lv_aload_n hx hb dX7_canNow_0 rfl (lv_at hl 0 rfl) ?_
  refine lv_iconst (v := 1) hx hb dX7_canNow_1 (by decide) ?_
  obtain ⟨v29, S30, h31, h⟩ := bd_some h
  refine u_callV (n := 1) C w hw (hP _ _ (isn_f rfl rfl (by decide))) rfl rfl rfl (c_X7_namesOf l D K b0 sa _ L _ ad P hP S0 hw hn 1 v29 S30 h31) gw_1445 gw_1442 gw_1444 gs_42 gw_8 ⟨by decide, by decide, by decide +kernel⟩ rfl rfl ⟨by decide, by decide⟩ rfl hl.1 rfl (Nat.le_of_ble_eq_true rfl) dX7_canNow_2 ⟨Nat.le_of_ble_eq_true rfl, Nat.le_of_ble_eq_true rfl⟩ (fun v9 u H locs hp w => ?_)
  obtain ⟨f2, rfl, rfl, hw, hn, hk1⟩ := hp
  have hG := hG.kp hk1
  generalize f2 = f at w hw hG
  refine lv_aload_n hx hb dX7_canNow_5 rfl (lv_at hl 0 rfl) ?_
  refine lv_aload_n hx hb dX7_canNow_6 rfl (lv_at hl 0 rfl) ?_
  refine u_geti C w hw (hP _ _ (isn_f rfl rfl (by decide))) rfl (N := 57) rfl rfl cin_7 15 (by decide) rfl gw_1171 dX7_canNow_7 ?_
  refine u_iv h (fun x32 h => ?_)
  obtain ⟨v33, S34, h35, h⟩ := bd_some h
  refine u_callV (n := 1) C w hw (hP _ _ (isn_f rfl rfl (by decide))) rfl rfl rfl (c_X7_lotsBy l D K b0 sa _ L _ ad P hP S30 hw hn x32 v33 S34 h35) gw_1449 gw_1446 gw_1448 gs_43 gw_8 ⟨by decide, by decide, by decide +kernel⟩ rfl rfl ⟨by decide, by decide⟩ rfl hl.1 rfl (Nat.le_of_ble_eq_true rfl) dX7_canNow_10 ⟨Nat.le_of_ble_eq_true rfl, Nat.le_of_ble_eq_true rfl⟩ (fun v9 u H locs hp w => ?_)
  obtain ⟨f2, rfl, rfl, hw, hn, hk1⟩ := hp
  have hG := hG.kp hk1
  generalize f2 = f at w hw hG
  refine lv_istore_n (lv' := [(2, .int v33), (0, .ref (ad 40 0)), (1, .int p1)]) hx hb dX7_canNow_13 rfl hl (by decide) rfl (fun ls hl => ?_)
  refine lv_bipush (v := 36) hx hb dX7_canNow_14 (by decide) ?_
  refine g_newI C w (at_ := .int) (ti := 0) (ty := .int) rfl rfl (Or.inl rfl) gw_85 (N := 36) (by decide) (by decide) (by decide) (Nat.le_of_ble_eq_true rfl) (Nat.le_of_ble_eq_true rfl) dX7_canNow_16 (fun q H hq w => ?_)
  obtain ⟨S36, eS, h⟩ := sv_some h
  obtain ⟨ad, P, L, f, w, hw, hn, hP, hG, hl, hq2, hn91, hp90⟩ : ∃ (ad2 : Nat → Nat → Nat) (P2 : Nat → Nat → Prop) (L2 : List Nat) (f2 : Nat → va_E), Wh D K b0 sa s H locs L2 f2 ∧ PW K ad2 P2 S36 L2 f2 ∧ S36.2.2.1 = n ∧ (∀ a i : Nat, isn n a i → P2 a i) ∧ Gr (fun _ => False) (isn nO) adO LO fO P2 ad2 L2 f2 ∧ lv_has ls 8 [(2, .int v33), (0, .ref (ad2 40 0)), (1, .int p1)] ∧ q = ad2 90 0 ∧ ¬ P2 91 0 ∧ P2 90 0 := by
    subst eS
    refine ⟨au ad 90 0 q, Pu P 90 0, L ++ [q], _, w, hw.tmp (by decide) rfl rfl rfl hn90 hq, hn, fun a i h => Or.inl (hP a i h), gr_tmp hG hn90 hq, ?_, au_self.symm, (fun z => z.elim hn91 (fun z => absurd z.1 (by decide))), Or.inr ⟨rfl, rfl⟩⟩
    rw [(show au ad 90 0 q 40 0 = ad 40 0 from au_ne (fun z => absurd z.1 (by decide)))]
    exact hl
  rw [hq2]
  refine lv_astore_n (lv' := [(3, .ref (ad 90 0)), (2, .int v33), (0, .ref (ad 40 0)), (1, .int p1)]) hx hb dX7_canNow_18 rfl hl (by decide) rfl (fun ls hl => ?_)
  refine lv_bipush (v := 36) hx hb dX7_canNow_19 (by decide) ?_
  refine g_newI C w (at_ := .int) (ti := 0) (ty := .int) rfl rfl (Or.inl rfl) gw_85 (N := 36) (by decide) (by decide) (by decide) (Nat.le_of_ble_eq_true rfl) (Nat.le_of_ble_eq_true rfl) dX7_canNow_21 (fun q H hq w => ?_)
  obtain ⟨S37, eS, h⟩ := sv_some h
  obtain ⟨ad, P, L, f, w, hw, hn, hP, hG, hl, hq2, hp90, hp91⟩ : ∃ (ad2 : Nat → Nat → Nat) (P2 : Nat → Nat → Prop) (L2 : List Nat) (f2 : Nat → va_E), Wh D K b0 sa s H locs L2 f2 ∧ PW K ad2 P2 S37 L2 f2 ∧ S37.2.2.1 = n ∧ (∀ a i : Nat, isn n a i → P2 a i) ∧ Gr (fun _ => False) (isn nO) adO LO fO P2 ad2 L2 f2 ∧ lv_has ls 8 [(3, .ref (ad2 90 0)), (2, .int v33), (0, .ref (ad2 40 0)), (1, .int p1)] ∧ q = ad2 91 0 ∧ P2 90 0 ∧ P2 91 0 := by
    subst eS
    refine ⟨au ad 91 0 q, Pu P 91 0, L ++ [q], _, w, hw.tmp (by decide) rfl rfl rfl hn91 hq, hn, fun a i h => Or.inl (hP a i h), gr_tmp hG hn91 hq, ?_, au_self.symm, Or.inl hp90, Or.inr ⟨rfl, rfl⟩⟩
    rw [(show au ad 91 0 q 90 0 = ad 90 0 from au_ne (fun z => absurd z.1 (by decide))), (show au ad 91 0 q 40 0 = ad 40 0 from au_ne (fun z => absurd z.1 (by decide)))]
    exact hl
  rw [hq2]
  refine lv_astore (lv' := [(4, .ref (ad 91 0)), (3, .ref (ad 90 0)), (2, .int v33), (0, .ref (ad 40 0)), (1, .int p1)]) hx hb dX7_canNow_23 hl (by decide) rfl (fun ls hl => ?_)
  refine lv_iconst (v := 0) hx hb dX7_canNow_25 (by decide) ?_
  refine lv_istore (lv' := [(5, .int 0), (4, .ref (ad 91 0)), (3, .ref (ad 90 0)), (2, .int v33), (0, .ref (ad 40 0)), (1, .int p1)]) hx hb dX7_canNow_26 hl (by decide) rfl (fun ls hl => ?_)
  exact J28  fuel p1 v33 0 S37 h ad P n L f H locs w ⟨hw, hn, hprobe, hP, hle, hG, ⟨hp90, hp91⟩⟩ ls (lv_sub hl [4, 5, 3, 2, 1, 0] rfl)
theorem dX7_can_0 : decode cX7_can 0 = .ok (.aload_n 0, 1) := by decide +kernel
theorem dX7_can_1 : decode cX7_can 1 = .ok (.iconst 0, 1) := by decide +kernel
theorem dX7_can_2 : decode cX7_can 2 = .ok (.putfield 97, 3) := by decide +kernel
theorem dX7_can_5 : decode cX7_can 5 = .ok (.aload_n 0, 1) := by decide +kernel
theorem dX7_can_6 : decode cX7_can 6 = .ok (.iload_n 1, 1) := by decide +kernel
theorem dX7_can_7 : decode cX7_can 7 = .ok (.invokevirtual 316, 3) := by decide +kernel
theorem dX7_can_10 : decode cX7_can 10 = .ok (.ireturn, 1) := by decide +kernel
noncomputable def F_X7_can (p1 : Int32) (S0 : fS) : Option (Int32 × fS) := sv (pu S0 40 0 0 0) (fun S1 => bd (F_X7_canNow p1 S1) (fun v2 S3 => some (v2, S3)))
set_option maxHeartbeats 4000000 in
set_option maxRecDepth 100000 in
theorem c_X7_can (l : Launch) (D : va_G) (K : Nat → ClassId) (b0 : Nat) (sa : sT) (sz : Nat) (LO : List Nat) (fO : Nat → va_E) (adO : Nat → Nat → Nat) (nO : Nat × Nat) (S0 : fS) (hw : PW K adO (isn nO) S0 LO fO) (hn : S0.2.2.1 = nO) (hprobe : 0 < nO.1) (p1 : Int32) (v : Int32) (S1 : fS) (h : F_X7_can p1 S0 = some (v, S1)) : Met l yX7_can (.code yX7_can cX7_can 2 (some .int) :: gt) { frames := 76, cells := 2, slots := 72, locals := 2806 } (va_Pc [.ref (adO 40 0), .int p1] (hPre D K b0 sa sz LO fO)) (hQ D K b0 (fun v9 u9 => ∃ (ad2 : Nat → Nat → Nat) (L2 : List Nat) (f2 : Nat → va_E), v9 = some (.int v) ∧ u9 = lU L2 f2 ∧ PW K ad2 (isn S1.2.2.1) S1 L2 f2 ∧ Gr (fun _ => False) (isn nO) adO LO fO (isn S1.2.2.1) ad2 L2 f2)) 2 72 (fun q => b0 ≤ q) := by
  refine t_of (own := RX7) (by decide) rfl ?_ (Nat.le_of_ble_eq_true rfl)
  intro p e s m below meth c ls C w hsz hr hlk hnm hl
  have hx := C.1
  have hb := C.2.1
  dsimp only [F_X7_can] at h
  obtain ⟨H, eH⟩ : ∃ z, z = s.heap := ⟨_, rfl⟩
  obtain ⟨locs, el⟩ : ∃ z : List Loc, z = [] := ⟨_, rfl⟩
  rw [← eH, ← el] at w ⊢
  obtain ⟨ad, P, n, L, f, w, hw, hn, hprobe, hP, hle, hG, hl⟩ : ∃ (ad2 : Nat → Nat → Nat) (P2 : Nat → Nat → Prop) (n2 : Nat × Nat) (L2 : List Nat) (f2 : Nat → va_E), Wh D K b0 sa s H locs L2 f2 ∧ PW K ad2 P2 S0 L2 f2 ∧ S0.2.2.1 = n2 ∧ 0 < n2.1 ∧ (∀ a i : Nat, isn n2 a i → P2 a i) ∧ (∀ a i : Nat, isn nO a i → isn n2 a i) ∧ Gr (fun _ => False) (isn nO) adO LO fO P2 ad2 L2 f2 ∧ lv_has ls 2 [(0, .ref (ad2 40 0)), (1, .int p1)] := ⟨adO, isn nO, nO, LO, fO, w, hw, hn, hprobe, fun _ _ h => h, fun _ _ h => h, Gr.rf, hl⟩
  refine lv_aload_n hx hb dX7_can_0 rfl (lv_at hl 0 rfl) ?_
  refine lv_iconst (v := 0) hx hb dX7_can_1 (by decide) ?_
  refine u_puti C w hw (hP _ _ (isn_f rfl rfl (by decide))) rfl (N := 57) rfl rfl cin_7 tyX7 tyX7_ok nmX7 0 (by decide) rfl rfl rfl rfl gw_1156 dX7_can_2 (fun f H locs w hw hk1 => ?_)
  have hG := hG.kp hk1
  refine u_sv h hw hn (fun S1 h hw hn => ?_)
  refine lv_aload_n hx hb dX7_can_5 rfl (lv_at hl 0 rfl) ?_
  refine lv_iload_n hx hb dX7_can_6 rfl (lv_at hl 1 rfl) ?_
  obtain ⟨v2, S3, h4, h⟩ := bd_some h
  refine u_callV (n := 1) C w hw (hP _ _ (isn_f rfl rfl (by decide))) rfl rfl rfl (c_X7_canNow l D K b0 sa _ L f ad n S1 (hw.mono hP) hn hprobe p1 v2 S3 h4) gw_1523 gw_1520 gw_1522 gs_51 gw_8 ⟨by decide, by decide, by decide +kernel⟩ rfl rfl ⟨by decide, by decide⟩ rfl hl.1 rfl (Nat.le_of_ble_eq_true rfl) dX7_can_7 ⟨Nat.le_of_ble_eq_true rfl, Nat.le_of_ble_eq_true rfl⟩ (fun v9 u H locs hp w => ?_)
  obtain ⟨ad2, L2, f2, rfl, rfl, hw2, hG2⟩ := hp
  obtain ⟨ad, P, n, L, f, w, hw, hn, hprobe, hP, hle, hG, hl⟩ : ∃ (ad3 : Nat → Nat → Nat) (P3 : Nat → Nat → Prop) (n3 : Nat × Nat) (L3 : List Nat) (f3 : Nat → va_E), Wh D K b0 sa s H locs L3 f3 ∧ PW K ad3 P3 S3 L3 f3 ∧ S3.2.2.1 = n3 ∧ 0 < n3.1 ∧ (∀ a i : Nat, isn n3 a i → P3 a i) ∧ (∀ a i : Nat, isn nO a i → isn n3 a i) ∧ Gr (fun _ => False) (isn nO) adO LO fO P3 ad3 L3 f3 ∧ lv_has ls 2 [(0, .ref (ad3 40 0)), (1, .int p1)] := ⟨ad2, isn S3.2.2.1, S3.2.2.1, L2, f2, w, hw2, rfl, gr_pos hG2 hprobe, fun _ _ h => h, fun a i h => (hG2.1 a i (hle a i h)).1, (hG.sub hP hle).tr hG2 (fun _ _ h => h), (by rw [(hG2.1 40 0 (isn_f rfl rfl (by decide))).2]; exact hl)⟩
  exact t_iret C hr hlk w ⟨ad, L, _, so_v h, rfl, gq_w h hw hn hP, gq_g h hn hP hle hG⟩ (by decide) (by decide) dX7_can_10
theorem dX7_attemptAt_0 : decode cX7_attemptAt 0 = .ok (.aload_n 0, 1) := by decide +kernel
theorem dX7_attemptAt_1 : decode cX7_attemptAt 1 = .ok (.getfield 73, 3) := by decide +kernel
theorem dX7_attemptAt_4 : decode cX7_attemptAt 4 = .ok (.aload_n 0, 1) := by decide +kernel
theorem dX7_attemptAt_5 : decode cX7_attemptAt 5 = .ok (.getfield 313, 3) := by decide +kernel
theorem dX7_attemptAt_8 : decode cX7_attemptAt 8 = .ok (.aaload, 1) := by decide +kernel
theorem dX7_attemptAt_9 : decode cX7_attemptAt 9 = .ok (.astore_n 2, 1) := by decide +kernel
theorem dX7_attemptAt_10 : decode cX7_attemptAt 10 = .ok (.aload_n 2, 1) := by decide +kernel
theorem dX7_attemptAt_11 : decode cX7_attemptAt 11 = .ok (.bipush 9, 2) := by decide +kernel
theorem dX7_attemptAt_13 : decode cX7_attemptAt 13 = .ok (.aload_n 0, 1) := by decide +kernel
theorem dX7_attemptAt_14 : decode cX7_attemptAt 14 = .ok (.iconst 0, 1) := by decide +kernel
theorem dX7_attemptAt_15 : decode cX7_attemptAt 15 = .ok (.invokevirtual 316, 3) := by decide +kernel
theorem dX7_attemptAt_18 : decode cX7_attemptAt 18 = .ok (.iconst (-1), 1) := by decide +kernel
theorem dX7_attemptAt_19 : decode cX7_attemptAt 19 = .ok (.if_icmp .ne 7, 3) := by decide +kernel
theorem dX7_attemptAt_22 : decode cX7_attemptAt 22 = .ok (.iconst 0, 1) := by decide +kernel
theorem dX7_attemptAt_23 : decode cX7_attemptAt 23 = .ok (.goto 4, 3) := by decide +kernel
theorem dX7_attemptAt_26 : decode cX7_attemptAt 26 = .ok (.iconst 1, 1) := by decide +kernel
theorem dX7_attemptAt_27 : decode cX7_attemptAt 27 = .ok (.iastore, 1) := by decide +kernel
theorem dX7_attemptAt_28 : decode cX7_attemptAt 28 = .ok (.aload_n 0, 1) := by decide +kernel
theorem dX7_attemptAt_29 : decode cX7_attemptAt 29 = .ok (.iconst 1, 1) := by decide +kernel
theorem dX7_attemptAt_30 : decode cX7_attemptAt 30 = .ok (.invokevirtual 247, 3) := by decide +kernel
theorem dX7_attemptAt_33 : decode cX7_attemptAt 33 = .ok (.iconst 0, 1) := by decide +kernel
theorem dX7_attemptAt_34 : decode cX7_attemptAt 34 = .ok (.istore_n 3, 1) := by decide +kernel
theorem dX7_attemptAt_35 : decode cX7_attemptAt 35 = .ok (.iload_n 3, 1) := by decide +kernel
theorem dX7_attemptAt_36 : decode cX7_attemptAt 36 = .ok (.iconst 5, 1) := by decide +kernel
theorem dX7_attemptAt_37 : decode cX7_attemptAt 37 = .ok (.if_icmp .ge 20, 3) := by decide +kernel
theorem dX7_attemptAt_40 : decode cX7_attemptAt 40 = .ok (.aload_n 2, 1) := by decide +kernel
theorem dX7_attemptAt_41 : decode cX7_attemptAt 41 = .ok (.iconst 4, 1) := by decide +kernel
theorem dX7_attemptAt_42 : decode cX7_attemptAt 42 = .ok (.iload_n 3, 1) := by decide +kernel
theorem dX7_attemptAt_43 : decode cX7_attemptAt 43 = .ok (.iadd, 1) := by decide +kernel
theorem dX7_attemptAt_44 : decode cX7_attemptAt 44 = .ok (.aload_n 0, 1) := by decide +kernel
theorem dX7_attemptAt_45 : decode cX7_attemptAt 45 = .ok (.getfield 30, 3) := by decide +kernel
theorem dX7_attemptAt_48 : decode cX7_attemptAt 48 = .ok (.iload_n 3, 1) := by decide +kernel
theorem dX7_attemptAt_49 : decode cX7_attemptAt 49 = .ok (.iaload, 1) := by decide +kernel
theorem dX7_attemptAt_50 : decode cX7_attemptAt 50 = .ok (.iastore, 1) := by decide +kernel
theorem dX7_attemptAt_51 : decode cX7_attemptAt 51 = .ok (.iinc 3 1, 3) := by decide +kernel
theorem dX7_attemptAt_54 : decode cX7_attemptAt 54 = .ok (.goto (-19), 3) := by decide +kernel
theorem dX7_attemptAt_57 : decode cX7_attemptAt 57 = .ok (.aload_n 0, 1) := by decide +kernel
theorem dX7_attemptAt_58 : decode cX7_attemptAt 58 = .ok (.aload_n 0, 1) := by decide +kernel
theorem dX7_attemptAt_59 : decode cX7_attemptAt 59 = .ok (.getfield 27, 3) := by decide +kernel
theorem dX7_attemptAt_62 : decode cX7_attemptAt 62 = .ok (.invokevirtual 250, 3) := by decide +kernel
theorem dX7_attemptAt_65 : decode cX7_attemptAt 65 = .ok (.istore_n 3, 1) := by decide +kernel
theorem dX7_attemptAt_66 : decode cX7_attemptAt 66 = .ok (.iload_n 3, 1) := by decide +kernel
theorem dX7_attemptAt_67 : decode cX7_attemptAt 67 = .ok (.iconst 1, 1) := by decide +kernel
theorem dX7_attemptAt_68 : decode cX7_attemptAt 68 = .ok (.if_icmp .le 11, 3) := by decide +kernel
theorem dX7_attemptAt_71 : decode cX7_attemptAt 71 = .ok (.aload_n 0, 1) := by decide +kernel
theorem dX7_attemptAt_72 : decode cX7_attemptAt 72 = .ok (.iload_n 3, 1) := by decide +kernel
theorem dX7_attemptAt_73 : decode cX7_attemptAt 73 = .ok (.invokevirtual 320, 3) := by decide +kernel
theorem dX7_attemptAt_76 : decode cX7_attemptAt 76 = .ok (.goto 4, 3) := by decide +kernel
theorem dX7_attemptAt_79 : decode cX7_attemptAt 79 = .ok (.iconst 0, 1) := by decide +kernel
theorem dX7_attemptAt_80 : decode cX7_attemptAt 80 = .ok (.istore 4, 2) := by decide +kernel
theorem dX7_attemptAt_82 : decode cX7_attemptAt 82 = .ok (.aload_n 0, 1) := by decide +kernel
theorem dX7_attemptAt_83 : decode cX7_attemptAt 83 = .ok (.getfield 58, 3) := by decide +kernel
theorem dX7_attemptAt_86 : decode cX7_attemptAt 86 = .ok (.istore 5, 2) := by decide +kernel
theorem dX7_attemptAt_88 : decode cX7_attemptAt 88 = .ok (.aload_n 0, 1) := by decide +kernel
theorem dX7_attemptAt_89 : decode cX7_attemptAt 89 = .ok (.iload_n 1, 1) := by decide +kernel
theorem dX7_attemptAt_90 : decode cX7_attemptAt 90 = .ok (.invokevirtual 300, 3) := by decide +kernel
theorem dX7_attemptAt_93 : decode cX7_attemptAt 93 = .ok (.aload_n 2, 1) := by decide +kernel
theorem dX7_attemptAt_94 : decode cX7_attemptAt 94 = .ok (.bipush 10, 2) := by decide +kernel
theorem dX7_attemptAt_96 : decode cX7_attemptAt 96 = .ok (.aload_n 0, 1) := by decide +kernel
theorem dX7_attemptAt_97 : decode cX7_attemptAt 97 = .ok (.getfield 275, 3) := by decide +kernel
theorem dX7_attemptAt_100 : decode cX7_attemptAt 100 = .ok (.iastore, 1) := by decide +kernel
theorem dX7_attemptAt_101 : decode cX7_attemptAt 101 = .ok (.aload_n 2, 1) := by decide +kernel
theorem dX7_attemptAt_102 : decode cX7_attemptAt 102 = .ok (.bipush 11, 2) := by decide +kernel
theorem dX7_attemptAt_104 : decode cX7_attemptAt 104 = .ok (.aload_n 0, 1) := by decide +kernel
theorem dX7_attemptAt_105 : decode cX7_attemptAt 105 = .ok (.getfield 278, 3) := by decide +kernel
theorem dX7_attemptAt_108 : decode cX7_attemptAt 108 = .ok (.iastore, 1) := by decide +kernel
theorem dX7_attemptAt_109 : decode cX7_attemptAt 109 = .ok (.aload_n 2, 1) := by decide +kernel
theorem dX7_attemptAt_110 : decode cX7_attemptAt 110 = .ok (.bipush 12, 2) := by decide +kernel
theorem dX7_attemptAt_112 : decode cX7_attemptAt 112 = .ok (.iload 5, 2) := by decide +kernel
theorem dX7_attemptAt_114 : decode cX7_attemptAt 114 = .ok (.iastore, 1) := by decide +kernel
theorem dX7_attemptAt_115 : decode cX7_attemptAt 115 = .ok (.aload_n 0, 1) := by decide +kernel
theorem dX7_attemptAt_116 : decode cX7_attemptAt 116 = .ok (.iload_n 1, 1) := by decide +kernel
theorem dX7_attemptAt_117 : decode cX7_attemptAt 117 = .ok (.iload 4, 2) := by decide +kernel
theorem dX7_attemptAt_119 : decode cX7_attemptAt 119 = .ok (.invokevirtual 323, 3) := by decide +kernel
theorem dX7_attemptAt_122 : decode cX7_attemptAt 122 = .ok (.aload_n 2, 1) := by decide +kernel
theorem dX7_attemptAt_123 : decode cX7_attemptAt 123 = .ok (.iconst 0, 1) := by decide +kernel
theorem dX7_attemptAt_124 : decode cX7_attemptAt 124 = .ok (.iload_n 1, 1) := by decide +kernel
theorem dX7_attemptAt_125 : decode cX7_attemptAt 125 = .ok (.iastore, 1) := by decide +kernel
theorem dX7_attemptAt_126 : decode cX7_attemptAt 126 = .ok (.aload_n 2, 1) := by decide +kernel
theorem dX7_attemptAt_127 : decode cX7_attemptAt 127 = .ok (.iconst 1, 1) := by decide +kernel
theorem dX7_attemptAt_128 : decode cX7_attemptAt 128 = .ok (.aload_n 0, 1) := by decide +kernel
theorem dX7_attemptAt_129 : decode cX7_attemptAt 129 = .ok (.getfield 284, 3) := by decide +kernel
theorem dX7_attemptAt_132 : decode cX7_attemptAt 132 = .ok (.iastore, 1) := by decide +kernel
theorem dX7_attemptAt_133 : decode cX7_attemptAt 133 = .ok (.aload_n 2, 1) := by decide +kernel
theorem dX7_attemptAt_134 : decode cX7_attemptAt 134 = .ok (.iconst 2, 1) := by decide +kernel
theorem dX7_attemptAt_135 : decode cX7_attemptAt 135 = .ok (.aload_n 0, 1) := by decide +kernel
theorem dX7_attemptAt_136 : decode cX7_attemptAt 136 = .ok (.getfield 284, 3) := by decide +kernel
theorem dX7_attemptAt_139 : decode cX7_attemptAt 139 = .ok (.iconst 3, 1) := by decide +kernel
theorem dX7_attemptAt_140 : decode cX7_attemptAt 140 = .ok (.if_icmp .ne 10, 3) := by decide +kernel
theorem dX7_attemptAt_143 : decode cX7_attemptAt 143 = .ok (.aload_n 0, 1) := by decide +kernel
theorem dX7_attemptAt_144 : decode cX7_attemptAt 144 = .ok (.getfield 281, 3) := by decide +kernel
theorem dX7_attemptAt_147 : decode cX7_attemptAt 147 = .ok (.goto 4, 3) := by decide +kernel
theorem dX7_attemptAt_150 : decode cX7_attemptAt 150 = .ok (.iconst (-1), 1) := by decide +kernel
theorem dX7_attemptAt_151 : decode cX7_attemptAt 151 = .ok (.iastore, 1) := by decide +kernel
theorem dX7_attemptAt_152 : decode cX7_attemptAt 152 = .ok (.aload_n 2, 1) := by decide +kernel
theorem dX7_attemptAt_153 : decode cX7_attemptAt 153 = .ok (.iconst 3, 1) := by decide +kernel
theorem dX7_attemptAt_154 : decode cX7_attemptAt 154 = .ok (.iload 4, 2) := by decide +kernel
theorem dX7_attemptAt_156 : decode cX7_attemptAt 156 = .ok (.iastore, 1) := by decide +kernel
theorem dX7_attemptAt_157 : decode cX7_attemptAt 157 = .ok (.aload_n 0, 1) := by decide +kernel
theorem dX7_attemptAt_158 : decode cX7_attemptAt 158 = .ok (.dup, 1) := by decide +kernel
theorem dX7_attemptAt_159 : decode cX7_attemptAt 159 = .ok (.getfield 313, 3) := by decide +kernel
theorem dX7_attemptAt_162 : decode cX7_attemptAt 162 = .ok (.iconst 1, 1) := by decide +kernel
theorem dX7_attemptAt_163 : decode cX7_attemptAt 163 = .ok (.iadd, 1) := by decide +kernel
theorem dX7_attemptAt_164 : decode cX7_attemptAt 164 = .ok (.putfield 313, 3) := by decide +kernel
theorem dX7_attemptAt_167 : decode cX7_attemptAt 167 = .ok (.aload_n 0, 1) := by decide +kernel
theorem dX7_attemptAt_168 : decode cX7_attemptAt 168 = .ok (.getfield 284, 3) := by decide +kernel
theorem dX7_attemptAt_171 : decode cX7_attemptAt 171 = .ok (.ireturn, 1) := by decide +kernel
noncomputable def B_X7_attemptAt_151L (a2 : Nat) (a4 : Int32) (t0 : Int32) (t1 : Int32) (t2 : Nat) (S : fS) : Option (Int32 × fS) := gd (ib t1 14) (sv (pu S 57 t2 (t1 : Int32).toNatClampNeg t0) (fun S2 => sv (pu S2 57 a2 (3 : Int32).toNatClampNeg a4) (fun S3 => iv (ge S3 40 0 46) (fun x4 => iv (x4 + (1 : Int32)) (fun x5 => sv (pu S3 40 0 46 x5) (fun S6 => iv (ge S6 40 0 41) (fun x7 => some (x7, S6))))))))
noncomputable def B_X7_attemptAt_80L (a1 : Int32) (a2 : Nat) (t0 : Int32) (S : fS) : Option (Int32 × fS) := iv (ge S 40 0 30) (fun x8 => bd (F_X7_grips a1 S) (fun v9 S10 => iv (ge S10 40 0 44) (fun x12 => sv (pu S10 57 a2 (10 : Int32).toNatClampNeg x12) (fun S13 => iv (ge S13 40 0 45) (fun x14 => sv (pu S13 57 a2 (11 : Int32).toNatClampNeg x14) (fun S15 => sv (pu S15 57 a2 (12 : Int32).toNatClampNeg x8) (fun S16 => bd (F_X7_triesAt a1 t0 S16) (fun v17 S18 => sv (pu S18 57 a2 (0 : Int32).toNatClampNeg a1) (fun S20 => iv (ge S20 40 0 41) (fun x21 => sv (pu S20 57 a2 (1 : Int32).toNatClampNeg x21) (fun S22 => iv (ge S22 40 0 41) (fun x23 => bb (x23 = (3 : Int32)) (iv (ge S22 40 0 42) (fun x25 => B_X7_attemptAt_151L  a2 t0 x25 2 a2 S22)) (B_X7_attemptAt_151L  a2 t0 (-1) 2 a2 S22)))))))))))))
noncomputable def B_X7_attemptAt_35L (k35L : (Int32 × Nat × Int32) → fS → Option (Int32 × fS)) : (Int32 × Nat × Int32) → fS → Option (Int32 × fS) := fun ⟨a1, a2, a3⟩ S => bb ((5 : Int32) ≤ a3) (iv (ge S 40 0 15) (fun x27 => bd (F_X7_lotsBy x27 S) (fun v28 S29 => bb (v28 ≤ (1 : Int32)) (B_X7_attemptAt_80L  a1 a2 0 S29) (bd (F_X7_draw v28 S29) (fun v32 S33 => B_X7_attemptAt_80L  a1 a2 v32 S33))))) (iv ((4 : Int32) + a3) (fun x35 => gd (ib a3 7) (iv (ge S 45 0 (a3 : Int32).toNatClampNeg) (fun x37 => gd (ib x35 14) (sv (pu S 57 a2 (x35 : Int32).toNatClampNeg x37) (fun S39 => iv (a3 + Int32.ofInt 1) (fun x40 => k35L (a1, a2, x40) S39)))))))
noncomputable def B_X7_attemptAt_27L (a1 : Int32) (a2 : Nat) (t0 : Int32) (t1 : Int32) (t2 : Nat) (S : fS) : Option (Int32 × fS) := gd (ib t1 14) (sv (pu S 57 t2 (t1 : Int32).toNatClampNeg t0) (fun S42 => bd (F_X7_namesOf 1 S42) (fun v43 S44 => lp (B_X7_attemptAt_35L ) fuel (a1, a2, 0) S44)))
noncomputable def F_X7_attemptAt (p1 : Int32) (S0 : fS) : Option (Int32 × fS) := iv (ge S0 40 0 46) (fun x46 => gd (ib x46 200) (bd (F_X7_canNow 0 S0) (fun v48 S49 => bb (v48 = ((-1) : Int32)) (B_X7_attemptAt_27L  p1 (x46.toNatClampNeg) 0 9 (x46.toNatClampNeg) S49) (B_X7_attemptAt_27L  p1 (x46.toNatClampNeg) 1 9 (x46.toNatClampNeg) S49))))
set_option maxHeartbeats 4000000 in
set_option maxRecDepth 100000 in
theorem c_X7_attemptAt (l : Launch) (D : va_G) (K : Nat → ClassId) (b0 : Nat) (sa : sT) (sz : Nat) (LO : List Nat) (fO : Nat → va_E) (adO : Nat → Nat → Nat) (nO : Nat × Nat) (S0 : fS) (hw : PW K adO (isn nO) S0 LO fO) (hn : S0.2.2.1 = nO) (hprobe : 0 < nO.1) (p1 : Int32) (v : Int32) (S1 : fS) (h : F_X7_attemptAt p1 S0 = some (v, S1)) : Met l yX7_attemptAt (.code yX7_attemptAt cX7_attemptAt 6 (some .int) :: gt) { frames := 76, cells := 2, slots := 72, locals := 2806 } (va_Pc [.ref (adO 40 0), .int p1] (hPre D K b0 sa sz LO fO)) (hQ D K b0 (fun v9 u9 => ∃ (ad2 : Nat → Nat → Nat) (L2 : List Nat) (f2 : Nat → va_E), v9 = some (.int v) ∧ u9 = lU L2 f2 ∧ PW K ad2 (isn S1.2.2.1) S1 L2 f2 ∧ Gr (fun _ => False) (isn nO) adO LO fO (isn S1.2.2.1) ad2 L2 f2)) 2 72 (fun q => b0 ≤ q) := by
  refine t_of (own := RX7) (by decide) rfl ?_ (Nat.le_of_ble_eq_true rfl)
  intro p e s m below meth c ls C w hsz hr hlk hnm hl
  have hx := C.1
  have hb := C.2.1
  have J151L : ∀ (a2 : Nat) (a4 : Int32) (t0 : Int32) (t1 : Int32) (t2 : Nat) (S : fS) (ha2 : a2 < 200) (ht2 : t2 < 200), B_X7_attemptAt_151L  a2 a4 t0 t1 t2 S = some (v, S1) → GwG D K b0 sa nO adO LO fO (fun _ => True) p l e { frames := 76, cells := 2, slots := 72, locals := 2806 } s m [.ref (adO 40 0), .int p1].toArray below meth c 6 (MQ below (hQ D K b0 (fun v9 u9 => ∃ (ad2 : Nat → Nat → Nat) (L2 : List Nat) (f2 : Nat → va_E), v9 = some (.int v) ∧ u9 = lU L2 f2 ∧ PW K ad2 (isn S1.2.2.1) S1 L2 f2 ∧ Gr (fun _ => False) (isn nO) adO LO fO (isn S1.2.2.1) ad2 L2 f2)) [.ref (adO 40 0), .int p1].toArray s 2 72 (fun q => b0 ≤ q)) 2 72 151 (fun ad => [(0, .ref (ad 40 0)), (2, .ref (ad 57 a2)), (4, .int a4)]) (fun ad => [.int t0, .int t1, .ref (ad 57 t2)]) S := by
    intro a2 a4 t0 t1 t2 S ha2 ht2 h
    dsimp only [B_X7_attemptAt_151L] at h
    intro ad P n L f H locs w G ls hl
    obtain ⟨hw, hn, hprobe, hP, hle, hG, -⟩ := G
    have hl : lv_has ls 6 [(0, .ref (ad 40 0)), (2, .ref (ad 57 a2)), (4, .int a4)] := hl
    obtain ⟨g1, h⟩ := gd_some h
    refine u_iast C w hw (hP _ _ (isn_f rfl rfl ht2)) rfl rfl (n := 14) rfl (vp_in_iff.mpr g1) dX7_attemptAt_151 (fun f H locs w hw hk1 => ?_)
    have hG := hG.kp hk1
    refine u_sv h hw hn (fun S2 h hw hn => ?_)
    refine lv_aload_n hx hb dX7_attemptAt_152 rfl (lv_at hl 1 rfl) ?_
    refine lv_iconst (v := 3) hx hb dX7_attemptAt_153 (by decide) ?_
    refine lv_iload hx hb dX7_attemptAt_154 (lv_at hl 2 rfl) ?_
    refine u_iast C w hw (hP _ _ (isn_f rfl rfl ha2)) rfl rfl (n := 14) rfl (vp_in_iff.mpr ⟨by decide, by decide⟩) dX7_attemptAt_156 (fun f H locs w hw hk1 => ?_)
    have hG := hG.kp hk1
    refine u_sv h hw hn (fun S3 h hw hn => ?_)
    refine lv_aload_n hx hb dX7_attemptAt_157 rfl (lv_at hl 0 rfl) ?_
    refine lv_dup hx hb dX7_attemptAt_158 rfl ?_
    refine u_geti C w hw (hP _ _ (isn_f rfl rfl (by decide))) rfl (N := 57) rfl rfl cin_7 46 (by decide) rfl gw_1202 dX7_attemptAt_159 ?_
    refine u_iv h (fun x4 h => ?_)
    refine lv_iconst (v := 1) hx hb dX7_attemptAt_162 (by decide) ?_
    refine lv_iadd hx hb dX7_attemptAt_163 ?_
    refine u_iv h (fun x5 h => ?_)
    refine u_puti C w hw (hP _ _ (isn_f rfl rfl (by decide))) rfl (N := 57) rfl rfl cin_7 tyX7 tyX7_ok nmX7 46 (by decide) rfl rfl rfl rfl gw_1202 dX7_attemptAt_164 (fun f H locs w hw hk1 => ?_)
    have hG := hG.kp hk1
    refine u_sv h hw hn (fun S6 h hw hn => ?_)
    refine lv_aload_n hx hb dX7_attemptAt_167 rfl (lv_at hl 0 rfl) ?_
    refine u_geti C w hw (hP _ _ (isn_f rfl rfl (by decide))) rfl (N := 57) rfl rfl cin_7 41 (by decide) rfl gw_1197 dX7_attemptAt_168 ?_
    refine u_iv h (fun x7 h => ?_)
    exact t_iret C hr hlk w ⟨ad, L, _, so_v h, rfl, gq_w h hw hn hP, gq_g h hn hP hle hG⟩ (by decide) (by decide) dX7_attemptAt_171
  have J80L : ∀ (a1 : Int32) (a2 : Nat) (t0 : Int32) (S : fS) (ha2 : a2 < 200), B_X7_attemptAt_80L  a1 a2 t0 S = some (v, S1) → GwG D K b0 sa nO adO LO fO (fun _ => True) p l e { frames := 76, cells := 2, slots := 72, locals := 2806 } s m [.ref (adO 40 0), .int p1].toArray below meth c 6 (MQ below (hQ D K b0 (fun v9 u9 => ∃ (ad2 : Nat → Nat → Nat) (L2 : List Nat) (f2 : Nat → va_E), v9 = some (.int v) ∧ u9 = lU L2 f2 ∧ PW K ad2 (isn S1.2.2.1) S1 L2 f2 ∧ Gr (fun _ => False) (isn nO) adO LO fO (isn S1.2.2.1) ad2 L2 f2)) [.ref (adO 40 0), .int p1].toArray s 2 72 (fun q => b0 ≤ q)) 2 72 80 (fun ad => [(0, .ref (ad 40 0)), (1, .int a1), (2, .ref (ad 57 a2))]) (fun ad => [.int t0]) S := by
    intro a1 a2 t0 S ha2 h
    dsimp only [B_X7_attemptAt_80L] at h
    intro ad P n L f H locs w G ls hl
    obtain ⟨hw, hn, hprobe, hP, hle, hG, -⟩ := G
    have hl : lv_has ls 6 [(0, .ref (ad 40 0)), (1, .int a1), (2, .ref (ad 57 a2))] := hl
    refine lv_istore (lv' := [(4, .int t0), (0, .ref (ad 40 0)), (1, .int a1), (2, .ref (ad 57 a2))]) hx hb dX7_attemptAt_80 hl (by decide) rfl (fun ls hl => ?_)
    refine lv_aload_n hx hb dX7_attemptAt_82 rfl (lv_at hl 1 rfl) ?_
    refine u_geti C w hw (hP _ _ (isn_f rfl rfl (by decide))) rfl (N := 57) rfl rfl cin_7 30 (by decide) rfl gw_1186 dX7_attemptAt_83 ?_
    refine u_iv h (fun x8 h => ?_)
    refine lv_istore (lv' := [(5, .int x8), (4, .int t0), (0, .ref (ad 40 0)), (1, .int a1), (2, .ref (ad 57 a2))]) hx hb dX7_attemptAt_86 hl (by decide) rfl (fun ls hl => ?_)
    refine lv_aload_n hx hb dX7_attemptAt_88 rfl (lv_at hl 2 rfl) ?_
    refine lv_iload_n hx hb dX7_attemptAt_89 rfl (lv_at hl 3 rfl) ?_
    obtain ⟨v9, S10, h11, h⟩ := bd_some h
    refine u_callV (n := 1) C w hw (hP _ _ (isn_f rfl rfl (by decide))) rfl rfl rfl (c_X7_grips l D K b0 sa _ L _ ad P hP S hw hn a1 v9 S10 h11) gw_1531 gw_1528 gw_1530 gs_53 gw_8 ⟨by decide, by decide, by decide +kernel⟩ rfl rfl ⟨by decide, by decide⟩ rfl hl.1 rfl (Nat.le_of_ble_eq_true rfl) dX7_attemptAt_90 ⟨Nat.le_of_ble_eq_true rfl, Nat.le_of_ble_eq_true rfl⟩ (fun v9 u H locs hp w => ?_)
    obtain ⟨f2, rfl, rfl, hw, hn, hk1⟩ := hp
    have hG := hG.kp hk1
    generalize f2 = f at w hw hG
    refine lv_aload_n hx hb dX7_attemptAt_93 rfl (lv_at hl 4 rfl) ?_
    refine lv_bipush (v := 10) hx hb dX7_attemptAt_94 (by decide) ?_
    refine lv_aload_n hx hb dX7_attemptAt_96 rfl (lv_at hl 2 rfl) ?_
    refine u_geti C w hw (hP _ _ (isn_f rfl rfl (by decide))) rfl (N := 57) rfl rfl cin_7 44 (by decide) rfl gw_1200 dX7_attemptAt_97 ?_
    refine u_iv h (fun x12 h => ?_)
    refine u_iast C w hw (hP _ _ (isn_f rfl rfl ha2)) rfl rfl (n := 14) rfl (vp_in_iff.mpr ⟨by decide, by decide⟩) dX7_attemptAt_100 (fun f H locs w hw hk1 => ?_)
    have hG := hG.kp hk1
    refine u_sv h hw hn (fun S13 h hw hn => ?_)
    refine lv_aload_n hx hb dX7_attemptAt_101 rfl (lv_at hl 4 rfl) ?_
    refine lv_bipush (v := 11) hx hb dX7_attemptAt_102 (by decide) ?_
    refine lv_aload_n hx hb dX7_attemptAt_104 rfl (lv_at hl 2 rfl) ?_
    refine u_geti C w hw (hP _ _ (isn_f rfl rfl (by decide))) rfl (N := 57) rfl rfl cin_7 45 (by decide) rfl gw_1201 dX7_attemptAt_105 ?_
    refine u_iv h (fun x14 h => ?_)
    refine u_iast C w hw (hP _ _ (isn_f rfl rfl ha2)) rfl rfl (n := 14) rfl (vp_in_iff.mpr ⟨by decide, by decide⟩) dX7_attemptAt_108 (fun f H locs w hw hk1 => ?_)
    have hG := hG.kp hk1
    refine u_sv h hw hn (fun S15 h hw hn => ?_)
    refine lv_aload_n hx hb dX7_attemptAt_109 rfl (lv_at hl 4 rfl) ?_
    refine lv_bipush (v := 12) hx hb dX7_attemptAt_110 (by decide) ?_
    refine lv_iload hx hb dX7_attemptAt_112 (lv_at hl 0 rfl) ?_
    refine u_iast C w hw (hP _ _ (isn_f rfl rfl ha2)) rfl rfl (n := 14) rfl (vp_in_iff.mpr ⟨by decide, by decide⟩) dX7_attemptAt_114 (fun f H locs w hw hk1 => ?_)
    have hG := hG.kp hk1
    refine u_sv h hw hn (fun S16 h hw hn => ?_)
    refine lv_aload_n hx hb dX7_attemptAt_115 rfl (lv_at hl 2 rfl) ?_
    refine lv_iload_n hx hb dX7_attemptAt_116 rfl (lv_at hl 3 rfl) ?_
    refine lv_iload hx hb dX7_attemptAt_117 (lv_at hl 1 rfl) ?_
    obtain ⟨v17, S18, h19, h⟩ := bd_some h
    refine u_callV (n := 2) C w hw (hP _ _ (isn_f rfl rfl (by decide))) rfl rfl rfl (c_X7_triesAt l D K b0 sa _ L _ ad P hP S16 hw hn a1 t0 v17 S18 h19) gw_1557 gw_1554 gw_1556 gs_57 gw_8 ⟨by decide, by decide, by decide +kernel⟩ rfl rfl ⟨by decide, by decide⟩ rfl hl.1 rfl (Nat.le_of_ble_eq_true rfl) dX7_attemptAt_119 ⟨Nat.le_of_ble_eq_true rfl, Nat.le_of_ble_eq_true rfl⟩ (fun v9 u H locs hp w => ?_)
    obtain ⟨f2, rfl, rfl, hw, hn, hk1⟩ := hp
    have hG := hG.kp hk1
    generalize f2 = f at w hw hG
    refine lv_aload_n hx hb dX7_attemptAt_122 rfl (lv_at hl 4 rfl) ?_
    refine lv_iconst (v := 0) hx hb dX7_attemptAt_123 (by decide) ?_
    refine lv_iload_n hx hb dX7_attemptAt_124 rfl (lv_at hl 3 rfl) ?_
    refine u_iast C w hw (hP _ _ (isn_f rfl rfl ha2)) rfl rfl (n := 14) rfl (vp_in_iff.mpr ⟨by decide, by decide⟩) dX7_attemptAt_125 (fun f H locs w hw hk1 => ?_)
    have hG := hG.kp hk1
    refine u_sv h hw hn (fun S20 h hw hn => ?_)
    refine lv_aload_n hx hb dX7_attemptAt_126 rfl (lv_at hl 4 rfl) ?_
    refine lv_iconst (v := 1) hx hb dX7_attemptAt_127 (by decide) ?_
    refine lv_aload_n hx hb dX7_attemptAt_128 rfl (lv_at hl 2 rfl) ?_
    refine u_geti C w hw (hP _ _ (isn_f rfl rfl (by decide))) rfl (N := 57) rfl rfl cin_7 41 (by decide) rfl gw_1197 dX7_attemptAt_129 ?_
    refine u_iv h (fun x21 h => ?_)
    refine u_iast C w hw (hP _ _ (isn_f rfl rfl ha2)) rfl rfl (n := 14) rfl (vp_in_iff.mpr ⟨by decide, by decide⟩) dX7_attemptAt_132 (fun f H locs w hw hk1 => ?_)
    have hG := hG.kp hk1
    refine u_sv h hw hn (fun S22 h hw hn => ?_)
    refine lv_aload_n hx hb dX7_attemptAt_133 rfl (lv_at hl 4 rfl) ?_
    refine lv_iconst (v := 2) hx hb dX7_attemptAt_134 (by decide) ?_
    refine lv_aload_n hx hb dX7_attemptAt_135 rfl (lv_at hl 2 rfl) ?_
    refine u_geti C w hw (hP _ _ (isn_f rfl rfl (by decide))) rfl (N := 57) rfl rfl cin_7 41 (by decide) rfl gw_1197 dX7_attemptAt_136 ?_
    refine u_iv h (fun x23 h => ?_)
    refine lv_iconst (v := 3) hx hb dX7_attemptAt_139 (by decide) ?_
    refine lv_icmp_ne (tgt := 150) hx hb dX7_attemptAt_140 (by decide) (fun c24 => ?_) (fun c24 => ?_)
    · have h := bb_f h c24
      refine lv_iconst (v := (-1)) hx hb dX7_attemptAt_150 (by decide) ?_
      exact J151L  a2 t0 (-1) 2 a2 S22 ha2 ha2 h ad P n L f H locs w ⟨hw, hn, hprobe, hP, hle, hG, trivial⟩ ls (lv_sub hl [2, 4, 1] rfl)
    · have h := bb_t h c24
      refine lv_aload_n hx hb dX7_attemptAt_143 rfl (lv_at hl 2 rfl) ?_
      refine u_geti C w hw (hP _ _ (isn_f rfl rfl (by decide))) rfl (N := 57) rfl rfl cin_7 42 (by decide) rfl gw_1198 dX7_attemptAt_144 ?_
      refine u_iv h (fun x25 h => ?_)
      refine lv_goto (tgt := 151) hx hb dX7_attemptAt_147 (by decide) ?_
      exact J151L  a2 t0 x25 2 a2 S22 ha2 ha2 h ad P n L f H locs w ⟨hw, hn, hprobe, hP, hle, hG, trivial⟩ ls (lv_sub hl [2, 4, 1] rfl)
  have J35L : ∀ (fu : Nat) (a1 : Int32) (a2 : Nat) (a3 : Int32) (S : fS) (ha2 : a2 < 200), lp (B_X7_attemptAt_35L ) fu (a1, a2, a3) S = some (v, S1) → GwG D K b0 sa nO adO LO fO (fun _ => True) p l e { frames := 76, cells := 2, slots := 72, locals := 2806 } s m [.ref (adO 40 0), .int p1].toArray below meth c 6 (MQ below (hQ D K b0 (fun v9 u9 => ∃ (ad2 : Nat → Nat → Nat) (L2 : List Nat) (f2 : Nat → va_E), v9 = some (.int v) ∧ u9 = lU L2 f2 ∧ PW K ad2 (isn S1.2.2.1) S1 L2 f2 ∧ Gr (fun _ => False) (isn nO) adO LO fO (isn S1.2.2.1) ad2 L2 f2)) [.ref (adO 40 0), .int p1].toArray s 2 72 (fun q => b0 ≤ q)) 2 72 35 (fun ad => [(0, .ref (ad 40 0)), (1, .int a1), (2, .ref (ad 57 a2)), (3, .int a3)]) (fun ad => []) S := by
    intro fu a1 a2 a3 S ha2 h
    refine lp_some (G := (fun q S => q.2.1 < 200 → GwG D K b0 sa nO adO LO fO (fun _ => True) p l e { frames := 76, cells := 2, slots := 72, locals := 2806 } s m [.ref (adO 40 0), .int p1].toArray below meth c 6 (MQ below (hQ D K b0 (fun v9 u9 => ∃ (ad2 : Nat → Nat → Nat) (L2 : List Nat) (f2 : Nat → va_E), v9 = some (.int v) ∧ u9 = lU L2 f2 ∧ PW K ad2 (isn S1.2.2.1) S1 L2 f2 ∧ Gr (fun _ => False) (isn nO) adO LO fO (isn S1.2.2.1) ad2 L2 f2)) [.ref (adO 40 0), .int p1].toArray s 2 72 (fun q => b0 ≤ q)) 2 72 35 (fun ad => [(0, .ref (ad 40 0)), (1, .int q.1), (2, .ref (ad 57 q.2.1)), (3, .int q.2.2)]) (fun ad => []) S)) (fun k35L hk35L q S h => ?_) fu (a1, a2, a3) S h ha2
    obtain ⟨a1, a2, a3⟩ := q
    have hk35L : ∀ (a1 : Int32) (a2 : Nat) (a3 : Int32) (S : fS) (ha2 : a2 < 200), k35L (a1, a2, a3) S = some (v, S1) → GwG D K b0 sa nO adO LO fO (fun _ => True) p l e { frames := 76, cells := 2, slots := 72, locals := 2806 } s m [.ref (adO 40 0), .int p1].toArray below meth c 6 (MQ below (hQ D K b0 (fun v9 u9 => ∃ (ad2 : Nat → Nat → Nat) (L2 : List Nat) (f2 : Nat → va_E), v9 = some (.int v) ∧ u9 = lU L2 f2 ∧ PW K ad2 (isn S1.2.2.1) S1 L2 f2 ∧ Gr (fun _ => False) (isn nO) adO LO fO (isn S1.2.2.1) ad2 L2 f2)) [.ref (adO 40 0), .int p1].toArray s 2 72 (fun q => b0 ≤ q)) 2 72 35 (fun ad => [(0, .ref (ad 40 0)), (1, .int a1), (2, .ref (ad 57 a2)), (3, .int a3)]) (fun ad => []) S := fun a1 a2 a3 S ha2 h => hk35L (a1, a2, a3) S h ha2
    intro ha2
    dsimp only [B_X7_attemptAt_35L] at h
    intro ad P n L f H locs w G ls hl
    obtain ⟨hw, hn, hprobe, hP, hle, hG, -⟩ := G
    have hl : lv_has ls 6 [(0, .ref (ad 40 0)), (1, .int a1), (2, .ref (ad 57 a2)), (3, .int a3)] := hl
    refine lv_iload_n hx hb dX7_attemptAt_35 rfl (lv_at hl 3 rfl) ?_
    refine lv_iconst (v := 5) hx hb dX7_attemptAt_36 (by decide) ?_
    refine lv_icmp_ge (tgt := 57) hx hb dX7_attemptAt_37 (by decide) (fun c26 => ?_) (fun c26 => ?_)
    · have h := bb_t h c26
      refine lv_aload_n hx hb dX7_attemptAt_57 rfl (lv_at hl 0 rfl) ?_
      refine lv_aload_n hx hb dX7_attemptAt_58 rfl (lv_at hl 0 rfl) ?_
      refine u_geti C w hw (hP _ _ (isn_f rfl rfl (by decide))) rfl (N := 57) rfl rfl cin_7 15 (by decide) rfl gw_1171 dX7_attemptAt_59 ?_
      refine u_iv h (fun x27 h => ?_)
      obtain ⟨v28, S29, h30, h⟩ := bd_some h
      refine u_callV (n := 1) C w hw (hP _ _ (isn_f rfl rfl (by decide))) rfl rfl rfl (c_X7_lotsBy l D K b0 sa _ L _ ad P hP S hw hn x27 v28 S29 h30) gw_1449 gw_1446 gw_1448 gs_43 gw_8 ⟨by decide, by decide, by decide +kernel⟩ rfl rfl ⟨by decide, by decide⟩ rfl hl.1 rfl (Nat.le_of_ble_eq_true rfl) dX7_attemptAt_62 ⟨Nat.le_of_ble_eq_true rfl, Nat.le_of_ble_eq_true rfl⟩ (fun v9 u H locs hp w => ?_)
      obtain ⟨f2, rfl, rfl, hw, hn, hk1⟩ := hp
      have hG := hG.kp hk1
      generalize f2 = f at w hw hG
      refine lv_istore_n (lv' := [(3, .int v28), (0, .ref (ad 40 0)), (1, .int a1), (2, .ref (ad 57 a2))]) hx hb dX7_attemptAt_65 rfl hl (by decide) rfl (fun ls hl => ?_)
      refine lv_iload_n hx hb dX7_attemptAt_66 rfl (lv_at hl 0 rfl) ?_
      refine lv_iconst (v := 1) hx hb dX7_attemptAt_67 (by decide) ?_
      refine lv_icmp_le (tgt := 79) hx hb dX7_attemptAt_68 (by decide) (fun c31 => ?_) (fun c31 => ?_)
      · have h := bb_t h c31
        refine lv_iconst (v := 0) hx hb dX7_attemptAt_79 (by decide) ?_
        exact J80L  a1 a2 0 S29 ha2 h ad P n L f H locs w ⟨hw, hn, hprobe, hP, hle, hG, trivial⟩ ls (lv_sub hl [1, 2, 3] rfl)
      · have h := bb_f h c31
        refine lv_aload_n hx hb dX7_attemptAt_71 rfl (lv_at hl 1 rfl) ?_
        refine lv_iload_n hx hb dX7_attemptAt_72 rfl (lv_at hl 0 rfl) ?_
        obtain ⟨v32, S33, h34, h⟩ := bd_some h
        refine u_callV (n := 1) C w hw (hP _ _ (isn_f rfl rfl (by decide))) rfl rfl rfl (c_X7_draw l D K b0 sa _ L _ ad P hP S29 hw hn v28 v32 S33 h34) gw_1552 gw_1549 gw_1551 gs_56 gw_8 ⟨by decide, by decide, by decide +kernel⟩ rfl rfl ⟨by decide, by decide⟩ rfl hl.1 rfl (Nat.le_of_ble_eq_true rfl) dX7_attemptAt_73 ⟨Nat.le_of_ble_eq_true rfl, Nat.le_of_ble_eq_true rfl⟩ (fun v9 u H locs hp w => ?_)
        obtain ⟨f2, rfl, rfl, hw, hn, hk1⟩ := hp
        have hG := hG.kp hk1
        generalize f2 = f at w hw hG
        refine lv_goto (tgt := 80) hx hb dX7_attemptAt_76 (by decide) ?_
        exact J80L  a1 a2 v32 S33 ha2 h ad P n L f H locs w ⟨hw, hn, hprobe, hP, hle, hG, trivial⟩ ls (lv_sub hl [1, 2, 3] rfl)
    · have h := bb_f h c26
      refine lv_aload_n hx hb dX7_attemptAt_40 rfl (lv_at hl 2 rfl) ?_
      refine lv_iconst (v := 4) hx hb dX7_attemptAt_41 (by decide) ?_
      refine lv_iload_n hx hb dX7_attemptAt_42 rfl (lv_at hl 3 rfl) ?_
      refine lv_iadd hx hb dX7_attemptAt_43 ?_
      refine u_iv h (fun x35 h => ?_)
      refine lv_aload_n hx hb dX7_attemptAt_44 rfl (lv_at hl 0 rfl) ?_
      refine u_getr C w hw (hP _ _ (isn_f rfl rfl (by decide))) rfl (N := 57) rfl rfl cin_7 17 (by decide) (by decide) (a2 := 45) (i2 := 0) rfl gw_1173 dX7_attemptAt_45 ?_
      refine lv_iload_n hx hb dX7_attemptAt_48 rfl (lv_at hl 3 rfl) ?_
      obtain ⟨g36, h⟩ := gd_some h
      refine u_iald C w hw (hP _ _ (isn_f rfl rfl (by decide))) rfl rfl (n := 7) rfl (vp_in_iff.mpr g36) dX7_attemptAt_49 ?_
      refine u_iv h (fun x37 h => ?_)
      obtain ⟨g38, h⟩ := gd_some h
      refine u_iast C w hw (hP _ _ (isn_f rfl rfl ha2)) rfl rfl (n := 14) rfl (vp_in_iff.mpr g38) dX7_attemptAt_50 (fun f H locs w hw hk1 => ?_)
      have hG := hG.kp hk1
      refine u_sv h hw hn (fun S39 h hw hn => ?_)
      obtain ⟨x40, ex40, h⟩ := iv_some h
      refine lv_iinc (v := x40) (lv' := [(3, .int x40), (0, .ref (ad 40 0)), (1, .int a1), (2, .ref (ad 57 a2))]) hx hb dX7_attemptAt_51 hl (k := 3) rfl ex40.symm (by decide) rfl (fun ls hl => ?_)
      refine lv_goto (tgt := 35) hx hb dX7_attemptAt_54 (by decide) ?_
      exact hk35L a1 a2 x40 S39 ha2 h ad P n L f H locs w ⟨hw, hn, hprobe, hP, hle, hG, trivial⟩ ls (lv_sub hl [1, 2, 3, 0] rfl)
  have J27L : ∀ (a1 : Int32) (a2 : Nat) (t0 : Int32) (t1 : Int32) (t2 : Nat) (S : fS) (ha2 : a2 < 200) (ht2 : t2 < 200), B_X7_attemptAt_27L  a1 a2 t0 t1 t2 S = some (v, S1) → GwG D K b0 sa nO adO LO fO (fun _ => True) p l e { frames := 76, cells := 2, slots := 72, locals := 2806 } s m [.ref (adO 40 0), .int p1].toArray below meth c 6 (MQ below (hQ D K b0 (fun v9 u9 => ∃ (ad2 : Nat → Nat → Nat) (L2 : List Nat) (f2 : Nat → va_E), v9 = some (.int v) ∧ u9 = lU L2 f2 ∧ PW K ad2 (isn S1.2.2.1) S1 L2 f2 ∧ Gr (fun _ => False) (isn nO) adO LO fO (isn S1.2.2.1) ad2 L2 f2)) [.ref (adO 40 0), .int p1].toArray s 2 72 (fun q => b0 ≤ q)) 2 72 27 (fun ad => [(0, .ref (ad 40 0)), (1, .int a1), (2, .ref (ad 57 a2))]) (fun ad => [.int t0, .int t1, .ref (ad 57 t2)]) S := by
    intro a1 a2 t0 t1 t2 S ha2 ht2 h
    dsimp only [B_X7_attemptAt_27L] at h
    intro ad P n L f H locs w G ls hl
    obtain ⟨hw, hn, hprobe, hP, hle, hG, -⟩ := G
    have hl : lv_has ls 6 [(0, .ref (ad 40 0)), (1, .int a1), (2, .ref (ad 57 a2))] := hl
    obtain ⟨g41, h⟩ := gd_some h
    refine u_iast C w hw (hP _ _ (isn_f rfl rfl ht2)) rfl rfl (n := 14) rfl (vp_in_iff.mpr g41) dX7_attemptAt_27 (fun f H locs w hw hk1 => ?_)
    have hG := hG.kp hk1
    refine u_sv h hw hn (fun S42 h hw hn => ?_)
    refine lv_aload_n hx hb dX7_attemptAt_28 rfl (lv_at hl 0 rfl) ?_
    refine lv_iconst (v := 1) hx hb dX7_attemptAt_29 (by decide) ?_
    obtain ⟨v43, S44, h45, h⟩ := bd_some h
    refine u_callV (n := 1) C w hw (hP _ _ (isn_f rfl rfl (by decide))) rfl rfl rfl (c_X7_namesOf l D K b0 sa _ L _ ad P hP S42 hw hn 1 v43 S44 h45) gw_1445 gw_1442 gw_1444 gs_42 gw_8 ⟨by decide, by decide, by decide +kernel⟩ rfl rfl ⟨by decide, by decide⟩ rfl hl.1 rfl (Nat.le_of_ble_eq_true rfl) dX7_attemptAt_30 ⟨Nat.le_of_ble_eq_true rfl, Nat.le_of_ble_eq_true rfl⟩ (fun v9 u H locs hp w => ?_)
    obtain ⟨f2, rfl, rfl, hw, hn, hk1⟩ := hp
    have hG := hG.kp hk1
    generalize f2 = f at w hw hG
    refine lv_iconst (v := 0) hx hb dX7_attemptAt_33 (by decide) ?_
    refine lv_istore_n (lv' := [(3, .int 0), (0, .ref (ad 40 0)), (1, .int a1), (2, .ref (ad 57 a2))]) hx hb dX7_attemptAt_34 rfl hl (by decide) rfl (fun ls hl => ?_)
    exact J35L  fuel a1 a2 0 S44 ha2 h ad P n L f H locs w ⟨hw, hn, hprobe, hP, hle, hG, trivial⟩ ls (lv_sub hl [1, 2, 3, 0] rfl)
  dsimp only [F_X7_attemptAt] at h
  obtain ⟨H, eH⟩ : ∃ z, z = s.heap := ⟨_, rfl⟩
  obtain ⟨locs, el⟩ : ∃ z : List Loc, z = [] := ⟨_, rfl⟩
  rw [← eH, ← el] at w ⊢
  obtain ⟨ad, P, n, L, f, w, hw, hn, hprobe, hP, hle, hG, hl⟩ : ∃ (ad2 : Nat → Nat → Nat) (P2 : Nat → Nat → Prop) (n2 : Nat × Nat) (L2 : List Nat) (f2 : Nat → va_E), Wh D K b0 sa s H locs L2 f2 ∧ PW K ad2 P2 S0 L2 f2 ∧ S0.2.2.1 = n2 ∧ 0 < n2.1 ∧ (∀ a i : Nat, isn n2 a i → P2 a i) ∧ (∀ a i : Nat, isn nO a i → isn n2 a i) ∧ Gr (fun _ => False) (isn nO) adO LO fO P2 ad2 L2 f2 ∧ lv_has ls 6 [(0, .ref (ad2 40 0)), (1, .int p1)] := ⟨adO, isn nO, nO, LO, fO, w, hw, hn, hprobe, fun _ _ h => h, fun _ _ h => h, Gr.rf, hl⟩
  refine lv_aload_n hx hb dX7_attemptAt_0 rfl (lv_at hl 0 rfl) ?_
  refine u_getr C w hw (hP _ _ (isn_f rfl rfl (by decide))) rfl (N := 57) rfl rfl cin_7 47 (by decide) (by decide) (a2 := 56) (i2 := 0) rfl gw_1203 dX7_attemptAt_1 ?_
  refine lv_aload_n hx hb dX7_attemptAt_4 rfl (lv_at hl 0 rfl) ?_
  refine u_geti C w hw (hP _ _ (isn_f rfl rfl (by decide))) rfl (N := 57) rfl rfl cin_7 46 (by decide) rfl gw_1202 dX7_attemptAt_5 ?_
  refine u_iv h (fun x46 h => ?_)
  obtain ⟨g47, h⟩ := gd_some h
  refine u_aald C w hw (hP _ _ (isn_f rfl rfl (by decide))) rfl rfl rfl (n := 200) rfl (vp_in_iff.mpr g47) (a2 := 57) (i2 := (x46.toNatClampNeg)) (by exact congrArg (Prod.mk _) (Nat.zero_add _)) dX7_attemptAt_8 ?_
  refine lv_astore_n (lv' := [(2, .ref (ad 57 (x46.toNatClampNeg))), (0, .ref (ad 40 0)), (1, .int p1)]) hx hb dX7_attemptAt_9 rfl hl (by decide) rfl (fun ls hl => ?_)
  refine lv_aload_n hx hb dX7_attemptAt_10 rfl (lv_at hl 0 rfl) ?_
  refine lv_bipush (v := 9) hx hb dX7_attemptAt_11 (by decide) ?_
  refine lv_aload_n hx hb dX7_attemptAt_13 rfl (lv_at hl 1 rfl) ?_
  refine lv_iconst (v := 0) hx hb dX7_attemptAt_14 (by decide) ?_
  obtain ⟨v48, S49, h50, h⟩ := bd_some h
  refine u_callV (n := 1) C w hw (hP _ _ (isn_f rfl rfl (by decide))) rfl rfl rfl (c_X7_canNow l D K b0 sa _ L f ad n S0 (hw.mono hP) hn hprobe 0 v48 S49 h50) gw_1523 gw_1520 gw_1522 gs_51 gw_8 ⟨by decide, by decide, by decide +kernel⟩ rfl rfl ⟨by decide, by decide⟩ rfl hl.1 rfl (Nat.le_of_ble_eq_true rfl) dX7_attemptAt_15 ⟨Nat.le_of_ble_eq_true rfl, Nat.le_of_ble_eq_true rfl⟩ (fun v9 u H locs hp w => ?_)
  obtain ⟨ad2, L2, f2, rfl, rfl, hw2, hG2⟩ := hp
  obtain ⟨ad, P, n, L, f, w, hw, hn, hprobe, hP, hle, hG, hl, es0⟩ : ∃ (ad3 : Nat → Nat → Nat) (P3 : Nat → Nat → Prop) (n3 : Nat × Nat) (L3 : List Nat) (f3 : Nat → va_E), Wh D K b0 sa s H locs L3 f3 ∧ PW K ad3 P3 S49 L3 f3 ∧ S49.2.2.1 = n3 ∧ 0 < n3.1 ∧ (∀ a i : Nat, isn n3 a i → P3 a i) ∧ (∀ a i : Nat, isn nO a i → isn n3 a i) ∧ Gr (fun _ => False) (isn nO) adO LO fO P3 ad3 L3 f3 ∧ lv_has ls 6 [(2, .ref (ad3 57 (x46.toNatClampNeg))), (0, .ref (ad3 40 0)), (1, .int p1)] ∧ ad3 57 (x46.toNatClampNeg) = ad 57 (x46.toNatClampNeg) := ⟨ad2, isn S49.2.2.1, S49.2.2.1, L2, f2, w, hw2, rfl, gr_pos hG2 hprobe, fun _ _ h => h, fun a i h => (hG2.1 a i (hle a i h)).1, (hG.sub hP hle).tr hG2 (fun _ _ h => h), (by rw [(hG2.1 57 (x46.toNatClampNeg) (isn_f rfl rfl (ib_lt g47))).2, (hG2.1 40 0 (isn_f rfl rfl (by decide))).2]; exact hl), (hG2.1 57 (x46.toNatClampNeg) (isn_f rfl rfl (ib_lt g47))).2⟩
  rw [← es0]
  refine lv_iconst (v := (-1)) hx hb dX7_attemptAt_18 (by decide) ?_
  refine lv_icmp_ne (tgt := 26) hx hb dX7_attemptAt_19 (by decide) (fun c51 => ?_) (fun c51 => ?_)
  · have h := bb_f h c51
    refine lv_iconst (v := 1) hx hb dX7_attemptAt_26 (by decide) ?_
    exact J27L  p1 (x46.toNatClampNeg) 1 9 (x46.toNatClampNeg) S49 (ib_lt g47) (ib_lt g47) h ad P n L f H locs w ⟨hw, hn, hprobe, hP, hle, hG, trivial⟩ ls (lv_sub hl [1, 2, 0] rfl)
  · have h := bb_t h c51
    refine lv_iconst (v := 0) hx hb dX7_attemptAt_22 (by decide) ?_
    refine lv_goto (tgt := 27) hx hb dX7_attemptAt_23 (by decide) ?_
    exact J27L  p1 (x46.toNatClampNeg) 0 9 (x46.toNatClampNeg) S49 (ib_lt g47) (ib_lt g47) h ad P n L f H locs w ⟨hw, hn, hprobe, hP, hle, hG, trivial⟩ ls (lv_sub hl [1, 2, 0] rfl)
theorem dX7_attempt_0 : decode cX7_attempt 0 = .ok (.aload_n 0, 1) := by decide +kernel
theorem dX7_attempt_1 : decode cX7_attempt 1 = .ok (.iconst 0, 1) := by decide +kernel
theorem dX7_attempt_2 : decode cX7_attempt 2 = .ok (.putfield 97, 3) := by decide +kernel
theorem dX7_attempt_5 : decode cX7_attempt 5 = .ok (.aload_n 0, 1) := by decide +kernel
theorem dX7_attempt_6 : decode cX7_attempt 6 = .ok (.iload_n 1, 1) := by decide +kernel
theorem dX7_attempt_7 : decode cX7_attempt 7 = .ok (.invokestatic 253, 3) := by decide +kernel
theorem dX7_attempt_10 : decode cX7_attempt 10 = .ok (.ifCond .ne 7, 3) := by decide +kernel
theorem dX7_attempt_13 : decode cX7_attempt 13 = .ok (.iconst 1, 1) := by decide +kernel
theorem dX7_attempt_14 : decode cX7_attempt 14 = .ok (.goto 4, 3) := by decide +kernel
theorem dX7_attempt_17 : decode cX7_attempt 17 = .ok (.iconst 0, 1) := by decide +kernel
theorem dX7_attempt_18 : decode cX7_attempt 18 = .ok (.iconst 1, 1) := by decide +kernel
theorem dX7_attempt_19 : decode cX7_attempt 19 = .ok (.invokevirtual 206, 3) := by decide +kernel
theorem dX7_attempt_22 : decode cX7_attempt 22 = .ok (.ifCond .eq 5, 3) := by decide +kernel
theorem dX7_attempt_25 : decode cX7_attempt 25 = .ok (.iconst 0, 1) := by decide +kernel
theorem dX7_attempt_26 : decode cX7_attempt 26 = .ok (.ireturn, 1) := by decide +kernel
theorem dX7_attempt_27 : decode cX7_attempt 27 = .ok (.aload_n 0, 1) := by decide +kernel
theorem dX7_attempt_28 : decode cX7_attempt 28 = .ok (.getfield 313, 3) := by decide +kernel
theorem dX7_attempt_31 : decode cX7_attempt 31 = .ok (.sipush 200, 3) := by decide +kernel
theorem dX7_attempt_34 : decode cX7_attempt 34 = .ok (.if_icmp .ne 7, 3) := by decide +kernel
theorem dX7_attempt_37 : decode cX7_attempt 37 = .ok (.iconst (-1), 1) := by decide +kernel
theorem dX7_attempt_38 : decode cX7_attempt 38 = .ok (.goto 8, 3) := by decide +kernel
theorem dX7_attempt_41 : decode cX7_attempt 41 = .ok (.aload_n 0, 1) := by decide +kernel
theorem dX7_attempt_42 : decode cX7_attempt 42 = .ok (.iload_n 1, 1) := by decide +kernel
theorem dX7_attempt_43 : decode cX7_attempt 43 = .ok (.invokevirtual 326, 3) := by decide +kernel
theorem dX7_attempt_46 : decode cX7_attempt 46 = .ok (.ireturn, 1) := by decide +kernel
noncomputable def B_X7_attempt_18 (a1 : Int32) (t0 : Int32) (S : fS) : Option (Int32 × fS) := bd (F_X7_bad t0 1 S) (fun v1 S2 => bb (v1 = (0 : Int32)) (iv (ge S2 40 0 46) (fun x5 => bb (x5 = (200 : Int32)) (some ((-1), S2)) (bd (F_X7_attemptAt a1 S2) (fun v7 S8 => some (v7, S8))))) (some (0, S2)))
noncomputable def F_X7_attempt (p1 : Int32) (S0 : fS) : Option (Int32 × fS) := sv (pu S0 40 0 0 0) (fun S10 => bd (F_X7_isCell p1 S10) (fun v11 S12 => bb (v11 = (0 : Int32)) (B_X7_attempt_18  p1 1 S12) (B_X7_attempt_18  p1 0 S12)))
set_option maxHeartbeats 4000000 in
set_option maxRecDepth 100000 in
theorem c_X7_attempt (l : Launch) (D : va_G) (K : Nat → ClassId) (b0 : Nat) (sa : sT) (sz : Nat) (LO : List Nat) (fO : Nat → va_E) (adO : Nat → Nat → Nat) (nO : Nat × Nat) (S0 : fS) (hw : PW K adO (isn nO) S0 LO fO) (hn : S0.2.2.1 = nO) (hprobe : 0 < nO.1) (p1 : Int32) (v : Int32) (S1 : fS) (h : F_X7_attempt p1 S0 = some (v, S1)) : Met l yX7_attempt (.code yX7_attempt cX7_attempt 2 (some .int) :: gt) { frames := 77, cells := 2, slots := 72, locals := 2831 } (va_Pc [.ref (adO 40 0), .int p1] (hPre D K b0 sa sz LO fO)) (hQ D K b0 (fun v9 u9 => ∃ (ad2 : Nat → Nat → Nat) (L2 : List Nat) (f2 : Nat → va_E), v9 = some (.int v) ∧ u9 = lU L2 f2 ∧ PW K ad2 (isn S1.2.2.1) S1 L2 f2 ∧ Gr (fun _ => False) (isn nO) adO LO fO (isn S1.2.2.1) ad2 L2 f2)) 2 72 (fun q => b0 ≤ q) := by
  refine t_of (own := RX7) (by decide) rfl ?_ (Nat.le_of_ble_eq_true rfl)
  intro p e s m below meth c ls C w hsz hr hlk hnm hl
  have hx := C.1
  have hb := C.2.1
  have J18 : ∀ (a1 : Int32) (t0 : Int32) (S : fS), B_X7_attempt_18  a1 t0 S = some (v, S1) → GwG D K b0 sa nO adO LO fO (fun _ => True) p l e { frames := 77, cells := 2, slots := 72, locals := 2831 } s m [.ref (adO 40 0), .int p1].toArray below meth c 2 (MQ below (hQ D K b0 (fun v9 u9 => ∃ (ad2 : Nat → Nat → Nat) (L2 : List Nat) (f2 : Nat → va_E), v9 = some (.int v) ∧ u9 = lU L2 f2 ∧ PW K ad2 (isn S1.2.2.1) S1 L2 f2 ∧ Gr (fun _ => False) (isn nO) adO LO fO (isn S1.2.2.1) ad2 L2 f2)) [.ref (adO 40 0), .int p1].toArray s 2 72 (fun q => b0 ≤ q)) 0 0 18 (fun ad => [(0, .ref (ad 40 0)), (1, .int a1)]) (fun ad => [.int t0, .ref (ad 40 0)]) S := by
    intro a1 t0 S h
    dsimp only [B_X7_attempt_18] at h
    intro ad P n L f H locs w G ls hl
    obtain ⟨hw, hn, hprobe, hP, hle, hG, -⟩ := G
    have hl : lv_has ls 2 [(0, .ref (ad 40 0)), (1, .int a1)] := hl
    refine lv_iconst (v := 1) hx hb dX7_attempt_18 (by decide) ?_
    obtain ⟨v1, S2, h3, h⟩ := bd_some h
    refine u_callV (n := 2) C w hw (hP _ _ (isn_f rfl rfl (by decide))) rfl rfl rfl (c_X7_bad l D K b0 sa _ L _ ad P hP S hw hn t0 1 v1 S2 h3) gw_1347 gw_1344 gw_1346 gs_22 gw_8 ⟨by decide, by decide, by decide +kernel⟩ rfl rfl ⟨by decide, by decide⟩ rfl hl.1 rfl (Nat.le_of_ble_eq_true rfl) dX7_attempt_19 ⟨Nat.le_of_ble_eq_true rfl, Nat.le_of_ble_eq_true rfl⟩ (fun v9 u H locs hp w => ?_)
    obtain ⟨f2, rfl, rfl, hw, hn, hk1⟩ := hp
    have hG := hG.kp hk1
    generalize f2 = f at w hw hG
    refine lv_if_eq (tgt := 27) hx hb dX7_attempt_22 (by decide) (fun c4 => ?_) (fun c4 => ?_)
    · have h := bb_t h c4
      refine lv_aload_n hx hb dX7_attempt_27 rfl (lv_at hl 0 rfl) ?_
      refine u_geti C w hw (hP _ _ (isn_f rfl rfl (by decide))) rfl (N := 57) rfl rfl cin_7 46 (by decide) rfl gw_1202 dX7_attempt_28 ?_
      refine u_iv h (fun x5 h => ?_)
      refine lv_sipush (v := 200) hx hb dX7_attempt_31 (by decide) ?_
      refine lv_icmp_ne (tgt := 41) hx hb dX7_attempt_34 (by decide) (fun c6 => ?_) (fun c6 => ?_)
      · have h := bb_f h c6
        refine lv_aload_n hx hb dX7_attempt_41 rfl (lv_at hl 0 rfl) ?_
        refine lv_iload_n hx hb dX7_attempt_42 rfl (lv_at hl 1 rfl) ?_
        obtain ⟨v7, S8, h9, h⟩ := bd_some h
        refine u_callV (n := 1) C w hw (hP _ _ (isn_f rfl rfl (by decide))) rfl rfl rfl (c_X7_attemptAt l D K b0 sa _ L f ad n S2 (hw.mono hP) hn hprobe a1 v7 S8 h9) gw_1519 gw_1516 gw_1518 gs_50 gw_8 ⟨by decide, by decide, by decide +kernel⟩ rfl rfl ⟨by decide, by decide⟩ rfl hl.1 rfl (Nat.le_of_ble_eq_true rfl) dX7_attempt_43 ⟨Nat.le_of_ble_eq_true rfl, Nat.le_of_ble_eq_true rfl⟩ (fun v9 u H locs hp w => ?_)
        obtain ⟨ad2, L2, f2, rfl, rfl, hw2, hG2⟩ := hp
        obtain ⟨ad, P, n, L, f, w, hw, hn, hprobe, hP, hle, hG, hl⟩ : ∃ (ad3 : Nat → Nat → Nat) (P3 : Nat → Nat → Prop) (n3 : Nat × Nat) (L3 : List Nat) (f3 : Nat → va_E), Wh D K b0 sa s H locs L3 f3 ∧ PW K ad3 P3 S8 L3 f3 ∧ S8.2.2.1 = n3 ∧ 0 < n3.1 ∧ (∀ a i : Nat, isn n3 a i → P3 a i) ∧ (∀ a i : Nat, isn nO a i → isn n3 a i) ∧ Gr (fun _ => False) (isn nO) adO LO fO P3 ad3 L3 f3 ∧ lv_has ls 2 [(0, .ref (ad3 40 0)), (1, .int a1)] := ⟨ad2, isn S8.2.2.1, S8.2.2.1, L2, f2, w, hw2, rfl, gr_pos hG2 hprobe, fun _ _ h => h, fun a i h => (hG2.1 a i (hle a i h)).1, (hG.sub hP hle).tr hG2 (fun _ _ h => h), (by rw [(hG2.1 40 0 (isn_f rfl rfl (by decide))).2]; exact hl)⟩
        exact t_iret C hr hlk w ⟨ad, L, _, so_v h, rfl, gq_w h hw hn hP, gq_g h hn hP hle hG⟩ (by decide) (by decide) dX7_attempt_46
      · have h := bb_t h c6
        refine lv_iconst (v := (-1)) hx hb dX7_attempt_37 (by decide) ?_
        refine lv_goto (tgt := 46) hx hb dX7_attempt_38 (by decide) ?_
        exact t_iret C hr hlk w ⟨ad, L, _, so_v h, rfl, gq_w h hw hn hP, gq_g h hn hP hle hG⟩ (by decide) (by decide) dX7_attempt_46
    · have h := bb_f h c4
      refine lv_iconst (v := 0) hx hb dX7_attempt_25 (by decide) ?_
      exact t_iret C hr hlk w ⟨ad, L, _, so_v h, rfl, gq_w h hw hn hP, gq_g h hn hP hle hG⟩ (by decide) (by decide) dX7_attempt_26
  dsimp only [F_X7_attempt] at h
  obtain ⟨H, eH⟩ : ∃ z, z = s.heap := ⟨_, rfl⟩
  obtain ⟨locs, el⟩ : ∃ z : List Loc, z = [] := ⟨_, rfl⟩
  rw [← eH, ← el] at w ⊢
  obtain ⟨ad, P, n, L, f, w, hw, hn, hprobe, hP, hle, hG, hl⟩ : ∃ (ad2 : Nat → Nat → Nat) (P2 : Nat → Nat → Prop) (n2 : Nat × Nat) (L2 : List Nat) (f2 : Nat → va_E), Wh D K b0 sa s H locs L2 f2 ∧ PW K ad2 P2 S0 L2 f2 ∧ S0.2.2.1 = n2 ∧ 0 < n2.1 ∧ (∀ a i : Nat, isn n2 a i → P2 a i) ∧ (∀ a i : Nat, isn nO a i → isn n2 a i) ∧ Gr (fun _ => False) (isn nO) adO LO fO P2 ad2 L2 f2 ∧ lv_has ls 2 [(0, .ref (ad2 40 0)), (1, .int p1)] := ⟨adO, isn nO, nO, LO, fO, w, hw, hn, hprobe, fun _ _ h => h, fun _ _ h => h, Gr.rf, hl⟩
  refine lv_aload_n hx hb dX7_attempt_0 rfl (lv_at hl 0 rfl) ?_
  refine lv_iconst (v := 0) hx hb dX7_attempt_1 (by decide) ?_
  refine u_puti C w hw (hP _ _ (isn_f rfl rfl (by decide))) rfl (N := 57) rfl rfl cin_7 tyX7 tyX7_ok nmX7 0 (by decide) rfl rfl rfl rfl gw_1156 dX7_attempt_2 (fun f H locs w hw hk1 => ?_)
  have hG := hG.kp hk1
  refine u_sv h hw hn (fun S10 h hw hn => ?_)
  refine lv_aload_n hx hb dX7_attempt_5 rfl (lv_at hl 0 rfl) ?_
  refine lv_iload_n hx hb dX7_attempt_6 rfl (lv_at hl 1 rfl) ?_
  obtain ⟨v11, S12, h13, h⟩ := bd_some h
  refine t_callS (n := 1) C w (c_X7_isCell l D K b0 sa _ L _ ad P hP S10 hw hn p1 v11 S12 h13) gw_1467 gw_1465 gw_1466 gw_8 ⟨by decide, by decide, by decide +kernel⟩ rfl rfl ⟨by decide, by decide⟩ rfl hl.1 rfl (Nat.le_of_ble_eq_true rfl) dX7_attempt_7 ⟨Nat.le_of_ble_eq_true rfl, Nat.le_of_ble_eq_true rfl⟩ (fun v9 u H locs hp w => ?_)
  obtain ⟨f2, rfl, rfl, hw, hn, hk1⟩ := hp
  have hG := hG.kp hk1
  generalize f2 = f at w hw hG
  refine lv_if_ne (tgt := 17) hx hb dX7_attempt_10 (by decide) (fun c14 => ?_) (fun c14 => ?_)
  · have h := bb_f h c14
    refine lv_iconst (v := 0) hx hb dX7_attempt_17 (by decide) ?_
    exact J18  p1 0 S12 h ad P n L f H locs w ⟨hw, hn, hprobe, hP, hle, hG, trivial⟩ ls (lv_sub hl [0, 1] rfl)
  · have h := bb_t h c14
    refine lv_iconst (v := 1) hx hb dX7_attempt_13 (by decide) ?_
    refine lv_goto (tgt := 18) hx hb dX7_attempt_14 (by decide) ?_
    exact J18  p1 1 S12 h ad P n L f H locs w ⟨hw, hn, hprobe, hP, hle, hG, trivial⟩ ls (lv_sub hl [0, 1] rfl)
theorem dX7_play_0 : decode cX7_play 0 = .ok (.aload_n 0, 1) := by decide +kernel
theorem dX7_play_1 : decode cX7_play 1 = .ok (.iconst 0, 1) := by decide +kernel
theorem dX7_play_2 : decode cX7_play 2 = .ok (.putfield 97, 3) := by decide +kernel
theorem dX7_play_5 : decode cX7_play 5 = .ok (.aload_n 0, 1) := by decide +kernel
theorem dX7_play_6 : decode cX7_play 6 = .ok (.aload_n 0, 1) := by decide +kernel
theorem dX7_play_7 : decode cX7_play 7 = .ok (.iload_n 1, 1) := by decide +kernel
theorem dX7_play_8 : decode cX7_play 8 = .ok (.invokevirtual 333, 3) := by decide +kernel
theorem dX7_play_11 : decode cX7_play 11 = .ok (.ifCond .ne 7, 3) := by decide +kernel
theorem dX7_play_14 : decode cX7_play 14 = .ok (.iconst 1, 1) := by decide +kernel
theorem dX7_play_15 : decode cX7_play 15 = .ok (.goto 4, 3) := by decide +kernel
theorem dX7_play_18 : decode cX7_play 18 = .ok (.iconst 0, 1) := by decide +kernel
theorem dX7_play_19 : decode cX7_play 19 = .ok (.iconst 1, 1) := by decide +kernel
theorem dX7_play_20 : decode cX7_play 20 = .ok (.invokevirtual 206, 3) := by decide +kernel
theorem dX7_play_23 : decode cX7_play 23 = .ok (.ifCond .ne 23, 3) := by decide +kernel
theorem dX7_play_26 : decode cX7_play 26 = .ok (.aload_n 0, 1) := by decide +kernel
theorem dX7_play_27 : decode cX7_play 27 = .ok (.iload_n 2, 1) := by decide +kernel
theorem dX7_play_28 : decode cX7_play 28 = .ok (.invokestatic 253, 3) := by decide +kernel
theorem dX7_play_31 : decode cX7_play 31 = .ok (.ifCond .ne 7, 3) := by decide +kernel
theorem dX7_play_34 : decode cX7_play 34 = .ok (.iconst 1, 1) := by decide +kernel
theorem dX7_play_35 : decode cX7_play 35 = .ok (.goto 4, 3) := by decide +kernel
theorem dX7_play_38 : decode cX7_play 38 = .ok (.iconst 0, 1) := by decide +kernel
theorem dX7_play_39 : decode cX7_play 39 = .ok (.iconst 2, 1) := by decide +kernel
theorem dX7_play_40 : decode cX7_play 40 = .ok (.invokevirtual 206, 3) := by decide +kernel
theorem dX7_play_43 : decode cX7_play 43 = .ok (.ifCond .eq 5, 3) := by decide +kernel
theorem dX7_play_46 : decode cX7_play 46 = .ok (.iconst 0, 1) := by decide +kernel
theorem dX7_play_47 : decode cX7_play 47 = .ok (.ireturn, 1) := by decide +kernel
theorem dX7_play_48 : decode cX7_play 48 = .ok (.aload_n 0, 1) := by decide +kernel
theorem dX7_play_49 : decode cX7_play 49 = .ok (.getfield 313, 3) := by decide +kernel
theorem dX7_play_52 : decode cX7_play 52 = .ok (.sipush 200, 3) := by decide +kernel
theorem dX7_play_55 : decode cX7_play 55 = .ok (.if_icmp .ne 5, 3) := by decide +kernel
theorem dX7_play_58 : decode cX7_play 58 = .ok (.iconst (-1), 1) := by decide +kernel
theorem dX7_play_59 : decode cX7_play 59 = .ok (.ireturn, 1) := by decide +kernel
theorem dX7_play_60 : decode cX7_play 60 = .ok (.aload_n 0, 1) := by decide +kernel
theorem dX7_play_61 : decode cX7_play 61 = .ok (.aload_n 0, 1) := by decide +kernel
theorem dX7_play_62 : decode cX7_play 62 = .ok (.iload_n 1, 1) := by decide +kernel
theorem dX7_play_63 : decode cX7_play 63 = .ok (.invokevirtual 336, 3) := by decide +kernel
theorem dX7_play_66 : decode cX7_play 66 = .ok (.invokevirtual 320, 3) := by decide +kernel
theorem dX7_play_69 : decode cX7_play 69 = .ok (.istore_n 3, 1) := by decide +kernel
theorem dX7_play_70 : decode cX7_play 70 = .ok (.iconst 0, 1) := by decide +kernel
theorem dX7_play_71 : decode cX7_play 71 = .ok (.istore 4, 2) := by decide +kernel
theorem dX7_play_73 : decode cX7_play 73 = .ok (.iload_n 3, 1) := by decide +kernel
theorem dX7_play_74 : decode cX7_play 74 = .ok (.aload_n 0, 1) := by decide +kernel
theorem dX7_play_75 : decode cX7_play 75 = .ok (.getfield 76, 3) := by decide +kernel
theorem dX7_play_78 : decode cX7_play 78 = .ok (.iload_n 1, 1) := by decide +kernel
theorem dX7_play_79 : decode cX7_play 79 = .ok (.aaload, 1) := by decide +kernel
theorem dX7_play_80 : decode cX7_play 80 = .ok (.iload 4, 2) := by decide +kernel
theorem dX7_play_82 : decode cX7_play 82 = .ok (.iaload, 1) := by decide +kernel
theorem dX7_play_83 : decode cX7_play 83 = .ok (.if_icmp .lt 21, 3) := by decide +kernel
theorem dX7_play_86 : decode cX7_play 86 = .ok (.iload_n 3, 1) := by decide +kernel
theorem dX7_play_87 : decode cX7_play 87 = .ok (.aload_n 0, 1) := by decide +kernel
theorem dX7_play_88 : decode cX7_play 88 = .ok (.getfield 76, 3) := by decide +kernel
theorem dX7_play_91 : decode cX7_play 91 = .ok (.iload_n 1, 1) := by decide +kernel
theorem dX7_play_92 : decode cX7_play 92 = .ok (.aaload, 1) := by decide +kernel
theorem dX7_play_93 : decode cX7_play 93 = .ok (.iload 4, 2) := by decide +kernel
theorem dX7_play_95 : decode cX7_play 95 = .ok (.iaload, 1) := by decide +kernel
theorem dX7_play_96 : decode cX7_play 96 = .ok (.isub, 1) := by decide +kernel
theorem dX7_play_97 : decode cX7_play 97 = .ok (.istore_n 3, 1) := by decide +kernel
theorem dX7_play_98 : decode cX7_play 98 = .ok (.iinc 4 1, 3) := by decide +kernel
theorem dX7_play_101 : decode cX7_play 101 = .ok (.goto (-28), 3) := by decide +kernel
theorem dX7_play_104 : decode cX7_play 104 = .ok (.aload_n 0, 1) := by decide +kernel
theorem dX7_play_105 : decode cX7_play 105 = .ok (.iload_n 2, 1) := by decide +kernel
theorem dX7_play_106 : decode cX7_play 106 = .ok (.iload 4, 2) := by decide +kernel
theorem dX7_play_108 : decode cX7_play 108 = .ok (.invokestatic 339, 3) := by decide +kernel
theorem dX7_play_111 : decode cX7_play 111 = .ok (.invokevirtual 326, 3) := by decide +kernel
theorem dX7_play_114 : decode cX7_play 114 = .ok (.ireturn, 1) := by decide +kernel
noncomputable def B_X7_play_73 (k73 : (Int32 × Int32 × Int32 × Int32) → fS → Option (Int32 × fS)) : (Int32 × Int32 × Int32 × Int32) → fS → Option (Int32 × fS) := fun ⟨a1, a2, a3, a4⟩ S => gd (ib a1 6) (gd (ib a4 9) (iv (ge S 59 (a1.toNatClampNeg) (a4 : Int32).toNatClampNeg) (fun x3 => bb (a3 < x3) (bd (F_X7_comesTo a2 a4 S) (fun v5 S6 => bd (F_X7_attemptAt v5 S6) (fun v8 S9 => some (v8, S9)))) (gd (ib a1 6) (gd (ib a4 9) (iv (ge S 59 (a1.toNatClampNeg) (a4 : Int32).toNatClampNeg) (fun x13 => iv (a3 - x13) (fun x14 => iv (a4 + Int32.ofInt 1) (fun x15 => k73 (a1, a2, x14, x15) S)))))))))
noncomputable def B_X7_play_39 (a1 : Int32) (a2 : Int32) (t0 : Int32) (S : fS) : Option (Int32 × fS) := bd (F_X7_bad t0 2 S) (fun v16 S17 => bb (v16 = (0 : Int32)) (iv (ge S17 40 0 46) (fun x20 => bb (x20 = (200 : Int32)) (some ((-1), S17)) (bd (F_X7_weightsOf a1 S17) (fun v22 S23 => bd (F_X7_draw v22 S23) (fun v25 S26 => lp (B_X7_play_73 ) fuel (a1, a2, v25, 0) S26))))) (some (0, S17)))
noncomputable def B_X7_play_19 (a1 : Int32) (a2 : Int32) (t0 : Int32) (S : fS) : Option (Int32 × fS) := bd (F_X7_bad t0 1 S) (fun v28 S29 => bb (v28 = (0 : Int32)) (bd (F_X7_isCell a2 S29) (fun v32 S33 => bb (v32 = (0 : Int32)) (B_X7_play_39  a1 a2 1 S33) (B_X7_play_39  a1 a2 0 S33))) (some (0, S29)))
noncomputable def F_X7_play (p1 : Int32) (p2 : Int32) (S0 : fS) : Option (Int32 × fS) := sv (pu S0 40 0 0 0) (fun S36 => bd (F_X7_isHand p1 S36) (fun v37 S38 => bb (v37 = (0 : Int32)) (B_X7_play_19  p1 p2 1 S38) (B_X7_play_19  p1 p2 0 S38)))
set_option maxHeartbeats 4000000 in
set_option maxRecDepth 100000 in
theorem c_X7_play (l : Launch) (D : va_G) (K : Nat → ClassId) (b0 : Nat) (sa : sT) (sz : Nat) (LO : List Nat) (fO : Nat → va_E) (adO : Nat → Nat → Nat) (nO : Nat × Nat) (S0 : fS) (hw : PW K adO (isn nO) S0 LO fO) (hn : S0.2.2.1 = nO) (hprobe : 0 < nO.1) (p1 : Int32) (p2 : Int32) (v : Int32) (S1 : fS) (h : F_X7_play p1 p2 S0 = some (v, S1)) : Met l yX7_play (.code yX7_play cX7_play 5 (some .int) :: gt) { frames := 77, cells := 2, slots := 72, locals := 2831 } (va_Pc [.ref (adO 40 0), .int p1, .int p2] (hPre D K b0 sa sz LO fO)) (hQ D K b0 (fun v9 u9 => ∃ (ad2 : Nat → Nat → Nat) (L2 : List Nat) (f2 : Nat → va_E), v9 = some (.int v) ∧ u9 = lU L2 f2 ∧ PW K ad2 (isn S1.2.2.1) S1 L2 f2 ∧ Gr (fun _ => False) (isn nO) adO LO fO (isn S1.2.2.1) ad2 L2 f2)) 2 72 (fun q => b0 ≤ q) := by
  refine t_of (own := RX7) (by decide) rfl ?_ (Nat.le_of_ble_eq_true rfl)
  intro p e s m below meth c ls C w hsz hr hlk hnm hl
  have hx := C.1
  have hb := C.2.1
  have J73 : ∀ (fu : Nat) (a1 : Int32) (a2 : Int32) (a3 : Int32) (a4 : Int32) (S : fS), lp (B_X7_play_73 ) fu (a1, a2, a3, a4) S = some (v, S1) → GwG D K b0 sa nO adO LO fO (fun _ => True) p l e { frames := 77, cells := 2, slots := 72, locals := 2831 } s m [.ref (adO 40 0), .int p1, .int p2].toArray below meth c 5 (MQ below (hQ D K b0 (fun v9 u9 => ∃ (ad2 : Nat → Nat → Nat) (L2 : List Nat) (f2 : Nat → va_E), v9 = some (.int v) ∧ u9 = lU L2 f2 ∧ PW K ad2 (isn S1.2.2.1) S1 L2 f2 ∧ Gr (fun _ => False) (isn nO) adO LO fO (isn S1.2.2.1) ad2 L2 f2)) [.ref (adO 40 0), .int p1, .int p2].toArray s 2 72 (fun q => b0 ≤ q)) 0 0 73 (fun ad => [(0, .ref (ad 40 0)), (1, .int a1), (2, .int a2), (3, .int a3), (4, .int a4)]) (fun ad => []) S := by
    intro fu a1 a2 a3 a4 S h
    refine lp_some (G := (fun q S => GwG D K b0 sa nO adO LO fO (fun _ => True) p l e { frames := 77, cells := 2, slots := 72, locals := 2831 } s m [.ref (adO 40 0), .int p1, .int p2].toArray below meth c 5 (MQ below (hQ D K b0 (fun v9 u9 => ∃ (ad2 : Nat → Nat → Nat) (L2 : List Nat) (f2 : Nat → va_E), v9 = some (.int v) ∧ u9 = lU L2 f2 ∧ PW K ad2 (isn S1.2.2.1) S1 L2 f2 ∧ Gr (fun _ => False) (isn nO) adO LO fO (isn S1.2.2.1) ad2 L2 f2)) [.ref (adO 40 0), .int p1, .int p2].toArray s 2 72 (fun q => b0 ≤ q)) 0 0 73 (fun ad => [(0, .ref (ad 40 0)), (1, .int q.1), (2, .int q.2.1), (3, .int q.2.2.1), (4, .int q.2.2.2)]) (fun ad => []) S)) (fun k73 hk73 q S h => ?_) fu (a1, a2, a3, a4) S h
    obtain ⟨a1, a2, a3, a4⟩ := q
    have hk73 : ∀ (a1 : Int32) (a2 : Int32) (a3 : Int32) (a4 : Int32) (S : fS), k73 (a1, a2, a3, a4) S = some (v, S1) → GwG D K b0 sa nO adO LO fO (fun _ => True) p l e { frames := 77, cells := 2, slots := 72, locals := 2831 } s m [.ref (adO 40 0), .int p1, .int p2].toArray below meth c 5 (MQ below (hQ D K b0 (fun v9 u9 => ∃ (ad2 : Nat → Nat → Nat) (L2 : List Nat) (f2 : Nat → va_E), v9 = some (.int v) ∧ u9 = lU L2 f2 ∧ PW K ad2 (isn S1.2.2.1) S1 L2 f2 ∧ Gr (fun _ => False) (isn nO) adO LO fO (isn S1.2.2.1) ad2 L2 f2)) [.ref (adO 40 0), .int p1, .int p2].toArray s 2 72 (fun q => b0 ≤ q)) 0 0 73 (fun ad => [(0, .ref (ad 40 0)), (1, .int a1), (2, .int a2), (3, .int a3), (4, .int a4)]) (fun ad => []) S := fun a1 a2 a3 a4 S h => hk73 (a1, a2, a3, a4) S h
    dsimp only [B_X7_play_73] at h
    intro ad P n L f H locs w G ls hl
    obtain ⟨hw, hn, hprobe, hP, hle, hG, -⟩ := G
    have hl : lv_has ls 5 [(0, .ref (ad 40 0)), (1, .int a1), (2, .int a2), (3, .int a3), (4, .int a4)] := hl
    refine lv_iload_n hx hb dX7_play_73 rfl (lv_at hl 3 rfl) ?_
    refine lv_aload_n hx hb dX7_play_74 rfl (lv_at hl 0 rfl) ?_
    refine u_getr C w hw (hP _ _ (isn_f rfl rfl (by decide))) rfl (N := 57) rfl rfl cin_7 49 (by decide) (by decide) (a2 := 58) (i2 := 0) rfl gw_1205 dX7_play_75 ?_
    refine lv_iload_n hx hb dX7_play_78 rfl (lv_at hl 1 rfl) ?_
    obtain ⟨g1, h⟩ := gd_some h
    refine u_aald C w hw (hP _ _ (isn_f rfl rfl (by decide))) rfl rfl rfl (n := 6) rfl (vp_in_iff.mpr g1) (a2 := 59) (i2 := (a1.toNatClampNeg)) (by exact congrArg (Prod.mk _) (Nat.zero_add _)) dX7_play_79 ?_
    refine lv_iload hx hb dX7_play_80 (lv_at hl 4 rfl) ?_
    obtain ⟨g2, h⟩ := gd_some h
    refine u_iald C w hw (hP _ _ (isn_f rfl rfl (ib_lt g1))) rfl rfl (n := 9) rfl (vp_in_iff.mpr g2) dX7_play_82 ?_
    refine u_iv h (fun x3 h => ?_)
    refine lv_icmp_lt (tgt := 104) hx hb dX7_play_83 (by decide) (fun c4 => ?_) (fun c4 => ?_)
    · have h := bb_t h c4
      refine lv_aload_n hx hb dX7_play_104 rfl (lv_at hl 0 rfl) ?_
      refine lv_iload_n hx hb dX7_play_105 rfl (lv_at hl 2 rfl) ?_
      refine lv_iload hx hb dX7_play_106 (lv_at hl 4 rfl) ?_
      obtain ⟨v5, S6, h7, h⟩ := bd_some h
      refine t_callS (n := 2) C w (c_X7_comesTo l D K b0 sa _ L _ ad P hP S hw hn a2 a4 v5 S6 h7) gw_1581 gw_1579 gw_1580 gw_8 ⟨by decide, by decide, by decide +kernel⟩ rfl rfl ⟨by decide, by decide⟩ rfl hl.1 rfl (Nat.le_of_ble_eq_true rfl) dX7_play_108 ⟨Nat.le_of_ble_eq_true rfl, Nat.le_of_ble_eq_true rfl⟩ (fun v9 u H locs hp w => ?_)
      obtain ⟨f2, rfl, rfl, hw, hn, hk1⟩ := hp
      have hG := hG.kp hk1
      generalize f2 = f at w hw hG
      obtain ⟨v8, S9, h10, h⟩ := bd_some h
      refine u_callV (n := 1) C w hw (hP _ _ (isn_f rfl rfl (by decide))) rfl rfl rfl (c_X7_attemptAt l D K b0 sa _ L f ad n S6 (hw.mono hP) hn hprobe v5 v8 S9 h10) gw_1519 gw_1516 gw_1518 gs_50 gw_8 ⟨by decide, by decide, by decide +kernel⟩ rfl rfl ⟨by decide, by decide⟩ rfl hl.1 rfl (Nat.le_of_ble_eq_true rfl) dX7_play_111 ⟨Nat.le_of_ble_eq_true rfl, Nat.le_of_ble_eq_true rfl⟩ (fun v9 u H locs hp w => ?_)
      obtain ⟨ad2, L2, f2, rfl, rfl, hw2, hG2⟩ := hp
      obtain ⟨ad, P, n, L, f, w, hw, hn, hprobe, hP, hle, hG, hl⟩ : ∃ (ad3 : Nat → Nat → Nat) (P3 : Nat → Nat → Prop) (n3 : Nat × Nat) (L3 : List Nat) (f3 : Nat → va_E), Wh D K b0 sa s H locs L3 f3 ∧ PW K ad3 P3 S9 L3 f3 ∧ S9.2.2.1 = n3 ∧ 0 < n3.1 ∧ (∀ a i : Nat, isn n3 a i → P3 a i) ∧ (∀ a i : Nat, isn nO a i → isn n3 a i) ∧ Gr (fun _ => False) (isn nO) adO LO fO P3 ad3 L3 f3 ∧ lv_has ls 5 [(0, .ref (ad3 40 0)), (1, .int a1), (2, .int a2), (3, .int a3), (4, .int a4)] := ⟨ad2, isn S9.2.2.1, S9.2.2.1, L2, f2, w, hw2, rfl, gr_pos hG2 hprobe, fun _ _ h => h, fun a i h => (hG2.1 a i (hle a i h)).1, (hG.sub hP hle).tr hG2 (fun _ _ h => h), (by rw [(hG2.1 40 0 (isn_f rfl rfl (by decide))).2]; exact hl)⟩
      exact t_iret C hr hlk w ⟨ad, L, _, so_v h, rfl, gq_w h hw hn hP, gq_g h hn hP hle hG⟩ (by decide) (by decide) dX7_play_114
    · have h := bb_f h c4
      refine lv_iload_n hx hb dX7_play_86 rfl (lv_at hl 3 rfl) ?_
      refine lv_aload_n hx hb dX7_play_87 rfl (lv_at hl 0 rfl) ?_
      refine u_getr C w hw (hP _ _ (isn_f rfl rfl (by decide))) rfl (N := 57) rfl rfl cin_7 49 (by decide) (by decide) (a2 := 58) (i2 := 0) rfl gw_1205 dX7_play_88 ?_
      refine lv_iload_n hx hb dX7_play_91 rfl (lv_at hl 1 rfl) ?_
      obtain ⟨g11, h⟩ := gd_some h
      refine u_aald C w hw (hP _ _ (isn_f rfl rfl (by decide))) rfl rfl rfl (n := 6) rfl (vp_in_iff.mpr g11) (a2 := 59) (i2 := (a1.toNatClampNeg)) (by exact congrArg (Prod.mk _) (Nat.zero_add _)) dX7_play_92 ?_
      refine lv_iload hx hb dX7_play_93 (lv_at hl 4 rfl) ?_
      obtain ⟨g12, h⟩ := gd_some h
      refine u_iald C w hw (hP _ _ (isn_f rfl rfl (ib_lt g11))) rfl rfl (n := 9) rfl (vp_in_iff.mpr g12) dX7_play_95 ?_
      refine u_iv h (fun x13 h => ?_)
      refine lv_isub hx hb dX7_play_96 ?_
      refine u_iv h (fun x14 h => ?_)
      refine lv_istore_n (lv' := [(3, .int x14), (0, .ref (ad 40 0)), (1, .int a1), (2, .int a2), (4, .int a4)]) hx hb dX7_play_97 rfl hl (by decide) rfl (fun ls hl => ?_)
      obtain ⟨x15, ex15, h⟩ := iv_some h
      refine lv_iinc (v := x15) (lv' := [(4, .int x15), (3, .int x14), (0, .ref (ad 40 0)), (1, .int a1), (2, .int a2)]) hx hb dX7_play_98 hl (k := 4) rfl ex15.symm (by decide) rfl (fun ls hl => ?_)
      refine lv_goto (tgt := 73) hx hb dX7_play_101 (by decide) ?_
      exact hk73 a1 a2 x14 x15 S h ad P n L f H locs w ⟨hw, hn, hprobe, hP, hle, hG, trivial⟩ ls (lv_sub hl [2, 3, 4, 1, 0] rfl)
  have J39 : ∀ (a1 : Int32) (a2 : Int32) (t0 : Int32) (S : fS), B_X7_play_39  a1 a2 t0 S = some (v, S1) → GwG D K b0 sa nO adO LO fO (fun _ => True) p l e { frames := 77, cells := 2, slots := 72, locals := 2831 } s m [.ref (adO 40 0), .int p1, .int p2].toArray below meth c 5 (MQ below (hQ D K b0 (fun v9 u9 => ∃ (ad2 : Nat → Nat → Nat) (L2 : List Nat) (f2 : Nat → va_E), v9 = some (.int v) ∧ u9 = lU L2 f2 ∧ PW K ad2 (isn S1.2.2.1) S1 L2 f2 ∧ Gr (fun _ => False) (isn nO) adO LO fO (isn S1.2.2.1) ad2 L2 f2)) [.ref (adO 40 0), .int p1, .int p2].toArray s 2 72 (fun q => b0 ≤ q)) 0 0 39 (fun ad => [(0, .ref (ad 40 0)), (1, .int a1), (2, .int a2)]) (fun ad => [.int t0, .ref (ad 40 0)]) S := by
    intro a1 a2 t0 S h
    dsimp only [B_X7_play_39] at h
    intro ad P n L f H locs w G ls hl
    obtain ⟨hw, hn, hprobe, hP, hle, hG, -⟩ := G
    have hl : lv_has ls 5 [(0, .ref (ad 40 0)), (1, .int a1), (2, .int a2)] := hl
    refine lv_iconst (v := 2) hx hb dX7_play_39 (by decide) ?_
    obtain ⟨v16, S17, h18, h⟩ := bd_some h
    refine u_callV (n := 2) C w hw (hP _ _ (isn_f rfl rfl (by decide))) rfl rfl rfl (c_X7_bad l D K b0 sa _ L _ ad P hP S hw hn t0 2 v16 S17 h18) gw_1347 gw_1344 gw_1346 gs_22 gw_8 ⟨by decide, by decide, by decide +kernel⟩ rfl rfl ⟨by decide, by decide⟩ rfl hl.1 rfl (Nat.le_of_ble_eq_true rfl) dX7_play_40 ⟨Nat.le_of_ble_eq_true rfl, Nat.le_of_ble_eq_true rfl⟩ (fun v9 u H locs hp w => ?_)
    obtain ⟨f2, rfl, rfl, hw, hn, hk1⟩ := hp
    have hG := hG.kp hk1
    generalize f2 = f at w hw hG
    refine lv_if_eq (tgt := 48) hx hb dX7_play_43 (by decide) (fun c19 => ?_) (fun c19 => ?_)
    · have h := bb_t h c19
      refine lv_aload_n hx hb dX7_play_48 rfl (lv_at hl 0 rfl) ?_
      refine u_geti C w hw (hP _ _ (isn_f rfl rfl (by decide))) rfl (N := 57) rfl rfl cin_7 46 (by decide) rfl gw_1202 dX7_play_49 ?_
      refine u_iv h (fun x20 h => ?_)
      refine lv_sipush (v := 200) hx hb dX7_play_52 (by decide) ?_
      refine lv_icmp_ne (tgt := 60) hx hb dX7_play_55 (by decide) (fun c21 => ?_) (fun c21 => ?_)
      · have h := bb_f h c21
        refine lv_aload_n hx hb dX7_play_60 rfl (lv_at hl 0 rfl) ?_
        refine lv_aload_n hx hb dX7_play_61 rfl (lv_at hl 0 rfl) ?_
        refine lv_iload_n hx hb dX7_play_62 rfl (lv_at hl 1 rfl) ?_
        obtain ⟨v22, S23, h24, h⟩ := bd_some h
        refine u_callV (n := 1) C w hw (hP _ _ (isn_f rfl rfl (by decide))) rfl rfl rfl (c_X7_weightsOf l D K b0 sa _ L _ ad P hP S17 hw hn a1 v22 S23 h24) gw_1578 gw_1575 gw_1577 gs_59 gw_8 ⟨by decide, by decide, by decide +kernel⟩ rfl rfl ⟨by decide, by decide⟩ rfl hl.1 rfl (Nat.le_of_ble_eq_true rfl) dX7_play_63 ⟨Nat.le_of_ble_eq_true rfl, Nat.le_of_ble_eq_true rfl⟩ (fun v9 u H locs hp w => ?_)
        obtain ⟨f2, rfl, rfl, hw, hn, hk1⟩ := hp
        have hG := hG.kp hk1
        generalize f2 = f at w hw hG
        obtain ⟨v25, S26, h27, h⟩ := bd_some h
        refine u_callV (n := 1) C w hw (hP _ _ (isn_f rfl rfl (by decide))) rfl rfl rfl (c_X7_draw l D K b0 sa _ L _ ad P hP S23 hw hn v22 v25 S26 h27) gw_1552 gw_1549 gw_1551 gs_56 gw_8 ⟨by decide, by decide, by decide +kernel⟩ rfl rfl ⟨by decide, by decide⟩ rfl hl.1 rfl (Nat.le_of_ble_eq_true rfl) dX7_play_66 ⟨Nat.le_of_ble_eq_true rfl, Nat.le_of_ble_eq_true rfl⟩ (fun v9 u H locs hp w => ?_)
        obtain ⟨f2, rfl, rfl, hw, hn, hk1⟩ := hp
        have hG := hG.kp hk1
        generalize f2 = f at w hw hG
        refine lv_istore_n (lv' := [(3, .int v25), (0, .ref (ad 40 0)), (1, .int a1), (2, .int a2)]) hx hb dX7_play_69 rfl hl (by decide) rfl (fun ls hl => ?_)
        refine lv_iconst (v := 0) hx hb dX7_play_70 (by decide) ?_
        refine lv_istore (lv' := [(4, .int 0), (3, .int v25), (0, .ref (ad 40 0)), (1, .int a1), (2, .int a2)]) hx hb dX7_play_71 hl (by decide) rfl (fun ls hl => ?_)
        exact J73  fuel a1 a2 v25 0 S26 h ad P n L f H locs w ⟨hw, hn, hprobe, hP, hle, hG, trivial⟩ ls (lv_sub hl [2, 3, 4, 1, 0] rfl)
      · have h := bb_t h c21
        refine lv_iconst (v := (-1)) hx hb dX7_play_58 (by decide) ?_
        exact t_iret C hr hlk w ⟨ad, L, _, so_v h, rfl, gq_w h hw hn hP, gq_g h hn hP hle hG⟩ (by decide) (by decide) dX7_play_59
    · have h := bb_f h c19
      refine lv_iconst (v := 0) hx hb dX7_play_46 (by decide) ?_
      exact t_iret C hr hlk w ⟨ad, L, _, so_v h, rfl, gq_w h hw hn hP, gq_g h hn hP hle hG⟩ (by decide) (by decide) dX7_play_47
  have J19 : ∀ (a1 : Int32) (a2 : Int32) (t0 : Int32) (S : fS), B_X7_play_19  a1 a2 t0 S = some (v, S1) → GwG D K b0 sa nO adO LO fO (fun _ => True) p l e { frames := 77, cells := 2, slots := 72, locals := 2831 } s m [.ref (adO 40 0), .int p1, .int p2].toArray below meth c 5 (MQ below (hQ D K b0 (fun v9 u9 => ∃ (ad2 : Nat → Nat → Nat) (L2 : List Nat) (f2 : Nat → va_E), v9 = some (.int v) ∧ u9 = lU L2 f2 ∧ PW K ad2 (isn S1.2.2.1) S1 L2 f2 ∧ Gr (fun _ => False) (isn nO) adO LO fO (isn S1.2.2.1) ad2 L2 f2)) [.ref (adO 40 0), .int p1, .int p2].toArray s 2 72 (fun q => b0 ≤ q)) 0 0 19 (fun ad => [(0, .ref (ad 40 0)), (1, .int a1), (2, .int a2)]) (fun ad => [.int t0, .ref (ad 40 0)]) S := by
    intro a1 a2 t0 S h
    dsimp only [B_X7_play_19] at h
    intro ad P n L f H locs w G ls hl
    obtain ⟨hw, hn, hprobe, hP, hle, hG, -⟩ := G
    have hl : lv_has ls 5 [(0, .ref (ad 40 0)), (1, .int a1), (2, .int a2)] := hl
    refine lv_iconst (v := 1) hx hb dX7_play_19 (by decide) ?_
    obtain ⟨v28, S29, h30, h⟩ := bd_some h
    refine u_callV (n := 2) C w hw (hP _ _ (isn_f rfl rfl (by decide))) rfl rfl rfl (c_X7_bad l D K b0 sa _ L _ ad P hP S hw hn t0 1 v28 S29 h30) gw_1347 gw_1344 gw_1346 gs_22 gw_8 ⟨by decide, by decide, by decide +kernel⟩ rfl rfl ⟨by decide, by decide⟩ rfl hl.1 rfl (Nat.le_of_ble_eq_true rfl) dX7_play_20 ⟨Nat.le_of_ble_eq_true rfl, Nat.le_of_ble_eq_true rfl⟩ (fun v9 u H locs hp w => ?_)
    obtain ⟨f2, rfl, rfl, hw, hn, hk1⟩ := hp
    have hG := hG.kp hk1
    generalize f2 = f at w hw hG
    refine lv_if_ne (tgt := 46) hx hb dX7_play_23 (by decide) (fun c31 => ?_) (fun c31 => ?_)
    · have h := bb_f h c31
      refine lv_iconst (v := 0) hx hb dX7_play_46 (by decide) ?_
      exact t_iret C hr hlk w ⟨ad, L, _, so_v h, rfl, gq_w h hw hn hP, gq_g h hn hP hle hG⟩ (by decide) (by decide) dX7_play_47
    · have h := bb_t h c31
      refine lv_aload_n hx hb dX7_play_26 rfl (lv_at hl 0 rfl) ?_
      refine lv_iload_n hx hb dX7_play_27 rfl (lv_at hl 2 rfl) ?_
      obtain ⟨v32, S33, h34, h⟩ := bd_some h
      refine t_callS (n := 1) C w (c_X7_isCell l D K b0 sa _ L _ ad P hP S29 hw hn a2 v32 S33 h34) gw_1467 gw_1465 gw_1466 gw_8 ⟨by decide, by decide, by decide +kernel⟩ rfl rfl ⟨by decide, by decide⟩ rfl hl.1 rfl (Nat.le_of_ble_eq_true rfl) dX7_play_28 ⟨Nat.le_of_ble_eq_true rfl, Nat.le_of_ble_eq_true rfl⟩ (fun v9 u H locs hp w => ?_)
      obtain ⟨f2, rfl, rfl, hw, hn, hk1⟩ := hp
      have hG := hG.kp hk1
      generalize f2 = f at w hw hG
      refine lv_if_ne (tgt := 38) hx hb dX7_play_31 (by decide) (fun c35 => ?_) (fun c35 => ?_)
      · have h := bb_f h c35
        refine lv_iconst (v := 0) hx hb dX7_play_38 (by decide) ?_
        exact J39  a1 a2 0 S33 h ad P n L f H locs w ⟨hw, hn, hprobe, hP, hle, hG, trivial⟩ ls (lv_sub hl [0, 1, 2] rfl)
      · have h := bb_t h c35
        refine lv_iconst (v := 1) hx hb dX7_play_34 (by decide) ?_
        refine lv_goto (tgt := 39) hx hb dX7_play_35 (by decide) ?_
        exact J39  a1 a2 1 S33 h ad P n L f H locs w ⟨hw, hn, hprobe, hP, hle, hG, trivial⟩ ls (lv_sub hl [0, 1, 2] rfl)
  dsimp only [F_X7_play] at h
  obtain ⟨H, eH⟩ : ∃ z, z = s.heap := ⟨_, rfl⟩
  obtain ⟨locs, el⟩ : ∃ z : List Loc, z = [] := ⟨_, rfl⟩
  rw [← eH, ← el] at w ⊢
  obtain ⟨ad, P, n, L, f, w, hw, hn, hprobe, hP, hle, hG, hl⟩ : ∃ (ad2 : Nat → Nat → Nat) (P2 : Nat → Nat → Prop) (n2 : Nat × Nat) (L2 : List Nat) (f2 : Nat → va_E), Wh D K b0 sa s H locs L2 f2 ∧ PW K ad2 P2 S0 L2 f2 ∧ S0.2.2.1 = n2 ∧ 0 < n2.1 ∧ (∀ a i : Nat, isn n2 a i → P2 a i) ∧ (∀ a i : Nat, isn nO a i → isn n2 a i) ∧ Gr (fun _ => False) (isn nO) adO LO fO P2 ad2 L2 f2 ∧ lv_has ls 5 [(0, .ref (ad2 40 0)), (1, .int p1), (2, .int p2)] := ⟨adO, isn nO, nO, LO, fO, w, hw, hn, hprobe, fun _ _ h => h, fun _ _ h => h, Gr.rf, hl⟩
  refine lv_aload_n hx hb dX7_play_0 rfl (lv_at hl 0 rfl) ?_
  refine lv_iconst (v := 0) hx hb dX7_play_1 (by decide) ?_
  refine u_puti C w hw (hP _ _ (isn_f rfl rfl (by decide))) rfl (N := 57) rfl rfl cin_7 tyX7 tyX7_ok nmX7 0 (by decide) rfl rfl rfl rfl gw_1156 dX7_play_2 (fun f H locs w hw hk1 => ?_)
  have hG := hG.kp hk1
  refine u_sv h hw hn (fun S36 h hw hn => ?_)
  refine lv_aload_n hx hb dX7_play_5 rfl (lv_at hl 0 rfl) ?_
  refine lv_aload_n hx hb dX7_play_6 rfl (lv_at hl 0 rfl) ?_
  refine lv_iload_n hx hb dX7_play_7 rfl (lv_at hl 1 rfl) ?_
  obtain ⟨v37, S38, h39, h⟩ := bd_some h
  refine u_callV (n := 1) C w hw (hP _ _ (isn_f rfl rfl (by decide))) rfl rfl rfl (c_X7_isHand l D K b0 sa _ L _ ad P hP S36 hw hn p1 v37 S38 h39) gw_1574 gw_1571 gw_1573 gs_58 gw_8 ⟨by decide, by decide, by decide +kernel⟩ rfl rfl ⟨by decide, by decide⟩ rfl hl.1 rfl (Nat.le_of_ble_eq_true rfl) dX7_play_8 ⟨Nat.le_of_ble_eq_true rfl, Nat.le_of_ble_eq_true rfl⟩ (fun v9 u H locs hp w => ?_)
  obtain ⟨f2, rfl, rfl, hw, hn, hk1⟩ := hp
  have hG := hG.kp hk1
  generalize f2 = f at w hw hG
  refine lv_if_ne (tgt := 18) hx hb dX7_play_11 (by decide) (fun c40 => ?_) (fun c40 => ?_)
  · have h := bb_f h c40
    refine lv_iconst (v := 0) hx hb dX7_play_18 (by decide) ?_
    exact J19  p1 p2 0 S38 h ad P n L f H locs w ⟨hw, hn, hprobe, hP, hle, hG, trivial⟩ ls (lv_sub hl [0, 1, 2] rfl)
  · have h := bb_t h c40
    refine lv_iconst (v := 1) hx hb dX7_play_14 (by decide) ?_
    refine lv_goto (tgt := 19) hx hb dX7_play_15 (by decide) ?_
    exact J19  p1 p2 1 S38 h ad P n L f H locs w ⟨hw, hn, hprobe, hP, hle, hG, trivial⟩ ls (lv_sub hl [0, 1, 2] rfl)
theorem dX7_broken_0 : decode cX7_broken 0 = .ok (.aload_n 0, 1) := by decide +kernel
theorem dX7_broken_1 : decode cX7_broken 1 = .ok (.iconst 0, 1) := by decide +kernel
theorem dX7_broken_2 : decode cX7_broken 2 = .ok (.putfield 97, 3) := by decide +kernel
theorem dX7_broken_5 : decode cX7_broken 5 = .ok (.aload_n 0, 1) := by decide +kernel
theorem dX7_broken_6 : decode cX7_broken 6 = .ok (.iload_n 1, 1) := by decide +kernel
theorem dX7_broken_7 : decode cX7_broken 7 = .ok (.iconst 0, 1) := by decide +kernel
theorem dX7_broken_8 : decode cX7_broken 8 = .ok (.aload_n 0, 1) := by decide +kernel
theorem dX7_broken_9 : decode cX7_broken 9 = .ok (.getfield 210, 3) := by decide +kernel
theorem dX7_broken_12 : decode cX7_broken 12 = .ok (.iconst 1, 1) := by decide +kernel
theorem dX7_broken_13 : decode cX7_broken 13 = .ok (.isub, 1) := by decide +kernel
theorem dX7_broken_14 : decode cX7_broken 14 = .ok (.invokestatic 100, 3) := by decide +kernel
theorem dX7_broken_17 : decode cX7_broken 17 = .ok (.ifCond .ne 7, 3) := by decide +kernel
theorem dX7_broken_20 : decode cX7_broken 20 = .ok (.iconst 1, 1) := by decide +kernel
theorem dX7_broken_21 : decode cX7_broken 21 = .ok (.goto 4, 3) := by decide +kernel
theorem dX7_broken_24 : decode cX7_broken 24 = .ok (.iconst 0, 1) := by decide +kernel
theorem dX7_broken_25 : decode cX7_broken 25 = .ok (.iconst 1, 1) := by decide +kernel
theorem dX7_broken_26 : decode cX7_broken 26 = .ok (.invokevirtual 206, 3) := by decide +kernel
theorem dX7_broken_29 : decode cX7_broken 29 = .ok (.ifCond .eq 5, 3) := by decide +kernel
theorem dX7_broken_32 : decode cX7_broken 32 = .ok (.iconst 0, 1) := by decide +kernel
theorem dX7_broken_33 : decode cX7_broken 33 = .ok (.ireturn, 1) := by decide +kernel
theorem dX7_broken_34 : decode cX7_broken 34 = .ok (.iconst 0, 1) := by decide +kernel
theorem dX7_broken_35 : decode cX7_broken 35 = .ok (.istore_n 2, 1) := by decide +kernel
theorem dX7_broken_36 : decode cX7_broken 36 = .ok (.iload_n 2, 1) := by decide +kernel
theorem dX7_broken_37 : decode cX7_broken 37 = .ok (.aload_n 0, 1) := by decide +kernel
theorem dX7_broken_38 : decode cX7_broken 38 = .ok (.getfield 313, 3) := by decide +kernel
theorem dX7_broken_41 : decode cX7_broken 41 = .ok (.if_icmp .gt 115, 3) := by decide +kernel
theorem dX7_broken_44 : decode cX7_broken 44 = .ok (.iload_n 2, 1) := by decide +kernel
theorem dX7_broken_45 : decode cX7_broken 45 = .ok (.aload_n 0, 1) := by decide +kernel
theorem dX7_broken_46 : decode cX7_broken 46 = .ok (.getfield 313, 3) := by decide +kernel
theorem dX7_broken_49 : decode cX7_broken 49 = .ok (.if_icmp .ge 15, 3) := by decide +kernel
theorem dX7_broken_52 : decode cX7_broken 52 = .ok (.aload_n 0, 1) := by decide +kernel
theorem dX7_broken_53 : decode cX7_broken 53 = .ok (.getfield 73, 3) := by decide +kernel
theorem dX7_broken_56 : decode cX7_broken 56 = .ok (.iload_n 2, 1) := by decide +kernel
theorem dX7_broken_57 : decode cX7_broken 57 = .ok (.aaload, 1) := by decide +kernel
theorem dX7_broken_58 : decode cX7_broken 58 = .ok (.bipush 9, 2) := by decide +kernel
theorem dX7_broken_60 : decode cX7_broken 60 = .ok (.iaload, 1) := by decide +kernel
theorem dX7_broken_61 : decode cX7_broken 61 = .ok (.goto 17, 3) := by decide +kernel
theorem dX7_broken_64 : decode cX7_broken 64 = .ok (.aload_n 0, 1) := by decide +kernel
theorem dX7_broken_65 : decode cX7_broken 65 = .ok (.iconst 0, 1) := by decide +kernel
theorem dX7_broken_66 : decode cX7_broken 66 = .ok (.invokevirtual 316, 3) := by decide +kernel
theorem dX7_broken_69 : decode cX7_broken 69 = .ok (.iconst (-1), 1) := by decide +kernel
theorem dX7_broken_70 : decode cX7_broken 70 = .ok (.if_icmp .ne 7, 3) := by decide +kernel
theorem dX7_broken_73 : decode cX7_broken 73 = .ok (.iconst 0, 1) := by decide +kernel
theorem dX7_broken_74 : decode cX7_broken 74 = .ok (.goto 4, 3) := by decide +kernel
theorem dX7_broken_77 : decode cX7_broken 77 = .ok (.iconst 1, 1) := by decide +kernel
theorem dX7_broken_78 : decode cX7_broken 78 = .ok (.istore_n 3, 1) := by decide +kernel
theorem dX7_broken_79 : decode cX7_broken 79 = .ok (.aload_n 0, 1) := by decide +kernel
theorem dX7_broken_80 : decode cX7_broken 80 = .ok (.iconst 1, 1) := by decide +kernel
theorem dX7_broken_81 : decode cX7_broken 81 = .ok (.invokevirtual 247, 3) := by decide +kernel
theorem dX7_broken_84 : decode cX7_broken 84 = .ok (.iconst 0, 1) := by decide +kernel
theorem dX7_broken_85 : decode cX7_broken 85 = .ok (.istore 4, 2) := by decide +kernel
theorem dX7_broken_87 : decode cX7_broken 87 = .ok (.iload 4, 2) := by decide +kernel
theorem dX7_broken_89 : decode cX7_broken 89 = .ok (.iconst 5, 1) := by decide +kernel
theorem dX7_broken_90 : decode cX7_broken 90 = .ok (.if_icmp .ge 35, 3) := by decide +kernel
theorem dX7_broken_93 : decode cX7_broken 93 = .ok (.iload_n 2, 1) := by decide +kernel
theorem dX7_broken_94 : decode cX7_broken 94 = .ok (.aload_n 0, 1) := by decide +kernel
theorem dX7_broken_95 : decode cX7_broken 95 = .ok (.getfield 313, 3) := by decide +kernel
theorem dX7_broken_98 : decode cX7_broken 98 = .ok (.if_icmp .ge 27, 3) := by decide +kernel
theorem dX7_broken_101 : decode cX7_broken 101 = .ok (.aload_n 0, 1) := by decide +kernel
theorem dX7_broken_102 : decode cX7_broken 102 = .ok (.getfield 30, 3) := by decide +kernel
theorem dX7_broken_105 : decode cX7_broken 105 = .ok (.iload 4, 2) := by decide +kernel
theorem dX7_broken_107 : decode cX7_broken 107 = .ok (.aload_n 0, 1) := by decide +kernel
theorem dX7_broken_108 : decode cX7_broken 108 = .ok (.getfield 73, 3) := by decide +kernel
theorem dX7_broken_111 : decode cX7_broken 111 = .ok (.iload_n 2, 1) := by decide +kernel
theorem dX7_broken_112 : decode cX7_broken 112 = .ok (.aaload, 1) := by decide +kernel
theorem dX7_broken_113 : decode cX7_broken 113 = .ok (.iconst 4, 1) := by decide +kernel
theorem dX7_broken_114 : decode cX7_broken 114 = .ok (.iload 4, 2) := by decide +kernel
theorem dX7_broken_116 : decode cX7_broken 116 = .ok (.iadd, 1) := by decide +kernel
theorem dX7_broken_117 : decode cX7_broken 117 = .ok (.iaload, 1) := by decide +kernel
theorem dX7_broken_118 : decode cX7_broken 118 = .ok (.iastore, 1) := by decide +kernel
theorem dX7_broken_119 : decode cX7_broken 119 = .ok (.iinc 4 1, 3) := by decide +kernel
theorem dX7_broken_122 : decode cX7_broken 122 = .ok (.goto (-35), 3) := by decide +kernel
theorem dX7_broken_125 : decode cX7_broken 125 = .ok (.aload_n 0, 1) := by decide +kernel
theorem dX7_broken_126 : decode cX7_broken 126 = .ok (.getfield 30, 3) := by decide +kernel
theorem dX7_broken_129 : decode cX7_broken 129 = .ok (.bipush 6, 2) := by decide +kernel
theorem dX7_broken_131 : decode cX7_broken 131 = .ok (.iload_n 3, 1) := by decide +kernel
theorem dX7_broken_132 : decode cX7_broken 132 = .ok (.iastore, 1) := by decide +kernel
theorem dX7_broken_133 : decode cX7_broken 133 = .ok (.aload_n 0, 1) := by decide +kernel
theorem dX7_broken_134 : decode cX7_broken 134 = .ok (.bipush 6, 2) := by decide +kernel
theorem dX7_broken_136 : decode cX7_broken 136 = .ok (.iload_n 1, 1) := by decide +kernel
theorem dX7_broken_137 : decode cX7_broken 137 = .ok (.iadd, 1) := by decide +kernel
theorem dX7_broken_138 : decode cX7_broken 138 = .ok (.invokevirtual 237, 3) := by decide +kernel
theorem dX7_broken_141 : decode cX7_broken 141 = .ok (.aload_n 0, 1) := by decide +kernel
theorem dX7_broken_142 : decode cX7_broken 142 = .ok (.invokevirtual 216, 3) := by decide +kernel
theorem dX7_broken_145 : decode cX7_broken 145 = .ok (.ifCond .ne 5, 3) := by decide +kernel
theorem dX7_broken_148 : decode cX7_broken 148 = .ok (.iload_n 2, 1) := by decide +kernel
theorem dX7_broken_149 : decode cX7_broken 149 = .ok (.ireturn, 1) := by decide +kernel
theorem dX7_broken_150 : decode cX7_broken 150 = .ok (.iinc 2 1, 3) := by decide +kernel
theorem dX7_broken_153 : decode cX7_broken 153 = .ok (.goto (-117), 3) := by decide +kernel
theorem dX7_broken_156 : decode cX7_broken 156 = .ok (.iconst (-1), 1) := by decide +kernel
theorem dX7_broken_157 : decode cX7_broken 157 = .ok (.ireturn, 1) := by decide +kernel
noncomputable def B_X7_broken_125L (k36L : (Int32 × Int32) → fS → Option (Int32 × fS)) (a1 : Int32) (a2 : Int32) (a3 : Int32) (S : fS) : Option (Int32 × fS) := sv (pu S 45 0 (6 : Int32).toNatClampNeg a3) (fun S1 => iv ((6 : Int32) + a1) (fun x2 => bd (F_X7_reads x2 S1) (fun v3 S4 => bd (F_X7_walksLaw  S4) (fun v6 S7 => bb (v6 = (0 : Int32)) (some (a2, S7)) (iv (a2 + Int32.ofInt 1) (fun x10 => k36L (a1, x10) S7))))))
noncomputable def B_X7_broken_87L (k36L : (Int32 × Int32) → fS → Option (Int32 × fS)) (k87L : (Int32 × Int32 × Int32 × Int32) → fS → Option (Int32 × fS)) : (Int32 × Int32 × Int32 × Int32) → fS → Option (Int32 × fS) := fun ⟨a1, a2, a3, a4⟩ S => bb ((5 : Int32) ≤ a4) (B_X7_broken_125L k36L a1 a2 a3 S) (iv (ge S 40 0 46) (fun x12 => bb (x12 ≤ a2) (B_X7_broken_125L k36L a1 a2 a3 S) (gd (ib a2 200) (iv ((4 : Int32) + a4) (fun x15 => gd (ib x15 14) (iv (ge S 57 (a2.toNatClampNeg) (x15 : Int32).toNatClampNeg) (fun x17 => gd (ib a4 7) (sv (pu S 45 0 (a4 : Int32).toNatClampNeg x17) (fun S19 => iv (a4 + Int32.ofInt 1) (fun x20 => k87L (a1, a2, a3, x20) S19))))))))))
noncomputable def B_X7_broken_78L (k36L : (Int32 × Int32) → fS → Option (Int32 × fS)) (a1 : Int32) (a2 : Int32) (t0 : Int32) (S : fS) : Option (Int32 × fS) := bd (F_X7_namesOf 1 S) (fun v21 S22 => lp (B_X7_broken_87L k36L) fuel (a1, a2, t0, 0) S22)
noncomputable def B_X7_broken_36L (k36L : (Int32 × Int32) → fS → Option (Int32 × fS)) : (Int32 × Int32) → fS → Option (Int32 × fS) := fun ⟨a1, a2⟩ S => iv (ge S 40 0 46) (fun x24 => bb (x24 < a2) (some ((-1), S)) (iv (ge S 40 0 46) (fun x26 => bb (x26 ≤ a2) (none) (gd (ib a2 200) (iv (ge S 57 (a2.toNatClampNeg) (9 : Int32).toNatClampNeg) (fun x29 => B_X7_broken_78L k36L a1 a2 x29 S))))))
noncomputable def B_X7_broken_125 (k36 : (Int32 × Int32) → fS → Option (Int32 × fS)) (a1 : Int32) (a2 : Int32) (a3 : Int32) (S : fS) : Option (Int32 × fS) := sv (pu S 45 0 (6 : Int32).toNatClampNeg a3) (fun S30 => iv ((6 : Int32) + a1) (fun x31 => bd (F_X7_reads x31 S30) (fun v32 S33 => bd (F_X7_walksLaw  S33) (fun v35 S36 => bb (v35 = (0 : Int32)) (some (a2, S36)) (iv (a2 + Int32.ofInt 1) (fun x39 => k36 (a1, x39) S36))))))
noncomputable def B_X7_broken_87 (k36 : (Int32 × Int32) → fS → Option (Int32 × fS)) (k87 : (Int32 × Int32 × Int32 × Int32) → fS → Option (Int32 × fS)) : (Int32 × Int32 × Int32 × Int32) → fS → Option (Int32 × fS) := fun ⟨a1, a2, a3, a4⟩ S => bb ((5 : Int32) ≤ a4) (B_X7_broken_125 k36 a1 a2 a3 S) (iv (ge S 40 0 46) (fun x41 => bb (x41 ≤ a2) (B_X7_broken_125 k36 a1 a2 a3 S) (gd (ib a2 200) (iv ((4 : Int32) + a4) (fun x44 => gd (ib x44 14) (iv (ge S 57 (a2.toNatClampNeg) (x44 : Int32).toNatClampNeg) (fun x46 => gd (ib a4 7) (sv (pu S 45 0 (a4 : Int32).toNatClampNeg x46) (fun S48 => iv (a4 + Int32.ofInt 1) (fun x49 => k87 (a1, a2, a3, x49) S48))))))))))
noncomputable def B_X7_broken_78 (k36 : (Int32 × Int32) → fS → Option (Int32 × fS)) (a1 : Int32) (a2 : Int32) (t0 : Int32) (S : fS) : Option (Int32 × fS) := bd (F_X7_namesOf 1 S) (fun v50 S51 => lp (B_X7_broken_87 k36) fuel (a1, a2, t0, 0) S51)
noncomputable def B_X7_broken_36 (k36 : (Int32 × Int32) → fS → Option (Int32 × fS)) : (Int32 × Int32) → fS → Option (Int32 × fS) := fun ⟨a1, a2⟩ S => iv (ge S 40 0 46) (fun x53 => bb (x53 < a2) (some ((-1), S)) (iv (ge S 40 0 46) (fun x55 => bb (x55 ≤ a2) (bd (F_X7_canNow 0 S) (fun v57 S58 => bb (v57 = ((-1) : Int32)) (B_X7_broken_78L (lp (B_X7_broken_36L) fuel) a1 a2 0 S58) (B_X7_broken_78L (lp (B_X7_broken_36L) fuel) a1 a2 1 S58))) (gd (ib a2 200) (iv (ge S 57 (a2.toNatClampNeg) (9 : Int32).toNatClampNeg) (fun x62 => B_X7_broken_78 k36 a1 a2 x62 S))))))
noncomputable def B_X7_broken_25 (a1 : Int32) (t0 : Int32) (S : fS) : Option (Int32 × fS) := bd (F_X7_bad t0 1 S) (fun v63 S64 => bb (v63 = (0 : Int32)) (lp (B_X7_broken_36 ) fuel (a1, 0) S64) (some (0, S64)))
noncomputable def F_X7_broken (p1 : Int32) (S0 : fS) : Option (Int32 × fS) := sv (pu S0 40 0 0 0) (fun S67 => iv (ge S67 40 0 14) (fun x68 => iv (x68 - (1 : Int32)) (fun x69 => bd (F_X7_in p1 0 x69 S67) (fun v70 S71 => bb (v70 = (0 : Int32)) (B_X7_broken_25  p1 1 S71) (B_X7_broken_25  p1 0 S71)))))
set_option maxHeartbeats 4000000 in
set_option maxRecDepth 100000 in
theorem c_X7_broken (l : Launch) (D : va_G) (K : Nat → ClassId) (b0 : Nat) (sa : sT) (sz : Nat) (LO : List Nat) (fO : Nat → va_E) (adO : Nat → Nat → Nat) (nO : Nat × Nat) (S0 : fS) (hw : PW K adO (isn nO) S0 LO fO) (hn : S0.2.2.1 = nO) (hprobe : 0 < nO.1) (p1 : Int32) (v : Int32) (S1 : fS) (h : F_X7_broken p1 S0 = some (v, S1)) : Met l yX7_broken (.code yX7_broken cX7_broken 5 (some .int) :: gt) { frames := 76, cells := 2, slots := 72, locals := 2806 } (va_Pc [.ref (adO 40 0), .int p1] (hPre D K b0 sa sz LO fO)) (hQ D K b0 (fun v9 u9 => ∃ (ad2 : Nat → Nat → Nat) (L2 : List Nat) (f2 : Nat → va_E), v9 = some (.int v) ∧ u9 = lU L2 f2 ∧ PW K ad2 (isn S1.2.2.1) S1 L2 f2 ∧ Gr (fun _ => False) (isn nO) adO LO fO (isn S1.2.2.1) ad2 L2 f2)) 2 72 (fun q => b0 ≤ q) := by
  refine t_of (own := RX7) (by decide) rfl ?_ (Nat.le_of_ble_eq_true rfl)
  intro p e s m below meth c ls C w hsz hr hlk hnm hl
  have hx := C.1
  have hb := C.2.1
  have J125L : ∀ (k36L : (Int32 × Int32) → fS → Option (Int32 × fS)) (hk36L : ∀ (a1 : Int32) (a2 : Int32) (S : fS), k36L (a1, a2) S = some (v, S1) → GwG D K b0 sa nO adO LO fO (fun _ => True) p l e { frames := 76, cells := 2, slots := 72, locals := 2806 } s m [.ref (adO 40 0), .int p1].toArray below meth c 5 (MQ below (hQ D K b0 (fun v9 u9 => ∃ (ad2 : Nat → Nat → Nat) (L2 : List Nat) (f2 : Nat → va_E), v9 = some (.int v) ∧ u9 = lU L2 f2 ∧ PW K ad2 (isn S1.2.2.1) S1 L2 f2 ∧ Gr (fun _ => False) (isn nO) adO LO fO (isn S1.2.2.1) ad2 L2 f2)) [.ref (adO 40 0), .int p1].toArray s 2 72 (fun q => b0 ≤ q)) 2 72 36 (fun ad => [(0, .ref (ad 40 0)), (1, .int a1), (2, .int a2)]) (fun ad => []) S) (a1 : Int32) (a2 : Int32) (a3 : Int32) (S : fS), B_X7_broken_125L k36L a1 a2 a3 S = some (v, S1) → GwG D K b0 sa nO adO LO fO (fun _ => True) p l e { frames := 76, cells := 2, slots := 72, locals := 2806 } s m [.ref (adO 40 0), .int p1].toArray below meth c 5 (MQ below (hQ D K b0 (fun v9 u9 => ∃ (ad2 : Nat → Nat → Nat) (L2 : List Nat) (f2 : Nat → va_E), v9 = some (.int v) ∧ u9 = lU L2 f2 ∧ PW K ad2 (isn S1.2.2.1) S1 L2 f2 ∧ Gr (fun _ => False) (isn nO) adO LO fO (isn S1.2.2.1) ad2 L2 f2)) [.ref (adO 40 0), .int p1].toArray s 2 72 (fun q => b0 ≤ q)) 2 72 125 (fun ad => [(0, .ref (ad 40 0)), (1, .int a1), (2, .int a2), (3, .int a3)]) (fun ad => []) S := by
    intro k36L hk36L a1 a2 a3 S h
    dsimp only [B_X7_broken_125L] at h
    intro ad P n L f H locs w G ls hl
    obtain ⟨hw, hn, hprobe, hP, hle, hG, -⟩ := G
    have hl : lv_has ls 5 [(0, .ref (ad 40 0)), (1, .int a1), (2, .int a2), (3, .int a3)] := hl
    refine lv_aload_n hx hb dX7_broken_125 rfl (lv_at hl 0 rfl) ?_
    refine u_getr C w hw (hP _ _ (isn_f rfl rfl (by decide))) rfl (N := 57) rfl rfl cin_7 17 (by decide) (by decide) (a2 := 45) (i2 := 0) rfl gw_1173 dX7_broken_126 ?_
    refine lv_bipush (v := 6) hx hb dX7_broken_129 (by decide) ?_
    refine lv_iload_n hx hb dX7_broken_131 rfl (lv_at hl 3 rfl) ?_
    refine u_iast C w hw (hP _ _ (isn_f rfl rfl (by decide))) rfl rfl (n := 7) rfl (vp_in_iff.mpr ⟨by decide, by decide⟩) dX7_broken_132 (fun f H locs w hw hk1 => ?_)
    have hG := hG.kp hk1
    refine u_sv h hw hn (fun S1 h hw hn => ?_)
    refine lv_aload_n hx hb dX7_broken_133 rfl (lv_at hl 0 rfl) ?_
    refine lv_bipush (v := 6) hx hb dX7_broken_134 (by decide) ?_
    refine lv_iload_n hx hb dX7_broken_136 rfl (lv_at hl 1 rfl) ?_
    refine lv_iadd hx hb dX7_broken_137 ?_
    refine u_iv h (fun x2 h => ?_)
    obtain ⟨v3, S4, h5, h⟩ := bd_some h
    refine u_callV (n := 1) C w hw (hP _ _ (isn_f rfl rfl (by decide))) rfl rfl rfl (c_X7_reads l D K b0 sa _ L _ ad P hP S1 hw hn x2 v3 S4 h5) gw_1457 gw_1454 gw_1456 gs_45 gw_8 ⟨by decide, by decide, by decide +kernel⟩ rfl rfl ⟨by decide, by decide⟩ rfl hl.1 rfl (Nat.le_of_ble_eq_true rfl) dX7_broken_138 ⟨Nat.le_of_ble_eq_true rfl, Nat.le_of_ble_eq_true rfl⟩ (fun v9 u H locs hp w => ?_)
    obtain ⟨f2, rfl, rfl, hw, hn, hk1⟩ := hp
    have hG := hG.kp hk1
    generalize f2 = f at w hw hG
    refine lv_aload_n hx hb dX7_broken_141 rfl (lv_at hl 0 rfl) ?_
    obtain ⟨v6, S7, h8, h⟩ := bd_some h
    refine u_callV (n := 0) C w hw (hP _ _ (isn_f rfl rfl (by decide))) rfl rfl rfl (c_X7_walksLaw l D K b0 sa _ L _ ad P hP S4 hw hn  v6 S7 h8) gw_1351 gw_1348 gw_1350 gs_23 gw_8 ⟨by decide, by decide, by decide +kernel⟩ rfl rfl ⟨by decide, by decide⟩ rfl hl.1 rfl (Nat.le_of_ble_eq_true rfl) dX7_broken_142 ⟨Nat.le_of_ble_eq_true rfl, Nat.le_of_ble_eq_true rfl⟩ (fun v9 u H locs hp w => ?_)
    obtain ⟨f2, rfl, rfl, hw, hn, hk1⟩ := hp
    have hG := hG.kp hk1
    generalize f2 = f at w hw hG
    refine lv_if_ne (tgt := 150) hx hb dX7_broken_145 (by decide) (fun c9 => ?_) (fun c9 => ?_)
    · have h := bb_f h c9
      obtain ⟨x10, ex10, h⟩ := iv_some h
      refine lv_iinc (v := x10) (lv' := [(2, .int x10), (0, .ref (ad 40 0)), (1, .int a1), (3, .int a3)]) hx hb dX7_broken_150 hl (k := 2) rfl ex10.symm (by decide) rfl (fun ls hl => ?_)
      refine lv_goto (tgt := 36) hx hb dX7_broken_153 (by decide) ?_
      exact hk36L a1 x10 S7 h ad P n L f H locs w ⟨hw, hn, hprobe, hP, hle, hG, trivial⟩ ls (lv_sub hl [1, 2, 0] rfl)
    · have h := bb_t h c9
      refine lv_iload_n hx hb dX7_broken_148 rfl (lv_at hl 2 rfl) ?_
      exact t_iret C hr hlk w ⟨ad, L, _, so_v h, rfl, gq_w h hw hn hP, gq_g h hn hP hle hG⟩ (by decide) (by decide) dX7_broken_149
  have J87L : ∀ (k36L : (Int32 × Int32) → fS → Option (Int32 × fS)) (hk36L : ∀ (a1 : Int32) (a2 : Int32) (S : fS), k36L (a1, a2) S = some (v, S1) → GwG D K b0 sa nO adO LO fO (fun _ => True) p l e { frames := 76, cells := 2, slots := 72, locals := 2806 } s m [.ref (adO 40 0), .int p1].toArray below meth c 5 (MQ below (hQ D K b0 (fun v9 u9 => ∃ (ad2 : Nat → Nat → Nat) (L2 : List Nat) (f2 : Nat → va_E), v9 = some (.int v) ∧ u9 = lU L2 f2 ∧ PW K ad2 (isn S1.2.2.1) S1 L2 f2 ∧ Gr (fun _ => False) (isn nO) adO LO fO (isn S1.2.2.1) ad2 L2 f2)) [.ref (adO 40 0), .int p1].toArray s 2 72 (fun q => b0 ≤ q)) 2 72 36 (fun ad => [(0, .ref (ad 40 0)), (1, .int a1), (2, .int a2)]) (fun ad => []) S) (fu : Nat) (a1 : Int32) (a2 : Int32) (a3 : Int32) (a4 : Int32) (S : fS), lp (B_X7_broken_87L k36L) fu (a1, a2, a3, a4) S = some (v, S1) → GwG D K b0 sa nO adO LO fO (fun _ => True) p l e { frames := 76, cells := 2, slots := 72, locals := 2806 } s m [.ref (adO 40 0), .int p1].toArray below meth c 5 (MQ below (hQ D K b0 (fun v9 u9 => ∃ (ad2 : Nat → Nat → Nat) (L2 : List Nat) (f2 : Nat → va_E), v9 = some (.int v) ∧ u9 = lU L2 f2 ∧ PW K ad2 (isn S1.2.2.1) S1 L2 f2 ∧ Gr (fun _ => False) (isn nO) adO LO fO (isn S1.2.2.1) ad2 L2 f2)) [.ref (adO 40 0), .int p1].toArray s 2 72 (fun q => b0 ≤ q)) 2 72 87 (fun ad => [(0, .ref (ad 40 0)), (1, .int a1), (2, .int a2), (3, .int a3), (4, .int a4)]) (fun ad => []) S := by
    intro k36L hk36L fu a1 a2 a3 a4 S h
    refine lp_some (G := (fun q S => GwG D K b0 sa nO adO LO fO (fun _ => True) p l e { frames := 76, cells := 2, slots := 72, locals := 2806 } s m [.ref (adO 40 0), .int p1].toArray below meth c 5 (MQ below (hQ D K b0 (fun v9 u9 => ∃ (ad2 : Nat → Nat → Nat) (L2 : List Nat) (f2 : Nat → va_E), v9 = some (.int v) ∧ u9 = lU L2 f2 ∧ PW K ad2 (isn S1.2.2.1) S1 L2 f2 ∧ Gr (fun _ => False) (isn nO) adO LO fO (isn S1.2.2.1) ad2 L2 f2)) [.ref (adO 40 0), .int p1].toArray s 2 72 (fun q => b0 ≤ q)) 2 72 87 (fun ad => [(0, .ref (ad 40 0)), (1, .int q.1), (2, .int q.2.1), (3, .int q.2.2.1), (4, .int q.2.2.2)]) (fun ad => []) S)) (fun k87L hk87L q S h => ?_) fu (a1, a2, a3, a4) S h
    obtain ⟨a1, a2, a3, a4⟩ := q
    have hk87L : ∀ (a1 : Int32) (a2 : Int32) (a3 : Int32) (a4 : Int32) (S : fS), k87L (a1, a2, a3, a4) S = some (v, S1) → GwG D K b0 sa nO adO LO fO (fun _ => True) p l e { frames := 76, cells := 2, slots := 72, locals := 2806 } s m [.ref (adO 40 0), .int p1].toArray below meth c 5 (MQ below (hQ D K b0 (fun v9 u9 => ∃ (ad2 : Nat → Nat → Nat) (L2 : List Nat) (f2 : Nat → va_E), v9 = some (.int v) ∧ u9 = lU L2 f2 ∧ PW K ad2 (isn S1.2.2.1) S1 L2 f2 ∧ Gr (fun _ => False) (isn nO) adO LO fO (isn S1.2.2.1) ad2 L2 f2)) [.ref (adO 40 0), .int p1].toArray s 2 72 (fun q => b0 ≤ q)) 2 72 87 (fun ad => [(0, .ref (ad 40 0)), (1, .int a1), (2, .int a2), (3, .int a3), (4, .int a4)]) (fun ad => []) S := fun a1 a2 a3 a4 S h => hk87L (a1, a2, a3, a4) S h
    dsimp only [B_X7_broken_87L] at h
    intro ad P n L f H locs w G ls hl
    obtain ⟨hw, hn, hprobe, hP, hle, hG, -⟩ := G
    have hl : lv_has ls 5 [(0, .ref (ad 40 0)), (1, .int a1), (2, .int a2), (3, .int a3), (4, .int a4)] := hl
    refine lv_iload hx hb dX7_broken_87 (lv_at hl 4 rfl) ?_
    refine lv_iconst (v := 5) hx hb dX7_broken_89 (by decide) ?_
    refine lv_icmp_ge (tgt := 125) hx hb dX7_broken_90 (by decide) (fun c11 => ?_) (fun c11 => ?_)
    · have h := bb_t h c11
      exact J125L k36L hk36L a1 a2 a3 S h ad P n L f H locs w ⟨hw, hn, hprobe, hP, hle, hG, trivial⟩ ls (lv_sub hl [0, 1, 2, 3] rfl)
    · have h := bb_f h c11
      refine lv_iload_n hx hb dX7_broken_93 rfl (lv_at hl 2 rfl) ?_
      refine lv_aload_n hx hb dX7_broken_94 rfl (lv_at hl 0 rfl) ?_
      refine u_geti C w hw (hP _ _ (isn_f rfl rfl (by decide))) rfl (N := 57) rfl rfl cin_7 46 (by decide) rfl gw_1202 dX7_broken_95 ?_
      refine u_iv h (fun x12 h => ?_)
      refine lv_icmp_ge (tgt := 125) hx hb dX7_broken_98 (by decide) (fun c13 => ?_) (fun c13 => ?_)
      · have h := bb_t h c13
        exact J125L k36L hk36L a1 a2 a3 S h ad P n L f H locs w ⟨hw, hn, hprobe, hP, hle, hG, trivial⟩ ls (lv_sub hl [0, 1, 2, 3] rfl)
      · have h := bb_f h c13
        refine lv_aload_n hx hb dX7_broken_101 rfl (lv_at hl 0 rfl) ?_
        refine u_getr C w hw (hP _ _ (isn_f rfl rfl (by decide))) rfl (N := 57) rfl rfl cin_7 17 (by decide) (by decide) (a2 := 45) (i2 := 0) rfl gw_1173 dX7_broken_102 ?_
        refine lv_iload hx hb dX7_broken_105 (lv_at hl 4 rfl) ?_
        refine lv_aload_n hx hb dX7_broken_107 rfl (lv_at hl 0 rfl) ?_
        refine u_getr C w hw (hP _ _ (isn_f rfl rfl (by decide))) rfl (N := 57) rfl rfl cin_7 47 (by decide) (by decide) (a2 := 56) (i2 := 0) rfl gw_1203 dX7_broken_108 ?_
        refine lv_iload_n hx hb dX7_broken_111 rfl (lv_at hl 2 rfl) ?_
        obtain ⟨g14, h⟩ := gd_some h
        refine u_aald C w hw (hP _ _ (isn_f rfl rfl (by decide))) rfl rfl rfl (n := 200) rfl (vp_in_iff.mpr g14) (a2 := 57) (i2 := (a2.toNatClampNeg)) (by exact congrArg (Prod.mk _) (Nat.zero_add _)) dX7_broken_112 ?_
        refine lv_iconst (v := 4) hx hb dX7_broken_113 (by decide) ?_
        refine lv_iload hx hb dX7_broken_114 (lv_at hl 4 rfl) ?_
        refine lv_iadd hx hb dX7_broken_116 ?_
        refine u_iv h (fun x15 h => ?_)
        obtain ⟨g16, h⟩ := gd_some h
        refine u_iald C w hw (hP _ _ (isn_f rfl rfl (ib_lt g14))) rfl rfl (n := 14) rfl (vp_in_iff.mpr g16) dX7_broken_117 ?_
        refine u_iv h (fun x17 h => ?_)
        obtain ⟨g18, h⟩ := gd_some h
        refine u_iast C w hw (hP _ _ (isn_f rfl rfl (by decide))) rfl rfl (n := 7) rfl (vp_in_iff.mpr g18) dX7_broken_118 (fun f H locs w hw hk1 => ?_)
        have hG := hG.kp hk1
        refine u_sv h hw hn (fun S19 h hw hn => ?_)
        obtain ⟨x20, ex20, h⟩ := iv_some h
        refine lv_iinc (v := x20) (lv' := [(4, .int x20), (0, .ref (ad 40 0)), (1, .int a1), (2, .int a2), (3, .int a3)]) hx hb dX7_broken_119 hl (k := 4) rfl ex20.symm (by decide) rfl (fun ls hl => ?_)
        refine lv_goto (tgt := 87) hx hb dX7_broken_122 (by decide) ?_
        exact hk87L a1 a2 a3 x20 S19 h ad P n L f H locs w ⟨hw, hn, hprobe, hP, hle, hG, trivial⟩ ls (lv_sub hl [1, 2, 3, 4, 0] rfl)
  have J78L : ∀ (k36L : (Int32 × Int32) → fS → Option (Int32 × fS)) (hk36L : ∀ (a1 : Int32) (a2 : Int32) (S : fS), k36L (a1, a2) S = some (v, S1) → GwG D K b0 sa nO adO LO fO (fun _ => True) p l e { frames := 76, cells := 2, slots := 72, locals := 2806 } s m [.ref (adO 40 0), .int p1].toArray below meth c 5 (MQ below (hQ D K b0 (fun v9 u9 => ∃ (ad2 : Nat → Nat → Nat) (L2 : List Nat) (f2 : Nat → va_E), v9 = some (.int v) ∧ u9 = lU L2 f2 ∧ PW K ad2 (isn S1.2.2.1) S1 L2 f2 ∧ Gr (fun _ => False) (isn nO) adO LO fO (isn S1.2.2.1) ad2 L2 f2)) [.ref (adO 40 0), .int p1].toArray s 2 72 (fun q => b0 ≤ q)) 2 72 36 (fun ad => [(0, .ref (ad 40 0)), (1, .int a1), (2, .int a2)]) (fun ad => []) S) (a1 : Int32) (a2 : Int32) (t0 : Int32) (S : fS), B_X7_broken_78L k36L a1 a2 t0 S = some (v, S1) → GwG D K b0 sa nO adO LO fO (fun _ => True) p l e { frames := 76, cells := 2, slots := 72, locals := 2806 } s m [.ref (adO 40 0), .int p1].toArray below meth c 5 (MQ below (hQ D K b0 (fun v9 u9 => ∃ (ad2 : Nat → Nat → Nat) (L2 : List Nat) (f2 : Nat → va_E), v9 = some (.int v) ∧ u9 = lU L2 f2 ∧ PW K ad2 (isn S1.2.2.1) S1 L2 f2 ∧ Gr (fun _ => False) (isn nO) adO LO fO (isn S1.2.2.1) ad2 L2 f2)) [.ref (adO 40 0), .int p1].toArray s 2 72 (fun q => b0 ≤ q)) 2 72 78 (fun ad => [(0, .ref (ad 40 0)), (1, .int a1), (2, .int a2)]) (fun ad => [.int t0]) S := by
    intro k36L hk36L a1 a2 t0 S h
    dsimp only [B_X7_broken_78L] at h
    intro ad P n L f H locs w G ls hl
    obtain ⟨hw, hn, hprobe, hP, hle, hG, -⟩ := G
    have hl : lv_has ls 5 [(0, .ref (ad 40 0)), (1, .int a1), (2, .int a2)] := hl
    refine lv_istore_n (lv' := [(3, .int t0), (0, .ref (ad 40 0)), (1, .int a1), (2, .int a2)]) hx hb dX7_broken_78 rfl hl (by decide) rfl (fun ls hl => ?_)
    refine lv_aload_n hx hb dX7_broken_79 rfl (lv_at hl 1 rfl) ?_
    refine lv_iconst (v := 1) hx hb dX7_broken_80 (by decide) ?_
    obtain ⟨v21, S22, h23, h⟩ := bd_some h
    refine u_callV (n := 1) C w hw (hP _ _ (isn_f rfl rfl (by decide))) rfl rfl rfl (c_X7_namesOf l D K b0 sa _ L _ ad P hP S hw hn 1 v21 S22 h23) gw_1445 gw_1442 gw_1444 gs_42 gw_8 ⟨by decide, by decide, by decide +kernel⟩ rfl rfl ⟨by decide, by decide⟩ rfl hl.1 rfl (Nat.le_of_ble_eq_true rfl) dX7_broken_81 ⟨Nat.le_of_ble_eq_true rfl, Nat.le_of_ble_eq_true rfl⟩ (fun v9 u H locs hp w => ?_)
    obtain ⟨f2, rfl, rfl, hw, hn, hk1⟩ := hp
    have hG := hG.kp hk1
    generalize f2 = f at w hw hG
    refine lv_iconst (v := 0) hx hb dX7_broken_84 (by decide) ?_
    refine lv_istore (lv' := [(4, .int 0), (3, .int t0), (0, .ref (ad 40 0)), (1, .int a1), (2, .int a2)]) hx hb dX7_broken_85 hl (by decide) rfl (fun ls hl => ?_)
    exact J87L k36L hk36L fuel a1 a2 t0 0 S22 h ad P n L f H locs w ⟨hw, hn, hprobe, hP, hle, hG, trivial⟩ ls (lv_sub hl [2, 3, 4, 1, 0] rfl)
  have J36L : ∀ (fu : Nat) (a1 : Int32) (a2 : Int32) (S : fS), lp (B_X7_broken_36L ) fu (a1, a2) S = some (v, S1) → GwG D K b0 sa nO adO LO fO (fun _ => True) p l e { frames := 76, cells := 2, slots := 72, locals := 2806 } s m [.ref (adO 40 0), .int p1].toArray below meth c 5 (MQ below (hQ D K b0 (fun v9 u9 => ∃ (ad2 : Nat → Nat → Nat) (L2 : List Nat) (f2 : Nat → va_E), v9 = some (.int v) ∧ u9 = lU L2 f2 ∧ PW K ad2 (isn S1.2.2.1) S1 L2 f2 ∧ Gr (fun _ => False) (isn nO) adO LO fO (isn S1.2.2.1) ad2 L2 f2)) [.ref (adO 40 0), .int p1].toArray s 2 72 (fun q => b0 ≤ q)) 2 72 36 (fun ad => [(0, .ref (ad 40 0)), (1, .int a1), (2, .int a2)]) (fun ad => []) S := by
    intro fu a1 a2 S h
    refine lp_some (G := (fun q S => GwG D K b0 sa nO adO LO fO (fun _ => True) p l e { frames := 76, cells := 2, slots := 72, locals := 2806 } s m [.ref (adO 40 0), .int p1].toArray below meth c 5 (MQ below (hQ D K b0 (fun v9 u9 => ∃ (ad2 : Nat → Nat → Nat) (L2 : List Nat) (f2 : Nat → va_E), v9 = some (.int v) ∧ u9 = lU L2 f2 ∧ PW K ad2 (isn S1.2.2.1) S1 L2 f2 ∧ Gr (fun _ => False) (isn nO) adO LO fO (isn S1.2.2.1) ad2 L2 f2)) [.ref (adO 40 0), .int p1].toArray s 2 72 (fun q => b0 ≤ q)) 2 72 36 (fun ad => [(0, .ref (ad 40 0)), (1, .int q.1), (2, .int q.2)]) (fun ad => []) S)) (fun k36L hk36L q S h => ?_) fu (a1, a2) S h
    obtain ⟨a1, a2⟩ := q
    have hk36L : ∀ (a1 : Int32) (a2 : Int32) (S : fS), k36L (a1, a2) S = some (v, S1) → GwG D K b0 sa nO adO LO fO (fun _ => True) p l e { frames := 76, cells := 2, slots := 72, locals := 2806 } s m [.ref (adO 40 0), .int p1].toArray below meth c 5 (MQ below (hQ D K b0 (fun v9 u9 => ∃ (ad2 : Nat → Nat → Nat) (L2 : List Nat) (f2 : Nat → va_E), v9 = some (.int v) ∧ u9 = lU L2 f2 ∧ PW K ad2 (isn S1.2.2.1) S1 L2 f2 ∧ Gr (fun _ => False) (isn nO) adO LO fO (isn S1.2.2.1) ad2 L2 f2)) [.ref (adO 40 0), .int p1].toArray s 2 72 (fun q => b0 ≤ q)) 2 72 36 (fun ad => [(0, .ref (ad 40 0)), (1, .int a1), (2, .int a2)]) (fun ad => []) S := fun a1 a2 S h => hk36L (a1, a2) S h
    dsimp only [B_X7_broken_36L] at h
    intro ad P n L f H locs w G ls hl
    obtain ⟨hw, hn, hprobe, hP, hle, hG, -⟩ := G
    have hl : lv_has ls 5 [(0, .ref (ad 40 0)), (1, .int a1), (2, .int a2)] := hl
    refine lv_iload_n hx hb dX7_broken_36 rfl (lv_at hl 2 rfl) ?_
    refine lv_aload_n hx hb dX7_broken_37 rfl (lv_at hl 0 rfl) ?_
    refine u_geti C w hw (hP _ _ (isn_f rfl rfl (by decide))) rfl (N := 57) rfl rfl cin_7 46 (by decide) rfl gw_1202 dX7_broken_38 ?_
    refine u_iv h (fun x24 h => ?_)
    refine lv_icmp_gt (tgt := 156) hx hb dX7_broken_41 (by decide) (fun c25 => ?_) (fun c25 => ?_)
    · have h := bb_t h c25
      refine lv_iconst (v := (-1)) hx hb dX7_broken_156 (by decide) ?_
      exact t_iret C hr hlk w ⟨ad, L, _, so_v h, rfl, gq_w h hw hn hP, gq_g h hn hP hle hG⟩ (by decide) (by decide) dX7_broken_157
    · have h := bb_f h c25
      refine lv_iload_n hx hb dX7_broken_44 rfl (lv_at hl 2 rfl) ?_
      refine lv_aload_n hx hb dX7_broken_45 rfl (lv_at hl 0 rfl) ?_
      refine u_geti C w hw (hP _ _ (isn_f rfl rfl (by decide))) rfl (N := 57) rfl rfl cin_7 46 (by decide) rfl gw_1202 dX7_broken_46 ?_
      refine u_iv h (fun x26 h => ?_)
      refine lv_icmp_ge (tgt := 64) hx hb dX7_broken_49 (by decide) (fun c27 => ?_) (fun c27 => ?_)
      · have h := bb_t h c27
        refine lv_aload_n hx hb dX7_broken_64 rfl (lv_at hl 0 rfl) ?_
        refine lv_iconst (v := 0) hx hb dX7_broken_65 (by decide) ?_
        exact no_so h
      · have h := bb_f h c27
        refine lv_aload_n hx hb dX7_broken_52 rfl (lv_at hl 0 rfl) ?_
        refine u_getr C w hw (hP _ _ (isn_f rfl rfl (by decide))) rfl (N := 57) rfl rfl cin_7 47 (by decide) (by decide) (a2 := 56) (i2 := 0) rfl gw_1203 dX7_broken_53 ?_
        refine lv_iload_n hx hb dX7_broken_56 rfl (lv_at hl 2 rfl) ?_
        obtain ⟨g28, h⟩ := gd_some h
        refine u_aald C w hw (hP _ _ (isn_f rfl rfl (by decide))) rfl rfl rfl (n := 200) rfl (vp_in_iff.mpr g28) (a2 := 57) (i2 := (a2.toNatClampNeg)) (by exact congrArg (Prod.mk _) (Nat.zero_add _)) dX7_broken_57 ?_
        refine lv_bipush (v := 9) hx hb dX7_broken_58 (by decide) ?_
        refine u_iald C w hw (hP _ _ (isn_f rfl rfl (ib_lt g28))) rfl rfl (n := 14) rfl (vp_in_iff.mpr ⟨by decide, by decide⟩) dX7_broken_60 ?_
        refine u_iv h (fun x29 h => ?_)
        refine lv_goto (tgt := 78) hx hb dX7_broken_61 (by decide) ?_
        exact J78L k36L hk36L a1 a2 x29 S h ad P n L f H locs w ⟨hw, hn, hprobe, hP, hle, hG, trivial⟩ ls (lv_sub hl [0, 1, 2] rfl)
  have J125 : ∀ (k36 : (Int32 × Int32) → fS → Option (Int32 × fS)) (hk36 : ∀ (a1 : Int32) (a2 : Int32) (S : fS), k36 (a1, a2) S = some (v, S1) → GwG D K b0 sa nO adO LO fO (fun _ => True) p l e { frames := 76, cells := 2, slots := 72, locals := 2806 } s m [.ref (adO 40 0), .int p1].toArray below meth c 5 (MQ below (hQ D K b0 (fun v9 u9 => ∃ (ad2 : Nat → Nat → Nat) (L2 : List Nat) (f2 : Nat → va_E), v9 = some (.int v) ∧ u9 = lU L2 f2 ∧ PW K ad2 (isn S1.2.2.1) S1 L2 f2 ∧ Gr (fun _ => False) (isn nO) adO LO fO (isn S1.2.2.1) ad2 L2 f2)) [.ref (adO 40 0), .int p1].toArray s 2 72 (fun q => b0 ≤ q)) 0 0 36 (fun ad => [(0, .ref (ad 40 0)), (1, .int a1), (2, .int a2)]) (fun ad => []) S) (a1 : Int32) (a2 : Int32) (a3 : Int32) (S : fS), B_X7_broken_125 k36 a1 a2 a3 S = some (v, S1) → GwG D K b0 sa nO adO LO fO (fun _ => True) p l e { frames := 76, cells := 2, slots := 72, locals := 2806 } s m [.ref (adO 40 0), .int p1].toArray below meth c 5 (MQ below (hQ D K b0 (fun v9 u9 => ∃ (ad2 : Nat → Nat → Nat) (L2 : List Nat) (f2 : Nat → va_E), v9 = some (.int v) ∧ u9 = lU L2 f2 ∧ PW K ad2 (isn S1.2.2.1) S1 L2 f2 ∧ Gr (fun _ => False) (isn nO) adO LO fO (isn S1.2.2.1) ad2 L2 f2)) [.ref (adO 40 0), .int p1].toArray s 2 72 (fun q => b0 ≤ q)) 0 0 125 (fun ad => [(0, .ref (ad 40 0)), (1, .int a1), (2, .int a2), (3, .int a3)]) (fun ad => []) S := by
    intro k36 hk36 a1 a2 a3 S h
    dsimp only [B_X7_broken_125] at h
    intro ad P n L f H locs w G ls hl
    obtain ⟨hw, hn, hprobe, hP, hle, hG, -⟩ := G
    have hl : lv_has ls 5 [(0, .ref (ad 40 0)), (1, .int a1), (2, .int a2), (3, .int a3)] := hl
    refine lv_aload_n hx hb dX7_broken_125 rfl (lv_at hl 0 rfl) ?_
    refine u_getr C w hw (hP _ _ (isn_f rfl rfl (by decide))) rfl (N := 57) rfl rfl cin_7 17 (by decide) (by decide) (a2 := 45) (i2 := 0) rfl gw_1173 dX7_broken_126 ?_
    refine lv_bipush (v := 6) hx hb dX7_broken_129 (by decide) ?_
    refine lv_iload_n hx hb dX7_broken_131 rfl (lv_at hl 3 rfl) ?_
    refine u_iast C w hw (hP _ _ (isn_f rfl rfl (by decide))) rfl rfl (n := 7) rfl (vp_in_iff.mpr ⟨by decide, by decide⟩) dX7_broken_132 (fun f H locs w hw hk1 => ?_)
    have hG := hG.kp hk1
    refine u_sv h hw hn (fun S30 h hw hn => ?_)
    refine lv_aload_n hx hb dX7_broken_133 rfl (lv_at hl 0 rfl) ?_
    refine lv_bipush (v := 6) hx hb dX7_broken_134 (by decide) ?_
    refine lv_iload_n hx hb dX7_broken_136 rfl (lv_at hl 1 rfl) ?_
    refine lv_iadd hx hb dX7_broken_137 ?_
    refine u_iv h (fun x31 h => ?_)
    obtain ⟨v32, S33, h34, h⟩ := bd_some h
    refine u_callV (n := 1) C w hw (hP _ _ (isn_f rfl rfl (by decide))) rfl rfl rfl (c_X7_reads l D K b0 sa _ L _ ad P hP S30 hw hn x31 v32 S33 h34) gw_1457 gw_1454 gw_1456 gs_45 gw_8 ⟨by decide, by decide, by decide +kernel⟩ rfl rfl ⟨by decide, by decide⟩ rfl hl.1 rfl (Nat.le_of_ble_eq_true rfl) dX7_broken_138 ⟨Nat.le_of_ble_eq_true rfl, Nat.le_of_ble_eq_true rfl⟩ (fun v9 u H locs hp w => ?_)
    obtain ⟨f2, rfl, rfl, hw, hn, hk1⟩ := hp
    have hG := hG.kp hk1
    generalize f2 = f at w hw hG
    refine lv_aload_n hx hb dX7_broken_141 rfl (lv_at hl 0 rfl) ?_
    obtain ⟨v35, S36, h37, h⟩ := bd_some h
    refine u_callV (n := 0) C w hw (hP _ _ (isn_f rfl rfl (by decide))) rfl rfl rfl (c_X7_walksLaw l D K b0 sa _ L _ ad P hP S33 hw hn  v35 S36 h37) gw_1351 gw_1348 gw_1350 gs_23 gw_8 ⟨by decide, by decide, by decide +kernel⟩ rfl rfl ⟨by decide, by decide⟩ rfl hl.1 rfl (Nat.le_of_ble_eq_true rfl) dX7_broken_142 ⟨Nat.le_of_ble_eq_true rfl, Nat.le_of_ble_eq_true rfl⟩ (fun v9 u H locs hp w => ?_)
    obtain ⟨f2, rfl, rfl, hw, hn, hk1⟩ := hp
    have hG := hG.kp hk1
    generalize f2 = f at w hw hG
    refine lv_if_ne (tgt := 150) hx hb dX7_broken_145 (by decide) (fun c38 => ?_) (fun c38 => ?_)
    · have h := bb_f h c38
      obtain ⟨x39, ex39, h⟩ := iv_some h
      refine lv_iinc (v := x39) (lv' := [(2, .int x39), (0, .ref (ad 40 0)), (1, .int a1), (3, .int a3)]) hx hb dX7_broken_150 hl (k := 2) rfl ex39.symm (by decide) rfl (fun ls hl => ?_)
      refine lv_goto (tgt := 36) hx hb dX7_broken_153 (by decide) ?_
      exact hk36 a1 x39 S36 h ad P n L f H locs w ⟨hw, hn, hprobe, hP, hle, hG, trivial⟩ ls (lv_sub hl [1, 2, 0] rfl)
    · have h := bb_t h c38
      refine lv_iload_n hx hb dX7_broken_148 rfl (lv_at hl 2 rfl) ?_
      exact t_iret C hr hlk w ⟨ad, L, _, so_v h, rfl, gq_w h hw hn hP, gq_g h hn hP hle hG⟩ (by decide) (by decide) dX7_broken_149
  have J87 : ∀ (k36 : (Int32 × Int32) → fS → Option (Int32 × fS)) (hk36 : ∀ (a1 : Int32) (a2 : Int32) (S : fS), k36 (a1, a2) S = some (v, S1) → GwG D K b0 sa nO adO LO fO (fun _ => True) p l e { frames := 76, cells := 2, slots := 72, locals := 2806 } s m [.ref (adO 40 0), .int p1].toArray below meth c 5 (MQ below (hQ D K b0 (fun v9 u9 => ∃ (ad2 : Nat → Nat → Nat) (L2 : List Nat) (f2 : Nat → va_E), v9 = some (.int v) ∧ u9 = lU L2 f2 ∧ PW K ad2 (isn S1.2.2.1) S1 L2 f2 ∧ Gr (fun _ => False) (isn nO) adO LO fO (isn S1.2.2.1) ad2 L2 f2)) [.ref (adO 40 0), .int p1].toArray s 2 72 (fun q => b0 ≤ q)) 0 0 36 (fun ad => [(0, .ref (ad 40 0)), (1, .int a1), (2, .int a2)]) (fun ad => []) S) (fu : Nat) (a1 : Int32) (a2 : Int32) (a3 : Int32) (a4 : Int32) (S : fS), lp (B_X7_broken_87 k36) fu (a1, a2, a3, a4) S = some (v, S1) → GwG D K b0 sa nO adO LO fO (fun _ => True) p l e { frames := 76, cells := 2, slots := 72, locals := 2806 } s m [.ref (adO 40 0), .int p1].toArray below meth c 5 (MQ below (hQ D K b0 (fun v9 u9 => ∃ (ad2 : Nat → Nat → Nat) (L2 : List Nat) (f2 : Nat → va_E), v9 = some (.int v) ∧ u9 = lU L2 f2 ∧ PW K ad2 (isn S1.2.2.1) S1 L2 f2 ∧ Gr (fun _ => False) (isn nO) adO LO fO (isn S1.2.2.1) ad2 L2 f2)) [.ref (adO 40 0), .int p1].toArray s 2 72 (fun q => b0 ≤ q)) 0 0 87 (fun ad => [(0, .ref (ad 40 0)), (1, .int a1), (2, .int a2), (3, .int a3), (4, .int a4)]) (fun ad => []) S := by
    intro k36 hk36 fu a1 a2 a3 a4 S h
    refine lp_some (G := (fun q S => GwG D K b0 sa nO adO LO fO (fun _ => True) p l e { frames := 76, cells := 2, slots := 72, locals := 2806 } s m [.ref (adO 40 0), .int p1].toArray below meth c 5 (MQ below (hQ D K b0 (fun v9 u9 => ∃ (ad2 : Nat → Nat → Nat) (L2 : List Nat) (f2 : Nat → va_E), v9 = some (.int v) ∧ u9 = lU L2 f2 ∧ PW K ad2 (isn S1.2.2.1) S1 L2 f2 ∧ Gr (fun _ => False) (isn nO) adO LO fO (isn S1.2.2.1) ad2 L2 f2)) [.ref (adO 40 0), .int p1].toArray s 2 72 (fun q => b0 ≤ q)) 0 0 87 (fun ad => [(0, .ref (ad 40 0)), (1, .int q.1), (2, .int q.2.1), (3, .int q.2.2.1), (4, .int q.2.2.2)]) (fun ad => []) S)) (fun k87 hk87 q S h => ?_) fu (a1, a2, a3, a4) S h
    obtain ⟨a1, a2, a3, a4⟩ := q
    have hk87 : ∀ (a1 : Int32) (a2 : Int32) (a3 : Int32) (a4 : Int32) (S : fS), k87 (a1, a2, a3, a4) S = some (v, S1) → GwG D K b0 sa nO adO LO fO (fun _ => True) p l e { frames := 76, cells := 2, slots := 72, locals := 2806 } s m [.ref (adO 40 0), .int p1].toArray below meth c 5 (MQ below (hQ D K b0 (fun v9 u9 => ∃ (ad2 : Nat → Nat → Nat) (L2 : List Nat) (f2 : Nat → va_E), v9 = some (.int v) ∧ u9 = lU L2 f2 ∧ PW K ad2 (isn S1.2.2.1) S1 L2 f2 ∧ Gr (fun _ => False) (isn nO) adO LO fO (isn S1.2.2.1) ad2 L2 f2)) [.ref (adO 40 0), .int p1].toArray s 2 72 (fun q => b0 ≤ q)) 0 0 87 (fun ad => [(0, .ref (ad 40 0)), (1, .int a1), (2, .int a2), (3, .int a3), (4, .int a4)]) (fun ad => []) S := fun a1 a2 a3 a4 S h => hk87 (a1, a2, a3, a4) S h
    dsimp only [B_X7_broken_87] at h
    intro ad P n L f H locs w G ls hl
    obtain ⟨hw, hn, hprobe, hP, hle, hG, -⟩ := G
    have hl : lv_has ls 5 [(0, .ref (ad 40 0)), (1, .int a1), (2, .int a2), (3, .int a3), (4, .int a4)] := hl
    refine lv_iload hx hb dX7_broken_87 (lv_at hl 4 rfl) ?_
    refine lv_iconst (v := 5) hx hb dX7_broken_89 (by decide) ?_
    refine lv_icmp_ge (tgt := 125) hx hb dX7_broken_90 (by decide) (fun c40 => ?_) (fun c40 => ?_)
    · have h := bb_t h c40
      exact J125 k36 hk36 a1 a2 a3 S h ad P n L f H locs w ⟨hw, hn, hprobe, hP, hle, hG, trivial⟩ ls (lv_sub hl [0, 1, 2, 3] rfl)
    · have h := bb_f h c40
      refine lv_iload_n hx hb dX7_broken_93 rfl (lv_at hl 2 rfl) ?_
      refine lv_aload_n hx hb dX7_broken_94 rfl (lv_at hl 0 rfl) ?_
      refine u_geti C w hw (hP _ _ (isn_f rfl rfl (by decide))) rfl (N := 57) rfl rfl cin_7 46 (by decide) rfl gw_1202 dX7_broken_95 ?_
      refine u_iv h (fun x41 h => ?_)
      refine lv_icmp_ge (tgt := 125) hx hb dX7_broken_98 (by decide) (fun c42 => ?_) (fun c42 => ?_)
      · have h := bb_t h c42
        exact J125 k36 hk36 a1 a2 a3 S h ad P n L f H locs w ⟨hw, hn, hprobe, hP, hle, hG, trivial⟩ ls (lv_sub hl [0, 1, 2, 3] rfl)
      · have h := bb_f h c42
        refine lv_aload_n hx hb dX7_broken_101 rfl (lv_at hl 0 rfl) ?_
        refine u_getr C w hw (hP _ _ (isn_f rfl rfl (by decide))) rfl (N := 57) rfl rfl cin_7 17 (by decide) (by decide) (a2 := 45) (i2 := 0) rfl gw_1173 dX7_broken_102 ?_
        refine lv_iload hx hb dX7_broken_105 (lv_at hl 4 rfl) ?_
        refine lv_aload_n hx hb dX7_broken_107 rfl (lv_at hl 0 rfl) ?_
        refine u_getr C w hw (hP _ _ (isn_f rfl rfl (by decide))) rfl (N := 57) rfl rfl cin_7 47 (by decide) (by decide) (a2 := 56) (i2 := 0) rfl gw_1203 dX7_broken_108 ?_
        refine lv_iload_n hx hb dX7_broken_111 rfl (lv_at hl 2 rfl) ?_
        obtain ⟨g43, h⟩ := gd_some h
        refine u_aald C w hw (hP _ _ (isn_f rfl rfl (by decide))) rfl rfl rfl (n := 200) rfl (vp_in_iff.mpr g43) (a2 := 57) (i2 := (a2.toNatClampNeg)) (by exact congrArg (Prod.mk _) (Nat.zero_add _)) dX7_broken_112 ?_
        refine lv_iconst (v := 4) hx hb dX7_broken_113 (by decide) ?_
        refine lv_iload hx hb dX7_broken_114 (lv_at hl 4 rfl) ?_
        refine lv_iadd hx hb dX7_broken_116 ?_
        refine u_iv h (fun x44 h => ?_)
        obtain ⟨g45, h⟩ := gd_some h
        refine u_iald C w hw (hP _ _ (isn_f rfl rfl (ib_lt g43))) rfl rfl (n := 14) rfl (vp_in_iff.mpr g45) dX7_broken_117 ?_
        refine u_iv h (fun x46 h => ?_)
        obtain ⟨g47, h⟩ := gd_some h
        refine u_iast C w hw (hP _ _ (isn_f rfl rfl (by decide))) rfl rfl (n := 7) rfl (vp_in_iff.mpr g47) dX7_broken_118 (fun f H locs w hw hk1 => ?_)
        have hG := hG.kp hk1
        refine u_sv h hw hn (fun S48 h hw hn => ?_)
        obtain ⟨x49, ex49, h⟩ := iv_some h
        refine lv_iinc (v := x49) (lv' := [(4, .int x49), (0, .ref (ad 40 0)), (1, .int a1), (2, .int a2), (3, .int a3)]) hx hb dX7_broken_119 hl (k := 4) rfl ex49.symm (by decide) rfl (fun ls hl => ?_)
        refine lv_goto (tgt := 87) hx hb dX7_broken_122 (by decide) ?_
        exact hk87 a1 a2 a3 x49 S48 h ad P n L f H locs w ⟨hw, hn, hprobe, hP, hle, hG, trivial⟩ ls (lv_sub hl [1, 2, 3, 4, 0] rfl)
  have J78 : ∀ (k36 : (Int32 × Int32) → fS → Option (Int32 × fS)) (hk36 : ∀ (a1 : Int32) (a2 : Int32) (S : fS), k36 (a1, a2) S = some (v, S1) → GwG D K b0 sa nO adO LO fO (fun _ => True) p l e { frames := 76, cells := 2, slots := 72, locals := 2806 } s m [.ref (adO 40 0), .int p1].toArray below meth c 5 (MQ below (hQ D K b0 (fun v9 u9 => ∃ (ad2 : Nat → Nat → Nat) (L2 : List Nat) (f2 : Nat → va_E), v9 = some (.int v) ∧ u9 = lU L2 f2 ∧ PW K ad2 (isn S1.2.2.1) S1 L2 f2 ∧ Gr (fun _ => False) (isn nO) adO LO fO (isn S1.2.2.1) ad2 L2 f2)) [.ref (adO 40 0), .int p1].toArray s 2 72 (fun q => b0 ≤ q)) 0 0 36 (fun ad => [(0, .ref (ad 40 0)), (1, .int a1), (2, .int a2)]) (fun ad => []) S) (a1 : Int32) (a2 : Int32) (t0 : Int32) (S : fS), B_X7_broken_78 k36 a1 a2 t0 S = some (v, S1) → GwG D K b0 sa nO adO LO fO (fun _ => True) p l e { frames := 76, cells := 2, slots := 72, locals := 2806 } s m [.ref (adO 40 0), .int p1].toArray below meth c 5 (MQ below (hQ D K b0 (fun v9 u9 => ∃ (ad2 : Nat → Nat → Nat) (L2 : List Nat) (f2 : Nat → va_E), v9 = some (.int v) ∧ u9 = lU L2 f2 ∧ PW K ad2 (isn S1.2.2.1) S1 L2 f2 ∧ Gr (fun _ => False) (isn nO) adO LO fO (isn S1.2.2.1) ad2 L2 f2)) [.ref (adO 40 0), .int p1].toArray s 2 72 (fun q => b0 ≤ q)) 0 0 78 (fun ad => [(0, .ref (ad 40 0)), (1, .int a1), (2, .int a2)]) (fun ad => [.int t0]) S := by
    intro k36 hk36 a1 a2 t0 S h
    dsimp only [B_X7_broken_78] at h
    intro ad P n L f H locs w G ls hl
    obtain ⟨hw, hn, hprobe, hP, hle, hG, -⟩ := G
    have hl : lv_has ls 5 [(0, .ref (ad 40 0)), (1, .int a1), (2, .int a2)] := hl
    refine lv_istore_n (lv' := [(3, .int t0), (0, .ref (ad 40 0)), (1, .int a1), (2, .int a2)]) hx hb dX7_broken_78 rfl hl (by decide) rfl (fun ls hl => ?_)
    refine lv_aload_n hx hb dX7_broken_79 rfl (lv_at hl 1 rfl) ?_
    refine lv_iconst (v := 1) hx hb dX7_broken_80 (by decide) ?_
    obtain ⟨v50, S51, h52, h⟩ := bd_some h
    refine u_callV (n := 1) C w hw (hP _ _ (isn_f rfl rfl (by decide))) rfl rfl rfl (c_X7_namesOf l D K b0 sa _ L _ ad P hP S hw hn 1 v50 S51 h52) gw_1445 gw_1442 gw_1444 gs_42 gw_8 ⟨by decide, by decide, by decide +kernel⟩ rfl rfl ⟨by decide, by decide⟩ rfl hl.1 rfl (Nat.le_of_ble_eq_true rfl) dX7_broken_81 ⟨Nat.le_of_ble_eq_true rfl, Nat.le_of_ble_eq_true rfl⟩ (fun v9 u H locs hp w => ?_)
    obtain ⟨f2, rfl, rfl, hw, hn, hk1⟩ := hp
    have hG := hG.kp hk1
    generalize f2 = f at w hw hG
    refine lv_iconst (v := 0) hx hb dX7_broken_84 (by decide) ?_
    refine lv_istore (lv' := [(4, .int 0), (3, .int t0), (0, .ref (ad 40 0)), (1, .int a1), (2, .int a2)]) hx hb dX7_broken_85 hl (by decide) rfl (fun ls hl => ?_)
    exact J87 k36 hk36 fuel a1 a2 t0 0 S51 h ad P n L f H locs w ⟨hw, hn, hprobe, hP, hle, hG, trivial⟩ ls (lv_sub hl [2, 3, 4, 1, 0] rfl)
  have J36 : ∀ (fu : Nat) (a1 : Int32) (a2 : Int32) (S : fS), lp (B_X7_broken_36 ) fu (a1, a2) S = some (v, S1) → GwG D K b0 sa nO adO LO fO (fun _ => True) p l e { frames := 76, cells := 2, slots := 72, locals := 2806 } s m [.ref (adO 40 0), .int p1].toArray below meth c 5 (MQ below (hQ D K b0 (fun v9 u9 => ∃ (ad2 : Nat → Nat → Nat) (L2 : List Nat) (f2 : Nat → va_E), v9 = some (.int v) ∧ u9 = lU L2 f2 ∧ PW K ad2 (isn S1.2.2.1) S1 L2 f2 ∧ Gr (fun _ => False) (isn nO) adO LO fO (isn S1.2.2.1) ad2 L2 f2)) [.ref (adO 40 0), .int p1].toArray s 2 72 (fun q => b0 ≤ q)) 0 0 36 (fun ad => [(0, .ref (ad 40 0)), (1, .int a1), (2, .int a2)]) (fun ad => []) S := by
    intro fu a1 a2 S h
    refine lp_some (G := (fun q S => GwG D K b0 sa nO adO LO fO (fun _ => True) p l e { frames := 76, cells := 2, slots := 72, locals := 2806 } s m [.ref (adO 40 0), .int p1].toArray below meth c 5 (MQ below (hQ D K b0 (fun v9 u9 => ∃ (ad2 : Nat → Nat → Nat) (L2 : List Nat) (f2 : Nat → va_E), v9 = some (.int v) ∧ u9 = lU L2 f2 ∧ PW K ad2 (isn S1.2.2.1) S1 L2 f2 ∧ Gr (fun _ => False) (isn nO) adO LO fO (isn S1.2.2.1) ad2 L2 f2)) [.ref (adO 40 0), .int p1].toArray s 2 72 (fun q => b0 ≤ q)) 0 0 36 (fun ad => [(0, .ref (ad 40 0)), (1, .int q.1), (2, .int q.2)]) (fun ad => []) S)) (fun k36 hk36 q S h => ?_) fu (a1, a2) S h
    obtain ⟨a1, a2⟩ := q
    have hk36 : ∀ (a1 : Int32) (a2 : Int32) (S : fS), k36 (a1, a2) S = some (v, S1) → GwG D K b0 sa nO adO LO fO (fun _ => True) p l e { frames := 76, cells := 2, slots := 72, locals := 2806 } s m [.ref (adO 40 0), .int p1].toArray below meth c 5 (MQ below (hQ D K b0 (fun v9 u9 => ∃ (ad2 : Nat → Nat → Nat) (L2 : List Nat) (f2 : Nat → va_E), v9 = some (.int v) ∧ u9 = lU L2 f2 ∧ PW K ad2 (isn S1.2.2.1) S1 L2 f2 ∧ Gr (fun _ => False) (isn nO) adO LO fO (isn S1.2.2.1) ad2 L2 f2)) [.ref (adO 40 0), .int p1].toArray s 2 72 (fun q => b0 ≤ q)) 0 0 36 (fun ad => [(0, .ref (ad 40 0)), (1, .int a1), (2, .int a2)]) (fun ad => []) S := fun a1 a2 S h => hk36 (a1, a2) S h
    dsimp only [B_X7_broken_36] at h
    intro ad P n L f H locs w G ls hl
    obtain ⟨hw, hn, hprobe, hP, hle, hG, -⟩ := G
    have hl : lv_has ls 5 [(0, .ref (ad 40 0)), (1, .int a1), (2, .int a2)] := hl
    refine lv_iload_n hx hb dX7_broken_36 rfl (lv_at hl 2 rfl) ?_
    refine lv_aload_n hx hb dX7_broken_37 rfl (lv_at hl 0 rfl) ?_
    refine u_geti C w hw (hP _ _ (isn_f rfl rfl (by decide))) rfl (N := 57) rfl rfl cin_7 46 (by decide) rfl gw_1202 dX7_broken_38 ?_
    refine u_iv h (fun x53 h => ?_)
    refine lv_icmp_gt (tgt := 156) hx hb dX7_broken_41 (by decide) (fun c54 => ?_) (fun c54 => ?_)
    · have h := bb_t h c54
      refine lv_iconst (v := (-1)) hx hb dX7_broken_156 (by decide) ?_
      exact t_iret C hr hlk w ⟨ad, L, _, so_v h, rfl, gq_w h hw hn hP, gq_g h hn hP hle hG⟩ (by decide) (by decide) dX7_broken_157
    · have h := bb_f h c54
      refine lv_iload_n hx hb dX7_broken_44 rfl (lv_at hl 2 rfl) ?_
      refine lv_aload_n hx hb dX7_broken_45 rfl (lv_at hl 0 rfl) ?_
      refine u_geti C w hw (hP _ _ (isn_f rfl rfl (by decide))) rfl (N := 57) rfl rfl cin_7 46 (by decide) rfl gw_1202 dX7_broken_46 ?_
      refine u_iv h (fun x55 h => ?_)
      refine lv_icmp_ge (tgt := 64) hx hb dX7_broken_49 (by decide) (fun c56 => ?_) (fun c56 => ?_)
      · have h := bb_t h c56
        refine lv_aload_n hx hb dX7_broken_64 rfl (lv_at hl 0 rfl) ?_
        refine lv_iconst (v := 0) hx hb dX7_broken_65 (by decide) ?_
        obtain ⟨v57, S58, h59, h⟩ := bd_some h
        refine u_callV (n := 1) C w hw (hP _ _ (isn_f rfl rfl (by decide))) rfl rfl rfl (c_X7_canNow l D K b0 sa _ L f ad n S (hw.mono hP) hn hprobe 0 v57 S58 h59) gw_1523 gw_1520 gw_1522 gs_51 gw_8 ⟨by decide, by decide, by decide +kernel⟩ rfl rfl ⟨by decide, by decide⟩ rfl hl.1 rfl (Nat.le_of_ble_eq_true rfl) dX7_broken_66 ⟨Nat.le_of_ble_eq_true rfl, Nat.le_of_ble_eq_true rfl⟩ (fun v9 u H locs hp w => ?_)
        obtain ⟨ad2, L2, f2, rfl, rfl, hw2, hG2⟩ := hp
        obtain ⟨ad, P, n, L, f, w, hw, hn, hprobe, hP, hle, hG, hl⟩ : ∃ (ad3 : Nat → Nat → Nat) (P3 : Nat → Nat → Prop) (n3 : Nat × Nat) (L3 : List Nat) (f3 : Nat → va_E), Wh D K b0 sa s H locs L3 f3 ∧ PW K ad3 P3 S58 L3 f3 ∧ S58.2.2.1 = n3 ∧ 0 < n3.1 ∧ (∀ a i : Nat, isn n3 a i → P3 a i) ∧ (∀ a i : Nat, isn nO a i → isn n3 a i) ∧ Gr (fun _ => False) (isn nO) adO LO fO P3 ad3 L3 f3 ∧ lv_has ls 5 [(0, .ref (ad3 40 0)), (1, .int a1), (2, .int a2)] := ⟨ad2, isn S58.2.2.1, S58.2.2.1, L2, f2, w, hw2, rfl, gr_pos hG2 hprobe, fun _ _ h => h, fun a i h => (hG2.1 a i (hle a i h)).1, (hG.sub hP hle).tr hG2 (fun _ _ h => h), (by rw [(hG2.1 40 0 (isn_f rfl rfl (by decide))).2]; exact hl)⟩
        refine lv_iconst (v := (-1)) hx hb dX7_broken_69 (by decide) ?_
        refine lv_icmp_ne (tgt := 77) hx hb dX7_broken_70 (by decide) (fun c60 => ?_) (fun c60 => ?_)
        · have h := bb_f h c60
          refine lv_iconst (v := 1) hx hb dX7_broken_77 (by decide) ?_
          exact J78L (lp (B_X7_broken_36L) fuel) (fun a1 a2 S h9 => J36L fuel a1 a2 S h9) a1 a2 1 S58 h ad P n L f H locs w ⟨hw, hn, hprobe, hP, hle, hG, trivial⟩ ls (lv_sub hl [0, 1, 2] rfl)
        · have h := bb_t h c60
          refine lv_iconst (v := 0) hx hb dX7_broken_73 (by decide) ?_
          refine lv_goto (tgt := 78) hx hb dX7_broken_74 (by decide) ?_
          exact J78L (lp (B_X7_broken_36L) fuel) (fun a1 a2 S h9 => J36L fuel a1 a2 S h9) a1 a2 0 S58 h ad P n L f H locs w ⟨hw, hn, hprobe, hP, hle, hG, trivial⟩ ls (lv_sub hl [0, 1, 2] rfl)
      · have h := bb_f h c56
        refine lv_aload_n hx hb dX7_broken_52 rfl (lv_at hl 0 rfl) ?_
        refine u_getr C w hw (hP _ _ (isn_f rfl rfl (by decide))) rfl (N := 57) rfl rfl cin_7 47 (by decide) (by decide) (a2 := 56) (i2 := 0) rfl gw_1203 dX7_broken_53 ?_
        refine lv_iload_n hx hb dX7_broken_56 rfl (lv_at hl 2 rfl) ?_
        obtain ⟨g61, h⟩ := gd_some h
        refine u_aald C w hw (hP _ _ (isn_f rfl rfl (by decide))) rfl rfl rfl (n := 200) rfl (vp_in_iff.mpr g61) (a2 := 57) (i2 := (a2.toNatClampNeg)) (by exact congrArg (Prod.mk _) (Nat.zero_add _)) dX7_broken_57 ?_
        refine lv_bipush (v := 9) hx hb dX7_broken_58 (by decide) ?_
        refine u_iald C w hw (hP _ _ (isn_f rfl rfl (ib_lt g61))) rfl rfl (n := 14) rfl (vp_in_iff.mpr ⟨by decide, by decide⟩) dX7_broken_60 ?_
        refine u_iv h (fun x62 h => ?_)
        refine lv_goto (tgt := 78) hx hb dX7_broken_61 (by decide) ?_
        exact J78 k36 hk36 a1 a2 x62 S h ad P n L f H locs w ⟨hw, hn, hprobe, hP, hle, hG, trivial⟩ ls (lv_sub hl [0, 1, 2] rfl)
  have J25 : ∀ (a1 : Int32) (t0 : Int32) (S : fS), B_X7_broken_25  a1 t0 S = some (v, S1) → GwG D K b0 sa nO adO LO fO (fun _ => True) p l e { frames := 76, cells := 2, slots := 72, locals := 2806 } s m [.ref (adO 40 0), .int p1].toArray below meth c 5 (MQ below (hQ D K b0 (fun v9 u9 => ∃ (ad2 : Nat → Nat → Nat) (L2 : List Nat) (f2 : Nat → va_E), v9 = some (.int v) ∧ u9 = lU L2 f2 ∧ PW K ad2 (isn S1.2.2.1) S1 L2 f2 ∧ Gr (fun _ => False) (isn nO) adO LO fO (isn S1.2.2.1) ad2 L2 f2)) [.ref (adO 40 0), .int p1].toArray s 2 72 (fun q => b0 ≤ q)) 0 0 25 (fun ad => [(0, .ref (ad 40 0)), (1, .int a1)]) (fun ad => [.int t0, .ref (ad 40 0)]) S := by
    intro a1 t0 S h
    dsimp only [B_X7_broken_25] at h
    intro ad P n L f H locs w G ls hl
    obtain ⟨hw, hn, hprobe, hP, hle, hG, -⟩ := G
    have hl : lv_has ls 5 [(0, .ref (ad 40 0)), (1, .int a1)] := hl
    refine lv_iconst (v := 1) hx hb dX7_broken_25 (by decide) ?_
    obtain ⟨v63, S64, h65, h⟩ := bd_some h
    refine u_callV (n := 2) C w hw (hP _ _ (isn_f rfl rfl (by decide))) rfl rfl rfl (c_X7_bad l D K b0 sa _ L _ ad P hP S hw hn t0 1 v63 S64 h65) gw_1347 gw_1344 gw_1346 gs_22 gw_8 ⟨by decide, by decide, by decide +kernel⟩ rfl rfl ⟨by decide, by decide⟩ rfl hl.1 rfl (Nat.le_of_ble_eq_true rfl) dX7_broken_26 ⟨Nat.le_of_ble_eq_true rfl, Nat.le_of_ble_eq_true rfl⟩ (fun v9 u H locs hp w => ?_)
    obtain ⟨f2, rfl, rfl, hw, hn, hk1⟩ := hp
    have hG := hG.kp hk1
    generalize f2 = f at w hw hG
    refine lv_if_eq (tgt := 34) hx hb dX7_broken_29 (by decide) (fun c66 => ?_) (fun c66 => ?_)
    · have h := bb_t h c66
      refine lv_iconst (v := 0) hx hb dX7_broken_34 (by decide) ?_
      refine lv_istore_n (lv' := [(2, .int 0), (0, .ref (ad 40 0)), (1, .int a1)]) hx hb dX7_broken_35 rfl hl (by decide) rfl (fun ls hl => ?_)
      exact J36  fuel a1 0 S64 h ad P n L f H locs w ⟨hw, hn, hprobe, hP, hle, hG, trivial⟩ ls (lv_sub hl [1, 2, 0] rfl)
    · have h := bb_f h c66
      refine lv_iconst (v := 0) hx hb dX7_broken_32 (by decide) ?_
      exact t_iret C hr hlk w ⟨ad, L, _, so_v h, rfl, gq_w h hw hn hP, gq_g h hn hP hle hG⟩ (by decide) (by decide) dX7_broken_33
  dsimp only [F_X7_broken] at h
  obtain ⟨H, eH⟩ : ∃ z, z = s.heap := ⟨_, rfl⟩
  obtain ⟨locs, el⟩ : ∃ z : List Loc, z = [] := ⟨_, rfl⟩
  rw [← eH, ← el] at w ⊢
  obtain ⟨ad, P, n, L, f, w, hw, hn, hprobe, hP, hle, hG, hl⟩ : ∃ (ad2 : Nat → Nat → Nat) (P2 : Nat → Nat → Prop) (n2 : Nat × Nat) (L2 : List Nat) (f2 : Nat → va_E), Wh D K b0 sa s H locs L2 f2 ∧ PW K ad2 P2 S0 L2 f2 ∧ S0.2.2.1 = n2 ∧ 0 < n2.1 ∧ (∀ a i : Nat, isn n2 a i → P2 a i) ∧ (∀ a i : Nat, isn nO a i → isn n2 a i) ∧ Gr (fun _ => False) (isn nO) adO LO fO P2 ad2 L2 f2 ∧ lv_has ls 5 [(0, .ref (ad2 40 0)), (1, .int p1)] := ⟨adO, isn nO, nO, LO, fO, w, hw, hn, hprobe, fun _ _ h => h, fun _ _ h => h, Gr.rf, hl⟩
  refine lv_aload_n hx hb dX7_broken_0 rfl (lv_at hl 0 rfl) ?_
  refine lv_iconst (v := 0) hx hb dX7_broken_1 (by decide) ?_
  refine u_puti C w hw (hP _ _ (isn_f rfl rfl (by decide))) rfl (N := 57) rfl rfl cin_7 tyX7 tyX7_ok nmX7 0 (by decide) rfl rfl rfl rfl gw_1156 dX7_broken_2 (fun f H locs w hw hk1 => ?_)
  have hG := hG.kp hk1
  refine u_sv h hw hn (fun S67 h hw hn => ?_)
  refine lv_aload_n hx hb dX7_broken_5 rfl (lv_at hl 0 rfl) ?_
  refine lv_iload_n hx hb dX7_broken_6 rfl (lv_at hl 1 rfl) ?_
  refine lv_iconst (v := 0) hx hb dX7_broken_7 (by decide) ?_
  refine lv_aload_n hx hb dX7_broken_8 rfl (lv_at hl 0 rfl) ?_
  refine u_geti C w hw (hP _ _ (isn_f rfl rfl (by decide))) rfl (N := 57) rfl rfl cin_7 14 (by decide) rfl gw_1170 dX7_broken_9 ?_
  refine u_iv h (fun x68 h => ?_)
  refine lv_iconst (v := 1) hx hb dX7_broken_12 (by decide) ?_
  refine lv_isub hx hb dX7_broken_13 ?_
  refine u_iv h (fun x69 h => ?_)
  obtain ⟨v70, S71, h72, h⟩ := bd_some h
  refine t_callS (n := 3) C w (c_X7_in l D K b0 sa _ L _ ad P hP S67 hw hn p1 0 x69 v70 S71 h72) gw_1343 gw_1341 gw_1342 gw_8 ⟨by decide, by decide, by decide +kernel⟩ rfl rfl ⟨by decide, by decide⟩ rfl hl.1 rfl (Nat.le_of_ble_eq_true rfl) dX7_broken_14 ⟨Nat.le_of_ble_eq_true rfl, Nat.le_of_ble_eq_true rfl⟩ (fun v9 u H locs hp w => ?_)
  obtain ⟨f2, rfl, rfl, hw, hn, hk1⟩ := hp
  have hG := hG.kp hk1
  generalize f2 = f at w hw hG
  refine lv_if_ne (tgt := 24) hx hb dX7_broken_17 (by decide) (fun c73 => ?_) (fun c73 => ?_)
  · have h := bb_f h c73
    refine lv_iconst (v := 0) hx hb dX7_broken_24 (by decide) ?_
    exact J25  p1 0 S71 h ad P n L f H locs w ⟨hw, hn, hprobe, hP, hle, hG, trivial⟩ ls (lv_sub hl [0, 1] rfl)
  · have h := bb_t h c73
    refine lv_iconst (v := 1) hx hb dX7_broken_20 (by decide) ?_
    refine lv_goto (tgt := 25) hx hb dX7_broken_21 (by decide) ?_
    exact J25  p1 1 S71 h ad P n L f H locs w ⟨hw, hn, hprobe, hP, hle, hG, trivial⟩ ls (lv_sub hl [0, 1] rfl)
