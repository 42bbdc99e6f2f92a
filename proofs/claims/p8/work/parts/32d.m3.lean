theorem dX7_grips_0 : decode cX7_grips 0 = .ok (.aload_n 0, 1) := by decide +kernel
theorem dX7_grips_1 : decode cX7_grips 1 = .ok (.iconst 0, 1) := by decide +kernel
theorem dX7_grips_2 : decode cX7_grips 2 = .ok (.putfield 272, 3) := by decide +kernel
theorem dX7_grips_5 : decode cX7_grips 5 = .ok (.aload_n 0, 1) := by decide +kernel
theorem dX7_grips_6 : decode cX7_grips 6 = .ok (.iconst 0, 1) := by decide +kernel
theorem dX7_grips_7 : decode cX7_grips 7 = .ok (.putfield 275, 3) := by decide +kernel
theorem dX7_grips_10 : decode cX7_grips 10 = .ok (.aload_n 0, 1) := by decide +kernel
theorem dX7_grips_11 : decode cX7_grips 11 = .ok (.iconst 0, 1) := by decide +kernel
theorem dX7_grips_12 : decode cX7_grips 12 = .ok (.putfield 278, 3) := by decide +kernel
theorem dX7_grips_15 : decode cX7_grips 15 = .ok (.aload_n 0, 1) := by decide +kernel
theorem dX7_grips_16 : decode cX7_grips 16 = .ok (.iconst (-1), 1) := by decide +kernel
theorem dX7_grips_17 : decode cX7_grips 17 = .ok (.putfield 281, 3) := by decide +kernel
theorem dX7_grips_20 : decode cX7_grips 20 = .ok (.aload_n 0, 1) := by decide +kernel
theorem dX7_grips_21 : decode cX7_grips 21 = .ok (.iconst 0, 1) := by decide +kernel
theorem dX7_grips_22 : decode cX7_grips 22 = .ok (.putfield 284, 3) := by decide +kernel
theorem dX7_grips_25 : decode cX7_grips 25 = .ok (.aload_n 0, 1) := by decide +kernel
theorem dX7_grips_26 : decode cX7_grips 26 = .ok (.iload_n 1, 1) := by decide +kernel
theorem dX7_grips_27 : decode cX7_grips 27 = .ok (.invokevirtual 268, 3) := by decide +kernel
theorem dX7_grips_30 : decode cX7_grips 30 = .ok (.istore_n 2, 1) := by decide +kernel
theorem dX7_grips_31 : decode cX7_grips 31 = .ok (.iload_n 1, 1) := by decide +kernel
theorem dX7_grips_32 : decode cX7_grips 32 = .ok (.aload_n 0, 1) := by decide +kernel
theorem dX7_grips_33 : decode cX7_grips 33 = .ok (.getfield 58, 3) := by decide +kernel
theorem dX7_grips_36 : decode cX7_grips 36 = .ok (.if_icmp .eq 24, 3) := by decide +kernel
theorem dX7_grips_39 : decode cX7_grips 39 = .ok (.iload_n 2, 1) := by decide +kernel
theorem dX7_grips_40 : decode cX7_grips 40 = .ok (.iconst (-1), 1) := by decide +kernel
theorem dX7_grips_41 : decode cX7_grips 41 = .ok (.if_icmp .eq 19, 3) := by decide +kernel
theorem dX7_grips_44 : decode cX7_grips 44 = .ok (.iload_n 1, 1) := by decide +kernel
theorem dX7_grips_45 : decode cX7_grips 45 = .ok (.bipush 8, 2) := by decide +kernel
theorem dX7_grips_47 : decode cX7_grips 47 = .ok (.irem, 1) := by decide +kernel
theorem dX7_grips_48 : decode cX7_grips 48 = .ok (.iload_n 1, 1) := by decide +kernel
theorem dX7_grips_49 : decode cX7_grips 49 = .ok (.bipush 8, 2) := by decide +kernel
theorem dX7_grips_51 : decode cX7_grips 51 = .ok (.idiv, 1) := by decide +kernel
theorem dX7_grips_52 : decode cX7_grips 52 = .ok (.iadd, 1) := by decide +kernel
theorem dX7_grips_53 : decode cX7_grips 53 = .ok (.aload_n 0, 1) := by decide +kernel
theorem dX7_grips_54 : decode cX7_grips 54 = .ok (.getfield 61, 3) := by decide +kernel
theorem dX7_grips_57 : decode cX7_grips 57 = .ok (.if_icmp .le 4, 3) := by decide +kernel
theorem dX7_grips_60 : decode cX7_grips 60 = .ok (.return_, 1) := by decide +kernel
theorem dX7_grips_61 : decode cX7_grips 61 = .ok (.aload_n 0, 1) := by decide +kernel
theorem dX7_grips_62 : decode cX7_grips 62 = .ok (.iload_n 2, 1) := by decide +kernel
theorem dX7_grips_63 : decode cX7_grips 63 = .ok (.invokevirtual 287, 3) := by decide +kernel
theorem dX7_grips_66 : decode cX7_grips 66 = .ok (.iconst 0, 1) := by decide +kernel
theorem dX7_grips_67 : decode cX7_grips 67 = .ok (.istore_n 3, 1) := by decide +kernel
theorem dX7_grips_68 : decode cX7_grips 68 = .ok (.iload_n 3, 1) := by decide +kernel
theorem dX7_grips_69 : decode cX7_grips 69 = .ok (.iconst 4, 1) := by decide +kernel
theorem dX7_grips_70 : decode cX7_grips 70 = .ok (.if_icmp .ge 71, 3) := by decide +kernel
theorem dX7_grips_73 : decode cX7_grips 73 = .ok (.aload_n 0, 1) := by decide +kernel
theorem dX7_grips_74 : decode cX7_grips 74 = .ok (.getfield 36, 3) := by decide +kernel
theorem dX7_grips_77 : decode cX7_grips 77 = .ok (.iload_n 2, 1) := by decide +kernel
theorem dX7_grips_78 : decode cX7_grips 78 = .ok (.iaload, 1) := by decide +kernel
theorem dX7_grips_79 : decode cX7_grips 79 = .ok (.ifCond .le 62, 3) := by decide +kernel
theorem dX7_grips_82 : decode cX7_grips 82 = .ok (.iload_n 1, 1) := by decide +kernel
theorem dX7_grips_83 : decode cX7_grips 83 = .ok (.iload_n 3, 1) := by decide +kernel
theorem dX7_grips_84 : decode cX7_grips 84 = .ok (.invokestatic 290, 3) := by decide +kernel
theorem dX7_grips_87 : decode cX7_grips 87 = .ok (.istore 4, 2) := by decide +kernel
theorem dX7_grips_89 : decode cX7_grips 89 = .ok (.iload 4, 2) := by decide +kernel
theorem dX7_grips_91 : decode cX7_grips 91 = .ok (.iconst (-1), 1) := by decide +kernel
theorem dX7_grips_92 : decode cX7_grips 92 = .ok (.if_icmp .ne 7, 3) := by decide +kernel
theorem dX7_grips_95 : decode cX7_grips 95 = .ok (.iconst (-1), 1) := by decide +kernel
theorem dX7_grips_96 : decode cX7_grips 96 = .ok (.goto 9, 3) := by decide +kernel
theorem dX7_grips_99 : decode cX7_grips 99 = .ok (.aload_n 0, 1) := by decide +kernel
theorem dX7_grips_100 : decode cX7_grips 100 = .ok (.iload 4, 2) := by decide +kernel
theorem dX7_grips_102 : decode cX7_grips 102 = .ok (.invokevirtual 268, 3) := by decide +kernel
theorem dX7_grips_105 : decode cX7_grips 105 = .ok (.istore 5, 2) := by decide +kernel
theorem dX7_grips_107 : decode cX7_grips 107 = .ok (.iload 5, 2) := by decide +kernel
theorem dX7_grips_109 : decode cX7_grips 109 = .ok (.iconst (-1), 1) := by decide +kernel
theorem dX7_grips_110 : decode cX7_grips 110 = .ok (.if_icmp .eq 25, 3) := by decide +kernel
theorem dX7_grips_113 : decode cX7_grips 113 = .ok (.aload_n 0, 1) := by decide +kernel
theorem dX7_grips_114 : decode cX7_grips 114 = .ok (.getfield 36, 3) := by decide +kernel
theorem dX7_grips_117 : decode cX7_grips 117 = .ok (.iload 5, 2) := by decide +kernel
theorem dX7_grips_119 : decode cX7_grips 119 = .ok (.iaload, 1) := by decide +kernel
theorem dX7_grips_120 : decode cX7_grips 120 = .ok (.aload_n 0, 1) := by decide +kernel
theorem dX7_grips_121 : decode cX7_grips 121 = .ok (.getfield 36, 3) := by decide +kernel
theorem dX7_grips_124 : decode cX7_grips 124 = .ok (.iload_n 2, 1) := by decide +kernel
theorem dX7_grips_125 : decode cX7_grips 125 = .ok (.iaload, 1) := by decide +kernel
theorem dX7_grips_126 : decode cX7_grips 126 = .ok (.if_icmp .ne 9, 3) := by decide +kernel
theorem dX7_grips_129 : decode cX7_grips 129 = .ok (.aload_n 0, 1) := by decide +kernel
theorem dX7_grips_130 : decode cX7_grips 130 = .ok (.iload 5, 2) := by decide +kernel
theorem dX7_grips_132 : decode cX7_grips 132 = .ok (.invokevirtual 287, 3) := by decide +kernel
theorem dX7_grips_135 : decode cX7_grips 135 = .ok (.iinc 3 1, 3) := by decide +kernel
theorem dX7_grips_138 : decode cX7_grips 138 = .ok (.goto (-70), 3) := by decide +kernel
theorem dX7_grips_141 : decode cX7_grips 141 = .ok (.aload_n 0, 1) := by decide +kernel
theorem dX7_grips_142 : decode cX7_grips 142 = .ok (.aload_n 0, 1) := by decide +kernel
theorem dX7_grips_143 : decode cX7_grips 143 = .ok (.getfield 55, 3) := by decide +kernel
theorem dX7_grips_146 : decode cX7_grips 146 = .ok (.iload_n 1, 1) := by decide +kernel
theorem dX7_grips_147 : decode cX7_grips 147 = .ok (.iaload, 1) := by decide +kernel
theorem dX7_grips_148 : decode cX7_grips 148 = .ok (.bipush 9, 2) := by decide +kernel
theorem dX7_grips_150 : decode cX7_grips 150 = .ok (.if_icmp .le 7, 3) := by decide +kernel
theorem dX7_grips_153 : decode cX7_grips 153 = .ok (.iconst 0, 1) := by decide +kernel
theorem dX7_grips_154 : decode cX7_grips 154 = .ok (.goto 12, 3) := by decide +kernel
theorem dX7_grips_157 : decode cX7_grips 157 = .ok (.bipush 10, 2) := by decide +kernel
theorem dX7_grips_159 : decode cX7_grips 159 = .ok (.aload_n 0, 1) := by decide +kernel
theorem dX7_grips_160 : decode cX7_grips 160 = .ok (.getfield 55, 3) := by decide +kernel
theorem dX7_grips_163 : decode cX7_grips 163 = .ok (.iload_n 1, 1) := by decide +kernel
theorem dX7_grips_164 : decode cX7_grips 164 = .ok (.iaload, 1) := by decide +kernel
theorem dX7_grips_165 : decode cX7_grips 165 = .ok (.isub, 1) := by decide +kernel
theorem dX7_grips_166 : decode cX7_grips 166 = .ok (.putfield 278, 3) := by decide +kernel
theorem dX7_grips_169 : decode cX7_grips 169 = .ok (.aload_n 0, 1) := by decide +kernel
theorem dX7_grips_170 : decode cX7_grips 170 = .ok (.iconst 5, 1) := by decide +kernel
theorem dX7_grips_171 : decode cX7_grips 171 = .ok (.putfield 284, 3) := by decide +kernel
theorem dX7_grips_174 : decode cX7_grips 174 = .ok (.iconst 0, 1) := by decide +kernel
theorem dX7_grips_175 : decode cX7_grips 175 = .ok (.istore_n 3, 1) := by decide +kernel
theorem dX7_grips_176 : decode cX7_grips 176 = .ok (.iload_n 3, 1) := by decide +kernel
theorem dX7_grips_177 : decode cX7_grips 177 = .ok (.aload_n 0, 1) := by decide +kernel
theorem dX7_grips_178 : decode cX7_grips 178 = .ok (.getfield 272, 3) := by decide +kernel
theorem dX7_grips_181 : decode cX7_grips 181 = .ok (.if_icmp .ge 28, 3) := by decide +kernel
theorem dX7_grips_184 : decode cX7_grips 184 = .ok (.aload_n 0, 1) := by decide +kernel
theorem dX7_grips_185 : decode cX7_grips 185 = .ok (.getfield 48, 3) := by decide +kernel
theorem dX7_grips_188 : decode cX7_grips 188 = .ok (.aload_n 0, 1) := by decide +kernel
theorem dX7_grips_189 : decode cX7_grips 189 = .ok (.getfield 70, 3) := by decide +kernel
theorem dX7_grips_192 : decode cX7_grips 192 = .ok (.iload_n 3, 1) := by decide +kernel
theorem dX7_grips_193 : decode cX7_grips 193 = .ok (.iaload, 1) := by decide +kernel
theorem dX7_grips_194 : decode cX7_grips 194 = .ok (.baload, 1) := by decide +kernel
theorem dX7_grips_195 : decode cX7_grips 195 = .ok (.ifCond .eq 8, 3) := by decide +kernel
theorem dX7_grips_198 : decode cX7_grips 198 = .ok (.aload_n 0, 1) := by decide +kernel
theorem dX7_grips_199 : decode cX7_grips 199 = .ok (.iconst 4, 1) := by decide +kernel
theorem dX7_grips_200 : decode cX7_grips 200 = .ok (.putfield 284, 3) := by decide +kernel
theorem dX7_grips_203 : decode cX7_grips 203 = .ok (.iinc 3 1, 3) := by decide +kernel
theorem dX7_grips_206 : decode cX7_grips 206 = .ok (.goto (-30), 3) := by decide +kernel
theorem dX7_grips_209 : decode cX7_grips 209 = .ok (.return_, 1) := by decide +kernel
noncomputable def B_X7_grips_135 (k68 : (Int32 × Int32 × Int32) → fS → Option (Int32 × fS)) (a1 : Int32) (a2 : Int32) (a3 : Int32) (S : fS) : Option (Int32 × fS) := iv (a3 + Int32.ofInt 1) (fun x1 => k68 (a1, a2, x1) S)
noncomputable def B_X7_grips_105 (k68 : (Int32 × Int32 × Int32) → fS → Option (Int32 × fS)) (a1 : Int32) (a2 : Int32) (a3 : Int32) (t0 : Int32) (S : fS) : Option (Int32 × fS) := bb (t0 = ((-1) : Int32)) (B_X7_grips_135 k68 a1 a2 a3 S) (gd (ib t0 24) (iv (ge S 47 0 (t0 : Int32).toNatClampNeg) (fun x4 => gd (ib a2 24) (iv (ge S 47 0 (a2 : Int32).toNatClampNeg) (fun x6 => bb (x4 = x6) (bd (F_X7_takes t0 S) (fun v8 S9 => B_X7_grips_135 k68 a1 a2 a3 S9)) (B_X7_grips_135 k68 a1 a2 a3 S))))))
noncomputable def B_X7_grips_203 (k176 : (Int32) → fS → Option (Int32 × fS)) (a3 : Int32) (S : fS) : Option (Int32 × fS) := iv (a3 + Int32.ofInt 1) (fun x11 => k176 x11 S)
noncomputable def B_X7_grips_176 (k176 : (Int32) → fS → Option (Int32 × fS)) : (Int32) → fS → Option (Int32 × fS) := fun a3 S => iv (ge S 40 0 40) (fun x12 => bb (x12 ≤ a3) (some (0, S)) (gd (ib a3 5) (iv (ge S 55 0 (a3 : Int32).toNatClampNeg) (fun x15 => gd (ib x15 24) (iv (ge S 51 0 (x15 : Int32).toNatClampNeg) (fun x17 => bb (x17 = (0 : Int32)) (B_X7_grips_203 k176 a3 S) (sv (pu S 40 0 41 4) (fun S19 => B_X7_grips_203 k176 a3 S19))))))))
noncomputable def B_X7_grips_166 (t0 : Int32) (S : fS) : Option (Int32 × fS) := sv (pu S 40 0 45 t0) (fun S20 => sv (pu S20 40 0 41 5) (fun S21 => lp (B_X7_grips_176 ) fuel 0 S21))
noncomputable def B_X7_grips_141 (a1 : Int32) (S : fS) : Option (Int32 × fS) := gd (ib a1 64) (iv (ge S 54 0 (a1 : Int32).toNatClampNeg) (fun x23 => bb (x23 ≤ (9 : Int32)) (gd (ib a1 64) (iv (ge S 54 0 (a1 : Int32).toNatClampNeg) (fun x26 => iv ((10 : Int32) - x26) (fun x27 => B_X7_grips_166  x27 S)))) (B_X7_grips_166  0 S)))
noncomputable def B_X7_grips_68 (k68 : (Int32 × Int32 × Int32) → fS → Option (Int32 × fS)) : (Int32 × Int32 × Int32) → fS → Option (Int32 × fS) := fun ⟨a1, a2, a3⟩ S => bb ((4 : Int32) ≤ a3) (B_X7_grips_141  a1 S) (gd (ib a2 24) (iv (ge S 47 0 (a2 : Int32).toNatClampNeg) (fun x30 => bb (x30 ≤ (0 : Int32)) (B_X7_grips_141  a1 S) (bd (F_X7_beside a1 a3 S) (fun v32 S33 => bb (v32 = ((-1) : Int32)) (B_X7_grips_105 k68 a1 a2 a3 (-1) S33) (bd (F_X7_topOf v32 S33) (fun v36 S37 => B_X7_grips_105 k68 a1 a2 a3 v36 S37)))))))
noncomputable def F_X7_grips (p1 : Int32) (S0 : fS) : Option (Int32 × fS) := sv (pu S0 40 0 40 0) (fun S39 => sv (pu S39 40 0 44 0) (fun S40 => sv (pu S40 40 0 45 0) (fun S41 => sv (pu S41 40 0 42 (-1)) (fun S42 => sv (pu S42 40 0 41 0) (fun S43 => bd (F_X7_topOf p1 S43) (fun v44 S45 => iv (ge S45 40 0 30) (fun x47 => bb (p1 = x47) (some (0, S45)) (bb (v44 = ((-1) : Int32)) (some (0, S45)) (iv (p1 - p1 / (8 : Int32) * (8 : Int32)) (fun x50 => iv (p1 / (8 : Int32)) (fun x51 => iv (x50 + x51) (fun x52 => iv (ge S45 40 0 31) (fun x53 => bb (x52 ≤ x53) (bd (F_X7_takes v44 S45) (fun v55 S56 => lp (B_X7_grips_68 ) fuel (p1, v44, 0) S56)) (some (0, S45)))))))))))))))
set_option maxHeartbeats 4000000 in
set_option maxRecDepth 100000 in
theorem c_X7_grips (l : Launch) (D : va_G) (K : Nat → ClassId) (b0 : Nat) (sa : sT) (sz : Nat) (L : List Nat) (f0 : Nat → va_E) (ad : Nat → Nat → Nat) (P : Nat → Nat → Prop) {n : Nat × Nat} (hP : ∀ a i : Nat, isn n a i → P a i) (S0 : fS) (hw : PW K ad P S0 L f0) (hn : S0.2.2.1 = n) (p1 : Int32) (v : Int32) (S1 : fS) (h : F_X7_grips p1 S0 = some (v, S1)) : Met l yX7_grips (.code yX7_grips cX7_grips 6 none :: gt) { frames := 1, cells := 0, slots := 0, locals := 23 } (va_Pc [.ref (ad 40 0), .int p1] (hPre D K b0 sa sz L f0)) (hQ D K b0 (fun v9 u9 => ∃ f2 : Nat → va_E, v9 = none ∧ u9 = lU L f2 ∧ PW K ad P S1 L f2 ∧ S1.2.2.1 = n ∧ Kp ad P L f0 f2)) 0 0 (fun q => b0 ≤ q) := by
  refine t_of (own := RX7) (by decide) rfl ?_ (Nat.le_of_ble_eq_true rfl)
  intro p e s m below meth c ls C w hsz hr hlk hnm hl
  have hx := C.1
  have hb := C.2.1
  have hl : lv_has ls 6 [(0, .ref (ad 40 0)), (1, .int p1)] := hl
  have J135 : ∀ (k68 : (Int32 × Int32 × Int32) → fS → Option (Int32 × fS)) (hk68 : ∀ (a1 : Int32) (a2 : Int32) (a3 : Int32) (S : fS), k68 (a1, a2, a3) S = some (v, S1) → Gw D K b0 sa ad P n L f0 p l e { frames := 1, cells := 0, slots := 0, locals := 23 } s m [.ref (ad 40 0), .int p1].toArray below meth c 6 (MQ below (hQ D K b0 (fun v9 u9 => ∃ f2 : Nat → va_E, v9 = none ∧ u9 = lU L f2 ∧ PW K ad P S1 L f2 ∧ S1.2.2.1 = n ∧ Kp ad P L f0 f2)) [.ref (ad 40 0), .int p1].toArray s 0 0 (fun q => b0 ≤ q)) 0 0 68 [(0, .ref (ad 40 0)), (1, .int a1), (2, .int a2), (3, .int a3)] [] S) (a1 : Int32) (a2 : Int32) (a3 : Int32) (S : fS), B_X7_grips_135 k68 a1 a2 a3 S = some (v, S1) → Gw D K b0 sa ad P n L f0 p l e { frames := 1, cells := 0, slots := 0, locals := 23 } s m [.ref (ad 40 0), .int p1].toArray below meth c 6 (MQ below (hQ D K b0 (fun v9 u9 => ∃ f2 : Nat → va_E, v9 = none ∧ u9 = lU L f2 ∧ PW K ad P S1 L f2 ∧ S1.2.2.1 = n ∧ Kp ad P L f0 f2)) [.ref (ad 40 0), .int p1].toArray s 0 0 (fun q => b0 ≤ q)) 0 0 135 [(0, .ref (ad 40 0)), (1, .int a1), (2, .int a2), (3, .int a3)] [] S := by
    intro k68 hk68 a1 a2 a3 S h
    dsimp only [B_X7_grips_135] at h
    intro f H locs w hw hn hk ls hl
    obtain ⟨x1, ex1, h⟩ := iv_some h
    refine lv_iinc (v := x1) (lv' := [(3, .int x1), (0, .ref (ad 40 0)), (1, .int a1), (2, .int a2)]) hx hb dX7_grips_135 hl (k := 3) rfl ex1.symm (by decide) rfl (fun ls hl => ?_)
    refine lv_goto (tgt := 68) hx hb dX7_grips_138 (by decide) ?_
    exact hk68 a1 a2 x1 S h f H locs w hw hn hk ls (lv_sub hl [1, 2, 3, 0] rfl)
  have J105 : ∀ (k68 : (Int32 × Int32 × Int32) → fS → Option (Int32 × fS)) (hk68 : ∀ (a1 : Int32) (a2 : Int32) (a3 : Int32) (S : fS), k68 (a1, a2, a3) S = some (v, S1) → Gw D K b0 sa ad P n L f0 p l e { frames := 1, cells := 0, slots := 0, locals := 23 } s m [.ref (ad 40 0), .int p1].toArray below meth c 6 (MQ below (hQ D K b0 (fun v9 u9 => ∃ f2 : Nat → va_E, v9 = none ∧ u9 = lU L f2 ∧ PW K ad P S1 L f2 ∧ S1.2.2.1 = n ∧ Kp ad P L f0 f2)) [.ref (ad 40 0), .int p1].toArray s 0 0 (fun q => b0 ≤ q)) 0 0 68 [(0, .ref (ad 40 0)), (1, .int a1), (2, .int a2), (3, .int a3)] [] S) (a1 : Int32) (a2 : Int32) (a3 : Int32) (t0 : Int32) (S : fS), B_X7_grips_105 k68 a1 a2 a3 t0 S = some (v, S1) → Gw D K b0 sa ad P n L f0 p l e { frames := 1, cells := 0, slots := 0, locals := 23 } s m [.ref (ad 40 0), .int p1].toArray below meth c 6 (MQ below (hQ D K b0 (fun v9 u9 => ∃ f2 : Nat → va_E, v9 = none ∧ u9 = lU L f2 ∧ PW K ad P S1 L f2 ∧ S1.2.2.1 = n ∧ Kp ad P L f0 f2)) [.ref (ad 40 0), .int p1].toArray s 0 0 (fun q => b0 ≤ q)) 0 0 105 [(0, .ref (ad 40 0)), (1, .int a1), (2, .int a2), (3, .int a3)] [.int t0] S := by
    intro k68 hk68 a1 a2 a3 t0 S h
    dsimp only [B_X7_grips_105] at h
    intro f H locs w hw hn hk ls hl
    refine lv_istore (lv' := [(5, .int t0), (0, .ref (ad 40 0)), (1, .int a1), (2, .int a2), (3, .int a3)]) hx hb dX7_grips_105 hl (by decide) rfl (fun ls hl => ?_)
    refine lv_iload hx hb dX7_grips_107 (lv_at hl 0 rfl) ?_
    refine lv_iconst (v := (-1)) hx hb dX7_grips_109 (by decide) ?_
    refine lv_icmp_eq (tgt := 135) hx hb dX7_grips_110 (by decide) (fun c2 => ?_) (fun c2 => ?_)
    · have h := bb_t h c2
      exact J135 k68 hk68 a1 a2 a3 S h f H locs w hw hn hk ls (lv_sub hl [1, 2, 3, 4] rfl)
    · have h := bb_f h c2
      refine lv_aload_n hx hb dX7_grips_113 rfl (lv_at hl 1 rfl) ?_
      refine u_getr C w hw (hP _ _ (isn_f rfl rfl (by decide))) rfl (N := 57) rfl rfl cin_7 23 (by decide) (by decide) (a2 := 47) (i2 := 0) rfl gw_1179 dX7_grips_114 ?_
      refine lv_iload hx hb dX7_grips_117 (lv_at hl 0 rfl) ?_
      obtain ⟨g3, h⟩ := gd_some h
      refine u_iald C w hw (hP _ _ (isn_f rfl rfl (by decide))) rfl rfl (n := 24) rfl (vp_in_iff.mpr g3) dX7_grips_119 ?_
      refine u_iv h (fun x4 h => ?_)
      refine lv_aload_n hx hb dX7_grips_120 rfl (lv_at hl 1 rfl) ?_
      refine u_getr C w hw (hP _ _ (isn_f rfl rfl (by decide))) rfl (N := 57) rfl rfl cin_7 23 (by decide) (by decide) (a2 := 47) (i2 := 0) rfl gw_1179 dX7_grips_121 ?_
      refine lv_iload_n hx hb dX7_grips_124 rfl (lv_at hl 3 rfl) ?_
      obtain ⟨g5, h⟩ := gd_some h
      refine u_iald C w hw (hP _ _ (isn_f rfl rfl (by decide))) rfl rfl (n := 24) rfl (vp_in_iff.mpr g5) dX7_grips_125 ?_
      refine u_iv h (fun x6 h => ?_)
      refine lv_icmp_ne (tgt := 135) hx hb dX7_grips_126 (by decide) (fun c7 => ?_) (fun c7 => ?_)
      · have h := bb_f h c7
        exact J135 k68 hk68 a1 a2 a3 S h f H locs w hw hn hk ls (lv_sub hl [1, 2, 3, 4] rfl)
      · have h := bb_t h c7
        refine lv_aload_n hx hb dX7_grips_129 rfl (lv_at hl 1 rfl) ?_
        refine lv_iload hx hb dX7_grips_130 (lv_at hl 0 rfl) ?_
        obtain ⟨v8, S9, h10, h⟩ := bd_some h
        refine u_callV (n := 1) C w hw (hP _ _ (isn_f rfl rfl (by decide))) rfl rfl rfl (c_X7_takes l D K b0 sa _ L _ ad P hP S hw hn t0 v8 S9 h10) gw_1535 gw_1532 gw_1534 gs_54 gw_8 ⟨by decide, by decide, by decide +kernel⟩ rfl rfl ⟨by decide, by decide⟩ rfl hl.1 rfl (Nat.le_of_ble_eq_true rfl) dX7_grips_132 ⟨Nat.le_of_ble_eq_true rfl, Nat.le_of_ble_eq_true rfl⟩ (fun v9 u H locs hp w => ?_)
        obtain ⟨f2, rfl, rfl, hw, hn, hk1⟩ := hp
        have hk := hk.tr hk1
        generalize f2 = f at w hw hk
        exact J135 k68 hk68 a1 a2 a3 S9 h f H locs w hw hn hk ls (lv_sub hl [1, 2, 3, 4] rfl)
  have J203 : ∀ (k176 : (Int32) → fS → Option (Int32 × fS)) (hk176 : ∀ (a3 : Int32) (S : fS), k176 a3 S = some (v, S1) → Gw D K b0 sa ad P n L f0 p l e { frames := 1, cells := 0, slots := 0, locals := 23 } s m [.ref (ad 40 0), .int p1].toArray below meth c 6 (MQ below (hQ D K b0 (fun v9 u9 => ∃ f2 : Nat → va_E, v9 = none ∧ u9 = lU L f2 ∧ PW K ad P S1 L f2 ∧ S1.2.2.1 = n ∧ Kp ad P L f0 f2)) [.ref (ad 40 0), .int p1].toArray s 0 0 (fun q => b0 ≤ q)) 0 0 176 [(0, .ref (ad 40 0)), (3, .int a3)] [] S) (a3 : Int32) (S : fS), B_X7_grips_203 k176 a3 S = some (v, S1) → Gw D K b0 sa ad P n L f0 p l e { frames := 1, cells := 0, slots := 0, locals := 23 } s m [.ref (ad 40 0), .int p1].toArray below meth c 6 (MQ below (hQ D K b0 (fun v9 u9 => ∃ f2 : Nat → va_E, v9 = none ∧ u9 = lU L f2 ∧ PW K ad P S1 L f2 ∧ S1.2.2.1 = n ∧ Kp ad P L f0 f2)) [.ref (ad 40 0), .int p1].toArray s 0 0 (fun q => b0 ≤ q)) 0 0 203 [(0, .ref (ad 40 0)), (3, .int a3)] [] S := by
    intro k176 hk176 a3 S h
    dsimp only [B_X7_grips_203] at h
    intro f H locs w hw hn hk ls hl
    obtain ⟨x11, ex11, h⟩ := iv_some h
    refine lv_iinc (v := x11) (lv' := [(3, .int x11), (0, .ref (ad 40 0))]) hx hb dX7_grips_203 hl (k := 1) rfl ex11.symm (by decide) rfl (fun ls hl => ?_)
    refine lv_goto (tgt := 176) hx hb dX7_grips_206 (by decide) ?_
    exact hk176 x11 S h f H locs w hw hn hk ls (lv_sub hl [1, 0] rfl)
  have J176 : ∀ (fu : Nat) (a3 : Int32) (S : fS), lp (B_X7_grips_176 ) fu a3 S = some (v, S1) → Gw D K b0 sa ad P n L f0 p l e { frames := 1, cells := 0, slots := 0, locals := 23 } s m [.ref (ad 40 0), .int p1].toArray below meth c 6 (MQ below (hQ D K b0 (fun v9 u9 => ∃ f2 : Nat → va_E, v9 = none ∧ u9 = lU L f2 ∧ PW K ad P S1 L f2 ∧ S1.2.2.1 = n ∧ Kp ad P L f0 f2)) [.ref (ad 40 0), .int p1].toArray s 0 0 (fun q => b0 ≤ q)) 0 0 176 [(0, .ref (ad 40 0)), (3, .int a3)] [] S := by
    intro fu a3 S h
    refine lp_some (G := (fun q S => Gw D K b0 sa ad P n L f0 p l e { frames := 1, cells := 0, slots := 0, locals := 23 } s m [.ref (ad 40 0), .int p1].toArray below meth c 6 (MQ below (hQ D K b0 (fun v9 u9 => ∃ f2 : Nat → va_E, v9 = none ∧ u9 = lU L f2 ∧ PW K ad P S1 L f2 ∧ S1.2.2.1 = n ∧ Kp ad P L f0 f2)) [.ref (ad 40 0), .int p1].toArray s 0 0 (fun q => b0 ≤ q)) 0 0 176 [(0, .ref (ad 40 0)), (3, .int q)] [] S)) (fun k176 hk176 q S h => ?_) fu a3 S h
    obtain ⟨a3, e9⟩ : ∃ z, z = q := ⟨_, rfl⟩
    subst e9
    dsimp only [B_X7_grips_176] at h
    intro f H locs w hw hn hk ls hl
    refine lv_iload_n hx hb dX7_grips_176 rfl (lv_at hl 1 rfl) ?_
    refine lv_aload_n hx hb dX7_grips_177 rfl (lv_at hl 0 rfl) ?_
    refine u_geti C w hw (hP _ _ (isn_f rfl rfl (by decide))) rfl (N := 57) rfl rfl cin_7 40 (by decide) rfl gw_1196 dX7_grips_178 ?_
    refine u_iv h (fun x12 h => ?_)
    refine lv_icmp_ge (tgt := 209) hx hb dX7_grips_181 (by decide) (fun c13 => ?_) (fun c13 => ?_)
    · have h := bb_t h c13
      exact t_vret C hr hlk w ⟨_, rfl, rfl, so_w h hw, so_n h hn, hk⟩ (by decide) (by decide) dX7_grips_209
    · have h := bb_f h c13
      refine lv_aload_n hx hb dX7_grips_184 rfl (lv_at hl 0 rfl) ?_
      refine u_getr C w hw (hP _ _ (isn_f rfl rfl (by decide))) rfl (N := 57) rfl rfl cin_7 27 (by decide) (by decide) (a2 := 51) (i2 := 0) rfl gw_1183 dX7_grips_185 ?_
      refine lv_aload_n hx hb dX7_grips_188 rfl (lv_at hl 0 rfl) ?_
      refine u_getr C w hw (hP _ _ (isn_f rfl rfl (by decide))) rfl (N := 57) rfl rfl cin_7 39 (by decide) (by decide) (a2 := 55) (i2 := 0) rfl gw_1195 dX7_grips_189 ?_
      refine lv_iload_n hx hb dX7_grips_192 rfl (lv_at hl 1 rfl) ?_
      obtain ⟨g14, h⟩ := gd_some h
      refine u_iald C w hw (hP _ _ (isn_f rfl rfl (by decide))) rfl rfl (n := 5) rfl (vp_in_iff.mpr g14) dX7_grips_193 ?_
      refine u_iv h (fun x15 h => ?_)
      obtain ⟨g16, h⟩ := gd_some h
      refine u_zald C w hw (hP _ _ (isn_f rfl rfl (by decide))) rfl rfl (n := 24) rfl (vp_in_iff.mpr g16) dX7_grips_194 ?_
      refine u_iv h (fun x17 h => ?_)
      refine lv_if_eq (tgt := 203) hx hb dX7_grips_195 (by decide) (fun c18 => ?_) (fun c18 => ?_)
      · have h := bb_t h c18
        exact J203 k176 hk176 a3 S h f H locs w hw hn hk ls (lv_sub hl [0, 1] rfl)
      · have h := bb_f h c18
        refine lv_aload_n hx hb dX7_grips_198 rfl (lv_at hl 0 rfl) ?_
        refine lv_iconst (v := 4) hx hb dX7_grips_199 (by decide) ?_
        refine u_puti C w hw (hP _ _ (isn_f rfl rfl (by decide))) rfl (N := 57) rfl rfl cin_7 tyX7 tyX7_ok nmX7 41 (by decide) rfl rfl rfl rfl gw_1197 dX7_grips_200 (fun f H locs w hw hk1 => ?_)
        have hk := hk.tr hk1
        refine u_sv h hw hn (fun S19 h hw hn => ?_)
        exact J203 k176 hk176 a3 S19 h f H locs w hw hn hk ls (lv_sub hl [0, 1] rfl)
  have J166 : ∀ (t0 : Int32) (S : fS), B_X7_grips_166  t0 S = some (v, S1) → Gw D K b0 sa ad P n L f0 p l e { frames := 1, cells := 0, slots := 0, locals := 23 } s m [.ref (ad 40 0), .int p1].toArray below meth c 6 (MQ below (hQ D K b0 (fun v9 u9 => ∃ f2 : Nat → va_E, v9 = none ∧ u9 = lU L f2 ∧ PW K ad P S1 L f2 ∧ S1.2.2.1 = n ∧ Kp ad P L f0 f2)) [.ref (ad 40 0), .int p1].toArray s 0 0 (fun q => b0 ≤ q)) 0 0 166 [(0, .ref (ad 40 0))] [.int t0, .ref (ad 40 0)] S := by
    intro t0 S h
    dsimp only [B_X7_grips_166] at h
    intro f H locs w hw hn hk ls hl
    refine u_puti C w hw (hP _ _ (isn_f rfl rfl (by decide))) rfl (N := 57) rfl rfl cin_7 tyX7 tyX7_ok nmX7 45 (by decide) rfl rfl rfl rfl gw_1201 dX7_grips_166 (fun f H locs w hw hk1 => ?_)
    have hk := hk.tr hk1
    refine u_sv h hw hn (fun S20 h hw hn => ?_)
    refine lv_aload_n hx hb dX7_grips_169 rfl (lv_at hl 0 rfl) ?_
    refine lv_iconst (v := 5) hx hb dX7_grips_170 (by decide) ?_
    refine u_puti C w hw (hP _ _ (isn_f rfl rfl (by decide))) rfl (N := 57) rfl rfl cin_7 tyX7 tyX7_ok nmX7 41 (by decide) rfl rfl rfl rfl gw_1197 dX7_grips_171 (fun f H locs w hw hk1 => ?_)
    have hk := hk.tr hk1
    refine u_sv h hw hn (fun S21 h hw hn => ?_)
    refine lv_iconst (v := 0) hx hb dX7_grips_174 (by decide) ?_
    refine lv_istore_n (lv' := [(3, .int 0), (0, .ref (ad 40 0))]) hx hb dX7_grips_175 rfl hl (by decide) rfl (fun ls hl => ?_)
    exact J176  fuel 0 S21 h f H locs w hw hn hk ls (lv_sub hl [1, 0] rfl)
  have J141 : ∀ (a1 : Int32) (S : fS), B_X7_grips_141  a1 S = some (v, S1) → Gw D K b0 sa ad P n L f0 p l e { frames := 1, cells := 0, slots := 0, locals := 23 } s m [.ref (ad 40 0), .int p1].toArray below meth c 6 (MQ below (hQ D K b0 (fun v9 u9 => ∃ f2 : Nat → va_E, v9 = none ∧ u9 = lU L f2 ∧ PW K ad P S1 L f2 ∧ S1.2.2.1 = n ∧ Kp ad P L f0 f2)) [.ref (ad 40 0), .int p1].toArray s 0 0 (fun q => b0 ≤ q)) 0 0 141 [(0, .ref (ad 40 0)), (1, .int a1)] [] S := by
    intro a1 S h
    dsimp only [B_X7_grips_141] at h
    intro f H locs w hw hn hk ls hl
    refine lv_aload_n hx hb dX7_grips_141 rfl (lv_at hl 0 rfl) ?_
    refine lv_aload_n hx hb dX7_grips_142 rfl (lv_at hl 0 rfl) ?_
    refine u_getr C w hw (hP _ _ (isn_f rfl rfl (by decide))) rfl (N := 57) rfl rfl cin_7 29 (by decide) (by decide) (a2 := 54) (i2 := 0) rfl gw_1185 dX7_grips_143 ?_
    refine lv_iload_n hx hb dX7_grips_146 rfl (lv_at hl 1 rfl) ?_
    obtain ⟨g22, h⟩ := gd_some h
    refine u_iald C w hw (hP _ _ (isn_f rfl rfl (by decide))) rfl rfl (n := 64) rfl (vp_in_iff.mpr g22) dX7_grips_147 ?_
    refine u_iv h (fun x23 h => ?_)
    refine lv_bipush (v := 9) hx hb dX7_grips_148 (by decide) ?_
    refine lv_icmp_le (tgt := 157) hx hb dX7_grips_150 (by decide) (fun c24 => ?_) (fun c24 => ?_)
    · have h := bb_t h c24
      refine lv_bipush (v := 10) hx hb dX7_grips_157 (by decide) ?_
      refine lv_aload_n hx hb dX7_grips_159 rfl (lv_at hl 0 rfl) ?_
      refine u_getr C w hw (hP _ _ (isn_f rfl rfl (by decide))) rfl (N := 57) rfl rfl cin_7 29 (by decide) (by decide) (a2 := 54) (i2 := 0) rfl gw_1185 dX7_grips_160 ?_
      refine lv_iload_n hx hb dX7_grips_163 rfl (lv_at hl 1 rfl) ?_
      obtain ⟨g25, h⟩ := gd_some h
      refine u_iald C w hw (hP _ _ (isn_f rfl rfl (by decide))) rfl rfl (n := 64) rfl (vp_in_iff.mpr g25) dX7_grips_164 ?_
      refine u_iv h (fun x26 h => ?_)
      refine lv_isub hx hb dX7_grips_165 ?_
      refine u_iv h (fun x27 h => ?_)
      exact J166  x27 S h f H locs w hw hn hk ls (lv_sub hl [0] rfl)
    · have h := bb_f h c24
      refine lv_iconst (v := 0) hx hb dX7_grips_153 (by decide) ?_
      refine lv_goto (tgt := 166) hx hb dX7_grips_154 (by decide) ?_
      exact J166  0 S h f H locs w hw hn hk ls (lv_sub hl [0] rfl)
  have J68 : ∀ (fu : Nat) (a1 : Int32) (a2 : Int32) (a3 : Int32) (S : fS), lp (B_X7_grips_68 ) fu (a1, a2, a3) S = some (v, S1) → Gw D K b0 sa ad P n L f0 p l e { frames := 1, cells := 0, slots := 0, locals := 23 } s m [.ref (ad 40 0), .int p1].toArray below meth c 6 (MQ below (hQ D K b0 (fun v9 u9 => ∃ f2 : Nat → va_E, v9 = none ∧ u9 = lU L f2 ∧ PW K ad P S1 L f2 ∧ S1.2.2.1 = n ∧ Kp ad P L f0 f2)) [.ref (ad 40 0), .int p1].toArray s 0 0 (fun q => b0 ≤ q)) 0 0 68 [(0, .ref (ad 40 0)), (1, .int a1), (2, .int a2), (3, .int a3)] [] S := by
    intro fu a1 a2 a3 S h
    refine lp_some (G := (fun q S => Gw D K b0 sa ad P n L f0 p l e { frames := 1, cells := 0, slots := 0, locals := 23 } s m [.ref (ad 40 0), .int p1].toArray below meth c 6 (MQ below (hQ D K b0 (fun v9 u9 => ∃ f2 : Nat → va_E, v9 = none ∧ u9 = lU L f2 ∧ PW K ad P S1 L f2 ∧ S1.2.2.1 = n ∧ Kp ad P L f0 f2)) [.ref (ad 40 0), .int p1].toArray s 0 0 (fun q => b0 ≤ q)) 0 0 68 [(0, .ref (ad 40 0)), (1, .int q.1), (2, .int q.2.1), (3, .int q.2.2)] [] S)) (fun k68 hk68 q S h => ?_) fu (a1, a2, a3) S h
    obtain ⟨a1, a2, a3⟩ := q
    have hk68 : ∀ (a1 : Int32) (a2 : Int32) (a3 : Int32) (S : fS), k68 (a1, a2, a3) S = some (v, S1) → Gw D K b0 sa ad P n L f0 p l e { frames := 1, cells := 0, slots := 0, locals := 23 } s m [.ref (ad 40 0), .int p1].toArray below meth c 6 (MQ below (hQ D K b0 (fun v9 u9 => ∃ f2 : Nat → va_E, v9 = none ∧ u9 = lU L f2 ∧ PW K ad P S1 L f2 ∧ S1.2.2.1 = n ∧ Kp ad P L f0 f2)) [.ref (ad 40 0), .int p1].toArray s 0 0 (fun q => b0 ≤ q)) 0 0 68 [(0, .ref (ad 40 0)), (1, .int a1), (2, .int a2), (3, .int a3)] [] S := fun a1 a2 a3 S h => hk68 (a1, a2, a3) S h
    dsimp only [B_X7_grips_68] at h
    intro f H locs w hw hn hk ls hl
    refine lv_iload_n hx hb dX7_grips_68 rfl (lv_at hl 3 rfl) ?_
    refine lv_iconst (v := 4) hx hb dX7_grips_69 (by decide) ?_
    refine lv_icmp_ge (tgt := 141) hx hb dX7_grips_70 (by decide) (fun c28 => ?_) (fun c28 => ?_)
    · have h := bb_t h c28
      exact J141  a1 S h f H locs w hw hn hk ls (lv_sub hl [0, 1] rfl)
    · have h := bb_f h c28
      refine lv_aload_n hx hb dX7_grips_73 rfl (lv_at hl 0 rfl) ?_
      refine u_getr C w hw (hP _ _ (isn_f rfl rfl (by decide))) rfl (N := 57) rfl rfl cin_7 23 (by decide) (by decide) (a2 := 47) (i2 := 0) rfl gw_1179 dX7_grips_74 ?_
      refine lv_iload_n hx hb dX7_grips_77 rfl (lv_at hl 2 rfl) ?_
      obtain ⟨g29, h⟩ := gd_some h
      refine u_iald C w hw (hP _ _ (isn_f rfl rfl (by decide))) rfl rfl (n := 24) rfl (vp_in_iff.mpr g29) dX7_grips_78 ?_
      refine u_iv h (fun x30 h => ?_)
      refine lv_if_le (tgt := 141) hx hb dX7_grips_79 (by decide) (fun c31 => ?_) (fun c31 => ?_)
      · have h := bb_t h c31
        exact J141  a1 S h f H locs w hw hn hk ls (lv_sub hl [0, 1] rfl)
      · have h := bb_f h c31
        refine lv_iload_n hx hb dX7_grips_82 rfl (lv_at hl 1 rfl) ?_
        refine lv_iload_n hx hb dX7_grips_83 rfl (lv_at hl 3 rfl) ?_
        obtain ⟨v32, S33, h34, h⟩ := bd_some h
        refine t_callS (n := 2) C w (c_X7_beside l D K b0 sa _ L _ ad P hP S hw hn a1 a3 v32 S33 h34) gw_1538 gw_1536 gw_1537 gw_8 ⟨by decide, by decide, by decide +kernel⟩ rfl rfl ⟨by decide, by decide⟩ rfl hl.1 rfl (Nat.le_of_ble_eq_true rfl) dX7_grips_84 ⟨Nat.le_of_ble_eq_true rfl, Nat.le_of_ble_eq_true rfl⟩ (fun v9 u H locs hp w => ?_)
        obtain ⟨f2, rfl, rfl, hw, hn, hk1⟩ := hp
        have hk := hk.tr hk1
        generalize f2 = f at w hw hk
        refine lv_istore (lv' := [(4, .int v32), (0, .ref (ad 40 0)), (1, .int a1), (2, .int a2), (3, .int a3)]) hx hb dX7_grips_87 hl (by decide) rfl (fun ls hl => ?_)
        refine lv_iload hx hb dX7_grips_89 (lv_at hl 0 rfl) ?_
        refine lv_iconst (v := (-1)) hx hb dX7_grips_91 (by decide) ?_
        refine lv_icmp_ne (tgt := 99) hx hb dX7_grips_92 (by decide) (fun c35 => ?_) (fun c35 => ?_)
        · have h := bb_f h c35
          refine lv_aload_n hx hb dX7_grips_99 rfl (lv_at hl 1 rfl) ?_
          refine lv_iload hx hb dX7_grips_100 (lv_at hl 0 rfl) ?_
          obtain ⟨v36, S37, h38, h⟩ := bd_some h
          refine u_callV (n := 1) C w hw (hP _ _ (isn_f rfl rfl (by decide))) rfl rfl rfl (c_X7_topOf l D K b0 sa _ L _ ad P hP S33 hw hn v32 v36 S37 h38) gw_1499 gw_1496 gw_1498 gs_49 gw_8 ⟨by decide, by decide, by decide +kernel⟩ rfl rfl ⟨by decide, by decide⟩ rfl hl.1 rfl (Nat.le_of_ble_eq_true rfl) dX7_grips_102 ⟨Nat.le_of_ble_eq_true rfl, Nat.le_of_ble_eq_true rfl⟩ (fun v9 u H locs hp w => ?_)
          obtain ⟨f2, rfl, rfl, hw, hn, hk1⟩ := hp
          have hk := hk.tr hk1
          generalize f2 = f at w hw hk
          exact J105 k68 hk68 a1 a2 a3 v36 S37 h f H locs w hw hn hk ls (lv_sub hl [1, 2, 3, 4] rfl)
        · have h := bb_t h c35
          refine lv_iconst (v := (-1)) hx hb dX7_grips_95 (by decide) ?_
          refine lv_goto (tgt := 105) hx hb dX7_grips_96 (by decide) ?_
          exact J105 k68 hk68 a1 a2 a3 (-1) S33 h f H locs w hw hn hk ls (lv_sub hl [1, 2, 3, 4] rfl)
  dsimp only [F_X7_grips] at h
  obtain ⟨f, ef⟩ : ∃ z, z = f0 := ⟨_, rfl⟩
  rw [← ef] at w hw
  have hk : Kp ad P L f0 f := by rw [ef]; exact Kp.rf
  obtain ⟨H, eH⟩ : ∃ z, z = s.heap := ⟨_, rfl⟩
  obtain ⟨locs, el⟩ : ∃ z : List Loc, z = [] := ⟨_, rfl⟩
  rw [← eH, ← el] at w ⊢
  refine lv_aload_n hx hb dX7_grips_0 rfl (lv_at hl 0 rfl) ?_
  refine lv_iconst (v := 0) hx hb dX7_grips_1 (by decide) ?_
  refine u_puti C w hw (hP _ _ (isn_f rfl rfl (by decide))) rfl (N := 57) rfl rfl cin_7 tyX7 tyX7_ok nmX7 40 (by decide) rfl rfl rfl rfl gw_1196 dX7_grips_2 (fun f H locs w hw hk1 => ?_)
  have hk := hk.tr hk1
  refine u_sv h hw hn (fun S39 h hw hn => ?_)
  refine lv_aload_n hx hb dX7_grips_5 rfl (lv_at hl 0 rfl) ?_
  refine lv_iconst (v := 0) hx hb dX7_grips_6 (by decide) ?_
  refine u_puti C w hw (hP _ _ (isn_f rfl rfl (by decide))) rfl (N := 57) rfl rfl cin_7 tyX7 tyX7_ok nmX7 44 (by decide) rfl rfl rfl rfl gw_1200 dX7_grips_7 (fun f H locs w hw hk1 => ?_)
  have hk := hk.tr hk1
  refine u_sv h hw hn (fun S40 h hw hn => ?_)
  refine lv_aload_n hx hb dX7_grips_10 rfl (lv_at hl 0 rfl) ?_
  refine lv_iconst (v := 0) hx hb dX7_grips_11 (by decide) ?_
  refine u_puti C w hw (hP _ _ (isn_f rfl rfl (by decide))) rfl (N := 57) rfl rfl cin_7 tyX7 tyX7_ok nmX7 45 (by decide) rfl rfl rfl rfl gw_1201 dX7_grips_12 (fun f H locs w hw hk1 => ?_)
  have hk := hk.tr hk1
  refine u_sv h hw hn (fun S41 h hw hn => ?_)
  refine lv_aload_n hx hb dX7_grips_15 rfl (lv_at hl 0 rfl) ?_
  refine lv_iconst (v := (-1)) hx hb dX7_grips_16 (by decide) ?_
  refine u_puti C w hw (hP _ _ (isn_f rfl rfl (by decide))) rfl (N := 57) rfl rfl cin_7 tyX7 tyX7_ok nmX7 42 (by decide) rfl rfl rfl rfl gw_1198 dX7_grips_17 (fun f H locs w hw hk1 => ?_)
  have hk := hk.tr hk1
  refine u_sv h hw hn (fun S42 h hw hn => ?_)
  refine lv_aload_n hx hb dX7_grips_20 rfl (lv_at hl 0 rfl) ?_
  refine lv_iconst (v := 0) hx hb dX7_grips_21 (by decide) ?_
  refine u_puti C w hw (hP _ _ (isn_f rfl rfl (by decide))) rfl (N := 57) rfl rfl cin_7 tyX7 tyX7_ok nmX7 41 (by decide) rfl rfl rfl rfl gw_1197 dX7_grips_22 (fun f H locs w hw hk1 => ?_)
  have hk := hk.tr hk1
  refine u_sv h hw hn (fun S43 h hw hn => ?_)
  refine lv_aload_n hx hb dX7_grips_25 rfl (lv_at hl 0 rfl) ?_
  refine lv_iload_n hx hb dX7_grips_26 rfl (lv_at hl 1 rfl) ?_
  obtain ⟨v44, S45, h46, h⟩ := bd_some h
  refine u_callV (n := 1) C w hw (hP _ _ (isn_f rfl rfl (by decide))) rfl rfl rfl (c_X7_topOf l D K b0 sa _ L _ ad P hP S43 hw hn p1 v44 S45 h46) gw_1499 gw_1496 gw_1498 gs_49 gw_8 ⟨by decide, by decide, by decide +kernel⟩ rfl rfl ⟨by decide, by decide⟩ rfl hl.1 rfl (Nat.le_of_ble_eq_true rfl) dX7_grips_27 ⟨Nat.le_of_ble_eq_true rfl, Nat.le_of_ble_eq_true rfl⟩ (fun v9 u H locs hp w => ?_)
  obtain ⟨f2, rfl, rfl, hw, hn, hk1⟩ := hp
  have hk := hk.tr hk1
  generalize f2 = f at w hw hk
  refine lv_istore_n (lv' := [(2, .int v44), (0, .ref (ad 40 0)), (1, .int p1)]) hx hb dX7_grips_30 rfl hl (by decide) rfl (fun ls hl => ?_)
  refine lv_iload_n hx hb dX7_grips_31 rfl (lv_at hl 2 rfl) ?_
  refine lv_aload_n hx hb dX7_grips_32 rfl (lv_at hl 1 rfl) ?_
  refine u_geti C w hw (hP _ _ (isn_f rfl rfl (by decide))) rfl (N := 57) rfl rfl cin_7 30 (by decide) rfl gw_1186 dX7_grips_33 ?_
  refine u_iv h (fun x47 h => ?_)
  refine lv_icmp_eq (tgt := 60) hx hb dX7_grips_36 (by decide) (fun c48 => ?_) (fun c48 => ?_)
  · have h := bb_t h c48
    exact t_vret C hr hlk w ⟨_, rfl, rfl, so_w h hw, so_n h hn, hk⟩ (by decide) (by decide) dX7_grips_60
  · have h := bb_f h c48
    refine lv_iload_n hx hb dX7_grips_39 rfl (lv_at hl 0 rfl) ?_
    refine lv_iconst (v := (-1)) hx hb dX7_grips_40 (by decide) ?_
    refine lv_icmp_eq (tgt := 60) hx hb dX7_grips_41 (by decide) (fun c49 => ?_) (fun c49 => ?_)
    · have h := bb_t h c49
      exact t_vret C hr hlk w ⟨_, rfl, rfl, so_w h hw, so_n h hn, hk⟩ (by decide) (by decide) dX7_grips_60
    · have h := bb_f h c49
      refine lv_iload_n hx hb dX7_grips_44 rfl (lv_at hl 2 rfl) ?_
      refine lv_bipush (v := 8) hx hb dX7_grips_45 (by decide) ?_
      refine lv_irem hx hb dX7_grips_47 (by decide) ?_
      refine u_iv h (fun x50 h => ?_)
      refine lv_iload_n hx hb dX7_grips_48 rfl (lv_at hl 2 rfl) ?_
      refine lv_bipush (v := 8) hx hb dX7_grips_49 (by decide) ?_
      refine lv_idiv hx hb dX7_grips_51 (by decide) ?_
      refine u_iv h (fun x51 h => ?_)
      refine lv_iadd hx hb dX7_grips_52 ?_
      refine u_iv h (fun x52 h => ?_)
      refine lv_aload_n hx hb dX7_grips_53 rfl (lv_at hl 1 rfl) ?_
      refine u_geti C w hw (hP _ _ (isn_f rfl rfl (by decide))) rfl (N := 57) rfl rfl cin_7 31 (by decide) rfl gw_1187 dX7_grips_54 ?_
      refine u_iv h (fun x53 h => ?_)
      refine lv_icmp_le (tgt := 61) hx hb dX7_grips_57 (by decide) (fun c54 => ?_) (fun c54 => ?_)
      · have h := bb_t h c54
        refine lv_aload_n hx hb dX7_grips_61 rfl (lv_at hl 1 rfl) ?_
        refine lv_iload_n hx hb dX7_grips_62 rfl (lv_at hl 0 rfl) ?_
        obtain ⟨v55, S56, h57, h⟩ := bd_some h
        refine u_callV (n := 1) C w hw (hP _ _ (isn_f rfl rfl (by decide))) rfl rfl rfl (c_X7_takes l D K b0 sa _ L _ ad P hP S45 hw hn v44 v55 S56 h57) gw_1535 gw_1532 gw_1534 gs_54 gw_8 ⟨by decide, by decide, by decide +kernel⟩ rfl rfl ⟨by decide, by decide⟩ rfl hl.1 rfl (Nat.le_of_ble_eq_true rfl) dX7_grips_63 ⟨Nat.le_of_ble_eq_true rfl, Nat.le_of_ble_eq_true rfl⟩ (fun v9 u H locs hp w => ?_)
        obtain ⟨f2, rfl, rfl, hw, hn, hk1⟩ := hp
        have hk := hk.tr hk1
        generalize f2 = f at w hw hk
        refine lv_iconst (v := 0) hx hb dX7_grips_66 (by decide) ?_
        refine lv_istore_n (lv' := [(3, .int 0), (2, .int v44), (0, .ref (ad 40 0)), (1, .int p1)]) hx hb dX7_grips_67 rfl hl (by decide) rfl (fun ls hl => ?_)
        exact J68  fuel p1 v44 0 S56 h f H locs w hw hn hk ls (lv_sub hl [2, 3, 1, 0] rfl)
      · have h := bb_f h c54
        exact t_vret C hr hlk w ⟨_, rfl, rfl, so_w h hw, so_n h hn, hk⟩ (by decide) (by decide) dX7_grips_60
