theorem dX7_unit_0 : decode cX7_unit 0 = .ok (.aload_n 0, 1) := by decide +kernel
theorem dX7_unit_1 : decode cX7_unit 1 = .ok (.getfield 120, 3) := by decide +kernel
theorem dX7_unit_4 : decode cX7_unit 4 = .ok (.ifCond .eq 5, 3) := by decide +kernel
theorem dX7_unit_7 : decode cX7_unit 7 = .ok (.iconst 0, 1) := by decide +kernel
theorem dX7_unit_8 : decode cX7_unit 8 = .ok (.ireturn, 1) := by decide +kernel
theorem dX7_unit_9 : decode cX7_unit 9 = .ok (.aload_n 0, 1) := by decide +kernel
theorem dX7_unit_10 : decode cX7_unit 10 = .ok (.invokevirtual 134, 3) := by decide +kernel
theorem dX7_unit_13 : decode cX7_unit 13 = .ok (.aload_n 0, 1) := by decide +kernel
theorem dX7_unit_14 : decode cX7_unit 14 = .ok (.aload_n 0, 1) := by decide +kernel
theorem dX7_unit_15 : decode cX7_unit 15 = .ok (.getfield 113, 3) := by decide +kernel
theorem dX7_unit_18 : decode cX7_unit 18 = .ok (.invokevirtual 116, 3) := by decide +kernel
theorem dX7_unit_21 : decode cX7_unit 21 = .ok (.invokestatic 126, 3) := by decide +kernel
theorem dX7_unit_24 : decode cX7_unit 24 = .ok (.ifCond .eq 8, 3) := by decide +kernel
theorem dX7_unit_27 : decode cX7_unit 27 = .ok (.aload_n 0, 1) := by decide +kernel
theorem dX7_unit_28 : decode cX7_unit 28 = .ok (.invokevirtual 156, 3) := by decide +kernel
theorem dX7_unit_31 : decode cX7_unit 31 = .ok (.ireturn, 1) := by decide +kernel
theorem dX7_unit_32 : decode cX7_unit 32 = .ok (.aload_n 0, 1) := by decide +kernel
theorem dX7_unit_33 : decode cX7_unit 33 = .ok (.invokevirtual 159, 3) := by decide +kernel
theorem dX7_unit_36 : decode cX7_unit 36 = .ok (.istore_n 1, 1) := by decide +kernel
theorem dX7_unit_37 : decode cX7_unit 37 = .ok (.iload_n 1, 1) := by decide +kernel
theorem dX7_unit_38 : decode cX7_unit 38 = .ok (.iconst (-1), 1) := by decide +kernel
theorem dX7_unit_39 : decode cX7_unit 39 = .ok (.if_icmp .eq 14, 3) := by decide +kernel
theorem dX7_unit_42 : decode cX7_unit 42 = .ok (.aload_n 0, 1) := by decide +kernel
theorem dX7_unit_43 : decode cX7_unit 43 = .ok (.invokevirtual 162, 3) := by decide +kernel
theorem dX7_unit_46 : decode cX7_unit 46 = .ok (.aload_n 0, 1) := by decide +kernel
theorem dX7_unit_47 : decode cX7_unit 47 = .ok (.getfield 30, 3) := by decide +kernel
theorem dX7_unit_50 : decode cX7_unit 50 = .ok (.iload_n 1, 1) := by decide +kernel
theorem dX7_unit_51 : decode cX7_unit 51 = .ok (.iaload, 1) := by decide +kernel
theorem dX7_unit_52 : decode cX7_unit 52 = .ok (.ireturn, 1) := by decide +kernel
theorem dX7_unit_53 : decode cX7_unit 53 = .ok (.aload_n 0, 1) := by decide +kernel
theorem dX7_unit_54 : decode cX7_unit 54 = .ok (.bipush 12, 2) := by decide +kernel
theorem dX7_unit_56 : decode cX7_unit 56 = .ok (.iconst 5, 1) := by decide +kernel
theorem dX7_unit_57 : decode cX7_unit 57 = .ok (.iconst 1, 1) := by decide +kernel
theorem dX7_unit_58 : decode cX7_unit 58 = .ok (.bipush 19, 2) := by decide +kernel
theorem dX7_unit_60 : decode cX7_unit 60 = .ok (.bipush 20, 2) := by decide +kernel
theorem dX7_unit_62 : decode cX7_unit 62 = .ok (.invokevirtual 148, 3) := by decide +kernel
theorem dX7_unit_65 : decode cX7_unit 65 = .ok (.istore_n 2, 1) := by decide +kernel
theorem dX7_unit_66 : decode cX7_unit 66 = .ok (.aload_n 0, 1) := by decide +kernel
theorem dX7_unit_67 : decode cX7_unit 67 = .ok (.bipush 13, 2) := by decide +kernel
theorem dX7_unit_69 : decode cX7_unit 69 = .ok (.bipush 15, 2) := by decide +kernel
theorem dX7_unit_71 : decode cX7_unit 71 = .ok (.bipush 19, 2) := by decide +kernel
theorem dX7_unit_73 : decode cX7_unit 73 = .ok (.bipush 20, 2) := by decide +kernel
theorem dX7_unit_75 : decode cX7_unit 75 = .ok (.iconst 0, 1) := by decide +kernel
theorem dX7_unit_76 : decode cX7_unit 76 = .ok (.invokevirtual 148, 3) := by decide +kernel
theorem dX7_unit_79 : decode cX7_unit 79 = .ok (.istore_n 3, 1) := by decide +kernel
theorem dX7_unit_80 : decode cX7_unit 80 = .ok (.iload_n 2, 1) := by decide +kernel
theorem dX7_unit_81 : decode cX7_unit 81 = .ok (.ifCond .ne 7, 3) := by decide +kernel
theorem dX7_unit_84 : decode cX7_unit 84 = .ok (.iload_n 3, 1) := by decide +kernel
theorem dX7_unit_85 : decode cX7_unit 85 = .ok (.ifCond .eq 7, 3) := by decide +kernel
theorem dX7_unit_88 : decode cX7_unit 88 = .ok (.aload_n 0, 1) := by decide +kernel
theorem dX7_unit_89 : decode cX7_unit 89 = .ok (.invokevirtual 162, 3) := by decide +kernel
theorem dX7_unit_92 : decode cX7_unit 92 = .ok (.aload_n 0, 1) := by decide +kernel
theorem dX7_unit_93 : decode cX7_unit 93 = .ok (.invokevirtual 134, 3) := by decide +kernel
theorem dX7_unit_96 : decode cX7_unit 96 = .ok (.aload_n 0, 1) := by decide +kernel
theorem dX7_unit_97 : decode cX7_unit 97 = .ok (.aload_n 0, 1) := by decide +kernel
theorem dX7_unit_98 : decode cX7_unit 98 = .ok (.getfield 113, 3) := by decide +kernel
theorem dX7_unit_101 : decode cX7_unit 101 = .ok (.invokevirtual 116, 3) := by decide +kernel
theorem dX7_unit_104 : decode cX7_unit 104 = .ok (.bipush 40, 2) := by decide +kernel
theorem dX7_unit_106 : decode cX7_unit 106 = .ok (.if_icmp .eq 14, 3) := by decide +kernel
theorem dX7_unit_109 : decode cX7_unit 109 = .ok (.aload_n 0, 1) := by decide +kernel
theorem dX7_unit_110 : decode cX7_unit 110 = .ok (.iconst 1, 1) := by decide +kernel
theorem dX7_unit_111 : decode cX7_unit 111 = .ok (.aload_n 0, 1) := by decide +kernel
theorem dX7_unit_112 : decode cX7_unit 112 = .ok (.getfield 113, 3) := by decide +kernel
theorem dX7_unit_115 : decode cX7_unit 115 = .ok (.invokevirtual 130, 3) := by decide +kernel
theorem dX7_unit_118 : decode cX7_unit 118 = .ok (.iconst 0, 1) := by decide +kernel
theorem dX7_unit_119 : decode cX7_unit 119 = .ok (.ireturn, 1) := by decide +kernel
theorem dX7_unit_120 : decode cX7_unit 120 = .ok (.aload_n 0, 1) := by decide +kernel
theorem dX7_unit_121 : decode cX7_unit 121 = .ok (.iconst 1, 1) := by decide +kernel
theorem dX7_unit_122 : decode cX7_unit 122 = .ok (.invokevirtual 165, 3) := by decide +kernel
theorem dX7_unit_125 : decode cX7_unit 125 = .ok (.aload_n 0, 1) := by decide +kernel
theorem dX7_unit_126 : decode cX7_unit 126 = .ok (.invokevirtual 169, 3) := by decide +kernel
theorem dX7_unit_129 : decode cX7_unit 129 = .ok (.istore 4, 2) := by decide +kernel
theorem dX7_unit_131 : decode cX7_unit 131 = .ok (.iload_n 2, 1) := by decide +kernel
theorem dX7_unit_132 : decode cX7_unit 132 = .ok (.ifCond .ne 7, 3) := by decide +kernel
theorem dX7_unit_135 : decode cX7_unit 135 = .ok (.iload_n 3, 1) := by decide +kernel
theorem dX7_unit_136 : decode cX7_unit 136 = .ok (.ifCond .eq 40, 3) := by decide +kernel
theorem dX7_unit_139 : decode cX7_unit 139 = .ok (.aload_n 0, 1) := by decide +kernel
theorem dX7_unit_140 : decode cX7_unit 140 = .ok (.bipush 44, 2) := by decide +kernel
theorem dX7_unit_142 : decode cX7_unit 142 = .ok (.invokevirtual 172, 3) := by decide +kernel
theorem dX7_unit_145 : decode cX7_unit 145 = .ok (.aload_n 0, 1) := by decide +kernel
theorem dX7_unit_146 : decode cX7_unit 146 = .ok (.invokevirtual 169, 3) := by decide +kernel
theorem dX7_unit_149 : decode cX7_unit 149 = .ok (.istore 5, 2) := by decide +kernel
theorem dX7_unit_151 : decode cX7_unit 151 = .ok (.iload_n 2, 1) := by decide +kernel
theorem dX7_unit_152 : decode cX7_unit 152 = .ok (.iload 5, 2) := by decide +kernel
theorem dX7_unit_154 : decode cX7_unit 154 = .ok (.iload 4, 2) := by decide +kernel
theorem dX7_unit_156 : decode cX7_unit 156 = .ok (.if_icmp .ge 7, 3) := by decide +kernel
theorem dX7_unit_159 : decode cX7_unit 159 = .ok (.iconst 1, 1) := by decide +kernel
theorem dX7_unit_160 : decode cX7_unit 160 = .ok (.goto 4, 3) := by decide +kernel
theorem dX7_unit_163 : decode cX7_unit 163 = .ok (.iconst 0, 1) := by decide +kernel
theorem dX7_unit_164 : decode cX7_unit 164 = .ok (.if_icmp .ne 8, 3) := by decide +kernel
theorem dX7_unit_167 : decode cX7_unit 167 = .ok (.iload 5, 2) := by decide +kernel
theorem dX7_unit_169 : decode cX7_unit 169 = .ok (.goto 5, 3) := by decide +kernel
theorem dX7_unit_172 : decode cX7_unit 172 = .ok (.iload 4, 2) := by decide +kernel
theorem dX7_unit_174 : decode cX7_unit 174 = .ok (.istore 4, 2) := by decide +kernel
theorem dX7_unit_176 : decode cX7_unit 176 = .ok (.aload_n 0, 1) := by decide +kernel
theorem dX7_unit_177 : decode cX7_unit 177 = .ok (.bipush 41, 2) := by decide +kernel
theorem dX7_unit_179 : decode cX7_unit 179 = .ok (.invokevirtual 172, 3) := by decide +kernel
theorem dX7_unit_182 : decode cX7_unit 182 = .ok (.aload_n 0, 1) := by decide +kernel
theorem dX7_unit_183 : decode cX7_unit 183 = .ok (.dup, 1) := by decide +kernel
theorem dX7_unit_184 : decode cX7_unit 184 = .ok (.getfield 145, 3) := by decide +kernel
theorem dX7_unit_187 : decode cX7_unit 187 = .ok (.iconst 1, 1) := by decide +kernel
theorem dX7_unit_188 : decode cX7_unit 188 = .ok (.isub, 1) := by decide +kernel
theorem dX7_unit_189 : decode cX7_unit 189 = .ok (.putfield 145, 3) := by decide +kernel
theorem dX7_unit_192 : decode cX7_unit 192 = .ok (.iload 4, 2) := by decide +kernel
theorem dX7_unit_194 : decode cX7_unit 194 = .ok (.ireturn, 1) := by decide +kernel
noncomputable def B_X7_unit_176 (R : Nat → Int32 → fS → Option (Int32 × fS)) (a4 : Int32) (S : fS) : Option (Int32 × fS) := bd (F_X7_sign 41 S) (fun v1 S2 => iv (ge S2 40 0 5) (fun x4 => iv (x4 - (1 : Int32)) (fun x5 => sv (pu S2 40 0 5 x5) (fun S6 => some (a4, S6)))))
noncomputable def B_X7_unit_174 (R : Nat → Int32 → fS → Option (Int32 × fS)) (t0 : Int32) (S : fS) : Option (Int32 × fS) := B_X7_unit_176 R  t0 S
noncomputable def B_X7_unit_164 (R : Nat → Int32 → fS → Option (Int32 × fS)) (a4 : Int32) (a5 : Int32) (t0 : Int32) (t1 : Int32) (S : fS) : Option (Int32 × fS) := bb (t1 = t0) (B_X7_unit_174 R  a5 S) (B_X7_unit_174 R  a4 S)
noncomputable def B_X7_unit_139 (R : Nat → Int32 → fS → Option (Int32 × fS)) (a2 : Int32) (a4 : Int32) (S : fS) : Option (Int32 × fS) := bd (F_X7_sign 44 S) (fun v8 S9 => bd (R 2 0 S9) (fun v11 S12 => bb (a4 ≤ v11) (B_X7_unit_164 R  a4 v11 0 a2 S12) (B_X7_unit_164 R  a4 v11 1 a2 S12)))
noncomputable def B_X7_unit_92 (R : Nat → Int32 → fS → Option (Int32 × fS)) (a2 : Int32) (a3 : Int32) (S : fS) : Option (Int32 × fS) := bd (F_X7_blanks  S) (fun v15 S16 => iv (ge S16 40 0 4) (fun x18 => bd (F_X7_byteAt x18 S16) (fun v19 S20 => bb (v19 = (40 : Int32)) (bd (F_X7_opens 1 S20) (fun v23 S24 => bd (R 2 0 S24) (fun v26 S27 => bb (a2 = (0 : Int32)) (bb (a3 = (0 : Int32)) (B_X7_unit_176 R  v26 S27) (B_X7_unit_139 R  a2 v26 S27)) (B_X7_unit_139 R  a2 v26 S27)))) (iv (ge S20 40 0 4) (fun x31 => bd (F_X7_wrong 1 x31 S20) (fun v32 S33 => some (0, S33)))))))
noncomputable def B_X7_unit_88 (R : Nat → Int32 → fS → Option (Int32 × fS)) (a2 : Int32) (a3 : Int32) (S : fS) : Option (Int32 × fS) := bd (F_X7_skipWord  S) (fun v35 S36 => B_X7_unit_92 R  a2 a3 S36)
noncomputable def N_X7_unit (R : Nat → Int32 → fS → Option (Int32 × fS))  (S0 : fS) : Option (Int32 × fS) := iv (ge S0 40 0 6) (fun x38 => bb (x38 = (0 : Int32)) (bd (F_X7_blanks  S0) (fun v40 S41 => iv (ge S41 40 0 4) (fun x43 => bd (F_X7_byteAt x43 S41) (fun v44 S45 => bd (F_X7_isDigit v44 S45) (fun v47 S48 => bb (v47 = (0 : Int32)) (bd (F_X7_nameHere  S48) (fun v51 S52 => bb (v51 = ((-1) : Int32)) (bd (F_X7_isWord 12 5 1 19 20 S52) (fun v55 S56 => bd (F_X7_isWord 13 15 19 20 0 S56) (fun v58 S59 => bb (v55 = (0 : Int32)) (bb (v58 = (0 : Int32)) (B_X7_unit_92 R  v55 v58 S59) (B_X7_unit_88 R  v55 v58 S59)) (B_X7_unit_88 R  v55 v58 S59)))) (bd (F_X7_skipWord  S52) (fun v63 S64 => gd (ib v51 7) (iv (ge S64 45 0 (v51 : Int32).toNatClampNeg) (fun x67 => some (x67, S64))))))) (bd (F_X7_number  S48) (fun v68 S69 => some (v68, S69)))))))) (some (0, S0)))
set_option maxHeartbeats 4000000 in
set_option maxRecDepth 100000 in
theorem n_X7_unit (l : Launch) (D : va_G) (K : Nat → ClassId) (b0 : Nat) (sa : sT) (ad : Nat → Nat → Nat) {n : Nat × Nat} (P : Nat → Nat → Prop) (hP : ∀ a i : Nat, isn n a i → P a i) (R : Nat → Int32 → fS → Option (Int32 × fS)) (d : Nat) (hR0 : ∀ (sz : Nat) (L : List Nat) (f0 : Nat → va_E) (S0 : fS) (hw : PW K ad P S0 L f0) (hn : S0.2.2.1 = n) (v : Int32) (S1 : fS) (h : R 0 0 S0 = some (v, S1)), Met l yX7_unit (.code yX7_unit cX7_unit 6 (some .int) :: gt) { frames := 6 + d, cells := 0, slots := 0, locals := 108 + 40 * d } (va_Pc [.ref (ad 40 0)] (hPre D K b0 sa sz L f0)) (hQ D K b0 (fun v9 u9 => ∃ f2 : Nat → va_E, v9 = some (.int v) ∧ u9 = lU L f2 ∧ PW K ad P S1 L f2 ∧ S1.2.2.1 = n ∧ Kp ad P L f0 f2)) 0 0 (fun q => b0 ≤ q)) (hR1 : ∀ (sz : Nat) (L : List Nat) (f0 : Nat → va_E) (S0 : fS) (hw : PW K ad P S0 L f0) (hn : S0.2.2.1 = n) (v : Int32) (S1 : fS) (h : R 1 0 S0 = some (v, S1)), Met l yX7_product (.code yX7_product cX7_product 4 (some .int) :: gt) { frames := 6 + d, cells := 0, slots := 0, locals := 108 + 40 * d } (va_Pc [.ref (ad 40 0)] (hPre D K b0 sa sz L f0)) (hQ D K b0 (fun v9 u9 => ∃ f2 : Nat → va_E, v9 = some (.int v) ∧ u9 = lU L f2 ∧ PW K ad P S1 L f2 ∧ S1.2.2.1 = n ∧ Kp ad P L f0 f2)) 0 0 (fun q => b0 ≤ q)) (hR2 : ∀ (sz : Nat) (L : List Nat) (f0 : Nat → va_E) (S0 : fS) (hw : PW K ad P S0 L f0) (hn : S0.2.2.1 = n) (v : Int32) (S1 : fS) (h : R 2 0 S0 = some (v, S1)), Met l yX7_sum (.code yX7_sum cX7_sum 4 (some .int) :: gt) { frames := 6 + d, cells := 0, slots := 0, locals := 108 + 40 * d } (va_Pc [.ref (ad 40 0)] (hPre D K b0 sa sz L f0)) (hQ D K b0 (fun v9 u9 => ∃ f2 : Nat → va_E, v9 = some (.int v) ∧ u9 = lU L f2 ∧ PW K ad P S1 L f2 ∧ S1.2.2.1 = n ∧ Kp ad P L f0 f2)) 0 0 (fun q => b0 ≤ q)) (hR3 : ∀ (sz : Nat) (L : List Nat) (f0 : Nat → va_E) (S0 : fS) (hw : PW K ad P S0 L f0) (hn : S0.2.2.1 = n) (v : Int32) (S1 : fS) (h : R 3 0 S0 = some (v, S1)), Met l yX7_test (.code yX7_test cX7_test 4 (some .boolean) :: gt) { frames := 6 + d, cells := 0, slots := 0, locals := 108 + 40 * d } (va_Pc [.ref (ad 40 0)] (hPre D K b0 sa sz L f0)) (hQ D K b0 (fun v9 u9 => ∃ f2 : Nat → va_E, v9 = some (.int v) ∧ u9 = lU L f2 ∧ PW K ad P S1 L f2 ∧ S1.2.2.1 = n ∧ Kp ad P L f0 f2)) 0 0 (fun q => b0 ≤ q)) (hR4 : ∀ (sz : Nat) (L : List Nat) (f0 : Nat → va_E) (S0 : fS) (hw : PW K ad P S0 L f0) (hn : S0.2.2.1 = n) (v : Int32) (S1 : fS) (h : R 4 0 S0 = some (v, S1)), Met l yX7_ands (.code yX7_ands cX7_ands 3 (some .boolean) :: gt) { frames := 6 + d, cells := 0, slots := 0, locals := 108 + 40 * d } (va_Pc [.ref (ad 40 0)] (hPre D K b0 sa sz L f0)) (hQ D K b0 (fun v9 u9 => ∃ f2 : Nat → va_E, v9 = some (.int v) ∧ u9 = lU L f2 ∧ PW K ad P S1 L f2 ∧ S1.2.2.1 = n ∧ Kp ad P L f0 f2)) 0 0 (fun q => b0 ≤ q)) (hR5 : ∀ (sz : Nat) (L : List Nat) (f0 : Nat → va_E) (S0 : fS) (hw : PW K ad P S0 L f0) (hn : S0.2.2.1 = n) (v : Int32) (S1 : fS) (h : R 5 0 S0 = some (v, S1)), Met l yX7_ors (.code yX7_ors cX7_ors 3 (some .boolean) :: gt) { frames := 6 + d, cells := 0, slots := 0, locals := 108 + 40 * d } (va_Pc [.ref (ad 40 0)] (hPre D K b0 sa sz L f0)) (hQ D K b0 (fun v9 u9 => ∃ f2 : Nat → va_E, v9 = some (.int v) ∧ u9 = lU L f2 ∧ PW K ad P S1 L f2 ∧ S1.2.2.1 = n ∧ Kp ad P L f0 f2)) 0 0 (fun q => b0 ≤ q)) (sz : Nat) (L : List Nat) (f0 : Nat → va_E) (S0 : fS) (hw : PW K ad P S0 L f0) (hn : S0.2.2.1 = n)  (v : Int32) (S1 : fS) (h : N_X7_unit R  S0 = some (v, S1)) : Met l yX7_unit (.code yX7_unit cX7_unit 6 (some .int) :: gt) { frames := 6 + (d + 1), cells := 0, slots := 0, locals := 108 + 40 * (d + 1) } (va_Pc [.ref (ad 40 0)] (hPre D K b0 sa sz L f0)) (hQ D K b0 (fun v9 u9 => ∃ f2 : Nat → va_E, v9 = some (.int v) ∧ u9 = lU L f2 ∧ PW K ad P S1 L f2 ∧ S1.2.2.1 = n ∧ Kp ad P L f0 f2)) 0 0 (fun q => b0 ≤ q) := by
  refine t_of (own := RX7) (by decide) rfl ?_ (Nat.le_of_ble_eq_true rfl)
  intro p e s m below meth c ls C w hsz hr hlk hnm hl
  have hx := C.1
  have hb := C.2.1
  have hl : lv_has ls 6 [(0, .ref (ad 40 0))] := hl
  have J176 : ∀ (a4 : Int32) (S : fS), B_X7_unit_176 R  a4 S = some (v, S1) → Gw D K b0 sa ad P n L f0 p l e { frames := 6 + (d + 1), cells := 0, slots := 0, locals := 108 + 40 * (d + 1) } s m [.ref (ad 40 0)].toArray below meth c 6 (MQ below (hQ D K b0 (fun v9 u9 => ∃ f2 : Nat → va_E, v9 = some (.int v) ∧ u9 = lU L f2 ∧ PW K ad P S1 L f2 ∧ S1.2.2.1 = n ∧ Kp ad P L f0 f2)) [.ref (ad 40 0)].toArray s 0 0 (fun q => b0 ≤ q)) 0 0 176 [(0, .ref (ad 40 0)), (4, .int a4)] [] S := by
    intro a4 S h
    dsimp only [B_X7_unit_176] at h
    intro f H locs w hw hn hk ls hl
    refine lv_aload_n hx hb dX7_unit_176 rfl (lv_at hl 0 rfl) ?_
    refine lv_bipush (v := 41) hx hb dX7_unit_177 (by decide) ?_
    obtain ⟨v1, S2, h3, h⟩ := bd_some h
    refine u_callV (n := 1) C w hw (hP _ _ (isn_f rfl rfl (by decide))) rfl rfl rfl (c_X7_sign l D K b0 sa _ L _ ad P hP S hw hn 41 v1 S2 h3) gw_1394 gw_1391 gw_1393 gs_33 gw_8 ⟨by decide, by decide, by decide +kernel⟩ rfl rfl ⟨by dsimp only; omega, by dsimp only; omega⟩ rfl hl.1 rfl (Nat.le_of_ble_eq_true rfl) dX7_unit_179 ⟨Nat.le_of_ble_eq_true rfl, Nat.le_of_ble_eq_true rfl⟩ (fun v9 u H locs hp w => ?_)
    obtain ⟨f2, rfl, rfl, hw, hn, hk1⟩ := hp
    have hk := hk.tr hk1
    generalize f2 = f at w hw hk
    refine lv_aload_n hx hb dX7_unit_182 rfl (lv_at hl 0 rfl) ?_
    refine lv_dup hx hb dX7_unit_183 rfl ?_
    refine u_geti C w hw (hP _ _ (isn_f rfl rfl (by decide))) rfl (N := 57) rfl rfl cin_7 5 (by decide) rfl gw_1161 dX7_unit_184 ?_
    refine u_iv h (fun x4 h => ?_)
    refine lv_iconst (v := 1) hx hb dX7_unit_187 (by decide) ?_
    refine lv_isub hx hb dX7_unit_188 ?_
    refine u_iv h (fun x5 h => ?_)
    refine u_puti C w hw (hP _ _ (isn_f rfl rfl (by decide))) rfl (N := 57) rfl rfl cin_7 tyX7 tyX7_ok nmX7 5 (by decide) rfl rfl rfl rfl gw_1161 dX7_unit_189 (fun f H locs w hw hk1 => ?_)
    have hk := hk.tr hk1
    refine u_sv h hw hn (fun S6 h hw hn => ?_)
    refine lv_iload hx hb dX7_unit_192 (lv_at hl 1 rfl) ?_
    exact t_iret C hr hlk w ⟨_, so_v h, rfl, so_w h hw, so_n h hn, hk⟩ (by decide) (by decide) dX7_unit_194
  have J174 : ∀ (t0 : Int32) (S : fS), B_X7_unit_174 R  t0 S = some (v, S1) → Gw D K b0 sa ad P n L f0 p l e { frames := 6 + (d + 1), cells := 0, slots := 0, locals := 108 + 40 * (d + 1) } s m [.ref (ad 40 0)].toArray below meth c 6 (MQ below (hQ D K b0 (fun v9 u9 => ∃ f2 : Nat → va_E, v9 = some (.int v) ∧ u9 = lU L f2 ∧ PW K ad P S1 L f2 ∧ S1.2.2.1 = n ∧ Kp ad P L f0 f2)) [.ref (ad 40 0)].toArray s 0 0 (fun q => b0 ≤ q)) 0 0 174 [(0, .ref (ad 40 0))] [.int t0] S := by
    intro t0 S h
    dsimp only [B_X7_unit_174] at h
    intro f H locs w hw hn hk ls hl
    refine lv_istore (lv' := [(4, .int t0), (0, .ref (ad 40 0))]) hx hb dX7_unit_174 hl (by decide) rfl (fun ls hl => ?_)
    exact J176  t0 S h f H locs w hw hn hk ls (lv_sub hl [1, 0] rfl)
  have J164 : ∀ (a4 : Int32) (a5 : Int32) (t0 : Int32) (t1 : Int32) (S : fS), B_X7_unit_164 R  a4 a5 t0 t1 S = some (v, S1) → Gw D K b0 sa ad P n L f0 p l e { frames := 6 + (d + 1), cells := 0, slots := 0, locals := 108 + 40 * (d + 1) } s m [.ref (ad 40 0)].toArray below meth c 6 (MQ below (hQ D K b0 (fun v9 u9 => ∃ f2 : Nat → va_E, v9 = some (.int v) ∧ u9 = lU L f2 ∧ PW K ad P S1 L f2 ∧ S1.2.2.1 = n ∧ Kp ad P L f0 f2)) [.ref (ad 40 0)].toArray s 0 0 (fun q => b0 ≤ q)) 0 0 164 [(0, .ref (ad 40 0)), (4, .int a4), (5, .int a5)] [.int t0, .int t1] S := by
    intro a4 a5 t0 t1 S h
    dsimp only [B_X7_unit_164] at h
    intro f H locs w hw hn hk ls hl
    refine lv_icmp_ne (tgt := 172) hx hb dX7_unit_164 (by decide) (fun c7 => ?_) (fun c7 => ?_)
    · have h := bb_f h c7
      refine lv_iload hx hb dX7_unit_172 (lv_at hl 1 rfl) ?_
      exact J174  a4 S h f H locs w hw hn hk ls (lv_sub hl [0] rfl)
    · have h := bb_t h c7
      refine lv_iload hx hb dX7_unit_167 (lv_at hl 2 rfl) ?_
      refine lv_goto (tgt := 174) hx hb dX7_unit_169 (by decide) ?_
      exact J174  a5 S h f H locs w hw hn hk ls (lv_sub hl [0] rfl)
  have J139 : ∀ (a2 : Int32) (a4 : Int32) (S : fS), B_X7_unit_139 R  a2 a4 S = some (v, S1) → Gw D K b0 sa ad P n L f0 p l e { frames := 6 + (d + 1), cells := 0, slots := 0, locals := 108 + 40 * (d + 1) } s m [.ref (ad 40 0)].toArray below meth c 6 (MQ below (hQ D K b0 (fun v9 u9 => ∃ f2 : Nat → va_E, v9 = some (.int v) ∧ u9 = lU L f2 ∧ PW K ad P S1 L f2 ∧ S1.2.2.1 = n ∧ Kp ad P L f0 f2)) [.ref (ad 40 0)].toArray s 0 0 (fun q => b0 ≤ q)) 0 0 139 [(0, .ref (ad 40 0)), (2, .int a2), (4, .int a4)] [] S := by
    intro a2 a4 S h
    dsimp only [B_X7_unit_139] at h
    intro f H locs w hw hn hk ls hl
    refine lv_aload_n hx hb dX7_unit_139 rfl (lv_at hl 0 rfl) ?_
    refine lv_bipush (v := 44) hx hb dX7_unit_140 (by decide) ?_
    obtain ⟨v8, S9, h10, h⟩ := bd_some h
    refine u_callV (n := 1) C w hw (hP _ _ (isn_f rfl rfl (by decide))) rfl rfl rfl (c_X7_sign l D K b0 sa _ L _ ad P hP S hw hn 44 v8 S9 h10) gw_1394 gw_1391 gw_1393 gs_33 gw_8 ⟨by decide, by decide, by decide +kernel⟩ rfl rfl ⟨by dsimp only; omega, by dsimp only; omega⟩ rfl hl.1 rfl (Nat.le_of_ble_eq_true rfl) dX7_unit_142 ⟨Nat.le_of_ble_eq_true rfl, Nat.le_of_ble_eq_true rfl⟩ (fun v9 u H locs hp w => ?_)
    obtain ⟨f2, rfl, rfl, hw, hn, hk1⟩ := hp
    have hk := hk.tr hk1
    generalize f2 = f at w hw hk
    refine lv_aload_n hx hb dX7_unit_145 rfl (lv_at hl 0 rfl) ?_
    obtain ⟨v11, S12, h13, h⟩ := bd_some h
    refine u_callV (n := 0) C w hw (hP _ _ (isn_f rfl rfl (by decide))) rfl rfl rfl (hR2 _ L _ S9 hw hn v11 S12 h13) gw_1398 gw_1395 gw_1397 gs_34 gw_8 ⟨by decide, by decide, by decide +kernel⟩ rfl rfl ⟨by dsimp only; omega, by dsimp only; omega⟩ rfl hl.1 rfl (Nat.le_of_ble_eq_true rfl) dX7_unit_146 ⟨Nat.le_of_ble_eq_true rfl, Nat.le_of_ble_eq_true rfl⟩ (fun v9 u H locs hp w => ?_)
    obtain ⟨f2, rfl, rfl, hw, hn, hk1⟩ := hp
    have hk := hk.tr hk1
    generalize f2 = f at w hw hk
    refine lv_istore (lv' := [(5, .int v11), (0, .ref (ad 40 0)), (2, .int a2), (4, .int a4)]) hx hb dX7_unit_149 hl (by decide) rfl (fun ls hl => ?_)
    refine lv_iload_n hx hb dX7_unit_151 rfl (lv_at hl 2 rfl) ?_
    refine lv_iload hx hb dX7_unit_152 (lv_at hl 0 rfl) ?_
    refine lv_iload hx hb dX7_unit_154 (lv_at hl 3 rfl) ?_
    refine lv_icmp_ge (tgt := 163) hx hb dX7_unit_156 (by decide) (fun c14 => ?_) (fun c14 => ?_)
    · have h := bb_t h c14
      refine lv_iconst (v := 0) hx hb dX7_unit_163 (by decide) ?_
      exact J164  a4 v11 0 a2 S12 h f H locs w hw hn hk ls (lv_sub hl [1, 3, 0] rfl)
    · have h := bb_f h c14
      refine lv_iconst (v := 1) hx hb dX7_unit_159 (by decide) ?_
      refine lv_goto (tgt := 164) hx hb dX7_unit_160 (by decide) ?_
      exact J164  a4 v11 1 a2 S12 h f H locs w hw hn hk ls (lv_sub hl [1, 3, 0] rfl)
  have J92 : ∀ (a2 : Int32) (a3 : Int32) (S : fS), B_X7_unit_92 R  a2 a3 S = some (v, S1) → Gw D K b0 sa ad P n L f0 p l e { frames := 6 + (d + 1), cells := 0, slots := 0, locals := 108 + 40 * (d + 1) } s m [.ref (ad 40 0)].toArray below meth c 6 (MQ below (hQ D K b0 (fun v9 u9 => ∃ f2 : Nat → va_E, v9 = some (.int v) ∧ u9 = lU L f2 ∧ PW K ad P S1 L f2 ∧ S1.2.2.1 = n ∧ Kp ad P L f0 f2)) [.ref (ad 40 0)].toArray s 0 0 (fun q => b0 ≤ q)) 0 0 92 [(0, .ref (ad 40 0)), (2, .int a2), (3, .int a3)] [] S := by
    intro a2 a3 S h
    dsimp only [B_X7_unit_92] at h
    intro f H locs w hw hn hk ls hl
    refine lv_aload_n hx hb dX7_unit_92 rfl (lv_at hl 0 rfl) ?_
    obtain ⟨v15, S16, h17, h⟩ := bd_some h
    refine u_callV (n := 0) C w hw (hP _ _ (isn_f rfl rfl (by decide))) rfl rfl rfl (c_X7_blanks l D K b0 sa _ L _ ad P hP S hw hn  v15 S16 h17) gw_1375 gw_1372 gw_1374 gs_29 gw_8 ⟨by decide, by decide, by decide +kernel⟩ rfl rfl ⟨by dsimp only; omega, by dsimp only; omega⟩ rfl hl.1 rfl (Nat.le_of_ble_eq_true rfl) dX7_unit_93 ⟨Nat.le_of_ble_eq_true rfl, Nat.le_of_ble_eq_true rfl⟩ (fun v9 u H locs hp w => ?_)
    obtain ⟨f2, rfl, rfl, hw, hn, hk1⟩ := hp
    have hk := hk.tr hk1
    generalize f2 = f at w hw hk
    refine lv_aload_n hx hb dX7_unit_96 rfl (lv_at hl 0 rfl) ?_
    refine lv_aload_n hx hb dX7_unit_97 rfl (lv_at hl 0 rfl) ?_
    refine u_geti C w hw (hP _ _ (isn_f rfl rfl (by decide))) rfl (N := 57) rfl rfl cin_7 4 (by decide) rfl gw_1160 dX7_unit_98 ?_
    refine u_iv h (fun x18 h => ?_)
    obtain ⟨v19, S20, h21, h⟩ := bd_some h
    refine u_callV (n := 1) C w hw (hP _ _ (isn_f rfl rfl (by decide))) rfl rfl rfl (c_X7_byteAt l D K b0 sa _ L _ ad P hP S16 hw hn x18 v19 S20 h21) gw_1379 gw_1376 gw_1378 gs_30 gw_8 ⟨by decide, by decide, by decide +kernel⟩ rfl rfl ⟨by dsimp only; omega, by dsimp only; omega⟩ rfl hl.1 rfl (Nat.le_of_ble_eq_true rfl) dX7_unit_101 ⟨Nat.le_of_ble_eq_true rfl, Nat.le_of_ble_eq_true rfl⟩ (fun v9 u H locs hp w => ?_)
    obtain ⟨f2, rfl, rfl, hw, hn, hk1⟩ := hp
    have hk := hk.tr hk1
    generalize f2 = f at w hw hk
    refine lv_bipush (v := 40) hx hb dX7_unit_104 (by decide) ?_
    refine lv_icmp_eq (tgt := 120) hx hb dX7_unit_106 (by decide) (fun c22 => ?_) (fun c22 => ?_)
    · have h := bb_t h c22
      refine lv_aload_n hx hb dX7_unit_120 rfl (lv_at hl 0 rfl) ?_
      refine lv_iconst (v := 1) hx hb dX7_unit_121 (by decide) ?_
      obtain ⟨v23, S24, h25, h⟩ := bd_some h
      refine u_callV (n := 1) C w hw (hP _ _ (isn_f rfl rfl (by decide))) rfl rfl rfl (c_X7_opens l D K b0 sa _ L _ ad P hP S20 hw hn 1 v23 S24 h25) gw_1386 gw_1383 gw_1385 gs_31 gw_8 ⟨by decide, by decide, by decide +kernel⟩ rfl rfl ⟨by dsimp only; omega, by dsimp only; omega⟩ rfl hl.1 rfl (Nat.le_of_ble_eq_true rfl) dX7_unit_122 ⟨Nat.le_of_ble_eq_true rfl, Nat.le_of_ble_eq_true rfl⟩ (fun v9 u H locs hp w => ?_)
      obtain ⟨f2, rfl, rfl, hw, hn, hk1⟩ := hp
      have hk := hk.tr hk1
      generalize f2 = f at w hw hk
      refine lv_aload_n hx hb dX7_unit_125 rfl (lv_at hl 0 rfl) ?_
      obtain ⟨v26, S27, h28, h⟩ := bd_some h
      refine u_callV (n := 0) C w hw (hP _ _ (isn_f rfl rfl (by decide))) rfl rfl rfl (hR2 _ L _ S24 hw hn v26 S27 h28) gw_1398 gw_1395 gw_1397 gs_34 gw_8 ⟨by decide, by decide, by decide +kernel⟩ rfl rfl ⟨by dsimp only; omega, by dsimp only; omega⟩ rfl hl.1 rfl (Nat.le_of_ble_eq_true rfl) dX7_unit_126 ⟨Nat.le_of_ble_eq_true rfl, Nat.le_of_ble_eq_true rfl⟩ (fun v9 u H locs hp w => ?_)
      obtain ⟨f2, rfl, rfl, hw, hn, hk1⟩ := hp
      have hk := hk.tr hk1
      generalize f2 = f at w hw hk
      refine lv_istore (lv' := [(4, .int v26), (0, .ref (ad 40 0)), (2, .int a2), (3, .int a3)]) hx hb dX7_unit_129 hl (by decide) rfl (fun ls hl => ?_)
      refine lv_iload_n hx hb dX7_unit_131 rfl (lv_at hl 2 rfl) ?_
      refine lv_if_ne (tgt := 139) hx hb dX7_unit_132 (by decide) (fun c29 => ?_) (fun c29 => ?_)
      · have h := bb_f h c29
        exact J139  a2 v26 S27 h f H locs w hw hn hk ls (lv_sub hl [1, 2, 0] rfl)
      · have h := bb_t h c29
        refine lv_iload_n hx hb dX7_unit_135 rfl (lv_at hl 3 rfl) ?_
        refine lv_if_eq (tgt := 176) hx hb dX7_unit_136 (by decide) (fun c30 => ?_) (fun c30 => ?_)
        · have h := bb_t h c30
          exact J176  v26 S27 h f H locs w hw hn hk ls (lv_sub hl [1, 0] rfl)
        · have h := bb_f h c30
          exact J139  a2 v26 S27 h f H locs w hw hn hk ls (lv_sub hl [1, 2, 0] rfl)
    · have h := bb_f h c22
      refine lv_aload_n hx hb dX7_unit_109 rfl (lv_at hl 0 rfl) ?_
      refine lv_iconst (v := 1) hx hb dX7_unit_110 (by decide) ?_
      refine lv_aload_n hx hb dX7_unit_111 rfl (lv_at hl 0 rfl) ?_
      refine u_geti C w hw (hP _ _ (isn_f rfl rfl (by decide))) rfl (N := 57) rfl rfl cin_7 4 (by decide) rfl gw_1160 dX7_unit_112 ?_
      refine u_iv h (fun x31 h => ?_)
      obtain ⟨v32, S33, h34, h⟩ := bd_some h
      refine u_callV (n := 2) C w hw (hP _ _ (isn_f rfl rfl (by decide))) rfl rfl rfl (c_X7_wrong l D K b0 sa _ L _ ad P hP S20 hw hn 1 x31 v32 S33 h34) gw_1390 gw_1387 gw_1389 gs_32 gw_8 ⟨by decide, by decide, by decide +kernel⟩ rfl rfl ⟨by dsimp only; omega, by dsimp only; omega⟩ rfl hl.1 rfl (Nat.le_of_ble_eq_true rfl) dX7_unit_115 ⟨Nat.le_of_ble_eq_true rfl, Nat.le_of_ble_eq_true rfl⟩ (fun v9 u H locs hp w => ?_)
      obtain ⟨f2, rfl, rfl, hw, hn, hk1⟩ := hp
      have hk := hk.tr hk1
      generalize f2 = f at w hw hk
      refine lv_iconst (v := 0) hx hb dX7_unit_118 (by decide) ?_
      exact t_iret C hr hlk w ⟨_, so_v h, rfl, so_w h hw, so_n h hn, hk⟩ (by decide) (by decide) dX7_unit_119
  have J88 : ∀ (a2 : Int32) (a3 : Int32) (S : fS), B_X7_unit_88 R  a2 a3 S = some (v, S1) → Gw D K b0 sa ad P n L f0 p l e { frames := 6 + (d + 1), cells := 0, slots := 0, locals := 108 + 40 * (d + 1) } s m [.ref (ad 40 0)].toArray below meth c 6 (MQ below (hQ D K b0 (fun v9 u9 => ∃ f2 : Nat → va_E, v9 = some (.int v) ∧ u9 = lU L f2 ∧ PW K ad P S1 L f2 ∧ S1.2.2.1 = n ∧ Kp ad P L f0 f2)) [.ref (ad 40 0)].toArray s 0 0 (fun q => b0 ≤ q)) 0 0 88 [(0, .ref (ad 40 0)), (2, .int a2), (3, .int a3)] [] S := by
    intro a2 a3 S h
    dsimp only [B_X7_unit_88] at h
    intro f H locs w hw hn hk ls hl
    refine lv_aload_n hx hb dX7_unit_88 rfl (lv_at hl 0 rfl) ?_
    obtain ⟨v35, S36, h37, h⟩ := bd_some h
    refine u_callV (n := 0) C w hw (hP _ _ (isn_f rfl rfl (by decide))) rfl rfl rfl (c_X7_skipWord l D K b0 sa _ L _ ad P hP S hw hn  v35 S36 h37) gw_1421 gw_1418 gw_1420 gs_39 gw_8 ⟨by decide, by decide, by decide +kernel⟩ rfl rfl ⟨by dsimp only; omega, by dsimp only; omega⟩ rfl hl.1 rfl (Nat.le_of_ble_eq_true rfl) dX7_unit_89 ⟨Nat.le_of_ble_eq_true rfl, Nat.le_of_ble_eq_true rfl⟩ (fun v9 u H locs hp w => ?_)
    obtain ⟨f2, rfl, rfl, hw, hn, hk1⟩ := hp
    have hk := hk.tr hk1
    generalize f2 = f at w hw hk
    exact J92  a2 a3 S36 h f H locs w hw hn hk ls (lv_sub hl [0, 1, 2] rfl)
  dsimp only [N_X7_unit] at h
  obtain ⟨f, ef⟩ : ∃ z, z = f0 := ⟨_, rfl⟩
  rw [← ef] at w hw
  have hk : Kp ad P L f0 f := by rw [ef]; exact Kp.rf
  obtain ⟨H, eH⟩ : ∃ z, z = s.heap := ⟨_, rfl⟩
  obtain ⟨locs, el⟩ : ∃ z : List Loc, z = [] := ⟨_, rfl⟩
  rw [← eH, ← el] at w ⊢
  refine lv_aload_n hx hb dX7_unit_0 rfl (lv_at hl 0 rfl) ?_
  refine u_geti C w hw (hP _ _ (isn_f rfl rfl (by decide))) rfl (N := 57) rfl rfl cin_7 6 (by decide) rfl gw_1162 dX7_unit_1 ?_
  refine u_iv h (fun x38 h => ?_)
  refine lv_if_eq (tgt := 9) hx hb dX7_unit_4 (by decide) (fun c39 => ?_) (fun c39 => ?_)
  · have h := bb_t h c39
    refine lv_aload_n hx hb dX7_unit_9 rfl (lv_at hl 0 rfl) ?_
    obtain ⟨v40, S41, h42, h⟩ := bd_some h
    refine u_callV (n := 0) C w hw (hP _ _ (isn_f rfl rfl (by decide))) rfl rfl rfl (c_X7_blanks l D K b0 sa _ L _ ad P hP S0 hw hn  v40 S41 h42) gw_1375 gw_1372 gw_1374 gs_29 gw_8 ⟨by decide, by decide, by decide +kernel⟩ rfl rfl ⟨by dsimp only; omega, by dsimp only; omega⟩ rfl hl.1 rfl (Nat.le_of_ble_eq_true rfl) dX7_unit_10 ⟨Nat.le_of_ble_eq_true rfl, Nat.le_of_ble_eq_true rfl⟩ (fun v9 u H locs hp w => ?_)
    obtain ⟨f2, rfl, rfl, hw, hn, hk1⟩ := hp
    have hk := hk.tr hk1
    generalize f2 = f at w hw hk
    refine lv_aload_n hx hb dX7_unit_13 rfl (lv_at hl 0 rfl) ?_
    refine lv_aload_n hx hb dX7_unit_14 rfl (lv_at hl 0 rfl) ?_
    refine u_geti C w hw (hP _ _ (isn_f rfl rfl (by decide))) rfl (N := 57) rfl rfl cin_7 4 (by decide) rfl gw_1160 dX7_unit_15 ?_
    refine u_iv h (fun x43 h => ?_)
    obtain ⟨v44, S45, h46, h⟩ := bd_some h
    refine u_callV (n := 1) C w hw (hP _ _ (isn_f rfl rfl (by decide))) rfl rfl rfl (c_X7_byteAt l D K b0 sa _ L _ ad P hP S41 hw hn x43 v44 S45 h46) gw_1379 gw_1376 gw_1378 gs_30 gw_8 ⟨by decide, by decide, by decide +kernel⟩ rfl rfl ⟨by dsimp only; omega, by dsimp only; omega⟩ rfl hl.1 rfl (Nat.le_of_ble_eq_true rfl) dX7_unit_18 ⟨Nat.le_of_ble_eq_true rfl, Nat.le_of_ble_eq_true rfl⟩ (fun v9 u H locs hp w => ?_)
    obtain ⟨f2, rfl, rfl, hw, hn, hk1⟩ := hp
    have hk := hk.tr hk1
    generalize f2 = f at w hw hk
    obtain ⟨v47, S48, h49, h⟩ := bd_some h
    refine t_callS (n := 1) C w (c_X7_isDigit l D K b0 sa _ L _ ad P hP S45 hw hn v44 v47 S48 h49) gw_1409 gw_1407 gw_1408 gw_8 ⟨by decide, by decide, by decide +kernel⟩ rfl rfl ⟨by dsimp only; omega, by dsimp only; omega⟩ rfl hl.1 rfl (Nat.le_of_ble_eq_true rfl) dX7_unit_21 ⟨Nat.le_of_ble_eq_true rfl, Nat.le_of_ble_eq_true rfl⟩ (fun v9 u H locs hp w => ?_)
    obtain ⟨f2, rfl, rfl, hw, hn, hk1⟩ := hp
    have hk := hk.tr hk1
    generalize f2 = f at w hw hk
    refine lv_if_eq (tgt := 32) hx hb dX7_unit_24 (by decide) (fun c50 => ?_) (fun c50 => ?_)
    · have h := bb_t h c50
      refine lv_aload_n hx hb dX7_unit_32 rfl (lv_at hl 0 rfl) ?_
      obtain ⟨v51, S52, h53, h⟩ := bd_some h
      refine u_callV (n := 0) C w hw (hP _ _ (isn_f rfl rfl (by decide))) rfl rfl rfl (c_X7_nameHere l D K b0 sa _ L _ ad P hP S48 hw hn  v51 S52 h53) gw_1417 gw_1414 gw_1416 gs_38 gw_8 ⟨by decide, by decide, by decide +kernel⟩ rfl rfl ⟨by dsimp only; omega, by dsimp only; omega⟩ rfl hl.1 rfl (Nat.le_of_ble_eq_true rfl) dX7_unit_33 ⟨Nat.le_of_ble_eq_true rfl, Nat.le_of_ble_eq_true rfl⟩ (fun v9 u H locs hp w => ?_)
      obtain ⟨f2, rfl, rfl, hw, hn, hk1⟩ := hp
      have hk := hk.tr hk1
      generalize f2 = f at w hw hk
      refine lv_istore_n (lv' := [(1, .int v51), (0, .ref (ad 40 0))]) hx hb dX7_unit_36 rfl hl (by decide) rfl (fun ls hl => ?_)
      refine lv_iload_n hx hb dX7_unit_37 rfl (lv_at hl 0 rfl) ?_
      refine lv_iconst (v := (-1)) hx hb dX7_unit_38 (by decide) ?_
      refine lv_icmp_eq (tgt := 53) hx hb dX7_unit_39 (by decide) (fun c54 => ?_) (fun c54 => ?_)
      · have h := bb_t h c54
        refine lv_aload_n hx hb dX7_unit_53 rfl (lv_at hl 1 rfl) ?_
        refine lv_bipush (v := 12) hx hb dX7_unit_54 (by decide) ?_
        refine lv_iconst (v := 5) hx hb dX7_unit_56 (by decide) ?_
        refine lv_iconst (v := 1) hx hb dX7_unit_57 (by decide) ?_
        refine lv_bipush (v := 19) hx hb dX7_unit_58 (by decide) ?_
        refine lv_bipush (v := 20) hx hb dX7_unit_60 (by decide) ?_
        obtain ⟨v55, S56, h57, h⟩ := bd_some h
        refine u_callV (n := 5) C w hw (hP _ _ (isn_f rfl rfl (by decide))) rfl rfl rfl (c_X7_isWord l D K b0 sa _ L _ ad P hP S52 hw hn 12 5 1 19 20 v55 S56 h57) gw_1367 gw_1364 gw_1366 gs_27 gw_8 ⟨by decide, by decide, by decide +kernel⟩ rfl rfl ⟨by dsimp only; omega, by dsimp only; omega⟩ rfl hl.1 rfl (Nat.le_of_ble_eq_true rfl) dX7_unit_62 ⟨Nat.le_of_ble_eq_true rfl, Nat.le_of_ble_eq_true rfl⟩ (fun v9 u H locs hp w => ?_)
        obtain ⟨f2, rfl, rfl, hw, hn, hk1⟩ := hp
        have hk := hk.tr hk1
        generalize f2 = f at w hw hk
        refine lv_istore_n (lv' := [(2, .int v55), (1, .int v51), (0, .ref (ad 40 0))]) hx hb dX7_unit_65 rfl hl (by decide) rfl (fun ls hl => ?_)
        refine lv_aload_n hx hb dX7_unit_66 rfl (lv_at hl 2 rfl) ?_
        refine lv_bipush (v := 13) hx hb dX7_unit_67 (by decide) ?_
        refine lv_bipush (v := 15) hx hb dX7_unit_69 (by decide) ?_
        refine lv_bipush (v := 19) hx hb dX7_unit_71 (by decide) ?_
        refine lv_bipush (v := 20) hx hb dX7_unit_73 (by decide) ?_
        refine lv_iconst (v := 0) hx hb dX7_unit_75 (by decide) ?_
        obtain ⟨v58, S59, h60, h⟩ := bd_some h
        refine u_callV (n := 5) C w hw (hP _ _ (isn_f rfl rfl (by decide))) rfl rfl rfl (c_X7_isWord l D K b0 sa _ L _ ad P hP S56 hw hn 13 15 19 20 0 v58 S59 h60) gw_1367 gw_1364 gw_1366 gs_27 gw_8 ⟨by decide, by decide, by decide +kernel⟩ rfl rfl ⟨by dsimp only; omega, by dsimp only; omega⟩ rfl hl.1 rfl (Nat.le_of_ble_eq_true rfl) dX7_unit_76 ⟨Nat.le_of_ble_eq_true rfl, Nat.le_of_ble_eq_true rfl⟩ (fun v9 u H locs hp w => ?_)
        obtain ⟨f2, rfl, rfl, hw, hn, hk1⟩ := hp
        have hk := hk.tr hk1
        generalize f2 = f at w hw hk
        refine lv_istore_n (lv' := [(3, .int v58), (2, .int v55), (1, .int v51), (0, .ref (ad 40 0))]) hx hb dX7_unit_79 rfl hl (by decide) rfl (fun ls hl => ?_)
        refine lv_iload_n hx hb dX7_unit_80 rfl (lv_at hl 1 rfl) ?_
        refine lv_if_ne (tgt := 88) hx hb dX7_unit_81 (by decide) (fun c61 => ?_) (fun c61 => ?_)
        · have h := bb_f h c61
          exact J88  v55 v58 S59 h f H locs w hw hn hk ls (lv_sub hl [3, 1, 0] rfl)
        · have h := bb_t h c61
          refine lv_iload_n hx hb dX7_unit_84 rfl (lv_at hl 0 rfl) ?_
          refine lv_if_eq (tgt := 92) hx hb dX7_unit_85 (by decide) (fun c62 => ?_) (fun c62 => ?_)
          · have h := bb_t h c62
            exact J92  v55 v58 S59 h f H locs w hw hn hk ls (lv_sub hl [3, 1, 0] rfl)
          · have h := bb_f h c62
            exact J88  v55 v58 S59 h f H locs w hw hn hk ls (lv_sub hl [3, 1, 0] rfl)
      · have h := bb_f h c54
        refine lv_aload_n hx hb dX7_unit_42 rfl (lv_at hl 1 rfl) ?_
        obtain ⟨v63, S64, h65, h⟩ := bd_some h
        refine u_callV (n := 0) C w hw (hP _ _ (isn_f rfl rfl (by decide))) rfl rfl rfl (c_X7_skipWord l D K b0 sa _ L _ ad P hP S52 hw hn  v63 S64 h65) gw_1421 gw_1418 gw_1420 gs_39 gw_8 ⟨by decide, by decide, by decide +kernel⟩ rfl rfl ⟨by dsimp only; omega, by dsimp only; omega⟩ rfl hl.1 rfl (Nat.le_of_ble_eq_true rfl) dX7_unit_43 ⟨Nat.le_of_ble_eq_true rfl, Nat.le_of_ble_eq_true rfl⟩ (fun v9 u H locs hp w => ?_)
        obtain ⟨f2, rfl, rfl, hw, hn, hk1⟩ := hp
        have hk := hk.tr hk1
        generalize f2 = f at w hw hk
        refine lv_aload_n hx hb dX7_unit_46 rfl (lv_at hl 1 rfl) ?_
        refine u_getr C w hw (hP _ _ (isn_f rfl rfl (by decide))) rfl (N := 57) rfl rfl cin_7 17 (by decide) (by decide) (a2 := 45) (i2 := 0) rfl gw_1173 dX7_unit_47 ?_
        refine lv_iload_n hx hb dX7_unit_50 rfl (lv_at hl 0 rfl) ?_
        obtain ⟨g66, h⟩ := gd_some h
        refine u_iald C w hw (hP _ _ (isn_f rfl rfl (by decide))) rfl rfl (n := 7) rfl (vp_in_iff.mpr g66) dX7_unit_51 ?_
        refine u_iv h (fun x67 h => ?_)
        exact t_iret C hr hlk w ⟨_, so_v h, rfl, so_w h hw, so_n h hn, hk⟩ (by decide) (by decide) dX7_unit_52
    · have h := bb_f h c50
      refine lv_aload_n hx hb dX7_unit_27 rfl (lv_at hl 0 rfl) ?_
      obtain ⟨v68, S69, h70, h⟩ := bd_some h
      refine u_callV (n := 0) C w hw (hP _ _ (isn_f rfl rfl (by decide))) rfl rfl rfl (c_X7_number l D K b0 sa _ L _ ad P hP S48 hw hn  v68 S69 h70) gw_1413 gw_1410 gw_1412 gs_37 gw_8 ⟨by decide, by decide, by decide +kernel⟩ rfl rfl ⟨by dsimp only; omega, by dsimp only; omega⟩ rfl hl.1 rfl (Nat.le_of_ble_eq_true rfl) dX7_unit_28 ⟨Nat.le_of_ble_eq_true rfl, Nat.le_of_ble_eq_true rfl⟩ (fun v9 u H locs hp w => ?_)
      obtain ⟨f2, rfl, rfl, hw, hn, hk1⟩ := hp
      have hk := hk.tr hk1
      generalize f2 = f at w hw hk
      exact t_iret C hr hlk w ⟨_, so_v h, rfl, so_w h hw, so_n h hn, hk⟩ (by decide) (by decide) dX7_unit_31
  · have h := bb_f h c39
    refine lv_iconst (v := 0) hx hb dX7_unit_7 (by decide) ?_
    exact t_iret C hr hlk w ⟨_, so_v h, rfl, so_w h hw, so_n h hn, hk⟩ (by decide) (by decide) dX7_unit_8
theorem dX7_product_0 : decode cX7_product 0 = .ok (.aload_n 0, 1) := by decide +kernel
theorem dX7_product_1 : decode cX7_product 1 = .ok (.invokevirtual 175, 3) := by decide +kernel
theorem dX7_product_4 : decode cX7_product 4 = .ok (.istore_n 1, 1) := by decide +kernel
theorem dX7_product_5 : decode cX7_product 5 = .ok (.aload_n 0, 1) := by decide +kernel
theorem dX7_product_6 : decode cX7_product 6 = .ok (.invokevirtual 134, 3) := by decide +kernel
theorem dX7_product_9 : decode cX7_product 9 = .ok (.aload_n 0, 1) := by decide +kernel
theorem dX7_product_10 : decode cX7_product 10 = .ok (.getfield 120, 3) := by decide +kernel
theorem dX7_product_13 : decode cX7_product 13 = .ok (.ifCond .ne 84, 3) := by decide +kernel
theorem dX7_product_16 : decode cX7_product 16 = .ok (.aload_n 0, 1) := by decide +kernel
theorem dX7_product_17 : decode cX7_product 17 = .ok (.aload_n 0, 1) := by decide +kernel
theorem dX7_product_18 : decode cX7_product 18 = .ok (.getfield 113, 3) := by decide +kernel
theorem dX7_product_21 : decode cX7_product 21 = .ok (.invokevirtual 116, 3) := by decide +kernel
theorem dX7_product_24 : decode cX7_product 24 = .ok (.bipush 42, 2) := by decide +kernel
theorem dX7_product_26 : decode cX7_product 26 = .ok (.if_icmp .eq 16, 3) := by decide +kernel
theorem dX7_product_29 : decode cX7_product 29 = .ok (.aload_n 0, 1) := by decide +kernel
theorem dX7_product_30 : decode cX7_product 30 = .ok (.aload_n 0, 1) := by decide +kernel
theorem dX7_product_31 : decode cX7_product 31 = .ok (.getfield 113, 3) := by decide +kernel
theorem dX7_product_34 : decode cX7_product 34 = .ok (.invokevirtual 116, 3) := by decide +kernel
theorem dX7_product_37 : decode cX7_product 37 = .ok (.bipush 47, 2) := by decide +kernel
theorem dX7_product_39 : decode cX7_product 39 = .ok (.if_icmp .ne 58, 3) := by decide +kernel
theorem dX7_product_42 : decode cX7_product 42 = .ok (.aload_n 0, 1) := by decide +kernel
theorem dX7_product_43 : decode cX7_product 43 = .ok (.aload_n 0, 1) := by decide +kernel
theorem dX7_product_44 : decode cX7_product 44 = .ok (.getfield 113, 3) := by decide +kernel
theorem dX7_product_47 : decode cX7_product 47 = .ok (.invokevirtual 116, 3) := by decide +kernel
theorem dX7_product_50 : decode cX7_product 50 = .ok (.istore_n 2, 1) := by decide +kernel
theorem dX7_product_51 : decode cX7_product 51 = .ok (.aload_n 0, 1) := by decide +kernel
theorem dX7_product_52 : decode cX7_product 52 = .ok (.dup, 1) := by decide +kernel
theorem dX7_product_53 : decode cX7_product 53 = .ok (.getfield 113, 3) := by decide +kernel
theorem dX7_product_56 : decode cX7_product 56 = .ok (.iconst 1, 1) := by decide +kernel
theorem dX7_product_57 : decode cX7_product 57 = .ok (.iadd, 1) := by decide +kernel
theorem dX7_product_58 : decode cX7_product 58 = .ok (.putfield 113, 3) := by decide +kernel
theorem dX7_product_61 : decode cX7_product 61 = .ok (.aload_n 0, 1) := by decide +kernel
theorem dX7_product_62 : decode cX7_product 62 = .ok (.invokevirtual 175, 3) := by decide +kernel
theorem dX7_product_65 : decode cX7_product 65 = .ok (.istore_n 3, 1) := by decide +kernel
theorem dX7_product_66 : decode cX7_product 66 = .ok (.iload_n 2, 1) := by decide +kernel
theorem dX7_product_67 : decode cX7_product 67 = .ok (.bipush 42, 2) := by decide +kernel
theorem dX7_product_69 : decode cX7_product 69 = .ok (.if_icmp .ne 9, 3) := by decide +kernel
theorem dX7_product_72 : decode cX7_product 72 = .ok (.iload_n 1, 1) := by decide +kernel
theorem dX7_product_73 : decode cX7_product 73 = .ok (.iload_n 3, 1) := by decide +kernel
theorem dX7_product_74 : decode cX7_product 74 = .ok (.imul, 1) := by decide +kernel
theorem dX7_product_75 : decode cX7_product 75 = .ok (.goto 14, 3) := by decide +kernel
theorem dX7_product_78 : decode cX7_product 78 = .ok (.iload_n 3, 1) := by decide +kernel
theorem dX7_product_79 : decode cX7_product 79 = .ok (.ifCond .ne 7, 3) := by decide +kernel
theorem dX7_product_82 : decode cX7_product 82 = .ok (.iconst 0, 1) := by decide +kernel
theorem dX7_product_83 : decode cX7_product 83 = .ok (.goto 6, 3) := by decide +kernel
theorem dX7_product_86 : decode cX7_product 86 = .ok (.iload_n 1, 1) := by decide +kernel
theorem dX7_product_87 : decode cX7_product 87 = .ok (.iload_n 3, 1) := by decide +kernel
theorem dX7_product_88 : decode cX7_product 88 = .ok (.idiv, 1) := by decide +kernel
theorem dX7_product_89 : decode cX7_product 89 = .ok (.istore_n 1, 1) := by decide +kernel
theorem dX7_product_90 : decode cX7_product 90 = .ok (.aload_n 0, 1) := by decide +kernel
theorem dX7_product_91 : decode cX7_product 91 = .ok (.invokevirtual 134, 3) := by decide +kernel
theorem dX7_product_94 : decode cX7_product 94 = .ok (.goto (-85), 3) := by decide +kernel
theorem dX7_product_97 : decode cX7_product 97 = .ok (.iload_n 1, 1) := by decide +kernel
theorem dX7_product_98 : decode cX7_product 98 = .ok (.ireturn, 1) := by decide +kernel
noncomputable def B_X7_product_89 (R : Nat → Int32 → fS → Option (Int32 × fS)) (k9 : (Int32) → fS → Option (Int32 × fS)) (t0 : Int32) (S : fS) : Option (Int32 × fS) := bd (F_X7_blanks  S) (fun v1 S2 => k9 t0 S2)
noncomputable def B_X7_product_42 (R : Nat → Int32 → fS → Option (Int32 × fS)) (k9 : (Int32) → fS → Option (Int32 × fS)) (a1 : Int32) (S : fS) : Option (Int32 × fS) := iv (ge S 40 0 4) (fun x4 => bd (F_X7_byteAt x4 S) (fun v5 S6 => iv (ge S6 40 0 4) (fun x8 => iv (x8 + (1 : Int32)) (fun x9 => sv (pu S6 40 0 4 x9) (fun S10 => bd (R 0 0 S10) (fun v11 S12 => bb (v5 = (42 : Int32)) (iv (a1 * v11) (fun x18 => B_X7_product_89 R k9 x18 S12)) (bb (v11 = (0 : Int32)) (B_X7_product_89 R k9 0 S12) (gd (¬ v11 = 0) (iv (a1 / v11) (fun x17 => B_X7_product_89 R k9 x17 S12))))))))))
noncomputable def B_X7_product_9 (R : Nat → Int32 → fS → Option (Int32 × fS)) (k9 : (Int32) → fS → Option (Int32 × fS)) : (Int32) → fS → Option (Int32 × fS) := fun a1 S => iv (ge S 40 0 6) (fun x19 => bb (x19 = (0 : Int32)) (iv (ge S 40 0 4) (fun x21 => bd (F_X7_byteAt x21 S) (fun v22 S23 => bb (v22 = (42 : Int32)) (B_X7_product_42 R k9 a1 S23) (iv (ge S23 40 0 4) (fun x26 => bd (F_X7_byteAt x26 S23) (fun v27 S28 => bb (v27 = (47 : Int32)) (B_X7_product_42 R k9 a1 S28) (some (a1, S28)))))))) (some (a1, S)))
noncomputable def N_X7_product (R : Nat → Int32 → fS → Option (Int32 × fS))  (S0 : fS) : Option (Int32 × fS) := bd (R 0 0 S0) (fun v31 S32 => bd (F_X7_blanks  S32) (fun v34 S35 => lp (B_X7_product_9 R ) fuel v31 S35))
set_option maxHeartbeats 4000000 in
set_option maxRecDepth 100000 in
theorem n_X7_product (l : Launch) (D : va_G) (K : Nat → ClassId) (b0 : Nat) (sa : sT) (ad : Nat → Nat → Nat) {n : Nat × Nat} (P : Nat → Nat → Prop) (hP : ∀ a i : Nat, isn n a i → P a i) (R : Nat → Int32 → fS → Option (Int32 × fS)) (d : Nat) (hR0 : ∀ (sz : Nat) (L : List Nat) (f0 : Nat → va_E) (S0 : fS) (hw : PW K ad P S0 L f0) (hn : S0.2.2.1 = n) (v : Int32) (S1 : fS) (h : R 0 0 S0 = some (v, S1)), Met l yX7_unit (.code yX7_unit cX7_unit 6 (some .int) :: gt) { frames := 6 + d, cells := 0, slots := 0, locals := 108 + 40 * d } (va_Pc [.ref (ad 40 0)] (hPre D K b0 sa sz L f0)) (hQ D K b0 (fun v9 u9 => ∃ f2 : Nat → va_E, v9 = some (.int v) ∧ u9 = lU L f2 ∧ PW K ad P S1 L f2 ∧ S1.2.2.1 = n ∧ Kp ad P L f0 f2)) 0 0 (fun q => b0 ≤ q)) (hR1 : ∀ (sz : Nat) (L : List Nat) (f0 : Nat → va_E) (S0 : fS) (hw : PW K ad P S0 L f0) (hn : S0.2.2.1 = n) (v : Int32) (S1 : fS) (h : R 1 0 S0 = some (v, S1)), Met l yX7_product (.code yX7_product cX7_product 4 (some .int) :: gt) { frames := 6 + d, cells := 0, slots := 0, locals := 108 + 40 * d } (va_Pc [.ref (ad 40 0)] (hPre D K b0 sa sz L f0)) (hQ D K b0 (fun v9 u9 => ∃ f2 : Nat → va_E, v9 = some (.int v) ∧ u9 = lU L f2 ∧ PW K ad P S1 L f2 ∧ S1.2.2.1 = n ∧ Kp ad P L f0 f2)) 0 0 (fun q => b0 ≤ q)) (hR2 : ∀ (sz : Nat) (L : List Nat) (f0 : Nat → va_E) (S0 : fS) (hw : PW K ad P S0 L f0) (hn : S0.2.2.1 = n) (v : Int32) (S1 : fS) (h : R 2 0 S0 = some (v, S1)), Met l yX7_sum (.code yX7_sum cX7_sum 4 (some .int) :: gt) { frames := 6 + d, cells := 0, slots := 0, locals := 108 + 40 * d } (va_Pc [.ref (ad 40 0)] (hPre D K b0 sa sz L f0)) (hQ D K b0 (fun v9 u9 => ∃ f2 : Nat → va_E, v9 = some (.int v) ∧ u9 = lU L f2 ∧ PW K ad P S1 L f2 ∧ S1.2.2.1 = n ∧ Kp ad P L f0 f2)) 0 0 (fun q => b0 ≤ q)) (hR3 : ∀ (sz : Nat) (L : List Nat) (f0 : Nat → va_E) (S0 : fS) (hw : PW K ad P S0 L f0) (hn : S0.2.2.1 = n) (v : Int32) (S1 : fS) (h : R 3 0 S0 = some (v, S1)), Met l yX7_test (.code yX7_test cX7_test 4 (some .boolean) :: gt) { frames := 6 + d, cells := 0, slots := 0, locals := 108 + 40 * d } (va_Pc [.ref (ad 40 0)] (hPre D K b0 sa sz L f0)) (hQ D K b0 (fun v9 u9 => ∃ f2 : Nat → va_E, v9 = some (.int v) ∧ u9 = lU L f2 ∧ PW K ad P S1 L f2 ∧ S1.2.2.1 = n ∧ Kp ad P L f0 f2)) 0 0 (fun q => b0 ≤ q)) (hR4 : ∀ (sz : Nat) (L : List Nat) (f0 : Nat → va_E) (S0 : fS) (hw : PW K ad P S0 L f0) (hn : S0.2.2.1 = n) (v : Int32) (S1 : fS) (h : R 4 0 S0 = some (v, S1)), Met l yX7_ands (.code yX7_ands cX7_ands 3 (some .boolean) :: gt) { frames := 6 + d, cells := 0, slots := 0, locals := 108 + 40 * d } (va_Pc [.ref (ad 40 0)] (hPre D K b0 sa sz L f0)) (hQ D K b0 (fun v9 u9 => ∃ f2 : Nat → va_E, v9 = some (.int v) ∧ u9 = lU L f2 ∧ PW K ad P S1 L f2 ∧ S1.2.2.1 = n ∧ Kp ad P L f0 f2)) 0 0 (fun q => b0 ≤ q)) (hR5 : ∀ (sz : Nat) (L : List Nat) (f0 : Nat → va_E) (S0 : fS) (hw : PW K ad P S0 L f0) (hn : S0.2.2.1 = n) (v : Int32) (S1 : fS) (h : R 5 0 S0 = some (v, S1)), Met l yX7_ors (.code yX7_ors cX7_ors 3 (some .boolean) :: gt) { frames := 6 + d, cells := 0, slots := 0, locals := 108 + 40 * d } (va_Pc [.ref (ad 40 0)] (hPre D K b0 sa sz L f0)) (hQ D K b0 (fun v9 u9 => ∃ f2 : Nat → va_E, v9 = some (.int v) ∧ u9 = lU L f2 ∧ PW K ad P S1 L f2 ∧ S1.2.2.1 = n ∧ Kp ad P L f0 f2)) 0 0 (fun q => b0 ≤ q)) (sz : Nat) (L : List Nat) (f0 : Nat → va_E) (S0 : fS) (hw : PW K ad P S0 L f0) (hn : S0.2.2.1 = n)  (v : Int32) (S1 : fS) (h : N_X7_product R  S0 = some (v, S1)) : Met l yX7_product (.code yX7_product cX7_product 4 (some .int) :: gt) { frames := 6 + (d + 1), cells := 0, slots := 0, locals := 108 + 40 * (d + 1) } (va_Pc [.ref (ad 40 0)] (hPre D K b0 sa sz L f0)) (hQ D K b0 (fun v9 u9 => ∃ f2 : Nat → va_E, v9 = some (.int v) ∧ u9 = lU L f2 ∧ PW K ad P S1 L f2 ∧ S1.2.2.1 = n ∧ Kp ad P L f0 f2)) 0 0 (fun q => b0 ≤ q) := by
  refine t_of (own := RX7) (by decide) rfl ?_ (Nat.le_of_ble_eq_true rfl)
  intro p e s m below meth c ls C w hsz hr hlk hnm hl
  have hx := C.1
  have hb := C.2.1
  have hl : lv_has ls 4 [(0, .ref (ad 40 0))] := hl
  have J89 : ∀ (k9 : (Int32) → fS → Option (Int32 × fS)) (hk9 : ∀ (a1 : Int32) (S : fS), k9 a1 S = some (v, S1) → Gw D K b0 sa ad P n L f0 p l e { frames := 6 + (d + 1), cells := 0, slots := 0, locals := 108 + 40 * (d + 1) } s m [.ref (ad 40 0)].toArray below meth c 4 (MQ below (hQ D K b0 (fun v9 u9 => ∃ f2 : Nat → va_E, v9 = some (.int v) ∧ u9 = lU L f2 ∧ PW K ad P S1 L f2 ∧ S1.2.2.1 = n ∧ Kp ad P L f0 f2)) [.ref (ad 40 0)].toArray s 0 0 (fun q => b0 ≤ q)) 0 0 9 [(0, .ref (ad 40 0)), (1, .int a1)] [] S) (t0 : Int32) (S : fS), B_X7_product_89 R k9 t0 S = some (v, S1) → Gw D K b0 sa ad P n L f0 p l e { frames := 6 + (d + 1), cells := 0, slots := 0, locals := 108 + 40 * (d + 1) } s m [.ref (ad 40 0)].toArray below meth c 4 (MQ below (hQ D K b0 (fun v9 u9 => ∃ f2 : Nat → va_E, v9 = some (.int v) ∧ u9 = lU L f2 ∧ PW K ad P S1 L f2 ∧ S1.2.2.1 = n ∧ Kp ad P L f0 f2)) [.ref (ad 40 0)].toArray s 0 0 (fun q => b0 ≤ q)) 0 0 89 [(0, .ref (ad 40 0))] [.int t0] S := by
    intro k9 hk9 t0 S h
    dsimp only [B_X7_product_89] at h
    intro f H locs w hw hn hk ls hl
    refine lv_istore_n (lv' := [(1, .int t0), (0, .ref (ad 40 0))]) hx hb dX7_product_89 rfl hl (by decide) rfl (fun ls hl => ?_)
    refine lv_aload_n hx hb dX7_product_90 rfl (lv_at hl 1 rfl) ?_
    obtain ⟨v1, S2, h3, h⟩ := bd_some h
    refine u_callV (n := 0) C w hw (hP _ _ (isn_f rfl rfl (by decide))) rfl rfl rfl (c_X7_blanks l D K b0 sa _ L _ ad P hP S hw hn  v1 S2 h3) gw_1375 gw_1372 gw_1374 gs_29 gw_8 ⟨by decide, by decide, by decide +kernel⟩ rfl rfl ⟨by dsimp only; omega, by dsimp only; omega⟩ rfl hl.1 rfl (Nat.le_of_ble_eq_true rfl) dX7_product_91 ⟨Nat.le_of_ble_eq_true rfl, Nat.le_of_ble_eq_true rfl⟩ (fun v9 u H locs hp w => ?_)
    obtain ⟨f2, rfl, rfl, hw, hn, hk1⟩ := hp
    have hk := hk.tr hk1
    generalize f2 = f at w hw hk
    refine lv_goto (tgt := 9) hx hb dX7_product_94 (by decide) ?_
    exact hk9 t0 S2 h f H locs w hw hn hk ls (lv_sub hl [1, 0] rfl)
  have J42 : ∀ (k9 : (Int32) → fS → Option (Int32 × fS)) (hk9 : ∀ (a1 : Int32) (S : fS), k9 a1 S = some (v, S1) → Gw D K b0 sa ad P n L f0 p l e { frames := 6 + (d + 1), cells := 0, slots := 0, locals := 108 + 40 * (d + 1) } s m [.ref (ad 40 0)].toArray below meth c 4 (MQ below (hQ D K b0 (fun v9 u9 => ∃ f2 : Nat → va_E, v9 = some (.int v) ∧ u9 = lU L f2 ∧ PW K ad P S1 L f2 ∧ S1.2.2.1 = n ∧ Kp ad P L f0 f2)) [.ref (ad 40 0)].toArray s 0 0 (fun q => b0 ≤ q)) 0 0 9 [(0, .ref (ad 40 0)), (1, .int a1)] [] S) (a1 : Int32) (S : fS), B_X7_product_42 R k9 a1 S = some (v, S1) → Gw D K b0 sa ad P n L f0 p l e { frames := 6 + (d + 1), cells := 0, slots := 0, locals := 108 + 40 * (d + 1) } s m [.ref (ad 40 0)].toArray below meth c 4 (MQ below (hQ D K b0 (fun v9 u9 => ∃ f2 : Nat → va_E, v9 = some (.int v) ∧ u9 = lU L f2 ∧ PW K ad P S1 L f2 ∧ S1.2.2.1 = n ∧ Kp ad P L f0 f2)) [.ref (ad 40 0)].toArray s 0 0 (fun q => b0 ≤ q)) 0 0 42 [(0, .ref (ad 40 0)), (1, .int a1)] [] S := by
    intro k9 hk9 a1 S h
    dsimp only [B_X7_product_42] at h
    intro f H locs w hw hn hk ls hl
    refine lv_aload_n hx hb dX7_product_42 rfl (lv_at hl 0 rfl) ?_
    refine lv_aload_n hx hb dX7_product_43 rfl (lv_at hl 0 rfl) ?_
    refine u_geti C w hw (hP _ _ (isn_f rfl rfl (by decide))) rfl (N := 57) rfl rfl cin_7 4 (by decide) rfl gw_1160 dX7_product_44 ?_
    refine u_iv h (fun x4 h => ?_)
    obtain ⟨v5, S6, h7, h⟩ := bd_some h
    refine u_callV (n := 1) C w hw (hP _ _ (isn_f rfl rfl (by decide))) rfl rfl rfl (c_X7_byteAt l D K b0 sa _ L _ ad P hP S hw hn x4 v5 S6 h7) gw_1379 gw_1376 gw_1378 gs_30 gw_8 ⟨by decide, by decide, by decide +kernel⟩ rfl rfl ⟨by dsimp only; omega, by dsimp only; omega⟩ rfl hl.1 rfl (Nat.le_of_ble_eq_true rfl) dX7_product_47 ⟨Nat.le_of_ble_eq_true rfl, Nat.le_of_ble_eq_true rfl⟩ (fun v9 u H locs hp w => ?_)
    obtain ⟨f2, rfl, rfl, hw, hn, hk1⟩ := hp
    have hk := hk.tr hk1
    generalize f2 = f at w hw hk
    refine lv_istore_n (lv' := [(2, .int v5), (0, .ref (ad 40 0)), (1, .int a1)]) hx hb dX7_product_50 rfl hl (by decide) rfl (fun ls hl => ?_)
    refine lv_aload_n hx hb dX7_product_51 rfl (lv_at hl 1 rfl) ?_
    refine lv_dup hx hb dX7_product_52 rfl ?_
    refine u_geti C w hw (hP _ _ (isn_f rfl rfl (by decide))) rfl (N := 57) rfl rfl cin_7 4 (by decide) rfl gw_1160 dX7_product_53 ?_
    refine u_iv h (fun x8 h => ?_)
    refine lv_iconst (v := 1) hx hb dX7_product_56 (by decide) ?_
    refine lv_iadd hx hb dX7_product_57 ?_
    refine u_iv h (fun x9 h => ?_)
    refine u_puti C w hw (hP _ _ (isn_f rfl rfl (by decide))) rfl (N := 57) rfl rfl cin_7 tyX7 tyX7_ok nmX7 4 (by decide) rfl rfl rfl rfl gw_1160 dX7_product_58 (fun f H locs w hw hk1 => ?_)
    have hk := hk.tr hk1
    refine u_sv h hw hn (fun S10 h hw hn => ?_)
    refine lv_aload_n hx hb dX7_product_61 rfl (lv_at hl 1 rfl) ?_
    obtain ⟨v11, S12, h13, h⟩ := bd_some h
    refine u_callV (n := 0) C w hw (hP _ _ (isn_f rfl rfl (by decide))) rfl rfl rfl (hR0 _ L _ S10 hw hn v11 S12 h13) gw_1406 gw_1403 gw_1405 gs_36 gw_8 ⟨by decide, by decide, by decide +kernel⟩ rfl rfl ⟨by dsimp only; omega, by dsimp only; omega⟩ rfl hl.1 rfl (Nat.le_of_ble_eq_true rfl) dX7_product_62 ⟨Nat.le_of_ble_eq_true rfl, Nat.le_of_ble_eq_true rfl⟩ (fun v9 u H locs hp w => ?_)
    obtain ⟨f2, rfl, rfl, hw, hn, hk1⟩ := hp
    have hk := hk.tr hk1
    generalize f2 = f at w hw hk
    refine lv_istore_n (lv' := [(3, .int v11), (2, .int v5), (0, .ref (ad 40 0)), (1, .int a1)]) hx hb dX7_product_65 rfl hl (by decide) rfl (fun ls hl => ?_)
    refine lv_iload_n hx hb dX7_product_66 rfl (lv_at hl 1 rfl) ?_
    refine lv_bipush (v := 42) hx hb dX7_product_67 (by decide) ?_
    refine lv_icmp_ne (tgt := 78) hx hb dX7_product_69 (by decide) (fun c14 => ?_) (fun c14 => ?_)
    · have h := bb_f h c14
      refine lv_iload_n hx hb dX7_product_78 rfl (lv_at hl 0 rfl) ?_
      refine lv_if_ne (tgt := 86) hx hb dX7_product_79 (by decide) (fun c15 => ?_) (fun c15 => ?_)
      · have h := bb_f h c15
        refine lv_iload_n hx hb dX7_product_86 rfl (lv_at hl 3 rfl) ?_
        refine lv_iload_n hx hb dX7_product_87 rfl (lv_at hl 0 rfl) ?_
        obtain ⟨g16, h⟩ := gd_some h
        refine lv_idiv hx hb dX7_product_88 g16 ?_
        refine u_iv h (fun x17 h => ?_)
        exact J89 k9 hk9 x17 S12 h f H locs w hw hn hk ls (lv_sub hl [2] rfl)
      · have h := bb_t h c15
        refine lv_iconst (v := 0) hx hb dX7_product_82 (by decide) ?_
        refine lv_goto (tgt := 89) hx hb dX7_product_83 (by decide) ?_
        exact J89 k9 hk9 0 S12 h f H locs w hw hn hk ls (lv_sub hl [2] rfl)
    · have h := bb_t h c14
      refine lv_iload_n hx hb dX7_product_72 rfl (lv_at hl 3 rfl) ?_
      refine lv_iload_n hx hb dX7_product_73 rfl (lv_at hl 0 rfl) ?_
      refine lv_imul hx hb dX7_product_74 ?_
      refine u_iv h (fun x18 h => ?_)
      refine lv_goto (tgt := 89) hx hb dX7_product_75 (by decide) ?_
      exact J89 k9 hk9 x18 S12 h f H locs w hw hn hk ls (lv_sub hl [2] rfl)
  have J9 : ∀ (fu : Nat) (a1 : Int32) (S : fS), lp (B_X7_product_9 R ) fu a1 S = some (v, S1) → Gw D K b0 sa ad P n L f0 p l e { frames := 6 + (d + 1), cells := 0, slots := 0, locals := 108 + 40 * (d + 1) } s m [.ref (ad 40 0)].toArray below meth c 4 (MQ below (hQ D K b0 (fun v9 u9 => ∃ f2 : Nat → va_E, v9 = some (.int v) ∧ u9 = lU L f2 ∧ PW K ad P S1 L f2 ∧ S1.2.2.1 = n ∧ Kp ad P L f0 f2)) [.ref (ad 40 0)].toArray s 0 0 (fun q => b0 ≤ q)) 0 0 9 [(0, .ref (ad 40 0)), (1, .int a1)] [] S := by
    intro fu a1 S h
    refine lp_some (G := (fun q S => Gw D K b0 sa ad P n L f0 p l e { frames := 6 + (d + 1), cells := 0, slots := 0, locals := 108 + 40 * (d + 1) } s m [.ref (ad 40 0)].toArray below meth c 4 (MQ below (hQ D K b0 (fun v9 u9 => ∃ f2 : Nat → va_E, v9 = some (.int v) ∧ u9 = lU L f2 ∧ PW K ad P S1 L f2 ∧ S1.2.2.1 = n ∧ Kp ad P L f0 f2)) [.ref (ad 40 0)].toArray s 0 0 (fun q => b0 ≤ q)) 0 0 9 [(0, .ref (ad 40 0)), (1, .int q)] [] S)) (fun k9 hk9 q S h => ?_) fu a1 S h
    obtain ⟨a1, e9⟩ : ∃ z, z = q := ⟨_, rfl⟩
    subst e9
    dsimp only [B_X7_product_9] at h
    intro f H locs w hw hn hk ls hl
    refine lv_aload_n hx hb dX7_product_9 rfl (lv_at hl 0 rfl) ?_
    refine u_geti C w hw (hP _ _ (isn_f rfl rfl (by decide))) rfl (N := 57) rfl rfl cin_7 6 (by decide) rfl gw_1162 dX7_product_10 ?_
    refine u_iv h (fun x19 h => ?_)
    refine lv_if_ne (tgt := 97) hx hb dX7_product_13 (by decide) (fun c20 => ?_) (fun c20 => ?_)
    · have h := bb_f h c20
      refine lv_iload_n hx hb dX7_product_97 rfl (lv_at hl 1 rfl) ?_
      exact t_iret C hr hlk w ⟨_, so_v h, rfl, so_w h hw, so_n h hn, hk⟩ (by decide) (by decide) dX7_product_98
    · have h := bb_t h c20
      refine lv_aload_n hx hb dX7_product_16 rfl (lv_at hl 0 rfl) ?_
      refine lv_aload_n hx hb dX7_product_17 rfl (lv_at hl 0 rfl) ?_
      refine u_geti C w hw (hP _ _ (isn_f rfl rfl (by decide))) rfl (N := 57) rfl rfl cin_7 4 (by decide) rfl gw_1160 dX7_product_18 ?_
      refine u_iv h (fun x21 h => ?_)
      obtain ⟨v22, S23, h24, h⟩ := bd_some h
      refine u_callV (n := 1) C w hw (hP _ _ (isn_f rfl rfl (by decide))) rfl rfl rfl (c_X7_byteAt l D K b0 sa _ L _ ad P hP S hw hn x21 v22 S23 h24) gw_1379 gw_1376 gw_1378 gs_30 gw_8 ⟨by decide, by decide, by decide +kernel⟩ rfl rfl ⟨by dsimp only; omega, by dsimp only; omega⟩ rfl hl.1 rfl (Nat.le_of_ble_eq_true rfl) dX7_product_21 ⟨Nat.le_of_ble_eq_true rfl, Nat.le_of_ble_eq_true rfl⟩ (fun v9 u H locs hp w => ?_)
      obtain ⟨f2, rfl, rfl, hw, hn, hk1⟩ := hp
      have hk := hk.tr hk1
      generalize f2 = f at w hw hk
      refine lv_bipush (v := 42) hx hb dX7_product_24 (by decide) ?_
      refine lv_icmp_eq (tgt := 42) hx hb dX7_product_26 (by decide) (fun c25 => ?_) (fun c25 => ?_)
      · have h := bb_t h c25
        exact J42 k9 hk9 a1 S23 h f H locs w hw hn hk ls (lv_sub hl [0, 1] rfl)
      · have h := bb_f h c25
        refine lv_aload_n hx hb dX7_product_29 rfl (lv_at hl 0 rfl) ?_
        refine lv_aload_n hx hb dX7_product_30 rfl (lv_at hl 0 rfl) ?_
        refine u_geti C w hw (hP _ _ (isn_f rfl rfl (by decide))) rfl (N := 57) rfl rfl cin_7 4 (by decide) rfl gw_1160 dX7_product_31 ?_
        refine u_iv h (fun x26 h => ?_)
        obtain ⟨v27, S28, h29, h⟩ := bd_some h
        refine u_callV (n := 1) C w hw (hP _ _ (isn_f rfl rfl (by decide))) rfl rfl rfl (c_X7_byteAt l D K b0 sa _ L _ ad P hP S23 hw hn x26 v27 S28 h29) gw_1379 gw_1376 gw_1378 gs_30 gw_8 ⟨by decide, by decide, by decide +kernel⟩ rfl rfl ⟨by dsimp only; omega, by dsimp only; omega⟩ rfl hl.1 rfl (Nat.le_of_ble_eq_true rfl) dX7_product_34 ⟨Nat.le_of_ble_eq_true rfl, Nat.le_of_ble_eq_true rfl⟩ (fun v9 u H locs hp w => ?_)
        obtain ⟨f2, rfl, rfl, hw, hn, hk1⟩ := hp
        have hk := hk.tr hk1
        generalize f2 = f at w hw hk
        refine lv_bipush (v := 47) hx hb dX7_product_37 (by decide) ?_
        refine lv_icmp_ne (tgt := 97) hx hb dX7_product_39 (by decide) (fun c30 => ?_) (fun c30 => ?_)
        · have h := bb_f h c30
          refine lv_iload_n hx hb dX7_product_97 rfl (lv_at hl 1 rfl) ?_
          exact t_iret C hr hlk w ⟨_, so_v h, rfl, so_w h hw, so_n h hn, hk⟩ (by decide) (by decide) dX7_product_98
        · have h := bb_t h c30
          exact J42 k9 hk9 a1 S28 h f H locs w hw hn hk ls (lv_sub hl [0, 1] rfl)
  dsimp only [N_X7_product] at h
  obtain ⟨f, ef⟩ : ∃ z, z = f0 := ⟨_, rfl⟩
  rw [← ef] at w hw
  have hk : Kp ad P L f0 f := by rw [ef]; exact Kp.rf
  obtain ⟨H, eH⟩ : ∃ z, z = s.heap := ⟨_, rfl⟩
  obtain ⟨locs, el⟩ : ∃ z : List Loc, z = [] := ⟨_, rfl⟩
  rw [← eH, ← el] at w ⊢
  refine lv_aload_n hx hb dX7_product_0 rfl (lv_at hl 0 rfl) ?_
  obtain ⟨v31, S32, h33, h⟩ := bd_some h
  refine u_callV (n := 0) C w hw (hP _ _ (isn_f rfl rfl (by decide))) rfl rfl rfl (hR0 _ L _ S0 hw hn v31 S32 h33) gw_1406 gw_1403 gw_1405 gs_36 gw_8 ⟨by decide, by decide, by decide +kernel⟩ rfl rfl ⟨by dsimp only; omega, by dsimp only; omega⟩ rfl hl.1 rfl (Nat.le_of_ble_eq_true rfl) dX7_product_1 ⟨Nat.le_of_ble_eq_true rfl, Nat.le_of_ble_eq_true rfl⟩ (fun v9 u H locs hp w => ?_)
  obtain ⟨f2, rfl, rfl, hw, hn, hk1⟩ := hp
  have hk := hk.tr hk1
  generalize f2 = f at w hw hk
  refine lv_istore_n (lv' := [(1, .int v31), (0, .ref (ad 40 0))]) hx hb dX7_product_4 rfl hl (by decide) rfl (fun ls hl => ?_)
  refine lv_aload_n hx hb dX7_product_5 rfl (lv_at hl 1 rfl) ?_
  obtain ⟨v34, S35, h36, h⟩ := bd_some h
  refine u_callV (n := 0) C w hw (hP _ _ (isn_f rfl rfl (by decide))) rfl rfl rfl (c_X7_blanks l D K b0 sa _ L _ ad P hP S32 hw hn  v34 S35 h36) gw_1375 gw_1372 gw_1374 gs_29 gw_8 ⟨by decide, by decide, by decide +kernel⟩ rfl rfl ⟨by dsimp only; omega, by dsimp only; omega⟩ rfl hl.1 rfl (Nat.le_of_ble_eq_true rfl) dX7_product_6 ⟨Nat.le_of_ble_eq_true rfl, Nat.le_of_ble_eq_true rfl⟩ (fun v9 u H locs hp w => ?_)
  obtain ⟨f2, rfl, rfl, hw, hn, hk1⟩ := hp
  have hk := hk.tr hk1
  generalize f2 = f at w hw hk
  exact J9  fuel v31 S35 h f H locs w hw hn hk ls (lv_sub hl [1, 0] rfl)
theorem dX7_sum_0 : decode cX7_sum 0 = .ok (.aload_n 0, 1) := by decide +kernel
theorem dX7_sum_1 : decode cX7_sum 1 = .ok (.invokevirtual 178, 3) := by decide +kernel
theorem dX7_sum_4 : decode cX7_sum 4 = .ok (.istore_n 1, 1) := by decide +kernel
theorem dX7_sum_5 : decode cX7_sum 5 = .ok (.aload_n 0, 1) := by decide +kernel
theorem dX7_sum_6 : decode cX7_sum 6 = .ok (.invokevirtual 134, 3) := by decide +kernel
theorem dX7_sum_9 : decode cX7_sum 9 = .ok (.aload_n 0, 1) := by decide +kernel
theorem dX7_sum_10 : decode cX7_sum 10 = .ok (.getfield 120, 3) := by decide +kernel
theorem dX7_sum_13 : decode cX7_sum 13 = .ok (.ifCond .ne 76, 3) := by decide +kernel
theorem dX7_sum_16 : decode cX7_sum 16 = .ok (.aload_n 0, 1) := by decide +kernel
theorem dX7_sum_17 : decode cX7_sum 17 = .ok (.aload_n 0, 1) := by decide +kernel
theorem dX7_sum_18 : decode cX7_sum 18 = .ok (.getfield 113, 3) := by decide +kernel
theorem dX7_sum_21 : decode cX7_sum 21 = .ok (.invokevirtual 116, 3) := by decide +kernel
theorem dX7_sum_24 : decode cX7_sum 24 = .ok (.bipush 43, 2) := by decide +kernel
theorem dX7_sum_26 : decode cX7_sum 26 = .ok (.if_icmp .eq 16, 3) := by decide +kernel
theorem dX7_sum_29 : decode cX7_sum 29 = .ok (.aload_n 0, 1) := by decide +kernel
theorem dX7_sum_30 : decode cX7_sum 30 = .ok (.aload_n 0, 1) := by decide +kernel
theorem dX7_sum_31 : decode cX7_sum 31 = .ok (.getfield 113, 3) := by decide +kernel
theorem dX7_sum_34 : decode cX7_sum 34 = .ok (.invokevirtual 116, 3) := by decide +kernel
theorem dX7_sum_37 : decode cX7_sum 37 = .ok (.bipush 45, 2) := by decide +kernel
theorem dX7_sum_39 : decode cX7_sum 39 = .ok (.if_icmp .ne 50, 3) := by decide +kernel
theorem dX7_sum_42 : decode cX7_sum 42 = .ok (.aload_n 0, 1) := by decide +kernel
theorem dX7_sum_43 : decode cX7_sum 43 = .ok (.aload_n 0, 1) := by decide +kernel
theorem dX7_sum_44 : decode cX7_sum 44 = .ok (.getfield 113, 3) := by decide +kernel
theorem dX7_sum_47 : decode cX7_sum 47 = .ok (.invokevirtual 116, 3) := by decide +kernel
theorem dX7_sum_50 : decode cX7_sum 50 = .ok (.istore_n 2, 1) := by decide +kernel
theorem dX7_sum_51 : decode cX7_sum 51 = .ok (.aload_n 0, 1) := by decide +kernel
theorem dX7_sum_52 : decode cX7_sum 52 = .ok (.dup, 1) := by decide +kernel
theorem dX7_sum_53 : decode cX7_sum 53 = .ok (.getfield 113, 3) := by decide +kernel
theorem dX7_sum_56 : decode cX7_sum 56 = .ok (.iconst 1, 1) := by decide +kernel
theorem dX7_sum_57 : decode cX7_sum 57 = .ok (.iadd, 1) := by decide +kernel
theorem dX7_sum_58 : decode cX7_sum 58 = .ok (.putfield 113, 3) := by decide +kernel
theorem dX7_sum_61 : decode cX7_sum 61 = .ok (.aload_n 0, 1) := by decide +kernel
theorem dX7_sum_62 : decode cX7_sum 62 = .ok (.invokevirtual 178, 3) := by decide +kernel
theorem dX7_sum_65 : decode cX7_sum 65 = .ok (.istore_n 3, 1) := by decide +kernel
theorem dX7_sum_66 : decode cX7_sum 66 = .ok (.iload_n 2, 1) := by decide +kernel
theorem dX7_sum_67 : decode cX7_sum 67 = .ok (.bipush 43, 2) := by decide +kernel
theorem dX7_sum_69 : decode cX7_sum 69 = .ok (.if_icmp .ne 9, 3) := by decide +kernel
theorem dX7_sum_72 : decode cX7_sum 72 = .ok (.iload_n 1, 1) := by decide +kernel
theorem dX7_sum_73 : decode cX7_sum 73 = .ok (.iload_n 3, 1) := by decide +kernel
theorem dX7_sum_74 : decode cX7_sum 74 = .ok (.iadd, 1) := by decide +kernel
theorem dX7_sum_75 : decode cX7_sum 75 = .ok (.goto 6, 3) := by decide +kernel
theorem dX7_sum_78 : decode cX7_sum 78 = .ok (.iload_n 1, 1) := by decide +kernel
theorem dX7_sum_79 : decode cX7_sum 79 = .ok (.iload_n 3, 1) := by decide +kernel
theorem dX7_sum_80 : decode cX7_sum 80 = .ok (.isub, 1) := by decide +kernel
theorem dX7_sum_81 : decode cX7_sum 81 = .ok (.istore_n 1, 1) := by decide +kernel
theorem dX7_sum_82 : decode cX7_sum 82 = .ok (.aload_n 0, 1) := by decide +kernel
theorem dX7_sum_83 : decode cX7_sum 83 = .ok (.invokevirtual 134, 3) := by decide +kernel
theorem dX7_sum_86 : decode cX7_sum 86 = .ok (.goto (-77), 3) := by decide +kernel
theorem dX7_sum_89 : decode cX7_sum 89 = .ok (.iload_n 1, 1) := by decide +kernel
theorem dX7_sum_90 : decode cX7_sum 90 = .ok (.ireturn, 1) := by decide +kernel
noncomputable def B_X7_sum_81 (R : Nat → Int32 → fS → Option (Int32 × fS)) (k9 : (Int32) → fS → Option (Int32 × fS)) (t0 : Int32) (S : fS) : Option (Int32 × fS) := bd (F_X7_blanks  S) (fun v1 S2 => k9 t0 S2)
noncomputable def B_X7_sum_42 (R : Nat → Int32 → fS → Option (Int32 × fS)) (k9 : (Int32) → fS → Option (Int32 × fS)) (a1 : Int32) (S : fS) : Option (Int32 × fS) := iv (ge S 40 0 4) (fun x4 => bd (F_X7_byteAt x4 S) (fun v5 S6 => iv (ge S6 40 0 4) (fun x8 => iv (x8 + (1 : Int32)) (fun x9 => sv (pu S6 40 0 4 x9) (fun S10 => bd (R 1 0 S10) (fun v11 S12 => bb (v5 = (43 : Int32)) (iv (a1 + v11) (fun x16 => B_X7_sum_81 R k9 x16 S12)) (iv (a1 - v11) (fun x15 => B_X7_sum_81 R k9 x15 S12))))))))
noncomputable def B_X7_sum_9 (R : Nat → Int32 → fS → Option (Int32 × fS)) (k9 : (Int32) → fS → Option (Int32 × fS)) : (Int32) → fS → Option (Int32 × fS) := fun a1 S => iv (ge S 40 0 6) (fun x17 => bb (x17 = (0 : Int32)) (iv (ge S 40 0 4) (fun x19 => bd (F_X7_byteAt x19 S) (fun v20 S21 => bb (v20 = (43 : Int32)) (B_X7_sum_42 R k9 a1 S21) (iv (ge S21 40 0 4) (fun x24 => bd (F_X7_byteAt x24 S21) (fun v25 S26 => bb (v25 = (45 : Int32)) (B_X7_sum_42 R k9 a1 S26) (some (a1, S26)))))))) (some (a1, S)))
noncomputable def N_X7_sum (R : Nat → Int32 → fS → Option (Int32 × fS))  (S0 : fS) : Option (Int32 × fS) := bd (R 1 0 S0) (fun v29 S30 => bd (F_X7_blanks  S30) (fun v32 S33 => lp (B_X7_sum_9 R ) fuel v29 S33))
set_option maxHeartbeats 4000000 in
set_option maxRecDepth 100000 in
theorem n_X7_sum (l : Launch) (D : va_G) (K : Nat → ClassId) (b0 : Nat) (sa : sT) (ad : Nat → Nat → Nat) {n : Nat × Nat} (P : Nat → Nat → Prop) (hP : ∀ a i : Nat, isn n a i → P a i) (R : Nat → Int32 → fS → Option (Int32 × fS)) (d : Nat) (hR0 : ∀ (sz : Nat) (L : List Nat) (f0 : Nat → va_E) (S0 : fS) (hw : PW K ad P S0 L f0) (hn : S0.2.2.1 = n) (v : Int32) (S1 : fS) (h : R 0 0 S0 = some (v, S1)), Met l yX7_unit (.code yX7_unit cX7_unit 6 (some .int) :: gt) { frames := 6 + d, cells := 0, slots := 0, locals := 108 + 40 * d } (va_Pc [.ref (ad 40 0)] (hPre D K b0 sa sz L f0)) (hQ D K b0 (fun v9 u9 => ∃ f2 : Nat → va_E, v9 = some (.int v) ∧ u9 = lU L f2 ∧ PW K ad P S1 L f2 ∧ S1.2.2.1 = n ∧ Kp ad P L f0 f2)) 0 0 (fun q => b0 ≤ q)) (hR1 : ∀ (sz : Nat) (L : List Nat) (f0 : Nat → va_E) (S0 : fS) (hw : PW K ad P S0 L f0) (hn : S0.2.2.1 = n) (v : Int32) (S1 : fS) (h : R 1 0 S0 = some (v, S1)), Met l yX7_product (.code yX7_product cX7_product 4 (some .int) :: gt) { frames := 6 + d, cells := 0, slots := 0, locals := 108 + 40 * d } (va_Pc [.ref (ad 40 0)] (hPre D K b0 sa sz L f0)) (hQ D K b0 (fun v9 u9 => ∃ f2 : Nat → va_E, v9 = some (.int v) ∧ u9 = lU L f2 ∧ PW K ad P S1 L f2 ∧ S1.2.2.1 = n ∧ Kp ad P L f0 f2)) 0 0 (fun q => b0 ≤ q)) (hR2 : ∀ (sz : Nat) (L : List Nat) (f0 : Nat → va_E) (S0 : fS) (hw : PW K ad P S0 L f0) (hn : S0.2.2.1 = n) (v : Int32) (S1 : fS) (h : R 2 0 S0 = some (v, S1)), Met l yX7_sum (.code yX7_sum cX7_sum 4 (some .int) :: gt) { frames := 6 + d, cells := 0, slots := 0, locals := 108 + 40 * d } (va_Pc [.ref (ad 40 0)] (hPre D K b0 sa sz L f0)) (hQ D K b0 (fun v9 u9 => ∃ f2 : Nat → va_E, v9 = some (.int v) ∧ u9 = lU L f2 ∧ PW K ad P S1 L f2 ∧ S1.2.2.1 = n ∧ Kp ad P L f0 f2)) 0 0 (fun q => b0 ≤ q)) (hR3 : ∀ (sz : Nat) (L : List Nat) (f0 : Nat → va_E) (S0 : fS) (hw : PW K ad P S0 L f0) (hn : S0.2.2.1 = n) (v : Int32) (S1 : fS) (h : R 3 0 S0 = some (v, S1)), Met l yX7_test (.code yX7_test cX7_test 4 (some .boolean) :: gt) { frames := 6 + d, cells := 0, slots := 0, locals := 108 + 40 * d } (va_Pc [.ref (ad 40 0)] (hPre D K b0 sa sz L f0)) (hQ D K b0 (fun v9 u9 => ∃ f2 : Nat → va_E, v9 = some (.int v) ∧ u9 = lU L f2 ∧ PW K ad P S1 L f2 ∧ S1.2.2.1 = n ∧ Kp ad P L f0 f2)) 0 0 (fun q => b0 ≤ q)) (hR4 : ∀ (sz : Nat) (L : List Nat) (f0 : Nat → va_E) (S0 : fS) (hw : PW K ad P S0 L f0) (hn : S0.2.2.1 = n) (v : Int32) (S1 : fS) (h : R 4 0 S0 = some (v, S1)), Met l yX7_ands (.code yX7_ands cX7_ands 3 (some .boolean) :: gt) { frames := 6 + d, cells := 0, slots := 0, locals := 108 + 40 * d } (va_Pc [.ref (ad 40 0)] (hPre D K b0 sa sz L f0)) (hQ D K b0 (fun v9 u9 => ∃ f2 : Nat → va_E, v9 = some (.int v) ∧ u9 = lU L f2 ∧ PW K ad P S1 L f2 ∧ S1.2.2.1 = n ∧ Kp ad P L f0 f2)) 0 0 (fun q => b0 ≤ q)) (hR5 : ∀ (sz : Nat) (L : List Nat) (f0 : Nat → va_E) (S0 : fS) (hw : PW K ad P S0 L f0) (hn : S0.2.2.1 = n) (v : Int32) (S1 : fS) (h : R 5 0 S0 = some (v, S1)), Met l yX7_ors (.code yX7_ors cX7_ors 3 (some .boolean) :: gt) { frames := 6 + d, cells := 0, slots := 0, locals := 108 + 40 * d } (va_Pc [.ref (ad 40 0)] (hPre D K b0 sa sz L f0)) (hQ D K b0 (fun v9 u9 => ∃ f2 : Nat → va_E, v9 = some (.int v) ∧ u9 = lU L f2 ∧ PW K ad P S1 L f2 ∧ S1.2.2.1 = n ∧ Kp ad P L f0 f2)) 0 0 (fun q => b0 ≤ q)) (sz : Nat) (L : List Nat) (f0 : Nat → va_E) (S0 : fS) (hw : PW K ad P S0 L f0) (hn : S0.2.2.1 = n)  (v : Int32) (S1 : fS) (h : N_X7_sum R  S0 = some (v, S1)) : Met l yX7_sum (.code yX7_sum cX7_sum 4 (some .int) :: gt) { frames := 6 + (d + 1), cells := 0, slots := 0, locals := 108 + 40 * (d + 1) } (va_Pc [.ref (ad 40 0)] (hPre D K b0 sa sz L f0)) (hQ D K b0 (fun v9 u9 => ∃ f2 : Nat → va_E, v9 = some (.int v) ∧ u9 = lU L f2 ∧ PW K ad P S1 L f2 ∧ S1.2.2.1 = n ∧ Kp ad P L f0 f2)) 0 0 (fun q => b0 ≤ q) := by
  refine t_of (own := RX7) (by decide) rfl ?_ (Nat.le_of_ble_eq_true rfl)
  intro p e s m below meth c ls C w hsz hr hlk hnm hl
  have hx := C.1
  have hb := C.2.1
  have hl : lv_has ls 4 [(0, .ref (ad 40 0))] := hl
  have J81 : ∀ (k9 : (Int32) → fS → Option (Int32 × fS)) (hk9 : ∀ (a1 : Int32) (S : fS), k9 a1 S = some (v, S1) → Gw D K b0 sa ad P n L f0 p l e { frames := 6 + (d + 1), cells := 0, slots := 0, locals := 108 + 40 * (d + 1) } s m [.ref (ad 40 0)].toArray below meth c 4 (MQ below (hQ D K b0 (fun v9 u9 => ∃ f2 : Nat → va_E, v9 = some (.int v) ∧ u9 = lU L f2 ∧ PW K ad P S1 L f2 ∧ S1.2.2.1 = n ∧ Kp ad P L f0 f2)) [.ref (ad 40 0)].toArray s 0 0 (fun q => b0 ≤ q)) 0 0 9 [(0, .ref (ad 40 0)), (1, .int a1)] [] S) (t0 : Int32) (S : fS), B_X7_sum_81 R k9 t0 S = some (v, S1) → Gw D K b0 sa ad P n L f0 p l e { frames := 6 + (d + 1), cells := 0, slots := 0, locals := 108 + 40 * (d + 1) } s m [.ref (ad 40 0)].toArray below meth c 4 (MQ below (hQ D K b0 (fun v9 u9 => ∃ f2 : Nat → va_E, v9 = some (.int v) ∧ u9 = lU L f2 ∧ PW K ad P S1 L f2 ∧ S1.2.2.1 = n ∧ Kp ad P L f0 f2)) [.ref (ad 40 0)].toArray s 0 0 (fun q => b0 ≤ q)) 0 0 81 [(0, .ref (ad 40 0))] [.int t0] S := by
    intro k9 hk9 t0 S h
    dsimp only [B_X7_sum_81] at h
    intro f H locs w hw hn hk ls hl
    refine lv_istore_n (lv' := [(1, .int t0), (0, .ref (ad 40 0))]) hx hb dX7_sum_81 rfl hl (by decide) rfl (fun ls hl => ?_)
    refine lv_aload_n hx hb dX7_sum_82 rfl (lv_at hl 1 rfl) ?_
    obtain ⟨v1, S2, h3, h⟩ := bd_some h
    refine u_callV (n := 0) C w hw (hP _ _ (isn_f rfl rfl (by decide))) rfl rfl rfl (c_X7_blanks l D K b0 sa _ L _ ad P hP S hw hn  v1 S2 h3) gw_1375 gw_1372 gw_1374 gs_29 gw_8 ⟨by decide, by decide, by decide +kernel⟩ rfl rfl ⟨by dsimp only; omega, by dsimp only; omega⟩ rfl hl.1 rfl (Nat.le_of_ble_eq_true rfl) dX7_sum_83 ⟨Nat.le_of_ble_eq_true rfl, Nat.le_of_ble_eq_true rfl⟩ (fun v9 u H locs hp w => ?_)
    obtain ⟨f2, rfl, rfl, hw, hn, hk1⟩ := hp
    have hk := hk.tr hk1
    generalize f2 = f at w hw hk
    refine lv_goto (tgt := 9) hx hb dX7_sum_86 (by decide) ?_
    exact hk9 t0 S2 h f H locs w hw hn hk ls (lv_sub hl [1, 0] rfl)
  have J42 : ∀ (k9 : (Int32) → fS → Option (Int32 × fS)) (hk9 : ∀ (a1 : Int32) (S : fS), k9 a1 S = some (v, S1) → Gw D K b0 sa ad P n L f0 p l e { frames := 6 + (d + 1), cells := 0, slots := 0, locals := 108 + 40 * (d + 1) } s m [.ref (ad 40 0)].toArray below meth c 4 (MQ below (hQ D K b0 (fun v9 u9 => ∃ f2 : Nat → va_E, v9 = some (.int v) ∧ u9 = lU L f2 ∧ PW K ad P S1 L f2 ∧ S1.2.2.1 = n ∧ Kp ad P L f0 f2)) [.ref (ad 40 0)].toArray s 0 0 (fun q => b0 ≤ q)) 0 0 9 [(0, .ref (ad 40 0)), (1, .int a1)] [] S) (a1 : Int32) (S : fS), B_X7_sum_42 R k9 a1 S = some (v, S1) → Gw D K b0 sa ad P n L f0 p l e { frames := 6 + (d + 1), cells := 0, slots := 0, locals := 108 + 40 * (d + 1) } s m [.ref (ad 40 0)].toArray below meth c 4 (MQ below (hQ D K b0 (fun v9 u9 => ∃ f2 : Nat → va_E, v9 = some (.int v) ∧ u9 = lU L f2 ∧ PW K ad P S1 L f2 ∧ S1.2.2.1 = n ∧ Kp ad P L f0 f2)) [.ref (ad 40 0)].toArray s 0 0 (fun q => b0 ≤ q)) 0 0 42 [(0, .ref (ad 40 0)), (1, .int a1)] [] S := by
    intro k9 hk9 a1 S h
    dsimp only [B_X7_sum_42] at h
    intro f H locs w hw hn hk ls hl
    refine lv_aload_n hx hb dX7_sum_42 rfl (lv_at hl 0 rfl) ?_
    refine lv_aload_n hx hb dX7_sum_43 rfl (lv_at hl 0 rfl) ?_
    refine u_geti C w hw (hP _ _ (isn_f rfl rfl (by decide))) rfl (N := 57) rfl rfl cin_7 4 (by decide) rfl gw_1160 dX7_sum_44 ?_
    refine u_iv h (fun x4 h => ?_)
    obtain ⟨v5, S6, h7, h⟩ := bd_some h
    refine u_callV (n := 1) C w hw (hP _ _ (isn_f rfl rfl (by decide))) rfl rfl rfl (c_X7_byteAt l D K b0 sa _ L _ ad P hP S hw hn x4 v5 S6 h7) gw_1379 gw_1376 gw_1378 gs_30 gw_8 ⟨by decide, by decide, by decide +kernel⟩ rfl rfl ⟨by dsimp only; omega, by dsimp only; omega⟩ rfl hl.1 rfl (Nat.le_of_ble_eq_true rfl) dX7_sum_47 ⟨Nat.le_of_ble_eq_true rfl, Nat.le_of_ble_eq_true rfl⟩ (fun v9 u H locs hp w => ?_)
    obtain ⟨f2, rfl, rfl, hw, hn, hk1⟩ := hp
    have hk := hk.tr hk1
    generalize f2 = f at w hw hk
    refine lv_istore_n (lv' := [(2, .int v5), (0, .ref (ad 40 0)), (1, .int a1)]) hx hb dX7_sum_50 rfl hl (by decide) rfl (fun ls hl => ?_)
    refine lv_aload_n hx hb dX7_sum_51 rfl (lv_at hl 1 rfl) ?_
    refine lv_dup hx hb dX7_sum_52 rfl ?_
    refine u_geti C w hw (hP _ _ (isn_f rfl rfl (by decide))) rfl (N := 57) rfl rfl cin_7 4 (by decide) rfl gw_1160 dX7_sum_53 ?_
    refine u_iv h (fun x8 h => ?_)
    refine lv_iconst (v := 1) hx hb dX7_sum_56 (by decide) ?_
    refine lv_iadd hx hb dX7_sum_57 ?_
    refine u_iv h (fun x9 h => ?_)
    refine u_puti C w hw (hP _ _ (isn_f rfl rfl (by decide))) rfl (N := 57) rfl rfl cin_7 tyX7 tyX7_ok nmX7 4 (by decide) rfl rfl rfl rfl gw_1160 dX7_sum_58 (fun f H locs w hw hk1 => ?_)
    have hk := hk.tr hk1
    refine u_sv h hw hn (fun S10 h hw hn => ?_)
    refine lv_aload_n hx hb dX7_sum_61 rfl (lv_at hl 1 rfl) ?_
    obtain ⟨v11, S12, h13, h⟩ := bd_some h
    refine u_callV (n := 0) C w hw (hP _ _ (isn_f rfl rfl (by decide))) rfl rfl rfl (hR1 _ L _ S10 hw hn v11 S12 h13) gw_1402 gw_1399 gw_1401 gs_35 gw_8 ⟨by decide, by decide, by decide +kernel⟩ rfl rfl ⟨by dsimp only; omega, by dsimp only; omega⟩ rfl hl.1 rfl (Nat.le_of_ble_eq_true rfl) dX7_sum_62 ⟨Nat.le_of_ble_eq_true rfl, Nat.le_of_ble_eq_true rfl⟩ (fun v9 u H locs hp w => ?_)
    obtain ⟨f2, rfl, rfl, hw, hn, hk1⟩ := hp
    have hk := hk.tr hk1
    generalize f2 = f at w hw hk
    refine lv_istore_n (lv' := [(3, .int v11), (2, .int v5), (0, .ref (ad 40 0)), (1, .int a1)]) hx hb dX7_sum_65 rfl hl (by decide) rfl (fun ls hl => ?_)
    refine lv_iload_n hx hb dX7_sum_66 rfl (lv_at hl 1 rfl) ?_
    refine lv_bipush (v := 43) hx hb dX7_sum_67 (by decide) ?_
    refine lv_icmp_ne (tgt := 78) hx hb dX7_sum_69 (by decide) (fun c14 => ?_) (fun c14 => ?_)
    · have h := bb_f h c14
      refine lv_iload_n hx hb dX7_sum_78 rfl (lv_at hl 3 rfl) ?_
      refine lv_iload_n hx hb dX7_sum_79 rfl (lv_at hl 0 rfl) ?_
      refine lv_isub hx hb dX7_sum_80 ?_
      refine u_iv h (fun x15 h => ?_)
      exact J81 k9 hk9 x15 S12 h f H locs w hw hn hk ls (lv_sub hl [2] rfl)
    · have h := bb_t h c14
      refine lv_iload_n hx hb dX7_sum_72 rfl (lv_at hl 3 rfl) ?_
      refine lv_iload_n hx hb dX7_sum_73 rfl (lv_at hl 0 rfl) ?_
      refine lv_iadd hx hb dX7_sum_74 ?_
      refine u_iv h (fun x16 h => ?_)
      refine lv_goto (tgt := 81) hx hb dX7_sum_75 (by decide) ?_
      exact J81 k9 hk9 x16 S12 h f H locs w hw hn hk ls (lv_sub hl [2] rfl)
  have J9 : ∀ (fu : Nat) (a1 : Int32) (S : fS), lp (B_X7_sum_9 R ) fu a1 S = some (v, S1) → Gw D K b0 sa ad P n L f0 p l e { frames := 6 + (d + 1), cells := 0, slots := 0, locals := 108 + 40 * (d + 1) } s m [.ref (ad 40 0)].toArray below meth c 4 (MQ below (hQ D K b0 (fun v9 u9 => ∃ f2 : Nat → va_E, v9 = some (.int v) ∧ u9 = lU L f2 ∧ PW K ad P S1 L f2 ∧ S1.2.2.1 = n ∧ Kp ad P L f0 f2)) [.ref (ad 40 0)].toArray s 0 0 (fun q => b0 ≤ q)) 0 0 9 [(0, .ref (ad 40 0)), (1, .int a1)] [] S := by
    intro fu a1 S h
    refine lp_some (G := (fun q S => Gw D K b0 sa ad P n L f0 p l e { frames := 6 + (d + 1), cells := 0, slots := 0, locals := 108 + 40 * (d + 1) } s m [.ref (ad 40 0)].toArray below meth c 4 (MQ below (hQ D K b0 (fun v9 u9 => ∃ f2 : Nat → va_E, v9 = some (.int v) ∧ u9 = lU L f2 ∧ PW K ad P S1 L f2 ∧ S1.2.2.1 = n ∧ Kp ad P L f0 f2)) [.ref (ad 40 0)].toArray s 0 0 (fun q => b0 ≤ q)) 0 0 9 [(0, .ref (ad 40 0)), (1, .int q)] [] S)) (fun k9 hk9 q S h => ?_) fu a1 S h
    obtain ⟨a1, e9⟩ : ∃ z, z = q := ⟨_, rfl⟩
    subst e9
    dsimp only [B_X7_sum_9] at h
    intro f H locs w hw hn hk ls hl
    refine lv_aload_n hx hb dX7_sum_9 rfl (lv_at hl 0 rfl) ?_
    refine u_geti C w hw (hP _ _ (isn_f rfl rfl (by decide))) rfl (N := 57) rfl rfl cin_7 6 (by decide) rfl gw_1162 dX7_sum_10 ?_
    refine u_iv h (fun x17 h => ?_)
    refine lv_if_ne (tgt := 89) hx hb dX7_sum_13 (by decide) (fun c18 => ?_) (fun c18 => ?_)
    · have h := bb_f h c18
      refine lv_iload_n hx hb dX7_sum_89 rfl (lv_at hl 1 rfl) ?_
      exact t_iret C hr hlk w ⟨_, so_v h, rfl, so_w h hw, so_n h hn, hk⟩ (by decide) (by decide) dX7_sum_90
    · have h := bb_t h c18
      refine lv_aload_n hx hb dX7_sum_16 rfl (lv_at hl 0 rfl) ?_
      refine lv_aload_n hx hb dX7_sum_17 rfl (lv_at hl 0 rfl) ?_
      refine u_geti C w hw (hP _ _ (isn_f rfl rfl (by decide))) rfl (N := 57) rfl rfl cin_7 4 (by decide) rfl gw_1160 dX7_sum_18 ?_
      refine u_iv h (fun x19 h => ?_)
      obtain ⟨v20, S21, h22, h⟩ := bd_some h
      refine u_callV (n := 1) C w hw (hP _ _ (isn_f rfl rfl (by decide))) rfl rfl rfl (c_X7_byteAt l D K b0 sa _ L _ ad P hP S hw hn x19 v20 S21 h22) gw_1379 gw_1376 gw_1378 gs_30 gw_8 ⟨by decide, by decide, by decide +kernel⟩ rfl rfl ⟨by dsimp only; omega, by dsimp only; omega⟩ rfl hl.1 rfl (Nat.le_of_ble_eq_true rfl) dX7_sum_21 ⟨Nat.le_of_ble_eq_true rfl, Nat.le_of_ble_eq_true rfl⟩ (fun v9 u H locs hp w => ?_)
      obtain ⟨f2, rfl, rfl, hw, hn, hk1⟩ := hp
      have hk := hk.tr hk1
      generalize f2 = f at w hw hk
      refine lv_bipush (v := 43) hx hb dX7_sum_24 (by decide) ?_
      refine lv_icmp_eq (tgt := 42) hx hb dX7_sum_26 (by decide) (fun c23 => ?_) (fun c23 => ?_)
      · have h := bb_t h c23
        exact J42 k9 hk9 a1 S21 h f H locs w hw hn hk ls (lv_sub hl [0, 1] rfl)
      · have h := bb_f h c23
        refine lv_aload_n hx hb dX7_sum_29 rfl (lv_at hl 0 rfl) ?_
        refine lv_aload_n hx hb dX7_sum_30 rfl (lv_at hl 0 rfl) ?_
        refine u_geti C w hw (hP _ _ (isn_f rfl rfl (by decide))) rfl (N := 57) rfl rfl cin_7 4 (by decide) rfl gw_1160 dX7_sum_31 ?_
        refine u_iv h (fun x24 h => ?_)
        obtain ⟨v25, S26, h27, h⟩ := bd_some h
        refine u_callV (n := 1) C w hw (hP _ _ (isn_f rfl rfl (by decide))) rfl rfl rfl (c_X7_byteAt l D K b0 sa _ L _ ad P hP S21 hw hn x24 v25 S26 h27) gw_1379 gw_1376 gw_1378 gs_30 gw_8 ⟨by decide, by decide, by decide +kernel⟩ rfl rfl ⟨by dsimp only; omega, by dsimp only; omega⟩ rfl hl.1 rfl (Nat.le_of_ble_eq_true rfl) dX7_sum_34 ⟨Nat.le_of_ble_eq_true rfl, Nat.le_of_ble_eq_true rfl⟩ (fun v9 u H locs hp w => ?_)
        obtain ⟨f2, rfl, rfl, hw, hn, hk1⟩ := hp
        have hk := hk.tr hk1
        generalize f2 = f at w hw hk
        refine lv_bipush (v := 45) hx hb dX7_sum_37 (by decide) ?_
        refine lv_icmp_ne (tgt := 89) hx hb dX7_sum_39 (by decide) (fun c28 => ?_) (fun c28 => ?_)
        · have h := bb_f h c28
          refine lv_iload_n hx hb dX7_sum_89 rfl (lv_at hl 1 rfl) ?_
          exact t_iret C hr hlk w ⟨_, so_v h, rfl, so_w h hw, so_n h hn, hk⟩ (by decide) (by decide) dX7_sum_90
        · have h := bb_t h c28
          exact J42 k9 hk9 a1 S26 h f H locs w hw hn hk ls (lv_sub hl [0, 1] rfl)
  dsimp only [N_X7_sum] at h
  obtain ⟨f, ef⟩ : ∃ z, z = f0 := ⟨_, rfl⟩
  rw [← ef] at w hw
  have hk : Kp ad P L f0 f := by rw [ef]; exact Kp.rf
  obtain ⟨H, eH⟩ : ∃ z, z = s.heap := ⟨_, rfl⟩
  obtain ⟨locs, el⟩ : ∃ z : List Loc, z = [] := ⟨_, rfl⟩
  rw [← eH, ← el] at w ⊢
  refine lv_aload_n hx hb dX7_sum_0 rfl (lv_at hl 0 rfl) ?_
  obtain ⟨v29, S30, h31, h⟩ := bd_some h
  refine u_callV (n := 0) C w hw (hP _ _ (isn_f rfl rfl (by decide))) rfl rfl rfl (hR1 _ L _ S0 hw hn v29 S30 h31) gw_1402 gw_1399 gw_1401 gs_35 gw_8 ⟨by decide, by decide, by decide +kernel⟩ rfl rfl ⟨by dsimp only; omega, by dsimp only; omega⟩ rfl hl.1 rfl (Nat.le_of_ble_eq_true rfl) dX7_sum_1 ⟨Nat.le_of_ble_eq_true rfl, Nat.le_of_ble_eq_true rfl⟩ (fun v9 u H locs hp w => ?_)
  obtain ⟨f2, rfl, rfl, hw, hn, hk1⟩ := hp
  have hk := hk.tr hk1
  generalize f2 = f at w hw hk
  refine lv_istore_n (lv' := [(1, .int v29), (0, .ref (ad 40 0))]) hx hb dX7_sum_4 rfl hl (by decide) rfl (fun ls hl => ?_)
  refine lv_aload_n hx hb dX7_sum_5 rfl (lv_at hl 1 rfl) ?_
  obtain ⟨v32, S33, h34, h⟩ := bd_some h
  refine u_callV (n := 0) C w hw (hP _ _ (isn_f rfl rfl (by decide))) rfl rfl rfl (c_X7_blanks l D K b0 sa _ L _ ad P hP S30 hw hn  v32 S33 h34) gw_1375 gw_1372 gw_1374 gs_29 gw_8 ⟨by decide, by decide, by decide +kernel⟩ rfl rfl ⟨by dsimp only; omega, by dsimp only; omega⟩ rfl hl.1 rfl (Nat.le_of_ble_eq_true rfl) dX7_sum_6 ⟨Nat.le_of_ble_eq_true rfl, Nat.le_of_ble_eq_true rfl⟩ (fun v9 u H locs hp w => ?_)
  obtain ⟨f2, rfl, rfl, hw, hn, hk1⟩ := hp
  have hk := hk.tr hk1
  generalize f2 = f at w hw hk
  exact J9  fuel v29 S33 h f H locs w hw hn hk ls (lv_sub hl [1, 0] rfl)
theorem dX7_test_0 : decode cX7_test 0 = .ok (.aload_n 0, 1) := by decide +kernel
theorem dX7_test_1 : decode cX7_test 1 = .ok (.getfield 120, 3) := by decide +kernel
theorem dX7_test_4 : decode cX7_test 4 = .ok (.ifCond .eq 5, 3) := by decide +kernel
theorem dX7_test_7 : decode cX7_test 7 = .ok (.iconst 0, 1) := by decide +kernel
theorem dX7_test_8 : decode cX7_test 8 = .ok (.ireturn, 1) := by decide +kernel
theorem dX7_test_9 : decode cX7_test 9 = .ok (.aload_n 0, 1) := by decide +kernel
theorem dX7_test_10 : decode cX7_test 10 = .ok (.bipush 14, 2) := by decide +kernel
theorem dX7_test_12 : decode cX7_test 12 = .ok (.bipush 15, 2) := by decide +kernel
theorem dX7_test_14 : decode cX7_test 14 = .ok (.bipush 20, 2) := by decide +kernel
theorem dX7_test_16 : decode cX7_test 16 = .ok (.iconst 0, 1) := by decide +kernel
theorem dX7_test_17 : decode cX7_test 17 = .ok (.iconst 0, 1) := by decide +kernel
theorem dX7_test_18 : decode cX7_test 18 = .ok (.invokevirtual 148, 3) := by decide +kernel
theorem dX7_test_21 : decode cX7_test 21 = .ok (.ifCond .eq 33, 3) := by decide +kernel
theorem dX7_test_24 : decode cX7_test 24 = .ok (.aload_n 0, 1) := by decide +kernel
theorem dX7_test_25 : decode cX7_test 25 = .ok (.iconst 3, 1) := by decide +kernel
theorem dX7_test_26 : decode cX7_test 26 = .ok (.invokevirtual 165, 3) := by decide +kernel
theorem dX7_test_29 : decode cX7_test 29 = .ok (.aload_n 0, 1) := by decide +kernel
theorem dX7_test_30 : decode cX7_test 30 = .ok (.invokevirtual 181, 3) := by decide +kernel
theorem dX7_test_33 : decode cX7_test 33 = .ok (.ifCond .ne 7, 3) := by decide +kernel
theorem dX7_test_36 : decode cX7_test 36 = .ok (.iconst 1, 1) := by decide +kernel
theorem dX7_test_37 : decode cX7_test 37 = .ok (.goto 4, 3) := by decide +kernel
theorem dX7_test_40 : decode cX7_test 40 = .ok (.iconst 0, 1) := by decide +kernel
theorem dX7_test_41 : decode cX7_test 41 = .ok (.istore_n 1, 1) := by decide +kernel
theorem dX7_test_42 : decode cX7_test 42 = .ok (.aload_n 0, 1) := by decide +kernel
theorem dX7_test_43 : decode cX7_test 43 = .ok (.dup, 1) := by decide +kernel
theorem dX7_test_44 : decode cX7_test 44 = .ok (.getfield 145, 3) := by decide +kernel
theorem dX7_test_47 : decode cX7_test 47 = .ok (.iconst 1, 1) := by decide +kernel
theorem dX7_test_48 : decode cX7_test 48 = .ok (.isub, 1) := by decide +kernel
theorem dX7_test_49 : decode cX7_test 49 = .ok (.putfield 145, 3) := by decide +kernel
theorem dX7_test_52 : decode cX7_test 52 = .ok (.iload_n 1, 1) := by decide +kernel
theorem dX7_test_53 : decode cX7_test 53 = .ok (.ireturn, 1) := by decide +kernel
theorem dX7_test_54 : decode cX7_test 54 = .ok (.aload_n 0, 1) := by decide +kernel
theorem dX7_test_55 : decode cX7_test 55 = .ok (.aload_n 0, 1) := by decide +kernel
theorem dX7_test_56 : decode cX7_test 56 = .ok (.getfield 113, 3) := by decide +kernel
theorem dX7_test_59 : decode cX7_test 59 = .ok (.invokevirtual 116, 3) := by decide +kernel
theorem dX7_test_62 : decode cX7_test 62 = .ok (.bipush 91, 2) := by decide +kernel
theorem dX7_test_64 : decode cX7_test 64 = .ok (.if_icmp .ne 31, 3) := by decide +kernel
theorem dX7_test_67 : decode cX7_test 67 = .ok (.aload_n 0, 1) := by decide +kernel
theorem dX7_test_68 : decode cX7_test 68 = .ok (.iconst 1, 1) := by decide +kernel
theorem dX7_test_69 : decode cX7_test 69 = .ok (.invokevirtual 165, 3) := by decide +kernel
theorem dX7_test_72 : decode cX7_test 72 = .ok (.aload_n 0, 1) := by decide +kernel
theorem dX7_test_73 : decode cX7_test 73 = .ok (.invokevirtual 185, 3) := by decide +kernel
theorem dX7_test_76 : decode cX7_test 76 = .ok (.istore_n 1, 1) := by decide +kernel
theorem dX7_test_77 : decode cX7_test 77 = .ok (.aload_n 0, 1) := by decide +kernel
theorem dX7_test_78 : decode cX7_test 78 = .ok (.bipush 93, 2) := by decide +kernel
theorem dX7_test_80 : decode cX7_test 80 = .ok (.invokevirtual 172, 3) := by decide +kernel
theorem dX7_test_83 : decode cX7_test 83 = .ok (.aload_n 0, 1) := by decide +kernel
theorem dX7_test_84 : decode cX7_test 84 = .ok (.dup, 1) := by decide +kernel
theorem dX7_test_85 : decode cX7_test 85 = .ok (.getfield 145, 3) := by decide +kernel
theorem dX7_test_88 : decode cX7_test 88 = .ok (.iconst 1, 1) := by decide +kernel
theorem dX7_test_89 : decode cX7_test 89 = .ok (.isub, 1) := by decide +kernel
theorem dX7_test_90 : decode cX7_test 90 = .ok (.putfield 145, 3) := by decide +kernel
theorem dX7_test_93 : decode cX7_test 93 = .ok (.iload_n 1, 1) := by decide +kernel
theorem dX7_test_94 : decode cX7_test 94 = .ok (.ireturn, 1) := by decide +kernel
theorem dX7_test_95 : decode cX7_test 95 = .ok (.aload_n 0, 1) := by decide +kernel
theorem dX7_test_96 : decode cX7_test 96 = .ok (.invokevirtual 169, 3) := by decide +kernel
theorem dX7_test_99 : decode cX7_test 99 = .ok (.istore_n 1, 1) := by decide +kernel
theorem dX7_test_100 : decode cX7_test 100 = .ok (.aload_n 0, 1) := by decide +kernel
theorem dX7_test_101 : decode cX7_test 101 = .ok (.invokevirtual 134, 3) := by decide +kernel
theorem dX7_test_104 : decode cX7_test 104 = .ok (.aload_n 0, 1) := by decide +kernel
theorem dX7_test_105 : decode cX7_test 105 = .ok (.aload_n 0, 1) := by decide +kernel
theorem dX7_test_106 : decode cX7_test 106 = .ok (.getfield 113, 3) := by decide +kernel
theorem dX7_test_109 : decode cX7_test 109 = .ok (.invokevirtual 116, 3) := by decide +kernel
theorem dX7_test_112 : decode cX7_test 112 = .ok (.istore_n 2, 1) := by decide +kernel
theorem dX7_test_113 : decode cX7_test 113 = .ok (.iload_n 2, 1) := by decide +kernel
theorem dX7_test_114 : decode cX7_test 114 = .ok (.bipush 60, 2) := by decide +kernel
theorem dX7_test_116 : decode cX7_test 116 = .ok (.if_icmp .eq 24, 3) := by decide +kernel
theorem dX7_test_119 : decode cX7_test 119 = .ok (.iload_n 2, 1) := by decide +kernel
theorem dX7_test_120 : decode cX7_test 120 = .ok (.bipush 62, 2) := by decide +kernel
theorem dX7_test_122 : decode cX7_test 122 = .ok (.if_icmp .eq 18, 3) := by decide +kernel
theorem dX7_test_125 : decode cX7_test 125 = .ok (.iload_n 2, 1) := by decide +kernel
theorem dX7_test_126 : decode cX7_test 126 = .ok (.bipush 61, 2) := by decide +kernel
theorem dX7_test_128 : decode cX7_test 128 = .ok (.if_icmp .eq 12, 3) := by decide +kernel
theorem dX7_test_131 : decode cX7_test 131 = .ok (.aload_n 0, 1) := by decide +kernel
theorem dX7_test_132 : decode cX7_test 132 = .ok (.iconst 1, 1) := by decide +kernel
theorem dX7_test_133 : decode cX7_test 133 = .ok (.aload_n 0, 1) := by decide +kernel
theorem dX7_test_134 : decode cX7_test 134 = .ok (.getfield 113, 3) := by decide +kernel
theorem dX7_test_137 : decode cX7_test 137 = .ok (.invokevirtual 130, 3) := by decide +kernel
theorem dX7_test_140 : decode cX7_test 140 = .ok (.aload_n 0, 1) := by decide +kernel
theorem dX7_test_141 : decode cX7_test 141 = .ok (.dup, 1) := by decide +kernel
theorem dX7_test_142 : decode cX7_test 142 = .ok (.getfield 113, 3) := by decide +kernel
theorem dX7_test_145 : decode cX7_test 145 = .ok (.iconst 1, 1) := by decide +kernel
theorem dX7_test_146 : decode cX7_test 146 = .ok (.iadd, 1) := by decide +kernel
theorem dX7_test_147 : decode cX7_test 147 = .ok (.putfield 113, 3) := by decide +kernel
theorem dX7_test_150 : decode cX7_test 150 = .ok (.aload_n 0, 1) := by decide +kernel
theorem dX7_test_151 : decode cX7_test 151 = .ok (.invokevirtual 169, 3) := by decide +kernel
theorem dX7_test_154 : decode cX7_test 154 = .ok (.istore_n 3, 1) := by decide +kernel
theorem dX7_test_155 : decode cX7_test 155 = .ok (.iload_n 2, 1) := by decide +kernel
theorem dX7_test_156 : decode cX7_test 156 = .ok (.bipush 60, 2) := by decide +kernel
theorem dX7_test_158 : decode cX7_test 158 = .ok (.if_icmp .ne 16, 3) := by decide +kernel
theorem dX7_test_161 : decode cX7_test 161 = .ok (.iload_n 1, 1) := by decide +kernel
theorem dX7_test_162 : decode cX7_test 162 = .ok (.iload_n 3, 1) := by decide +kernel
theorem dX7_test_163 : decode cX7_test 163 = .ok (.if_icmp .ge 7, 3) := by decide +kernel
theorem dX7_test_166 : decode cX7_test 166 = .ok (.iconst 1, 1) := by decide +kernel
theorem dX7_test_167 : decode cX7_test 167 = .ok (.goto 36, 3) := by decide +kernel
theorem dX7_test_170 : decode cX7_test 170 = .ok (.iconst 0, 1) := by decide +kernel
theorem dX7_test_171 : decode cX7_test 171 = .ok (.goto 32, 3) := by decide +kernel
theorem dX7_test_174 : decode cX7_test 174 = .ok (.iload_n 2, 1) := by decide +kernel
theorem dX7_test_175 : decode cX7_test 175 = .ok (.bipush 62, 2) := by decide +kernel
theorem dX7_test_177 : decode cX7_test 177 = .ok (.if_icmp .ne 16, 3) := by decide +kernel
theorem dX7_test_180 : decode cX7_test 180 = .ok (.iload_n 1, 1) := by decide +kernel
theorem dX7_test_181 : decode cX7_test 181 = .ok (.iload_n 3, 1) := by decide +kernel
theorem dX7_test_182 : decode cX7_test 182 = .ok (.if_icmp .le 7, 3) := by decide +kernel
theorem dX7_test_185 : decode cX7_test 185 = .ok (.iconst 1, 1) := by decide +kernel
theorem dX7_test_186 : decode cX7_test 186 = .ok (.goto 17, 3) := by decide +kernel
theorem dX7_test_189 : decode cX7_test 189 = .ok (.iconst 0, 1) := by decide +kernel
theorem dX7_test_190 : decode cX7_test 190 = .ok (.goto 13, 3) := by decide +kernel
theorem dX7_test_193 : decode cX7_test 193 = .ok (.iload_n 1, 1) := by decide +kernel
theorem dX7_test_194 : decode cX7_test 194 = .ok (.iload_n 3, 1) := by decide +kernel
theorem dX7_test_195 : decode cX7_test 195 = .ok (.if_icmp .ne 7, 3) := by decide +kernel
theorem dX7_test_198 : decode cX7_test 198 = .ok (.iconst 1, 1) := by decide +kernel
theorem dX7_test_199 : decode cX7_test 199 = .ok (.goto 4, 3) := by decide +kernel
theorem dX7_test_202 : decode cX7_test 202 = .ok (.iconst 0, 1) := by decide +kernel
theorem dX7_test_203 : decode cX7_test 203 = .ok (.ireturn, 1) := by decide +kernel
noncomputable def B_X7_test_41 (R : Nat → Int32 → fS → Option (Int32 × fS)) (t0 : Int32) (S : fS) : Option (Int32 × fS) := iv (ge S 40 0 5) (fun x1 => iv (x1 - (1 : Int32)) (fun x2 => sv (pu S 40 0 5 x2) (fun S3 => gd (t0 = 0 ∨ t0 = 1) (some (t0, S3)))))
noncomputable def B_X7_test_140 (R : Nat → Int32 → fS → Option (Int32 × fS)) (a1 : Int32) (a2 : Int32) (S : fS) : Option (Int32 × fS) := iv (ge S 40 0 4) (fun x5 => iv (x5 + (1 : Int32)) (fun x6 => sv (pu S 40 0 4 x6) (fun S7 => bd (R 2 0 S7) (fun v8 S9 => bb (a2 = (60 : Int32)) (bb (v8 ≤ a1) (some (0, S9)) (some (1, S9))) (bb (a2 = (62 : Int32)) (bb (a1 ≤ v8) (some (0, S9)) (some (1, S9))) (bb (a1 = v8) (some (1, S9)) (some (0, S9))))))))
noncomputable def N_X7_test (R : Nat → Int32 → fS → Option (Int32 × fS))  (S0 : fS) : Option (Int32 × fS) := iv (ge S0 40 0 6) (fun x16 => bb (x16 = (0 : Int32)) (bd (F_X7_isWord 14 15 20 0 0 S0) (fun v18 S19 => bb (v18 = (0 : Int32)) (iv (ge S19 40 0 4) (fun x22 => bd (F_X7_byteAt x22 S19) (fun v23 S24 => bb (v23 = (91 : Int32)) (bd (F_X7_opens 1 S24) (fun v44 S45 => bd (R 5 0 S45) (fun v47 S48 => bd (F_X7_sign 93 S48) (fun v50 S51 => iv (ge S51 40 0 5) (fun x53 => iv (x53 - (1 : Int32)) (fun x54 => sv (pu S51 40 0 5 x54) (fun S55 => gd (v47 = 0 ∨ v47 = 1) (some (v47, S55))))))))) (bd (R 2 0 S24) (fun v27 S28 => bd (F_X7_blanks  S28) (fun v30 S31 => iv (ge S31 40 0 4) (fun x33 => bd (F_X7_byteAt x33 S31) (fun v34 S35 => bb (v34 = (60 : Int32)) (B_X7_test_140 R  v27 v34 S35) (bb (v34 = (62 : Int32)) (B_X7_test_140 R  v27 v34 S35) (bb (v34 = (61 : Int32)) (B_X7_test_140 R  v27 v34 S35) (iv (ge S35 40 0 4) (fun x40 => bd (F_X7_wrong 1 x40 S35) (fun v41 S42 => B_X7_test_140 R  v27 v34 S42))))))))))))) (bd (F_X7_opens 3 S19) (fun v57 S58 => bd (R 3 0 S58) (fun v60 S61 => bb (v60 = (0 : Int32)) (B_X7_test_41 R  1 S61) (B_X7_test_41 R  0 S61)))))) (some (0, S0)))
set_option maxHeartbeats 4000000 in
set_option maxRecDepth 100000 in
theorem n_X7_test (l : Launch) (D : va_G) (K : Nat → ClassId) (b0 : Nat) (sa : sT) (ad : Nat → Nat → Nat) {n : Nat × Nat} (P : Nat → Nat → Prop) (hP : ∀ a i : Nat, isn n a i → P a i) (R : Nat → Int32 → fS → Option (Int32 × fS)) (d : Nat) (hR0 : ∀ (sz : Nat) (L : List Nat) (f0 : Nat → va_E) (S0 : fS) (hw : PW K ad P S0 L f0) (hn : S0.2.2.1 = n) (v : Int32) (S1 : fS) (h : R 0 0 S0 = some (v, S1)), Met l yX7_unit (.code yX7_unit cX7_unit 6 (some .int) :: gt) { frames := 6 + d, cells := 0, slots := 0, locals := 108 + 40 * d } (va_Pc [.ref (ad 40 0)] (hPre D K b0 sa sz L f0)) (hQ D K b0 (fun v9 u9 => ∃ f2 : Nat → va_E, v9 = some (.int v) ∧ u9 = lU L f2 ∧ PW K ad P S1 L f2 ∧ S1.2.2.1 = n ∧ Kp ad P L f0 f2)) 0 0 (fun q => b0 ≤ q)) (hR1 : ∀ (sz : Nat) (L : List Nat) (f0 : Nat → va_E) (S0 : fS) (hw : PW K ad P S0 L f0) (hn : S0.2.2.1 = n) (v : Int32) (S1 : fS) (h : R 1 0 S0 = some (v, S1)), Met l yX7_product (.code yX7_product cX7_product 4 (some .int) :: gt) { frames := 6 + d, cells := 0, slots := 0, locals := 108 + 40 * d } (va_Pc [.ref (ad 40 0)] (hPre D K b0 sa sz L f0)) (hQ D K b0 (fun v9 u9 => ∃ f2 : Nat → va_E, v9 = some (.int v) ∧ u9 = lU L f2 ∧ PW K ad P S1 L f2 ∧ S1.2.2.1 = n ∧ Kp ad P L f0 f2)) 0 0 (fun q => b0 ≤ q)) (hR2 : ∀ (sz : Nat) (L : List Nat) (f0 : Nat → va_E) (S0 : fS) (hw : PW K ad P S0 L f0) (hn : S0.2.2.1 = n) (v : Int32) (S1 : fS) (h : R 2 0 S0 = some (v, S1)), Met l yX7_sum (.code yX7_sum cX7_sum 4 (some .int) :: gt) { frames := 6 + d, cells := 0, slots := 0, locals := 108 + 40 * d } (va_Pc [.ref (ad 40 0)] (hPre D K b0 sa sz L f0)) (hQ D K b0 (fun v9 u9 => ∃ f2 : Nat → va_E, v9 = some (.int v) ∧ u9 = lU L f2 ∧ PW K ad P S1 L f2 ∧ S1.2.2.1 = n ∧ Kp ad P L f0 f2)) 0 0 (fun q => b0 ≤ q)) (hR3 : ∀ (sz : Nat) (L : List Nat) (f0 : Nat → va_E) (S0 : fS) (hw : PW K ad P S0 L f0) (hn : S0.2.2.1 = n) (v : Int32) (S1 : fS) (h : R 3 0 S0 = some (v, S1)), Met l yX7_test (.code yX7_test cX7_test 4 (some .boolean) :: gt) { frames := 6 + d, cells := 0, slots := 0, locals := 108 + 40 * d } (va_Pc [.ref (ad 40 0)] (hPre D K b0 sa sz L f0)) (hQ D K b0 (fun v9 u9 => ∃ f2 : Nat → va_E, v9 = some (.int v) ∧ u9 = lU L f2 ∧ PW K ad P S1 L f2 ∧ S1.2.2.1 = n ∧ Kp ad P L f0 f2)) 0 0 (fun q => b0 ≤ q)) (hR4 : ∀ (sz : Nat) (L : List Nat) (f0 : Nat → va_E) (S0 : fS) (hw : PW K ad P S0 L f0) (hn : S0.2.2.1 = n) (v : Int32) (S1 : fS) (h : R 4 0 S0 = some (v, S1)), Met l yX7_ands (.code yX7_ands cX7_ands 3 (some .boolean) :: gt) { frames := 6 + d, cells := 0, slots := 0, locals := 108 + 40 * d } (va_Pc [.ref (ad 40 0)] (hPre D K b0 sa sz L f0)) (hQ D K b0 (fun v9 u9 => ∃ f2 : Nat → va_E, v9 = some (.int v) ∧ u9 = lU L f2 ∧ PW K ad P S1 L f2 ∧ S1.2.2.1 = n ∧ Kp ad P L f0 f2)) 0 0 (fun q => b0 ≤ q)) (hR5 : ∀ (sz : Nat) (L : List Nat) (f0 : Nat → va_E) (S0 : fS) (hw : PW K ad P S0 L f0) (hn : S0.2.2.1 = n) (v : Int32) (S1 : fS) (h : R 5 0 S0 = some (v, S1)), Met l yX7_ors (.code yX7_ors cX7_ors 3 (some .boolean) :: gt) { frames := 6 + d, cells := 0, slots := 0, locals := 108 + 40 * d } (va_Pc [.ref (ad 40 0)] (hPre D K b0 sa sz L f0)) (hQ D K b0 (fun v9 u9 => ∃ f2 : Nat → va_E, v9 = some (.int v) ∧ u9 = lU L f2 ∧ PW K ad P S1 L f2 ∧ S1.2.2.1 = n ∧ Kp ad P L f0 f2)) 0 0 (fun q => b0 ≤ q)) (sz : Nat) (L : List Nat) (f0 : Nat → va_E) (S0 : fS) (hw : PW K ad P S0 L f0) (hn : S0.2.2.1 = n)  (v : Int32) (S1 : fS) (h : N_X7_test R  S0 = some (v, S1)) : Met l yX7_test (.code yX7_test cX7_test 4 (some .boolean) :: gt) { frames := 6 + (d + 1), cells := 0, slots := 0, locals := 108 + 40 * (d + 1) } (va_Pc [.ref (ad 40 0)] (hPre D K b0 sa sz L f0)) (hQ D K b0 (fun v9 u9 => ∃ f2 : Nat → va_E, v9 = some (.int v) ∧ u9 = lU L f2 ∧ PW K ad P S1 L f2 ∧ S1.2.2.1 = n ∧ Kp ad P L f0 f2)) 0 0 (fun q => b0 ≤ q) := by
  refine t_of (own := RX7) (by decide) rfl ?_ (Nat.le_of_ble_eq_true rfl)
  intro p e s m below meth c ls C w hsz hr hlk hnm hl
  have hx := C.1
  have hb := C.2.1
  have hl : lv_has ls 4 [(0, .ref (ad 40 0))] := hl
  have J41 : ∀ (t0 : Int32) (S : fS), B_X7_test_41 R  t0 S = some (v, S1) → Gw D K b0 sa ad P n L f0 p l e { frames := 6 + (d + 1), cells := 0, slots := 0, locals := 108 + 40 * (d + 1) } s m [.ref (ad 40 0)].toArray below meth c 4 (MQ below (hQ D K b0 (fun v9 u9 => ∃ f2 : Nat → va_E, v9 = some (.int v) ∧ u9 = lU L f2 ∧ PW K ad P S1 L f2 ∧ S1.2.2.1 = n ∧ Kp ad P L f0 f2)) [.ref (ad 40 0)].toArray s 0 0 (fun q => b0 ≤ q)) 0 0 41 [(0, .ref (ad 40 0))] [.int t0] S := by
    intro t0 S h
    dsimp only [B_X7_test_41] at h
    intro f H locs w hw hn hk ls hl
    refine lv_istore_n (lv' := [(1, .int t0), (0, .ref (ad 40 0))]) hx hb dX7_test_41 rfl hl (by decide) rfl (fun ls hl => ?_)
    refine lv_aload_n hx hb dX7_test_42 rfl (lv_at hl 1 rfl) ?_
    refine lv_dup hx hb dX7_test_43 rfl ?_
    refine u_geti C w hw (hP _ _ (isn_f rfl rfl (by decide))) rfl (N := 57) rfl rfl cin_7 5 (by decide) rfl gw_1161 dX7_test_44 ?_
    refine u_iv h (fun x1 h => ?_)
    refine lv_iconst (v := 1) hx hb dX7_test_47 (by decide) ?_
    refine lv_isub hx hb dX7_test_48 ?_
    refine u_iv h (fun x2 h => ?_)
    refine u_puti C w hw (hP _ _ (isn_f rfl rfl (by decide))) rfl (N := 57) rfl rfl cin_7 tyX7 tyX7_ok nmX7 5 (by decide) rfl rfl rfl rfl gw_1161 dX7_test_49 (fun f H locs w hw hk1 => ?_)
    have hk := hk.tr hk1
    refine u_sv h hw hn (fun S3 h hw hn => ?_)
    refine lv_iload_n hx hb dX7_test_52 rfl (lv_at hl 0 rfl) ?_
    obtain ⟨g4, h⟩ := gd_some h
    exact t_zret C hr hlk w (narb g4) ⟨_, so_v h, rfl, so_w h hw, so_n h hn, hk⟩ (by decide) (by decide) dX7_test_53
  have J140 : ∀ (a1 : Int32) (a2 : Int32) (S : fS), B_X7_test_140 R  a1 a2 S = some (v, S1) → Gw D K b0 sa ad P n L f0 p l e { frames := 6 + (d + 1), cells := 0, slots := 0, locals := 108 + 40 * (d + 1) } s m [.ref (ad 40 0)].toArray below meth c 4 (MQ below (hQ D K b0 (fun v9 u9 => ∃ f2 : Nat → va_E, v9 = some (.int v) ∧ u9 = lU L f2 ∧ PW K ad P S1 L f2 ∧ S1.2.2.1 = n ∧ Kp ad P L f0 f2)) [.ref (ad 40 0)].toArray s 0 0 (fun q => b0 ≤ q)) 0 0 140 [(0, .ref (ad 40 0)), (1, .int a1), (2, .int a2)] [] S := by
    intro a1 a2 S h
    dsimp only [B_X7_test_140] at h
    intro f H locs w hw hn hk ls hl
    refine lv_aload_n hx hb dX7_test_140 rfl (lv_at hl 0 rfl) ?_
    refine lv_dup hx hb dX7_test_141 rfl ?_
    refine u_geti C w hw (hP _ _ (isn_f rfl rfl (by decide))) rfl (N := 57) rfl rfl cin_7 4 (by decide) rfl gw_1160 dX7_test_142 ?_
    refine u_iv h (fun x5 h => ?_)
    refine lv_iconst (v := 1) hx hb dX7_test_145 (by decide) ?_
    refine lv_iadd hx hb dX7_test_146 ?_
    refine u_iv h (fun x6 h => ?_)
    refine u_puti C w hw (hP _ _ (isn_f rfl rfl (by decide))) rfl (N := 57) rfl rfl cin_7 tyX7 tyX7_ok nmX7 4 (by decide) rfl rfl rfl rfl gw_1160 dX7_test_147 (fun f H locs w hw hk1 => ?_)
    have hk := hk.tr hk1
    refine u_sv h hw hn (fun S7 h hw hn => ?_)
    refine lv_aload_n hx hb dX7_test_150 rfl (lv_at hl 0 rfl) ?_
    obtain ⟨v8, S9, h10, h⟩ := bd_some h
    refine u_callV (n := 0) C w hw (hP _ _ (isn_f rfl rfl (by decide))) rfl rfl rfl (hR2 _ L _ S7 hw hn v8 S9 h10) gw_1398 gw_1395 gw_1397 gs_34 gw_8 ⟨by decide, by decide, by decide +kernel⟩ rfl rfl ⟨by dsimp only; omega, by dsimp only; omega⟩ rfl hl.1 rfl (Nat.le_of_ble_eq_true rfl) dX7_test_151 ⟨Nat.le_of_ble_eq_true rfl, Nat.le_of_ble_eq_true rfl⟩ (fun v9 u H locs hp w => ?_)
    obtain ⟨f2, rfl, rfl, hw, hn, hk1⟩ := hp
    have hk := hk.tr hk1
    generalize f2 = f at w hw hk
    refine lv_istore_n (lv' := [(3, .int v8), (0, .ref (ad 40 0)), (1, .int a1), (2, .int a2)]) hx hb dX7_test_154 rfl hl (by decide) rfl (fun ls hl => ?_)
    refine lv_iload_n hx hb dX7_test_155 rfl (lv_at hl 3 rfl) ?_
    refine lv_bipush (v := 60) hx hb dX7_test_156 (by decide) ?_
    refine lv_icmp_ne (tgt := 174) hx hb dX7_test_158 (by decide) (fun c11 => ?_) (fun c11 => ?_)
    · have h := bb_f h c11
      refine lv_iload_n hx hb dX7_test_174 rfl (lv_at hl 3 rfl) ?_
      refine lv_bipush (v := 62) hx hb dX7_test_175 (by decide) ?_
      refine lv_icmp_ne (tgt := 193) hx hb dX7_test_177 (by decide) (fun c12 => ?_) (fun c12 => ?_)
      · have h := bb_f h c12
        refine lv_iload_n hx hb dX7_test_193 rfl (lv_at hl 2 rfl) ?_
        refine lv_iload_n hx hb dX7_test_194 rfl (lv_at hl 0 rfl) ?_
        refine lv_icmp_ne (tgt := 202) hx hb dX7_test_195 (by decide) (fun c13 => ?_) (fun c13 => ?_)
        · have h := bb_f h c13
          refine lv_iconst (v := 0) hx hb dX7_test_202 (by decide) ?_
          exact t_zret C hr hlk w (by decide) ⟨_, so_v h, rfl, so_w h hw, so_n h hn, hk⟩ (by decide) (by decide) dX7_test_203
        · have h := bb_t h c13
          refine lv_iconst (v := 1) hx hb dX7_test_198 (by decide) ?_
          refine lv_goto (tgt := 203) hx hb dX7_test_199 (by decide) ?_
          exact t_zret C hr hlk w (by decide) ⟨_, so_v h, rfl, so_w h hw, so_n h hn, hk⟩ (by decide) (by decide) dX7_test_203
      · have h := bb_t h c12
        refine lv_iload_n hx hb dX7_test_180 rfl (lv_at hl 2 rfl) ?_
        refine lv_iload_n hx hb dX7_test_181 rfl (lv_at hl 0 rfl) ?_
        refine lv_icmp_le (tgt := 189) hx hb dX7_test_182 (by decide) (fun c14 => ?_) (fun c14 => ?_)
        · have h := bb_t h c14
          refine lv_iconst (v := 0) hx hb dX7_test_189 (by decide) ?_
          refine lv_goto (tgt := 203) hx hb dX7_test_190 (by decide) ?_
          exact t_zret C hr hlk w (by decide) ⟨_, so_v h, rfl, so_w h hw, so_n h hn, hk⟩ (by decide) (by decide) dX7_test_203
        · have h := bb_f h c14
          refine lv_iconst (v := 1) hx hb dX7_test_185 (by decide) ?_
          refine lv_goto (tgt := 203) hx hb dX7_test_186 (by decide) ?_
          exact t_zret C hr hlk w (by decide) ⟨_, so_v h, rfl, so_w h hw, so_n h hn, hk⟩ (by decide) (by decide) dX7_test_203
    · have h := bb_t h c11
      refine lv_iload_n hx hb dX7_test_161 rfl (lv_at hl 2 rfl) ?_
      refine lv_iload_n hx hb dX7_test_162 rfl (lv_at hl 0 rfl) ?_
      refine lv_icmp_ge (tgt := 170) hx hb dX7_test_163 (by decide) (fun c15 => ?_) (fun c15 => ?_)
      · have h := bb_t h c15
        refine lv_iconst (v := 0) hx hb dX7_test_170 (by decide) ?_
        refine lv_goto (tgt := 203) hx hb dX7_test_171 (by decide) ?_
        exact t_zret C hr hlk w (by decide) ⟨_, so_v h, rfl, so_w h hw, so_n h hn, hk⟩ (by decide) (by decide) dX7_test_203
      · have h := bb_f h c15
        refine lv_iconst (v := 1) hx hb dX7_test_166 (by decide) ?_
        refine lv_goto (tgt := 203) hx hb dX7_test_167 (by decide) ?_
        exact t_zret C hr hlk w (by decide) ⟨_, so_v h, rfl, so_w h hw, so_n h hn, hk⟩ (by decide) (by decide) dX7_test_203
  dsimp only [N_X7_test] at h
  obtain ⟨f, ef⟩ : ∃ z, z = f0 := ⟨_, rfl⟩
  rw [← ef] at w hw
  have hk : Kp ad P L f0 f := by rw [ef]; exact Kp.rf
  obtain ⟨H, eH⟩ : ∃ z, z = s.heap := ⟨_, rfl⟩
  obtain ⟨locs, el⟩ : ∃ z : List Loc, z = [] := ⟨_, rfl⟩
  rw [← eH, ← el] at w ⊢
  refine lv_aload_n hx hb dX7_test_0 rfl (lv_at hl 0 rfl) ?_
  refine u_geti C w hw (hP _ _ (isn_f rfl rfl (by decide))) rfl (N := 57) rfl rfl cin_7 6 (by decide) rfl gw_1162 dX7_test_1 ?_
  refine u_iv h (fun x16 h => ?_)
  refine lv_if_eq (tgt := 9) hx hb dX7_test_4 (by decide) (fun c17 => ?_) (fun c17 => ?_)
  · have h := bb_t h c17
    refine lv_aload_n hx hb dX7_test_9 rfl (lv_at hl 0 rfl) ?_
    refine lv_bipush (v := 14) hx hb dX7_test_10 (by decide) ?_
    refine lv_bipush (v := 15) hx hb dX7_test_12 (by decide) ?_
    refine lv_bipush (v := 20) hx hb dX7_test_14 (by decide) ?_
    refine lv_iconst (v := 0) hx hb dX7_test_16 (by decide) ?_
    refine lv_iconst (v := 0) hx hb dX7_test_17 (by decide) ?_
    obtain ⟨v18, S19, h20, h⟩ := bd_some h
    refine u_callV (n := 5) C w hw (hP _ _ (isn_f rfl rfl (by decide))) rfl rfl rfl (c_X7_isWord l D K b0 sa _ L _ ad P hP S0 hw hn 14 15 20 0 0 v18 S19 h20) gw_1367 gw_1364 gw_1366 gs_27 gw_8 ⟨by decide, by decide, by decide +kernel⟩ rfl rfl ⟨by dsimp only; omega, by dsimp only; omega⟩ rfl hl.1 rfl (Nat.le_of_ble_eq_true rfl) dX7_test_18 ⟨Nat.le_of_ble_eq_true rfl, Nat.le_of_ble_eq_true rfl⟩ (fun v9 u H locs hp w => ?_)
    obtain ⟨f2, rfl, rfl, hw, hn, hk1⟩ := hp
    have hk := hk.tr hk1
    generalize f2 = f at w hw hk
    refine lv_if_eq (tgt := 54) hx hb dX7_test_21 (by decide) (fun c21 => ?_) (fun c21 => ?_)
    · have h := bb_t h c21
      refine lv_aload_n hx hb dX7_test_54 rfl (lv_at hl 0 rfl) ?_
      refine lv_aload_n hx hb dX7_test_55 rfl (lv_at hl 0 rfl) ?_
      refine u_geti C w hw (hP _ _ (isn_f rfl rfl (by decide))) rfl (N := 57) rfl rfl cin_7 4 (by decide) rfl gw_1160 dX7_test_56 ?_
      refine u_iv h (fun x22 h => ?_)
      obtain ⟨v23, S24, h25, h⟩ := bd_some h
      refine u_callV (n := 1) C w hw (hP _ _ (isn_f rfl rfl (by decide))) rfl rfl rfl (c_X7_byteAt l D K b0 sa _ L _ ad P hP S19 hw hn x22 v23 S24 h25) gw_1379 gw_1376 gw_1378 gs_30 gw_8 ⟨by decide, by decide, by decide +kernel⟩ rfl rfl ⟨by dsimp only; omega, by dsimp only; omega⟩ rfl hl.1 rfl (Nat.le_of_ble_eq_true rfl) dX7_test_59 ⟨Nat.le_of_ble_eq_true rfl, Nat.le_of_ble_eq_true rfl⟩ (fun v9 u H locs hp w => ?_)
      obtain ⟨f2, rfl, rfl, hw, hn, hk1⟩ := hp
      have hk := hk.tr hk1
      generalize f2 = f at w hw hk
      refine lv_bipush (v := 91) hx hb dX7_test_62 (by decide) ?_
      refine lv_icmp_ne (tgt := 95) hx hb dX7_test_64 (by decide) (fun c26 => ?_) (fun c26 => ?_)
      · have h := bb_f h c26
        refine lv_aload_n hx hb dX7_test_95 rfl (lv_at hl 0 rfl) ?_
        obtain ⟨v27, S28, h29, h⟩ := bd_some h
        refine u_callV (n := 0) C w hw (hP _ _ (isn_f rfl rfl (by decide))) rfl rfl rfl (hR2 _ L _ S24 hw hn v27 S28 h29) gw_1398 gw_1395 gw_1397 gs_34 gw_8 ⟨by decide, by decide, by decide +kernel⟩ rfl rfl ⟨by dsimp only; omega, by dsimp only; omega⟩ rfl hl.1 rfl (Nat.le_of_ble_eq_true rfl) dX7_test_96 ⟨Nat.le_of_ble_eq_true rfl, Nat.le_of_ble_eq_true rfl⟩ (fun v9 u H locs hp w => ?_)
        obtain ⟨f2, rfl, rfl, hw, hn, hk1⟩ := hp
        have hk := hk.tr hk1
        generalize f2 = f at w hw hk
        refine lv_istore_n (lv' := [(1, .int v27), (0, .ref (ad 40 0))]) hx hb dX7_test_99 rfl hl (by decide) rfl (fun ls hl => ?_)
        refine lv_aload_n hx hb dX7_test_100 rfl (lv_at hl 1 rfl) ?_
        obtain ⟨v30, S31, h32, h⟩ := bd_some h
        refine u_callV (n := 0) C w hw (hP _ _ (isn_f rfl rfl (by decide))) rfl rfl rfl (c_X7_blanks l D K b0 sa _ L _ ad P hP S28 hw hn  v30 S31 h32) gw_1375 gw_1372 gw_1374 gs_29 gw_8 ⟨by decide, by decide, by decide +kernel⟩ rfl rfl ⟨by dsimp only; omega, by dsimp only; omega⟩ rfl hl.1 rfl (Nat.le_of_ble_eq_true rfl) dX7_test_101 ⟨Nat.le_of_ble_eq_true rfl, Nat.le_of_ble_eq_true rfl⟩ (fun v9 u H locs hp w => ?_)
        obtain ⟨f2, rfl, rfl, hw, hn, hk1⟩ := hp
        have hk := hk.tr hk1
        generalize f2 = f at w hw hk
        refine lv_aload_n hx hb dX7_test_104 rfl (lv_at hl 1 rfl) ?_
        refine lv_aload_n hx hb dX7_test_105 rfl (lv_at hl 1 rfl) ?_
        refine u_geti C w hw (hP _ _ (isn_f rfl rfl (by decide))) rfl (N := 57) rfl rfl cin_7 4 (by decide) rfl gw_1160 dX7_test_106 ?_
        refine u_iv h (fun x33 h => ?_)
        obtain ⟨v34, S35, h36, h⟩ := bd_some h
        refine u_callV (n := 1) C w hw (hP _ _ (isn_f rfl rfl (by decide))) rfl rfl rfl (c_X7_byteAt l D K b0 sa _ L _ ad P hP S31 hw hn x33 v34 S35 h36) gw_1379 gw_1376 gw_1378 gs_30 gw_8 ⟨by decide, by decide, by decide +kernel⟩ rfl rfl ⟨by dsimp only; omega, by dsimp only; omega⟩ rfl hl.1 rfl (Nat.le_of_ble_eq_true rfl) dX7_test_109 ⟨Nat.le_of_ble_eq_true rfl, Nat.le_of_ble_eq_true rfl⟩ (fun v9 u H locs hp w => ?_)
        obtain ⟨f2, rfl, rfl, hw, hn, hk1⟩ := hp
        have hk := hk.tr hk1
        generalize f2 = f at w hw hk
        refine lv_istore_n (lv' := [(2, .int v34), (1, .int v27), (0, .ref (ad 40 0))]) hx hb dX7_test_112 rfl hl (by decide) rfl (fun ls hl => ?_)
        refine lv_iload_n hx hb dX7_test_113 rfl (lv_at hl 0 rfl) ?_
        refine lv_bipush (v := 60) hx hb dX7_test_114 (by decide) ?_
        refine lv_icmp_eq (tgt := 140) hx hb dX7_test_116 (by decide) (fun c37 => ?_) (fun c37 => ?_)
        · have h := bb_t h c37
          exact J140  v27 v34 S35 h f H locs w hw hn hk ls (lv_sub hl [2, 1, 0] rfl)
        · have h := bb_f h c37
          refine lv_iload_n hx hb dX7_test_119 rfl (lv_at hl 0 rfl) ?_
          refine lv_bipush (v := 62) hx hb dX7_test_120 (by decide) ?_
          refine lv_icmp_eq (tgt := 140) hx hb dX7_test_122 (by decide) (fun c38 => ?_) (fun c38 => ?_)
          · have h := bb_t h c38
            exact J140  v27 v34 S35 h f H locs w hw hn hk ls (lv_sub hl [2, 1, 0] rfl)
          · have h := bb_f h c38
            refine lv_iload_n hx hb dX7_test_125 rfl (lv_at hl 0 rfl) ?_
            refine lv_bipush (v := 61) hx hb dX7_test_126 (by decide) ?_
            refine lv_icmp_eq (tgt := 140) hx hb dX7_test_128 (by decide) (fun c39 => ?_) (fun c39 => ?_)
            · have h := bb_t h c39
              exact J140  v27 v34 S35 h f H locs w hw hn hk ls (lv_sub hl [2, 1, 0] rfl)
            · have h := bb_f h c39
              refine lv_aload_n hx hb dX7_test_131 rfl (lv_at hl 2 rfl) ?_
              refine lv_iconst (v := 1) hx hb dX7_test_132 (by decide) ?_
              refine lv_aload_n hx hb dX7_test_133 rfl (lv_at hl 2 rfl) ?_
              refine u_geti C w hw (hP _ _ (isn_f rfl rfl (by decide))) rfl (N := 57) rfl rfl cin_7 4 (by decide) rfl gw_1160 dX7_test_134 ?_
              refine u_iv h (fun x40 h => ?_)
              obtain ⟨v41, S42, h43, h⟩ := bd_some h
              refine u_callV (n := 2) C w hw (hP _ _ (isn_f rfl rfl (by decide))) rfl rfl rfl (c_X7_wrong l D K b0 sa _ L _ ad P hP S35 hw hn 1 x40 v41 S42 h43) gw_1390 gw_1387 gw_1389 gs_32 gw_8 ⟨by decide, by decide, by decide +kernel⟩ rfl rfl ⟨by dsimp only; omega, by dsimp only; omega⟩ rfl hl.1 rfl (Nat.le_of_ble_eq_true rfl) dX7_test_137 ⟨Nat.le_of_ble_eq_true rfl, Nat.le_of_ble_eq_true rfl⟩ (fun v9 u H locs hp w => ?_)
              obtain ⟨f2, rfl, rfl, hw, hn, hk1⟩ := hp
              have hk := hk.tr hk1
              generalize f2 = f at w hw hk
              exact J140  v27 v34 S42 h f H locs w hw hn hk ls (lv_sub hl [2, 1, 0] rfl)
      · have h := bb_t h c26
        refine lv_aload_n hx hb dX7_test_67 rfl (lv_at hl 0 rfl) ?_
        refine lv_iconst (v := 1) hx hb dX7_test_68 (by decide) ?_
        obtain ⟨v44, S45, h46, h⟩ := bd_some h
        refine u_callV (n := 1) C w hw (hP _ _ (isn_f rfl rfl (by decide))) rfl rfl rfl (c_X7_opens l D K b0 sa _ L _ ad P hP S24 hw hn 1 v44 S45 h46) gw_1386 gw_1383 gw_1385 gs_31 gw_8 ⟨by decide, by decide, by decide +kernel⟩ rfl rfl ⟨by dsimp only; omega, by dsimp only; omega⟩ rfl hl.1 rfl (Nat.le_of_ble_eq_true rfl) dX7_test_69 ⟨Nat.le_of_ble_eq_true rfl, Nat.le_of_ble_eq_true rfl⟩ (fun v9 u H locs hp w => ?_)
        obtain ⟨f2, rfl, rfl, hw, hn, hk1⟩ := hp
        have hk := hk.tr hk1
        generalize f2 = f at w hw hk
        refine lv_aload_n hx hb dX7_test_72 rfl (lv_at hl 0 rfl) ?_
        obtain ⟨v47, S48, h49, h⟩ := bd_some h
        refine u_callV (n := 0) C w hw (hP _ _ (isn_f rfl rfl (by decide))) rfl rfl rfl (hR5 _ L _ S45 hw hn v47 S48 h49) gw_1355 gw_1352 gw_1354 gs_24 gw_8 ⟨by decide, by decide, by decide +kernel⟩ rfl rfl ⟨by dsimp only; omega, by dsimp only; omega⟩ rfl hl.1 rfl (Nat.le_of_ble_eq_true rfl) dX7_test_73 ⟨Nat.le_of_ble_eq_true rfl, Nat.le_of_ble_eq_true rfl⟩ (fun v9 u H locs hp w => ?_)
        obtain ⟨f2, rfl, rfl, hw, hn, hk1⟩ := hp
        have hk := hk.tr hk1
        generalize f2 = f at w hw hk
        refine lv_istore_n (lv' := [(1, .int v47), (0, .ref (ad 40 0))]) hx hb dX7_test_76 rfl hl (by decide) rfl (fun ls hl => ?_)
        refine lv_aload_n hx hb dX7_test_77 rfl (lv_at hl 1 rfl) ?_
        refine lv_bipush (v := 93) hx hb dX7_test_78 (by decide) ?_
        obtain ⟨v50, S51, h52, h⟩ := bd_some h
        refine u_callV (n := 1) C w hw (hP _ _ (isn_f rfl rfl (by decide))) rfl rfl rfl (c_X7_sign l D K b0 sa _ L _ ad P hP S48 hw hn 93 v50 S51 h52) gw_1394 gw_1391 gw_1393 gs_33 gw_8 ⟨by decide, by decide, by decide +kernel⟩ rfl rfl ⟨by dsimp only; omega, by dsimp only; omega⟩ rfl hl.1 rfl (Nat.le_of_ble_eq_true rfl) dX7_test_80 ⟨Nat.le_of_ble_eq_true rfl, Nat.le_of_ble_eq_true rfl⟩ (fun v9 u H locs hp w => ?_)
        obtain ⟨f2, rfl, rfl, hw, hn, hk1⟩ := hp
        have hk := hk.tr hk1
        generalize f2 = f at w hw hk
        refine lv_aload_n hx hb dX7_test_83 rfl (lv_at hl 1 rfl) ?_
        refine lv_dup hx hb dX7_test_84 rfl ?_
        refine u_geti C w hw (hP _ _ (isn_f rfl rfl (by decide))) rfl (N := 57) rfl rfl cin_7 5 (by decide) rfl gw_1161 dX7_test_85 ?_
        refine u_iv h (fun x53 h => ?_)
        refine lv_iconst (v := 1) hx hb dX7_test_88 (by decide) ?_
        refine lv_isub hx hb dX7_test_89 ?_
        refine u_iv h (fun x54 h => ?_)
        refine u_puti C w hw (hP _ _ (isn_f rfl rfl (by decide))) rfl (N := 57) rfl rfl cin_7 tyX7 tyX7_ok nmX7 5 (by decide) rfl rfl rfl rfl gw_1161 dX7_test_90 (fun f H locs w hw hk1 => ?_)
        have hk := hk.tr hk1
        refine u_sv h hw hn (fun S55 h hw hn => ?_)
        refine lv_iload_n hx hb dX7_test_93 rfl (lv_at hl 0 rfl) ?_
        obtain ⟨g56, h⟩ := gd_some h
        exact t_zret C hr hlk w (narb g56) ⟨_, so_v h, rfl, so_w h hw, so_n h hn, hk⟩ (by decide) (by decide) dX7_test_94
    · have h := bb_f h c21
      refine lv_aload_n hx hb dX7_test_24 rfl (lv_at hl 0 rfl) ?_
      refine lv_iconst (v := 3) hx hb dX7_test_25 (by decide) ?_
      obtain ⟨v57, S58, h59, h⟩ := bd_some h
      refine u_callV (n := 1) C w hw (hP _ _ (isn_f rfl rfl (by decide))) rfl rfl rfl (c_X7_opens l D K b0 sa _ L _ ad P hP S19 hw hn 3 v57 S58 h59) gw_1386 gw_1383 gw_1385 gs_31 gw_8 ⟨by decide, by decide, by decide +kernel⟩ rfl rfl ⟨by dsimp only; omega, by dsimp only; omega⟩ rfl hl.1 rfl (Nat.le_of_ble_eq_true rfl) dX7_test_26 ⟨Nat.le_of_ble_eq_true rfl, Nat.le_of_ble_eq_true rfl⟩ (fun v9 u H locs hp w => ?_)
      obtain ⟨f2, rfl, rfl, hw, hn, hk1⟩ := hp
      have hk := hk.tr hk1
      generalize f2 = f at w hw hk
      refine lv_aload_n hx hb dX7_test_29 rfl (lv_at hl 0 rfl) ?_
      obtain ⟨v60, S61, h62, h⟩ := bd_some h
      refine u_callV (n := 0) C w hw (hP _ _ (isn_f rfl rfl (by decide))) rfl rfl rfl (hR3 _ L _ S58 hw hn v60 S61 h62) gw_1363 gw_1360 gw_1362 gs_26 gw_8 ⟨by decide, by decide, by decide +kernel⟩ rfl rfl ⟨by dsimp only; omega, by dsimp only; omega⟩ rfl hl.1 rfl (Nat.le_of_ble_eq_true rfl) dX7_test_30 ⟨Nat.le_of_ble_eq_true rfl, Nat.le_of_ble_eq_true rfl⟩ (fun v9 u H locs hp w => ?_)
      obtain ⟨f2, rfl, rfl, hw, hn, hk1⟩ := hp
      have hk := hk.tr hk1
      generalize f2 = f at w hw hk
      refine lv_if_ne (tgt := 40) hx hb dX7_test_33 (by decide) (fun c63 => ?_) (fun c63 => ?_)
      · have h := bb_f h c63
        refine lv_iconst (v := 0) hx hb dX7_test_40 (by decide) ?_
        exact J41  0 S61 h f H locs w hw hn hk ls (lv_sub hl [0] rfl)
      · have h := bb_t h c63
        refine lv_iconst (v := 1) hx hb dX7_test_36 (by decide) ?_
        refine lv_goto (tgt := 41) hx hb dX7_test_37 (by decide) ?_
        exact J41  1 S61 h f H locs w hw hn hk ls (lv_sub hl [0] rfl)
  · have h := bb_f h c17
    refine lv_iconst (v := 0) hx hb dX7_test_7 (by decide) ?_
    exact t_zret C hr hlk w (by decide) ⟨_, so_v h, rfl, so_w h hw, so_n h hn, hk⟩ (by decide) (by decide) dX7_test_8
theorem dX7_ands_0 : decode cX7_ands 0 = .ok (.aload_n 0, 1) := by decide +kernel
theorem dX7_ands_1 : decode cX7_ands 1 = .ok (.invokevirtual 181, 3) := by decide +kernel
theorem dX7_ands_4 : decode cX7_ands 4 = .ok (.istore_n 1, 1) := by decide +kernel
theorem dX7_ands_5 : decode cX7_ands 5 = .ok (.aload_n 0, 1) := by decide +kernel
theorem dX7_ands_6 : decode cX7_ands 6 = .ok (.getfield 120, 3) := by decide +kernel
theorem dX7_ands_9 : decode cX7_ands 9 = .ok (.ifCond .ne 42, 3) := by decide +kernel
theorem dX7_ands_12 : decode cX7_ands 12 = .ok (.aload_n 0, 1) := by decide +kernel
theorem dX7_ands_13 : decode cX7_ands 13 = .ok (.iconst 1, 1) := by decide +kernel
theorem dX7_ands_14 : decode cX7_ands 14 = .ok (.bipush 14, 2) := by decide +kernel
theorem dX7_ands_16 : decode cX7_ands 16 = .ok (.iconst 4, 1) := by decide +kernel
theorem dX7_ands_17 : decode cX7_ands 17 = .ok (.iconst 0, 1) := by decide +kernel
theorem dX7_ands_18 : decode cX7_ands 18 = .ok (.iconst 0, 1) := by decide +kernel
theorem dX7_ands_19 : decode cX7_ands 19 = .ok (.invokevirtual 148, 3) := by decide +kernel
theorem dX7_ands_22 : decode cX7_ands 22 = .ok (.ifCond .eq 29, 3) := by decide +kernel
theorem dX7_ands_25 : decode cX7_ands 25 = .ok (.aload_n 0, 1) := by decide +kernel
theorem dX7_ands_26 : decode cX7_ands 26 = .ok (.invokevirtual 162, 3) := by decide +kernel
theorem dX7_ands_29 : decode cX7_ands 29 = .ok (.aload_n 0, 1) := by decide +kernel
theorem dX7_ands_30 : decode cX7_ands 30 = .ok (.invokevirtual 181, 3) := by decide +kernel
theorem dX7_ands_33 : decode cX7_ands 33 = .ok (.istore_n 2, 1) := by decide +kernel
theorem dX7_ands_34 : decode cX7_ands 34 = .ok (.iload_n 1, 1) := by decide +kernel
theorem dX7_ands_35 : decode cX7_ands 35 = .ok (.ifCond .eq 11, 3) := by decide +kernel
theorem dX7_ands_38 : decode cX7_ands 38 = .ok (.iload_n 2, 1) := by decide +kernel
theorem dX7_ands_39 : decode cX7_ands 39 = .ok (.ifCond .eq 7, 3) := by decide +kernel
theorem dX7_ands_42 : decode cX7_ands 42 = .ok (.iconst 1, 1) := by decide +kernel
theorem dX7_ands_43 : decode cX7_ands 43 = .ok (.goto 4, 3) := by decide +kernel
theorem dX7_ands_46 : decode cX7_ands 46 = .ok (.iconst 0, 1) := by decide +kernel
theorem dX7_ands_47 : decode cX7_ands 47 = .ok (.istore_n 1, 1) := by decide +kernel
theorem dX7_ands_48 : decode cX7_ands 48 = .ok (.goto (-43), 3) := by decide +kernel
theorem dX7_ands_51 : decode cX7_ands 51 = .ok (.iload_n 1, 1) := by decide +kernel
theorem dX7_ands_52 : decode cX7_ands 52 = .ok (.ireturn, 1) := by decide +kernel
noncomputable def B_X7_ands_47 (R : Nat → Int32 → fS → Option (Int32 × fS)) (k5 : (Int32) → fS → Option (Int32 × fS)) (t0 : Int32) (S : fS) : Option (Int32 × fS) := k5 t0 S
noncomputable def B_X7_ands_46 (R : Nat → Int32 → fS → Option (Int32 × fS)) (k5 : (Int32) → fS → Option (Int32 × fS)) (S : fS) : Option (Int32 × fS) := B_X7_ands_47 R k5 0 S
noncomputable def B_X7_ands_5 (R : Nat → Int32 → fS → Option (Int32 × fS)) (k5 : (Int32) → fS → Option (Int32 × fS)) : (Int32) → fS → Option (Int32 × fS) := fun a1 S => iv (ge S 40 0 6) (fun x1 => bb (x1 = (0 : Int32)) (bd (F_X7_isWord 1 14 4 0 0 S) (fun v4 S5 => bb (v4 = (0 : Int32)) (gd (a1 = 0 ∨ a1 = 1) (some (a1, S5))) (bd (F_X7_skipWord  S5) (fun v9 S10 => bd (R 3 0 S10) (fun v12 S13 => bb (a1 = (0 : Int32)) (B_X7_ands_46 R k5  S13) (bb (v12 = (0 : Int32)) (B_X7_ands_46 R k5  S13) (B_X7_ands_47 R k5 1 S13))))))) (gd (a1 = 0 ∨ a1 = 1) (some (a1, S))))
noncomputable def N_X7_ands (R : Nat → Int32 → fS → Option (Int32 × fS))  (S0 : fS) : Option (Int32 × fS) := bd (R 3 0 S0) (fun v17 S18 => lp (B_X7_ands_5 R ) fuel v17 S18)
set_option maxHeartbeats 4000000 in
set_option maxRecDepth 100000 in
theorem n_X7_ands (l : Launch) (D : va_G) (K : Nat → ClassId) (b0 : Nat) (sa : sT) (ad : Nat → Nat → Nat) {n : Nat × Nat} (P : Nat → Nat → Prop) (hP : ∀ a i : Nat, isn n a i → P a i) (R : Nat → Int32 → fS → Option (Int32 × fS)) (d : Nat) (hR0 : ∀ (sz : Nat) (L : List Nat) (f0 : Nat → va_E) (S0 : fS) (hw : PW K ad P S0 L f0) (hn : S0.2.2.1 = n) (v : Int32) (S1 : fS) (h : R 0 0 S0 = some (v, S1)), Met l yX7_unit (.code yX7_unit cX7_unit 6 (some .int) :: gt) { frames := 6 + d, cells := 0, slots := 0, locals := 108 + 40 * d } (va_Pc [.ref (ad 40 0)] (hPre D K b0 sa sz L f0)) (hQ D K b0 (fun v9 u9 => ∃ f2 : Nat → va_E, v9 = some (.int v) ∧ u9 = lU L f2 ∧ PW K ad P S1 L f2 ∧ S1.2.2.1 = n ∧ Kp ad P L f0 f2)) 0 0 (fun q => b0 ≤ q)) (hR1 : ∀ (sz : Nat) (L : List Nat) (f0 : Nat → va_E) (S0 : fS) (hw : PW K ad P S0 L f0) (hn : S0.2.2.1 = n) (v : Int32) (S1 : fS) (h : R 1 0 S0 = some (v, S1)), Met l yX7_product (.code yX7_product cX7_product 4 (some .int) :: gt) { frames := 6 + d, cells := 0, slots := 0, locals := 108 + 40 * d } (va_Pc [.ref (ad 40 0)] (hPre D K b0 sa sz L f0)) (hQ D K b0 (fun v9 u9 => ∃ f2 : Nat → va_E, v9 = some (.int v) ∧ u9 = lU L f2 ∧ PW K ad P S1 L f2 ∧ S1.2.2.1 = n ∧ Kp ad P L f0 f2)) 0 0 (fun q => b0 ≤ q)) (hR2 : ∀ (sz : Nat) (L : List Nat) (f0 : Nat → va_E) (S0 : fS) (hw : PW K ad P S0 L f0) (hn : S0.2.2.1 = n) (v : Int32) (S1 : fS) (h : R 2 0 S0 = some (v, S1)), Met l yX7_sum (.code yX7_sum cX7_sum 4 (some .int) :: gt) { frames := 6 + d, cells := 0, slots := 0, locals := 108 + 40 * d } (va_Pc [.ref (ad 40 0)] (hPre D K b0 sa sz L f0)) (hQ D K b0 (fun v9 u9 => ∃ f2 : Nat → va_E, v9 = some (.int v) ∧ u9 = lU L f2 ∧ PW K ad P S1 L f2 ∧ S1.2.2.1 = n ∧ Kp ad P L f0 f2)) 0 0 (fun q => b0 ≤ q)) (hR3 : ∀ (sz : Nat) (L : List Nat) (f0 : Nat → va_E) (S0 : fS) (hw : PW K ad P S0 L f0) (hn : S0.2.2.1 = n) (v : Int32) (S1 : fS) (h : R 3 0 S0 = some (v, S1)), Met l yX7_test (.code yX7_test cX7_test 4 (some .boolean) :: gt) { frames := 6 + d, cells := 0, slots := 0, locals := 108 + 40 * d } (va_Pc [.ref (ad 40 0)] (hPre D K b0 sa sz L f0)) (hQ D K b0 (fun v9 u9 => ∃ f2 : Nat → va_E, v9 = some (.int v) ∧ u9 = lU L f2 ∧ PW K ad P S1 L f2 ∧ S1.2.2.1 = n ∧ Kp ad P L f0 f2)) 0 0 (fun q => b0 ≤ q)) (hR4 : ∀ (sz : Nat) (L : List Nat) (f0 : Nat → va_E) (S0 : fS) (hw : PW K ad P S0 L f0) (hn : S0.2.2.1 = n) (v : Int32) (S1 : fS) (h : R 4 0 S0 = some (v, S1)), Met l yX7_ands (.code yX7_ands cX7_ands 3 (some .boolean) :: gt) { frames := 6 + d, cells := 0, slots := 0, locals := 108 + 40 * d } (va_Pc [.ref (ad 40 0)] (hPre D K b0 sa sz L f0)) (hQ D K b0 (fun v9 u9 => ∃ f2 : Nat → va_E, v9 = some (.int v) ∧ u9 = lU L f2 ∧ PW K ad P S1 L f2 ∧ S1.2.2.1 = n ∧ Kp ad P L f0 f2)) 0 0 (fun q => b0 ≤ q)) (hR5 : ∀ (sz : Nat) (L : List Nat) (f0 : Nat → va_E) (S0 : fS) (hw : PW K ad P S0 L f0) (hn : S0.2.2.1 = n) (v : Int32) (S1 : fS) (h : R 5 0 S0 = some (v, S1)), Met l yX7_ors (.code yX7_ors cX7_ors 3 (some .boolean) :: gt) { frames := 6 + d, cells := 0, slots := 0, locals := 108 + 40 * d } (va_Pc [.ref (ad 40 0)] (hPre D K b0 sa sz L f0)) (hQ D K b0 (fun v9 u9 => ∃ f2 : Nat → va_E, v9 = some (.int v) ∧ u9 = lU L f2 ∧ PW K ad P S1 L f2 ∧ S1.2.2.1 = n ∧ Kp ad P L f0 f2)) 0 0 (fun q => b0 ≤ q)) (sz : Nat) (L : List Nat) (f0 : Nat → va_E) (S0 : fS) (hw : PW K ad P S0 L f0) (hn : S0.2.2.1 = n)  (v : Int32) (S1 : fS) (h : N_X7_ands R  S0 = some (v, S1)) : Met l yX7_ands (.code yX7_ands cX7_ands 3 (some .boolean) :: gt) { frames := 6 + (d + 1), cells := 0, slots := 0, locals := 108 + 40 * (d + 1) } (va_Pc [.ref (ad 40 0)] (hPre D K b0 sa sz L f0)) (hQ D K b0 (fun v9 u9 => ∃ f2 : Nat → va_E, v9 = some (.int v) ∧ u9 = lU L f2 ∧ PW K ad P S1 L f2 ∧ S1.2.2.1 = n ∧ Kp ad P L f0 f2)) 0 0 (fun q => b0 ≤ q) := by
  refine t_of (own := RX7) (by decide) rfl ?_ (Nat.le_of_ble_eq_true rfl)
  intro p e s m below meth c ls C w hsz hr hlk hnm hl
  have hx := C.1
  have hb := C.2.1
  have hl : lv_has ls 3 [(0, .ref (ad 40 0))] := hl
  have J47 : ∀ (k5 : (Int32) → fS → Option (Int32 × fS)) (hk5 : ∀ (a1 : Int32) (S : fS), k5 a1 S = some (v, S1) → Gw D K b0 sa ad P n L f0 p l e { frames := 6 + (d + 1), cells := 0, slots := 0, locals := 108 + 40 * (d + 1) } s m [.ref (ad 40 0)].toArray below meth c 3 (MQ below (hQ D K b0 (fun v9 u9 => ∃ f2 : Nat → va_E, v9 = some (.int v) ∧ u9 = lU L f2 ∧ PW K ad P S1 L f2 ∧ S1.2.2.1 = n ∧ Kp ad P L f0 f2)) [.ref (ad 40 0)].toArray s 0 0 (fun q => b0 ≤ q)) 0 0 5 [(0, .ref (ad 40 0)), (1, .int a1)] [] S) (t0 : Int32) (S : fS), B_X7_ands_47 R k5 t0 S = some (v, S1) → Gw D K b0 sa ad P n L f0 p l e { frames := 6 + (d + 1), cells := 0, slots := 0, locals := 108 + 40 * (d + 1) } s m [.ref (ad 40 0)].toArray below meth c 3 (MQ below (hQ D K b0 (fun v9 u9 => ∃ f2 : Nat → va_E, v9 = some (.int v) ∧ u9 = lU L f2 ∧ PW K ad P S1 L f2 ∧ S1.2.2.1 = n ∧ Kp ad P L f0 f2)) [.ref (ad 40 0)].toArray s 0 0 (fun q => b0 ≤ q)) 0 0 47 [(0, .ref (ad 40 0))] [.int t0] S := by
    intro k5 hk5 t0 S h
    dsimp only [B_X7_ands_47] at h
    intro f H locs w hw hn hk ls hl
    refine lv_istore_n (lv' := [(1, .int t0), (0, .ref (ad 40 0))]) hx hb dX7_ands_47 rfl hl (by decide) rfl (fun ls hl => ?_)
    refine lv_goto (tgt := 5) hx hb dX7_ands_48 (by decide) ?_
    exact hk5 t0 S h f H locs w hw hn hk ls (lv_sub hl [1, 0] rfl)
  have J46 : ∀ (k5 : (Int32) → fS → Option (Int32 × fS)) (hk5 : ∀ (a1 : Int32) (S : fS), k5 a1 S = some (v, S1) → Gw D K b0 sa ad P n L f0 p l e { frames := 6 + (d + 1), cells := 0, slots := 0, locals := 108 + 40 * (d + 1) } s m [.ref (ad 40 0)].toArray below meth c 3 (MQ below (hQ D K b0 (fun v9 u9 => ∃ f2 : Nat → va_E, v9 = some (.int v) ∧ u9 = lU L f2 ∧ PW K ad P S1 L f2 ∧ S1.2.2.1 = n ∧ Kp ad P L f0 f2)) [.ref (ad 40 0)].toArray s 0 0 (fun q => b0 ≤ q)) 0 0 5 [(0, .ref (ad 40 0)), (1, .int a1)] [] S) (S : fS), B_X7_ands_46 R k5  S = some (v, S1) → Gw D K b0 sa ad P n L f0 p l e { frames := 6 + (d + 1), cells := 0, slots := 0, locals := 108 + 40 * (d + 1) } s m [.ref (ad 40 0)].toArray below meth c 3 (MQ below (hQ D K b0 (fun v9 u9 => ∃ f2 : Nat → va_E, v9 = some (.int v) ∧ u9 = lU L f2 ∧ PW K ad P S1 L f2 ∧ S1.2.2.1 = n ∧ Kp ad P L f0 f2)) [.ref (ad 40 0)].toArray s 0 0 (fun q => b0 ≤ q)) 0 0 46 [(0, .ref (ad 40 0))] [] S := by
    intro k5 hk5 S h
    dsimp only [B_X7_ands_46] at h
    intro f H locs w hw hn hk ls hl
    refine lv_iconst (v := 0) hx hb dX7_ands_46 (by decide) ?_
    exact J47 k5 hk5 0 S h f H locs w hw hn hk ls (lv_sub hl [0] rfl)
  have J5 : ∀ (fu : Nat) (a1 : Int32) (S : fS), lp (B_X7_ands_5 R ) fu a1 S = some (v, S1) → Gw D K b0 sa ad P n L f0 p l e { frames := 6 + (d + 1), cells := 0, slots := 0, locals := 108 + 40 * (d + 1) } s m [.ref (ad 40 0)].toArray below meth c 3 (MQ below (hQ D K b0 (fun v9 u9 => ∃ f2 : Nat → va_E, v9 = some (.int v) ∧ u9 = lU L f2 ∧ PW K ad P S1 L f2 ∧ S1.2.2.1 = n ∧ Kp ad P L f0 f2)) [.ref (ad 40 0)].toArray s 0 0 (fun q => b0 ≤ q)) 0 0 5 [(0, .ref (ad 40 0)), (1, .int a1)] [] S := by
    intro fu a1 S h
    refine lp_some (G := (fun q S => Gw D K b0 sa ad P n L f0 p l e { frames := 6 + (d + 1), cells := 0, slots := 0, locals := 108 + 40 * (d + 1) } s m [.ref (ad 40 0)].toArray below meth c 3 (MQ below (hQ D K b0 (fun v9 u9 => ∃ f2 : Nat → va_E, v9 = some (.int v) ∧ u9 = lU L f2 ∧ PW K ad P S1 L f2 ∧ S1.2.2.1 = n ∧ Kp ad P L f0 f2)) [.ref (ad 40 0)].toArray s 0 0 (fun q => b0 ≤ q)) 0 0 5 [(0, .ref (ad 40 0)), (1, .int q)] [] S)) (fun k5 hk5 q S h => ?_) fu a1 S h
    obtain ⟨a1, e9⟩ : ∃ z, z = q := ⟨_, rfl⟩
    subst e9
    dsimp only [B_X7_ands_5] at h
    intro f H locs w hw hn hk ls hl
    refine lv_aload_n hx hb dX7_ands_5 rfl (lv_at hl 0 rfl) ?_
    refine u_geti C w hw (hP _ _ (isn_f rfl rfl (by decide))) rfl (N := 57) rfl rfl cin_7 6 (by decide) rfl gw_1162 dX7_ands_6 ?_
    refine u_iv h (fun x1 h => ?_)
    refine lv_if_ne (tgt := 51) hx hb dX7_ands_9 (by decide) (fun c2 => ?_) (fun c2 => ?_)
    · have h := bb_f h c2
      refine lv_iload_n hx hb dX7_ands_51 rfl (lv_at hl 1 rfl) ?_
      obtain ⟨g3, h⟩ := gd_some h
      exact t_zret C hr hlk w (narb g3) ⟨_, so_v h, rfl, so_w h hw, so_n h hn, hk⟩ (by decide) (by decide) dX7_ands_52
    · have h := bb_t h c2
      refine lv_aload_n hx hb dX7_ands_12 rfl (lv_at hl 0 rfl) ?_
      refine lv_iconst (v := 1) hx hb dX7_ands_13 (by decide) ?_
      refine lv_bipush (v := 14) hx hb dX7_ands_14 (by decide) ?_
      refine lv_iconst (v := 4) hx hb dX7_ands_16 (by decide) ?_
      refine lv_iconst (v := 0) hx hb dX7_ands_17 (by decide) ?_
      refine lv_iconst (v := 0) hx hb dX7_ands_18 (by decide) ?_
      obtain ⟨v4, S5, h6, h⟩ := bd_some h
      refine u_callV (n := 5) C w hw (hP _ _ (isn_f rfl rfl (by decide))) rfl rfl rfl (c_X7_isWord l D K b0 sa _ L _ ad P hP S hw hn 1 14 4 0 0 v4 S5 h6) gw_1367 gw_1364 gw_1366 gs_27 gw_8 ⟨by decide, by decide, by decide +kernel⟩ rfl rfl ⟨by dsimp only; omega, by dsimp only; omega⟩ rfl hl.1 rfl (Nat.le_of_ble_eq_true rfl) dX7_ands_19 ⟨Nat.le_of_ble_eq_true rfl, Nat.le_of_ble_eq_true rfl⟩ (fun v9 u H locs hp w => ?_)
      obtain ⟨f2, rfl, rfl, hw, hn, hk1⟩ := hp
      have hk := hk.tr hk1
      generalize f2 = f at w hw hk
      refine lv_if_eq (tgt := 51) hx hb dX7_ands_22 (by decide) (fun c7 => ?_) (fun c7 => ?_)
      · have h := bb_t h c7
        refine lv_iload_n hx hb dX7_ands_51 rfl (lv_at hl 1 rfl) ?_
        obtain ⟨g8, h⟩ := gd_some h
        exact t_zret C hr hlk w (narb g8) ⟨_, so_v h, rfl, so_w h hw, so_n h hn, hk⟩ (by decide) (by decide) dX7_ands_52
      · have h := bb_f h c7
        refine lv_aload_n hx hb dX7_ands_25 rfl (lv_at hl 0 rfl) ?_
        obtain ⟨v9, S10, h11, h⟩ := bd_some h
        refine u_callV (n := 0) C w hw (hP _ _ (isn_f rfl rfl (by decide))) rfl rfl rfl (c_X7_skipWord l D K b0 sa _ L _ ad P hP S5 hw hn  v9 S10 h11) gw_1421 gw_1418 gw_1420 gs_39 gw_8 ⟨by decide, by decide, by decide +kernel⟩ rfl rfl ⟨by dsimp only; omega, by dsimp only; omega⟩ rfl hl.1 rfl (Nat.le_of_ble_eq_true rfl) dX7_ands_26 ⟨Nat.le_of_ble_eq_true rfl, Nat.le_of_ble_eq_true rfl⟩ (fun v9 u H locs hp w => ?_)
        obtain ⟨f2, rfl, rfl, hw, hn, hk1⟩ := hp
        have hk := hk.tr hk1
        generalize f2 = f at w hw hk
        refine lv_aload_n hx hb dX7_ands_29 rfl (lv_at hl 0 rfl) ?_
        obtain ⟨v12, S13, h14, h⟩ := bd_some h
        refine u_callV (n := 0) C w hw (hP _ _ (isn_f rfl rfl (by decide))) rfl rfl rfl (hR3 _ L _ S10 hw hn v12 S13 h14) gw_1363 gw_1360 gw_1362 gs_26 gw_8 ⟨by decide, by decide, by decide +kernel⟩ rfl rfl ⟨by dsimp only; omega, by dsimp only; omega⟩ rfl hl.1 rfl (Nat.le_of_ble_eq_true rfl) dX7_ands_30 ⟨Nat.le_of_ble_eq_true rfl, Nat.le_of_ble_eq_true rfl⟩ (fun v9 u H locs hp w => ?_)
        obtain ⟨f2, rfl, rfl, hw, hn, hk1⟩ := hp
        have hk := hk.tr hk1
        generalize f2 = f at w hw hk
        refine lv_istore_n (lv' := [(2, .int v12), (0, .ref (ad 40 0)), (1, .int a1)]) hx hb dX7_ands_33 rfl hl (by decide) rfl (fun ls hl => ?_)
        refine lv_iload_n hx hb dX7_ands_34 rfl (lv_at hl 2 rfl) ?_
        refine lv_if_eq (tgt := 46) hx hb dX7_ands_35 (by decide) (fun c15 => ?_) (fun c15 => ?_)
        · have h := bb_t h c15
          exact J46 k5 hk5  S13 h f H locs w hw hn hk ls (lv_sub hl [1] rfl)
        · have h := bb_f h c15
          refine lv_iload_n hx hb dX7_ands_38 rfl (lv_at hl 0 rfl) ?_
          refine lv_if_eq (tgt := 46) hx hb dX7_ands_39 (by decide) (fun c16 => ?_) (fun c16 => ?_)
          · have h := bb_t h c16
            exact J46 k5 hk5  S13 h f H locs w hw hn hk ls (lv_sub hl [1] rfl)
          · have h := bb_f h c16
            refine lv_iconst (v := 1) hx hb dX7_ands_42 (by decide) ?_
            refine lv_goto (tgt := 47) hx hb dX7_ands_43 (by decide) ?_
            exact J47 k5 hk5 1 S13 h f H locs w hw hn hk ls (lv_sub hl [1] rfl)
  dsimp only [N_X7_ands] at h
  obtain ⟨f, ef⟩ : ∃ z, z = f0 := ⟨_, rfl⟩
  rw [← ef] at w hw
  have hk : Kp ad P L f0 f := by rw [ef]; exact Kp.rf
  obtain ⟨H, eH⟩ : ∃ z, z = s.heap := ⟨_, rfl⟩
  obtain ⟨locs, el⟩ : ∃ z : List Loc, z = [] := ⟨_, rfl⟩
  rw [← eH, ← el] at w ⊢
  refine lv_aload_n hx hb dX7_ands_0 rfl (lv_at hl 0 rfl) ?_
  obtain ⟨v17, S18, h19, h⟩ := bd_some h
  refine u_callV (n := 0) C w hw (hP _ _ (isn_f rfl rfl (by decide))) rfl rfl rfl (hR3 _ L _ S0 hw hn v17 S18 h19) gw_1363 gw_1360 gw_1362 gs_26 gw_8 ⟨by decide, by decide, by decide +kernel⟩ rfl rfl ⟨by dsimp only; omega, by dsimp only; omega⟩ rfl hl.1 rfl (Nat.le_of_ble_eq_true rfl) dX7_ands_1 ⟨Nat.le_of_ble_eq_true rfl, Nat.le_of_ble_eq_true rfl⟩ (fun v9 u H locs hp w => ?_)
  obtain ⟨f2, rfl, rfl, hw, hn, hk1⟩ := hp
  have hk := hk.tr hk1
  generalize f2 = f at w hw hk
  refine lv_istore_n (lv' := [(1, .int v17), (0, .ref (ad 40 0))]) hx hb dX7_ands_4 rfl hl (by decide) rfl (fun ls hl => ?_)
  exact J5  fuel v17 S18 h f H locs w hw hn hk ls (lv_sub hl [1, 0] rfl)
theorem dX7_ors_0 : decode cX7_ors 0 = .ok (.aload_n 0, 1) := by decide +kernel
theorem dX7_ors_1 : decode cX7_ors 1 = .ok (.invokevirtual 188, 3) := by decide +kernel
theorem dX7_ors_4 : decode cX7_ors 4 = .ok (.istore_n 1, 1) := by decide +kernel
theorem dX7_ors_5 : decode cX7_ors 5 = .ok (.aload_n 0, 1) := by decide +kernel
theorem dX7_ors_6 : decode cX7_ors 6 = .ok (.getfield 120, 3) := by decide +kernel
theorem dX7_ors_9 : decode cX7_ors 9 = .ok (.ifCond .ne 43, 3) := by decide +kernel
theorem dX7_ors_12 : decode cX7_ors 12 = .ok (.aload_n 0, 1) := by decide +kernel
theorem dX7_ors_13 : decode cX7_ors 13 = .ok (.bipush 15, 2) := by decide +kernel
theorem dX7_ors_15 : decode cX7_ors 15 = .ok (.bipush 18, 2) := by decide +kernel
theorem dX7_ors_17 : decode cX7_ors 17 = .ok (.iconst 0, 1) := by decide +kernel
theorem dX7_ors_18 : decode cX7_ors 18 = .ok (.iconst 0, 1) := by decide +kernel
theorem dX7_ors_19 : decode cX7_ors 19 = .ok (.iconst 0, 1) := by decide +kernel
theorem dX7_ors_20 : decode cX7_ors 20 = .ok (.invokevirtual 148, 3) := by decide +kernel
theorem dX7_ors_23 : decode cX7_ors 23 = .ok (.ifCond .eq 29, 3) := by decide +kernel
theorem dX7_ors_26 : decode cX7_ors 26 = .ok (.aload_n 0, 1) := by decide +kernel
theorem dX7_ors_27 : decode cX7_ors 27 = .ok (.invokevirtual 162, 3) := by decide +kernel
theorem dX7_ors_30 : decode cX7_ors 30 = .ok (.aload_n 0, 1) := by decide +kernel
theorem dX7_ors_31 : decode cX7_ors 31 = .ok (.invokevirtual 188, 3) := by decide +kernel
theorem dX7_ors_34 : decode cX7_ors 34 = .ok (.istore_n 2, 1) := by decide +kernel
theorem dX7_ors_35 : decode cX7_ors 35 = .ok (.iload_n 1, 1) := by decide +kernel
theorem dX7_ors_36 : decode cX7_ors 36 = .ok (.ifCond .ne 7, 3) := by decide +kernel
theorem dX7_ors_39 : decode cX7_ors 39 = .ok (.iload_n 2, 1) := by decide +kernel
theorem dX7_ors_40 : decode cX7_ors 40 = .ok (.ifCond .eq 7, 3) := by decide +kernel
theorem dX7_ors_43 : decode cX7_ors 43 = .ok (.iconst 1, 1) := by decide +kernel
theorem dX7_ors_44 : decode cX7_ors 44 = .ok (.goto 4, 3) := by decide +kernel
theorem dX7_ors_47 : decode cX7_ors 47 = .ok (.iconst 0, 1) := by decide +kernel
theorem dX7_ors_48 : decode cX7_ors 48 = .ok (.istore_n 1, 1) := by decide +kernel
theorem dX7_ors_49 : decode cX7_ors 49 = .ok (.goto (-44), 3) := by decide +kernel
theorem dX7_ors_52 : decode cX7_ors 52 = .ok (.iload_n 1, 1) := by decide +kernel
theorem dX7_ors_53 : decode cX7_ors 53 = .ok (.ireturn, 1) := by decide +kernel
noncomputable def B_X7_ors_48 (R : Nat → Int32 → fS → Option (Int32 × fS)) (k5 : (Int32) → fS → Option (Int32 × fS)) (t0 : Int32) (S : fS) : Option (Int32 × fS) := k5 t0 S
noncomputable def B_X7_ors_43 (R : Nat → Int32 → fS → Option (Int32 × fS)) (k5 : (Int32) → fS → Option (Int32 × fS)) (S : fS) : Option (Int32 × fS) := B_X7_ors_48 R k5 1 S
noncomputable def B_X7_ors_5 (R : Nat → Int32 → fS → Option (Int32 × fS)) (k5 : (Int32) → fS → Option (Int32 × fS)) : (Int32) → fS → Option (Int32 × fS) := fun a1 S => iv (ge S 40 0 6) (fun x1 => bb (x1 = (0 : Int32)) (bd (F_X7_isWord 15 18 0 0 0 S) (fun v4 S5 => bb (v4 = (0 : Int32)) (gd (a1 = 0 ∨ a1 = 1) (some (a1, S5))) (bd (F_X7_skipWord  S5) (fun v9 S10 => bd (R 4 0 S10) (fun v12 S13 => bb (a1 = (0 : Int32)) (bb (v12 = (0 : Int32)) (B_X7_ors_48 R k5 0 S13) (B_X7_ors_43 R k5  S13)) (B_X7_ors_43 R k5  S13)))))) (gd (a1 = 0 ∨ a1 = 1) (some (a1, S))))
noncomputable def N_X7_ors (R : Nat → Int32 → fS → Option (Int32 × fS))  (S0 : fS) : Option (Int32 × fS) := bd (R 4 0 S0) (fun v17 S18 => lp (B_X7_ors_5 R ) fuel v17 S18)
set_option maxHeartbeats 4000000 in
set_option maxRecDepth 100000 in
theorem n_X7_ors (l : Launch) (D : va_G) (K : Nat → ClassId) (b0 : Nat) (sa : sT) (ad : Nat → Nat → Nat) {n : Nat × Nat} (P : Nat → Nat → Prop) (hP : ∀ a i : Nat, isn n a i → P a i) (R : Nat → Int32 → fS → Option (Int32 × fS)) (d : Nat) (hR0 : ∀ (sz : Nat) (L : List Nat) (f0 : Nat → va_E) (S0 : fS) (hw : PW K ad P S0 L f0) (hn : S0.2.2.1 = n) (v : Int32) (S1 : fS) (h : R 0 0 S0 = some (v, S1)), Met l yX7_unit (.code yX7_unit cX7_unit 6 (some .int) :: gt) { frames := 6 + d, cells := 0, slots := 0, locals := 108 + 40 * d } (va_Pc [.ref (ad 40 0)] (hPre D K b0 sa sz L f0)) (hQ D K b0 (fun v9 u9 => ∃ f2 : Nat → va_E, v9 = some (.int v) ∧ u9 = lU L f2 ∧ PW K ad P S1 L f2 ∧ S1.2.2.1 = n ∧ Kp ad P L f0 f2)) 0 0 (fun q => b0 ≤ q)) (hR1 : ∀ (sz : Nat) (L : List Nat) (f0 : Nat → va_E) (S0 : fS) (hw : PW K ad P S0 L f0) (hn : S0.2.2.1 = n) (v : Int32) (S1 : fS) (h : R 1 0 S0 = some (v, S1)), Met l yX7_product (.code yX7_product cX7_product 4 (some .int) :: gt) { frames := 6 + d, cells := 0, slots := 0, locals := 108 + 40 * d } (va_Pc [.ref (ad 40 0)] (hPre D K b0 sa sz L f0)) (hQ D K b0 (fun v9 u9 => ∃ f2 : Nat → va_E, v9 = some (.int v) ∧ u9 = lU L f2 ∧ PW K ad P S1 L f2 ∧ S1.2.2.1 = n ∧ Kp ad P L f0 f2)) 0 0 (fun q => b0 ≤ q)) (hR2 : ∀ (sz : Nat) (L : List Nat) (f0 : Nat → va_E) (S0 : fS) (hw : PW K ad P S0 L f0) (hn : S0.2.2.1 = n) (v : Int32) (S1 : fS) (h : R 2 0 S0 = some (v, S1)), Met l yX7_sum (.code yX7_sum cX7_sum 4 (some .int) :: gt) { frames := 6 + d, cells := 0, slots := 0, locals := 108 + 40 * d } (va_Pc [.ref (ad 40 0)] (hPre D K b0 sa sz L f0)) (hQ D K b0 (fun v9 u9 => ∃ f2 : Nat → va_E, v9 = some (.int v) ∧ u9 = lU L f2 ∧ PW K ad P S1 L f2 ∧ S1.2.2.1 = n ∧ Kp ad P L f0 f2)) 0 0 (fun q => b0 ≤ q)) (hR3 : ∀ (sz : Nat) (L : List Nat) (f0 : Nat → va_E) (S0 : fS) (hw : PW K ad P S0 L f0) (hn : S0.2.2.1 = n) (v : Int32) (S1 : fS) (h : R 3 0 S0 = some (v, S1)), Met l yX7_test (.code yX7_test cX7_test 4 (some .boolean) :: gt) { frames := 6 + d, cells := 0, slots := 0, locals := 108 + 40 * d } (va_Pc [.ref (ad 40 0)] (hPre D K b0 sa sz L f0)) (hQ D K b0 (fun v9 u9 => ∃ f2 : Nat → va_E, v9 = some (.int v) ∧ u9 = lU L f2 ∧ PW K ad P S1 L f2 ∧ S1.2.2.1 = n ∧ Kp ad P L f0 f2)) 0 0 (fun q => b0 ≤ q)) (hR4 : ∀ (sz : Nat) (L : List Nat) (f0 : Nat → va_E) (S0 : fS) (hw : PW K ad P S0 L f0) (hn : S0.2.2.1 = n) (v : Int32) (S1 : fS) (h : R 4 0 S0 = some (v, S1)), Met l yX7_ands (.code yX7_ands cX7_ands 3 (some .boolean) :: gt) { frames := 6 + d, cells := 0, slots := 0, locals := 108 + 40 * d } (va_Pc [.ref (ad 40 0)] (hPre D K b0 sa sz L f0)) (hQ D K b0 (fun v9 u9 => ∃ f2 : Nat → va_E, v9 = some (.int v) ∧ u9 = lU L f2 ∧ PW K ad P S1 L f2 ∧ S1.2.2.1 = n ∧ Kp ad P L f0 f2)) 0 0 (fun q => b0 ≤ q)) (hR5 : ∀ (sz : Nat) (L : List Nat) (f0 : Nat → va_E) (S0 : fS) (hw : PW K ad P S0 L f0) (hn : S0.2.2.1 = n) (v : Int32) (S1 : fS) (h : R 5 0 S0 = some (v, S1)), Met l yX7_ors (.code yX7_ors cX7_ors 3 (some .boolean) :: gt) { frames := 6 + d, cells := 0, slots := 0, locals := 108 + 40 * d } (va_Pc [.ref (ad 40 0)] (hPre D K b0 sa sz L f0)) (hQ D K b0 (fun v9 u9 => ∃ f2 : Nat → va_E, v9 = some (.int v) ∧ u9 = lU L f2 ∧ PW K ad P S1 L f2 ∧ S1.2.2.1 = n ∧ Kp ad P L f0 f2)) 0 0 (fun q => b0 ≤ q)) (sz : Nat) (L : List Nat) (f0 : Nat → va_E) (S0 : fS) (hw : PW K ad P S0 L f0) (hn : S0.2.2.1 = n)  (v : Int32) (S1 : fS) (h : N_X7_ors R  S0 = some (v, S1)) : Met l yX7_ors (.code yX7_ors cX7_ors 3 (some .boolean) :: gt) { frames := 6 + (d + 1), cells := 0, slots := 0, locals := 108 + 40 * (d + 1) } (va_Pc [.ref (ad 40 0)] (hPre D K b0 sa sz L f0)) (hQ D K b0 (fun v9 u9 => ∃ f2 : Nat → va_E, v9 = some (.int v) ∧ u9 = lU L f2 ∧ PW K ad P S1 L f2 ∧ S1.2.2.1 = n ∧ Kp ad P L f0 f2)) 0 0 (fun q => b0 ≤ q) := by
  refine t_of (own := RX7) (by decide) rfl ?_ (Nat.le_of_ble_eq_true rfl)
  intro p e s m below meth c ls C w hsz hr hlk hnm hl
  have hx := C.1
  have hb := C.2.1
  have hl : lv_has ls 3 [(0, .ref (ad 40 0))] := hl
  have J48 : ∀ (k5 : (Int32) → fS → Option (Int32 × fS)) (hk5 : ∀ (a1 : Int32) (S : fS), k5 a1 S = some (v, S1) → Gw D K b0 sa ad P n L f0 p l e { frames := 6 + (d + 1), cells := 0, slots := 0, locals := 108 + 40 * (d + 1) } s m [.ref (ad 40 0)].toArray below meth c 3 (MQ below (hQ D K b0 (fun v9 u9 => ∃ f2 : Nat → va_E, v9 = some (.int v) ∧ u9 = lU L f2 ∧ PW K ad P S1 L f2 ∧ S1.2.2.1 = n ∧ Kp ad P L f0 f2)) [.ref (ad 40 0)].toArray s 0 0 (fun q => b0 ≤ q)) 0 0 5 [(0, .ref (ad 40 0)), (1, .int a1)] [] S) (t0 : Int32) (S : fS), B_X7_ors_48 R k5 t0 S = some (v, S1) → Gw D K b0 sa ad P n L f0 p l e { frames := 6 + (d + 1), cells := 0, slots := 0, locals := 108 + 40 * (d + 1) } s m [.ref (ad 40 0)].toArray below meth c 3 (MQ below (hQ D K b0 (fun v9 u9 => ∃ f2 : Nat → va_E, v9 = some (.int v) ∧ u9 = lU L f2 ∧ PW K ad P S1 L f2 ∧ S1.2.2.1 = n ∧ Kp ad P L f0 f2)) [.ref (ad 40 0)].toArray s 0 0 (fun q => b0 ≤ q)) 0 0 48 [(0, .ref (ad 40 0))] [.int t0] S := by
    intro k5 hk5 t0 S h
    dsimp only [B_X7_ors_48] at h
    intro f H locs w hw hn hk ls hl
    refine lv_istore_n (lv' := [(1, .int t0), (0, .ref (ad 40 0))]) hx hb dX7_ors_48 rfl hl (by decide) rfl (fun ls hl => ?_)
    refine lv_goto (tgt := 5) hx hb dX7_ors_49 (by decide) ?_
    exact hk5 t0 S h f H locs w hw hn hk ls (lv_sub hl [1, 0] rfl)
  have J43 : ∀ (k5 : (Int32) → fS → Option (Int32 × fS)) (hk5 : ∀ (a1 : Int32) (S : fS), k5 a1 S = some (v, S1) → Gw D K b0 sa ad P n L f0 p l e { frames := 6 + (d + 1), cells := 0, slots := 0, locals := 108 + 40 * (d + 1) } s m [.ref (ad 40 0)].toArray below meth c 3 (MQ below (hQ D K b0 (fun v9 u9 => ∃ f2 : Nat → va_E, v9 = some (.int v) ∧ u9 = lU L f2 ∧ PW K ad P S1 L f2 ∧ S1.2.2.1 = n ∧ Kp ad P L f0 f2)) [.ref (ad 40 0)].toArray s 0 0 (fun q => b0 ≤ q)) 0 0 5 [(0, .ref (ad 40 0)), (1, .int a1)] [] S) (S : fS), B_X7_ors_43 R k5  S = some (v, S1) → Gw D K b0 sa ad P n L f0 p l e { frames := 6 + (d + 1), cells := 0, slots := 0, locals := 108 + 40 * (d + 1) } s m [.ref (ad 40 0)].toArray below meth c 3 (MQ below (hQ D K b0 (fun v9 u9 => ∃ f2 : Nat → va_E, v9 = some (.int v) ∧ u9 = lU L f2 ∧ PW K ad P S1 L f2 ∧ S1.2.2.1 = n ∧ Kp ad P L f0 f2)) [.ref (ad 40 0)].toArray s 0 0 (fun q => b0 ≤ q)) 0 0 43 [(0, .ref (ad 40 0))] [] S := by
    intro k5 hk5 S h
    dsimp only [B_X7_ors_43] at h
    intro f H locs w hw hn hk ls hl
    refine lv_iconst (v := 1) hx hb dX7_ors_43 (by decide) ?_
    refine lv_goto (tgt := 48) hx hb dX7_ors_44 (by decide) ?_
    exact J48 k5 hk5 1 S h f H locs w hw hn hk ls (lv_sub hl [0] rfl)
  have J5 : ∀ (fu : Nat) (a1 : Int32) (S : fS), lp (B_X7_ors_5 R ) fu a1 S = some (v, S1) → Gw D K b0 sa ad P n L f0 p l e { frames := 6 + (d + 1), cells := 0, slots := 0, locals := 108 + 40 * (d + 1) } s m [.ref (ad 40 0)].toArray below meth c 3 (MQ below (hQ D K b0 (fun v9 u9 => ∃ f2 : Nat → va_E, v9 = some (.int v) ∧ u9 = lU L f2 ∧ PW K ad P S1 L f2 ∧ S1.2.2.1 = n ∧ Kp ad P L f0 f2)) [.ref (ad 40 0)].toArray s 0 0 (fun q => b0 ≤ q)) 0 0 5 [(0, .ref (ad 40 0)), (1, .int a1)] [] S := by
    intro fu a1 S h
    refine lp_some (G := (fun q S => Gw D K b0 sa ad P n L f0 p l e { frames := 6 + (d + 1), cells := 0, slots := 0, locals := 108 + 40 * (d + 1) } s m [.ref (ad 40 0)].toArray below meth c 3 (MQ below (hQ D K b0 (fun v9 u9 => ∃ f2 : Nat → va_E, v9 = some (.int v) ∧ u9 = lU L f2 ∧ PW K ad P S1 L f2 ∧ S1.2.2.1 = n ∧ Kp ad P L f0 f2)) [.ref (ad 40 0)].toArray s 0 0 (fun q => b0 ≤ q)) 0 0 5 [(0, .ref (ad 40 0)), (1, .int q)] [] S)) (fun k5 hk5 q S h => ?_) fu a1 S h
    obtain ⟨a1, e9⟩ : ∃ z, z = q := ⟨_, rfl⟩
    subst e9
    dsimp only [B_X7_ors_5] at h
    intro f H locs w hw hn hk ls hl
    refine lv_aload_n hx hb dX7_ors_5 rfl (lv_at hl 0 rfl) ?_
    refine u_geti C w hw (hP _ _ (isn_f rfl rfl (by decide))) rfl (N := 57) rfl rfl cin_7 6 (by decide) rfl gw_1162 dX7_ors_6 ?_
    refine u_iv h (fun x1 h => ?_)
    refine lv_if_ne (tgt := 52) hx hb dX7_ors_9 (by decide) (fun c2 => ?_) (fun c2 => ?_)
    · have h := bb_f h c2
      refine lv_iload_n hx hb dX7_ors_52 rfl (lv_at hl 1 rfl) ?_
      obtain ⟨g3, h⟩ := gd_some h
      exact t_zret C hr hlk w (narb g3) ⟨_, so_v h, rfl, so_w h hw, so_n h hn, hk⟩ (by decide) (by decide) dX7_ors_53
    · have h := bb_t h c2
      refine lv_aload_n hx hb dX7_ors_12 rfl (lv_at hl 0 rfl) ?_
      refine lv_bipush (v := 15) hx hb dX7_ors_13 (by decide) ?_
      refine lv_bipush (v := 18) hx hb dX7_ors_15 (by decide) ?_
      refine lv_iconst (v := 0) hx hb dX7_ors_17 (by decide) ?_
      refine lv_iconst (v := 0) hx hb dX7_ors_18 (by decide) ?_
      refine lv_iconst (v := 0) hx hb dX7_ors_19 (by decide) ?_
      obtain ⟨v4, S5, h6, h⟩ := bd_some h
      refine u_callV (n := 5) C w hw (hP _ _ (isn_f rfl rfl (by decide))) rfl rfl rfl (c_X7_isWord l D K b0 sa _ L _ ad P hP S hw hn 15 18 0 0 0 v4 S5 h6) gw_1367 gw_1364 gw_1366 gs_27 gw_8 ⟨by decide, by decide, by decide +kernel⟩ rfl rfl ⟨by dsimp only; omega, by dsimp only; omega⟩ rfl hl.1 rfl (Nat.le_of_ble_eq_true rfl) dX7_ors_20 ⟨Nat.le_of_ble_eq_true rfl, Nat.le_of_ble_eq_true rfl⟩ (fun v9 u H locs hp w => ?_)
      obtain ⟨f2, rfl, rfl, hw, hn, hk1⟩ := hp
      have hk := hk.tr hk1
      generalize f2 = f at w hw hk
      refine lv_if_eq (tgt := 52) hx hb dX7_ors_23 (by decide) (fun c7 => ?_) (fun c7 => ?_)
      · have h := bb_t h c7
        refine lv_iload_n hx hb dX7_ors_52 rfl (lv_at hl 1 rfl) ?_
        obtain ⟨g8, h⟩ := gd_some h
        exact t_zret C hr hlk w (narb g8) ⟨_, so_v h, rfl, so_w h hw, so_n h hn, hk⟩ (by decide) (by decide) dX7_ors_53
      · have h := bb_f h c7
        refine lv_aload_n hx hb dX7_ors_26 rfl (lv_at hl 0 rfl) ?_
        obtain ⟨v9, S10, h11, h⟩ := bd_some h
        refine u_callV (n := 0) C w hw (hP _ _ (isn_f rfl rfl (by decide))) rfl rfl rfl (c_X7_skipWord l D K b0 sa _ L _ ad P hP S5 hw hn  v9 S10 h11) gw_1421 gw_1418 gw_1420 gs_39 gw_8 ⟨by decide, by decide, by decide +kernel⟩ rfl rfl ⟨by dsimp only; omega, by dsimp only; omega⟩ rfl hl.1 rfl (Nat.le_of_ble_eq_true rfl) dX7_ors_27 ⟨Nat.le_of_ble_eq_true rfl, Nat.le_of_ble_eq_true rfl⟩ (fun v9 u H locs hp w => ?_)
        obtain ⟨f2, rfl, rfl, hw, hn, hk1⟩ := hp
        have hk := hk.tr hk1
        generalize f2 = f at w hw hk
        refine lv_aload_n hx hb dX7_ors_30 rfl (lv_at hl 0 rfl) ?_
        obtain ⟨v12, S13, h14, h⟩ := bd_some h
        refine u_callV (n := 0) C w hw (hP _ _ (isn_f rfl rfl (by decide))) rfl rfl rfl (hR4 _ L _ S10 hw hn v12 S13 h14) gw_1359 gw_1356 gw_1358 gs_25 gw_8 ⟨by decide, by decide, by decide +kernel⟩ rfl rfl ⟨by dsimp only; omega, by dsimp only; omega⟩ rfl hl.1 rfl (Nat.le_of_ble_eq_true rfl) dX7_ors_31 ⟨Nat.le_of_ble_eq_true rfl, Nat.le_of_ble_eq_true rfl⟩ (fun v9 u H locs hp w => ?_)
        obtain ⟨f2, rfl, rfl, hw, hn, hk1⟩ := hp
        have hk := hk.tr hk1
        generalize f2 = f at w hw hk
        refine lv_istore_n (lv' := [(2, .int v12), (0, .ref (ad 40 0)), (1, .int a1)]) hx hb dX7_ors_34 rfl hl (by decide) rfl (fun ls hl => ?_)
        refine lv_iload_n hx hb dX7_ors_35 rfl (lv_at hl 2 rfl) ?_
        refine lv_if_ne (tgt := 43) hx hb dX7_ors_36 (by decide) (fun c15 => ?_) (fun c15 => ?_)
        · have h := bb_f h c15
          exact J43 k5 hk5  S13 h f H locs w hw hn hk ls (lv_sub hl [1] rfl)
        · have h := bb_t h c15
          refine lv_iload_n hx hb dX7_ors_39 rfl (lv_at hl 0 rfl) ?_
          refine lv_if_eq (tgt := 47) hx hb dX7_ors_40 (by decide) (fun c16 => ?_) (fun c16 => ?_)
          · have h := bb_t h c16
            refine lv_iconst (v := 0) hx hb dX7_ors_47 (by decide) ?_
            exact J48 k5 hk5 0 S13 h f H locs w hw hn hk ls (lv_sub hl [1] rfl)
          · have h := bb_f h c16
            exact J43 k5 hk5  S13 h f H locs w hw hn hk ls (lv_sub hl [1] rfl)
  dsimp only [N_X7_ors] at h
  obtain ⟨f, ef⟩ : ∃ z, z = f0 := ⟨_, rfl⟩
  rw [← ef] at w hw
  have hk : Kp ad P L f0 f := by rw [ef]; exact Kp.rf
  obtain ⟨H, eH⟩ : ∃ z, z = s.heap := ⟨_, rfl⟩
  obtain ⟨locs, el⟩ : ∃ z : List Loc, z = [] := ⟨_, rfl⟩
  rw [← eH, ← el] at w ⊢
  refine lv_aload_n hx hb dX7_ors_0 rfl (lv_at hl 0 rfl) ?_
  obtain ⟨v17, S18, h19, h⟩ := bd_some h
  refine u_callV (n := 0) C w hw (hP _ _ (isn_f rfl rfl (by decide))) rfl rfl rfl (hR4 _ L _ S0 hw hn v17 S18 h19) gw_1359 gw_1356 gw_1358 gs_25 gw_8 ⟨by decide, by decide, by decide +kernel⟩ rfl rfl ⟨by dsimp only; omega, by dsimp only; omega⟩ rfl hl.1 rfl (Nat.le_of_ble_eq_true rfl) dX7_ors_1 ⟨Nat.le_of_ble_eq_true rfl, Nat.le_of_ble_eq_true rfl⟩ (fun v9 u H locs hp w => ?_)
  obtain ⟨f2, rfl, rfl, hw, hn, hk1⟩ := hp
  have hk := hk.tr hk1
  generalize f2 = f at w hw hk
  refine lv_istore_n (lv' := [(1, .int v17), (0, .ref (ad 40 0))]) hx hb dX7_ors_4 rfl hl (by decide) rfl (fun ls hl => ?_)
  exact J5  fuel v17 S18 h f H locs w hw hn hk ls (lv_sub hl [1, 0] rfl)
noncomputable def R_X7r : Nat → Nat → Int32 → fS → Option (Int32 × fS)
  | 0 => fun _ _ _ => none
  | d + 1 => fun j q S => match j with
    | 0 => N_X7_unit (R_X7r d) S
    | 1 => N_X7_product (R_X7r d) S
    | 2 => N_X7_sum (R_X7r d) S
    | 3 => N_X7_test (R_X7r d) S
    | 4 => N_X7_ands (R_X7r d) S
    | 5 => N_X7_ors (R_X7r d) S
    | _ => none
set_option maxHeartbeats 4000000 in
set_option maxRecDepth 100000 in
theorem r_X7r (l : Launch) (D : va_G) (K : Nat → ClassId) (b0 : Nat) (sa : sT) (ad : Nat → Nat → Nat) {n : Nat × Nat} (P : Nat → Nat → Prop) (hP : ∀ a i : Nat, isn n a i → P a i) (d : Nat) : (∀ (sz : Nat) (L : List Nat) (f0 : Nat → va_E) (S0 : fS) (hw : PW K ad P S0 L f0) (hn : S0.2.2.1 = n) (v : Int32) (S1 : fS) (h : R_X7r d 0 0 S0 = some (v, S1)), Met l yX7_unit (.code yX7_unit cX7_unit 6 (some .int) :: gt) { frames := 6 + d, cells := 0, slots := 0, locals := 108 + 40 * d } (va_Pc [.ref (ad 40 0)] (hPre D K b0 sa sz L f0)) (hQ D K b0 (fun v9 u9 => ∃ f2 : Nat → va_E, v9 = some (.int v) ∧ u9 = lU L f2 ∧ PW K ad P S1 L f2 ∧ S1.2.2.1 = n ∧ Kp ad P L f0 f2)) 0 0 (fun q => b0 ≤ q)) ∧ (∀ (sz : Nat) (L : List Nat) (f0 : Nat → va_E) (S0 : fS) (hw : PW K ad P S0 L f0) (hn : S0.2.2.1 = n) (v : Int32) (S1 : fS) (h : R_X7r d 1 0 S0 = some (v, S1)), Met l yX7_product (.code yX7_product cX7_product 4 (some .int) :: gt) { frames := 6 + d, cells := 0, slots := 0, locals := 108 + 40 * d } (va_Pc [.ref (ad 40 0)] (hPre D K b0 sa sz L f0)) (hQ D K b0 (fun v9 u9 => ∃ f2 : Nat → va_E, v9 = some (.int v) ∧ u9 = lU L f2 ∧ PW K ad P S1 L f2 ∧ S1.2.2.1 = n ∧ Kp ad P L f0 f2)) 0 0 (fun q => b0 ≤ q)) ∧ (∀ (sz : Nat) (L : List Nat) (f0 : Nat → va_E) (S0 : fS) (hw : PW K ad P S0 L f0) (hn : S0.2.2.1 = n) (v : Int32) (S1 : fS) (h : R_X7r d 2 0 S0 = some (v, S1)), Met l yX7_sum (.code yX7_sum cX7_sum 4 (some .int) :: gt) { frames := 6 + d, cells := 0, slots := 0, locals := 108 + 40 * d } (va_Pc [.ref (ad 40 0)] (hPre D K b0 sa sz L f0)) (hQ D K b0 (fun v9 u9 => ∃ f2 : Nat → va_E, v9 = some (.int v) ∧ u9 = lU L f2 ∧ PW K ad P S1 L f2 ∧ S1.2.2.1 = n ∧ Kp ad P L f0 f2)) 0 0 (fun q => b0 ≤ q)) ∧ (∀ (sz : Nat) (L : List Nat) (f0 : Nat → va_E) (S0 : fS) (hw : PW K ad P S0 L f0) (hn : S0.2.2.1 = n) (v : Int32) (S1 : fS) (h : R_X7r d 3 0 S0 = some (v, S1)), Met l yX7_test (.code yX7_test cX7_test 4 (some .boolean) :: gt) { frames := 6 + d, cells := 0, slots := 0, locals := 108 + 40 * d } (va_Pc [.ref (ad 40 0)] (hPre D K b0 sa sz L f0)) (hQ D K b0 (fun v9 u9 => ∃ f2 : Nat → va_E, v9 = some (.int v) ∧ u9 = lU L f2 ∧ PW K ad P S1 L f2 ∧ S1.2.2.1 = n ∧ Kp ad P L f0 f2)) 0 0 (fun q => b0 ≤ q)) ∧ (∀ (sz : Nat) (L : List Nat) (f0 : Nat → va_E) (S0 : fS) (hw : PW K ad P S0 L f0) (hn : S0.2.2.1 = n) (v : Int32) (S1 : fS) (h : R_X7r d 4 0 S0 = some (v, S1)), Met l yX7_ands (.code yX7_ands cX7_ands 3 (some .boolean) :: gt) { frames := 6 + d, cells := 0, slots := 0, locals := 108 + 40 * d } (va_Pc [.ref (ad 40 0)] (hPre D K b0 sa sz L f0)) (hQ D K b0 (fun v9 u9 => ∃ f2 : Nat → va_E, v9 = some (.int v) ∧ u9 = lU L f2 ∧ PW K ad P S1 L f2 ∧ S1.2.2.1 = n ∧ Kp ad P L f0 f2)) 0 0 (fun q => b0 ≤ q)) ∧ (∀ (sz : Nat) (L : List Nat) (f0 : Nat → va_E) (S0 : fS) (hw : PW K ad P S0 L f0) (hn : S0.2.2.1 = n) (v : Int32) (S1 : fS) (h : R_X7r d 5 0 S0 = some (v, S1)), Met l yX7_ors (.code yX7_ors cX7_ors 3 (some .boolean) :: gt) { frames := 6 + d, cells := 0, slots := 0, locals := 108 + 40 * d } (va_Pc [.ref (ad 40 0)] (hPre D K b0 sa sz L f0)) (hQ D K b0 (fun v9 u9 => ∃ f2 : Nat → va_E, v9 = some (.int v) ∧ u9 = lU L f2 ∧ PW K ad P S1 L f2 ∧ S1.2.2.1 = n ∧ Kp ad P L f0 f2)) 0 0 (fun q => b0 ≤ q)) := by
  induction d with
  | zero => exact ⟨fun sz L f0 S0 hw hn v S1 h => (by cases h), fun sz L f0 S0 hw hn v S1 h => (by cases h), fun sz L f0 S0 hw hn v S1 h => (by cases h), fun sz L f0 S0 hw hn v S1 h => (by cases h), fun sz L f0 S0 hw hn v S1 h => (by cases h), fun sz L f0 S0 hw hn v S1 h => (by cases h)⟩
  | succ d ih => exact ⟨fun sz L f0 S0 hw hn v S1 h => n_X7_unit l D K b0 sa ad P hP (R_X7r d) d ih.1 ih.2.1 ih.2.2.1 ih.2.2.2.1 ih.2.2.2.2.1 ih.2.2.2.2.2 sz L f0 S0 hw hn v S1 h, fun sz L f0 S0 hw hn v S1 h => n_X7_product l D K b0 sa ad P hP (R_X7r d) d ih.1 ih.2.1 ih.2.2.1 ih.2.2.2.1 ih.2.2.2.2.1 ih.2.2.2.2.2 sz L f0 S0 hw hn v S1 h, fun sz L f0 S0 hw hn v S1 h => n_X7_sum l D K b0 sa ad P hP (R_X7r d) d ih.1 ih.2.1 ih.2.2.1 ih.2.2.2.1 ih.2.2.2.2.1 ih.2.2.2.2.2 sz L f0 S0 hw hn v S1 h, fun sz L f0 S0 hw hn v S1 h => n_X7_test l D K b0 sa ad P hP (R_X7r d) d ih.1 ih.2.1 ih.2.2.1 ih.2.2.2.1 ih.2.2.2.2.1 ih.2.2.2.2.2 sz L f0 S0 hw hn v S1 h, fun sz L f0 S0 hw hn v S1 h => n_X7_ands l D K b0 sa ad P hP (R_X7r d) d ih.1 ih.2.1 ih.2.2.1 ih.2.2.2.1 ih.2.2.2.2.1 ih.2.2.2.2.2 sz L f0 S0 hw hn v S1 h, fun sz L f0 S0 hw hn v S1 h => n_X7_ors l D K b0 sa ad P hP (R_X7r d) d ih.1 ih.2.1 ih.2.2.1 ih.2.2.2.1 ih.2.2.2.2.1 ih.2.2.2.2.2 sz L f0 S0 hw hn v S1 h⟩
noncomputable def F_X7_unit (S0 : fS) : Option (Int32 × fS) := R_X7r 64 0 0 S0
theorem c_X7_unit (l : Launch) (D : va_G) (K : Nat → ClassId) (b0 : Nat) (sa : sT) (sz : Nat) (L : List Nat) (f0 : Nat → va_E) (ad : Nat → Nat → Nat) (P : Nat → Nat → Prop) {n : Nat × Nat} (hP : ∀ a i : Nat, isn n a i → P a i) (S0 : fS) (hw : PW K ad P S0 L f0) (hn : S0.2.2.1 = n) (v : Int32) (S1 : fS) (h : F_X7_unit S0 = some (v, S1)) : Met l yX7_unit (.code yX7_unit cX7_unit 6 (some .int) :: gt) { frames := 70, cells := 0, slots := 0, locals := 2668 } (va_Pc [.ref (ad 40 0)] (hPre D K b0 sa sz L f0)) (hQ D K b0 (fun v9 u9 => ∃ f2 : Nat → va_E, v9 = some (.int v) ∧ u9 = lU L f2 ∧ PW K ad P S1 L f2 ∧ S1.2.2.1 = n ∧ Kp ad P L f0 f2)) 0 0 (fun q => b0 ≤ q) := (r_X7r l D K b0 sa ad P hP 64).1 sz L f0 S0 hw hn v S1 h
noncomputable def F_X7_product (S0 : fS) : Option (Int32 × fS) := R_X7r 64 1 0 S0
theorem c_X7_product (l : Launch) (D : va_G) (K : Nat → ClassId) (b0 : Nat) (sa : sT) (sz : Nat) (L : List Nat) (f0 : Nat → va_E) (ad : Nat → Nat → Nat) (P : Nat → Nat → Prop) {n : Nat × Nat} (hP : ∀ a i : Nat, isn n a i → P a i) (S0 : fS) (hw : PW K ad P S0 L f0) (hn : S0.2.2.1 = n) (v : Int32) (S1 : fS) (h : F_X7_product S0 = some (v, S1)) : Met l yX7_product (.code yX7_product cX7_product 4 (some .int) :: gt) { frames := 70, cells := 0, slots := 0, locals := 2668 } (va_Pc [.ref (ad 40 0)] (hPre D K b0 sa sz L f0)) (hQ D K b0 (fun v9 u9 => ∃ f2 : Nat → va_E, v9 = some (.int v) ∧ u9 = lU L f2 ∧ PW K ad P S1 L f2 ∧ S1.2.2.1 = n ∧ Kp ad P L f0 f2)) 0 0 (fun q => b0 ≤ q) := (r_X7r l D K b0 sa ad P hP 64).2.1 sz L f0 S0 hw hn v S1 h
noncomputable def F_X7_sum (S0 : fS) : Option (Int32 × fS) := R_X7r 64 2 0 S0
theorem c_X7_sum (l : Launch) (D : va_G) (K : Nat → ClassId) (b0 : Nat) (sa : sT) (sz : Nat) (L : List Nat) (f0 : Nat → va_E) (ad : Nat → Nat → Nat) (P : Nat → Nat → Prop) {n : Nat × Nat} (hP : ∀ a i : Nat, isn n a i → P a i) (S0 : fS) (hw : PW K ad P S0 L f0) (hn : S0.2.2.1 = n) (v : Int32) (S1 : fS) (h : F_X7_sum S0 = some (v, S1)) : Met l yX7_sum (.code yX7_sum cX7_sum 4 (some .int) :: gt) { frames := 70, cells := 0, slots := 0, locals := 2668 } (va_Pc [.ref (ad 40 0)] (hPre D K b0 sa sz L f0)) (hQ D K b0 (fun v9 u9 => ∃ f2 : Nat → va_E, v9 = some (.int v) ∧ u9 = lU L f2 ∧ PW K ad P S1 L f2 ∧ S1.2.2.1 = n ∧ Kp ad P L f0 f2)) 0 0 (fun q => b0 ≤ q) := (r_X7r l D K b0 sa ad P hP 64).2.2.1 sz L f0 S0 hw hn v S1 h
noncomputable def F_X7_test (S0 : fS) : Option (Int32 × fS) := R_X7r 64 3 0 S0
theorem c_X7_test (l : Launch) (D : va_G) (K : Nat → ClassId) (b0 : Nat) (sa : sT) (sz : Nat) (L : List Nat) (f0 : Nat → va_E) (ad : Nat → Nat → Nat) (P : Nat → Nat → Prop) {n : Nat × Nat} (hP : ∀ a i : Nat, isn n a i → P a i) (S0 : fS) (hw : PW K ad P S0 L f0) (hn : S0.2.2.1 = n) (v : Int32) (S1 : fS) (h : F_X7_test S0 = some (v, S1)) : Met l yX7_test (.code yX7_test cX7_test 4 (some .boolean) :: gt) { frames := 70, cells := 0, slots := 0, locals := 2668 } (va_Pc [.ref (ad 40 0)] (hPre D K b0 sa sz L f0)) (hQ D K b0 (fun v9 u9 => ∃ f2 : Nat → va_E, v9 = some (.int v) ∧ u9 = lU L f2 ∧ PW K ad P S1 L f2 ∧ S1.2.2.1 = n ∧ Kp ad P L f0 f2)) 0 0 (fun q => b0 ≤ q) := (r_X7r l D K b0 sa ad P hP 64).2.2.2.1 sz L f0 S0 hw hn v S1 h
noncomputable def F_X7_ands (S0 : fS) : Option (Int32 × fS) := R_X7r 64 4 0 S0
theorem c_X7_ands (l : Launch) (D : va_G) (K : Nat → ClassId) (b0 : Nat) (sa : sT) (sz : Nat) (L : List Nat) (f0 : Nat → va_E) (ad : Nat → Nat → Nat) (P : Nat → Nat → Prop) {n : Nat × Nat} (hP : ∀ a i : Nat, isn n a i → P a i) (S0 : fS) (hw : PW K ad P S0 L f0) (hn : S0.2.2.1 = n) (v : Int32) (S1 : fS) (h : F_X7_ands S0 = some (v, S1)) : Met l yX7_ands (.code yX7_ands cX7_ands 3 (some .boolean) :: gt) { frames := 70, cells := 0, slots := 0, locals := 2668 } (va_Pc [.ref (ad 40 0)] (hPre D K b0 sa sz L f0)) (hQ D K b0 (fun v9 u9 => ∃ f2 : Nat → va_E, v9 = some (.int v) ∧ u9 = lU L f2 ∧ PW K ad P S1 L f2 ∧ S1.2.2.1 = n ∧ Kp ad P L f0 f2)) 0 0 (fun q => b0 ≤ q) := (r_X7r l D K b0 sa ad P hP 64).2.2.2.2.1 sz L f0 S0 hw hn v S1 h
noncomputable def F_X7_ors (S0 : fS) : Option (Int32 × fS) := R_X7r 64 5 0 S0
theorem c_X7_ors (l : Launch) (D : va_G) (K : Nat → ClassId) (b0 : Nat) (sa : sT) (sz : Nat) (L : List Nat) (f0 : Nat → va_E) (ad : Nat → Nat → Nat) (P : Nat → Nat → Prop) {n : Nat × Nat} (hP : ∀ a i : Nat, isn n a i → P a i) (S0 : fS) (hw : PW K ad P S0 L f0) (hn : S0.2.2.1 = n) (v : Int32) (S1 : fS) (h : F_X7_ors S0 = some (v, S1)) : Met l yX7_ors (.code yX7_ors cX7_ors 3 (some .boolean) :: gt) { frames := 70, cells := 0, slots := 0, locals := 2668 } (va_Pc [.ref (ad 40 0)] (hPre D K b0 sa sz L f0)) (hQ D K b0 (fun v9 u9 => ∃ f2 : Nat → va_E, v9 = some (.int v) ∧ u9 = lU L f2 ∧ PW K ad P S1 L f2 ∧ S1.2.2.1 = n ∧ Kp ad P L f0 f2)) 0 0 (fun q => b0 ≤ q) := (r_X7r l D K b0 sa ad P hP 64).2.2.2.2.2 sz L f0 S0 hw hn v S1 h
