theorem ti_inc {z y : Int32} {n : Int} (e : y = z + Int32.ofInt n) (hn : -2147483648 ≤ n) (hn2 : n ≤ 2147483647) (h1 : -2147483648 ≤ z.toInt + n) (h2 : z.toInt + n ≤ 2147483647) : y.toInt = z.toInt + n := by
  have q : (Int32.ofInt n).toInt = n := by
    rw [Int32.toInt_ofInt]
    show n.bmod 4294967296 = n
    exact Int.bmod_eq_of_le (by omega) (by omega)
  rw [e, ti_add (by rw [q]; exact h1) (by rw [q]; exact h2), q]
theorem dX7_player_0 : decode cX7_player 0 = .ok (.aload_n 0, 1) := by decide +kernel
theorem dX7_player_1 : decode cX7_player 1 = .ok (.iconst 0, 1) := by decide +kernel
theorem dX7_player_2 : decode cX7_player 2 = .ok (.putfield 97, 3) := by decide +kernel
theorem dX7_player_5 : decode cX7_player 5 = .ok (.aload_n 0, 1) := by decide +kernel
theorem dX7_player_6 : decode cX7_player 6 = .ok (.iload_n 1, 1) := by decide +kernel
theorem dX7_player_7 : decode cX7_player 7 = .ok (.invokestatic 253, 3) := by decide +kernel
theorem dX7_player_10 : decode cX7_player 10 = .ok (.ifCond .ne 7, 3) := by decide +kernel
theorem dX7_player_13 : decode cX7_player 13 = .ok (.iconst 1, 1) := by decide +kernel
theorem dX7_player_14 : decode cX7_player 14 = .ok (.goto 4, 3) := by decide +kernel
theorem dX7_player_17 : decode cX7_player 17 = .ok (.iconst 0, 1) := by decide +kernel
theorem dX7_player_18 : decode cX7_player 18 = .ok (.iconst 1, 1) := by decide +kernel
theorem dX7_player_19 : decode cX7_player 19 = .ok (.invokevirtual 206, 3) := by decide +kernel
theorem dX7_player_22 : decode cX7_player 22 = .ok (.ifCond .ne 46, 3) := by decide +kernel
theorem dX7_player_25 : decode cX7_player 25 = .ok (.aload_n 0, 1) := by decide +kernel
theorem dX7_player_26 : decode cX7_player 26 = .ok (.iload_n 2, 1) := by decide +kernel
theorem dX7_player_27 : decode cX7_player 27 = .ok (.iconst 1, 1) := by decide +kernel
theorem dX7_player_28 : decode cX7_player 28 = .ok (.bipush 99, 2) := by decide +kernel
theorem dX7_player_30 : decode cX7_player 30 = .ok (.invokestatic 100, 3) := by decide +kernel
theorem dX7_player_33 : decode cX7_player 33 = .ok (.ifCond .eq 23, 3) := by decide +kernel
theorem dX7_player_36 : decode cX7_player 36 = .ok (.iload_n 3, 1) := by decide +kernel
theorem dX7_player_37 : decode cX7_player 37 = .ok (.iconst 0, 1) := by decide +kernel
theorem dX7_player_38 : decode cX7_player 38 = .ok (.bipush 99, 2) := by decide +kernel
theorem dX7_player_40 : decode cX7_player 40 = .ok (.invokestatic 100, 3) := by decide +kernel
theorem dX7_player_43 : decode cX7_player 43 = .ok (.ifCond .eq 13, 3) := by decide +kernel
theorem dX7_player_46 : decode cX7_player 46 = .ok (.iload 4, 2) := by decide +kernel
theorem dX7_player_48 : decode cX7_player 48 = .ok (.iconst 0, 1) := by decide +kernel
theorem dX7_player_49 : decode cX7_player 49 = .ok (.iconst 3, 1) := by decide +kernel
theorem dX7_player_50 : decode cX7_player 50 = .ok (.invokestatic 100, 3) := by decide +kernel
theorem dX7_player_53 : decode cX7_player 53 = .ok (.ifCond .ne 7, 3) := by decide +kernel
theorem dX7_player_56 : decode cX7_player 56 = .ok (.iconst 1, 1) := by decide +kernel
theorem dX7_player_57 : decode cX7_player 57 = .ok (.goto 4, 3) := by decide +kernel
theorem dX7_player_60 : decode cX7_player 60 = .ok (.iconst 0, 1) := by decide +kernel
theorem dX7_player_61 : decode cX7_player 61 = .ok (.iconst 2, 1) := by decide +kernel
theorem dX7_player_62 : decode cX7_player 62 = .ok (.invokevirtual 206, 3) := by decide +kernel
theorem dX7_player_65 : decode cX7_player 65 = .ok (.ifCond .eq 5, 3) := by decide +kernel
theorem dX7_player_68 : decode cX7_player 68 = .ok (.iconst 0, 1) := by decide +kernel
theorem dX7_player_69 : decode cX7_player 69 = .ok (.ireturn, 1) := by decide +kernel
theorem dX7_player_70 : decode cX7_player 70 = .ok (.iload_n 2, 1) := by decide +kernel
theorem dX7_player_71 : decode cX7_player 71 = .ok (.istore 5, 2) := by decide +kernel
theorem dX7_player_73 : decode cX7_player 73 = .ok (.iload_n 3, 1) := by decide +kernel
theorem dX7_player_74 : decode cX7_player 74 = .ok (.istore 6, 2) := by decide +kernel
theorem dX7_player_76 : decode cX7_player 76 = .ok (.iconst 0, 1) := by decide +kernel
theorem dX7_player_77 : decode cX7_player 77 = .ok (.istore 7, 2) := by decide +kernel
theorem dX7_player_79 : decode cX7_player 79 = .ok (.iconst 0, 1) := by decide +kernel
theorem dX7_player_80 : decode cX7_player 80 = .ok (.istore 8, 2) := by decide +kernel
theorem dX7_player_82 : decode cX7_player 82 = .ok (.aload_n 0, 1) := by decide +kernel
theorem dX7_player_83 : decode cX7_player 83 = .ok (.iconst 3, 1) := by decide +kernel
theorem dX7_player_84 : decode cX7_player 84 = .ok (.invokevirtual 352, 3) := by decide +kernel
theorem dX7_player_87 : decode cX7_player 87 = .ok (.iload 5, 2) := by decide +kernel
theorem dX7_player_89 : decode cX7_player 89 = .ok (.ifCond .le 114, 3) := by decide +kernel
theorem dX7_player_92 : decode cX7_player 92 = .ok (.iload 6, 2) := by decide +kernel
theorem dX7_player_94 : decode cX7_player 94 = .ok (.ifCond .le 109, 3) := by decide +kernel
theorem dX7_player_97 : decode cX7_player 97 = .ok (.aload_n 0, 1) := by decide +kernel
theorem dX7_player_98 : decode cX7_player 98 = .ok (.iload_n 1, 1) := by decide +kernel
theorem dX7_player_99 : decode cX7_player 99 = .ok (.iconst 0, 1) := by decide +kernel
theorem dX7_player_100 : decode cX7_player 100 = .ok (.invokevirtual 323, 3) := by decide +kernel
theorem dX7_player_103 : decode cX7_player 103 = .ok (.iinc 6 (-1), 3) := by decide +kernel
theorem dX7_player_106 : decode cX7_player 106 = .ok (.aload_n 0, 1) := by decide +kernel
theorem dX7_player_107 : decode cX7_player 107 = .ok (.getfield 284, 3) := by decide +kernel
theorem dX7_player_110 : decode cX7_player 110 = .ok (.iconst 2, 1) := by decide +kernel
theorem dX7_player_111 : decode cX7_player 111 = .ok (.if_icmp .eq 11, 3) := by decide +kernel
theorem dX7_player_114 : decode cX7_player 114 = .ok (.aload_n 0, 1) := by decide +kernel
theorem dX7_player_115 : decode cX7_player 115 = .ok (.getfield 284, 3) := by decide +kernel
theorem dX7_player_118 : decode cX7_player 118 = .ok (.iconst 3, 1) := by decide +kernel
theorem dX7_player_119 : decode cX7_player 119 = .ok (.if_icmp .ne 7, 3) := by decide +kernel
theorem dX7_player_122 : decode cX7_player 122 = .ok (.iconst 1, 1) := by decide +kernel
theorem dX7_player_123 : decode cX7_player 123 = .ok (.goto 4, 3) := by decide +kernel
theorem dX7_player_126 : decode cX7_player 126 = .ok (.iconst 0, 1) := by decide +kernel
theorem dX7_player_127 : decode cX7_player 127 = .ok (.istore 9, 2) := by decide +kernel
theorem dX7_player_129 : decode cX7_player 129 = .ok (.iload 5, 2) := by decide +kernel
theorem dX7_player_131 : decode cX7_player 131 = .ok (.iload 9, 2) := by decide +kernel
theorem dX7_player_133 : decode cX7_player 133 = .ok (.ifCond .eq 7, 3) := by decide +kernel
theorem dX7_player_136 : decode cX7_player 136 = .ok (.iconst 1, 1) := by decide +kernel
theorem dX7_player_137 : decode cX7_player 137 = .ok (.goto 17, 3) := by decide +kernel
theorem dX7_player_140 : decode cX7_player 140 = .ok (.aload_n 0, 1) := by decide +kernel
theorem dX7_player_141 : decode cX7_player 141 = .ok (.getfield 284, 3) := by decide +kernel
theorem dX7_player_144 : decode cX7_player 144 = .ok (.iconst 5, 1) := by decide +kernel
theorem dX7_player_145 : decode cX7_player 145 = .ok (.if_icmp .ne 7, 3) := by decide +kernel
theorem dX7_player_148 : decode cX7_player 148 = .ok (.iconst 5, 1) := by decide +kernel
theorem dX7_player_149 : decode cX7_player 149 = .ok (.goto 5, 3) := by decide +kernel
theorem dX7_player_152 : decode cX7_player 152 = .ok (.bipush (-2), 2) := by decide +kernel
theorem dX7_player_154 : decode cX7_player 154 = .ok (.iadd, 1) := by decide +kernel
theorem dX7_player_155 : decode cX7_player 155 = .ok (.istore 5, 2) := by decide +kernel
theorem dX7_player_157 : decode cX7_player 157 = .ok (.iload 5, 2) := by decide +kernel
theorem dX7_player_159 : decode cX7_player 159 = .ok (.iconst 0, 1) := by decide +kernel
theorem dX7_player_160 : decode cX7_player 160 = .ok (.bipush 99, 2) := by decide +kernel
theorem dX7_player_162 : decode cX7_player 162 = .ok (.invokestatic 240, 3) := by decide +kernel
theorem dX7_player_165 : decode cX7_player 165 = .ok (.istore 5, 2) := by decide +kernel
theorem dX7_player_167 : decode cX7_player 167 = .ok (.iload 7, 2) := by decide +kernel
theorem dX7_player_169 : decode cX7_player 169 = .ok (.iload 9, 2) := by decide +kernel
theorem dX7_player_171 : decode cX7_player 171 = .ok (.ifCond .eq 7, 3) := by decide +kernel
theorem dX7_player_174 : decode cX7_player 174 = .ok (.iconst 1, 1) := by decide +kernel
theorem dX7_player_175 : decode cX7_player 175 = .ok (.goto 4, 3) := by decide +kernel
theorem dX7_player_178 : decode cX7_player 178 = .ok (.iconst 0, 1) := by decide +kernel
theorem dX7_player_179 : decode cX7_player 179 = .ok (.iadd, 1) := by decide +kernel
theorem dX7_player_180 : decode cX7_player 180 = .ok (.istore 7, 2) := by decide +kernel
theorem dX7_player_182 : decode cX7_player 182 = .ok (.iload 8, 2) := by decide +kernel
theorem dX7_player_184 : decode cX7_player 184 = .ok (.aload_n 0, 1) := by decide +kernel
theorem dX7_player_185 : decode cX7_player 185 = .ok (.getfield 284, 3) := by decide +kernel
theorem dX7_player_188 : decode cX7_player 188 = .ok (.iconst 5, 1) := by decide +kernel
theorem dX7_player_189 : decode cX7_player 189 = .ok (.if_icmp .ne 7, 3) := by decide +kernel
theorem dX7_player_192 : decode cX7_player 192 = .ok (.iconst 1, 1) := by decide +kernel
theorem dX7_player_193 : decode cX7_player 193 = .ok (.goto 4, 3) := by decide +kernel
theorem dX7_player_196 : decode cX7_player 196 = .ok (.iconst 0, 1) := by decide +kernel
theorem dX7_player_197 : decode cX7_player 197 = .ok (.iadd, 1) := by decide +kernel
theorem dX7_player_198 : decode cX7_player 198 = .ok (.istore 8, 2) := by decide +kernel
theorem dX7_player_200 : decode cX7_player 200 = .ok (.goto (-113), 3) := by decide +kernel
theorem dX7_player_203 : decode cX7_player 203 = .ok (.aload_n 0, 1) := by decide +kernel
theorem dX7_player_204 : decode cX7_player 204 = .ok (.iconst 3, 1) := by decide +kernel
theorem dX7_player_205 : decode cX7_player 205 = .ok (.invokevirtual 355, 3) := by decide +kernel
theorem dX7_player_208 : decode cX7_player 208 = .ok (.iload 4, 2) := by decide +kernel
theorem dX7_player_210 : decode cX7_player 210 = .ok (.ifCond .ne 10, 3) := by decide +kernel
theorem dX7_player_213 : decode cX7_player 213 = .ok (.iload_n 3, 1) := by decide +kernel
theorem dX7_player_214 : decode cX7_player 214 = .ok (.iload 6, 2) := by decide +kernel
theorem dX7_player_216 : decode cX7_player 216 = .ok (.isub, 1) := by decide +kernel
theorem dX7_player_217 : decode cX7_player 217 = .ok (.goto 27, 3) := by decide +kernel
theorem dX7_player_220 : decode cX7_player 220 = .ok (.iload 4, 2) := by decide +kernel
theorem dX7_player_222 : decode cX7_player 222 = .ok (.iconst 1, 1) := by decide +kernel
theorem dX7_player_223 : decode cX7_player 223 = .ok (.if_icmp .ne 8, 3) := by decide +kernel
theorem dX7_player_226 : decode cX7_player 226 = .ok (.iload 7, 2) := by decide +kernel
theorem dX7_player_228 : decode cX7_player 228 = .ok (.goto 16, 3) := by decide +kernel
theorem dX7_player_231 : decode cX7_player 231 = .ok (.iload 4, 2) := by decide +kernel
theorem dX7_player_233 : decode cX7_player 233 = .ok (.iconst 2, 1) := by decide +kernel
theorem dX7_player_234 : decode cX7_player 234 = .ok (.if_icmp .ne 8, 3) := by decide +kernel
theorem dX7_player_237 : decode cX7_player 237 = .ok (.iload 5, 2) := by decide +kernel
theorem dX7_player_239 : decode cX7_player 239 = .ok (.goto 5, 3) := by decide +kernel
theorem dX7_player_242 : decode cX7_player 242 = .ok (.iload 8, 2) := by decide +kernel
theorem dX7_player_244 : decode cX7_player 244 = .ok (.ireturn, 1) := by decide +kernel
theorem dX7_fair_0 : decode cX7_fair 0 = .ok (.aload_n 0, 1) := by decide +kernel
theorem dX7_fair_1 : decode cX7_fair 1 = .ok (.iconst 0, 1) := by decide +kernel
theorem dX7_fair_2 : decode cX7_fair 2 = .ok (.putfield 97, 3) := by decide +kernel
theorem dX7_fair_5 : decode cX7_fair 5 = .ok (.aload_n 0, 1) := by decide +kernel
theorem dX7_fair_6 : decode cX7_fair 6 = .ok (.iload_n 1, 1) := by decide +kernel
theorem dX7_fair_7 : decode cX7_fair 7 = .ok (.iconst 0, 1) := by decide +kernel
theorem dX7_fair_8 : decode cX7_fair 8 = .ok (.bipush 64, 2) := by decide +kernel
theorem dX7_fair_10 : decode cX7_fair 10 = .ok (.invokestatic 100, 3) := by decide +kernel
theorem dX7_fair_13 : decode cX7_fair 13 = .ok (.ifCond .ne 7, 3) := by decide +kernel
theorem dX7_fair_16 : decode cX7_fair 16 = .ok (.iconst 1, 1) := by decide +kernel
theorem dX7_fair_17 : decode cX7_fair 17 = .ok (.goto 4, 3) := by decide +kernel
theorem dX7_fair_20 : decode cX7_fair 20 = .ok (.iconst 0, 1) := by decide +kernel
theorem dX7_fair_21 : decode cX7_fair 21 = .ok (.iconst 1, 1) := by decide +kernel
theorem dX7_fair_22 : decode cX7_fair 22 = .ok (.invokevirtual 206, 3) := by decide +kernel
theorem dX7_fair_25 : decode cX7_fair 25 = .ok (.ifCond .eq 5, 3) := by decide +kernel
theorem dX7_fair_28 : decode cX7_fair 28 = .ok (.iconst 0, 1) := by decide +kernel
theorem dX7_fair_29 : decode cX7_fair 29 = .ok (.ireturn, 1) := by decide +kernel
theorem dX7_fair_30 : decode cX7_fair 30 = .ok (.bipush 8, 2) := by decide +kernel
theorem dX7_fair_32 : decode cX7_fair 32 = .ok (.istore_n 2, 1) := by decide +kernel
theorem dX7_fair_33 : decode cX7_fair 33 = .ok (.iload_n 2, 1) := by decide +kernel
theorem dX7_fair_34 : decode cX7_fair 34 = .ok (.ifCond .lt 78, 3) := by decide +kernel
theorem dX7_fair_37 : decode cX7_fair 37 = .ok (.bipush 10, 2) := by decide +kernel
theorem dX7_fair_39 : decode cX7_fair 39 = .ok (.istore_n 3, 1) := by decide +kernel
theorem dX7_fair_40 : decode cX7_fair 40 = .ok (.iload_n 3, 1) := by decide +kernel
theorem dX7_fair_41 : decode cX7_fair 41 = .ok (.bipush 90, 2) := by decide +kernel
theorem dX7_fair_43 : decode cX7_fair 43 = .ok (.if_icmp .gt 63, 3) := by decide +kernel
theorem dX7_fair_46 : decode cX7_fair 46 = .ok (.iconst 0, 1) := by decide +kernel
theorem dX7_fair_47 : decode cX7_fair 47 = .ok (.istore 4, 2) := by decide +kernel
theorem dX7_fair_49 : decode cX7_fair 49 = .ok (.iconst 0, 1) := by decide +kernel
theorem dX7_fair_50 : decode cX7_fair 50 = .ok (.istore 5, 2) := by decide +kernel
theorem dX7_fair_52 : decode cX7_fair 52 = .ok (.iload 5, 2) := by decide +kernel
theorem dX7_fair_54 : decode cX7_fair 54 = .ok (.bipush 64, 2) := by decide +kernel
theorem dX7_fair_56 : decode cX7_fair 56 = .ok (.if_icmp .ge 31, 3) := by decide +kernel
theorem dX7_fair_59 : decode cX7_fair 59 = .ok (.iload 4, 2) := by decide +kernel
theorem dX7_fair_61 : decode cX7_fair 61 = .ok (.aload_n 0, 1) := by decide +kernel
theorem dX7_fair_62 : decode cX7_fair 62 = .ok (.iload 5, 2) := by decide +kernel
theorem dX7_fair_64 : decode cX7_fair 64 = .ok (.iload_n 3, 1) := by decide +kernel
theorem dX7_fair_65 : decode cX7_fair 65 = .ok (.iload_n 2, 1) := by decide +kernel
theorem dX7_fair_66 : decode cX7_fair 66 = .ok (.invokevirtual 307, 3) := by decide +kernel
theorem dX7_fair_69 : decode cX7_fair 69 = .ok (.iconst 5, 1) := by decide +kernel
theorem dX7_fair_70 : decode cX7_fair 70 = .ok (.if_icmp .ne 7, 3) := by decide +kernel
theorem dX7_fair_73 : decode cX7_fair 73 = .ok (.iconst 1, 1) := by decide +kernel
theorem dX7_fair_74 : decode cX7_fair 74 = .ok (.goto 4, 3) := by decide +kernel
theorem dX7_fair_77 : decode cX7_fair 77 = .ok (.iconst 0, 1) := by decide +kernel
theorem dX7_fair_78 : decode cX7_fair 78 = .ok (.iadd, 1) := by decide +kernel
theorem dX7_fair_79 : decode cX7_fair 79 = .ok (.istore 4, 2) := by decide +kernel
theorem dX7_fair_81 : decode cX7_fair 81 = .ok (.iinc 5 1, 3) := by decide +kernel
theorem dX7_fair_84 : decode cX7_fair 84 = .ok (.goto (-32), 3) := by decide +kernel
theorem dX7_fair_87 : decode cX7_fair 87 = .ok (.iload 4, 2) := by decide +kernel
theorem dX7_fair_89 : decode cX7_fair 89 = .ok (.iload_n 1, 1) := by decide +kernel
theorem dX7_fair_90 : decode cX7_fair 90 = .ok (.if_icmp .lt 10, 3) := by decide +kernel
theorem dX7_fair_93 : decode cX7_fair 93 = .ok (.bipush 100, 2) := by decide +kernel
theorem dX7_fair_95 : decode cX7_fair 95 = .ok (.iload_n 3, 1) := by decide +kernel
theorem dX7_fair_96 : decode cX7_fair 96 = .ok (.imul, 1) := by decide +kernel
theorem dX7_fair_97 : decode cX7_fair 97 = .ok (.iload_n 2, 1) := by decide +kernel
theorem dX7_fair_98 : decode cX7_fair 98 = .ok (.iadd, 1) := by decide +kernel
theorem dX7_fair_99 : decode cX7_fair 99 = .ok (.ireturn, 1) := by decide +kernel
theorem dX7_fair_100 : decode cX7_fair 100 = .ok (.iinc 3 10, 3) := by decide +kernel
theorem dX7_fair_103 : decode cX7_fair 103 = .ok (.goto (-63), 3) := by decide +kernel
theorem dX7_fair_106 : decode cX7_fair 106 = .ok (.iinc 2 (-2), 3) := by decide +kernel
theorem dX7_fair_109 : decode cX7_fair 109 = .ok (.goto (-76), 3) := by decide +kernel
theorem dX7_fair_112 : decode cX7_fair 112 = .ok (.iconst (-1), 1) := by decide +kernel
theorem dX7_fair_113 : decode cX7_fair 113 = .ok (.ireturn, 1) := by decide +kernel
set_option maxHeartbeats 4000000 in
set_option maxRecDepth 100000 in
theorem c_X7_player (l : Launch) (D : va_G) (K : Nat → ClassId) (b0 : Nat) (sa : Nat × Nat × Nat) (sz : Nat) (L : List Nat) (f0 : Nat → va_E) (Ψ : Nat → Nat) (hT : TW K (gof gM0) Ψ L f0) (m_ : Nat) (hm_m_ : m_ ∈ L) (ht_m_ : Ψ m_ = 7) (ce : Int32) (be : Int32) (co : Int32) (wh : Int32) (hu_7 : ∀ b c : Nat, b ∈ L → c ∈ L → Ψ b = 7 → Ψ c = 7 → b = c) : Met l yX7_player (.code yX7_player cX7_player 10 (some .int) :: gt) { frames := 4, cells := 0, slots := 0, locals := 94 } (va_Pc [.ref m_, .int ce, .int be, .int co, .int wh] (hPre D K b0 sa sz L f0)) (hQ D K b0 (fun v9 u9 => ∃ (r : Int32) (th : Int32) (f2 : Nat → va_E), v9 = some (.int r) ∧ u9 = (gof [(700, th)], Ψ, L, f2) ∧ TW K (gof [(700, th)]) Ψ L f2 ∧ rawk Ψ L f0 f2 ∧ ((r = 0 ∧ th = 1 ∧ (¬ (0 ≤ ce.toInt ∧ ce.toInt ≤ 63))) ∨ (r = 0 ∧ th = 2 ∧ (0 ≤ ce.toInt) ∧ (ce.toInt ≤ 63) ∧ (¬ ((0 ≤ ce.toInt ∧ ce.toInt ≤ 63) ∧ (1 ≤ be.toInt ∧ be.toInt ≤ 99) ∧ (0 ≤ co.toInt ∧ co.toInt ≤ 99) ∧ (0 ≤ wh.toInt ∧ wh.toInt ≤ 3)))) ∨ (th = 0 ∧ ((0 ≤ ce.toInt ∧ ce.toInt ≤ 63) ∧ (1 ≤ be.toInt ∧ be.toInt ≤ 99) ∧ (0 ≤ co.toInt ∧ co.toInt ≤ 99) ∧ (0 ≤ wh.toInt ∧ wh.toInt ≤ 3)) ∧ (wh.toInt = 0 → (r.toInt ≤ co.toInt ∧ 0 ≤ r.toInt ∧ 2 * r.toInt ≤ be.toInt + 1 ∧ (r.toInt = co.toInt ∨ be.toInt ≤ 2 * r.toInt))) ∧ (wh.toInt = 1 → r.toInt = 0) ∧ (wh.toInt = 2 → 0 ≤ r.toInt ∧ ((r.toInt = be.toInt - 2 * co.toInt) ∨ (r.toInt = 0 ∧ be.toInt ≤ 2 * co.toInt))) ∧ (wh.toInt = 3 → r.toInt = 0))))) 0 0 (fun q => b0 ≤ q) := by
  refine t_of (own := RX7) (by decide) rfl ?_ (Nat.le_of_ble_eq_true rfl)
  intro p e s m below meth c ls C w hsz hr hlk hnm hl
  have hx := C.1
  have hb := C.2.1
  have hl : lv_has ls 10 [(0, .ref m_), (1, .int ce), (2, .int be), (3, .int co), (4, .int wh)] := hl
  have hb_ce := ti_bd ce
  have hb_be := ti_bd be
  have hb_co := ti_bd co
  have hb_wh := ti_bd wh
  have hR : rawk Ψ L f0 f0 := rawk.rf
  refine lv_aload_n hx hb dX7_player_0 rfl (lv_at hl 0 rfl) ?_
  refine lv_iconst (v := 0) hx hb dX7_player_1 (by decide) ?_
  refine t_puti C w hT hm_m_ ht_m_ (by decide) rfl cin_7 tyX7 tyX7_ok nmX7 0 (by decide) rfl rfl rfl rfl rfl (gof_is rfl) gw_1156 dX7_player_2 (fun f H locs w hT hR1 => ?_)
  have hR := hR.tr hR1
  refine lv_aload_n hx hb dX7_player_5 rfl (lv_at hl 0 rfl) ?_
  refine lv_iload_n hx hb dX7_player_6 rfl (lv_at hl 1 rfl) ?_
  refine t_callS (n := 1) C w (c_X7_isCell l D K b0 sa _ L _ Ψ (gof gM0) hT ce) gw_1467 gw_1465 gw_1466 gw_8 ⟨by decide, by decide, by decide +kernel⟩ rfl rfl ⟨by decide, by decide⟩ rfl hl.1 rfl (Nat.le_of_ble_eq_true rfl) dX7_player_7 ⟨by decide, by decide⟩ (fun v u H locs hp w => ?_)
  obtain ⟨r1, rfl, rfl, hrr1⟩ := hp
  rcases hrr1 with ⟨rfl, hf0_r1, hf1_r1⟩ | ⟨rfl, hf0_r1⟩
  ·
    refine lv_if_ne (tgt := 17) hx hb dX7_player_10 (by decide) (fun _ => ?_) (fun c0 => absurd c0 (by decide))
    refine lv_iconst (v := 0) hx hb dX7_player_17 (by decide) ?_
    refine lv_iconst (v := 1) hx hb dX7_player_18 (by decide) ?_
    have n1 : (1 : Int32).toInt = 1 := by decide
    refine t_callV (n := 2) C w hT hm_m_ ht_m_ (by decide) rfl rfl (c_X7_bad0 l D K b0 sa _ L _ Ψ (hT.mono (gof_sub rfl)) m_ hm_m_ ht_m_ 1) gw_1347 gw_1344 gw_1346 gs_22 gw_8 ⟨by decide, by decide, by decide +kernel⟩ rfl rfl ⟨by decide, by decide⟩ rfl hl.1 rfl (Nat.le_of_ble_eq_true rfl) dX7_player_19 ⟨by decide, by decide⟩ (fun v u H locs hp w => ?_)
    obtain ⟨r2, rfl, rfl, hrr2⟩ := hp
    obtain rfl := hrr2
    refine lv_if_ne (tgt := 68) hx hb dX7_player_22 (by decide) (fun c0 => absurd c0 (by decide)) (fun _ => ?_)
    refine lv_aload_n hx hb dX7_player_25 rfl (lv_at hl 0 rfl) ?_
    refine lv_iload_n hx hb dX7_player_26 rfl (lv_at hl 2 rfl) ?_
    refine lv_iconst (v := 1) hx hb dX7_player_27 (by decide) ?_
    refine lv_bipush (v := 99) hx hb dX7_player_28 (by decide) ?_
    have n99 : (99 : Int32).toInt = 99 := by decide
    refine t_callS (n := 3) C w (c_X7_in l D K b0 sa _ L _ Ψ (gof gM0) hT be 1 99) gw_1343 gw_1341 gw_1342 gw_8 ⟨by decide, by decide, by decide +kernel⟩ rfl rfl ⟨by decide, by decide⟩ rfl hl.1 rfl (Nat.le_of_ble_eq_true rfl) dX7_player_30 ⟨by decide, by decide⟩ (fun v u H locs hp w => ?_)
    obtain ⟨r3, rfl, rfl, hrr3⟩ := hp
    rcases hrr3 with ⟨rfl, hf0_r3, hf1_r3⟩ | ⟨rfl, hf0_r3⟩
    ·
      refine lv_if_eq (tgt := 56) hx hb dX7_player_33 (by decide) (fun c0 => absurd c0 (by decide)) (fun _ => ?_)
      refine lv_iload_n hx hb dX7_player_36 rfl (lv_at hl 3 rfl) ?_
      refine lv_iconst (v := 0) hx hb dX7_player_37 (by decide) ?_
      refine lv_bipush (v := 99) hx hb dX7_player_38 (by decide) ?_
      have n0 : (0 : Int32).toInt = 0 := by decide
      refine t_callS (n := 3) C w (c_X7_in l D K b0 sa _ L _ Ψ (gof gM0) hT co 0 99) gw_1343 gw_1341 gw_1342 gw_8 ⟨by decide, by decide, by decide +kernel⟩ rfl rfl ⟨by decide, by decide⟩ rfl hl.1 rfl (Nat.le_of_ble_eq_true rfl) dX7_player_40 ⟨by decide, by decide⟩ (fun v u H locs hp w => ?_)
      obtain ⟨r4, rfl, rfl, hrr4⟩ := hp
      rcases hrr4 with ⟨rfl, hf0_r4, hf1_r4⟩ | ⟨rfl, hf0_r4⟩
      ·
        refine lv_if_eq (tgt := 56) hx hb dX7_player_43 (by decide) (fun c0 => absurd c0 (by decide)) (fun _ => ?_)
        refine lv_iload hx hb dX7_player_46 (lv_at hl 4 rfl) ?_
        refine lv_iconst (v := 0) hx hb dX7_player_48 (by decide) ?_
        refine lv_iconst (v := 3) hx hb dX7_player_49 (by decide) ?_
        have n3 : (3 : Int32).toInt = 3 := by decide
        refine t_callS (n := 3) C w (c_X7_in l D K b0 sa _ L _ Ψ (gof gM0) hT wh 0 3) gw_1343 gw_1341 gw_1342 gw_8 ⟨by decide, by decide, by decide +kernel⟩ rfl rfl ⟨by decide, by decide⟩ rfl hl.1 rfl (Nat.le_of_ble_eq_true rfl) dX7_player_50 ⟨by decide, by decide⟩ (fun v u H locs hp w => ?_)
        obtain ⟨r5, rfl, rfl, hrr5⟩ := hp
        rcases hrr5 with ⟨rfl, hf0_r5, hf1_r5⟩ | ⟨rfl, hf0_r5⟩
        ·
          refine lv_if_ne (tgt := 60) hx hb dX7_player_53 (by decide) (fun _ => ?_) (fun c0 => absurd c0 (by decide))
          refine lv_iconst (v := 0) hx hb dX7_player_60 (by decide) ?_
          refine lv_iconst (v := 2) hx hb dX7_player_61 (by decide) ?_
          have n2 : (2 : Int32).toInt = 2 := by decide
          refine t_callV (n := 2) C w hT hm_m_ ht_m_ (by decide) rfl rfl (c_X7_bad0 l D K b0 sa _ L _ Ψ (hT.mono (gof_sub rfl)) m_ hm_m_ ht_m_ 2) gw_1347 gw_1344 gw_1346 gs_22 gw_8 ⟨by decide, by decide, by decide +kernel⟩ rfl rfl ⟨by decide, by decide⟩ rfl hl.1 rfl (Nat.le_of_ble_eq_true rfl) dX7_player_62 ⟨by decide, by decide⟩ (fun v u H locs hp w => ?_)
          obtain ⟨r6, rfl, rfl, hrr6⟩ := hp
          obtain rfl := hrr6
          refine lv_if_eq (tgt := 70) hx hb dX7_player_65 (by decide) (fun _ => ?_) (fun c0 => absurd c0 (by decide))
          refine lv_iload_n hx hb dX7_player_70 rfl (lv_at hl 2 rfl) ?_
          refine lv_istore (lv' := [(5, .int be), (0, .ref m_), (1, .int ce), (2, .int be), (3, .int co), (4, .int wh)]) hx hb dX7_player_71 hl (by decide) rfl (fun ls hl => ?_)
          refine lv_iload_n hx hb dX7_player_73 rfl (lv_at hl 4 rfl) ?_
          refine lv_istore (lv' := [(6, .int co), (5, .int be), (0, .ref m_), (1, .int ce), (2, .int be), (3, .int co), (4, .int wh)]) hx hb dX7_player_74 hl (by decide) rfl (fun ls hl => ?_)
          refine lv_iconst (v := 0) hx hb dX7_player_76 (by decide) ?_
          refine lv_istore (lv' := [(7, .int 0), (6, .int co), (5, .int be), (0, .ref m_), (1, .int ce), (2, .int be), (3, .int co), (4, .int wh)]) hx hb dX7_player_77 hl (by decide) rfl (fun ls hl => ?_)
          refine lv_iconst (v := 0) hx hb dX7_player_79 (by decide) ?_
          refine lv_istore (lv' := [(8, .int 0), (7, .int 0), (6, .int co), (5, .int be), (0, .ref m_), (1, .int ce), (2, .int be), (3, .int co), (4, .int wh)]) hx hb dX7_player_80 hl (by decide) rfl (fun ls hl => ?_)
          refine lv_aload_n hx hb dX7_player_82 rfl (lv_at hl 4 rfl) ?_
          refine lv_iconst (v := 3) hx hb dX7_player_83 (by decide) ?_
          refine t_callV (n := 1) C w hT hm_m_ ht_m_ (by decide) rfl rfl (c_X7_lays3 l D K b0 sa _ L _ Ψ (hT.mono (gof_sub rfl)) m_ hm_m_ ht_m_) gw_1637 gw_1634 gw_1636 gs_64 gw_8 ⟨by decide, by decide, by decide +kernel⟩ rfl rfl ⟨by decide, by decide⟩ rfl hl.1 rfl (Nat.le_of_ble_eq_true rfl) dX7_player_84 ⟨by decide, by decide⟩ (fun v u H locs hp w => ?_)
          obtain ⟨f2, rfl, rfl, hT2, hR1⟩ := hp
          have hR := hR.tr hR1
          clear hT
          have hT := hT2
          clear hT2
          generalize f2 = f at w hT hR
          have loop7 : ∀ (n : Nat) (z7_5 z7_6 : Int32), (0 ≤ z7_5.toInt ∧ z7_5.toInt ≤ 99 ∧ 0 ≤ z7_6.toInt ∧ z7_6.toInt ≤ co.toInt ∧ 2 * (co.toInt - z7_6.toInt) ≤ be.toInt + 1 ∧ (z7_5.toInt = be.toInt - 2 * (co.toInt - z7_6.toInt) ∨ (z7_5.toInt = 0 ∧ be.toInt = 2 * (co.toInt - z7_6.toInt) - 1))) → z7_6.toInt < (n : Int) → ∀ (f : Nat → va_E) (H : Heap) (locs : List Loc), Wh D K b0 sa s H locs L f → TW K (gof gM1) Ψ L f → rawk Ψ L f0 f → ∀ ls : Array Slot, lv_has ls 10 [(8, .int 0), (7, .int 0), (6, .int z7_6), (5, .int z7_5), (0, .ref m_), (1, .int ce), (2, .int be), (3, .int co), (4, .int wh)] → W p l e { frames := 4, cells := 0, slots := 0, locals := 94 } s m [.ref m_, .int ce, .int be, .int co, .int wh].toArray below meth c H locs 0 0 (MQ below (hQ D K b0 (fun v9 u9 => ∃ (r : Int32) (th : Int32) (f2 : Nat → va_E), v9 = some (.int r) ∧ u9 = (gof [(700, th)], Ψ, L, f2) ∧ TW K (gof [(700, th)]) Ψ L f2 ∧ rawk Ψ L f0 f2 ∧ ((r = 0 ∧ th = 1 ∧ (¬ (0 ≤ ce.toInt ∧ ce.toInt ≤ 63))) ∨ (r = 0 ∧ th = 2 ∧ (0 ≤ ce.toInt) ∧ (ce.toInt ≤ 63) ∧ (¬ ((0 ≤ ce.toInt ∧ ce.toInt ≤ 63) ∧ (1 ≤ be.toInt ∧ be.toInt ≤ 99) ∧ (0 ≤ co.toInt ∧ co.toInt ≤ 99) ∧ (0 ≤ wh.toInt ∧ wh.toInt ≤ 3)))) ∨ (th = 0 ∧ ((0 ≤ ce.toInt ∧ ce.toInt ≤ 63) ∧ (1 ≤ be.toInt ∧ be.toInt ≤ 99) ∧ (0 ≤ co.toInt ∧ co.toInt ≤ 99) ∧ (0 ≤ wh.toInt ∧ wh.toInt ≤ 3)) ∧ (wh.toInt = 0 → (r.toInt ≤ co.toInt ∧ 0 ≤ r.toInt ∧ 2 * r.toInt ≤ be.toInt + 1 ∧ (r.toInt = co.toInt ∨ be.toInt ≤ 2 * r.toInt))) ∧ (wh.toInt = 1 → r.toInt = 0) ∧ (wh.toInt = 2 → 0 ≤ r.toInt ∧ ((r.toInt = be.toInt - 2 * co.toInt) ∨ (r.toInt = 0 ∧ be.toInt ≤ 2 * co.toInt))) ∧ (wh.toInt = 3 → r.toInt = 0))))) [.ref m_, .int ce, .int be, .int co, .int wh].toArray s 0 0 (fun q => b0 ≤ q)) (F0 m 87 ls []) := by
            intro n
            induction n with
            | zero => intro z7_5 z7_6 h1 h2; exact absurd h2 (by omega)
            | succ n ih7 =>
              intro z7_5 z7_6 hv7 hn7 f H locs w hT hR ls hl
              have hbz7_5 := ti_bd z7_5
              have hbz7_6 := ti_bd z7_6
              refine lv_iload hx hb dX7_player_87 (lv_at hl 3 rfl) ?_
              have n0 : (0 : Int32).toInt = 0 := by decide
              refine lv_if_le (tgt := 203) hx hb dX7_player_89 (by decide) (fun c8 => ?_) (fun c8 => ?_)
              · have c8 := le_toInt c8
                refine lv_aload_n hx hb dX7_player_203 rfl (lv_at hl 4 rfl) ?_
                refine lv_iconst (v := 3) hx hb dX7_player_204 (by decide) ?_
                refine t_callV (n := 1) C w hT hm_m_ ht_m_ (by decide) rfl rfl (c_X7_laysBack l D K b0 sa _ L _ Ψ hT m_ hm_m_ ht_m_) gw_1641 gw_1638 gw_1640 gs_65 gw_8 ⟨by decide, by decide, by decide +kernel⟩ rfl rfl ⟨by decide, by decide⟩ rfl hl.1 rfl (Nat.le_of_ble_eq_true rfl) dX7_player_205 ⟨by decide, by decide⟩ (fun v u H locs hp w => ?_)
                obtain ⟨f2, rfl, rfl, hT2, hR1⟩ := hp
                have hR := hR.tr hR1
                clear hT
                have hT := hT2
                clear hT2
                generalize f2 = f at w hT hR
                refine lv_iload hx hb dX7_player_208 (lv_at hl 8 rfl) ?_
                refine lv_if_ne (tgt := 220) hx hb dX7_player_210 (by decide) (fun c9 => ?_) (fun c9 => ?_)
                · have c9 := ne_toInt c9
                  refine lv_iload hx hb dX7_player_220 (lv_at hl 8 rfl) ?_
                  refine lv_iconst (v := 1) hx hb dX7_player_222 (by decide) ?_
                  have n1 : (1 : Int32).toInt = 1 := by decide
                  refine lv_icmp_ne (tgt := 231) hx hb dX7_player_223 (by decide) (fun c10 => ?_) (fun c10 => ?_)
                  · have c10 := ne_toInt c10
                    refine lv_iload hx hb dX7_player_231 (lv_at hl 8 rfl) ?_
                    refine lv_iconst (v := 2) hx hb dX7_player_233 (by decide) ?_
                    have n2 : (2 : Int32).toInt = 2 := by decide
                    refine lv_icmp_ne (tgt := 242) hx hb dX7_player_234 (by decide) (fun c11 => ?_) (fun c11 => ?_)
                    · have c11 := ne_toInt c11
                      refine lv_iload hx hb dX7_player_242 (lv_at hl 0 rfl) ?_
                      exact t_iret C hr hlk w ⟨_, 0, _, rfl, rfl, hT.mono (gof_sub rfl), hR, Or.inr (Or.inr (⟨rfl, (by omega), (by omega), (by omega), (by omega), (by omega)⟩))⟩ (by decide) (by decide) dX7_player_244
                    · have c11 := eq_toInt c11
                      refine lv_iload hx hb dX7_player_237 (lv_at hl 3 rfl) ?_
                      refine lv_goto (tgt := 244) hx hb dX7_player_239 (by decide) ?_
                      exact t_iret C hr hlk w ⟨_, 0, _, rfl, rfl, hT.mono (gof_sub rfl), hR, Or.inr (Or.inr (⟨rfl, (by omega), (by omega), (by omega), (by omega), (by omega)⟩))⟩ (by decide) (by decide) dX7_player_244
                  · have c10 := eq_toInt c10
                    refine lv_iload hx hb dX7_player_226 (lv_at hl 1 rfl) ?_
                    refine lv_goto (tgt := 244) hx hb dX7_player_228 (by decide) ?_
                    exact t_iret C hr hlk w ⟨_, 0, _, rfl, rfl, hT.mono (gof_sub rfl), hR, Or.inr (Or.inr (⟨rfl, (by omega), (by omega), (by omega), (by omega), (by omega)⟩))⟩ (by decide) (by decide) dX7_player_244
                · have c9 := eq_toInt c9
                  refine lv_iload_n hx hb dX7_player_213 rfl (lv_at hl 7 rfl) ?_
                  refine lv_iload hx hb dX7_player_214 (lv_at hl 2 rfl) ?_
                  refine lv_isub hx hb dX7_player_216 ?_
                  refine lv_topi (fun y12 ey12 => ?_)
                  have ty12 : y12.toInt = (co : Int32).toInt - (z7_6 : Int32).toInt := by rw [ey12]; exact ti_sub (by omega) (by omega)
                  refine lv_goto (tgt := 244) hx hb dX7_player_217 (by decide) ?_
                  exact t_iret C hr hlk w ⟨_, 0, _, rfl, rfl, hT.mono (gof_sub rfl), hR, Or.inr (Or.inr (⟨rfl, (by omega), (by omega), (by omega), (by omega), (by omega)⟩))⟩ (by decide) (by decide) dX7_player_244
              · have c8 := nle_toInt c8
                refine lv_iload hx hb dX7_player_92 (lv_at hl 2 rfl) ?_
                refine lv_if_le (tgt := 203) hx hb dX7_player_94 (by decide) (fun c13 => ?_) (fun c13 => ?_)
                · have c13 := le_toInt c13
                  refine lv_aload_n hx hb dX7_player_203 rfl (lv_at hl 4 rfl) ?_
                  refine lv_iconst (v := 3) hx hb dX7_player_204 (by decide) ?_
                  refine t_callV (n := 1) C w hT hm_m_ ht_m_ (by decide) rfl rfl (c_X7_laysBack l D K b0 sa _ L _ Ψ hT m_ hm_m_ ht_m_) gw_1641 gw_1638 gw_1640 gs_65 gw_8 ⟨by decide, by decide, by decide +kernel⟩ rfl rfl ⟨by decide, by decide⟩ rfl hl.1 rfl (Nat.le_of_ble_eq_true rfl) dX7_player_205 ⟨by decide, by decide⟩ (fun v u H locs hp w => ?_)
                  obtain ⟨f2, rfl, rfl, hT2, hR1⟩ := hp
                  have hR := hR.tr hR1
                  clear hT
                  have hT := hT2
                  clear hT2
                  generalize f2 = f at w hT hR
                  refine lv_iload hx hb dX7_player_208 (lv_at hl 8 rfl) ?_
                  refine lv_if_ne (tgt := 220) hx hb dX7_player_210 (by decide) (fun c14 => ?_) (fun c14 => ?_)
                  · have c14 := ne_toInt c14
                    refine lv_iload hx hb dX7_player_220 (lv_at hl 8 rfl) ?_
                    refine lv_iconst (v := 1) hx hb dX7_player_222 (by decide) ?_
                    have n1 : (1 : Int32).toInt = 1 := by decide
                    refine lv_icmp_ne (tgt := 231) hx hb dX7_player_223 (by decide) (fun c15 => ?_) (fun c15 => ?_)
                    · have c15 := ne_toInt c15
                      refine lv_iload hx hb dX7_player_231 (lv_at hl 8 rfl) ?_
                      refine lv_iconst (v := 2) hx hb dX7_player_233 (by decide) ?_
                      have n2 : (2 : Int32).toInt = 2 := by decide
                      refine lv_icmp_ne (tgt := 242) hx hb dX7_player_234 (by decide) (fun c16 => ?_) (fun c16 => ?_)
                      · have c16 := ne_toInt c16
                        refine lv_iload hx hb dX7_player_242 (lv_at hl 0 rfl) ?_
                        exact t_iret C hr hlk w ⟨_, 0, _, rfl, rfl, hT.mono (gof_sub rfl), hR, Or.inr (Or.inr (⟨rfl, (by omega), (by omega), (by omega), (by omega), (by omega)⟩))⟩ (by decide) (by decide) dX7_player_244
                      · have c16 := eq_toInt c16
                        refine lv_iload hx hb dX7_player_237 (lv_at hl 3 rfl) ?_
                        refine lv_goto (tgt := 244) hx hb dX7_player_239 (by decide) ?_
                        exact t_iret C hr hlk w ⟨_, 0, _, rfl, rfl, hT.mono (gof_sub rfl), hR, Or.inr (Or.inr (⟨rfl, (by omega), (by omega), (by omega), (by omega), (by omega)⟩))⟩ (by decide) (by decide) dX7_player_244
                    · have c15 := eq_toInt c15
                      refine lv_iload hx hb dX7_player_226 (lv_at hl 1 rfl) ?_
                      refine lv_goto (tgt := 244) hx hb dX7_player_228 (by decide) ?_
                      exact t_iret C hr hlk w ⟨_, 0, _, rfl, rfl, hT.mono (gof_sub rfl), hR, Or.inr (Or.inr (⟨rfl, (by omega), (by omega), (by omega), (by omega), (by omega)⟩))⟩ (by decide) (by decide) dX7_player_244
                  · have c14 := eq_toInt c14
                    refine lv_iload_n hx hb dX7_player_213 rfl (lv_at hl 7 rfl) ?_
                    refine lv_iload hx hb dX7_player_214 (lv_at hl 2 rfl) ?_
                    refine lv_isub hx hb dX7_player_216 ?_
                    refine lv_topi (fun y17 ey17 => ?_)
                    have ty17 : y17.toInt = (co : Int32).toInt - (z7_6 : Int32).toInt := by rw [ey17]; exact ti_sub (by omega) (by omega)
                    refine lv_goto (tgt := 244) hx hb dX7_player_217 (by decide) ?_
                    exact t_iret C hr hlk w ⟨_, 0, _, rfl, rfl, hT.mono (gof_sub rfl), hR, Or.inr (Or.inr (⟨rfl, (by omega), (by omega), (by omega), (by omega), (by omega)⟩))⟩ (by decide) (by decide) dX7_player_244
                · have c13 := nle_toInt c13
                  refine lv_aload_n hx hb dX7_player_97 rfl (lv_at hl 4 rfl) ?_
                  refine lv_iload_n hx hb dX7_player_98 rfl (lv_at hl 5 rfl) ?_
                  refine lv_iconst (v := 0) hx hb dX7_player_99 (by decide) ?_
                  refine t_callV (n := 2) C w hT hm_m_ ht_m_ (by decide) rfl rfl (c_X7_triesAt l D K b0 sa _ L _ Ψ hT m_ hm_m_ ht_m_ ce (by omega) (by omega) 0 hu_7) gw_1557 gw_1554 gw_1556 gs_57 gw_8 ⟨by decide, by decide, by decide +kernel⟩ rfl rfl ⟨by decide, by decide⟩ rfl hl.1 rfl (Nat.le_of_ble_eq_true rfl) dX7_player_100 ⟨by decide, by decide⟩ (fun v u H locs hp w => ?_)
                  obtain ⟨f2, rfl, rfl, hT2, hR1⟩ := hp
                  have hR := hR.tr hR1
                  clear hT
                  have hT := hT2
                  clear hT2
                  generalize f2 = f at w hT hR
                  obtain ⟨y18, ey18⟩ : ∃ z : Int32, z = z7_6 + Int32.ofInt (-1) := ⟨_, rfl⟩
                  have ty18 := ti_inc ey18 (by decide) (by decide) (by omega) (by omega)
                  refine lv_iinc (v := y18) (lv' := [(6, .int y18), (8, .int 0), (7, .int 0), (5, .int z7_5), (0, .ref m_), (1, .int ce), (2, .int be), (3, .int co), (4, .int wh)]) hx hb dX7_player_103 hl (k := 2) rfl ey18.symm (by decide) rfl (fun ls hl => ?_)
                  refine lv_aload_n hx hb dX7_player_106 rfl (lv_at hl 4 rfl) ?_
                  refine t_geti C w hT hm_m_ ht_m_ (by decide) rfl cin_7 41 (by decide) rfl rfl gw_1197 dX7_player_107 (fun x19 hg => ?_)
                  obtain rfl : x19 = 0 := gof_at rfl hg
                  refine lv_iconst (v := 2) hx hb dX7_player_110 (by decide) ?_
                  refine lv_icmp_eq (tgt := 122) hx hb dX7_player_111 (by decide) (fun c0 => absurd c0 (by decide)) (fun _ => ?_)
                  refine lv_aload_n hx hb dX7_player_114 rfl (lv_at hl 4 rfl) ?_
                  refine t_geti C w hT hm_m_ ht_m_ (by decide) rfl cin_7 41 (by decide) rfl rfl gw_1197 dX7_player_115 (fun x20 hg => ?_)
                  obtain rfl : x20 = 0 := gof_at rfl hg
                  refine lv_iconst (v := 3) hx hb dX7_player_118 (by decide) ?_
                  refine lv_icmp_ne (tgt := 126) hx hb dX7_player_119 (by decide) (fun _ => ?_) (fun c0 => absurd c0 (by decide))
                  refine lv_iconst (v := 0) hx hb dX7_player_126 (by decide) ?_
                  refine lv_istore (lv' := [(9, .int 0), (6, .int y18), (8, .int 0), (7, .int 0), (5, .int z7_5), (0, .ref m_), (1, .int ce), (2, .int be), (3, .int co), (4, .int wh)]) hx hb dX7_player_127 hl (by decide) rfl (fun ls hl => ?_)
                  refine lv_iload hx hb dX7_player_129 (lv_at hl 4 rfl) ?_
                  refine lv_iload hx hb dX7_player_131 (lv_at hl 0 rfl) ?_
                  refine lv_if_eq (tgt := 140) hx hb dX7_player_133 (by decide) (fun _ => ?_) (fun c0 => absurd c0 (by decide))
                  refine lv_aload_n hx hb dX7_player_140 rfl (lv_at hl 5 rfl) ?_
                  refine t_geti C w hT hm_m_ ht_m_ (by decide) rfl cin_7 41 (by decide) rfl rfl gw_1197 dX7_player_141 (fun x21 hg => ?_)
                  obtain rfl : x21 = 0 := gof_at rfl hg
                  refine lv_iconst (v := 5) hx hb dX7_player_144 (by decide) ?_
                  refine lv_icmp_ne (tgt := 152) hx hb dX7_player_145 (by decide) (fun _ => ?_) (fun c0 => absurd c0 (by decide))
                  refine lv_bipush (v := (-2)) hx hb dX7_player_152 (by decide) ?_
                  refine lv_iadd hx hb dX7_player_154 ?_
                  refine lv_topi (fun y22 ey22 => ?_)
                  have nm2 : ((-2) : Int32).toInt = -2 := by decide
                  have ty22 : y22.toInt = (z7_5 : Int32).toInt + ((-2) : Int32).toInt := by rw [ey22]; exact ti_add (by omega) (by omega)
                  refine lv_istore (lv' := [(5, .int y22), (9, .int 0), (6, .int y18), (8, .int 0), (7, .int 0), (0, .ref m_), (1, .int ce), (2, .int be), (3, .int co), (4, .int wh)]) hx hb dX7_player_155 hl (by decide) rfl (fun ls hl => ?_)
                  refine lv_iload hx hb dX7_player_157 (lv_at hl 0 rfl) ?_
                  refine lv_iconst (v := 0) hx hb dX7_player_159 (by decide) ?_
                  refine lv_bipush (v := 99) hx hb dX7_player_160 (by decide) ?_
                  refine t_callS (n := 3) C w (c_X7_withinB l D K b0 sa _ L _ Ψ (gof gM1) hT y22) gw_1460 gw_1458 gw_1459 gw_8 ⟨by decide, by decide, by decide +kernel⟩ rfl rfl ⟨by decide, by decide⟩ rfl hl.1 rfl (Nat.le_of_ble_eq_true rfl) dX7_player_162 ⟨by decide, by decide⟩ (fun v u H locs hp w => ?_)
                  obtain ⟨r23, rfl, rfl, hrr23⟩ := hp
                  have hf0_r23 := hrr23
                  refine lv_istore (lv' := [(5, .int r23), (9, .int 0), (6, .int y18), (8, .int 0), (7, .int 0), (0, .ref m_), (1, .int ce), (2, .int be), (3, .int co), (4, .int wh)]) hx hb dX7_player_165 hl (by decide) rfl (fun ls hl => ?_)
                  refine lv_iload hx hb dX7_player_167 (lv_at hl 4 rfl) ?_
                  refine lv_iload hx hb dX7_player_169 (lv_at hl 1 rfl) ?_
                  refine lv_if_eq (tgt := 178) hx hb dX7_player_171 (by decide) (fun _ => ?_) (fun c0 => absurd c0 (by decide))
                  refine lv_iconst (v := 0) hx hb dX7_player_178 (by decide) ?_
                  refine lv_iadd hx hb dX7_player_179 ?_
                  refine lv_topi (fun y24 ey24 => ?_)
                  obtain rfl : y24 = 0 := ey24.trans (by decide)
                  refine lv_istore (lv' := [(7, .int 0), (5, .int r23), (9, .int 0), (6, .int y18), (8, .int 0), (0, .ref m_), (1, .int ce), (2, .int be), (3, .int co), (4, .int wh)]) hx hb dX7_player_180 hl (by decide) rfl (fun ls hl => ?_)
                  refine lv_iload hx hb dX7_player_182 (lv_at hl 4 rfl) ?_
                  refine lv_aload_n hx hb dX7_player_184 rfl (lv_at hl 5 rfl) ?_
                  refine t_geti C w hT hm_m_ ht_m_ (by decide) rfl cin_7 41 (by decide) rfl rfl gw_1197 dX7_player_185 (fun x25 hg => ?_)
                  obtain rfl : x25 = 0 := gof_at rfl hg
                  refine lv_iconst (v := 5) hx hb dX7_player_188 (by decide) ?_
                  refine lv_icmp_ne (tgt := 196) hx hb dX7_player_189 (by decide) (fun _ => ?_) (fun c0 => absurd c0 (by decide))
                  refine lv_iconst (v := 0) hx hb dX7_player_196 (by decide) ?_
                  refine lv_iadd hx hb dX7_player_197 ?_
                  refine lv_topi (fun y26 ey26 => ?_)
                  obtain rfl : y26 = 0 := ey26.trans (by decide)
                  refine lv_istore (lv' := [(8, .int 0), (7, .int 0), (5, .int r23), (9, .int 0), (6, .int y18), (0, .ref m_), (1, .int ce), (2, .int be), (3, .int co), (4, .int wh)]) hx hb dX7_player_198 hl (by decide) rfl (fun ls hl => ?_)
                  refine lv_goto (tgt := 87) hx hb dX7_player_200 (by decide) ?_
                  exact ih7 r23 y18 (by omega) (by omega) _ _ _ w hT hR ls (lv_sub hl [0, 1, 4, 2, 5, 6, 7, 8, 9] rfl)
          exact loop7 200 be co (by omega) (by omega) _ _ _ w hT hR ls hl
        ·
          refine lv_if_ne (tgt := 60) hx hb dX7_player_53 (by decide) (fun c0 => absurd c0 (by decide)) (fun _ => ?_)
          refine lv_iconst (v := 1) hx hb dX7_player_56 (by decide) ?_
          refine lv_goto (tgt := 61) hx hb dX7_player_57 (by decide) ?_
          refine lv_iconst (v := 2) hx hb dX7_player_61 (by decide) ?_
          refine t_callV (n := 2) C w hT hm_m_ ht_m_ (by decide) rfl rfl (c_X7_bad2 l D K b0 sa _ L _ Ψ hT m_ hm_m_ ht_m_ hu_7) gw_1347 gw_1344 gw_1346 gs_22 gw_8 ⟨by decide, by decide, by decide +kernel⟩ rfl rfl ⟨by decide, by decide⟩ rfl hl.1 rfl (Nat.le_of_ble_eq_true rfl) dX7_player_62 ⟨by decide, by decide⟩ (fun v u H locs hp w => ?_)
          obtain ⟨r27, f2, rfl, rfl, hT2, hR1, hrr27⟩ := hp
          have hR := hR.tr hR1
          clear hT
          have hT := hT2
          clear hT2
          generalize f2 = f at w hT hR
          obtain rfl := hrr27
          refine lv_if_eq (tgt := 70) hx hb dX7_player_65 (by decide) (fun c0 => absurd c0 (by decide)) (fun _ => ?_)
          refine lv_iconst (v := 0) hx hb dX7_player_68 (by decide) ?_
          exact t_iret C hr hlk w ⟨_, 2, _, rfl, rfl, hT.mono (gof_sub rfl), hR, Or.inr (Or.inl ⟨rfl, rfl, (by omega), (by omega), (by omega)⟩)⟩ (by decide) (by decide) dX7_player_69
      ·
        refine lv_if_eq (tgt := 56) hx hb dX7_player_43 (by decide) (fun _ => ?_) (fun c0 => absurd c0 (by decide))
        refine lv_iconst (v := 1) hx hb dX7_player_56 (by decide) ?_
        refine lv_goto (tgt := 61) hx hb dX7_player_57 (by decide) ?_
        refine lv_iconst (v := 2) hx hb dX7_player_61 (by decide) ?_
        refine t_callV (n := 2) C w hT hm_m_ ht_m_ (by decide) rfl rfl (c_X7_bad2 l D K b0 sa _ L _ Ψ hT m_ hm_m_ ht_m_ hu_7) gw_1347 gw_1344 gw_1346 gs_22 gw_8 ⟨by decide, by decide, by decide +kernel⟩ rfl rfl ⟨by decide, by decide⟩ rfl hl.1 rfl (Nat.le_of_ble_eq_true rfl) dX7_player_62 ⟨by decide, by decide⟩ (fun v u H locs hp w => ?_)
        obtain ⟨r28, f2, rfl, rfl, hT2, hR1, hrr28⟩ := hp
        have hR := hR.tr hR1
        clear hT
        have hT := hT2
        clear hT2
        generalize f2 = f at w hT hR
        obtain rfl := hrr28
        refine lv_if_eq (tgt := 70) hx hb dX7_player_65 (by decide) (fun c0 => absurd c0 (by decide)) (fun _ => ?_)
        refine lv_iconst (v := 0) hx hb dX7_player_68 (by decide) ?_
        exact t_iret C hr hlk w ⟨_, 2, _, rfl, rfl, hT.mono (gof_sub rfl), hR, Or.inr (Or.inl ⟨rfl, rfl, (by omega), (by omega), (by omega)⟩)⟩ (by decide) (by decide) dX7_player_69
    ·
      refine lv_if_eq (tgt := 56) hx hb dX7_player_33 (by decide) (fun _ => ?_) (fun c0 => absurd c0 (by decide))
      refine lv_iconst (v := 1) hx hb dX7_player_56 (by decide) ?_
      refine lv_goto (tgt := 61) hx hb dX7_player_57 (by decide) ?_
      refine lv_iconst (v := 2) hx hb dX7_player_61 (by decide) ?_
      refine t_callV (n := 2) C w hT hm_m_ ht_m_ (by decide) rfl rfl (c_X7_bad2 l D K b0 sa _ L _ Ψ hT m_ hm_m_ ht_m_ hu_7) gw_1347 gw_1344 gw_1346 gs_22 gw_8 ⟨by decide, by decide, by decide +kernel⟩ rfl rfl ⟨by decide, by decide⟩ rfl hl.1 rfl (Nat.le_of_ble_eq_true rfl) dX7_player_62 ⟨by decide, by decide⟩ (fun v u H locs hp w => ?_)
      obtain ⟨r29, f2, rfl, rfl, hT2, hR1, hrr29⟩ := hp
      have hR := hR.tr hR1
      clear hT
      have hT := hT2
      clear hT2
      generalize f2 = f at w hT hR
      obtain rfl := hrr29
      refine lv_if_eq (tgt := 70) hx hb dX7_player_65 (by decide) (fun c0 => absurd c0 (by decide)) (fun _ => ?_)
      refine lv_iconst (v := 0) hx hb dX7_player_68 (by decide) ?_
      have n0 : (0 : Int32).toInt = 0 := by decide
      exact t_iret C hr hlk w ⟨_, 2, _, rfl, rfl, hT.mono (gof_sub rfl), hR, Or.inr (Or.inl ⟨rfl, rfl, (by omega), (by omega), (by omega)⟩)⟩ (by decide) (by decide) dX7_player_69
  ·
    refine lv_if_ne (tgt := 17) hx hb dX7_player_10 (by decide) (fun c0 => absurd c0 (by decide)) (fun _ => ?_)
    refine lv_iconst (v := 1) hx hb dX7_player_13 (by decide) ?_
    refine lv_goto (tgt := 18) hx hb dX7_player_14 (by decide) ?_
    refine lv_iconst (v := 1) hx hb dX7_player_18 (by decide) ?_
    refine t_callV (n := 2) C w hT hm_m_ ht_m_ (by decide) rfl rfl (c_X7_bad1 l D K b0 sa _ L _ Ψ hT m_ hm_m_ ht_m_ hu_7) gw_1347 gw_1344 gw_1346 gs_22 gw_8 ⟨by decide, by decide, by decide +kernel⟩ rfl rfl ⟨by decide, by decide⟩ rfl hl.1 rfl (Nat.le_of_ble_eq_true rfl) dX7_player_19 ⟨by decide, by decide⟩ (fun v u H locs hp w => ?_)
    obtain ⟨r30, f2, rfl, rfl, hT2, hR1, hrr30⟩ := hp
    have hR := hR.tr hR1
    clear hT
    have hT := hT2
    clear hT2
    generalize f2 = f at w hT hR
    obtain rfl := hrr30
    refine lv_if_ne (tgt := 68) hx hb dX7_player_22 (by decide) (fun _ => ?_) (fun c0 => absurd c0 (by decide))
    refine lv_iconst (v := 0) hx hb dX7_player_68 (by decide) ?_
    have n0 : (0 : Int32).toInt = 0 := by decide
    exact t_iret C hr hlk w ⟨_, 1, _, rfl, rfl, hT.mono (gof_sub rfl), hR, Or.inl ⟨rfl, rfl, (by omega)⟩⟩ (by decide) (by decide) dX7_player_69
set_option maxHeartbeats 4000000 in
set_option maxRecDepth 100000 in
theorem c_X7_fair (l : Launch) (D : va_G) (K : Nat → ClassId) (b0 : Nat) (sa : Nat × Nat × Nat) (sz : Nat) (L : List Nat) (f0 : Nat → va_E) (Ψ : Nat → Nat) (hT : TW K (gof gM0) Ψ L f0) (m_ : Nat) (hm_m_ : m_ ∈ L) (ht_m_ : Ψ m_ = 7) (ma : Int32) (hu_7 : ∀ b c : Nat, b ∈ L → c ∈ L → Ψ b = 7 → Ψ c = 7 → b = c) : Met l yX7_fair (.code yX7_fair cX7_fair 6 (some .int) :: gt) { frames := 3, cells := 0, slots := 0, locals := 69 } (va_Pc [.ref m_, .int ma] (hPre D K b0 sa sz L f0)) (hQ D K b0 (fun v9 u9 => ∃ (r : Int32) (th : Int32) (f2 : Nat → va_E), v9 = some (.int r) ∧ u9 = (gof [(700, th)], Ψ, L, f2) ∧ TW K (gof [(700, th)]) Ψ L f2 ∧ rawk Ψ L f0 f2 ∧ ((r = 0 ∧ th = 1 ∧ (¬ (0 ≤ ma.toInt ∧ ma.toInt ≤ 64))) ∨ (r = 1008 ∧ th = 0 ∧ (ma.toInt = 0)) ∨ (r = (-1) ∧ th = 0 ∧ (1 ≤ ma.toInt ∧ ma.toInt ≤ 64))))) 0 0 (fun q => b0 ≤ q) := by
  refine t_of (own := RX7) (by decide) rfl ?_ (Nat.le_of_ble_eq_true rfl)
  intro p e s m below meth c ls C w hsz hr hlk hnm hl
  have hx := C.1
  have hb := C.2.1
  have hl : lv_has ls 6 [(0, .ref m_), (1, .int ma)] := hl
  have hb_ma := ti_bd ma
  have hR : rawk Ψ L f0 f0 := rawk.rf
  refine lv_aload_n hx hb dX7_fair_0 rfl (lv_at hl 0 rfl) ?_
  refine lv_iconst (v := 0) hx hb dX7_fair_1 (by decide) ?_
  refine t_puti C w hT hm_m_ ht_m_ (by decide) rfl cin_7 tyX7 tyX7_ok nmX7 0 (by decide) rfl rfl rfl rfl rfl (gof_is rfl) gw_1156 dX7_fair_2 (fun f H locs w hT hR1 => ?_)
  have hR := hR.tr hR1
  refine lv_aload_n hx hb dX7_fair_5 rfl (lv_at hl 0 rfl) ?_
  refine lv_iload_n hx hb dX7_fair_6 rfl (lv_at hl 1 rfl) ?_
  refine lv_iconst (v := 0) hx hb dX7_fair_7 (by decide) ?_
  refine lv_bipush (v := 64) hx hb dX7_fair_8 (by decide) ?_
  have n0 : (0 : Int32).toInt = 0 := by decide
  have n64 : (64 : Int32).toInt = 64 := by decide
  refine t_callS (n := 3) C w (c_X7_in l D K b0 sa _ L _ Ψ (gof gM0) hT ma 0 64) gw_1343 gw_1341 gw_1342 gw_8 ⟨by decide, by decide, by decide +kernel⟩ rfl rfl ⟨by decide, by decide⟩ rfl hl.1 rfl (Nat.le_of_ble_eq_true rfl) dX7_fair_10 ⟨by decide, by decide⟩ (fun v u H locs hp w => ?_)
  obtain ⟨r1, rfl, rfl, hrr1⟩ := hp
  rcases hrr1 with ⟨rfl, hf0_r1, hf1_r1⟩ | ⟨rfl, hf0_r1⟩
  ·
    refine lv_if_ne (tgt := 20) hx hb dX7_fair_13 (by decide) (fun _ => ?_) (fun c0 => absurd c0 (by decide))
    refine lv_iconst (v := 0) hx hb dX7_fair_20 (by decide) ?_
    refine lv_iconst (v := 1) hx hb dX7_fair_21 (by decide) ?_
    have n1 : (1 : Int32).toInt = 1 := by decide
    refine t_callV (n := 2) C w hT hm_m_ ht_m_ (by decide) rfl rfl (c_X7_bad0 l D K b0 sa _ L _ Ψ (hT.mono (gof_sub rfl)) m_ hm_m_ ht_m_ 1) gw_1347 gw_1344 gw_1346 gs_22 gw_8 ⟨by decide, by decide, by decide +kernel⟩ rfl rfl ⟨by decide, by decide⟩ rfl hl.1 rfl (Nat.le_of_ble_eq_true rfl) dX7_fair_22 ⟨by decide, by decide⟩ (fun v u H locs hp w => ?_)
    obtain ⟨r2, rfl, rfl, hrr2⟩ := hp
    obtain rfl := hrr2
    refine lv_if_eq (tgt := 30) hx hb dX7_fair_25 (by decide) (fun _ => ?_) (fun c0 => absurd c0 (by decide))
    have hT := hT.mono (gof_sub (l2 := gM1) rfl)
    rcases (show ma.toInt = 0 ∨ 1 ≤ ma.toInt by omega) with hz | hz
    ·
      refine lv_bipush (v := 8) hx hb dX7_fair_30 (by decide) ?_
      refine lv_istore_n (lv' := [(2, .int 8), (0, .ref m_), (1, .int ma)]) hx hb dX7_fair_32 rfl hl (by decide) rfl (fun ls hl => ?_)
      refine lv_iload_n hx hb dX7_fair_33 rfl (lv_at hl 0 rfl) ?_
      refine lv_if_lt (tgt := 112) hx hb dX7_fair_34 (by decide) (fun c0 => absurd c0 (by decide)) (fun _ => ?_)
      refine lv_bipush (v := 10) hx hb dX7_fair_37 (by decide) ?_
      refine lv_istore_n (lv' := [(3, .int 10), (2, .int 8), (0, .ref m_), (1, .int ma)]) hx hb dX7_fair_39 rfl hl (by decide) rfl (fun ls hl => ?_)
      refine lv_iload_n hx hb dX7_fair_40 rfl (lv_at hl 0 rfl) ?_
      refine lv_bipush (v := 90) hx hb dX7_fair_41 (by decide) ?_
      refine lv_icmp_gt (tgt := 106) hx hb dX7_fair_43 (by decide) (fun c0 => absurd c0 (by decide)) (fun _ => ?_)
      refine lv_iconst (v := 0) hx hb dX7_fair_46 (by decide) ?_
      refine lv_istore (lv' := [(4, .int 0), (3, .int 10), (2, .int 8), (0, .ref m_), (1, .int ma)]) hx hb dX7_fair_47 hl (by decide) rfl (fun ls hl => ?_)
      refine lv_iconst (v := 0) hx hb dX7_fair_49 (by decide) ?_
      refine lv_istore (lv' := [(5, .int 0), (4, .int 0), (3, .int 10), (2, .int 8), (0, .ref m_), (1, .int ma)]) hx hb dX7_fair_50 hl (by decide) rfl (fun ls hl => ?_)
      have loop3 : ∀ (n i3 : Nat), i3 ≤ 64 → 64 - i3 < n → ∀ (f : Nat → va_E) (H : Heap) (locs : List Loc), Wh D K b0 sa s H locs L f → TW K (gof gM1) Ψ L f → rawk Ψ L f0 f → ∀ ls : Array Slot, lv_has ls 6 [(5, .int (nI i3)), (4, .int 0), (3, .int 10), (2, .int 8), (0, .ref m_), (1, .int ma)] → W p l e { frames := 3, cells := 0, slots := 0, locals := 69 } s m [.ref m_, .int ma].toArray below meth c H locs 0 0 (MQ below (hQ D K b0 (fun v9 u9 => ∃ (r : Int32) (th : Int32) (f2 : Nat → va_E), v9 = some (.int r) ∧ u9 = (gof [(700, th)], Ψ, L, f2) ∧ TW K (gof [(700, th)]) Ψ L f2 ∧ rawk Ψ L f0 f2 ∧ ((r = 0 ∧ th = 1 ∧ (¬ (0 ≤ ma.toInt ∧ ma.toInt ≤ 64))) ∨ (r = 1008 ∧ th = 0 ∧ (ma.toInt = 0)) ∨ (r = (-1) ∧ th = 0 ∧ (1 ≤ ma.toInt ∧ ma.toInt ≤ 64))))) [.ref m_, .int ma].toArray s 0 0 (fun q => b0 ≤ q)) (F0 m 52 ls []) := by
        intro n
        induction n with
        | zero => intro i3 h1 h2; exact absurd h2 (Nat.not_lt_zero _)
        | succ n ih3 =>
          intro i3 hi3 hn3 f H locs w hT hR ls hl
          have ti3 : (nI i3).toInt = (i3 : Int) := nI_toInt (by omega)
          refine lv_iload hx hb dX7_fair_52 (lv_at hl 0 rfl) ?_
          refine lv_bipush (v := 64) hx hb dX7_fair_54 (by decide) ?_
          have n64 : (64 : Int32).toInt = 64 := by decide
          refine lv_icmp_ge (tgt := 87) hx hb dX7_fair_56 (by decide) (fun c4 => ?_) (fun c4 => ?_)
          · have c4 := le_toInt c4
            refine lv_iload hx hb dX7_fair_87 (lv_at hl 1 rfl) ?_
            refine lv_iload_n hx hb dX7_fair_89 rfl (lv_at hl 5 rfl) ?_
            have n0 : (0 : Int32).toInt = 0 := by decide
            refine lv_icmp_lt (tgt := 100) hx hb dX7_fair_90 (by decide) (fun c5 => ?_) (fun c5 => ?_)
            · exact absurd (lt_toInt c5) (by omega)
            · have c5 := nlt_toInt c5
              refine lv_bipush (v := 100) hx hb dX7_fair_93 (by decide) ?_
              refine lv_iload_n hx hb dX7_fair_95 rfl (lv_at hl 2 rfl) ?_
              refine lv_imul hx hb dX7_fair_96 ?_
              refine lv_topi (fun y6 ey6 => ?_)
              obtain rfl : y6 = 1000 := ey6.trans (by decide)
              refine lv_iload_n hx hb dX7_fair_97 rfl (lv_at hl 3 rfl) ?_
              refine lv_iadd hx hb dX7_fair_98 ?_
              refine lv_topi (fun y7 ey7 => ?_)
              obtain rfl : y7 = 1008 := ey7.trans (by decide)
              have n1008 : (1008 : Int32).toInt = 1008 := by decide
              exact t_iret C hr hlk w ⟨_, 0, _, rfl, rfl, hT.mono (gof_sub rfl), hR, Or.inr (Or.inl ⟨rfl, rfl, (by first | omega | decide)⟩)⟩ (by decide) (by decide) dX7_fair_99
          · have c4 := nle_toInt c4
            refine lv_iload hx hb dX7_fair_59 (lv_at hl 1 rfl) ?_
            refine lv_aload_n hx hb dX7_fair_61 rfl (lv_at hl 4 rfl) ?_
            refine lv_iload hx hb dX7_fair_62 (lv_at hl 0 rfl) ?_
            refine lv_iload_n hx hb dX7_fair_64 rfl (lv_at hl 2 rfl) ?_
            refine lv_iload_n hx hb dX7_fair_65 rfl (lv_at hl 3 rfl) ?_
            have n10 : (10 : Int32).toInt = 10 := by decide
            have n8 : (8 : Int32).toInt = 8 := by decide
            refine t_callV (n := 3) C w hT hm_m_ ht_m_ (by decide) rfl rfl (c_X7_wouldBe l D K b0 sa _ L _ Ψ hT m_ hm_m_ ht_m_ (nI i3) (by omega) (by omega) 10 8) gw_1527 gw_1524 gw_1526 gs_52 gw_8 ⟨by decide, by decide, by decide +kernel⟩ rfl rfl ⟨by decide, by decide⟩ rfl hl.1 rfl (Nat.le_of_ble_eq_true rfl) dX7_fair_66 ⟨by decide, by decide⟩ (fun v u H locs hp w => ?_)
            obtain ⟨r8, f2, rfl, rfl, hT2, hR1, hrr8⟩ := hp
            have hR := hR.tr hR1
            clear hT
            have hT := hT2
            clear hT2
            generalize f2 = f at w hT hR
            obtain rfl := hrr8
            refine lv_iconst (v := 5) hx hb dX7_fair_69 (by decide) ?_
            refine lv_icmp_ne (tgt := 77) hx hb dX7_fair_70 (by decide) (fun _ => ?_) (fun c0 => absurd c0 (by decide))
            refine lv_iconst (v := 0) hx hb dX7_fair_77 (by decide) ?_
            refine lv_iadd hx hb dX7_fair_78 ?_
            refine lv_topi (fun y9 ey9 => ?_)
            obtain rfl : y9 = 0 := ey9.trans (by decide)
            refine lv_istore (lv' := [(4, .int 0), (5, .int (nI i3)), (3, .int 10), (2, .int 8), (0, .ref m_), (1, .int ma)]) hx hb dX7_fair_79 hl (by decide) rfl (fun ls hl => ?_)
            refine lv_iinc (v := (nI (i3 + 1))) (lv' := [(5, .int (nI (i3 + 1))), (4, .int 0), (3, .int 10), (2, .int 8), (0, .ref m_), (1, .int ma)]) hx hb dX7_fair_81 hl (k := 1) rfl (by exact nI_1 i3) (by decide) rfl (fun ls hl => ?_)
            refine lv_goto (tgt := 52) hx hb dX7_fair_84 (by decide) ?_
            exact ih3 (i3 + 1) (by omega) (by omega) _ _ _ w hT hR ls (lv_sub hl [0, 1, 2, 3, 4, 5] rfl)
      exact loop3 65 0 (by decide) (by decide) _ _ _ w hT hR ls hl
    ·
      refine lv_bipush (v := 8) hx hb dX7_fair_30 (by decide) ?_
      refine lv_istore_n (lv' := [(2, .int 8), (0, .ref m_), (1, .int ma)]) hx hb dX7_fair_32 rfl hl (by decide) rfl (fun ls hl => ?_)
      have loop10 : ∀ (n : Nat) (z10_2 : Int32), (-2 ≤ z10_2.toInt ∧ z10_2.toInt ≤ 8) → z10_2.toInt + 2 < (n : Int) → ∀ (f : Nat → va_E) (H : Heap) (locs : List Loc), Wh D K b0 sa s H locs L f → TW K (gof gM1) Ψ L f → rawk Ψ L f0 f → ∀ ls : Array Slot, lv_has ls 6 [(2, .int z10_2), (0, .ref m_), (1, .int ma)] → W p l e { frames := 3, cells := 0, slots := 0, locals := 69 } s m [.ref m_, .int ma].toArray below meth c H locs 0 0 (MQ below (hQ D K b0 (fun v9 u9 => ∃ (r : Int32) (th : Int32) (f2 : Nat → va_E), v9 = some (.int r) ∧ u9 = (gof [(700, th)], Ψ, L, f2) ∧ TW K (gof [(700, th)]) Ψ L f2 ∧ rawk Ψ L f0 f2 ∧ ((r = 0 ∧ th = 1 ∧ (¬ (0 ≤ ma.toInt ∧ ma.toInt ≤ 64))) ∨ (r = 1008 ∧ th = 0 ∧ (ma.toInt = 0)) ∨ (r = (-1) ∧ th = 0 ∧ (1 ≤ ma.toInt ∧ ma.toInt ≤ 64))))) [.ref m_, .int ma].toArray s 0 0 (fun q => b0 ≤ q)) (F0 m 33 ls []) := by
        intro n
        induction n with
        | zero => intro z10_2 h1 h2; exact absurd h2 (by omega)
        | succ n ih10 =>
          intro z10_2 hv10 hn10 f H locs w hT hR ls hl
          have hbz10_2 := ti_bd z10_2
          refine lv_iload_n hx hb dX7_fair_33 rfl (lv_at hl 0 rfl) ?_
          have n0 : (0 : Int32).toInt = 0 := by decide
          refine lv_if_lt (tgt := 112) hx hb dX7_fair_34 (by decide) (fun c11 => ?_) (fun c11 => ?_)
          · have c11 := lt_toInt c11
            refine lv_iconst (v := (-1)) hx hb dX7_fair_112 (by decide) ?_
            have nm1 : ((-1) : Int32).toInt = -1 := by decide
            exact t_iret C hr hlk w ⟨_, 0, _, rfl, rfl, hT.mono (gof_sub rfl), hR, Or.inr (Or.inr (⟨rfl, rfl, (by omega)⟩))⟩ (by decide) (by decide) dX7_fair_113
          · have c11 := nlt_toInt c11
            refine lv_bipush (v := 10) hx hb dX7_fair_37 (by decide) ?_
            refine lv_istore_n (lv' := [(3, .int 10), (2, .int z10_2), (0, .ref m_), (1, .int ma)]) hx hb dX7_fair_39 rfl hl (by decide) rfl (fun ls hl => ?_)
            have loop12 : ∀ (n : Nat) (z12_3 : Int32), (10 ≤ z12_3.toInt ∧ z12_3.toInt ≤ 100) → 100 - z12_3.toInt < (n : Int) → ∀ (f : Nat → va_E) (H : Heap) (locs : List Loc), Wh D K b0 sa s H locs L f → TW K (gof gM1) Ψ L f → rawk Ψ L f0 f → ∀ ls : Array Slot, lv_has ls 6 [(3, .int z12_3), (2, .int z10_2), (0, .ref m_), (1, .int ma)] → W p l e { frames := 3, cells := 0, slots := 0, locals := 69 } s m [.ref m_, .int ma].toArray below meth c H locs 0 0 (MQ below (hQ D K b0 (fun v9 u9 => ∃ (r : Int32) (th : Int32) (f2 : Nat → va_E), v9 = some (.int r) ∧ u9 = (gof [(700, th)], Ψ, L, f2) ∧ TW K (gof [(700, th)]) Ψ L f2 ∧ rawk Ψ L f0 f2 ∧ ((r = 0 ∧ th = 1 ∧ (¬ (0 ≤ ma.toInt ∧ ma.toInt ≤ 64))) ∨ (r = 1008 ∧ th = 0 ∧ (ma.toInt = 0)) ∨ (r = (-1) ∧ th = 0 ∧ (1 ≤ ma.toInt ∧ ma.toInt ≤ 64))))) [.ref m_, .int ma].toArray s 0 0 (fun q => b0 ≤ q)) (F0 m 40 ls []) := by
              intro n
              induction n with
              | zero => intro z12_3 h1 h2; exact absurd h2 (by omega)
              | succ n ih12 =>
                intro z12_3 hv12 hn12 f H locs w hT hR ls hl
                have hbz12_3 := ti_bd z12_3
                refine lv_iload_n hx hb dX7_fair_40 rfl (lv_at hl 0 rfl) ?_
                refine lv_bipush (v := 90) hx hb dX7_fair_41 (by decide) ?_
                have n90 : (90 : Int32).toInt = 90 := by decide
                refine lv_icmp_gt (tgt := 106) hx hb dX7_fair_43 (by decide) (fun c13 => ?_) (fun c13 => ?_)
                · have c13 := lt_toInt c13
                  obtain ⟨y14, ey14⟩ : ∃ z : Int32, z = z10_2 + Int32.ofInt (-2) := ⟨_, rfl⟩
                  have ty14 := ti_inc ey14 (by decide) (by decide) (by omega) (by omega)
                  refine lv_iinc (v := y14) (lv' := [(2, .int y14), (3, .int z12_3), (0, .ref m_), (1, .int ma)]) hx hb dX7_fair_106 hl (k := 1) rfl ey14.symm (by decide) rfl (fun ls hl => ?_)
                  refine lv_goto (tgt := 33) hx hb dX7_fair_109 (by decide) ?_
                  exact ih10 y14 (by omega) (by omega) _ _ _ w hT hR ls (lv_sub hl [0, 2, 3] rfl)
                · have c13 := nlt_toInt c13
                  refine lv_iconst (v := 0) hx hb dX7_fair_46 (by decide) ?_
                  refine lv_istore (lv' := [(4, .int 0), (3, .int z12_3), (2, .int z10_2), (0, .ref m_), (1, .int ma)]) hx hb dX7_fair_47 hl (by decide) rfl (fun ls hl => ?_)
                  refine lv_iconst (v := 0) hx hb dX7_fair_49 (by decide) ?_
                  refine lv_istore (lv' := [(5, .int 0), (4, .int 0), (3, .int z12_3), (2, .int z10_2), (0, .ref m_), (1, .int ma)]) hx hb dX7_fair_50 hl (by decide) rfl (fun ls hl => ?_)
                  have loop15 : ∀ (n i15 : Nat), i15 ≤ 64 → 64 - i15 < n → ∀ (f : Nat → va_E) (H : Heap) (locs : List Loc), Wh D K b0 sa s H locs L f → TW K (gof gM1) Ψ L f → rawk Ψ L f0 f → ∀ ls : Array Slot, lv_has ls 6 [(5, .int (nI i15)), (4, .int 0), (3, .int z12_3), (2, .int z10_2), (0, .ref m_), (1, .int ma)] → W p l e { frames := 3, cells := 0, slots := 0, locals := 69 } s m [.ref m_, .int ma].toArray below meth c H locs 0 0 (MQ below (hQ D K b0 (fun v9 u9 => ∃ (r : Int32) (th : Int32) (f2 : Nat → va_E), v9 = some (.int r) ∧ u9 = (gof [(700, th)], Ψ, L, f2) ∧ TW K (gof [(700, th)]) Ψ L f2 ∧ rawk Ψ L f0 f2 ∧ ((r = 0 ∧ th = 1 ∧ (¬ (0 ≤ ma.toInt ∧ ma.toInt ≤ 64))) ∨ (r = 1008 ∧ th = 0 ∧ (ma.toInt = 0)) ∨ (r = (-1) ∧ th = 0 ∧ (1 ≤ ma.toInt ∧ ma.toInt ≤ 64))))) [.ref m_, .int ma].toArray s 0 0 (fun q => b0 ≤ q)) (F0 m 52 ls []) := by
                    intro n
                    induction n with
                    | zero => intro i15 h1 h2; exact absurd h2 (Nat.not_lt_zero _)
                    | succ n ih15 =>
                      intro i15 hi15 hn15 f H locs w hT hR ls hl
                      have ti15 : (nI i15).toInt = (i15 : Int) := nI_toInt (by omega)
                      refine lv_iload hx hb dX7_fair_52 (lv_at hl 0 rfl) ?_
                      refine lv_bipush (v := 64) hx hb dX7_fair_54 (by decide) ?_
                      have n64 : (64 : Int32).toInt = 64 := by decide
                      refine lv_icmp_ge (tgt := 87) hx hb dX7_fair_56 (by decide) (fun c16 => ?_) (fun c16 => ?_)
                      · have c16 := le_toInt c16
                        refine lv_iload hx hb dX7_fair_87 (lv_at hl 1 rfl) ?_
                        refine lv_iload_n hx hb dX7_fair_89 rfl (lv_at hl 5 rfl) ?_
                        have n0 : (0 : Int32).toInt = 0 := by decide
                        refine lv_icmp_lt (tgt := 100) hx hb dX7_fair_90 (by decide) (fun c17 => ?_) (fun c17 => ?_)
                        · have c17 := lt_toInt c17
                          obtain ⟨y18, ey18⟩ : ∃ z : Int32, z = z12_3 + Int32.ofInt 10 := ⟨_, rfl⟩
                          have ty18 := ti_inc ey18 (by decide) (by decide) (by omega) (by omega)
                          refine lv_iinc (v := y18) (lv' := [(3, .int y18), (5, .int (nI i15)), (4, .int 0), (2, .int z10_2), (0, .ref m_), (1, .int ma)]) hx hb dX7_fair_100 hl (k := 2) rfl ey18.symm (by decide) rfl (fun ls hl => ?_)
                          refine lv_goto (tgt := 40) hx hb dX7_fair_103 (by decide) ?_
                          exact ih12 y18 (by omega) (by omega) _ _ _ w hT hR ls (lv_sub hl [0, 3, 4, 5] rfl)
                        · exact absurd (nlt_toInt c17) (by omega)
                      · have c16 := nle_toInt c16
                        refine lv_iload hx hb dX7_fair_59 (lv_at hl 1 rfl) ?_
                        refine lv_aload_n hx hb dX7_fair_61 rfl (lv_at hl 4 rfl) ?_
                        refine lv_iload hx hb dX7_fair_62 (lv_at hl 0 rfl) ?_
                        refine lv_iload_n hx hb dX7_fair_64 rfl (lv_at hl 2 rfl) ?_
                        refine lv_iload_n hx hb dX7_fair_65 rfl (lv_at hl 3 rfl) ?_
                        refine t_callV (n := 3) C w hT hm_m_ ht_m_ (by decide) rfl rfl (c_X7_wouldBe l D K b0 sa _ L _ Ψ hT m_ hm_m_ ht_m_ (nI i15) (by omega) (by omega) z12_3 z10_2) gw_1527 gw_1524 gw_1526 gs_52 gw_8 ⟨by decide, by decide, by decide +kernel⟩ rfl rfl ⟨by decide, by decide⟩ rfl hl.1 rfl (Nat.le_of_ble_eq_true rfl) dX7_fair_66 ⟨by decide, by decide⟩ (fun v u H locs hp w => ?_)
                        obtain ⟨r19, f2, rfl, rfl, hT2, hR1, hrr19⟩ := hp
                        have hR := hR.tr hR1
                        clear hT
                        have hT := hT2
                        clear hT2
                        generalize f2 = f at w hT hR
                        obtain rfl := hrr19
                        refine lv_iconst (v := 5) hx hb dX7_fair_69 (by decide) ?_
                        refine lv_icmp_ne (tgt := 77) hx hb dX7_fair_70 (by decide) (fun _ => ?_) (fun c0 => absurd c0 (by decide))
                        refine lv_iconst (v := 0) hx hb dX7_fair_77 (by decide) ?_
                        refine lv_iadd hx hb dX7_fair_78 ?_
                        refine lv_topi (fun y20 ey20 => ?_)
                        obtain rfl : y20 = 0 := ey20.trans (by decide)
                        refine lv_istore (lv' := [(4, .int 0), (5, .int (nI i15)), (3, .int z12_3), (2, .int z10_2), (0, .ref m_), (1, .int ma)]) hx hb dX7_fair_79 hl (by decide) rfl (fun ls hl => ?_)
                        refine lv_iinc (v := (nI (i15 + 1))) (lv' := [(5, .int (nI (i15 + 1))), (4, .int 0), (3, .int z12_3), (2, .int z10_2), (0, .ref m_), (1, .int ma)]) hx hb dX7_fair_81 hl (k := 1) rfl (by exact nI_1 i15) (by decide) rfl (fun ls hl => ?_)
                        refine lv_goto (tgt := 52) hx hb dX7_fair_84 (by decide) ?_
                        exact ih15 (i15 + 1) (by omega) (by omega) _ _ _ w hT hR ls (lv_sub hl [0, 1, 2, 3, 4, 5] rfl)
                  exact loop15 65 0 (by decide) (by decide) _ _ _ w hT hR ls hl
            have n10 : (10 : Int32).toInt = 10 := by decide
            exact loop12 200 10 (by omega) (by omega) _ _ _ w hT hR ls hl
      have n8 : (8 : Int32).toInt = 8 := by decide
      exact loop10 20 8 (by omega) (by omega) _ _ _ w hT hR ls hl
  ·
    refine lv_if_ne (tgt := 20) hx hb dX7_fair_13 (by decide) (fun c0 => absurd c0 (by decide)) (fun _ => ?_)
    refine lv_iconst (v := 1) hx hb dX7_fair_16 (by decide) ?_
    refine lv_goto (tgt := 21) hx hb dX7_fair_17 (by decide) ?_
    refine lv_iconst (v := 1) hx hb dX7_fair_21 (by decide) ?_
    refine t_callV (n := 2) C w hT hm_m_ ht_m_ (by decide) rfl rfl (c_X7_bad1 l D K b0 sa _ L _ Ψ hT m_ hm_m_ ht_m_ hu_7) gw_1347 gw_1344 gw_1346 gs_22 gw_8 ⟨by decide, by decide, by decide +kernel⟩ rfl rfl ⟨by decide, by decide⟩ rfl hl.1 rfl (Nat.le_of_ble_eq_true rfl) dX7_fair_22 ⟨by decide, by decide⟩ (fun v u H locs hp w => ?_)
    obtain ⟨r21, f2, rfl, rfl, hT2, hR1, hrr21⟩ := hp
    have hR := hR.tr hR1
    clear hT
    have hT := hT2
    clear hT2
    generalize f2 = f at w hT hR
    obtain rfl := hrr21
    refine lv_if_eq (tgt := 30) hx hb dX7_fair_25 (by decide) (fun c0 => absurd c0 (by decide)) (fun _ => ?_)
    refine lv_iconst (v := 0) hx hb dX7_fair_28 (by decide) ?_
    exact t_iret C hr hlk w ⟨_, 1, _, rfl, rfl, hT.mono (gof_sub rfl), hR, Or.inl ⟨rfl, rfl, (by omega)⟩⟩ (by decide) (by decide) dX7_fair_29
