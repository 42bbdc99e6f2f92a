theorem dX7_clause_0 : decode cX7_clause 0 = .ok (.aload_n 0, 1) := by decide +kernel
theorem dX7_clause_1 : decode cX7_clause 1 = .ok (.bipush 7, 2) := by decide +kernel
theorem dX7_clause_3 : decode cX7_clause 3 = .ok (.bipush 18, 2) := by decide +kernel
theorem dX7_clause_5 : decode cX7_clause 5 = .ok (.bipush 9, 2) := by decide +kernel
theorem dX7_clause_7 : decode cX7_clause 7 = .ok (.bipush 16, 2) := by decide +kernel
theorem dX7_clause_9 : decode cX7_clause 9 = .ok (.iconst 0, 1) := by decide +kernel
theorem dX7_clause_10 : decode cX7_clause 10 = .ok (.invokevirtual 148, 3) := by decide +kernel
theorem dX7_clause_13 : decode cX7_clause 13 = .ok (.istore_n 1, 1) := by decide +kernel
theorem dX7_clause_14 : decode cX7_clause 14 = .ok (.aload_n 0, 1) := by decide +kernel
theorem dX7_clause_15 : decode cX7_clause 15 = .ok (.bipush 19, 2) := by decide +kernel
theorem dX7_clause_17 : decode cX7_clause 17 = .ok (.bipush 12, 2) := by decide +kernel
theorem dX7_clause_19 : decode cX7_clause 19 = .ok (.bipush 9, 2) := by decide +kernel
theorem dX7_clause_21 : decode cX7_clause 21 = .ok (.bipush 16, 2) := by decide +kernel
theorem dX7_clause_23 : decode cX7_clause 23 = .ok (.iconst 0, 1) := by decide +kernel
theorem dX7_clause_24 : decode cX7_clause 24 = .ok (.invokevirtual 148, 3) := by decide +kernel
theorem dX7_clause_27 : decode cX7_clause 27 = .ok (.istore_n 2, 1) := by decide +kernel
theorem dX7_clause_28 : decode cX7_clause 28 = .ok (.aload_n 0, 1) := by decide +kernel
theorem dX7_clause_29 : decode cX7_clause 29 = .ok (.bipush 12, 2) := by decide +kernel
theorem dX7_clause_31 : decode cX7_clause 31 = .ok (.bipush 15, 2) := by decide +kernel
theorem dX7_clause_33 : decode cX7_clause 33 = .ok (.bipush 20, 2) := by decide +kernel
theorem dX7_clause_35 : decode cX7_clause 35 = .ok (.bipush 19, 2) := by decide +kernel
theorem dX7_clause_37 : decode cX7_clause 37 = .ok (.iconst 0, 1) := by decide +kernel
theorem dX7_clause_38 : decode cX7_clause 38 = .ok (.invokevirtual 148, 3) := by decide +kernel
theorem dX7_clause_41 : decode cX7_clause 41 = .ok (.istore_n 3, 1) := by decide +kernel
theorem dX7_clause_42 : decode cX7_clause 42 = .ok (.iload_n 1, 1) := by decide +kernel
theorem dX7_clause_43 : decode cX7_clause 43 = .ok (.ifCond .ne 23, 3) := by decide +kernel
theorem dX7_clause_46 : decode cX7_clause 46 = .ok (.iload_n 2, 1) := by decide +kernel
theorem dX7_clause_47 : decode cX7_clause 47 = .ok (.ifCond .ne 19, 3) := by decide +kernel
theorem dX7_clause_50 : decode cX7_clause 50 = .ok (.iload_n 3, 1) := by decide +kernel
theorem dX7_clause_51 : decode cX7_clause 51 = .ok (.ifCond .ne 15, 3) := by decide +kernel
theorem dX7_clause_54 : decode cX7_clause 54 = .ok (.aload_n 0, 1) := by decide +kernel
theorem dX7_clause_55 : decode cX7_clause 55 = .ok (.iconst 1, 1) := by decide +kernel
theorem dX7_clause_56 : decode cX7_clause 56 = .ok (.aload_n 0, 1) := by decide +kernel
theorem dX7_clause_57 : decode cX7_clause 57 = .ok (.getfield 113, 3) := by decide +kernel
theorem dX7_clause_60 : decode cX7_clause 60 = .ok (.invokevirtual 130, 3) := by decide +kernel
theorem dX7_clause_63 : decode cX7_clause 63 = .ok (.goto 21, 3) := by decide +kernel
theorem dX7_clause_66 : decode cX7_clause 66 = .ok (.aload_n 0, 1) := by decide +kernel
theorem dX7_clause_67 : decode cX7_clause 67 = .ok (.getfield 191, 3) := by decide +kernel
theorem dX7_clause_70 : decode cX7_clause 70 = .ok (.bipush 12, 2) := by decide +kernel
theorem dX7_clause_72 : decode cX7_clause 72 = .ok (.if_icmp .ne 12, 3) := by decide +kernel
theorem dX7_clause_75 : decode cX7_clause 75 = .ok (.aload_n 0, 1) := by decide +kernel
theorem dX7_clause_76 : decode cX7_clause 76 = .ok (.iconst 3, 1) := by decide +kernel
theorem dX7_clause_77 : decode cX7_clause 77 = .ok (.aload_n 0, 1) := by decide +kernel
theorem dX7_clause_78 : decode cX7_clause 78 = .ok (.getfield 113, 3) := by decide +kernel
theorem dX7_clause_81 : decode cX7_clause 81 = .ok (.invokevirtual 130, 3) := by decide +kernel
theorem dX7_clause_84 : decode cX7_clause 84 = .ok (.aload_n 0, 1) := by decide +kernel
theorem dX7_clause_85 : decode cX7_clause 85 = .ok (.getfield 120, 3) := by decide +kernel
theorem dX7_clause_88 : decode cX7_clause 88 = .ok (.ifCond .eq 4, 3) := by decide +kernel
theorem dX7_clause_91 : decode cX7_clause 91 = .ok (.return_, 1) := by decide +kernel
theorem dX7_clause_92 : decode cX7_clause 92 = .ok (.aload_n 0, 1) := by decide +kernel
theorem dX7_clause_93 : decode cX7_clause 93 = .ok (.invokevirtual 162, 3) := by decide +kernel
theorem dX7_clause_96 : decode cX7_clause 96 = .ok (.aload_n 0, 1) := by decide +kernel
theorem dX7_clause_97 : decode cX7_clause 97 = .ok (.invokevirtual 169, 3) := by decide +kernel
theorem dX7_clause_100 : decode cX7_clause 100 = .ok (.istore 4, 2) := by decide +kernel
theorem dX7_clause_102 : decode cX7_clause 102 = .ok (.iconst 1, 1) := by decide +kernel
theorem dX7_clause_103 : decode cX7_clause 103 = .ok (.istore 5, 2) := by decide +kernel
theorem dX7_clause_105 : decode cX7_clause 105 = .ok (.aload_n 0, 1) := by decide +kernel
theorem dX7_clause_106 : decode cX7_clause 106 = .ok (.getfield 120, 3) := by decide +kernel
theorem dX7_clause_109 : decode cX7_clause 109 = .ok (.ifCond .ne 27, 3) := by decide +kernel
theorem dX7_clause_112 : decode cX7_clause 112 = .ok (.aload_n 0, 1) := by decide +kernel
theorem dX7_clause_113 : decode cX7_clause 113 = .ok (.bipush 9, 2) := by decide +kernel
theorem dX7_clause_115 : decode cX7_clause 115 = .ok (.bipush 6, 2) := by decide +kernel
theorem dX7_clause_117 : decode cX7_clause 117 = .ok (.iconst 0, 1) := by decide +kernel
theorem dX7_clause_118 : decode cX7_clause 118 = .ok (.iconst 0, 1) := by decide +kernel
theorem dX7_clause_119 : decode cX7_clause 119 = .ok (.iconst 0, 1) := by decide +kernel
theorem dX7_clause_120 : decode cX7_clause 120 = .ok (.invokevirtual 148, 3) := by decide +kernel
theorem dX7_clause_123 : decode cX7_clause 123 = .ok (.ifCond .eq 13, 3) := by decide +kernel
theorem dX7_clause_126 : decode cX7_clause 126 = .ok (.aload_n 0, 1) := by decide +kernel
theorem dX7_clause_127 : decode cX7_clause 127 = .ok (.invokevirtual 162, 3) := by decide +kernel
theorem dX7_clause_130 : decode cX7_clause 130 = .ok (.aload_n 0, 1) := by decide +kernel
theorem dX7_clause_131 : decode cX7_clause 131 = .ok (.invokevirtual 185, 3) := by decide +kernel
theorem dX7_clause_134 : decode cX7_clause 134 = .ok (.istore 5, 2) := by decide +kernel
theorem dX7_clause_136 : decode cX7_clause 136 = .ok (.aload_n 0, 1) := by decide +kernel
theorem dX7_clause_137 : decode cX7_clause 137 = .ok (.getfield 120, 3) := by decide +kernel
theorem dX7_clause_140 : decode cX7_clause 140 = .ok (.ifCond .ne 9, 3) := by decide +kernel
theorem dX7_clause_143 : decode cX7_clause 143 = .ok (.aload_n 0, 1) := by decide +kernel
theorem dX7_clause_144 : decode cX7_clause 144 = .ok (.bipush 59, 2) := by decide +kernel
theorem dX7_clause_146 : decode cX7_clause 146 = .ok (.invokevirtual 172, 3) := by decide +kernel
theorem dX7_clause_149 : decode cX7_clause 149 = .ok (.iload 5, 2) := by decide +kernel
theorem dX7_clause_151 : decode cX7_clause 151 = .ok (.ifCond .eq 13, 3) := by decide +kernel
theorem dX7_clause_154 : decode cX7_clause 154 = .ok (.iload_n 1, 1) := by decide +kernel
theorem dX7_clause_155 : decode cX7_clause 155 = .ok (.ifCond .eq 9, 3) := by decide +kernel
theorem dX7_clause_158 : decode cX7_clause 158 = .ok (.aload_n 0, 1) := by decide +kernel
theorem dX7_clause_159 : decode cX7_clause 159 = .ok (.iload 4, 2) := by decide +kernel
theorem dX7_clause_161 : decode cX7_clause 161 = .ok (.putfield 194, 3) := by decide +kernel
theorem dX7_clause_164 : decode cX7_clause 164 = .ok (.iload 5, 2) := by decide +kernel
theorem dX7_clause_166 : decode cX7_clause 166 = .ok (.ifCond .eq 13, 3) := by decide +kernel
theorem dX7_clause_169 : decode cX7_clause 169 = .ok (.iload_n 2, 1) := by decide +kernel
theorem dX7_clause_170 : decode cX7_clause 170 = .ok (.ifCond .eq 9, 3) := by decide +kernel
theorem dX7_clause_173 : decode cX7_clause 173 = .ok (.aload_n 0, 1) := by decide +kernel
theorem dX7_clause_174 : decode cX7_clause 174 = .ok (.iload 4, 2) := by decide +kernel
theorem dX7_clause_176 : decode cX7_clause 176 = .ok (.putfield 197, 3) := by decide +kernel
theorem dX7_clause_179 : decode cX7_clause 179 = .ok (.iload 5, 2) := by decide +kernel
theorem dX7_clause_181 : decode cX7_clause 181 = .ok (.ifCond .eq 13, 3) := by decide +kernel
theorem dX7_clause_184 : decode cX7_clause 184 = .ok (.iload_n 3, 1) := by decide +kernel
theorem dX7_clause_185 : decode cX7_clause 185 = .ok (.ifCond .eq 9, 3) := by decide +kernel
theorem dX7_clause_188 : decode cX7_clause 188 = .ok (.aload_n 0, 1) := by decide +kernel
theorem dX7_clause_189 : decode cX7_clause 189 = .ok (.iload 4, 2) := by decide +kernel
theorem dX7_clause_191 : decode cX7_clause 191 = .ok (.putfield 200, 3) := by decide +kernel
theorem dX7_clause_194 : decode cX7_clause 194 = .ok (.aload_n 0, 1) := by decide +kernel
theorem dX7_clause_195 : decode cX7_clause 195 = .ok (.dup, 1) := by decide +kernel
theorem dX7_clause_196 : decode cX7_clause 196 = .ok (.getfield 191, 3) := by decide +kernel
theorem dX7_clause_199 : decode cX7_clause 199 = .ok (.iconst 1, 1) := by decide +kernel
theorem dX7_clause_200 : decode cX7_clause 200 = .ok (.iadd, 1) := by decide +kernel
theorem dX7_clause_201 : decode cX7_clause 201 = .ok (.putfield 191, 3) := by decide +kernel
theorem dX7_clause_204 : decode cX7_clause 204 = .ok (.return_, 1) := by decide +kernel
noncomputable def B_X7_clause_194 (S : fS) : Option (Int32 × fS) := iv (ge S 40 0 9) (fun x1 => iv (x1 + (1 : Int32)) (fun x2 => sv (pu S 40 0 9 x2) (fun S3 => some (0, S3))))
noncomputable def B_X7_clause_179 (a3 : Int32) (a4 : Int32) (a5 : Int32) (S : fS) : Option (Int32 × fS) := bb (a5 = (0 : Int32)) (B_X7_clause_194   S) (bb (a3 = (0 : Int32)) (B_X7_clause_194   S) (sv (pu S 40 0 20 a4) (fun S6 => B_X7_clause_194   S6)))
noncomputable def B_X7_clause_164 (a2 : Int32) (a3 : Int32) (a4 : Int32) (a5 : Int32) (S : fS) : Option (Int32 × fS) := bb (a5 = (0 : Int32)) (B_X7_clause_179  a3 a4 a5 S) (bb (a2 = (0 : Int32)) (B_X7_clause_179  a3 a4 a5 S) (sv (pu S 40 0 19 a4) (fun S9 => B_X7_clause_179  a3 a4 a5 S9)))
noncomputable def B_X7_clause_149 (a1 : Int32) (a2 : Int32) (a3 : Int32) (a4 : Int32) (a5 : Int32) (S : fS) : Option (Int32 × fS) := bb (a5 = (0 : Int32)) (B_X7_clause_164  a2 a3 a4 a5 S) (bb (a1 = (0 : Int32)) (B_X7_clause_164  a2 a3 a4 a5 S) (sv (pu S 40 0 18 a4) (fun S12 => B_X7_clause_164  a2 a3 a4 a5 S12)))
noncomputable def B_X7_clause_136 (a1 : Int32) (a2 : Int32) (a3 : Int32) (a4 : Int32) (a5 : Int32) (S : fS) : Option (Int32 × fS) := iv (ge S 40 0 6) (fun x13 => bb (x13 = (0 : Int32)) (bd (F_X7_sign 59 S) (fun v15 S16 => B_X7_clause_149  a1 a2 a3 a4 a5 S16)) (B_X7_clause_149  a1 a2 a3 a4 a5 S))
noncomputable def B_X7_clause_84 (a1 : Int32) (a2 : Int32) (a3 : Int32) (S : fS) : Option (Int32 × fS) := iv (ge S 40 0 6) (fun x18 => bb (x18 = (0 : Int32)) (bd (F_X7_skipWord  S) (fun v20 S21 => bd (F_X7_sum  S21) (fun v23 S24 => iv (ge S24 40 0 6) (fun x26 => bb (x26 = (0 : Int32)) (bd (F_X7_isWord 9 6 0 0 0 S24) (fun v28 S29 => bb (v28 = (0 : Int32)) (B_X7_clause_136  a1 a2 a3 v23 1 S29) (bd (F_X7_skipWord  S29) (fun v32 S33 => bd (F_X7_ors  S33) (fun v35 S36 => B_X7_clause_136  a1 a2 a3 v23 v35 S36))))) (B_X7_clause_136  a1 a2 a3 v23 1 S24))))) (some (0, S)))
noncomputable def B_X7_clause_66 (a1 : Int32) (a2 : Int32) (a3 : Int32) (S : fS) : Option (Int32 × fS) := iv (ge S 40 0 9) (fun x38 => bb (x38 = (12 : Int32)) (iv (ge S 40 0 4) (fun x40 => bd (F_X7_wrong 3 x40 S) (fun v41 S42 => B_X7_clause_84  a1 a2 a3 S42))) (B_X7_clause_84  a1 a2 a3 S))
noncomputable def F_X7_clause  (S0 : fS) : Option (Int32 × fS) := bd (F_X7_isWord 7 18 9 16 0 S0) (fun v44 S45 => bd (F_X7_isWord 19 12 9 16 0 S45) (fun v47 S48 => bd (F_X7_isWord 12 15 20 19 0 S48) (fun v50 S51 => bb (v44 = (0 : Int32)) (bb (v47 = (0 : Int32)) (bb (v50 = (0 : Int32)) (iv (ge S51 40 0 4) (fun x56 => bd (F_X7_wrong 1 x56 S51) (fun v57 S58 => B_X7_clause_84  v44 v47 v50 S58))) (B_X7_clause_66  v44 v47 v50 S51)) (B_X7_clause_66  v44 v47 v50 S51)) (B_X7_clause_66  v44 v47 v50 S51))))
set_option maxHeartbeats 4000000 in
set_option maxRecDepth 100000 in
theorem c_X7_clause (l : Launch) (D : va_G) (K : Nat → ClassId) (b0 : Nat) (sa : sT) (sz : Nat) (L : List Nat) (f0 : Nat → va_E) (ad : Nat → Nat → Nat) (P : Nat → Nat → Prop) {n : Nat × Nat} (hP : ∀ a i : Nat, isn n a i → P a i) (S0 : fS) (hw : PW K ad P S0 L f0) (hn : S0.2.2.1 = n)  (v : Int32) (S1 : fS) (h : F_X7_clause  S0 = some (v, S1)) : Met l yX7_clause (.code yX7_clause cX7_clause 6 none :: gt) { frames := 71, cells := 0, slots := 0, locals := 2691 } (va_Pc [.ref (ad 40 0)] (hPre D K b0 sa sz L f0)) (hQ D K b0 (fun v9 u9 => ∃ f2 : Nat → va_E, v9 = none ∧ u9 = lU L f2 ∧ PW K ad P S1 L f2 ∧ S1.2.2.1 = n ∧ Kp ad P L f0 f2)) 0 0 (fun q => b0 ≤ q) := by
  refine t_of (own := RX7) (by decide) rfl ?_ (Nat.le_of_ble_eq_true rfl)
  intro p e s m below meth c ls C w hsz hr hlk hnm hl
  have hx := C.1
  have hb := C.2.1
  have hl : lv_has ls 6 [(0, .ref (ad 40 0))] := hl
  have J194 : ∀ (S : fS), B_X7_clause_194   S = some (v, S1) → Gw D K b0 sa ad P n L f0 p l e { frames := 71, cells := 0, slots := 0, locals := 2691 } s m [.ref (ad 40 0)].toArray below meth c 6 (MQ below (hQ D K b0 (fun v9 u9 => ∃ f2 : Nat → va_E, v9 = none ∧ u9 = lU L f2 ∧ PW K ad P S1 L f2 ∧ S1.2.2.1 = n ∧ Kp ad P L f0 f2)) [.ref (ad 40 0)].toArray s 0 0 (fun q => b0 ≤ q)) 0 0 194 [(0, .ref (ad 40 0))] [] S := by
    intro S h
    dsimp only [B_X7_clause_194] at h
    intro f H locs w hw hn hk ls hl
    refine lv_aload_n hx hb dX7_clause_194 rfl (lv_at hl 0 rfl) ?_
    refine lv_dup hx hb dX7_clause_195 rfl ?_
    refine u_geti C w hw (hP _ _ (isn_f rfl rfl (by decide))) rfl (N := 57) rfl rfl cin_7 9 (by decide) rfl gw_1165 dX7_clause_196 ?_
    refine u_iv h (fun x1 h => ?_)
    refine lv_iconst (v := 1) hx hb dX7_clause_199 (by decide) ?_
    refine lv_iadd hx hb dX7_clause_200 ?_
    refine u_iv h (fun x2 h => ?_)
    refine u_puti C w hw (hP _ _ (isn_f rfl rfl (by decide))) rfl (N := 57) rfl rfl cin_7 tyX7 tyX7_ok nmX7 9 (by decide) rfl rfl rfl rfl gw_1165 dX7_clause_201 (fun f H locs w hw hk1 => ?_)
    have hk := hk.tr hk1
    refine u_sv h hw hn (fun S3 h hw hn => ?_)
    exact t_vret C hr hlk w ⟨_, rfl, rfl, so_w h hw, so_n h hn, hk⟩ (by decide) (by decide) dX7_clause_204
  have J179 : ∀ (a3 : Int32) (a4 : Int32) (a5 : Int32) (S : fS), B_X7_clause_179  a3 a4 a5 S = some (v, S1) → Gw D K b0 sa ad P n L f0 p l e { frames := 71, cells := 0, slots := 0, locals := 2691 } s m [.ref (ad 40 0)].toArray below meth c 6 (MQ below (hQ D K b0 (fun v9 u9 => ∃ f2 : Nat → va_E, v9 = none ∧ u9 = lU L f2 ∧ PW K ad P S1 L f2 ∧ S1.2.2.1 = n ∧ Kp ad P L f0 f2)) [.ref (ad 40 0)].toArray s 0 0 (fun q => b0 ≤ q)) 0 0 179 [(0, .ref (ad 40 0)), (3, .int a3), (4, .int a4), (5, .int a5)] [] S := by
    intro a3 a4 a5 S h
    dsimp only [B_X7_clause_179] at h
    intro f H locs w hw hn hk ls hl
    refine lv_iload hx hb dX7_clause_179 (lv_at hl 3 rfl) ?_
    refine lv_if_eq (tgt := 194) hx hb dX7_clause_181 (by decide) (fun c4 => ?_) (fun c4 => ?_)
    · have h := bb_t h c4
      exact J194   S h f H locs w hw hn hk ls (lv_sub hl [0] rfl)
    · have h := bb_f h c4
      refine lv_iload_n hx hb dX7_clause_184 rfl (lv_at hl 1 rfl) ?_
      refine lv_if_eq (tgt := 194) hx hb dX7_clause_185 (by decide) (fun c5 => ?_) (fun c5 => ?_)
      · have h := bb_t h c5
        exact J194   S h f H locs w hw hn hk ls (lv_sub hl [0] rfl)
      · have h := bb_f h c5
        refine lv_aload_n hx hb dX7_clause_188 rfl (lv_at hl 0 rfl) ?_
        refine lv_iload hx hb dX7_clause_189 (lv_at hl 2 rfl) ?_
        refine u_puti C w hw (hP _ _ (isn_f rfl rfl (by decide))) rfl (N := 57) rfl rfl cin_7 tyX7 tyX7_ok nmX7 20 (by decide) rfl rfl rfl rfl gw_1176 dX7_clause_191 (fun f H locs w hw hk1 => ?_)
        have hk := hk.tr hk1
        refine u_sv h hw hn (fun S6 h hw hn => ?_)
        exact J194   S6 h f H locs w hw hn hk ls (lv_sub hl [0] rfl)
  have J164 : ∀ (a2 : Int32) (a3 : Int32) (a4 : Int32) (a5 : Int32) (S : fS), B_X7_clause_164  a2 a3 a4 a5 S = some (v, S1) → Gw D K b0 sa ad P n L f0 p l e { frames := 71, cells := 0, slots := 0, locals := 2691 } s m [.ref (ad 40 0)].toArray below meth c 6 (MQ below (hQ D K b0 (fun v9 u9 => ∃ f2 : Nat → va_E, v9 = none ∧ u9 = lU L f2 ∧ PW K ad P S1 L f2 ∧ S1.2.2.1 = n ∧ Kp ad P L f0 f2)) [.ref (ad 40 0)].toArray s 0 0 (fun q => b0 ≤ q)) 0 0 164 [(0, .ref (ad 40 0)), (2, .int a2), (3, .int a3), (4, .int a4), (5, .int a5)] [] S := by
    intro a2 a3 a4 a5 S h
    dsimp only [B_X7_clause_164] at h
    intro f H locs w hw hn hk ls hl
    refine lv_iload hx hb dX7_clause_164 (lv_at hl 4 rfl) ?_
    refine lv_if_eq (tgt := 179) hx hb dX7_clause_166 (by decide) (fun c7 => ?_) (fun c7 => ?_)
    · have h := bb_t h c7
      exact J179  a3 a4 a5 S h f H locs w hw hn hk ls (lv_sub hl [0, 2, 3, 4] rfl)
    · have h := bb_f h c7
      refine lv_iload_n hx hb dX7_clause_169 rfl (lv_at hl 1 rfl) ?_
      refine lv_if_eq (tgt := 179) hx hb dX7_clause_170 (by decide) (fun c8 => ?_) (fun c8 => ?_)
      · have h := bb_t h c8
        exact J179  a3 a4 a5 S h f H locs w hw hn hk ls (lv_sub hl [0, 2, 3, 4] rfl)
      · have h := bb_f h c8
        refine lv_aload_n hx hb dX7_clause_173 rfl (lv_at hl 0 rfl) ?_
        refine lv_iload hx hb dX7_clause_174 (lv_at hl 3 rfl) ?_
        refine u_puti C w hw (hP _ _ (isn_f rfl rfl (by decide))) rfl (N := 57) rfl rfl cin_7 tyX7 tyX7_ok nmX7 19 (by decide) rfl rfl rfl rfl gw_1175 dX7_clause_176 (fun f H locs w hw hk1 => ?_)
        have hk := hk.tr hk1
        refine u_sv h hw hn (fun S9 h hw hn => ?_)
        exact J179  a3 a4 a5 S9 h f H locs w hw hn hk ls (lv_sub hl [0, 2, 3, 4] rfl)
  have J149 : ∀ (a1 : Int32) (a2 : Int32) (a3 : Int32) (a4 : Int32) (a5 : Int32) (S : fS), B_X7_clause_149  a1 a2 a3 a4 a5 S = some (v, S1) → Gw D K b0 sa ad P n L f0 p l e { frames := 71, cells := 0, slots := 0, locals := 2691 } s m [.ref (ad 40 0)].toArray below meth c 6 (MQ below (hQ D K b0 (fun v9 u9 => ∃ f2 : Nat → va_E, v9 = none ∧ u9 = lU L f2 ∧ PW K ad P S1 L f2 ∧ S1.2.2.1 = n ∧ Kp ad P L f0 f2)) [.ref (ad 40 0)].toArray s 0 0 (fun q => b0 ≤ q)) 0 0 149 [(0, .ref (ad 40 0)), (1, .int a1), (2, .int a2), (3, .int a3), (4, .int a4), (5, .int a5)] [] S := by
    intro a1 a2 a3 a4 a5 S h
    dsimp only [B_X7_clause_149] at h
    intro f H locs w hw hn hk ls hl
    refine lv_iload hx hb dX7_clause_149 (lv_at hl 5 rfl) ?_
    refine lv_if_eq (tgt := 164) hx hb dX7_clause_151 (by decide) (fun c10 => ?_) (fun c10 => ?_)
    · have h := bb_t h c10
      exact J164  a2 a3 a4 a5 S h f H locs w hw hn hk ls (lv_sub hl [0, 2, 3, 4, 5] rfl)
    · have h := bb_f h c10
      refine lv_iload_n hx hb dX7_clause_154 rfl (lv_at hl 1 rfl) ?_
      refine lv_if_eq (tgt := 164) hx hb dX7_clause_155 (by decide) (fun c11 => ?_) (fun c11 => ?_)
      · have h := bb_t h c11
        exact J164  a2 a3 a4 a5 S h f H locs w hw hn hk ls (lv_sub hl [0, 2, 3, 4, 5] rfl)
      · have h := bb_f h c11
        refine lv_aload_n hx hb dX7_clause_158 rfl (lv_at hl 0 rfl) ?_
        refine lv_iload hx hb dX7_clause_159 (lv_at hl 4 rfl) ?_
        refine u_puti C w hw (hP _ _ (isn_f rfl rfl (by decide))) rfl (N := 57) rfl rfl cin_7 tyX7 tyX7_ok nmX7 18 (by decide) rfl rfl rfl rfl gw_1174 dX7_clause_161 (fun f H locs w hw hk1 => ?_)
        have hk := hk.tr hk1
        refine u_sv h hw hn (fun S12 h hw hn => ?_)
        exact J164  a2 a3 a4 a5 S12 h f H locs w hw hn hk ls (lv_sub hl [0, 2, 3, 4, 5] rfl)
  have J136 : ∀ (a1 : Int32) (a2 : Int32) (a3 : Int32) (a4 : Int32) (a5 : Int32) (S : fS), B_X7_clause_136  a1 a2 a3 a4 a5 S = some (v, S1) → Gw D K b0 sa ad P n L f0 p l e { frames := 71, cells := 0, slots := 0, locals := 2691 } s m [.ref (ad 40 0)].toArray below meth c 6 (MQ below (hQ D K b0 (fun v9 u9 => ∃ f2 : Nat → va_E, v9 = none ∧ u9 = lU L f2 ∧ PW K ad P S1 L f2 ∧ S1.2.2.1 = n ∧ Kp ad P L f0 f2)) [.ref (ad 40 0)].toArray s 0 0 (fun q => b0 ≤ q)) 0 0 136 [(0, .ref (ad 40 0)), (1, .int a1), (2, .int a2), (3, .int a3), (4, .int a4), (5, .int a5)] [] S := by
    intro a1 a2 a3 a4 a5 S h
    dsimp only [B_X7_clause_136] at h
    intro f H locs w hw hn hk ls hl
    refine lv_aload_n hx hb dX7_clause_136 rfl (lv_at hl 0 rfl) ?_
    refine u_geti C w hw (hP _ _ (isn_f rfl rfl (by decide))) rfl (N := 57) rfl rfl cin_7 6 (by decide) rfl gw_1162 dX7_clause_137 ?_
    refine u_iv h (fun x13 h => ?_)
    refine lv_if_ne (tgt := 149) hx hb dX7_clause_140 (by decide) (fun c14 => ?_) (fun c14 => ?_)
    · have h := bb_f h c14
      exact J149  a1 a2 a3 a4 a5 S h f H locs w hw hn hk ls (lv_sub hl [0, 1, 2, 3, 4, 5] rfl)
    · have h := bb_t h c14
      refine lv_aload_n hx hb dX7_clause_143 rfl (lv_at hl 0 rfl) ?_
      refine lv_bipush (v := 59) hx hb dX7_clause_144 (by decide) ?_
      obtain ⟨v15, S16, h17, h⟩ := bd_some h
      refine u_callV (n := 1) C w hw (hP _ _ (isn_f rfl rfl (by decide))) rfl rfl rfl (c_X7_sign l D K b0 sa _ L _ ad P hP S hw hn 59 v15 S16 h17) gw_1394 gw_1391 gw_1393 gs_33 gw_8 ⟨by decide, by decide, by decide +kernel⟩ rfl rfl ⟨by decide, by decide⟩ rfl hl.1 rfl (Nat.le_of_ble_eq_true rfl) dX7_clause_146 ⟨Nat.le_of_ble_eq_true rfl, Nat.le_of_ble_eq_true rfl⟩ (fun v9 u H locs hp w => ?_)
      obtain ⟨f2, rfl, rfl, hw, hn, hk1⟩ := hp
      have hk := hk.tr hk1
      generalize f2 = f at w hw hk
      exact J149  a1 a2 a3 a4 a5 S16 h f H locs w hw hn hk ls (lv_sub hl [0, 1, 2, 3, 4, 5] rfl)
  have J84 : ∀ (a1 : Int32) (a2 : Int32) (a3 : Int32) (S : fS), B_X7_clause_84  a1 a2 a3 S = some (v, S1) → Gw D K b0 sa ad P n L f0 p l e { frames := 71, cells := 0, slots := 0, locals := 2691 } s m [.ref (ad 40 0)].toArray below meth c 6 (MQ below (hQ D K b0 (fun v9 u9 => ∃ f2 : Nat → va_E, v9 = none ∧ u9 = lU L f2 ∧ PW K ad P S1 L f2 ∧ S1.2.2.1 = n ∧ Kp ad P L f0 f2)) [.ref (ad 40 0)].toArray s 0 0 (fun q => b0 ≤ q)) 0 0 84 [(0, .ref (ad 40 0)), (1, .int a1), (2, .int a2), (3, .int a3)] [] S := by
    intro a1 a2 a3 S h
    dsimp only [B_X7_clause_84] at h
    intro f H locs w hw hn hk ls hl
    refine lv_aload_n hx hb dX7_clause_84 rfl (lv_at hl 0 rfl) ?_
    refine u_geti C w hw (hP _ _ (isn_f rfl rfl (by decide))) rfl (N := 57) rfl rfl cin_7 6 (by decide) rfl gw_1162 dX7_clause_85 ?_
    refine u_iv h (fun x18 h => ?_)
    refine lv_if_eq (tgt := 92) hx hb dX7_clause_88 (by decide) (fun c19 => ?_) (fun c19 => ?_)
    · have h := bb_t h c19
      refine lv_aload_n hx hb dX7_clause_92 rfl (lv_at hl 0 rfl) ?_
      obtain ⟨v20, S21, h22, h⟩ := bd_some h
      refine u_callV (n := 0) C w hw (hP _ _ (isn_f rfl rfl (by decide))) rfl rfl rfl (c_X7_skipWord l D K b0 sa _ L _ ad P hP S hw hn  v20 S21 h22) gw_1421 gw_1418 gw_1420 gs_39 gw_8 ⟨by decide, by decide, by decide +kernel⟩ rfl rfl ⟨by decide, by decide⟩ rfl hl.1 rfl (Nat.le_of_ble_eq_true rfl) dX7_clause_93 ⟨Nat.le_of_ble_eq_true rfl, Nat.le_of_ble_eq_true rfl⟩ (fun v9 u H locs hp w => ?_)
      obtain ⟨f2, rfl, rfl, hw, hn, hk1⟩ := hp
      have hk := hk.tr hk1
      generalize f2 = f at w hw hk
      refine lv_aload_n hx hb dX7_clause_96 rfl (lv_at hl 0 rfl) ?_
      obtain ⟨v23, S24, h25, h⟩ := bd_some h
      refine u_callV (n := 0) C w hw (hP _ _ (isn_f rfl rfl (by decide))) rfl rfl rfl (c_X7_sum l D K b0 sa _ L _ ad P hP S21 hw hn  v23 S24 h25) gw_1398 gw_1395 gw_1397 gs_34 gw_8 ⟨by decide, by decide, by decide +kernel⟩ rfl rfl ⟨by decide, by decide⟩ rfl hl.1 rfl (Nat.le_of_ble_eq_true rfl) dX7_clause_97 ⟨Nat.le_of_ble_eq_true rfl, Nat.le_of_ble_eq_true rfl⟩ (fun v9 u H locs hp w => ?_)
      obtain ⟨f2, rfl, rfl, hw, hn, hk1⟩ := hp
      have hk := hk.tr hk1
      generalize f2 = f at w hw hk
      refine lv_istore (lv' := [(4, .int v23), (0, .ref (ad 40 0)), (1, .int a1), (2, .int a2), (3, .int a3)]) hx hb dX7_clause_100 hl (by decide) rfl (fun ls hl => ?_)
      refine lv_iconst (v := 1) hx hb dX7_clause_102 (by decide) ?_
      refine lv_istore (lv' := [(5, .int 1), (4, .int v23), (0, .ref (ad 40 0)), (1, .int a1), (2, .int a2), (3, .int a3)]) hx hb dX7_clause_103 hl (by decide) rfl (fun ls hl => ?_)
      refine lv_aload_n hx hb dX7_clause_105 rfl (lv_at hl 2 rfl) ?_
      refine u_geti C w hw (hP _ _ (isn_f rfl rfl (by decide))) rfl (N := 57) rfl rfl cin_7 6 (by decide) rfl gw_1162 dX7_clause_106 ?_
      refine u_iv h (fun x26 h => ?_)
      refine lv_if_ne (tgt := 136) hx hb dX7_clause_109 (by decide) (fun c27 => ?_) (fun c27 => ?_)
      · have h := bb_f h c27
        exact J136  a1 a2 a3 v23 1 S24 h f H locs w hw hn hk ls (lv_sub hl [2, 3, 4, 5, 1, 0] rfl)
      · have h := bb_t h c27
        refine lv_aload_n hx hb dX7_clause_112 rfl (lv_at hl 2 rfl) ?_
        refine lv_bipush (v := 9) hx hb dX7_clause_113 (by decide) ?_
        refine lv_bipush (v := 6) hx hb dX7_clause_115 (by decide) ?_
        refine lv_iconst (v := 0) hx hb dX7_clause_117 (by decide) ?_
        refine lv_iconst (v := 0) hx hb dX7_clause_118 (by decide) ?_
        refine lv_iconst (v := 0) hx hb dX7_clause_119 (by decide) ?_
        obtain ⟨v28, S29, h30, h⟩ := bd_some h
        refine u_callV (n := 5) C w hw (hP _ _ (isn_f rfl rfl (by decide))) rfl rfl rfl (c_X7_isWord l D K b0 sa _ L _ ad P hP S24 hw hn 9 6 0 0 0 v28 S29 h30) gw_1367 gw_1364 gw_1366 gs_27 gw_8 ⟨by decide, by decide, by decide +kernel⟩ rfl rfl ⟨by decide, by decide⟩ rfl hl.1 rfl (Nat.le_of_ble_eq_true rfl) dX7_clause_120 ⟨Nat.le_of_ble_eq_true rfl, Nat.le_of_ble_eq_true rfl⟩ (fun v9 u H locs hp w => ?_)
        obtain ⟨f2, rfl, rfl, hw, hn, hk1⟩ := hp
        have hk := hk.tr hk1
        generalize f2 = f at w hw hk
        refine lv_if_eq (tgt := 136) hx hb dX7_clause_123 (by decide) (fun c31 => ?_) (fun c31 => ?_)
        · have h := bb_t h c31
          exact J136  a1 a2 a3 v23 1 S29 h f H locs w hw hn hk ls (lv_sub hl [2, 3, 4, 5, 1, 0] rfl)
        · have h := bb_f h c31
          refine lv_aload_n hx hb dX7_clause_126 rfl (lv_at hl 2 rfl) ?_
          obtain ⟨v32, S33, h34, h⟩ := bd_some h
          refine u_callV (n := 0) C w hw (hP _ _ (isn_f rfl rfl (by decide))) rfl rfl rfl (c_X7_skipWord l D K b0 sa _ L _ ad P hP S29 hw hn  v32 S33 h34) gw_1421 gw_1418 gw_1420 gs_39 gw_8 ⟨by decide, by decide, by decide +kernel⟩ rfl rfl ⟨by decide, by decide⟩ rfl hl.1 rfl (Nat.le_of_ble_eq_true rfl) dX7_clause_127 ⟨Nat.le_of_ble_eq_true rfl, Nat.le_of_ble_eq_true rfl⟩ (fun v9 u H locs hp w => ?_)
          obtain ⟨f2, rfl, rfl, hw, hn, hk1⟩ := hp
          have hk := hk.tr hk1
          generalize f2 = f at w hw hk
          refine lv_aload_n hx hb dX7_clause_130 rfl (lv_at hl 2 rfl) ?_
          obtain ⟨v35, S36, h37, h⟩ := bd_some h
          refine u_callV (n := 0) C w hw (hP _ _ (isn_f rfl rfl (by decide))) rfl rfl rfl (c_X7_ors l D K b0 sa _ L _ ad P hP S33 hw hn  v35 S36 h37) gw_1355 gw_1352 gw_1354 gs_24 gw_8 ⟨by decide, by decide, by decide +kernel⟩ rfl rfl ⟨by decide, by decide⟩ rfl hl.1 rfl (Nat.le_of_ble_eq_true rfl) dX7_clause_131 ⟨Nat.le_of_ble_eq_true rfl, Nat.le_of_ble_eq_true rfl⟩ (fun v9 u H locs hp w => ?_)
          obtain ⟨f2, rfl, rfl, hw, hn, hk1⟩ := hp
          have hk := hk.tr hk1
          generalize f2 = f at w hw hk
          refine lv_istore (lv' := [(5, .int v35), (4, .int v23), (0, .ref (ad 40 0)), (1, .int a1), (2, .int a2), (3, .int a3)]) hx hb dX7_clause_134 hl (by decide) rfl (fun ls hl => ?_)
          exact J136  a1 a2 a3 v23 v35 S36 h f H locs w hw hn hk ls (lv_sub hl [2, 3, 4, 5, 1, 0] rfl)
    · have h := bb_f h c19
      exact t_vret C hr hlk w ⟨_, rfl, rfl, so_w h hw, so_n h hn, hk⟩ (by decide) (by decide) dX7_clause_91
  have J66 : ∀ (a1 : Int32) (a2 : Int32) (a3 : Int32) (S : fS), B_X7_clause_66  a1 a2 a3 S = some (v, S1) → Gw D K b0 sa ad P n L f0 p l e { frames := 71, cells := 0, slots := 0, locals := 2691 } s m [.ref (ad 40 0)].toArray below meth c 6 (MQ below (hQ D K b0 (fun v9 u9 => ∃ f2 : Nat → va_E, v9 = none ∧ u9 = lU L f2 ∧ PW K ad P S1 L f2 ∧ S1.2.2.1 = n ∧ Kp ad P L f0 f2)) [.ref (ad 40 0)].toArray s 0 0 (fun q => b0 ≤ q)) 0 0 66 [(0, .ref (ad 40 0)), (1, .int a1), (2, .int a2), (3, .int a3)] [] S := by
    intro a1 a2 a3 S h
    dsimp only [B_X7_clause_66] at h
    intro f H locs w hw hn hk ls hl
    refine lv_aload_n hx hb dX7_clause_66 rfl (lv_at hl 0 rfl) ?_
    refine u_geti C w hw (hP _ _ (isn_f rfl rfl (by decide))) rfl (N := 57) rfl rfl cin_7 9 (by decide) rfl gw_1165 dX7_clause_67 ?_
    refine u_iv h (fun x38 h => ?_)
    refine lv_bipush (v := 12) hx hb dX7_clause_70 (by decide) ?_
    refine lv_icmp_ne (tgt := 84) hx hb dX7_clause_72 (by decide) (fun c39 => ?_) (fun c39 => ?_)
    · have h := bb_f h c39
      exact J84  a1 a2 a3 S h f H locs w hw hn hk ls (lv_sub hl [0, 1, 2, 3] rfl)
    · have h := bb_t h c39
      refine lv_aload_n hx hb dX7_clause_75 rfl (lv_at hl 0 rfl) ?_
      refine lv_iconst (v := 3) hx hb dX7_clause_76 (by decide) ?_
      refine lv_aload_n hx hb dX7_clause_77 rfl (lv_at hl 0 rfl) ?_
      refine u_geti C w hw (hP _ _ (isn_f rfl rfl (by decide))) rfl (N := 57) rfl rfl cin_7 4 (by decide) rfl gw_1160 dX7_clause_78 ?_
      refine u_iv h (fun x40 h => ?_)
      obtain ⟨v41, S42, h43, h⟩ := bd_some h
      refine u_callV (n := 2) C w hw (hP _ _ (isn_f rfl rfl (by decide))) rfl rfl rfl (c_X7_wrong l D K b0 sa _ L _ ad P hP S hw hn 3 x40 v41 S42 h43) gw_1390 gw_1387 gw_1389 gs_32 gw_8 ⟨by decide, by decide, by decide +kernel⟩ rfl rfl ⟨by decide, by decide⟩ rfl hl.1 rfl (Nat.le_of_ble_eq_true rfl) dX7_clause_81 ⟨Nat.le_of_ble_eq_true rfl, Nat.le_of_ble_eq_true rfl⟩ (fun v9 u H locs hp w => ?_)
      obtain ⟨f2, rfl, rfl, hw, hn, hk1⟩ := hp
      have hk := hk.tr hk1
      generalize f2 = f at w hw hk
      exact J84  a1 a2 a3 S42 h f H locs w hw hn hk ls (lv_sub hl [0, 1, 2, 3] rfl)
  dsimp only [F_X7_clause] at h
  obtain ⟨f, ef⟩ : ∃ z, z = f0 := ⟨_, rfl⟩
  rw [← ef] at w hw
  have hk : Kp ad P L f0 f := by rw [ef]; exact Kp.rf
  obtain ⟨H, eH⟩ : ∃ z, z = s.heap := ⟨_, rfl⟩
  obtain ⟨locs, el⟩ : ∃ z : List Loc, z = [] := ⟨_, rfl⟩
  rw [← eH, ← el] at w ⊢
  refine lv_aload_n hx hb dX7_clause_0 rfl (lv_at hl 0 rfl) ?_
  refine lv_bipush (v := 7) hx hb dX7_clause_1 (by decide) ?_
  refine lv_bipush (v := 18) hx hb dX7_clause_3 (by decide) ?_
  refine lv_bipush (v := 9) hx hb dX7_clause_5 (by decide) ?_
  refine lv_bipush (v := 16) hx hb dX7_clause_7 (by decide) ?_
  refine lv_iconst (v := 0) hx hb dX7_clause_9 (by decide) ?_
  obtain ⟨v44, S45, h46, h⟩ := bd_some h
  refine u_callV (n := 5) C w hw (hP _ _ (isn_f rfl rfl (by decide))) rfl rfl rfl (c_X7_isWord l D K b0 sa _ L _ ad P hP S0 hw hn 7 18 9 16 0 v44 S45 h46) gw_1367 gw_1364 gw_1366 gs_27 gw_8 ⟨by decide, by decide, by decide +kernel⟩ rfl rfl ⟨by decide, by decide⟩ rfl hl.1 rfl (Nat.le_of_ble_eq_true rfl) dX7_clause_10 ⟨Nat.le_of_ble_eq_true rfl, Nat.le_of_ble_eq_true rfl⟩ (fun v9 u H locs hp w => ?_)
  obtain ⟨f2, rfl, rfl, hw, hn, hk1⟩ := hp
  have hk := hk.tr hk1
  generalize f2 = f at w hw hk
  refine lv_istore_n (lv' := [(1, .int v44), (0, .ref (ad 40 0))]) hx hb dX7_clause_13 rfl hl (by decide) rfl (fun ls hl => ?_)
  refine lv_aload_n hx hb dX7_clause_14 rfl (lv_at hl 1 rfl) ?_
  refine lv_bipush (v := 19) hx hb dX7_clause_15 (by decide) ?_
  refine lv_bipush (v := 12) hx hb dX7_clause_17 (by decide) ?_
  refine lv_bipush (v := 9) hx hb dX7_clause_19 (by decide) ?_
  refine lv_bipush (v := 16) hx hb dX7_clause_21 (by decide) ?_
  refine lv_iconst (v := 0) hx hb dX7_clause_23 (by decide) ?_
  obtain ⟨v47, S48, h49, h⟩ := bd_some h
  refine u_callV (n := 5) C w hw (hP _ _ (isn_f rfl rfl (by decide))) rfl rfl rfl (c_X7_isWord l D K b0 sa _ L _ ad P hP S45 hw hn 19 12 9 16 0 v47 S48 h49) gw_1367 gw_1364 gw_1366 gs_27 gw_8 ⟨by decide, by decide, by decide +kernel⟩ rfl rfl ⟨by decide, by decide⟩ rfl hl.1 rfl (Nat.le_of_ble_eq_true rfl) dX7_clause_24 ⟨Nat.le_of_ble_eq_true rfl, Nat.le_of_ble_eq_true rfl⟩ (fun v9 u H locs hp w => ?_)
  obtain ⟨f2, rfl, rfl, hw, hn, hk1⟩ := hp
  have hk := hk.tr hk1
  generalize f2 = f at w hw hk
  refine lv_istore_n (lv' := [(2, .int v47), (1, .int v44), (0, .ref (ad 40 0))]) hx hb dX7_clause_27 rfl hl (by decide) rfl (fun ls hl => ?_)
  refine lv_aload_n hx hb dX7_clause_28 rfl (lv_at hl 2 rfl) ?_
  refine lv_bipush (v := 12) hx hb dX7_clause_29 (by decide) ?_
  refine lv_bipush (v := 15) hx hb dX7_clause_31 (by decide) ?_
  refine lv_bipush (v := 20) hx hb dX7_clause_33 (by decide) ?_
  refine lv_bipush (v := 19) hx hb dX7_clause_35 (by decide) ?_
  refine lv_iconst (v := 0) hx hb dX7_clause_37 (by decide) ?_
  obtain ⟨v50, S51, h52, h⟩ := bd_some h
  refine u_callV (n := 5) C w hw (hP _ _ (isn_f rfl rfl (by decide))) rfl rfl rfl (c_X7_isWord l D K b0 sa _ L _ ad P hP S48 hw hn 12 15 20 19 0 v50 S51 h52) gw_1367 gw_1364 gw_1366 gs_27 gw_8 ⟨by decide, by decide, by decide +kernel⟩ rfl rfl ⟨by decide, by decide⟩ rfl hl.1 rfl (Nat.le_of_ble_eq_true rfl) dX7_clause_38 ⟨Nat.le_of_ble_eq_true rfl, Nat.le_of_ble_eq_true rfl⟩ (fun v9 u H locs hp w => ?_)
  obtain ⟨f2, rfl, rfl, hw, hn, hk1⟩ := hp
  have hk := hk.tr hk1
  generalize f2 = f at w hw hk
  refine lv_istore_n (lv' := [(3, .int v50), (2, .int v47), (1, .int v44), (0, .ref (ad 40 0))]) hx hb dX7_clause_41 rfl hl (by decide) rfl (fun ls hl => ?_)
  refine lv_iload_n hx hb dX7_clause_42 rfl (lv_at hl 2 rfl) ?_
  refine lv_if_ne (tgt := 66) hx hb dX7_clause_43 (by decide) (fun c53 => ?_) (fun c53 => ?_)
  · have h := bb_f h c53
    exact J66  v44 v47 v50 S51 h f H locs w hw hn hk ls (lv_sub hl [3, 2, 1, 0] rfl)
  · have h := bb_t h c53
    refine lv_iload_n hx hb dX7_clause_46 rfl (lv_at hl 1 rfl) ?_
    refine lv_if_ne (tgt := 66) hx hb dX7_clause_47 (by decide) (fun c54 => ?_) (fun c54 => ?_)
    · have h := bb_f h c54
      exact J66  v44 v47 v50 S51 h f H locs w hw hn hk ls (lv_sub hl [3, 2, 1, 0] rfl)
    · have h := bb_t h c54
      refine lv_iload_n hx hb dX7_clause_50 rfl (lv_at hl 0 rfl) ?_
      refine lv_if_ne (tgt := 66) hx hb dX7_clause_51 (by decide) (fun c55 => ?_) (fun c55 => ?_)
      · have h := bb_f h c55
        exact J66  v44 v47 v50 S51 h f H locs w hw hn hk ls (lv_sub hl [3, 2, 1, 0] rfl)
      · have h := bb_t h c55
        refine lv_aload_n hx hb dX7_clause_54 rfl (lv_at hl 3 rfl) ?_
        refine lv_iconst (v := 1) hx hb dX7_clause_55 (by decide) ?_
        refine lv_aload_n hx hb dX7_clause_56 rfl (lv_at hl 3 rfl) ?_
        refine u_geti C w hw (hP _ _ (isn_f rfl rfl (by decide))) rfl (N := 57) rfl rfl cin_7 4 (by decide) rfl gw_1160 dX7_clause_57 ?_
        refine u_iv h (fun x56 h => ?_)
        obtain ⟨v57, S58, h59, h⟩ := bd_some h
        refine u_callV (n := 2) C w hw (hP _ _ (isn_f rfl rfl (by decide))) rfl rfl rfl (c_X7_wrong l D K b0 sa _ L _ ad P hP S51 hw hn 1 x56 v57 S58 h59) gw_1390 gw_1387 gw_1389 gs_32 gw_8 ⟨by decide, by decide, by decide +kernel⟩ rfl rfl ⟨by decide, by decide⟩ rfl hl.1 rfl (Nat.le_of_ble_eq_true rfl) dX7_clause_60 ⟨Nat.le_of_ble_eq_true rfl, Nat.le_of_ble_eq_true rfl⟩ (fun v9 u H locs hp w => ?_)
        obtain ⟨f2, rfl, rfl, hw, hn, hk1⟩ := hp
        have hk := hk.tr hk1
        generalize f2 = f at w hw hk
        refine lv_goto (tgt := 84) hx hb dX7_clause_63 (by decide) ?_
        exact J84  v44 v47 v50 S58 h f H locs w hw hn hk ls (lv_sub hl [3, 2, 1, 0] rfl)
theorem dX7_walks_0 : decode cX7_walks 0 = .ok (.aload_n 0, 1) := by decide +kernel
theorem dX7_walks_1 : decode cX7_walks 1 = .ok (.iconst 0, 1) := by decide +kernel
theorem dX7_walks_2 : decode cX7_walks 2 = .ok (.putfield 113, 3) := by decide +kernel
theorem dX7_walks_5 : decode cX7_walks 5 = .ok (.aload_n 0, 1) := by decide +kernel
theorem dX7_walks_6 : decode cX7_walks 6 = .ok (.iconst 0, 1) := by decide +kernel
theorem dX7_walks_7 : decode cX7_walks 7 = .ok (.putfield 145, 3) := by decide +kernel
theorem dX7_walks_10 : decode cX7_walks 10 = .ok (.aload_n 0, 1) := by decide +kernel
theorem dX7_walks_11 : decode cX7_walks 11 = .ok (.iconst 0, 1) := by decide +kernel
theorem dX7_walks_12 : decode cX7_walks 12 = .ok (.putfield 120, 3) := by decide +kernel
theorem dX7_walks_15 : decode cX7_walks 15 = .ok (.aload_n 0, 1) := by decide +kernel
theorem dX7_walks_16 : decode cX7_walks 16 = .ok (.iconst (-1), 1) := by decide +kernel
theorem dX7_walks_17 : decode cX7_walks 17 = .ok (.putfield 123, 3) := by decide +kernel
theorem dX7_walks_20 : decode cX7_walks 20 = .ok (.aload_n 0, 1) := by decide +kernel
theorem dX7_walks_21 : decode cX7_walks 21 = .ok (.iconst 0, 1) := by decide +kernel
theorem dX7_walks_22 : decode cX7_walks 22 = .ok (.putfield 191, 3) := by decide +kernel
theorem dX7_walks_25 : decode cX7_walks 25 = .ok (.aload_n 0, 1) := by decide +kernel
theorem dX7_walks_26 : decode cX7_walks 26 = .ok (.iconst 0, 1) := by decide +kernel
theorem dX7_walks_27 : decode cX7_walks 27 = .ok (.putfield 194, 3) := by decide +kernel
theorem dX7_walks_30 : decode cX7_walks 30 = .ok (.aload_n 0, 1) := by decide +kernel
theorem dX7_walks_31 : decode cX7_walks 31 = .ok (.iconst 0, 1) := by decide +kernel
theorem dX7_walks_32 : decode cX7_walks 32 = .ok (.putfield 197, 3) := by decide +kernel
theorem dX7_walks_35 : decode cX7_walks 35 = .ok (.aload_n 0, 1) := by decide +kernel
theorem dX7_walks_36 : decode cX7_walks 36 = .ok (.iconst 0, 1) := by decide +kernel
theorem dX7_walks_37 : decode cX7_walks 37 = .ok (.putfield 200, 3) := by decide +kernel
theorem dX7_walks_40 : decode cX7_walks 40 = .ok (.aload_n 0, 1) := by decide +kernel
theorem dX7_walks_41 : decode cX7_walks 41 = .ok (.invokevirtual 134, 3) := by decide +kernel
theorem dX7_walks_44 : decode cX7_walks 44 = .ok (.aload_n 0, 1) := by decide +kernel
theorem dX7_walks_45 : decode cX7_walks 45 = .ok (.getfield 120, 3) := by decide +kernel
theorem dX7_walks_48 : decode cX7_walks 48 = .ok (.ifCond .ne 25, 3) := by decide +kernel
theorem dX7_walks_51 : decode cX7_walks 51 = .ok (.aload_n 0, 1) := by decide +kernel
theorem dX7_walks_52 : decode cX7_walks 52 = .ok (.getfield 113, 3) := by decide +kernel
theorem dX7_walks_55 : decode cX7_walks 55 = .ok (.aload_n 0, 1) := by decide +kernel
theorem dX7_walks_56 : decode cX7_walks 56 = .ok (.getfield 107, 3) := by decide +kernel
theorem dX7_walks_59 : decode cX7_walks 59 = .ok (.if_icmp .ge 14, 3) := by decide +kernel
theorem dX7_walks_62 : decode cX7_walks 62 = .ok (.aload_n 0, 1) := by decide +kernel
theorem dX7_walks_63 : decode cX7_walks 63 = .ok (.invokevirtual 203, 3) := by decide +kernel
theorem dX7_walks_66 : decode cX7_walks 66 = .ok (.aload_n 0, 1) := by decide +kernel
theorem dX7_walks_67 : decode cX7_walks 67 = .ok (.invokevirtual 134, 3) := by decide +kernel
theorem dX7_walks_70 : decode cX7_walks 70 = .ok (.goto (-26), 3) := by decide +kernel
theorem dX7_walks_73 : decode cX7_walks 73 = .ok (.return_, 1) := by decide +kernel
noncomputable def B_X7_walks_44 (k44 : (Unit) → fS → Option (Int32 × fS)) : (Unit) → fS → Option (Int32 × fS) := fun _ S => iv (ge S 40 0 6) (fun x1 => bb (x1 = (0 : Int32)) (iv (ge S 40 0 4) (fun x3 => iv (ge S 40 0 2) (fun x4 => bb (x4 ≤ x3) (some (0, S)) (bd (F_X7_clause  S) (fun v6 S7 => bd (F_X7_blanks  S7) (fun v9 S10 => k44 () S10)))))) (some (0, S)))
noncomputable def F_X7_walks  (S0 : fS) : Option (Int32 × fS) := sv (pu S0 40 0 4 0) (fun S12 => sv (pu S12 40 0 5 0) (fun S13 => sv (pu S13 40 0 6 0) (fun S14 => sv (pu S14 40 0 7 (-1)) (fun S15 => sv (pu S15 40 0 9 0) (fun S16 => sv (pu S16 40 0 18 0) (fun S17 => sv (pu S17 40 0 19 0) (fun S18 => sv (pu S18 40 0 20 0) (fun S19 => bd (F_X7_blanks  S19) (fun v20 S21 => lp (B_X7_walks_44 ) fuel () S21)))))))))
set_option maxHeartbeats 4000000 in
set_option maxRecDepth 100000 in
theorem c_X7_walks (l : Launch) (D : va_G) (K : Nat → ClassId) (b0 : Nat) (sa : sT) (sz : Nat) (L : List Nat) (f0 : Nat → va_E) (ad : Nat → Nat → Nat) (P : Nat → Nat → Prop) {n : Nat × Nat} (hP : ∀ a i : Nat, isn n a i → P a i) (S0 : fS) (hw : PW K ad P S0 L f0) (hn : S0.2.2.1 = n)  (v : Int32) (S1 : fS) (h : F_X7_walks  S0 = some (v, S1)) : Met l yX7_walks (.code yX7_walks cX7_walks 1 none :: gt) { frames := 72, cells := 0, slots := 0, locals := 2716 } (va_Pc [.ref (ad 40 0)] (hPre D K b0 sa sz L f0)) (hQ D K b0 (fun v9 u9 => ∃ f2 : Nat → va_E, v9 = none ∧ u9 = lU L f2 ∧ PW K ad P S1 L f2 ∧ S1.2.2.1 = n ∧ Kp ad P L f0 f2)) 0 0 (fun q => b0 ≤ q) := by
  refine t_of (own := RX7) (by decide) rfl ?_ (Nat.le_of_ble_eq_true rfl)
  intro p e s m below meth c ls C w hsz hr hlk hnm hl
  have hx := C.1
  have hb := C.2.1
  have hl : lv_has ls 1 [(0, .ref (ad 40 0))] := hl
  have J44 : ∀ (fu : Nat) (S : fS), lp (B_X7_walks_44 ) fu () S = some (v, S1) → Gw D K b0 sa ad P n L f0 p l e { frames := 72, cells := 0, slots := 0, locals := 2716 } s m [.ref (ad 40 0)].toArray below meth c 1 (MQ below (hQ D K b0 (fun v9 u9 => ∃ f2 : Nat → va_E, v9 = none ∧ u9 = lU L f2 ∧ PW K ad P S1 L f2 ∧ S1.2.2.1 = n ∧ Kp ad P L f0 f2)) [.ref (ad 40 0)].toArray s 0 0 (fun q => b0 ≤ q)) 0 0 44 [(0, .ref (ad 40 0))] [] S := by
    intro fu S h
    refine lp_some (G := (fun q S => Gw D K b0 sa ad P n L f0 p l e { frames := 72, cells := 0, slots := 0, locals := 2716 } s m [.ref (ad 40 0)].toArray below meth c 1 (MQ below (hQ D K b0 (fun v9 u9 => ∃ f2 : Nat → va_E, v9 = none ∧ u9 = lU L f2 ∧ PW K ad P S1 L f2 ∧ S1.2.2.1 = n ∧ Kp ad P L f0 f2)) [.ref (ad 40 0)].toArray s 0 0 (fun q => b0 ≤ q)) 0 0 44 [(0, .ref (ad 40 0))] [] S)) (fun k44 hk44 q S h => ?_) fu () S h
    have hk44 : ∀ (S : fS), k44 () S = some (v, S1) → Gw D K b0 sa ad P n L f0 p l e { frames := 72, cells := 0, slots := 0, locals := 2716 } s m [.ref (ad 40 0)].toArray below meth c 1 (MQ below (hQ D K b0 (fun v9 u9 => ∃ f2 : Nat → va_E, v9 = none ∧ u9 = lU L f2 ∧ PW K ad P S1 L f2 ∧ S1.2.2.1 = n ∧ Kp ad P L f0 f2)) [.ref (ad 40 0)].toArray s 0 0 (fun q => b0 ≤ q)) 0 0 44 [(0, .ref (ad 40 0))] [] S := fun S h => hk44 () S h
    dsimp only [B_X7_walks_44] at h
    intro f H locs w hw hn hk ls hl
    refine lv_aload_n hx hb dX7_walks_44 rfl (lv_at hl 0 rfl) ?_
    refine u_geti C w hw (hP _ _ (isn_f rfl rfl (by decide))) rfl (N := 57) rfl rfl cin_7 6 (by decide) rfl gw_1162 dX7_walks_45 ?_
    refine u_iv h (fun x1 h => ?_)
    refine lv_if_ne (tgt := 73) hx hb dX7_walks_48 (by decide) (fun c2 => ?_) (fun c2 => ?_)
    · have h := bb_f h c2
      exact t_vret C hr hlk w ⟨_, rfl, rfl, so_w h hw, so_n h hn, hk⟩ (by decide) (by decide) dX7_walks_73
    · have h := bb_t h c2
      refine lv_aload_n hx hb dX7_walks_51 rfl (lv_at hl 0 rfl) ?_
      refine u_geti C w hw (hP _ _ (isn_f rfl rfl (by decide))) rfl (N := 57) rfl rfl cin_7 4 (by decide) rfl gw_1160 dX7_walks_52 ?_
      refine u_iv h (fun x3 h => ?_)
      refine lv_aload_n hx hb dX7_walks_55 rfl (lv_at hl 0 rfl) ?_
      refine u_geti C w hw (hP _ _ (isn_f rfl rfl (by decide))) rfl (N := 57) rfl rfl cin_7 2 (by decide) rfl gw_1158 dX7_walks_56 ?_
      refine u_iv h (fun x4 h => ?_)
      refine lv_icmp_ge (tgt := 73) hx hb dX7_walks_59 (by decide) (fun c5 => ?_) (fun c5 => ?_)
      · have h := bb_t h c5
        exact t_vret C hr hlk w ⟨_, rfl, rfl, so_w h hw, so_n h hn, hk⟩ (by decide) (by decide) dX7_walks_73
      · have h := bb_f h c5
        refine lv_aload_n hx hb dX7_walks_62 rfl (lv_at hl 0 rfl) ?_
        obtain ⟨v6, S7, h8, h⟩ := bd_some h
        refine u_callV (n := 0) C w hw (hP _ _ (isn_f rfl rfl (by decide))) rfl rfl rfl (c_X7_clause l D K b0 sa _ L _ ad P hP S hw hn  v6 S7 h8) gw_1429 gw_1426 gw_1428 gs_41 gw_8 ⟨by decide, by decide, by decide +kernel⟩ rfl rfl ⟨by decide, by decide⟩ rfl hl.1 rfl (Nat.le_of_ble_eq_true rfl) dX7_walks_63 ⟨Nat.le_of_ble_eq_true rfl, Nat.le_of_ble_eq_true rfl⟩ (fun v9 u H locs hp w => ?_)
        obtain ⟨f2, rfl, rfl, hw, hn, hk1⟩ := hp
        have hk := hk.tr hk1
        generalize f2 = f at w hw hk
        refine lv_aload_n hx hb dX7_walks_66 rfl (lv_at hl 0 rfl) ?_
        obtain ⟨v9, S10, h11, h⟩ := bd_some h
        refine u_callV (n := 0) C w hw (hP _ _ (isn_f rfl rfl (by decide))) rfl rfl rfl (c_X7_blanks l D K b0 sa _ L _ ad P hP S7 hw hn  v9 S10 h11) gw_1375 gw_1372 gw_1374 gs_29 gw_8 ⟨by decide, by decide, by decide +kernel⟩ rfl rfl ⟨by decide, by decide⟩ rfl hl.1 rfl (Nat.le_of_ble_eq_true rfl) dX7_walks_67 ⟨Nat.le_of_ble_eq_true rfl, Nat.le_of_ble_eq_true rfl⟩ (fun v9 u H locs hp w => ?_)
        obtain ⟨f2, rfl, rfl, hw, hn, hk1⟩ := hp
        have hk := hk.tr hk1
        generalize f2 = f at w hw hk
        refine lv_goto (tgt := 44) hx hb dX7_walks_70 (by decide) ?_
        exact hk44  S10 h f H locs w hw hn hk ls (lv_sub hl [0] rfl)
  dsimp only [F_X7_walks] at h
  obtain ⟨f, ef⟩ : ∃ z, z = f0 := ⟨_, rfl⟩
  rw [← ef] at w hw
  have hk : Kp ad P L f0 f := by rw [ef]; exact Kp.rf
  obtain ⟨H, eH⟩ : ∃ z, z = s.heap := ⟨_, rfl⟩
  obtain ⟨locs, el⟩ : ∃ z : List Loc, z = [] := ⟨_, rfl⟩
  rw [← eH, ← el] at w ⊢
  refine lv_aload_n hx hb dX7_walks_0 rfl (lv_at hl 0 rfl) ?_
  refine lv_iconst (v := 0) hx hb dX7_walks_1 (by decide) ?_
  refine u_puti C w hw (hP _ _ (isn_f rfl rfl (by decide))) rfl (N := 57) rfl rfl cin_7 tyX7 tyX7_ok nmX7 4 (by decide) rfl rfl rfl rfl gw_1160 dX7_walks_2 (fun f H locs w hw hk1 => ?_)
  have hk := hk.tr hk1
  refine u_sv h hw hn (fun S12 h hw hn => ?_)
  refine lv_aload_n hx hb dX7_walks_5 rfl (lv_at hl 0 rfl) ?_
  refine lv_iconst (v := 0) hx hb dX7_walks_6 (by decide) ?_
  refine u_puti C w hw (hP _ _ (isn_f rfl rfl (by decide))) rfl (N := 57) rfl rfl cin_7 tyX7 tyX7_ok nmX7 5 (by decide) rfl rfl rfl rfl gw_1161 dX7_walks_7 (fun f H locs w hw hk1 => ?_)
  have hk := hk.tr hk1
  refine u_sv h hw hn (fun S13 h hw hn => ?_)
  refine lv_aload_n hx hb dX7_walks_10 rfl (lv_at hl 0 rfl) ?_
  refine lv_iconst (v := 0) hx hb dX7_walks_11 (by decide) ?_
  refine u_puti C w hw (hP _ _ (isn_f rfl rfl (by decide))) rfl (N := 57) rfl rfl cin_7 tyX7 tyX7_ok nmX7 6 (by decide) rfl rfl rfl rfl gw_1162 dX7_walks_12 (fun f H locs w hw hk1 => ?_)
  have hk := hk.tr hk1
  refine u_sv h hw hn (fun S14 h hw hn => ?_)
  refine lv_aload_n hx hb dX7_walks_15 rfl (lv_at hl 0 rfl) ?_
  refine lv_iconst (v := (-1)) hx hb dX7_walks_16 (by decide) ?_
  refine u_puti C w hw (hP _ _ (isn_f rfl rfl (by decide))) rfl (N := 57) rfl rfl cin_7 tyX7 tyX7_ok nmX7 7 (by decide) rfl rfl rfl rfl gw_1163 dX7_walks_17 (fun f H locs w hw hk1 => ?_)
  have hk := hk.tr hk1
  refine u_sv h hw hn (fun S15 h hw hn => ?_)
  refine lv_aload_n hx hb dX7_walks_20 rfl (lv_at hl 0 rfl) ?_
  refine lv_iconst (v := 0) hx hb dX7_walks_21 (by decide) ?_
  refine u_puti C w hw (hP _ _ (isn_f rfl rfl (by decide))) rfl (N := 57) rfl rfl cin_7 tyX7 tyX7_ok nmX7 9 (by decide) rfl rfl rfl rfl gw_1165 dX7_walks_22 (fun f H locs w hw hk1 => ?_)
  have hk := hk.tr hk1
  refine u_sv h hw hn (fun S16 h hw hn => ?_)
  refine lv_aload_n hx hb dX7_walks_25 rfl (lv_at hl 0 rfl) ?_
  refine lv_iconst (v := 0) hx hb dX7_walks_26 (by decide) ?_
  refine u_puti C w hw (hP _ _ (isn_f rfl rfl (by decide))) rfl (N := 57) rfl rfl cin_7 tyX7 tyX7_ok nmX7 18 (by decide) rfl rfl rfl rfl gw_1174 dX7_walks_27 (fun f H locs w hw hk1 => ?_)
  have hk := hk.tr hk1
  refine u_sv h hw hn (fun S17 h hw hn => ?_)
  refine lv_aload_n hx hb dX7_walks_30 rfl (lv_at hl 0 rfl) ?_
  refine lv_iconst (v := 0) hx hb dX7_walks_31 (by decide) ?_
  refine u_puti C w hw (hP _ _ (isn_f rfl rfl (by decide))) rfl (N := 57) rfl rfl cin_7 tyX7 tyX7_ok nmX7 19 (by decide) rfl rfl rfl rfl gw_1175 dX7_walks_32 (fun f H locs w hw hk1 => ?_)
  have hk := hk.tr hk1
  refine u_sv h hw hn (fun S18 h hw hn => ?_)
  refine lv_aload_n hx hb dX7_walks_35 rfl (lv_at hl 0 rfl) ?_
  refine lv_iconst (v := 0) hx hb dX7_walks_36 (by decide) ?_
  refine u_puti C w hw (hP _ _ (isn_f rfl rfl (by decide))) rfl (N := 57) rfl rfl cin_7 tyX7 tyX7_ok nmX7 20 (by decide) rfl rfl rfl rfl gw_1176 dX7_walks_37 (fun f H locs w hw hk1 => ?_)
  have hk := hk.tr hk1
  refine u_sv h hw hn (fun S19 h hw hn => ?_)
  refine lv_aload_n hx hb dX7_walks_40 rfl (lv_at hl 0 rfl) ?_
  obtain ⟨v20, S21, h22, h⟩ := bd_some h
  refine u_callV (n := 0) C w hw (hP _ _ (isn_f rfl rfl (by decide))) rfl rfl rfl (c_X7_blanks l D K b0 sa _ L _ ad P hP S19 hw hn  v20 S21 h22) gw_1375 gw_1372 gw_1374 gs_29 gw_8 ⟨by decide, by decide, by decide +kernel⟩ rfl rfl ⟨by decide, by decide⟩ rfl hl.1 rfl (Nat.le_of_ble_eq_true rfl) dX7_walks_41 ⟨Nat.le_of_ble_eq_true rfl, Nat.le_of_ble_eq_true rfl⟩ (fun v9 u H locs hp w => ?_)
  obtain ⟨f2, rfl, rfl, hw, hn, hk1⟩ := hp
  have hk := hk.tr hk1
  generalize f2 = f at w hw hk
  exact J44  fuel  S21 h f H locs w hw hn hk ls (lv_sub hl [0] rfl)
theorem dX7_walksLaw_0 : decode cX7_walksLaw 0 = .ok (.aload_n 0, 1) := by decide +kernel
theorem dX7_walksLaw_1 : decode cX7_walksLaw 1 = .ok (.iconst 0, 1) := by decide +kernel
theorem dX7_walksLaw_2 : decode cX7_walksLaw 2 = .ok (.putfield 113, 3) := by decide +kernel
theorem dX7_walksLaw_5 : decode cX7_walksLaw 5 = .ok (.aload_n 0, 1) := by decide +kernel
theorem dX7_walksLaw_6 : decode cX7_walksLaw 6 = .ok (.iconst 0, 1) := by decide +kernel
theorem dX7_walksLaw_7 : decode cX7_walksLaw 7 = .ok (.putfield 145, 3) := by decide +kernel
theorem dX7_walksLaw_10 : decode cX7_walksLaw 10 = .ok (.aload_n 0, 1) := by decide +kernel
theorem dX7_walksLaw_11 : decode cX7_walksLaw 11 = .ok (.iconst 0, 1) := by decide +kernel
theorem dX7_walksLaw_12 : decode cX7_walksLaw 12 = .ok (.putfield 120, 3) := by decide +kernel
theorem dX7_walksLaw_15 : decode cX7_walksLaw 15 = .ok (.aload_n 0, 1) := by decide +kernel
theorem dX7_walksLaw_16 : decode cX7_walksLaw 16 = .ok (.iconst (-1), 1) := by decide +kernel
theorem dX7_walksLaw_17 : decode cX7_walksLaw 17 = .ok (.putfield 123, 3) := by decide +kernel
theorem dX7_walksLaw_20 : decode cX7_walksLaw 20 = .ok (.aload_n 0, 1) := by decide +kernel
theorem dX7_walksLaw_21 : decode cX7_walksLaw 21 = .ok (.invokevirtual 185, 3) := by decide +kernel
theorem dX7_walksLaw_24 : decode cX7_walksLaw 24 = .ok (.istore_n 1, 1) := by decide +kernel
theorem dX7_walksLaw_25 : decode cX7_walksLaw 25 = .ok (.aload_n 0, 1) := by decide +kernel
theorem dX7_walksLaw_26 : decode cX7_walksLaw 26 = .ok (.getfield 120, 3) := by decide +kernel
theorem dX7_walksLaw_29 : decode cX7_walksLaw 29 = .ok (.ifCond .ne 9, 3) := by decide +kernel
theorem dX7_walksLaw_32 : decode cX7_walksLaw 32 = .ok (.aload_n 0, 1) := by decide +kernel
theorem dX7_walksLaw_33 : decode cX7_walksLaw 33 = .ok (.bipush 59, 2) := by decide +kernel
theorem dX7_walksLaw_35 : decode cX7_walksLaw 35 = .ok (.invokevirtual 172, 3) := by decide +kernel
theorem dX7_walksLaw_38 : decode cX7_walksLaw 38 = .ok (.aload_n 0, 1) := by decide +kernel
theorem dX7_walksLaw_39 : decode cX7_walksLaw 39 = .ok (.invokevirtual 134, 3) := by decide +kernel
theorem dX7_walksLaw_42 : decode cX7_walksLaw 42 = .ok (.aload_n 0, 1) := by decide +kernel
theorem dX7_walksLaw_43 : decode cX7_walksLaw 43 = .ok (.getfield 120, 3) := by decide +kernel
theorem dX7_walksLaw_46 : decode cX7_walksLaw 46 = .ok (.ifCond .ne 23, 3) := by decide +kernel
theorem dX7_walksLaw_49 : decode cX7_walksLaw 49 = .ok (.aload_n 0, 1) := by decide +kernel
theorem dX7_walksLaw_50 : decode cX7_walksLaw 50 = .ok (.getfield 113, 3) := by decide +kernel
theorem dX7_walksLaw_53 : decode cX7_walksLaw 53 = .ok (.aload_n 0, 1) := by decide +kernel
theorem dX7_walksLaw_54 : decode cX7_walksLaw 54 = .ok (.getfield 107, 3) := by decide +kernel
theorem dX7_walksLaw_57 : decode cX7_walksLaw 57 = .ok (.if_icmp .ge 12, 3) := by decide +kernel
theorem dX7_walksLaw_60 : decode cX7_walksLaw 60 = .ok (.aload_n 0, 1) := by decide +kernel
theorem dX7_walksLaw_61 : decode cX7_walksLaw 61 = .ok (.iconst 1, 1) := by decide +kernel
theorem dX7_walksLaw_62 : decode cX7_walksLaw 62 = .ok (.aload_n 0, 1) := by decide +kernel
theorem dX7_walksLaw_63 : decode cX7_walksLaw 63 = .ok (.getfield 113, 3) := by decide +kernel
theorem dX7_walksLaw_66 : decode cX7_walksLaw 66 = .ok (.invokevirtual 130, 3) := by decide +kernel
theorem dX7_walksLaw_69 : decode cX7_walksLaw 69 = .ok (.iload_n 1, 1) := by decide +kernel
theorem dX7_walksLaw_70 : decode cX7_walksLaw 70 = .ok (.ireturn, 1) := by decide +kernel
noncomputable def B_X7_walksLaw_38 (a1 : Int32) (S : fS) : Option (Int32 × fS) := bd (F_X7_blanks  S) (fun v1 S2 => iv (ge S2 40 0 6) (fun x4 => bb (x4 = (0 : Int32)) (iv (ge S2 40 0 4) (fun x7 => iv (ge S2 40 0 2) (fun x8 => bb (x8 ≤ x7) (gd (a1 = 0 ∨ a1 = 1) (some (a1, S2))) (iv (ge S2 40 0 4) (fun x11 => bd (F_X7_wrong 1 x11 S2) (fun v12 S13 => gd (a1 = 0 ∨ a1 = 1) (some (a1, S13)))))))) (gd (a1 = 0 ∨ a1 = 1) (some (a1, S2)))))
noncomputable def F_X7_walksLaw  (S0 : fS) : Option (Int32 × fS) := sv (pu S0 40 0 4 0) (fun S16 => sv (pu S16 40 0 5 0) (fun S17 => sv (pu S17 40 0 6 0) (fun S18 => sv (pu S18 40 0 7 (-1)) (fun S19 => bd (F_X7_ors  S19) (fun v20 S21 => iv (ge S21 40 0 6) (fun x23 => bb (x23 = (0 : Int32)) (bd (F_X7_sign 59 S21) (fun v25 S26 => B_X7_walksLaw_38  v20 S26)) (B_X7_walksLaw_38  v20 S21)))))))
set_option maxHeartbeats 4000000 in
set_option maxRecDepth 100000 in
theorem c_X7_walksLaw (l : Launch) (D : va_G) (K : Nat → ClassId) (b0 : Nat) (sa : sT) (sz : Nat) (L : List Nat) (f0 : Nat → va_E) (ad : Nat → Nat → Nat) (P : Nat → Nat → Prop) {n : Nat × Nat} (hP : ∀ a i : Nat, isn n a i → P a i) (S0 : fS) (hw : PW K ad P S0 L f0) (hn : S0.2.2.1 = n)  (v : Int32) (S1 : fS) (h : F_X7_walksLaw  S0 = some (v, S1)) : Met l yX7_walksLaw (.code yX7_walksLaw cX7_walksLaw 2 (some .boolean) :: gt) { frames := 71, cells := 0, slots := 0, locals := 2690 } (va_Pc [.ref (ad 40 0)] (hPre D K b0 sa sz L f0)) (hQ D K b0 (fun v9 u9 => ∃ f2 : Nat → va_E, v9 = some (.int v) ∧ u9 = lU L f2 ∧ PW K ad P S1 L f2 ∧ S1.2.2.1 = n ∧ Kp ad P L f0 f2)) 0 0 (fun q => b0 ≤ q) := by
  refine t_of (own := RX7) (by decide) rfl ?_ (Nat.le_of_ble_eq_true rfl)
  intro p e s m below meth c ls C w hsz hr hlk hnm hl
  have hx := C.1
  have hb := C.2.1
  have hl : lv_has ls 2 [(0, .ref (ad 40 0))] := hl
  have J38 : ∀ (a1 : Int32) (S : fS), B_X7_walksLaw_38  a1 S = some (v, S1) → Gw D K b0 sa ad P n L f0 p l e { frames := 71, cells := 0, slots := 0, locals := 2690 } s m [.ref (ad 40 0)].toArray below meth c 2 (MQ below (hQ D K b0 (fun v9 u9 => ∃ f2 : Nat → va_E, v9 = some (.int v) ∧ u9 = lU L f2 ∧ PW K ad P S1 L f2 ∧ S1.2.2.1 = n ∧ Kp ad P L f0 f2)) [.ref (ad 40 0)].toArray s 0 0 (fun q => b0 ≤ q)) 0 0 38 [(0, .ref (ad 40 0)), (1, .int a1)] [] S := by
    intro a1 S h
    dsimp only [B_X7_walksLaw_38] at h
    intro f H locs w hw hn hk ls hl
    refine lv_aload_n hx hb dX7_walksLaw_38 rfl (lv_at hl 0 rfl) ?_
    obtain ⟨v1, S2, h3, h⟩ := bd_some h
    refine u_callV (n := 0) C w hw (hP _ _ (isn_f rfl rfl (by decide))) rfl rfl rfl (c_X7_blanks l D K b0 sa _ L _ ad P hP S hw hn  v1 S2 h3) gw_1375 gw_1372 gw_1374 gs_29 gw_8 ⟨by decide, by decide, by decide +kernel⟩ rfl rfl ⟨by decide, by decide⟩ rfl hl.1 rfl (Nat.le_of_ble_eq_true rfl) dX7_walksLaw_39 ⟨Nat.le_of_ble_eq_true rfl, Nat.le_of_ble_eq_true rfl⟩ (fun v9 u H locs hp w => ?_)
    obtain ⟨f2, rfl, rfl, hw, hn, hk1⟩ := hp
    have hk := hk.tr hk1
    generalize f2 = f at w hw hk
    refine lv_aload_n hx hb dX7_walksLaw_42 rfl (lv_at hl 0 rfl) ?_
    refine u_geti C w hw (hP _ _ (isn_f rfl rfl (by decide))) rfl (N := 57) rfl rfl cin_7 6 (by decide) rfl gw_1162 dX7_walksLaw_43 ?_
    refine u_iv h (fun x4 h => ?_)
    refine lv_if_ne (tgt := 69) hx hb dX7_walksLaw_46 (by decide) (fun c5 => ?_) (fun c5 => ?_)
    · have h := bb_f h c5
      refine lv_iload_n hx hb dX7_walksLaw_69 rfl (lv_at hl 1 rfl) ?_
      obtain ⟨g6, h⟩ := gd_some h
      exact t_zret C hr hlk w (narb g6) ⟨_, so_v h, rfl, so_w h hw, so_n h hn, hk⟩ (by decide) (by decide) dX7_walksLaw_70
    · have h := bb_t h c5
      refine lv_aload_n hx hb dX7_walksLaw_49 rfl (lv_at hl 0 rfl) ?_
      refine u_geti C w hw (hP _ _ (isn_f rfl rfl (by decide))) rfl (N := 57) rfl rfl cin_7 4 (by decide) rfl gw_1160 dX7_walksLaw_50 ?_
      refine u_iv h (fun x7 h => ?_)
      refine lv_aload_n hx hb dX7_walksLaw_53 rfl (lv_at hl 0 rfl) ?_
      refine u_geti C w hw (hP _ _ (isn_f rfl rfl (by decide))) rfl (N := 57) rfl rfl cin_7 2 (by decide) rfl gw_1158 dX7_walksLaw_54 ?_
      refine u_iv h (fun x8 h => ?_)
      refine lv_icmp_ge (tgt := 69) hx hb dX7_walksLaw_57 (by decide) (fun c9 => ?_) (fun c9 => ?_)
      · have h := bb_t h c9
        refine lv_iload_n hx hb dX7_walksLaw_69 rfl (lv_at hl 1 rfl) ?_
        obtain ⟨g10, h⟩ := gd_some h
        exact t_zret C hr hlk w (narb g10) ⟨_, so_v h, rfl, so_w h hw, so_n h hn, hk⟩ (by decide) (by decide) dX7_walksLaw_70
      · have h := bb_f h c9
        refine lv_aload_n hx hb dX7_walksLaw_60 rfl (lv_at hl 0 rfl) ?_
        refine lv_iconst (v := 1) hx hb dX7_walksLaw_61 (by decide) ?_
        refine lv_aload_n hx hb dX7_walksLaw_62 rfl (lv_at hl 0 rfl) ?_
        refine u_geti C w hw (hP _ _ (isn_f rfl rfl (by decide))) rfl (N := 57) rfl rfl cin_7 4 (by decide) rfl gw_1160 dX7_walksLaw_63 ?_
        refine u_iv h (fun x11 h => ?_)
        obtain ⟨v12, S13, h14, h⟩ := bd_some h
        refine u_callV (n := 2) C w hw (hP _ _ (isn_f rfl rfl (by decide))) rfl rfl rfl (c_X7_wrong l D K b0 sa _ L _ ad P hP S2 hw hn 1 x11 v12 S13 h14) gw_1390 gw_1387 gw_1389 gs_32 gw_8 ⟨by decide, by decide, by decide +kernel⟩ rfl rfl ⟨by decide, by decide⟩ rfl hl.1 rfl (Nat.le_of_ble_eq_true rfl) dX7_walksLaw_66 ⟨Nat.le_of_ble_eq_true rfl, Nat.le_of_ble_eq_true rfl⟩ (fun v9 u H locs hp w => ?_)
        obtain ⟨f2, rfl, rfl, hw, hn, hk1⟩ := hp
        have hk := hk.tr hk1
        generalize f2 = f at w hw hk
        refine lv_iload_n hx hb dX7_walksLaw_69 rfl (lv_at hl 1 rfl) ?_
        obtain ⟨g15, h⟩ := gd_some h
        exact t_zret C hr hlk w (narb g15) ⟨_, so_v h, rfl, so_w h hw, so_n h hn, hk⟩ (by decide) (by decide) dX7_walksLaw_70
  dsimp only [F_X7_walksLaw] at h
  obtain ⟨f, ef⟩ : ∃ z, z = f0 := ⟨_, rfl⟩
  rw [← ef] at w hw
  have hk : Kp ad P L f0 f := by rw [ef]; exact Kp.rf
  obtain ⟨H, eH⟩ : ∃ z, z = s.heap := ⟨_, rfl⟩
  obtain ⟨locs, el⟩ : ∃ z : List Loc, z = [] := ⟨_, rfl⟩
  rw [← eH, ← el] at w ⊢
  refine lv_aload_n hx hb dX7_walksLaw_0 rfl (lv_at hl 0 rfl) ?_
  refine lv_iconst (v := 0) hx hb dX7_walksLaw_1 (by decide) ?_
  refine u_puti C w hw (hP _ _ (isn_f rfl rfl (by decide))) rfl (N := 57) rfl rfl cin_7 tyX7 tyX7_ok nmX7 4 (by decide) rfl rfl rfl rfl gw_1160 dX7_walksLaw_2 (fun f H locs w hw hk1 => ?_)
  have hk := hk.tr hk1
  refine u_sv h hw hn (fun S16 h hw hn => ?_)
  refine lv_aload_n hx hb dX7_walksLaw_5 rfl (lv_at hl 0 rfl) ?_
  refine lv_iconst (v := 0) hx hb dX7_walksLaw_6 (by decide) ?_
  refine u_puti C w hw (hP _ _ (isn_f rfl rfl (by decide))) rfl (N := 57) rfl rfl cin_7 tyX7 tyX7_ok nmX7 5 (by decide) rfl rfl rfl rfl gw_1161 dX7_walksLaw_7 (fun f H locs w hw hk1 => ?_)
  have hk := hk.tr hk1
  refine u_sv h hw hn (fun S17 h hw hn => ?_)
  refine lv_aload_n hx hb dX7_walksLaw_10 rfl (lv_at hl 0 rfl) ?_
  refine lv_iconst (v := 0) hx hb dX7_walksLaw_11 (by decide) ?_
  refine u_puti C w hw (hP _ _ (isn_f rfl rfl (by decide))) rfl (N := 57) rfl rfl cin_7 tyX7 tyX7_ok nmX7 6 (by decide) rfl rfl rfl rfl gw_1162 dX7_walksLaw_12 (fun f H locs w hw hk1 => ?_)
  have hk := hk.tr hk1
  refine u_sv h hw hn (fun S18 h hw hn => ?_)
  refine lv_aload_n hx hb dX7_walksLaw_15 rfl (lv_at hl 0 rfl) ?_
  refine lv_iconst (v := (-1)) hx hb dX7_walksLaw_16 (by decide) ?_
  refine u_puti C w hw (hP _ _ (isn_f rfl rfl (by decide))) rfl (N := 57) rfl rfl cin_7 tyX7 tyX7_ok nmX7 7 (by decide) rfl rfl rfl rfl gw_1163 dX7_walksLaw_17 (fun f H locs w hw hk1 => ?_)
  have hk := hk.tr hk1
  refine u_sv h hw hn (fun S19 h hw hn => ?_)
  refine lv_aload_n hx hb dX7_walksLaw_20 rfl (lv_at hl 0 rfl) ?_
  obtain ⟨v20, S21, h22, h⟩ := bd_some h
  refine u_callV (n := 0) C w hw (hP _ _ (isn_f rfl rfl (by decide))) rfl rfl rfl (c_X7_ors l D K b0 sa _ L _ ad P hP S19 hw hn  v20 S21 h22) gw_1355 gw_1352 gw_1354 gs_24 gw_8 ⟨by decide, by decide, by decide +kernel⟩ rfl rfl ⟨by decide, by decide⟩ rfl hl.1 rfl (Nat.le_of_ble_eq_true rfl) dX7_walksLaw_21 ⟨Nat.le_of_ble_eq_true rfl, Nat.le_of_ble_eq_true rfl⟩ (fun v9 u H locs hp w => ?_)
  obtain ⟨f2, rfl, rfl, hw, hn, hk1⟩ := hp
  have hk := hk.tr hk1
  generalize f2 = f at w hw hk
  refine lv_istore_n (lv' := [(1, .int v20), (0, .ref (ad 40 0))]) hx hb dX7_walksLaw_24 rfl hl (by decide) rfl (fun ls hl => ?_)
  refine lv_aload_n hx hb dX7_walksLaw_25 rfl (lv_at hl 1 rfl) ?_
  refine u_geti C w hw (hP _ _ (isn_f rfl rfl (by decide))) rfl (N := 57) rfl rfl cin_7 6 (by decide) rfl gw_1162 dX7_walksLaw_26 ?_
  refine u_iv h (fun x23 h => ?_)
  refine lv_if_ne (tgt := 38) hx hb dX7_walksLaw_29 (by decide) (fun c24 => ?_) (fun c24 => ?_)
  · have h := bb_f h c24
    exact J38  v20 S21 h f H locs w hw hn hk ls (lv_sub hl [1, 0] rfl)
  · have h := bb_t h c24
    refine lv_aload_n hx hb dX7_walksLaw_32 rfl (lv_at hl 1 rfl) ?_
    refine lv_bipush (v := 59) hx hb dX7_walksLaw_33 (by decide) ?_
    obtain ⟨v25, S26, h27, h⟩ := bd_some h
    refine u_callV (n := 1) C w hw (hP _ _ (isn_f rfl rfl (by decide))) rfl rfl rfl (c_X7_sign l D K b0 sa _ L _ ad P hP S21 hw hn 59 v25 S26 h27) gw_1394 gw_1391 gw_1393 gs_33 gw_8 ⟨by decide, by decide, by decide +kernel⟩ rfl rfl ⟨by decide, by decide⟩ rfl hl.1 rfl (Nat.le_of_ble_eq_true rfl) dX7_walksLaw_35 ⟨Nat.le_of_ble_eq_true rfl, Nat.le_of_ble_eq_true rfl⟩ (fun v9 u H locs hp w => ?_)
    obtain ⟨f2, rfl, rfl, hw, hn, hk1⟩ := hp
    have hk := hk.tr hk1
    generalize f2 = f at w hw hk
    exact J38  v20 S26 h f H locs w hw hn hk ls (lv_sub hl [1, 0] rfl)
theorem dX7_program_0 : decode cX7_program 0 = .ok (.aload_n 0, 1) := by decide +kernel
theorem dX7_program_1 : decode cX7_program 1 = .ok (.iconst 0, 1) := by decide +kernel
theorem dX7_program_2 : decode cX7_program 2 = .ok (.putfield 97, 3) := by decide +kernel
theorem dX7_program_5 : decode cX7_program 5 = .ok (.aload_n 0, 1) := by decide +kernel
theorem dX7_program_6 : decode cX7_program 6 = .ok (.iload_n 1, 1) := by decide +kernel
theorem dX7_program_7 : decode cX7_program 7 = .ok (.iconst 0, 1) := by decide +kernel
theorem dX7_program_8 : decode cX7_program 8 = .ok (.aload_n 0, 1) := by decide +kernel
theorem dX7_program_9 : decode cX7_program 9 = .ok (.getfield 104, 3) := by decide +kernel
theorem dX7_program_12 : decode cX7_program 12 = .ok (.invokestatic 100, 3) := by decide +kernel
theorem dX7_program_15 : decode cX7_program 15 = .ok (.ifCond .ne 7, 3) := by decide +kernel
theorem dX7_program_18 : decode cX7_program 18 = .ok (.iconst 1, 1) := by decide +kernel
theorem dX7_program_19 : decode cX7_program 19 = .ok (.goto 4, 3) := by decide +kernel
theorem dX7_program_22 : decode cX7_program 22 = .ok (.iconst 0, 1) := by decide +kernel
theorem dX7_program_23 : decode cX7_program 23 = .ok (.iconst 1, 1) := by decide +kernel
theorem dX7_program_24 : decode cX7_program 24 = .ok (.invokevirtual 206, 3) := by decide +kernel
theorem dX7_program_27 : decode cX7_program 27 = .ok (.ifCond .eq 5, 3) := by decide +kernel
theorem dX7_program_30 : decode cX7_program 30 = .ok (.iconst 0, 1) := by decide +kernel
theorem dX7_program_31 : decode cX7_program 31 = .ok (.ireturn, 1) := by decide +kernel
theorem dX7_program_32 : decode cX7_program 32 = .ok (.aload_n 0, 1) := by decide +kernel
theorem dX7_program_33 : decode cX7_program 33 = .ok (.iconst 0, 1) := by decide +kernel
theorem dX7_program_34 : decode cX7_program 34 = .ok (.putfield 104, 3) := by decide +kernel
theorem dX7_program_37 : decode cX7_program 37 = .ok (.aload_n 0, 1) := by decide +kernel
theorem dX7_program_38 : decode cX7_program 38 = .ok (.iconst (-1), 1) := by decide +kernel
theorem dX7_program_39 : decode cX7_program 39 = .ok (.putfield 11, 3) := by decide +kernel
theorem dX7_program_42 : decode cX7_program 42 = .ok (.iload_n 2, 1) := by decide +kernel
theorem dX7_program_43 : decode cX7_program 43 = .ok (.ifCond .eq 14, 3) := by decide +kernel
theorem dX7_program_46 : decode cX7_program 46 = .ok (.aload_n 0, 1) := by decide +kernel
theorem dX7_program_47 : decode cX7_program 47 = .ok (.getfield 210, 3) := by decide +kernel
theorem dX7_program_50 : decode cX7_program 50 = .ok (.iconst 3, 1) := by decide +kernel
theorem dX7_program_51 : decode cX7_program 51 = .ok (.if_icmp .ne 17, 3) := by decide +kernel
theorem dX7_program_54 : decode cX7_program 54 = .ok (.goto 12, 3) := by decide +kernel
theorem dX7_program_57 : decode cX7_program 57 = .ok (.aload_n 0, 1) := by decide +kernel
theorem dX7_program_58 : decode cX7_program 58 = .ok (.getfield 213, 3) := by decide +kernel
theorem dX7_program_61 : decode cX7_program 61 = .ok (.bipush 6, 2) := by decide +kernel
theorem dX7_program_63 : decode cX7_program 63 = .ok (.if_icmp .ne 5, 3) := by decide +kernel
theorem dX7_program_66 : decode cX7_program 66 = .ok (.iconst (-1), 1) := by decide +kernel
theorem dX7_program_67 : decode cX7_program 67 = .ok (.ireturn, 1) := by decide +kernel
theorem dX7_program_68 : decode cX7_program 68 = .ok (.aload_n 0, 1) := by decide +kernel
theorem dX7_program_69 : decode cX7_program 69 = .ok (.iconst (-1), 1) := by decide +kernel
theorem dX7_program_70 : decode cX7_program 70 = .ok (.putfield 110, 3) := by decide +kernel
theorem dX7_program_73 : decode cX7_program 73 = .ok (.aload_n 0, 1) := by decide +kernel
theorem dX7_program_74 : decode cX7_program 74 = .ok (.iload_n 1, 1) := by decide +kernel
theorem dX7_program_75 : decode cX7_program 75 = .ok (.putfield 107, 3) := by decide +kernel
theorem dX7_program_78 : decode cX7_program 78 = .ok (.aload_n 0, 1) := by decide +kernel
theorem dX7_program_79 : decode cX7_program 79 = .ok (.iload_n 2, 1) := by decide +kernel
theorem dX7_program_80 : decode cX7_program 80 = .ok (.putfield 152, 3) := by decide +kernel
theorem dX7_program_83 : decode cX7_program 83 = .ok (.iload_n 2, 1) := by decide +kernel
theorem dX7_program_84 : decode cX7_program 84 = .ok (.ifCond .eq 11, 3) := by decide +kernel
theorem dX7_program_87 : decode cX7_program 87 = .ok (.aload_n 0, 1) := by decide +kernel
theorem dX7_program_88 : decode cX7_program 88 = .ok (.invokevirtual 216, 3) := by decide +kernel
theorem dX7_program_91 : decode cX7_program 91 = .ok (.pop, 1) := by decide +kernel
theorem dX7_program_92 : decode cX7_program 92 = .ok (.goto 7, 3) := by decide +kernel
theorem dX7_program_95 : decode cX7_program 95 = .ok (.aload_n 0, 1) := by decide +kernel
theorem dX7_program_96 : decode cX7_program 96 = .ok (.invokevirtual 219, 3) := by decide +kernel
theorem dX7_program_99 : decode cX7_program 99 = .ok (.aload_n 0, 1) := by decide +kernel
theorem dX7_program_100 : decode cX7_program 100 = .ok (.aload_n 0, 1) := by decide +kernel
theorem dX7_program_101 : decode cX7_program 101 = .ok (.getfield 123, 3) := by decide +kernel
theorem dX7_program_104 : decode cX7_program 104 = .ok (.putfield 11, 3) := by decide +kernel
theorem dX7_program_107 : decode cX7_program 107 = .ok (.aload_n 0, 1) := by decide +kernel
theorem dX7_program_108 : decode cX7_program 108 = .ok (.getfield 120, 3) := by decide +kernel
theorem dX7_program_111 : decode cX7_program 111 = .ok (.ifCond .eq 11, 3) := by decide +kernel
theorem dX7_program_114 : decode cX7_program 114 = .ok (.aload_n 0, 1) := by decide +kernel
theorem dX7_program_115 : decode cX7_program 115 = .ok (.getfield 120, 3) := by decide +kernel
theorem dX7_program_118 : decode cX7_program 118 = .ok (.bipush 10, 2) := by decide +kernel
theorem dX7_program_120 : decode cX7_program 120 = .ok (.isub, 1) := by decide +kernel
theorem dX7_program_121 : decode cX7_program 121 = .ok (.ireturn, 1) := by decide +kernel
theorem dX7_program_122 : decode cX7_program 122 = .ok (.iload_n 2, 1) := by decide +kernel
theorem dX7_program_123 : decode cX7_program 123 = .ok (.ifCond .eq 13, 3) := by decide +kernel
theorem dX7_program_126 : decode cX7_program 126 = .ok (.bipush 6, 2) := by decide +kernel
theorem dX7_program_128 : decode cX7_program 128 = .ok (.aload_n 0, 1) := by decide +kernel
theorem dX7_program_129 : decode cX7_program 129 = .ok (.getfield 210, 3) := by decide +kernel
theorem dX7_program_132 : decode cX7_program 132 = .ok (.iadd, 1) := by decide +kernel
theorem dX7_program_133 : decode cX7_program 133 = .ok (.goto 7, 3) := by decide +kernel
theorem dX7_program_136 : decode cX7_program 136 = .ok (.aload_n 0, 1) := by decide +kernel
theorem dX7_program_137 : decode cX7_program 137 = .ok (.getfield 213, 3) := by decide +kernel
theorem dX7_program_140 : decode cX7_program 140 = .ok (.istore_n 3, 1) := by decide +kernel
theorem dX7_program_141 : decode cX7_program 141 = .ok (.iconst 0, 1) := by decide +kernel
theorem dX7_program_142 : decode cX7_program 142 = .ok (.istore 4, 2) := by decide +kernel
theorem dX7_program_144 : decode cX7_program 144 = .ok (.iload 4, 2) := by decide +kernel
theorem dX7_program_146 : decode cX7_program 146 = .ok (.iload_n 1, 1) := by decide +kernel
theorem dX7_program_147 : decode cX7_program 147 = .ok (.if_icmp .ge 25, 3) := by decide +kernel
theorem dX7_program_150 : decode cX7_program 150 = .ok (.aload_n 0, 1) := by decide +kernel
theorem dX7_program_151 : decode cX7_program 151 = .ok (.getfield 21, 3) := by decide +kernel
theorem dX7_program_154 : decode cX7_program 154 = .ok (.iload_n 3, 1) := by decide +kernel
theorem dX7_program_155 : decode cX7_program 155 = .ok (.aaload, 1) := by decide +kernel
theorem dX7_program_156 : decode cX7_program 156 = .ok (.iload 4, 2) := by decide +kernel
theorem dX7_program_158 : decode cX7_program 158 = .ok (.aload_n 0, 1) := by decide +kernel
theorem dX7_program_159 : decode cX7_program 159 = .ok (.getfield 15, 3) := by decide +kernel
theorem dX7_program_162 : decode cX7_program 162 = .ok (.iload 4, 2) := by decide +kernel
theorem dX7_program_164 : decode cX7_program 164 = .ok (.iaload, 1) := by decide +kernel
theorem dX7_program_165 : decode cX7_program 165 = .ok (.iastore, 1) := by decide +kernel
theorem dX7_program_166 : decode cX7_program 166 = .ok (.iinc 4 1, 3) := by decide +kernel
theorem dX7_program_169 : decode cX7_program 169 = .ok (.goto (-25), 3) := by decide +kernel
theorem dX7_program_172 : decode cX7_program 172 = .ok (.aload_n 0, 1) := by decide +kernel
theorem dX7_program_173 : decode cX7_program 173 = .ok (.getfield 24, 3) := by decide +kernel
theorem dX7_program_176 : decode cX7_program 176 = .ok (.iload_n 3, 1) := by decide +kernel
theorem dX7_program_177 : decode cX7_program 177 = .ok (.iload_n 1, 1) := by decide +kernel
theorem dX7_program_178 : decode cX7_program 178 = .ok (.iastore, 1) := by decide +kernel
theorem dX7_program_179 : decode cX7_program 179 = .ok (.iload_n 2, 1) := by decide +kernel
theorem dX7_program_180 : decode cX7_program 180 = .ok (.ifCond .eq 16, 3) := by decide +kernel
theorem dX7_program_183 : decode cX7_program 183 = .ok (.aload_n 0, 1) := by decide +kernel
theorem dX7_program_184 : decode cX7_program 184 = .ok (.dup, 1) := by decide +kernel
theorem dX7_program_185 : decode cX7_program 185 = .ok (.getfield 210, 3) := by decide +kernel
theorem dX7_program_188 : decode cX7_program 188 = .ok (.iconst 1, 1) := by decide +kernel
theorem dX7_program_189 : decode cX7_program 189 = .ok (.iadd, 1) := by decide +kernel
theorem dX7_program_190 : decode cX7_program 190 = .ok (.putfield 210, 3) := by decide +kernel
theorem dX7_program_193 : decode cX7_program 193 = .ok (.goto 13, 3) := by decide +kernel
theorem dX7_program_196 : decode cX7_program 196 = .ok (.aload_n 0, 1) := by decide +kernel
theorem dX7_program_197 : decode cX7_program 197 = .ok (.dup, 1) := by decide +kernel
theorem dX7_program_198 : decode cX7_program 198 = .ok (.getfield 213, 3) := by decide +kernel
theorem dX7_program_201 : decode cX7_program 201 = .ok (.iconst 1, 1) := by decide +kernel
theorem dX7_program_202 : decode cX7_program 202 = .ok (.iadd, 1) := by decide +kernel
theorem dX7_program_203 : decode cX7_program 203 = .ok (.putfield 213, 3) := by decide +kernel
theorem dX7_program_206 : decode cX7_program 206 = .ok (.iload_n 2, 1) := by decide +kernel
theorem dX7_program_207 : decode cX7_program 207 = .ok (.ifCond .eq 12, 3) := by decide +kernel
theorem dX7_program_210 : decode cX7_program 210 = .ok (.aload_n 0, 1) := by decide +kernel
theorem dX7_program_211 : decode cX7_program 211 = .ok (.getfield 210, 3) := by decide +kernel
theorem dX7_program_214 : decode cX7_program 214 = .ok (.iconst 1, 1) := by decide +kernel
theorem dX7_program_215 : decode cX7_program 215 = .ok (.isub, 1) := by decide +kernel
theorem dX7_program_216 : decode cX7_program 216 = .ok (.goto 9, 3) := by decide +kernel
theorem dX7_program_219 : decode cX7_program 219 = .ok (.aload_n 0, 1) := by decide +kernel
theorem dX7_program_220 : decode cX7_program 220 = .ok (.getfield 213, 3) := by decide +kernel
theorem dX7_program_223 : decode cX7_program 223 = .ok (.iconst 1, 1) := by decide +kernel
theorem dX7_program_224 : decode cX7_program 224 = .ok (.isub, 1) := by decide +kernel
theorem dX7_program_225 : decode cX7_program 225 = .ok (.ireturn, 1) := by decide +kernel
noncomputable def B_X7_program_206 (a2 : Int32) (S : fS) : Option (Int32 × fS) := bb (a2 = (0 : Int32)) (iv (ge S 40 0 13) (fun x2 => iv (x2 - (1 : Int32)) (fun x3 => some (x3, S)))) (iv (ge S 40 0 14) (fun x4 => iv (x4 - (1 : Int32)) (fun x5 => some (x5, S))))
noncomputable def B_X7_program_144 (k144 : (Int32 × Int32 × Int32 × Int32) → fS → Option (Int32 × fS)) : (Int32 × Int32 × Int32 × Int32) → fS → Option (Int32 × fS) := fun ⟨a1, a2, a3, a4⟩ S => bb (a1 ≤ a4) (gd (ib a3 9) (sv (pu S 44 0 (a3 : Int32).toNatClampNeg a1) (fun S8 => bb (a2 = (0 : Int32)) (iv (ge S8 40 0 13) (fun x10 => iv (x10 + (1 : Int32)) (fun x11 => sv (pu S8 40 0 13 x11) (fun S12 => B_X7_program_206  a2 S12)))) (iv (ge S8 40 0 14) (fun x13 => iv (x13 + (1 : Int32)) (fun x14 => sv (pu S8 40 0 14 x14) (fun S15 => B_X7_program_206  a2 S15))))))) (gd (ib a3 9) (gd (ib a4 300) (iv (ge S 41 0 (a4 : Int32).toNatClampNeg) (fun x18 => gd (ib a4 300) (sv (pu S 43 (a3.toNatClampNeg) (a4 : Int32).toNatClampNeg x18) (fun S20 => iv (a4 + Int32.ofInt 1) (fun x21 => k144 (a1, a2, a3, x21) S20)))))))
noncomputable def B_X7_program_140 (a1 : Int32) (a2 : Int32) (t0 : Int32) (S : fS) : Option (Int32 × fS) := lp (B_X7_program_144 ) fuel (a1, a2, t0, 0) S
noncomputable def B_X7_program_99 (a1 : Int32) (a2 : Int32) (S : fS) : Option (Int32 × fS) := iv (ge S 40 0 7) (fun x22 => sv (pu S 40 0 3 x22) (fun S23 => iv (ge S23 40 0 6) (fun x24 => bb (x24 = (0 : Int32)) (bb (a2 = (0 : Int32)) (iv (ge S23 40 0 13) (fun x27 => B_X7_program_140  a1 a2 x27 S23)) (iv (ge S23 40 0 14) (fun x28 => iv ((6 : Int32) + x28) (fun x29 => B_X7_program_140  a1 a2 x29 S23)))) (iv (ge S23 40 0 6) (fun x30 => iv (x30 - (10 : Int32)) (fun x31 => some (x31, S23)))))))
noncomputable def B_X7_program_68 (a1 : Int32) (a2 : Int32) (S : fS) : Option (Int32 × fS) := sv (pu S 40 0 8 (-1)) (fun S32 => sv (pu S32 40 0 2 a1) (fun S33 => gd (a2 = 0 ∨ a2 = 1) (sv (pu S33 40 0 16 a2) (fun S35 => bb (a2 = (0 : Int32)) (bd (F_X7_walks  S35) (fun v37 S38 => B_X7_program_99  a1 a2 S38)) (bd (F_X7_walksLaw  S35) (fun v40 S41 => B_X7_program_99  a1 a2 S41))))))
noncomputable def B_X7_program_23 (a1 : Int32) (a2 : Int32) (t0 : Int32) (S : fS) : Option (Int32 × fS) := bd (F_X7_bad t0 1 S) (fun v43 S44 => bb (v43 = (0 : Int32)) (sv (pu S44 40 0 1 0) (fun S47 => sv (pu S47 40 0 3 (-1)) (fun S48 => bb (a2 = (0 : Int32)) (iv (ge S48 40 0 13) (fun x50 => bb (x50 = (6 : Int32)) (some ((-1), S48)) (B_X7_program_68  a1 a2 S48))) (iv (ge S48 40 0 14) (fun x52 => bb (x52 = (3 : Int32)) (some ((-1), S48)) (B_X7_program_68  a1 a2 S48)))))) (some (0, S44)))
noncomputable def F_X7_program (p1 : Int32) (p2 : Int32) (S0 : fS) : Option (Int32 × fS) := sv (pu S0 40 0 0 0) (fun S54 => iv (ge S54 40 0 1) (fun x55 => bd (F_X7_in p1 0 x55 S54) (fun v56 S57 => bb (v56 = (0 : Int32)) (B_X7_program_23  p1 p2 1 S57) (B_X7_program_23  p1 p2 0 S57))))
set_option maxHeartbeats 4000000 in
set_option maxRecDepth 100000 in
theorem c_X7_program (l : Launch) (D : va_G) (K : Nat → ClassId) (b0 : Nat) (sa : sT) (sz : Nat) (L : List Nat) (f0 : Nat → va_E) (ad : Nat → Nat → Nat) (P : Nat → Nat → Prop) {n : Nat × Nat} (hP : ∀ a i : Nat, isn n a i → P a i) (S0 : fS) (hw : PW K ad P S0 L f0) (hn : S0.2.2.1 = n) (p1 : Int32) (p2 : Int32) (v : Int32) (S1 : fS) (h : F_X7_program p1 p2 S0 = some (v, S1)) : Met l yX7_program (.code yX7_program cX7_program 5 (some .int) :: gt) { frames := 73, cells := 0, slots := 0, locals := 2736 } (va_Pc [.ref (ad 40 0), .int p1, .int p2] (hPre D K b0 sa sz L f0)) (hQ D K b0 (fun v9 u9 => ∃ f2 : Nat → va_E, v9 = some (.int v) ∧ u9 = lU L f2 ∧ PW K ad P S1 L f2 ∧ S1.2.2.1 = n ∧ Kp ad P L f0 f2)) 0 0 (fun q => b0 ≤ q) := by
  refine t_of (own := RX7) (by decide) rfl ?_ (Nat.le_of_ble_eq_true rfl)
  intro p e s m below meth c ls C w hsz hr hlk hnm hl
  have hx := C.1
  have hb := C.2.1
  have hl : lv_has ls 5 [(0, .ref (ad 40 0)), (1, .int p1), (2, .int p2)] := hl
  have J206 : ∀ (a2 : Int32) (S : fS), B_X7_program_206  a2 S = some (v, S1) → Gw D K b0 sa ad P n L f0 p l e { frames := 73, cells := 0, slots := 0, locals := 2736 } s m [.ref (ad 40 0), .int p1, .int p2].toArray below meth c 5 (MQ below (hQ D K b0 (fun v9 u9 => ∃ f2 : Nat → va_E, v9 = some (.int v) ∧ u9 = lU L f2 ∧ PW K ad P S1 L f2 ∧ S1.2.2.1 = n ∧ Kp ad P L f0 f2)) [.ref (ad 40 0), .int p1, .int p2].toArray s 0 0 (fun q => b0 ≤ q)) 0 0 206 [(0, .ref (ad 40 0)), (2, .int a2)] [] S := by
    intro a2 S h
    dsimp only [B_X7_program_206] at h
    intro f H locs w hw hn hk ls hl
    refine lv_iload_n hx hb dX7_program_206 rfl (lv_at hl 1 rfl) ?_
    refine lv_if_eq (tgt := 219) hx hb dX7_program_207 (by decide) (fun c1 => ?_) (fun c1 => ?_)
    · have h := bb_t h c1
      refine lv_aload_n hx hb dX7_program_219 rfl (lv_at hl 0 rfl) ?_
      refine u_geti C w hw (hP _ _ (isn_f rfl rfl (by decide))) rfl (N := 57) rfl rfl cin_7 13 (by decide) rfl gw_1169 dX7_program_220 ?_
      refine u_iv h (fun x2 h => ?_)
      refine lv_iconst (v := 1) hx hb dX7_program_223 (by decide) ?_
      refine lv_isub hx hb dX7_program_224 ?_
      refine u_iv h (fun x3 h => ?_)
      exact t_iret C hr hlk w ⟨_, so_v h, rfl, so_w h hw, so_n h hn, hk⟩ (by decide) (by decide) dX7_program_225
    · have h := bb_f h c1
      refine lv_aload_n hx hb dX7_program_210 rfl (lv_at hl 0 rfl) ?_
      refine u_geti C w hw (hP _ _ (isn_f rfl rfl (by decide))) rfl (N := 57) rfl rfl cin_7 14 (by decide) rfl gw_1170 dX7_program_211 ?_
      refine u_iv h (fun x4 h => ?_)
      refine lv_iconst (v := 1) hx hb dX7_program_214 (by decide) ?_
      refine lv_isub hx hb dX7_program_215 ?_
      refine u_iv h (fun x5 h => ?_)
      refine lv_goto (tgt := 225) hx hb dX7_program_216 (by decide) ?_
      exact t_iret C hr hlk w ⟨_, so_v h, rfl, so_w h hw, so_n h hn, hk⟩ (by decide) (by decide) dX7_program_225
  have J144 : ∀ (fu : Nat) (a1 : Int32) (a2 : Int32) (a3 : Int32) (a4 : Int32) (S : fS), lp (B_X7_program_144 ) fu (a1, a2, a3, a4) S = some (v, S1) → Gw D K b0 sa ad P n L f0 p l e { frames := 73, cells := 0, slots := 0, locals := 2736 } s m [.ref (ad 40 0), .int p1, .int p2].toArray below meth c 5 (MQ below (hQ D K b0 (fun v9 u9 => ∃ f2 : Nat → va_E, v9 = some (.int v) ∧ u9 = lU L f2 ∧ PW K ad P S1 L f2 ∧ S1.2.2.1 = n ∧ Kp ad P L f0 f2)) [.ref (ad 40 0), .int p1, .int p2].toArray s 0 0 (fun q => b0 ≤ q)) 0 0 144 [(0, .ref (ad 40 0)), (1, .int a1), (2, .int a2), (3, .int a3), (4, .int a4)] [] S := by
    intro fu a1 a2 a3 a4 S h
    refine lp_some (G := (fun q S => Gw D K b0 sa ad P n L f0 p l e { frames := 73, cells := 0, slots := 0, locals := 2736 } s m [.ref (ad 40 0), .int p1, .int p2].toArray below meth c 5 (MQ below (hQ D K b0 (fun v9 u9 => ∃ f2 : Nat → va_E, v9 = some (.int v) ∧ u9 = lU L f2 ∧ PW K ad P S1 L f2 ∧ S1.2.2.1 = n ∧ Kp ad P L f0 f2)) [.ref (ad 40 0), .int p1, .int p2].toArray s 0 0 (fun q => b0 ≤ q)) 0 0 144 [(0, .ref (ad 40 0)), (1, .int q.1), (2, .int q.2.1), (3, .int q.2.2.1), (4, .int q.2.2.2)] [] S)) (fun k144 hk144 q S h => ?_) fu (a1, a2, a3, a4) S h
    obtain ⟨a1, a2, a3, a4⟩ := q
    have hk144 : ∀ (a1 : Int32) (a2 : Int32) (a3 : Int32) (a4 : Int32) (S : fS), k144 (a1, a2, a3, a4) S = some (v, S1) → Gw D K b0 sa ad P n L f0 p l e { frames := 73, cells := 0, slots := 0, locals := 2736 } s m [.ref (ad 40 0), .int p1, .int p2].toArray below meth c 5 (MQ below (hQ D K b0 (fun v9 u9 => ∃ f2 : Nat → va_E, v9 = some (.int v) ∧ u9 = lU L f2 ∧ PW K ad P S1 L f2 ∧ S1.2.2.1 = n ∧ Kp ad P L f0 f2)) [.ref (ad 40 0), .int p1, .int p2].toArray s 0 0 (fun q => b0 ≤ q)) 0 0 144 [(0, .ref (ad 40 0)), (1, .int a1), (2, .int a2), (3, .int a3), (4, .int a4)] [] S := fun a1 a2 a3 a4 S h => hk144 (a1, a2, a3, a4) S h
    dsimp only [B_X7_program_144] at h
    intro f H locs w hw hn hk ls hl
    refine lv_iload hx hb dX7_program_144 (lv_at hl 4 rfl) ?_
    refine lv_iload_n hx hb dX7_program_146 rfl (lv_at hl 1 rfl) ?_
    refine lv_icmp_ge (tgt := 172) hx hb dX7_program_147 (by decide) (fun c6 => ?_) (fun c6 => ?_)
    · have h := bb_t h c6
      refine lv_aload_n hx hb dX7_program_172 rfl (lv_at hl 0 rfl) ?_
      refine u_getr C w hw (hP _ _ (isn_f rfl rfl (by decide))) rfl (N := 57) rfl rfl cin_7 12 (by decide) (by decide) (a2 := 44) (i2 := 0) rfl gw_1168 dX7_program_173 ?_
      refine lv_iload_n hx hb dX7_program_176 rfl (lv_at hl 3 rfl) ?_
      refine lv_iload_n hx hb dX7_program_177 rfl (lv_at hl 1 rfl) ?_
      obtain ⟨g7, h⟩ := gd_some h
      refine u_iast C w hw (hP _ _ (isn_f rfl rfl (by decide))) rfl rfl (n := 9) rfl (vp_in_iff.mpr g7) dX7_program_178 (fun f H locs w hw hk1 => ?_)
      have hk := hk.tr hk1
      refine u_sv h hw hn (fun S8 h hw hn => ?_)
      refine lv_iload_n hx hb dX7_program_179 rfl (lv_at hl 2 rfl) ?_
      refine lv_if_eq (tgt := 196) hx hb dX7_program_180 (by decide) (fun c9 => ?_) (fun c9 => ?_)
      · have h := bb_t h c9
        refine lv_aload_n hx hb dX7_program_196 rfl (lv_at hl 0 rfl) ?_
        refine lv_dup hx hb dX7_program_197 rfl ?_
        refine u_geti C w hw (hP _ _ (isn_f rfl rfl (by decide))) rfl (N := 57) rfl rfl cin_7 13 (by decide) rfl gw_1169 dX7_program_198 ?_
        refine u_iv h (fun x10 h => ?_)
        refine lv_iconst (v := 1) hx hb dX7_program_201 (by decide) ?_
        refine lv_iadd hx hb dX7_program_202 ?_
        refine u_iv h (fun x11 h => ?_)
        refine u_puti C w hw (hP _ _ (isn_f rfl rfl (by decide))) rfl (N := 57) rfl rfl cin_7 tyX7 tyX7_ok nmX7 13 (by decide) rfl rfl rfl rfl gw_1169 dX7_program_203 (fun f H locs w hw hk1 => ?_)
        have hk := hk.tr hk1
        refine u_sv h hw hn (fun S12 h hw hn => ?_)
        exact J206  a2 S12 h f H locs w hw hn hk ls (lv_sub hl [0, 2] rfl)
      · have h := bb_f h c9
        refine lv_aload_n hx hb dX7_program_183 rfl (lv_at hl 0 rfl) ?_
        refine lv_dup hx hb dX7_program_184 rfl ?_
        refine u_geti C w hw (hP _ _ (isn_f rfl rfl (by decide))) rfl (N := 57) rfl rfl cin_7 14 (by decide) rfl gw_1170 dX7_program_185 ?_
        refine u_iv h (fun x13 h => ?_)
        refine lv_iconst (v := 1) hx hb dX7_program_188 (by decide) ?_
        refine lv_iadd hx hb dX7_program_189 ?_
        refine u_iv h (fun x14 h => ?_)
        refine u_puti C w hw (hP _ _ (isn_f rfl rfl (by decide))) rfl (N := 57) rfl rfl cin_7 tyX7 tyX7_ok nmX7 14 (by decide) rfl rfl rfl rfl gw_1170 dX7_program_190 (fun f H locs w hw hk1 => ?_)
        have hk := hk.tr hk1
        refine u_sv h hw hn (fun S15 h hw hn => ?_)
        refine lv_goto (tgt := 206) hx hb dX7_program_193 (by decide) ?_
        exact J206  a2 S15 h f H locs w hw hn hk ls (lv_sub hl [0, 2] rfl)
    · have h := bb_f h c6
      refine lv_aload_n hx hb dX7_program_150 rfl (lv_at hl 0 rfl) ?_
      refine u_getr C w hw (hP _ _ (isn_f rfl rfl (by decide))) rfl (N := 57) rfl rfl cin_7 11 (by decide) (by decide) (a2 := 42) (i2 := 0) rfl gw_1167 dX7_program_151 ?_
      refine lv_iload_n hx hb dX7_program_154 rfl (lv_at hl 3 rfl) ?_
      obtain ⟨g16, h⟩ := gd_some h
      refine u_aald C w hw (hP _ _ (isn_f rfl rfl (by decide))) rfl rfl rfl (n := 9) rfl (vp_in_iff.mpr g16) (a2 := 43) (i2 := (a3.toNatClampNeg)) (by exact congrArg (Prod.mk _) (Nat.zero_add _)) dX7_program_155 ?_
      refine lv_iload hx hb dX7_program_156 (lv_at hl 4 rfl) ?_
      refine lv_aload_n hx hb dX7_program_158 rfl (lv_at hl 0 rfl) ?_
      refine u_getr C w hw (hP _ _ (isn_f rfl rfl (by decide))) rfl (N := 57) rfl rfl cin_7 10 (by decide) (by decide) (a2 := 41) (i2 := 0) rfl gw_1166 dX7_program_159 ?_
      refine lv_iload hx hb dX7_program_162 (lv_at hl 4 rfl) ?_
      obtain ⟨g17, h⟩ := gd_some h
      refine u_iald C w hw (hP _ _ (isn_f rfl rfl (by decide))) rfl rfl (n := 300) rfl (vp_in_iff.mpr g17) dX7_program_164 ?_
      refine u_iv h (fun x18 h => ?_)
      obtain ⟨g19, h⟩ := gd_some h
      refine u_iast C w hw (hP _ _ (isn_f rfl rfl (ib_lt g16))) rfl rfl (n := 300) rfl (vp_in_iff.mpr g19) dX7_program_165 (fun f H locs w hw hk1 => ?_)
      have hk := hk.tr hk1
      refine u_sv h hw hn (fun S20 h hw hn => ?_)
      obtain ⟨x21, ex21, h⟩ := iv_some h
      refine lv_iinc (v := x21) (lv' := [(4, .int x21), (0, .ref (ad 40 0)), (1, .int a1), (2, .int a2), (3, .int a3)]) hx hb dX7_program_166 hl (k := 4) rfl ex21.symm (by decide) rfl (fun ls hl => ?_)
      refine lv_goto (tgt := 144) hx hb dX7_program_169 (by decide) ?_
      exact hk144 a1 a2 a3 x21 S20 h f H locs w hw hn hk ls (lv_sub hl [1, 2, 3, 4, 0] rfl)
  have J140 : ∀ (a1 : Int32) (a2 : Int32) (t0 : Int32) (S : fS), B_X7_program_140  a1 a2 t0 S = some (v, S1) → Gw D K b0 sa ad P n L f0 p l e { frames := 73, cells := 0, slots := 0, locals := 2736 } s m [.ref (ad 40 0), .int p1, .int p2].toArray below meth c 5 (MQ below (hQ D K b0 (fun v9 u9 => ∃ f2 : Nat → va_E, v9 = some (.int v) ∧ u9 = lU L f2 ∧ PW K ad P S1 L f2 ∧ S1.2.2.1 = n ∧ Kp ad P L f0 f2)) [.ref (ad 40 0), .int p1, .int p2].toArray s 0 0 (fun q => b0 ≤ q)) 0 0 140 [(0, .ref (ad 40 0)), (1, .int a1), (2, .int a2)] [.int t0] S := by
    intro a1 a2 t0 S h
    dsimp only [B_X7_program_140] at h
    intro f H locs w hw hn hk ls hl
    refine lv_istore_n (lv' := [(3, .int t0), (0, .ref (ad 40 0)), (1, .int a1), (2, .int a2)]) hx hb dX7_program_140 rfl hl (by decide) rfl (fun ls hl => ?_)
    refine lv_iconst (v := 0) hx hb dX7_program_141 (by decide) ?_
    refine lv_istore (lv' := [(4, .int 0), (3, .int t0), (0, .ref (ad 40 0)), (1, .int a1), (2, .int a2)]) hx hb dX7_program_142 hl (by decide) rfl (fun ls hl => ?_)
    exact J144  fuel a1 a2 t0 0 S h f H locs w hw hn hk ls (lv_sub hl [2, 3, 4, 1, 0] rfl)
  have J99 : ∀ (a1 : Int32) (a2 : Int32) (S : fS), B_X7_program_99  a1 a2 S = some (v, S1) → Gw D K b0 sa ad P n L f0 p l e { frames := 73, cells := 0, slots := 0, locals := 2736 } s m [.ref (ad 40 0), .int p1, .int p2].toArray below meth c 5 (MQ below (hQ D K b0 (fun v9 u9 => ∃ f2 : Nat → va_E, v9 = some (.int v) ∧ u9 = lU L f2 ∧ PW K ad P S1 L f2 ∧ S1.2.2.1 = n ∧ Kp ad P L f0 f2)) [.ref (ad 40 0), .int p1, .int p2].toArray s 0 0 (fun q => b0 ≤ q)) 0 0 99 [(0, .ref (ad 40 0)), (1, .int a1), (2, .int a2)] [] S := by
    intro a1 a2 S h
    dsimp only [B_X7_program_99] at h
    intro f H locs w hw hn hk ls hl
    refine lv_aload_n hx hb dX7_program_99 rfl (lv_at hl 0 rfl) ?_
    refine lv_aload_n hx hb dX7_program_100 rfl (lv_at hl 0 rfl) ?_
    refine u_geti C w hw (hP _ _ (isn_f rfl rfl (by decide))) rfl (N := 57) rfl rfl cin_7 7 (by decide) rfl gw_1163 dX7_program_101 ?_
    refine u_iv h (fun x22 h => ?_)
    refine u_puti C w hw (hP _ _ (isn_f rfl rfl (by decide))) rfl (N := 57) rfl rfl cin_7 tyX7 tyX7_ok nmX7 3 (by decide) rfl rfl rfl rfl gw_1159 dX7_program_104 (fun f H locs w hw hk1 => ?_)
    have hk := hk.tr hk1
    refine u_sv h hw hn (fun S23 h hw hn => ?_)
    refine lv_aload_n hx hb dX7_program_107 rfl (lv_at hl 0 rfl) ?_
    refine u_geti C w hw (hP _ _ (isn_f rfl rfl (by decide))) rfl (N := 57) rfl rfl cin_7 6 (by decide) rfl gw_1162 dX7_program_108 ?_
    refine u_iv h (fun x24 h => ?_)
    refine lv_if_eq (tgt := 122) hx hb dX7_program_111 (by decide) (fun c25 => ?_) (fun c25 => ?_)
    · have h := bb_t h c25
      refine lv_iload_n hx hb dX7_program_122 rfl (lv_at hl 2 rfl) ?_
      refine lv_if_eq (tgt := 136) hx hb dX7_program_123 (by decide) (fun c26 => ?_) (fun c26 => ?_)
      · have h := bb_t h c26
        refine lv_aload_n hx hb dX7_program_136 rfl (lv_at hl 0 rfl) ?_
        refine u_geti C w hw (hP _ _ (isn_f rfl rfl (by decide))) rfl (N := 57) rfl rfl cin_7 13 (by decide) rfl gw_1169 dX7_program_137 ?_
        refine u_iv h (fun x27 h => ?_)
        exact J140  a1 a2 x27 S23 h f H locs w hw hn hk ls (lv_sub hl [0, 1, 2] rfl)
      · have h := bb_f h c26
        refine lv_bipush (v := 6) hx hb dX7_program_126 (by decide) ?_
        refine lv_aload_n hx hb dX7_program_128 rfl (lv_at hl 0 rfl) ?_
        refine u_geti C w hw (hP _ _ (isn_f rfl rfl (by decide))) rfl (N := 57) rfl rfl cin_7 14 (by decide) rfl gw_1170 dX7_program_129 ?_
        refine u_iv h (fun x28 h => ?_)
        refine lv_iadd hx hb dX7_program_132 ?_
        refine u_iv h (fun x29 h => ?_)
        refine lv_goto (tgt := 140) hx hb dX7_program_133 (by decide) ?_
        exact J140  a1 a2 x29 S23 h f H locs w hw hn hk ls (lv_sub hl [0, 1, 2] rfl)
    · have h := bb_f h c25
      refine lv_aload_n hx hb dX7_program_114 rfl (lv_at hl 0 rfl) ?_
      refine u_geti C w hw (hP _ _ (isn_f rfl rfl (by decide))) rfl (N := 57) rfl rfl cin_7 6 (by decide) rfl gw_1162 dX7_program_115 ?_
      refine u_iv h (fun x30 h => ?_)
      refine lv_bipush (v := 10) hx hb dX7_program_118 (by decide) ?_
      refine lv_isub hx hb dX7_program_120 ?_
      refine u_iv h (fun x31 h => ?_)
      exact t_iret C hr hlk w ⟨_, so_v h, rfl, so_w h hw, so_n h hn, hk⟩ (by decide) (by decide) dX7_program_121
  have J68 : ∀ (a1 : Int32) (a2 : Int32) (S : fS), B_X7_program_68  a1 a2 S = some (v, S1) → Gw D K b0 sa ad P n L f0 p l e { frames := 73, cells := 0, slots := 0, locals := 2736 } s m [.ref (ad 40 0), .int p1, .int p2].toArray below meth c 5 (MQ below (hQ D K b0 (fun v9 u9 => ∃ f2 : Nat → va_E, v9 = some (.int v) ∧ u9 = lU L f2 ∧ PW K ad P S1 L f2 ∧ S1.2.2.1 = n ∧ Kp ad P L f0 f2)) [.ref (ad 40 0), .int p1, .int p2].toArray s 0 0 (fun q => b0 ≤ q)) 0 0 68 [(0, .ref (ad 40 0)), (1, .int a1), (2, .int a2)] [] S := by
    intro a1 a2 S h
    dsimp only [B_X7_program_68] at h
    intro f H locs w hw hn hk ls hl
    refine lv_aload_n hx hb dX7_program_68 rfl (lv_at hl 0 rfl) ?_
    refine lv_iconst (v := (-1)) hx hb dX7_program_69 (by decide) ?_
    refine u_puti C w hw (hP _ _ (isn_f rfl rfl (by decide))) rfl (N := 57) rfl rfl cin_7 tyX7 tyX7_ok nmX7 8 (by decide) rfl rfl rfl rfl gw_1164 dX7_program_70 (fun f H locs w hw hk1 => ?_)
    have hk := hk.tr hk1
    refine u_sv h hw hn (fun S32 h hw hn => ?_)
    refine lv_aload_n hx hb dX7_program_73 rfl (lv_at hl 0 rfl) ?_
    refine lv_iload_n hx hb dX7_program_74 rfl (lv_at hl 1 rfl) ?_
    refine u_puti C w hw (hP _ _ (isn_f rfl rfl (by decide))) rfl (N := 57) rfl rfl cin_7 tyX7 tyX7_ok nmX7 2 (by decide) rfl rfl rfl rfl gw_1158 dX7_program_75 (fun f H locs w hw hk1 => ?_)
    have hk := hk.tr hk1
    refine u_sv h hw hn (fun S33 h hw hn => ?_)
    refine lv_aload_n hx hb dX7_program_78 rfl (lv_at hl 0 rfl) ?_
    refine lv_iload_n hx hb dX7_program_79 rfl (lv_at hl 2 rfl) ?_
    obtain ⟨g34, h⟩ := gd_some h
    refine u_puti C w hw (hP _ _ (isn_f rfl rfl (by decide))) rfl (N := 57) rfl rfl cin_7 tyX7 tyX7_ok nmX7 16 (by decide) rfl rfl (narb g34) (fitb g34) gw_1172 dX7_program_80 (fun f H locs w hw hk1 => ?_)
    have hk := hk.tr hk1
    refine u_sv h hw hn (fun S35 h hw hn => ?_)
    refine lv_iload_n hx hb dX7_program_83 rfl (lv_at hl 2 rfl) ?_
    refine lv_if_eq (tgt := 95) hx hb dX7_program_84 (by decide) (fun c36 => ?_) (fun c36 => ?_)
    · have h := bb_t h c36
      refine lv_aload_n hx hb dX7_program_95 rfl (lv_at hl 0 rfl) ?_
      obtain ⟨v37, S38, h39, h⟩ := bd_some h
      refine u_callV (n := 0) C w hw (hP _ _ (isn_f rfl rfl (by decide))) rfl rfl rfl (c_X7_walks l D K b0 sa _ L _ ad P hP S35 hw hn  v37 S38 h39) gw_1425 gw_1422 gw_1424 gs_40 gw_8 ⟨by decide, by decide, by decide +kernel⟩ rfl rfl ⟨by decide, by decide⟩ rfl hl.1 rfl (Nat.le_of_ble_eq_true rfl) dX7_program_96 ⟨Nat.le_of_ble_eq_true rfl, Nat.le_of_ble_eq_true rfl⟩ (fun v9 u H locs hp w => ?_)
      obtain ⟨f2, rfl, rfl, hw, hn, hk1⟩ := hp
      have hk := hk.tr hk1
      generalize f2 = f at w hw hk
      exact J99  a1 a2 S38 h f H locs w hw hn hk ls (lv_sub hl [0, 1, 2] rfl)
    · have h := bb_f h c36
      refine lv_aload_n hx hb dX7_program_87 rfl (lv_at hl 0 rfl) ?_
      obtain ⟨v40, S41, h42, h⟩ := bd_some h
      refine u_callV (n := 0) C w hw (hP _ _ (isn_f rfl rfl (by decide))) rfl rfl rfl (c_X7_walksLaw l D K b0 sa _ L _ ad P hP S35 hw hn  v40 S41 h42) gw_1351 gw_1348 gw_1350 gs_23 gw_8 ⟨by decide, by decide, by decide +kernel⟩ rfl rfl ⟨by decide, by decide⟩ rfl hl.1 rfl (Nat.le_of_ble_eq_true rfl) dX7_program_88 ⟨Nat.le_of_ble_eq_true rfl, Nat.le_of_ble_eq_true rfl⟩ (fun v9 u H locs hp w => ?_)
      obtain ⟨f2, rfl, rfl, hw, hn, hk1⟩ := hp
      have hk := hk.tr hk1
      generalize f2 = f at w hw hk
      refine lv_pop hx hb dX7_program_91 rfl ?_
      refine lv_goto (tgt := 99) hx hb dX7_program_92 (by decide) ?_
      exact J99  a1 a2 S41 h f H locs w hw hn hk ls (lv_sub hl [0, 1, 2] rfl)
  have J23 : ∀ (a1 : Int32) (a2 : Int32) (t0 : Int32) (S : fS), B_X7_program_23  a1 a2 t0 S = some (v, S1) → Gw D K b0 sa ad P n L f0 p l e { frames := 73, cells := 0, slots := 0, locals := 2736 } s m [.ref (ad 40 0), .int p1, .int p2].toArray below meth c 5 (MQ below (hQ D K b0 (fun v9 u9 => ∃ f2 : Nat → va_E, v9 = some (.int v) ∧ u9 = lU L f2 ∧ PW K ad P S1 L f2 ∧ S1.2.2.1 = n ∧ Kp ad P L f0 f2)) [.ref (ad 40 0), .int p1, .int p2].toArray s 0 0 (fun q => b0 ≤ q)) 0 0 23 [(0, .ref (ad 40 0)), (1, .int a1), (2, .int a2)] [.int t0, .ref (ad 40 0)] S := by
    intro a1 a2 t0 S h
    dsimp only [B_X7_program_23] at h
    intro f H locs w hw hn hk ls hl
    refine lv_iconst (v := 1) hx hb dX7_program_23 (by decide) ?_
    obtain ⟨v43, S44, h45, h⟩ := bd_some h
    refine u_callV (n := 2) C w hw (hP _ _ (isn_f rfl rfl (by decide))) rfl rfl rfl (c_X7_bad l D K b0 sa _ L _ ad P hP S hw hn t0 1 v43 S44 h45) gw_1347 gw_1344 gw_1346 gs_22 gw_8 ⟨by decide, by decide, by decide +kernel⟩ rfl rfl ⟨by decide, by decide⟩ rfl hl.1 rfl (Nat.le_of_ble_eq_true rfl) dX7_program_24 ⟨Nat.le_of_ble_eq_true rfl, Nat.le_of_ble_eq_true rfl⟩ (fun v9 u H locs hp w => ?_)
    obtain ⟨f2, rfl, rfl, hw, hn, hk1⟩ := hp
    have hk := hk.tr hk1
    generalize f2 = f at w hw hk
    refine lv_if_eq (tgt := 32) hx hb dX7_program_27 (by decide) (fun c46 => ?_) (fun c46 => ?_)
    · have h := bb_t h c46
      refine lv_aload_n hx hb dX7_program_32 rfl (lv_at hl 0 rfl) ?_
      refine lv_iconst (v := 0) hx hb dX7_program_33 (by decide) ?_
      refine u_puti C w hw (hP _ _ (isn_f rfl rfl (by decide))) rfl (N := 57) rfl rfl cin_7 tyX7 tyX7_ok nmX7 1 (by decide) rfl rfl rfl rfl gw_1157 dX7_program_34 (fun f H locs w hw hk1 => ?_)
      have hk := hk.tr hk1
      refine u_sv h hw hn (fun S47 h hw hn => ?_)
      refine lv_aload_n hx hb dX7_program_37 rfl (lv_at hl 0 rfl) ?_
      refine lv_iconst (v := (-1)) hx hb dX7_program_38 (by decide) ?_
      refine u_puti C w hw (hP _ _ (isn_f rfl rfl (by decide))) rfl (N := 57) rfl rfl cin_7 tyX7 tyX7_ok nmX7 3 (by decide) rfl rfl rfl rfl gw_1159 dX7_program_39 (fun f H locs w hw hk1 => ?_)
      have hk := hk.tr hk1
      refine u_sv h hw hn (fun S48 h hw hn => ?_)
      refine lv_iload_n hx hb dX7_program_42 rfl (lv_at hl 2 rfl) ?_
      refine lv_if_eq (tgt := 57) hx hb dX7_program_43 (by decide) (fun c49 => ?_) (fun c49 => ?_)
      · have h := bb_t h c49
        refine lv_aload_n hx hb dX7_program_57 rfl (lv_at hl 0 rfl) ?_
        refine u_geti C w hw (hP _ _ (isn_f rfl rfl (by decide))) rfl (N := 57) rfl rfl cin_7 13 (by decide) rfl gw_1169 dX7_program_58 ?_
        refine u_iv h (fun x50 h => ?_)
        refine lv_bipush (v := 6) hx hb dX7_program_61 (by decide) ?_
        refine lv_icmp_ne (tgt := 68) hx hb dX7_program_63 (by decide) (fun c51 => ?_) (fun c51 => ?_)
        · have h := bb_f h c51
          exact J68  a1 a2 S48 h f H locs w hw hn hk ls (lv_sub hl [0, 1, 2] rfl)
        · have h := bb_t h c51
          refine lv_iconst (v := (-1)) hx hb dX7_program_66 (by decide) ?_
          exact t_iret C hr hlk w ⟨_, so_v h, rfl, so_w h hw, so_n h hn, hk⟩ (by decide) (by decide) dX7_program_67
      · have h := bb_f h c49
        refine lv_aload_n hx hb dX7_program_46 rfl (lv_at hl 0 rfl) ?_
        refine u_geti C w hw (hP _ _ (isn_f rfl rfl (by decide))) rfl (N := 57) rfl rfl cin_7 14 (by decide) rfl gw_1170 dX7_program_47 ?_
        refine u_iv h (fun x52 h => ?_)
        refine lv_iconst (v := 3) hx hb dX7_program_50 (by decide) ?_
        refine lv_icmp_ne (tgt := 68) hx hb dX7_program_51 (by decide) (fun c53 => ?_) (fun c53 => ?_)
        · have h := bb_f h c53
          exact J68  a1 a2 S48 h f H locs w hw hn hk ls (lv_sub hl [0, 1, 2] rfl)
        · have h := bb_t h c53
          refine lv_goto (tgt := 66) hx hb dX7_program_54 (by decide) ?_
          refine lv_iconst (v := (-1)) hx hb dX7_program_66 (by decide) ?_
          exact t_iret C hr hlk w ⟨_, so_v h, rfl, so_w h hw, so_n h hn, hk⟩ (by decide) (by decide) dX7_program_67
    · have h := bb_f h c46
      refine lv_iconst (v := 0) hx hb dX7_program_30 (by decide) ?_
      exact t_iret C hr hlk w ⟨_, so_v h, rfl, so_w h hw, so_n h hn, hk⟩ (by decide) (by decide) dX7_program_31
  dsimp only [F_X7_program] at h
  obtain ⟨f, ef⟩ : ∃ z, z = f0 := ⟨_, rfl⟩
  rw [← ef] at w hw
  have hk : Kp ad P L f0 f := by rw [ef]; exact Kp.rf
  obtain ⟨H, eH⟩ : ∃ z, z = s.heap := ⟨_, rfl⟩
  obtain ⟨locs, el⟩ : ∃ z : List Loc, z = [] := ⟨_, rfl⟩
  rw [← eH, ← el] at w ⊢
  refine lv_aload_n hx hb dX7_program_0 rfl (lv_at hl 0 rfl) ?_
  refine lv_iconst (v := 0) hx hb dX7_program_1 (by decide) ?_
  refine u_puti C w hw (hP _ _ (isn_f rfl rfl (by decide))) rfl (N := 57) rfl rfl cin_7 tyX7 tyX7_ok nmX7 0 (by decide) rfl rfl rfl rfl gw_1156 dX7_program_2 (fun f H locs w hw hk1 => ?_)
  have hk := hk.tr hk1
  refine u_sv h hw hn (fun S54 h hw hn => ?_)
  refine lv_aload_n hx hb dX7_program_5 rfl (lv_at hl 0 rfl) ?_
  refine lv_iload_n hx hb dX7_program_6 rfl (lv_at hl 1 rfl) ?_
  refine lv_iconst (v := 0) hx hb dX7_program_7 (by decide) ?_
  refine lv_aload_n hx hb dX7_program_8 rfl (lv_at hl 0 rfl) ?_
  refine u_geti C w hw (hP _ _ (isn_f rfl rfl (by decide))) rfl (N := 57) rfl rfl cin_7 1 (by decide) rfl gw_1157 dX7_program_9 ?_
  refine u_iv h (fun x55 h => ?_)
  obtain ⟨v56, S57, h58, h⟩ := bd_some h
  refine t_callS (n := 3) C w (c_X7_in l D K b0 sa _ L _ ad P hP S54 hw hn p1 0 x55 v56 S57 h58) gw_1343 gw_1341 gw_1342 gw_8 ⟨by decide, by decide, by decide +kernel⟩ rfl rfl ⟨by decide, by decide⟩ rfl hl.1 rfl (Nat.le_of_ble_eq_true rfl) dX7_program_12 ⟨Nat.le_of_ble_eq_true rfl, Nat.le_of_ble_eq_true rfl⟩ (fun v9 u H locs hp w => ?_)
  obtain ⟨f2, rfl, rfl, hw, hn, hk1⟩ := hp
  have hk := hk.tr hk1
  generalize f2 = f at w hw hk
  refine lv_if_ne (tgt := 22) hx hb dX7_program_15 (by decide) (fun c59 => ?_) (fun c59 => ?_)
  · have h := bb_f h c59
    refine lv_iconst (v := 0) hx hb dX7_program_22 (by decide) ?_
    exact J23  p1 p2 0 S57 h f H locs w hw hn hk ls (lv_sub hl [0, 1, 2] rfl)
  · have h := bb_t h c59
    refine lv_iconst (v := 1) hx hb dX7_program_18 (by decide) ?_
    refine lv_goto (tgt := 23) hx hb dX7_program_19 (by decide) ?_
    exact J23  p1 p2 1 S57 h f H locs w hw hn hk ls (lv_sub hl [0, 1, 2] rfl)
theorem dX7_tellsBy_0 : decode cX7_tellsBy 0 = .ok (.aload_n 0, 1) := by decide +kernel
theorem dX7_tellsBy_1 : decode cX7_tellsBy 1 = .ok (.getfield 30, 3) := by decide +kernel
theorem dX7_tellsBy_4 : decode cX7_tellsBy 4 = .ok (.iconst 5, 1) := by decide +kernel
theorem dX7_tellsBy_5 : decode cX7_tellsBy 5 = .ok (.iload_n 2, 1) := by decide +kernel
theorem dX7_tellsBy_6 : decode cX7_tellsBy 6 = .ok (.iastore, 1) := by decide +kernel
theorem dX7_tellsBy_7 : decode cX7_tellsBy 7 = .ok (.aload_n 0, 1) := by decide +kernel
theorem dX7_tellsBy_8 : decode cX7_tellsBy 8 = .ok (.iconst 0, 1) := by decide +kernel
theorem dX7_tellsBy_9 : decode cX7_tellsBy 9 = .ok (.putfield 194, 3) := by decide +kernel
theorem dX7_tellsBy_12 : decode cX7_tellsBy 12 = .ok (.aload_n 0, 1) := by decide +kernel
theorem dX7_tellsBy_13 : decode cX7_tellsBy 13 = .ok (.iconst 0, 1) := by decide +kernel
theorem dX7_tellsBy_14 : decode cX7_tellsBy 14 = .ok (.putfield 197, 3) := by decide +kernel
theorem dX7_tellsBy_17 : decode cX7_tellsBy 17 = .ok (.aload_n 0, 1) := by decide +kernel
theorem dX7_tellsBy_18 : decode cX7_tellsBy 18 = .ok (.iconst 0, 1) := by decide +kernel
theorem dX7_tellsBy_19 : decode cX7_tellsBy 19 = .ok (.putfield 200, 3) := by decide +kernel
theorem dX7_tellsBy_22 : decode cX7_tellsBy 22 = .ok (.iload_n 1, 1) := by decide +kernel
theorem dX7_tellsBy_23 : decode cX7_tellsBy 23 = .ok (.iconst (-1), 1) := by decide +kernel
theorem dX7_tellsBy_24 : decode cX7_tellsBy 24 = .ok (.if_icmp .eq 12, 3) := by decide +kernel
theorem dX7_tellsBy_27 : decode cX7_tellsBy 27 = .ok (.aload_n 0, 1) := by decide +kernel
theorem dX7_tellsBy_28 : decode cX7_tellsBy 28 = .ok (.iload_n 1, 1) := by decide +kernel
theorem dX7_tellsBy_29 : decode cX7_tellsBy 29 = .ok (.invokevirtual 237, 3) := by decide +kernel
theorem dX7_tellsBy_32 : decode cX7_tellsBy 32 = .ok (.aload_n 0, 1) := by decide +kernel
theorem dX7_tellsBy_33 : decode cX7_tellsBy 33 = .ok (.invokevirtual 219, 3) := by decide +kernel
theorem dX7_tellsBy_36 : decode cX7_tellsBy 36 = .ok (.aload_n 0, 1) := by decide +kernel
theorem dX7_tellsBy_37 : decode cX7_tellsBy 37 = .ok (.aload_n 0, 1) := by decide +kernel
theorem dX7_tellsBy_38 : decode cX7_tellsBy 38 = .ok (.getfield 194, 3) := by decide +kernel
theorem dX7_tellsBy_41 : decode cX7_tellsBy 41 = .ok (.iconst 0, 1) := by decide +kernel
theorem dX7_tellsBy_42 : decode cX7_tellsBy 42 = .ok (.sipush 999, 3) := by decide +kernel
theorem dX7_tellsBy_45 : decode cX7_tellsBy 45 = .ok (.invokestatic 240, 3) := by decide +kernel
theorem dX7_tellsBy_48 : decode cX7_tellsBy 48 = .ok (.putfield 194, 3) := by decide +kernel
theorem dX7_tellsBy_51 : decode cX7_tellsBy 51 = .ok (.aload_n 0, 1) := by decide +kernel
theorem dX7_tellsBy_52 : decode cX7_tellsBy 52 = .ok (.aload_n 0, 1) := by decide +kernel
theorem dX7_tellsBy_53 : decode cX7_tellsBy 53 = .ok (.getfield 197, 3) := by decide +kernel
theorem dX7_tellsBy_56 : decode cX7_tellsBy 56 = .ok (.iconst 0, 1) := by decide +kernel
theorem dX7_tellsBy_57 : decode cX7_tellsBy 57 = .ok (.sipush 999, 3) := by decide +kernel
theorem dX7_tellsBy_60 : decode cX7_tellsBy 60 = .ok (.invokestatic 240, 3) := by decide +kernel
theorem dX7_tellsBy_63 : decode cX7_tellsBy 63 = .ok (.putfield 197, 3) := by decide +kernel
theorem dX7_tellsBy_66 : decode cX7_tellsBy 66 = .ok (.aload_n 0, 1) := by decide +kernel
theorem dX7_tellsBy_67 : decode cX7_tellsBy 67 = .ok (.aload_n 0, 1) := by decide +kernel
theorem dX7_tellsBy_68 : decode cX7_tellsBy 68 = .ok (.getfield 200, 3) := by decide +kernel
theorem dX7_tellsBy_71 : decode cX7_tellsBy 71 = .ok (.iconst 1, 1) := by decide +kernel
theorem dX7_tellsBy_72 : decode cX7_tellsBy 72 = .ok (.bipush 36, 2) := by decide +kernel
theorem dX7_tellsBy_74 : decode cX7_tellsBy 74 = .ok (.invokestatic 240, 3) := by decide +kernel
theorem dX7_tellsBy_77 : decode cX7_tellsBy 77 = .ok (.putfield 200, 3) := by decide +kernel
theorem dX7_tellsBy_80 : decode cX7_tellsBy 80 = .ok (.return_, 1) := by decide +kernel
noncomputable def B_X7_tellsBy_36 (S : fS) : Option (Int32 × fS) := iv (ge S 40 0 18) (fun x1 => bd (F_X7_within x1 0 999 S) (fun v2 S3 => sv (pu S3 40 0 18 v2) (fun S5 => iv (ge S5 40 0 19) (fun x6 => bd (F_X7_within x6 0 999 S5) (fun v7 S8 => sv (pu S8 40 0 19 v7) (fun S10 => iv (ge S10 40 0 20) (fun x11 => bd (F_X7_within x11 1 36 S10) (fun v12 S13 => sv (pu S13 40 0 20 v12) (fun S15 => some (0, S15))))))))))
noncomputable def F_X7_tellsBy (p1 : Int32) (p2 : Int32) (S0 : fS) : Option (Int32 × fS) := sv (pu S0 45 0 (5 : Int32).toNatClampNeg p2) (fun S16 => sv (pu S16 40 0 18 0) (fun S17 => sv (pu S17 40 0 19 0) (fun S18 => sv (pu S18 40 0 20 0) (fun S19 => bb (p1 = ((-1) : Int32)) (B_X7_tellsBy_36   S19) (bd (F_X7_reads p1 S19) (fun v21 S22 => bd (F_X7_walks  S22) (fun v24 S25 => B_X7_tellsBy_36   S25)))))))
set_option maxHeartbeats 4000000 in
set_option maxRecDepth 100000 in
theorem c_X7_tellsBy (l : Launch) (D : va_G) (K : Nat → ClassId) (b0 : Nat) (sa : sT) (sz : Nat) (L : List Nat) (f0 : Nat → va_E) (ad : Nat → Nat → Nat) (P : Nat → Nat → Prop) {n : Nat × Nat} (hP : ∀ a i : Nat, isn n a i → P a i) (S0 : fS) (hw : PW K ad P S0 L f0) (hn : S0.2.2.1 = n) (p1 : Int32) (p2 : Int32) (v : Int32) (S1 : fS) (h : F_X7_tellsBy p1 p2 S0 = some (v, S1)) : Met l yX7_tellsBy (.code yX7_tellsBy cX7_tellsBy 3 none :: gt) { frames := 73, cells := 0, slots := 0, locals := 2736 } (va_Pc [.ref (ad 40 0), .int p1, .int p2] (hPre D K b0 sa sz L f0)) (hQ D K b0 (fun v9 u9 => ∃ f2 : Nat → va_E, v9 = none ∧ u9 = lU L f2 ∧ PW K ad P S1 L f2 ∧ S1.2.2.1 = n ∧ Kp ad P L f0 f2)) 0 0 (fun q => b0 ≤ q) := by
  refine t_of (own := RX7) (by decide) rfl ?_ (Nat.le_of_ble_eq_true rfl)
  intro p e s m below meth c ls C w hsz hr hlk hnm hl
  have hx := C.1
  have hb := C.2.1
  have hl : lv_has ls 3 [(0, .ref (ad 40 0)), (1, .int p1), (2, .int p2)] := hl
  have J36 : ∀ (S : fS), B_X7_tellsBy_36   S = some (v, S1) → Gw D K b0 sa ad P n L f0 p l e { frames := 73, cells := 0, slots := 0, locals := 2736 } s m [.ref (ad 40 0), .int p1, .int p2].toArray below meth c 3 (MQ below (hQ D K b0 (fun v9 u9 => ∃ f2 : Nat → va_E, v9 = none ∧ u9 = lU L f2 ∧ PW K ad P S1 L f2 ∧ S1.2.2.1 = n ∧ Kp ad P L f0 f2)) [.ref (ad 40 0), .int p1, .int p2].toArray s 0 0 (fun q => b0 ≤ q)) 0 0 36 [(0, .ref (ad 40 0))] [] S := by
    intro S h
    dsimp only [B_X7_tellsBy_36] at h
    intro f H locs w hw hn hk ls hl
    refine lv_aload_n hx hb dX7_tellsBy_36 rfl (lv_at hl 0 rfl) ?_
    refine lv_aload_n hx hb dX7_tellsBy_37 rfl (lv_at hl 0 rfl) ?_
    refine u_geti C w hw (hP _ _ (isn_f rfl rfl (by decide))) rfl (N := 57) rfl rfl cin_7 18 (by decide) rfl gw_1174 dX7_tellsBy_38 ?_
    refine u_iv h (fun x1 h => ?_)
    refine lv_iconst (v := 0) hx hb dX7_tellsBy_41 (by decide) ?_
    refine lv_sipush (v := 999) hx hb dX7_tellsBy_42 (by decide) ?_
    obtain ⟨v2, S3, h4, h⟩ := bd_some h
    refine t_callS (n := 3) C w (c_X7_within l D K b0 sa _ L _ ad P hP S hw hn x1 0 999 v2 S3 h4) gw_1460 gw_1458 gw_1459 gw_8 ⟨by decide, by decide, by decide +kernel⟩ rfl rfl ⟨by decide, by decide⟩ rfl hl.1 rfl (Nat.le_of_ble_eq_true rfl) dX7_tellsBy_45 ⟨Nat.le_of_ble_eq_true rfl, Nat.le_of_ble_eq_true rfl⟩ (fun v9 u H locs hp w => ?_)
    obtain ⟨f2, rfl, rfl, hw, hn, hk1⟩ := hp
    have hk := hk.tr hk1
    generalize f2 = f at w hw hk
    refine u_puti C w hw (hP _ _ (isn_f rfl rfl (by decide))) rfl (N := 57) rfl rfl cin_7 tyX7 tyX7_ok nmX7 18 (by decide) rfl rfl rfl rfl gw_1174 dX7_tellsBy_48 (fun f H locs w hw hk1 => ?_)
    have hk := hk.tr hk1
    refine u_sv h hw hn (fun S5 h hw hn => ?_)
    refine lv_aload_n hx hb dX7_tellsBy_51 rfl (lv_at hl 0 rfl) ?_
    refine lv_aload_n hx hb dX7_tellsBy_52 rfl (lv_at hl 0 rfl) ?_
    refine u_geti C w hw (hP _ _ (isn_f rfl rfl (by decide))) rfl (N := 57) rfl rfl cin_7 19 (by decide) rfl gw_1175 dX7_tellsBy_53 ?_
    refine u_iv h (fun x6 h => ?_)
    refine lv_iconst (v := 0) hx hb dX7_tellsBy_56 (by decide) ?_
    refine lv_sipush (v := 999) hx hb dX7_tellsBy_57 (by decide) ?_
    obtain ⟨v7, S8, h9, h⟩ := bd_some h
    refine t_callS (n := 3) C w (c_X7_within l D K b0 sa _ L _ ad P hP S5 hw hn x6 0 999 v7 S8 h9) gw_1460 gw_1458 gw_1459 gw_8 ⟨by decide, by decide, by decide +kernel⟩ rfl rfl ⟨by decide, by decide⟩ rfl hl.1 rfl (Nat.le_of_ble_eq_true rfl) dX7_tellsBy_60 ⟨Nat.le_of_ble_eq_true rfl, Nat.le_of_ble_eq_true rfl⟩ (fun v9 u H locs hp w => ?_)
    obtain ⟨f2, rfl, rfl, hw, hn, hk1⟩ := hp
    have hk := hk.tr hk1
    generalize f2 = f at w hw hk
    refine u_puti C w hw (hP _ _ (isn_f rfl rfl (by decide))) rfl (N := 57) rfl rfl cin_7 tyX7 tyX7_ok nmX7 19 (by decide) rfl rfl rfl rfl gw_1175 dX7_tellsBy_63 (fun f H locs w hw hk1 => ?_)
    have hk := hk.tr hk1
    refine u_sv h hw hn (fun S10 h hw hn => ?_)
    refine lv_aload_n hx hb dX7_tellsBy_66 rfl (lv_at hl 0 rfl) ?_
    refine lv_aload_n hx hb dX7_tellsBy_67 rfl (lv_at hl 0 rfl) ?_
    refine u_geti C w hw (hP _ _ (isn_f rfl rfl (by decide))) rfl (N := 57) rfl rfl cin_7 20 (by decide) rfl gw_1176 dX7_tellsBy_68 ?_
    refine u_iv h (fun x11 h => ?_)
    refine lv_iconst (v := 1) hx hb dX7_tellsBy_71 (by decide) ?_
    refine lv_bipush (v := 36) hx hb dX7_tellsBy_72 (by decide) ?_
    obtain ⟨v12, S13, h14, h⟩ := bd_some h
    refine t_callS (n := 3) C w (c_X7_within l D K b0 sa _ L _ ad P hP S10 hw hn x11 1 36 v12 S13 h14) gw_1460 gw_1458 gw_1459 gw_8 ⟨by decide, by decide, by decide +kernel⟩ rfl rfl ⟨by decide, by decide⟩ rfl hl.1 rfl (Nat.le_of_ble_eq_true rfl) dX7_tellsBy_74 ⟨Nat.le_of_ble_eq_true rfl, Nat.le_of_ble_eq_true rfl⟩ (fun v9 u H locs hp w => ?_)
    obtain ⟨f2, rfl, rfl, hw, hn, hk1⟩ := hp
    have hk := hk.tr hk1
    generalize f2 = f at w hw hk
    refine u_puti C w hw (hP _ _ (isn_f rfl rfl (by decide))) rfl (N := 57) rfl rfl cin_7 tyX7 tyX7_ok nmX7 20 (by decide) rfl rfl rfl rfl gw_1176 dX7_tellsBy_77 (fun f H locs w hw hk1 => ?_)
    have hk := hk.tr hk1
    refine u_sv h hw hn (fun S15 h hw hn => ?_)
    exact t_vret C hr hlk w ⟨_, rfl, rfl, so_w h hw, so_n h hn, hk⟩ (by decide) (by decide) dX7_tellsBy_80
  dsimp only [F_X7_tellsBy] at h
  obtain ⟨f, ef⟩ : ∃ z, z = f0 := ⟨_, rfl⟩
  rw [← ef] at w hw
  have hk : Kp ad P L f0 f := by rw [ef]; exact Kp.rf
  obtain ⟨H, eH⟩ : ∃ z, z = s.heap := ⟨_, rfl⟩
  obtain ⟨locs, el⟩ : ∃ z : List Loc, z = [] := ⟨_, rfl⟩
  rw [← eH, ← el] at w ⊢
  refine lv_aload_n hx hb dX7_tellsBy_0 rfl (lv_at hl 0 rfl) ?_
  refine u_getr C w hw (hP _ _ (isn_f rfl rfl (by decide))) rfl (N := 57) rfl rfl cin_7 17 (by decide) (by decide) (a2 := 45) (i2 := 0) rfl gw_1173 dX7_tellsBy_1 ?_
  refine lv_iconst (v := 5) hx hb dX7_tellsBy_4 (by decide) ?_
  refine lv_iload_n hx hb dX7_tellsBy_5 rfl (lv_at hl 2 rfl) ?_
  refine u_iast C w hw (hP _ _ (isn_f rfl rfl (by decide))) rfl rfl (n := 7) rfl (vp_in_iff.mpr ⟨by decide, by decide⟩) dX7_tellsBy_6 (fun f H locs w hw hk1 => ?_)
  have hk := hk.tr hk1
  refine u_sv h hw hn (fun S16 h hw hn => ?_)
  refine lv_aload_n hx hb dX7_tellsBy_7 rfl (lv_at hl 0 rfl) ?_
  refine lv_iconst (v := 0) hx hb dX7_tellsBy_8 (by decide) ?_
  refine u_puti C w hw (hP _ _ (isn_f rfl rfl (by decide))) rfl (N := 57) rfl rfl cin_7 tyX7 tyX7_ok nmX7 18 (by decide) rfl rfl rfl rfl gw_1174 dX7_tellsBy_9 (fun f H locs w hw hk1 => ?_)
  have hk := hk.tr hk1
  refine u_sv h hw hn (fun S17 h hw hn => ?_)
  refine lv_aload_n hx hb dX7_tellsBy_12 rfl (lv_at hl 0 rfl) ?_
  refine lv_iconst (v := 0) hx hb dX7_tellsBy_13 (by decide) ?_
  refine u_puti C w hw (hP _ _ (isn_f rfl rfl (by decide))) rfl (N := 57) rfl rfl cin_7 tyX7 tyX7_ok nmX7 19 (by decide) rfl rfl rfl rfl gw_1175 dX7_tellsBy_14 (fun f H locs w hw hk1 => ?_)
  have hk := hk.tr hk1
  refine u_sv h hw hn (fun S18 h hw hn => ?_)
  refine lv_aload_n hx hb dX7_tellsBy_17 rfl (lv_at hl 0 rfl) ?_
  refine lv_iconst (v := 0) hx hb dX7_tellsBy_18 (by decide) ?_
  refine u_puti C w hw (hP _ _ (isn_f rfl rfl (by decide))) rfl (N := 57) rfl rfl cin_7 tyX7 tyX7_ok nmX7 20 (by decide) rfl rfl rfl rfl gw_1176 dX7_tellsBy_19 (fun f H locs w hw hk1 => ?_)
  have hk := hk.tr hk1
  refine u_sv h hw hn (fun S19 h hw hn => ?_)
  refine lv_iload_n hx hb dX7_tellsBy_22 rfl (lv_at hl 1 rfl) ?_
  refine lv_iconst (v := (-1)) hx hb dX7_tellsBy_23 (by decide) ?_
  refine lv_icmp_eq (tgt := 36) hx hb dX7_tellsBy_24 (by decide) (fun c20 => ?_) (fun c20 => ?_)
  · have h := bb_t h c20
    exact J36   S19 h f H locs w hw hn hk ls (lv_sub hl [0] rfl)
  · have h := bb_f h c20
    refine lv_aload_n hx hb dX7_tellsBy_27 rfl (lv_at hl 0 rfl) ?_
    refine lv_iload_n hx hb dX7_tellsBy_28 rfl (lv_at hl 1 rfl) ?_
    obtain ⟨v21, S22, h23, h⟩ := bd_some h
    refine u_callV (n := 1) C w hw (hP _ _ (isn_f rfl rfl (by decide))) rfl rfl rfl (c_X7_reads l D K b0 sa _ L _ ad P hP S19 hw hn p1 v21 S22 h23) gw_1457 gw_1454 gw_1456 gs_45 gw_8 ⟨by decide, by decide, by decide +kernel⟩ rfl rfl ⟨by decide, by decide⟩ rfl hl.1 rfl (Nat.le_of_ble_eq_true rfl) dX7_tellsBy_29 ⟨Nat.le_of_ble_eq_true rfl, Nat.le_of_ble_eq_true rfl⟩ (fun v9 u H locs hp w => ?_)
    obtain ⟨f2, rfl, rfl, hw, hn, hk1⟩ := hp
    have hk := hk.tr hk1
    generalize f2 = f at w hw hk
    refine lv_aload_n hx hb dX7_tellsBy_32 rfl (lv_at hl 0 rfl) ?_
    obtain ⟨v24, S25, h26, h⟩ := bd_some h
    refine u_callV (n := 0) C w hw (hP _ _ (isn_f rfl rfl (by decide))) rfl rfl rfl (c_X7_walks l D K b0 sa _ L _ ad P hP S22 hw hn  v24 S25 h26) gw_1425 gw_1422 gw_1424 gs_40 gw_8 ⟨by decide, by decide, by decide +kernel⟩ rfl rfl ⟨by decide, by decide⟩ rfl hl.1 rfl (Nat.le_of_ble_eq_true rfl) dX7_tellsBy_33 ⟨Nat.le_of_ble_eq_true rfl, Nat.le_of_ble_eq_true rfl⟩ (fun v9 u H locs hp w => ?_)
    obtain ⟨f2, rfl, rfl, hw, hn, hk1⟩ := hp
    have hk := hk.tr hk1
    generalize f2 = f at w hw hk
    exact J36   S25 h f H locs w hw hn hk ls (lv_sub hl [0] rfl)
theorem dX7_lotsBy_0 : decode cX7_lotsBy 0 = .ok (.aload_n 0, 1) := by decide +kernel
theorem dX7_lotsBy_1 : decode cX7_lotsBy 1 = .ok (.iload_n 1, 1) := by decide +kernel
theorem dX7_lotsBy_2 : decode cX7_lotsBy 2 = .ok (.iconst 0, 1) := by decide +kernel
theorem dX7_lotsBy_3 : decode cX7_lotsBy 3 = .ok (.invokevirtual 244, 3) := by decide +kernel
theorem dX7_lotsBy_6 : decode cX7_lotsBy 6 = .ok (.aload_n 0, 1) := by decide +kernel
theorem dX7_lotsBy_7 : decode cX7_lotsBy 7 = .ok (.getfield 200, 3) := by decide +kernel
theorem dX7_lotsBy_10 : decode cX7_lotsBy 10 = .ok (.ireturn, 1) := by decide +kernel
noncomputable def F_X7_lotsBy (p1 : Int32) (S0 : fS) : Option (Int32 × fS) := bd (F_X7_tellsBy p1 0 S0) (fun v1 S2 => iv (ge S2 40 0 20) (fun x4 => some (x4, S2)))
set_option maxHeartbeats 4000000 in
set_option maxRecDepth 100000 in
theorem c_X7_lotsBy (l : Launch) (D : va_G) (K : Nat → ClassId) (b0 : Nat) (sa : sT) (sz : Nat) (L : List Nat) (f0 : Nat → va_E) (ad : Nat → Nat → Nat) (P : Nat → Nat → Prop) {n : Nat × Nat} (hP : ∀ a i : Nat, isn n a i → P a i) (S0 : fS) (hw : PW K ad P S0 L f0) (hn : S0.2.2.1 = n) (p1 : Int32) (v : Int32) (S1 : fS) (h : F_X7_lotsBy p1 S0 = some (v, S1)) : Met l yX7_lotsBy (.code yX7_lotsBy cX7_lotsBy 2 (some .int) :: gt) { frames := 74, cells := 0, slots := 0, locals := 2758 } (va_Pc [.ref (ad 40 0), .int p1] (hPre D K b0 sa sz L f0)) (hQ D K b0 (fun v9 u9 => ∃ f2 : Nat → va_E, v9 = some (.int v) ∧ u9 = lU L f2 ∧ PW K ad P S1 L f2 ∧ S1.2.2.1 = n ∧ Kp ad P L f0 f2)) 0 0 (fun q => b0 ≤ q) := by
  refine t_of (own := RX7) (by decide) rfl ?_ (Nat.le_of_ble_eq_true rfl)
  intro p e s m below meth c ls C w hsz hr hlk hnm hl
  have hx := C.1
  have hb := C.2.1
  have hl : lv_has ls 2 [(0, .ref (ad 40 0)), (1, .int p1)] := hl
  dsimp only [F_X7_lotsBy] at h
  obtain ⟨f, ef⟩ : ∃ z, z = f0 := ⟨_, rfl⟩
  rw [← ef] at w hw
  have hk : Kp ad P L f0 f := by rw [ef]; exact Kp.rf
  obtain ⟨H, eH⟩ : ∃ z, z = s.heap := ⟨_, rfl⟩
  obtain ⟨locs, el⟩ : ∃ z : List Loc, z = [] := ⟨_, rfl⟩
  rw [← eH, ← el] at w ⊢
  refine lv_aload_n hx hb dX7_lotsBy_0 rfl (lv_at hl 0 rfl) ?_
  refine lv_iload_n hx hb dX7_lotsBy_1 rfl (lv_at hl 1 rfl) ?_
  refine lv_iconst (v := 0) hx hb dX7_lotsBy_2 (by decide) ?_
  obtain ⟨v1, S2, h3, h⟩ := bd_some h
  refine u_callV (n := 2) C w hw (hP _ _ (isn_f rfl rfl (by decide))) rfl rfl rfl (c_X7_tellsBy l D K b0 sa _ L _ ad P hP S0 hw hn p1 0 v1 S2 h3) gw_1453 gw_1450 gw_1452 gs_44 gw_8 ⟨by decide, by decide, by decide +kernel⟩ rfl rfl ⟨by decide, by decide⟩ rfl hl.1 rfl (Nat.le_of_ble_eq_true rfl) dX7_lotsBy_3 ⟨Nat.le_of_ble_eq_true rfl, Nat.le_of_ble_eq_true rfl⟩ (fun v9 u H locs hp w => ?_)
  obtain ⟨f2, rfl, rfl, hw, hn, hk1⟩ := hp
  have hk := hk.tr hk1
  generalize f2 = f at w hw hk
  refine lv_aload_n hx hb dX7_lotsBy_6 rfl (lv_at hl 0 rfl) ?_
  refine u_geti C w hw (hP _ _ (isn_f rfl rfl (by decide))) rfl (N := 57) rfl rfl cin_7 20 (by decide) rfl gw_1176 dX7_lotsBy_7 ?_
  refine u_iv h (fun x4 h => ?_)
  exact t_iret C hr hlk w ⟨_, so_v h, rfl, so_w h hw, so_n h hn, hk⟩ (by decide) (by decide) dX7_lotsBy_10
theorem dX7_tells_0 : decode cX7_tells 0 = .ok (.aload_n 0, 1) := by decide +kernel
theorem dX7_tells_1 : decode cX7_tells 1 = .ok (.iconst 0, 1) := by decide +kernel
theorem dX7_tells_2 : decode cX7_tells 2 = .ok (.putfield 97, 3) := by decide +kernel
theorem dX7_tells_5 : decode cX7_tells 5 = .ok (.aload_n 0, 1) := by decide +kernel
theorem dX7_tells_6 : decode cX7_tells 6 = .ok (.iload_n 1, 1) := by decide +kernel
theorem dX7_tells_7 : decode cX7_tells 7 = .ok (.iconst 0, 1) := by decide +kernel
theorem dX7_tells_8 : decode cX7_tells 8 = .ok (.iconst 2, 1) := by decide +kernel
theorem dX7_tells_9 : decode cX7_tells 9 = .ok (.invokestatic 100, 3) := by decide +kernel
theorem dX7_tells_12 : decode cX7_tells 12 = .ok (.ifCond .eq 13, 3) := by decide +kernel
theorem dX7_tells_15 : decode cX7_tells 15 = .ok (.iload_n 2, 1) := by decide +kernel
theorem dX7_tells_16 : decode cX7_tells 16 = .ok (.iconst 0, 1) := by decide +kernel
theorem dX7_tells_17 : decode cX7_tells 17 = .ok (.bipush 35, 2) := by decide +kernel
theorem dX7_tells_19 : decode cX7_tells 19 = .ok (.invokestatic 100, 3) := by decide +kernel
theorem dX7_tells_22 : decode cX7_tells 22 = .ok (.ifCond .ne 7, 3) := by decide +kernel
theorem dX7_tells_25 : decode cX7_tells 25 = .ok (.iconst 1, 1) := by decide +kernel
theorem dX7_tells_26 : decode cX7_tells 26 = .ok (.goto 4, 3) := by decide +kernel
theorem dX7_tells_29 : decode cX7_tells 29 = .ok (.iconst 0, 1) := by decide +kernel
theorem dX7_tells_30 : decode cX7_tells 30 = .ok (.iconst 1, 1) := by decide +kernel
theorem dX7_tells_31 : decode cX7_tells 31 = .ok (.invokevirtual 206, 3) := by decide +kernel
theorem dX7_tells_34 : decode cX7_tells 34 = .ok (.ifCond .eq 5, 3) := by decide +kernel
theorem dX7_tells_37 : decode cX7_tells 37 = .ok (.iconst 0, 1) := by decide +kernel
theorem dX7_tells_38 : decode cX7_tells 38 = .ok (.ireturn, 1) := by decide +kernel
theorem dX7_tells_39 : decode cX7_tells 39 = .ok (.aload_n 0, 1) := by decide +kernel
theorem dX7_tells_40 : decode cX7_tells 40 = .ok (.iconst 1, 1) := by decide +kernel
theorem dX7_tells_41 : decode cX7_tells 41 = .ok (.invokevirtual 247, 3) := by decide +kernel
theorem dX7_tells_44 : decode cX7_tells 44 = .ok (.iload_n 1, 1) := by decide +kernel
theorem dX7_tells_45 : decode cX7_tells 45 = .ok (.iconst 2, 1) := by decide +kernel
theorem dX7_tells_46 : decode cX7_tells 46 = .ok (.if_icmp .ne 12, 3) := by decide +kernel
theorem dX7_tells_49 : decode cX7_tells 49 = .ok (.aload_n 0, 1) := by decide +kernel
theorem dX7_tells_50 : decode cX7_tells 50 = .ok (.aload_n 0, 1) := by decide +kernel
theorem dX7_tells_51 : decode cX7_tells 51 = .ok (.getfield 27, 3) := by decide +kernel
theorem dX7_tells_54 : decode cX7_tells 54 = .ok (.invokevirtual 250, 3) := by decide +kernel
theorem dX7_tells_57 : decode cX7_tells 57 = .ok (.ireturn, 1) := by decide +kernel
theorem dX7_tells_58 : decode cX7_tells 58 = .ok (.aload_n 0, 1) := by decide +kernel
theorem dX7_tells_59 : decode cX7_tells 59 = .ok (.aload_n 0, 1) := by decide +kernel
theorem dX7_tells_60 : decode cX7_tells 60 = .ok (.getfield 27, 3) := by decide +kernel
theorem dX7_tells_63 : decode cX7_tells 63 = .ok (.iload_n 2, 1) := by decide +kernel
theorem dX7_tells_64 : decode cX7_tells 64 = .ok (.invokevirtual 244, 3) := by decide +kernel
theorem dX7_tells_67 : decode cX7_tells 67 = .ok (.iload_n 1, 1) := by decide +kernel
theorem dX7_tells_68 : decode cX7_tells 68 = .ok (.ifCond .ne 10, 3) := by decide +kernel
theorem dX7_tells_71 : decode cX7_tells 71 = .ok (.aload_n 0, 1) := by decide +kernel
theorem dX7_tells_72 : decode cX7_tells 72 = .ok (.getfield 194, 3) := by decide +kernel
theorem dX7_tells_75 : decode cX7_tells 75 = .ok (.goto 7, 3) := by decide +kernel
theorem dX7_tells_78 : decode cX7_tells 78 = .ok (.aload_n 0, 1) := by decide +kernel
theorem dX7_tells_79 : decode cX7_tells 79 = .ok (.getfield 197, 3) := by decide +kernel
theorem dX7_tells_82 : decode cX7_tells 82 = .ok (.ireturn, 1) := by decide +kernel
noncomputable def B_X7_tells_30 (a1 : Int32) (a2 : Int32) (t0 : Int32) (S : fS) : Option (Int32 × fS) := bd (F_X7_bad t0 1 S) (fun v1 S2 => bb (v1 = (0 : Int32)) (bd (F_X7_namesOf 1 S2) (fun v5 S6 => bb (a1 = (2 : Int32)) (iv (ge S6 40 0 15) (fun x16 => bd (F_X7_lotsBy x16 S6) (fun v17 S18 => some (v17, S18)))) (iv (ge S6 40 0 15) (fun x9 => bd (F_X7_tellsBy x9 a2 S6) (fun v10 S11 => bb (a1 = (0 : Int32)) (iv (ge S11 40 0 18) (fun x15 => some (x15, S11))) (iv (ge S11 40 0 19) (fun x14 => some (x14, S11)))))))) (some (0, S2)))
noncomputable def B_X7_tells_25 (a1 : Int32) (a2 : Int32) (S : fS) : Option (Int32 × fS) := B_X7_tells_30  a1 a2 1 S
noncomputable def F_X7_tells (p1 : Int32) (p2 : Int32) (S0 : fS) : Option (Int32 × fS) := sv (pu S0 40 0 0 0) (fun S20 => bd (F_X7_in p1 0 2 S20) (fun v21 S22 => bb (v21 = (0 : Int32)) (B_X7_tells_25  p1 p2 S22) (bd (F_X7_in p2 0 35 S22) (fun v25 S26 => bb (v25 = (0 : Int32)) (B_X7_tells_25  p1 p2 S26) (B_X7_tells_30  p1 p2 0 S26)))))
set_option maxHeartbeats 4000000 in
set_option maxRecDepth 100000 in
theorem c_X7_tells (l : Launch) (D : va_G) (K : Nat → ClassId) (b0 : Nat) (sa : sT) (sz : Nat) (L : List Nat) (f0 : Nat → va_E) (ad : Nat → Nat → Nat) (P : Nat → Nat → Prop) {n : Nat × Nat} (hP : ∀ a i : Nat, isn n a i → P a i) (S0 : fS) (hw : PW K ad P S0 L f0) (hn : S0.2.2.1 = n) (p1 : Int32) (p2 : Int32) (v : Int32) (S1 : fS) (h : F_X7_tells p1 p2 S0 = some (v, S1)) : Met l yX7_tells (.code yX7_tells cX7_tells 3 (some .int) :: gt) { frames := 75, cells := 0, slots := 0, locals := 2779 } (va_Pc [.ref (ad 40 0), .int p1, .int p2] (hPre D K b0 sa sz L f0)) (hQ D K b0 (fun v9 u9 => ∃ f2 : Nat → va_E, v9 = some (.int v) ∧ u9 = lU L f2 ∧ PW K ad P S1 L f2 ∧ S1.2.2.1 = n ∧ Kp ad P L f0 f2)) 0 0 (fun q => b0 ≤ q) := by
  refine t_of (own := RX7) (by decide) rfl ?_ (Nat.le_of_ble_eq_true rfl)
  intro p e s m below meth c ls C w hsz hr hlk hnm hl
  have hx := C.1
  have hb := C.2.1
  have hl : lv_has ls 3 [(0, .ref (ad 40 0)), (1, .int p1), (2, .int p2)] := hl
  have J30 : ∀ (a1 : Int32) (a2 : Int32) (t0 : Int32) (S : fS), B_X7_tells_30  a1 a2 t0 S = some (v, S1) → Gw D K b0 sa ad P n L f0 p l e { frames := 75, cells := 0, slots := 0, locals := 2779 } s m [.ref (ad 40 0), .int p1, .int p2].toArray below meth c 3 (MQ below (hQ D K b0 (fun v9 u9 => ∃ f2 : Nat → va_E, v9 = some (.int v) ∧ u9 = lU L f2 ∧ PW K ad P S1 L f2 ∧ S1.2.2.1 = n ∧ Kp ad P L f0 f2)) [.ref (ad 40 0), .int p1, .int p2].toArray s 0 0 (fun q => b0 ≤ q)) 0 0 30 [(0, .ref (ad 40 0)), (1, .int a1), (2, .int a2)] [.int t0, .ref (ad 40 0)] S := by
    intro a1 a2 t0 S h
    dsimp only [B_X7_tells_30] at h
    intro f H locs w hw hn hk ls hl
    refine lv_iconst (v := 1) hx hb dX7_tells_30 (by decide) ?_
    obtain ⟨v1, S2, h3, h⟩ := bd_some h
    refine u_callV (n := 2) C w hw (hP _ _ (isn_f rfl rfl (by decide))) rfl rfl rfl (c_X7_bad l D K b0 sa _ L _ ad P hP S hw hn t0 1 v1 S2 h3) gw_1347 gw_1344 gw_1346 gs_22 gw_8 ⟨by decide, by decide, by decide +kernel⟩ rfl rfl ⟨by decide, by decide⟩ rfl hl.1 rfl (Nat.le_of_ble_eq_true rfl) dX7_tells_31 ⟨Nat.le_of_ble_eq_true rfl, Nat.le_of_ble_eq_true rfl⟩ (fun v9 u H locs hp w => ?_)
    obtain ⟨f2, rfl, rfl, hw, hn, hk1⟩ := hp
    have hk := hk.tr hk1
    generalize f2 = f at w hw hk
    refine lv_if_eq (tgt := 39) hx hb dX7_tells_34 (by decide) (fun c4 => ?_) (fun c4 => ?_)
    · have h := bb_t h c4
      refine lv_aload_n hx hb dX7_tells_39 rfl (lv_at hl 0 rfl) ?_
      refine lv_iconst (v := 1) hx hb dX7_tells_40 (by decide) ?_
      obtain ⟨v5, S6, h7, h⟩ := bd_some h
      refine u_callV (n := 1) C w hw (hP _ _ (isn_f rfl rfl (by decide))) rfl rfl rfl (c_X7_namesOf l D K b0 sa _ L _ ad P hP S2 hw hn 1 v5 S6 h7) gw_1445 gw_1442 gw_1444 gs_42 gw_8 ⟨by decide, by decide, by decide +kernel⟩ rfl rfl ⟨by decide, by decide⟩ rfl hl.1 rfl (Nat.le_of_ble_eq_true rfl) dX7_tells_41 ⟨Nat.le_of_ble_eq_true rfl, Nat.le_of_ble_eq_true rfl⟩ (fun v9 u H locs hp w => ?_)
      obtain ⟨f2, rfl, rfl, hw, hn, hk1⟩ := hp
      have hk := hk.tr hk1
      generalize f2 = f at w hw hk
      refine lv_iload_n hx hb dX7_tells_44 rfl (lv_at hl 1 rfl) ?_
      refine lv_iconst (v := 2) hx hb dX7_tells_45 (by decide) ?_
      refine lv_icmp_ne (tgt := 58) hx hb dX7_tells_46 (by decide) (fun c8 => ?_) (fun c8 => ?_)
      · have h := bb_f h c8
        refine lv_aload_n hx hb dX7_tells_58 rfl (lv_at hl 0 rfl) ?_
        refine lv_aload_n hx hb dX7_tells_59 rfl (lv_at hl 0 rfl) ?_
        refine u_geti C w hw (hP _ _ (isn_f rfl rfl (by decide))) rfl (N := 57) rfl rfl cin_7 15 (by decide) rfl gw_1171 dX7_tells_60 ?_
        refine u_iv h (fun x9 h => ?_)
        refine lv_iload_n hx hb dX7_tells_63 rfl (lv_at hl 2 rfl) ?_
        obtain ⟨v10, S11, h12, h⟩ := bd_some h
        refine u_callV (n := 2) C w hw (hP _ _ (isn_f rfl rfl (by decide))) rfl rfl rfl (c_X7_tellsBy l D K b0 sa _ L _ ad P hP S6 hw hn x9 a2 v10 S11 h12) gw_1453 gw_1450 gw_1452 gs_44 gw_8 ⟨by decide, by decide, by decide +kernel⟩ rfl rfl ⟨by decide, by decide⟩ rfl hl.1 rfl (Nat.le_of_ble_eq_true rfl) dX7_tells_64 ⟨Nat.le_of_ble_eq_true rfl, Nat.le_of_ble_eq_true rfl⟩ (fun v9 u H locs hp w => ?_)
        obtain ⟨f2, rfl, rfl, hw, hn, hk1⟩ := hp
        have hk := hk.tr hk1
        generalize f2 = f at w hw hk
        refine lv_iload_n hx hb dX7_tells_67 rfl (lv_at hl 1 rfl) ?_
        refine lv_if_ne (tgt := 78) hx hb dX7_tells_68 (by decide) (fun c13 => ?_) (fun c13 => ?_)
        · have h := bb_f h c13
          refine lv_aload_n hx hb dX7_tells_78 rfl (lv_at hl 0 rfl) ?_
          refine u_geti C w hw (hP _ _ (isn_f rfl rfl (by decide))) rfl (N := 57) rfl rfl cin_7 19 (by decide) rfl gw_1175 dX7_tells_79 ?_
          refine u_iv h (fun x14 h => ?_)
          exact t_iret C hr hlk w ⟨_, so_v h, rfl, so_w h hw, so_n h hn, hk⟩ (by decide) (by decide) dX7_tells_82
        · have h := bb_t h c13
          refine lv_aload_n hx hb dX7_tells_71 rfl (lv_at hl 0 rfl) ?_
          refine u_geti C w hw (hP _ _ (isn_f rfl rfl (by decide))) rfl (N := 57) rfl rfl cin_7 18 (by decide) rfl gw_1174 dX7_tells_72 ?_
          refine u_iv h (fun x15 h => ?_)
          refine lv_goto (tgt := 82) hx hb dX7_tells_75 (by decide) ?_
          exact t_iret C hr hlk w ⟨_, so_v h, rfl, so_w h hw, so_n h hn, hk⟩ (by decide) (by decide) dX7_tells_82
      · have h := bb_t h c8
        refine lv_aload_n hx hb dX7_tells_49 rfl (lv_at hl 0 rfl) ?_
        refine lv_aload_n hx hb dX7_tells_50 rfl (lv_at hl 0 rfl) ?_
        refine u_geti C w hw (hP _ _ (isn_f rfl rfl (by decide))) rfl (N := 57) rfl rfl cin_7 15 (by decide) rfl gw_1171 dX7_tells_51 ?_
        refine u_iv h (fun x16 h => ?_)
        obtain ⟨v17, S18, h19, h⟩ := bd_some h
        refine u_callV (n := 1) C w hw (hP _ _ (isn_f rfl rfl (by decide))) rfl rfl rfl (c_X7_lotsBy l D K b0 sa _ L _ ad P hP S6 hw hn x16 v17 S18 h19) gw_1449 gw_1446 gw_1448 gs_43 gw_8 ⟨by decide, by decide, by decide +kernel⟩ rfl rfl ⟨by decide, by decide⟩ rfl hl.1 rfl (Nat.le_of_ble_eq_true rfl) dX7_tells_54 ⟨Nat.le_of_ble_eq_true rfl, Nat.le_of_ble_eq_true rfl⟩ (fun v9 u H locs hp w => ?_)
        obtain ⟨f2, rfl, rfl, hw, hn, hk1⟩ := hp
        have hk := hk.tr hk1
        generalize f2 = f at w hw hk
        exact t_iret C hr hlk w ⟨_, so_v h, rfl, so_w h hw, so_n h hn, hk⟩ (by decide) (by decide) dX7_tells_57
    · have h := bb_f h c4
      refine lv_iconst (v := 0) hx hb dX7_tells_37 (by decide) ?_
      exact t_iret C hr hlk w ⟨_, so_v h, rfl, so_w h hw, so_n h hn, hk⟩ (by decide) (by decide) dX7_tells_38
  have J25 : ∀ (a1 : Int32) (a2 : Int32) (S : fS), B_X7_tells_25  a1 a2 S = some (v, S1) → Gw D K b0 sa ad P n L f0 p l e { frames := 75, cells := 0, slots := 0, locals := 2779 } s m [.ref (ad 40 0), .int p1, .int p2].toArray below meth c 3 (MQ below (hQ D K b0 (fun v9 u9 => ∃ f2 : Nat → va_E, v9 = some (.int v) ∧ u9 = lU L f2 ∧ PW K ad P S1 L f2 ∧ S1.2.2.1 = n ∧ Kp ad P L f0 f2)) [.ref (ad 40 0), .int p1, .int p2].toArray s 0 0 (fun q => b0 ≤ q)) 0 0 25 [(0, .ref (ad 40 0)), (1, .int a1), (2, .int a2)] [.ref (ad 40 0)] S := by
    intro a1 a2 S h
    dsimp only [B_X7_tells_25] at h
    intro f H locs w hw hn hk ls hl
    refine lv_iconst (v := 1) hx hb dX7_tells_25 (by decide) ?_
    refine lv_goto (tgt := 30) hx hb dX7_tells_26 (by decide) ?_
    exact J30  a1 a2 1 S h f H locs w hw hn hk ls (lv_sub hl [0, 1, 2] rfl)
  dsimp only [F_X7_tells] at h
  obtain ⟨f, ef⟩ : ∃ z, z = f0 := ⟨_, rfl⟩
  rw [← ef] at w hw
  have hk : Kp ad P L f0 f := by rw [ef]; exact Kp.rf
  obtain ⟨H, eH⟩ : ∃ z, z = s.heap := ⟨_, rfl⟩
  obtain ⟨locs, el⟩ : ∃ z : List Loc, z = [] := ⟨_, rfl⟩
  rw [← eH, ← el] at w ⊢
  refine lv_aload_n hx hb dX7_tells_0 rfl (lv_at hl 0 rfl) ?_
  refine lv_iconst (v := 0) hx hb dX7_tells_1 (by decide) ?_
  refine u_puti C w hw (hP _ _ (isn_f rfl rfl (by decide))) rfl (N := 57) rfl rfl cin_7 tyX7 tyX7_ok nmX7 0 (by decide) rfl rfl rfl rfl gw_1156 dX7_tells_2 (fun f H locs w hw hk1 => ?_)
  have hk := hk.tr hk1
  refine u_sv h hw hn (fun S20 h hw hn => ?_)
  refine lv_aload_n hx hb dX7_tells_5 rfl (lv_at hl 0 rfl) ?_
  refine lv_iload_n hx hb dX7_tells_6 rfl (lv_at hl 1 rfl) ?_
  refine lv_iconst (v := 0) hx hb dX7_tells_7 (by decide) ?_
  refine lv_iconst (v := 2) hx hb dX7_tells_8 (by decide) ?_
  obtain ⟨v21, S22, h23, h⟩ := bd_some h
  refine t_callS (n := 3) C w (c_X7_in l D K b0 sa _ L _ ad P hP S20 hw hn p1 0 2 v21 S22 h23) gw_1343 gw_1341 gw_1342 gw_8 ⟨by decide, by decide, by decide +kernel⟩ rfl rfl ⟨by decide, by decide⟩ rfl hl.1 rfl (Nat.le_of_ble_eq_true rfl) dX7_tells_9 ⟨Nat.le_of_ble_eq_true rfl, Nat.le_of_ble_eq_true rfl⟩ (fun v9 u H locs hp w => ?_)
  obtain ⟨f2, rfl, rfl, hw, hn, hk1⟩ := hp
  have hk := hk.tr hk1
  generalize f2 = f at w hw hk
  refine lv_if_eq (tgt := 25) hx hb dX7_tells_12 (by decide) (fun c24 => ?_) (fun c24 => ?_)
  · have h := bb_t h c24
    exact J25  p1 p2 S22 h f H locs w hw hn hk ls (lv_sub hl [0, 1, 2] rfl)
  · have h := bb_f h c24
    refine lv_iload_n hx hb dX7_tells_15 rfl (lv_at hl 2 rfl) ?_
    refine lv_iconst (v := 0) hx hb dX7_tells_16 (by decide) ?_
    refine lv_bipush (v := 35) hx hb dX7_tells_17 (by decide) ?_
    obtain ⟨v25, S26, h27, h⟩ := bd_some h
    refine t_callS (n := 3) C w (c_X7_in l D K b0 sa _ L _ ad P hP S22 hw hn p2 0 35 v25 S26 h27) gw_1343 gw_1341 gw_1342 gw_8 ⟨by decide, by decide, by decide +kernel⟩ rfl rfl ⟨by decide, by decide⟩ rfl hl.1 rfl (Nat.le_of_ble_eq_true rfl) dX7_tells_19 ⟨Nat.le_of_ble_eq_true rfl, Nat.le_of_ble_eq_true rfl⟩ (fun v9 u H locs hp w => ?_)
    obtain ⟨f2, rfl, rfl, hw, hn, hk1⟩ := hp
    have hk := hk.tr hk1
    generalize f2 = f at w hw hk
    refine lv_if_ne (tgt := 29) hx hb dX7_tells_22 (by decide) (fun c28 => ?_) (fun c28 => ?_)
    · have h := bb_f h c28
      refine lv_iconst (v := 0) hx hb dX7_tells_29 (by decide) ?_
      exact J30  p1 p2 0 S26 h f H locs w hw hn hk ls (lv_sub hl [0, 1, 2] rfl)
    · have h := bb_t h c28
      exact J25  p1 p2 S26 h f H locs w hw hn hk ls (lv_sub hl [0, 1, 2] rfl)
theorem dX7_isPaidBy_0 : decode cX7_isPaidBy 0 = .ok (.aload_n 0, 1) := by decide +kernel
theorem dX7_isPaidBy_1 : decode cX7_isPaidBy 1 = .ok (.iload_n 2, 1) := by decide +kernel
theorem dX7_isPaidBy_2 : decode cX7_isPaidBy 2 = .ok (.iload_n 3, 1) := by decide +kernel
theorem dX7_isPaidBy_3 : decode cX7_isPaidBy 3 = .ok (.invokevirtual 244, 3) := by decide +kernel
theorem dX7_isPaidBy_6 : decode cX7_isPaidBy 6 = .ok (.aload_n 0, 1) := by decide +kernel
theorem dX7_isPaidBy_7 : decode cX7_isPaidBy 7 = .ok (.iload_n 1, 1) := by decide +kernel
theorem dX7_isPaidBy_8 : decode cX7_isPaidBy 8 = .ok (.aload_n 0, 1) := by decide +kernel
theorem dX7_isPaidBy_9 : decode cX7_isPaidBy 9 = .ok (.getfield 194, 3) := by decide +kernel
theorem dX7_isPaidBy_12 : decode cX7_isPaidBy 12 = .ok (.aload_n 0, 1) := by decide +kernel
theorem dX7_isPaidBy_13 : decode cX7_isPaidBy 13 = .ok (.getfield 197, 3) := by decide +kernel
theorem dX7_isPaidBy_16 : decode cX7_isPaidBy 16 = .ok (.invokevirtual 307, 3) := by decide +kernel
theorem dX7_isPaidBy_19 : decode cX7_isPaidBy 19 = .ok (.iconst 5, 1) := by decide +kernel
theorem dX7_isPaidBy_20 : decode cX7_isPaidBy 20 = .ok (.if_icmp .ne 7, 3) := by decide +kernel
theorem dX7_isPaidBy_23 : decode cX7_isPaidBy 23 = .ok (.iconst 1, 1) := by decide +kernel
theorem dX7_isPaidBy_24 : decode cX7_isPaidBy 24 = .ok (.goto 4, 3) := by decide +kernel
theorem dX7_isPaidBy_27 : decode cX7_isPaidBy 27 = .ok (.iconst 0, 1) := by decide +kernel
theorem dX7_isPaidBy_28 : decode cX7_isPaidBy 28 = .ok (.ireturn, 1) := by decide +kernel
noncomputable def F_X7_isPaidBy (p1 : Int32) (p2 : Int32) (p3 : Int32) (S0 : fS) : Option (Int32 × fS) := bd (F_X7_tellsBy p2 p3 S0) (fun v1 S2 => iv (ge S2 40 0 18) (fun x4 => iv (ge S2 40 0 19) (fun x5 => bd (F_X7_wouldBe p1 x4 x5 S2) (fun v6 S7 => bb (v6 = (5 : Int32)) (some (1, S7)) (some (0, S7))))))
set_option maxHeartbeats 4000000 in
set_option maxRecDepth 100000 in
theorem c_X7_isPaidBy (l : Launch) (D : va_G) (K : Nat → ClassId) (b0 : Nat) (sa : sT) (sz : Nat) (L : List Nat) (f0 : Nat → va_E) (ad : Nat → Nat → Nat) (P : Nat → Nat → Prop) {n : Nat × Nat} (hP : ∀ a i : Nat, isn n a i → P a i) (S0 : fS) (hw : PW K ad P S0 L f0) (hn : S0.2.2.1 = n) (p1 : Int32) (p2 : Int32) (p3 : Int32) (v : Int32) (S1 : fS) (h : F_X7_isPaidBy p1 p2 p3 S0 = some (v, S1)) : Met l yX7_isPaidBy (.code yX7_isPaidBy cX7_isPaidBy 4 (some .boolean) :: gt) { frames := 74, cells := 0, slots := 0, locals := 2758 } (va_Pc [.ref (ad 40 0), .int p1, .int p2, .int p3] (hPre D K b0 sa sz L f0)) (hQ D K b0 (fun v9 u9 => ∃ f2 : Nat → va_E, v9 = some (.int v) ∧ u9 = lU L f2 ∧ PW K ad P S1 L f2 ∧ S1.2.2.1 = n ∧ Kp ad P L f0 f2)) 0 0 (fun q => b0 ≤ q) := by
  refine t_of (own := RX7) (by decide) rfl ?_ (Nat.le_of_ble_eq_true rfl)
  intro p e s m below meth c ls C w hsz hr hlk hnm hl
  have hx := C.1
  have hb := C.2.1
  have hl : lv_has ls 4 [(0, .ref (ad 40 0)), (1, .int p1), (2, .int p2), (3, .int p3)] := hl
  dsimp only [F_X7_isPaidBy] at h
  obtain ⟨f, ef⟩ : ∃ z, z = f0 := ⟨_, rfl⟩
  rw [← ef] at w hw
  have hk : Kp ad P L f0 f := by rw [ef]; exact Kp.rf
  obtain ⟨H, eH⟩ : ∃ z, z = s.heap := ⟨_, rfl⟩
  obtain ⟨locs, el⟩ : ∃ z : List Loc, z = [] := ⟨_, rfl⟩
  rw [← eH, ← el] at w ⊢
  refine lv_aload_n hx hb dX7_isPaidBy_0 rfl (lv_at hl 0 rfl) ?_
  refine lv_iload_n hx hb dX7_isPaidBy_1 rfl (lv_at hl 2 rfl) ?_
  refine lv_iload_n hx hb dX7_isPaidBy_2 rfl (lv_at hl 3 rfl) ?_
  obtain ⟨v1, S2, h3, h⟩ := bd_some h
  refine u_callV (n := 2) C w hw (hP _ _ (isn_f rfl rfl (by decide))) rfl rfl rfl (c_X7_tellsBy l D K b0 sa _ L _ ad P hP S0 hw hn p2 p3 v1 S2 h3) gw_1453 gw_1450 gw_1452 gs_44 gw_8 ⟨by decide, by decide, by decide +kernel⟩ rfl rfl ⟨by decide, by decide⟩ rfl hl.1 rfl (Nat.le_of_ble_eq_true rfl) dX7_isPaidBy_3 ⟨Nat.le_of_ble_eq_true rfl, Nat.le_of_ble_eq_true rfl⟩ (fun v9 u H locs hp w => ?_)
  obtain ⟨f2, rfl, rfl, hw, hn, hk1⟩ := hp
  have hk := hk.tr hk1
  generalize f2 = f at w hw hk
  refine lv_aload_n hx hb dX7_isPaidBy_6 rfl (lv_at hl 0 rfl) ?_
  refine lv_iload_n hx hb dX7_isPaidBy_7 rfl (lv_at hl 1 rfl) ?_
  refine lv_aload_n hx hb dX7_isPaidBy_8 rfl (lv_at hl 0 rfl) ?_
  refine u_geti C w hw (hP _ _ (isn_f rfl rfl (by decide))) rfl (N := 57) rfl rfl cin_7 18 (by decide) rfl gw_1174 dX7_isPaidBy_9 ?_
  refine u_iv h (fun x4 h => ?_)
  refine lv_aload_n hx hb dX7_isPaidBy_12 rfl (lv_at hl 0 rfl) ?_
  refine u_geti C w hw (hP _ _ (isn_f rfl rfl (by decide))) rfl (N := 57) rfl rfl cin_7 19 (by decide) rfl gw_1175 dX7_isPaidBy_13 ?_
  refine u_iv h (fun x5 h => ?_)
  obtain ⟨v6, S7, h8, h⟩ := bd_some h
  refine u_callV (n := 3) C w hw (hP _ _ (isn_f rfl rfl (by decide))) rfl rfl rfl (c_X7_wouldBe l D K b0 sa _ L _ ad P hP S2 hw hn p1 x4 x5 v6 S7 h8) gw_1527 gw_1524 gw_1526 gs_52 gw_8 ⟨by decide, by decide, by decide +kernel⟩ rfl rfl ⟨by decide, by decide⟩ rfl hl.1 rfl (Nat.le_of_ble_eq_true rfl) dX7_isPaidBy_16 ⟨Nat.le_of_ble_eq_true rfl, Nat.le_of_ble_eq_true rfl⟩ (fun v9 u H locs hp w => ?_)
  obtain ⟨f2, rfl, rfl, hw, hn, hk1⟩ := hp
  have hk := hk.tr hk1
  generalize f2 = f at w hw hk
  refine lv_iconst (v := 5) hx hb dX7_isPaidBy_19 (by decide) ?_
  refine lv_icmp_ne (tgt := 27) hx hb dX7_isPaidBy_20 (by decide) (fun c9 => ?_) (fun c9 => ?_)
  · have h := bb_f h c9
    refine lv_iconst (v := 0) hx hb dX7_isPaidBy_27 (by decide) ?_
    exact t_zret C hr hlk w (by decide) ⟨_, so_v h, rfl, so_w h hw, so_n h hn, hk⟩ (by decide) (by decide) dX7_isPaidBy_28
  · have h := bb_t h c9
    refine lv_iconst (v := 1) hx hb dX7_isPaidBy_23 (by decide) ?_
    refine lv_goto (tgt := 28) hx hb dX7_isPaidBy_24 (by decide) ?_
    exact t_zret C hr hlk w (by decide) ⟨_, so_v h, rfl, so_w h hw, so_n h hn, hk⟩ (by decide) (by decide) dX7_isPaidBy_28
theorem dX7_triesAt_0 : decode cX7_triesAt 0 = .ok (.aload_n 0, 1) := by decide +kernel
theorem dX7_triesAt_1 : decode cX7_triesAt 1 = .ok (.iconst 1, 1) := by decide +kernel
theorem dX7_triesAt_2 : decode cX7_triesAt 2 = .ok (.invokevirtual 247, 3) := by decide +kernel
theorem dX7_triesAt_5 : decode cX7_triesAt 5 = .ok (.aload_n 0, 1) := by decide +kernel
theorem dX7_triesAt_6 : decode cX7_triesAt 6 = .ok (.aload_n 0, 1) := by decide +kernel
theorem dX7_triesAt_7 : decode cX7_triesAt 7 = .ok (.getfield 27, 3) := by decide +kernel
theorem dX7_triesAt_10 : decode cX7_triesAt 10 = .ok (.iload_n 2, 1) := by decide +kernel
theorem dX7_triesAt_11 : decode cX7_triesAt 11 = .ok (.invokevirtual 244, 3) := by decide +kernel
theorem dX7_triesAt_14 : decode cX7_triesAt 14 = .ok (.aload_n 0, 1) := by decide +kernel
theorem dX7_triesAt_15 : decode cX7_triesAt 15 = .ok (.iload_n 1, 1) := by decide +kernel
theorem dX7_triesAt_16 : decode cX7_triesAt 16 = .ok (.aload_n 0, 1) := by decide +kernel
theorem dX7_triesAt_17 : decode cX7_triesAt 17 = .ok (.getfield 194, 3) := by decide +kernel
theorem dX7_triesAt_20 : decode cX7_triesAt 20 = .ok (.aload_n 0, 1) := by decide +kernel
theorem dX7_triesAt_21 : decode cX7_triesAt 21 = .ok (.getfield 197, 3) := by decide +kernel
theorem dX7_triesAt_24 : decode cX7_triesAt 24 = .ok (.invokevirtual 307, 3) := by decide +kernel
theorem dX7_triesAt_27 : decode cX7_triesAt 27 = .ok (.istore_n 3, 1) := by decide +kernel
theorem dX7_triesAt_28 : decode cX7_triesAt 28 = .ok (.aload_n 0, 1) := by decide +kernel
theorem dX7_triesAt_29 : decode cX7_triesAt 29 = .ok (.iload_n 3, 1) := by decide +kernel
theorem dX7_triesAt_30 : decode cX7_triesAt 30 = .ok (.putfield 284, 3) := by decide +kernel
theorem dX7_triesAt_33 : decode cX7_triesAt 33 = .ok (.aload_n 0, 1) := by decide +kernel
theorem dX7_triesAt_34 : decode cX7_triesAt 34 = .ok (.iconst 0, 1) := by decide +kernel
theorem dX7_triesAt_35 : decode cX7_triesAt 35 = .ok (.putfield 310, 3) := by decide +kernel
theorem dX7_triesAt_38 : decode cX7_triesAt 38 = .ok (.iconst 0, 1) := by decide +kernel
theorem dX7_triesAt_39 : decode cX7_triesAt 39 = .ok (.istore 4, 2) := by decide +kernel
theorem dX7_triesAt_41 : decode cX7_triesAt 41 = .ok (.iload 4, 2) := by decide +kernel
theorem dX7_triesAt_43 : decode cX7_triesAt 43 = .ok (.aload_n 0, 1) := by decide +kernel
theorem dX7_triesAt_44 : decode cX7_triesAt 44 = .ok (.getfield 272, 3) := by decide +kernel
theorem dX7_triesAt_47 : decode cX7_triesAt 47 = .ok (.if_icmp .ge 69, 3) := by decide +kernel
theorem dX7_triesAt_50 : decode cX7_triesAt 50 = .ok (.iload_n 3, 1) := by decide +kernel
theorem dX7_triesAt_51 : decode cX7_triesAt 51 = .ok (.iconst 3, 1) := by decide +kernel
theorem dX7_triesAt_52 : decode cX7_triesAt 52 = .ok (.if_icmp .eq 8, 3) := by decide +kernel
theorem dX7_triesAt_55 : decode cX7_triesAt 55 = .ok (.iload_n 3, 1) := by decide +kernel
theorem dX7_triesAt_56 : decode cX7_triesAt 56 = .ok (.iconst 5, 1) := by decide +kernel
theorem dX7_triesAt_57 : decode cX7_triesAt 57 = .ok (.if_icmp .ne 59, 3) := by decide +kernel
theorem dX7_triesAt_60 : decode cX7_triesAt 60 = .ok (.aload_n 0, 1) := by decide +kernel
theorem dX7_triesAt_61 : decode cX7_triesAt 61 = .ok (.getfield 70, 3) := by decide +kernel
theorem dX7_triesAt_64 : decode cX7_triesAt 64 = .ok (.iload 4, 2) := by decide +kernel
theorem dX7_triesAt_66 : decode cX7_triesAt 66 = .ok (.iaload, 1) := by decide +kernel
theorem dX7_triesAt_67 : decode cX7_triesAt 67 = .ok (.istore 5, 2) := by decide +kernel
theorem dX7_triesAt_69 : decode cX7_triesAt 69 = .ok (.aload_n 0, 1) := by decide +kernel
theorem dX7_triesAt_70 : decode cX7_triesAt 70 = .ok (.iload 5, 2) := by decide +kernel
theorem dX7_triesAt_72 : decode cX7_triesAt 72 = .ok (.iconst (-1), 1) := by decide +kernel
theorem dX7_triesAt_73 : decode cX7_triesAt 73 = .ok (.invokevirtual 265, 3) := by decide +kernel
theorem dX7_triesAt_76 : decode cX7_triesAt 76 = .ok (.iload_n 3, 1) := by decide +kernel
theorem dX7_triesAt_77 : decode cX7_triesAt 77 = .ok (.iconst 3, 1) := by decide +kernel
theorem dX7_triesAt_78 : decode cX7_triesAt 78 = .ok (.if_icmp .ne 16, 3) := by decide +kernel
theorem dX7_triesAt_81 : decode cX7_triesAt 81 = .ok (.aload_n 0, 1) := by decide +kernel
theorem dX7_triesAt_82 : decode cX7_triesAt 82 = .ok (.iload 5, 2) := by decide +kernel
theorem dX7_triesAt_84 : decode cX7_triesAt 84 = .ok (.aload_n 0, 1) := by decide +kernel
theorem dX7_triesAt_85 : decode cX7_triesAt 85 = .ok (.getfield 281, 3) := by decide +kernel
theorem dX7_triesAt_88 : decode cX7_triesAt 88 = .ok (.invokevirtual 259, 3) := by decide +kernel
theorem dX7_triesAt_91 : decode cX7_triesAt 91 = .ok (.goto 19, 3) := by decide +kernel
theorem dX7_triesAt_94 : decode cX7_triesAt 94 = .ok (.aload_n 0, 1) := by decide +kernel
theorem dX7_triesAt_95 : decode cX7_triesAt 95 = .ok (.dup, 1) := by decide +kernel
theorem dX7_triesAt_96 : decode cX7_triesAt 96 = .ok (.getfield 310, 3) := by decide +kernel
theorem dX7_triesAt_99 : decode cX7_triesAt 99 = .ok (.aload_n 0, 1) := by decide +kernel
theorem dX7_triesAt_100 : decode cX7_triesAt 100 = .ok (.getfield 39, 3) := by decide +kernel
theorem dX7_triesAt_103 : decode cX7_triesAt 103 = .ok (.iload 5, 2) := by decide +kernel
theorem dX7_triesAt_105 : decode cX7_triesAt 105 = .ok (.iaload, 1) := by decide +kernel
theorem dX7_triesAt_106 : decode cX7_triesAt 106 = .ok (.iadd, 1) := by decide +kernel
theorem dX7_triesAt_107 : decode cX7_triesAt 107 = .ok (.putfield 310, 3) := by decide +kernel
theorem dX7_triesAt_110 : decode cX7_triesAt 110 = .ok (.iinc 4 1, 3) := by decide +kernel
theorem dX7_triesAt_113 : decode cX7_triesAt 113 = .ok (.goto (-72), 3) := by decide +kernel
theorem dX7_triesAt_116 : decode cX7_triesAt 116 = .ok (.aload_n 0, 1) := by decide +kernel
theorem dX7_triesAt_117 : decode cX7_triesAt 117 = .ok (.dup, 1) := by decide +kernel
theorem dX7_triesAt_118 : decode cX7_triesAt 118 = .ok (.getfield 222, 3) := by decide +kernel
theorem dX7_triesAt_121 : decode cX7_triesAt 121 = .ok (.iconst 1, 1) := by decide +kernel
theorem dX7_triesAt_122 : decode cX7_triesAt 122 = .ok (.iadd, 1) := by decide +kernel
theorem dX7_triesAt_123 : decode cX7_triesAt 123 = .ok (.putfield 222, 3) := by decide +kernel
theorem dX7_triesAt_126 : decode cX7_triesAt 126 = .ok (.aload_n 0, 1) := by decide +kernel
theorem dX7_triesAt_127 : decode cX7_triesAt 127 = .ok (.iload_n 3, 1) := by decide +kernel
theorem dX7_triesAt_128 : decode cX7_triesAt 128 = .ok (.iconst 5, 1) := by decide +kernel
theorem dX7_triesAt_129 : decode cX7_triesAt 129 = .ok (.if_icmp .ne 7, 3) := by decide +kernel
theorem dX7_triesAt_132 : decode cX7_triesAt 132 = .ok (.iconst 0, 1) := by decide +kernel
theorem dX7_triesAt_133 : decode cX7_triesAt 133 = .ok (.goto 9, 3) := by decide +kernel
theorem dX7_triesAt_136 : decode cX7_triesAt 136 = .ok (.aload_n 0, 1) := by decide +kernel
theorem dX7_triesAt_137 : decode cX7_triesAt 137 = .ok (.getfield 225, 3) := by decide +kernel
theorem dX7_triesAt_140 : decode cX7_triesAt 140 = .ok (.iconst 1, 1) := by decide +kernel
theorem dX7_triesAt_141 : decode cX7_triesAt 141 = .ok (.iadd, 1) := by decide +kernel
theorem dX7_triesAt_142 : decode cX7_triesAt 142 = .ok (.putfield 225, 3) := by decide +kernel
theorem dX7_triesAt_145 : decode cX7_triesAt 145 = .ok (.aload_n 0, 1) := by decide +kernel
theorem dX7_triesAt_146 : decode cX7_triesAt 146 = .ok (.dup, 1) := by decide +kernel
theorem dX7_triesAt_147 : decode cX7_triesAt 147 = .ok (.getfield 228, 3) := by decide +kernel
theorem dX7_triesAt_150 : decode cX7_triesAt 150 = .ok (.aload_n 0, 1) := by decide +kernel
theorem dX7_triesAt_151 : decode cX7_triesAt 151 = .ok (.getfield 64, 3) := by decide +kernel
theorem dX7_triesAt_154 : decode cX7_triesAt 154 = .ok (.iadd, 1) := by decide +kernel
theorem dX7_triesAt_155 : decode cX7_triesAt 155 = .ok (.putfield 228, 3) := by decide +kernel
theorem dX7_triesAt_158 : decode cX7_triesAt 158 = .ok (.aload_n 0, 1) := by decide +kernel
theorem dX7_triesAt_159 : decode cX7_triesAt 159 = .ok (.dup, 1) := by decide +kernel
theorem dX7_triesAt_160 : decode cX7_triesAt 160 = .ok (.getfield 231, 3) := by decide +kernel
theorem dX7_triesAt_163 : decode cX7_triesAt 163 = .ok (.aload_n 0, 1) := by decide +kernel
theorem dX7_triesAt_164 : decode cX7_triesAt 164 = .ok (.getfield 310, 3) := by decide +kernel
theorem dX7_triesAt_167 : decode cX7_triesAt 167 = .ok (.iadd, 1) := by decide +kernel
theorem dX7_triesAt_168 : decode cX7_triesAt 168 = .ok (.putfield 231, 3) := by decide +kernel
theorem dX7_triesAt_171 : decode cX7_triesAt 171 = .ok (.return_, 1) := by decide +kernel
noncomputable def B_X7_triesAt_110 (k41 : (Int32 × Int32) → fS → Option (Int32 × fS)) (a3 : Int32) (a4 : Int32) (S : fS) : Option (Int32 × fS) := iv (a4 + Int32.ofInt 1) (fun x1 => k41 (a3, x1) S)
noncomputable def B_X7_triesAt_60 (k41 : (Int32 × Int32) → fS → Option (Int32 × fS)) (a3 : Int32) (a4 : Int32) (S : fS) : Option (Int32 × fS) := gd (ib a4 5) (iv (ge S 55 0 (a4 : Int32).toNatClampNeg) (fun x3 => bd (F_X7_goes x3 (-1) S) (fun v4 S5 => bb (a3 = (3 : Int32)) (iv (ge S5 40 0 42) (fun x13 => bd (F_X7_puts x3 x13 S5) (fun v14 S15 => B_X7_triesAt_110 k41 a3 a4 S15))) (iv (ge S5 40 0 43) (fun x8 => gd (ib x3 24) (iv (ge S5 48 0 (x3 : Int32).toNatClampNeg) (fun x10 => iv (x8 + x10) (fun x11 => sv (pu S5 40 0 43 x11) (fun S12 => B_X7_triesAt_110 k41 a3 a4 S12)))))))))
noncomputable def B_X7_triesAt_142 (t0 : Int32) (S : fS) : Option (Int32 × fS) := sv (pu S 40 0 36 t0) (fun S17 => iv (ge S17 40 0 37) (fun x18 => iv (ge S17 40 0 32) (fun x19 => iv (x18 + x19) (fun x20 => sv (pu S17 40 0 37 x20) (fun S21 => iv (ge S21 40 0 38) (fun x22 => iv (ge S21 40 0 43) (fun x23 => iv (x22 + x23) (fun x24 => sv (pu S21 40 0 38 x24) (fun S25 => some (0, S25))))))))))
noncomputable def B_X7_triesAt_116 (a3 : Int32) (S : fS) : Option (Int32 × fS) := iv (ge S 40 0 35) (fun x26 => iv (x26 + (1 : Int32)) (fun x27 => sv (pu S 40 0 35 x27) (fun S28 => bb (a3 = (5 : Int32)) (B_X7_triesAt_142  0 S28) (iv (ge S28 40 0 36) (fun x30 => iv (x30 + (1 : Int32)) (fun x31 => B_X7_triesAt_142  x31 S28))))))
noncomputable def B_X7_triesAt_41 (k41 : (Int32 × Int32) → fS → Option (Int32 × fS)) : (Int32 × Int32) → fS → Option (Int32 × fS) := fun ⟨a3, a4⟩ S => iv (ge S 40 0 40) (fun x32 => bb (x32 ≤ a4) (B_X7_triesAt_116  a3 S) (bb (a3 = (3 : Int32)) (B_X7_triesAt_60 k41 a3 a4 S) (bb (a3 = (5 : Int32)) (B_X7_triesAt_60 k41 a3 a4 S) (B_X7_triesAt_116  a3 S))))
noncomputable def F_X7_triesAt (p1 : Int32) (p2 : Int32) (S0 : fS) : Option (Int32 × fS) := bd (F_X7_namesOf 1 S0) (fun v36 S37 => iv (ge S37 40 0 15) (fun x39 => bd (F_X7_tellsBy x39 p2 S37) (fun v40 S41 => iv (ge S41 40 0 18) (fun x43 => iv (ge S41 40 0 19) (fun x44 => bd (F_X7_wouldBe p1 x43 x44 S41) (fun v45 S46 => sv (pu S46 40 0 41 v45) (fun S48 => sv (pu S48 40 0 43 0) (fun S49 => lp (B_X7_triesAt_41 ) fuel (v45, 0) S49))))))))
set_option maxHeartbeats 4000000 in
set_option maxRecDepth 100000 in
theorem c_X7_triesAt (l : Launch) (D : va_G) (K : Nat → ClassId) (b0 : Nat) (sa : sT) (sz : Nat) (L : List Nat) (f0 : Nat → va_E) (ad : Nat → Nat → Nat) (P : Nat → Nat → Prop) {n : Nat × Nat} (hP : ∀ a i : Nat, isn n a i → P a i) (S0 : fS) (hw : PW K ad P S0 L f0) (hn : S0.2.2.1 = n) (p1 : Int32) (p2 : Int32) (v : Int32) (S1 : fS) (h : F_X7_triesAt p1 p2 S0 = some (v, S1)) : Met l yX7_triesAt (.code yX7_triesAt cX7_triesAt 6 none :: gt) { frames := 74, cells := 0, slots := 0, locals := 2758 } (va_Pc [.ref (ad 40 0), .int p1, .int p2] (hPre D K b0 sa sz L f0)) (hQ D K b0 (fun v9 u9 => ∃ f2 : Nat → va_E, v9 = none ∧ u9 = lU L f2 ∧ PW K ad P S1 L f2 ∧ S1.2.2.1 = n ∧ Kp ad P L f0 f2)) 0 0 (fun q => b0 ≤ q) := by
  refine t_of (own := RX7) (by decide) rfl ?_ (Nat.le_of_ble_eq_true rfl)
  intro p e s m below meth c ls C w hsz hr hlk hnm hl
  have hx := C.1
  have hb := C.2.1
  have hl : lv_has ls 6 [(0, .ref (ad 40 0)), (1, .int p1), (2, .int p2)] := hl
  have J110 : ∀ (k41 : (Int32 × Int32) → fS → Option (Int32 × fS)) (hk41 : ∀ (a3 : Int32) (a4 : Int32) (S : fS), k41 (a3, a4) S = some (v, S1) → Gw D K b0 sa ad P n L f0 p l e { frames := 74, cells := 0, slots := 0, locals := 2758 } s m [.ref (ad 40 0), .int p1, .int p2].toArray below meth c 6 (MQ below (hQ D K b0 (fun v9 u9 => ∃ f2 : Nat → va_E, v9 = none ∧ u9 = lU L f2 ∧ PW K ad P S1 L f2 ∧ S1.2.2.1 = n ∧ Kp ad P L f0 f2)) [.ref (ad 40 0), .int p1, .int p2].toArray s 0 0 (fun q => b0 ≤ q)) 0 0 41 [(0, .ref (ad 40 0)), (3, .int a3), (4, .int a4)] [] S) (a3 : Int32) (a4 : Int32) (S : fS), B_X7_triesAt_110 k41 a3 a4 S = some (v, S1) → Gw D K b0 sa ad P n L f0 p l e { frames := 74, cells := 0, slots := 0, locals := 2758 } s m [.ref (ad 40 0), .int p1, .int p2].toArray below meth c 6 (MQ below (hQ D K b0 (fun v9 u9 => ∃ f2 : Nat → va_E, v9 = none ∧ u9 = lU L f2 ∧ PW K ad P S1 L f2 ∧ S1.2.2.1 = n ∧ Kp ad P L f0 f2)) [.ref (ad 40 0), .int p1, .int p2].toArray s 0 0 (fun q => b0 ≤ q)) 0 0 110 [(0, .ref (ad 40 0)), (3, .int a3), (4, .int a4)] [] S := by
    intro k41 hk41 a3 a4 S h
    dsimp only [B_X7_triesAt_110] at h
    intro f H locs w hw hn hk ls hl
    obtain ⟨x1, ex1, h⟩ := iv_some h
    refine lv_iinc (v := x1) (lv' := [(4, .int x1), (0, .ref (ad 40 0)), (3, .int a3)]) hx hb dX7_triesAt_110 hl (k := 2) rfl ex1.symm (by decide) rfl (fun ls hl => ?_)
    refine lv_goto (tgt := 41) hx hb dX7_triesAt_113 (by decide) ?_
    exact hk41 a3 x1 S h f H locs w hw hn hk ls (lv_sub hl [1, 2, 0] rfl)
  have J60 : ∀ (k41 : (Int32 × Int32) → fS → Option (Int32 × fS)) (hk41 : ∀ (a3 : Int32) (a4 : Int32) (S : fS), k41 (a3, a4) S = some (v, S1) → Gw D K b0 sa ad P n L f0 p l e { frames := 74, cells := 0, slots := 0, locals := 2758 } s m [.ref (ad 40 0), .int p1, .int p2].toArray below meth c 6 (MQ below (hQ D K b0 (fun v9 u9 => ∃ f2 : Nat → va_E, v9 = none ∧ u9 = lU L f2 ∧ PW K ad P S1 L f2 ∧ S1.2.2.1 = n ∧ Kp ad P L f0 f2)) [.ref (ad 40 0), .int p1, .int p2].toArray s 0 0 (fun q => b0 ≤ q)) 0 0 41 [(0, .ref (ad 40 0)), (3, .int a3), (4, .int a4)] [] S) (a3 : Int32) (a4 : Int32) (S : fS), B_X7_triesAt_60 k41 a3 a4 S = some (v, S1) → Gw D K b0 sa ad P n L f0 p l e { frames := 74, cells := 0, slots := 0, locals := 2758 } s m [.ref (ad 40 0), .int p1, .int p2].toArray below meth c 6 (MQ below (hQ D K b0 (fun v9 u9 => ∃ f2 : Nat → va_E, v9 = none ∧ u9 = lU L f2 ∧ PW K ad P S1 L f2 ∧ S1.2.2.1 = n ∧ Kp ad P L f0 f2)) [.ref (ad 40 0), .int p1, .int p2].toArray s 0 0 (fun q => b0 ≤ q)) 0 0 60 [(0, .ref (ad 40 0)), (3, .int a3), (4, .int a4)] [] S := by
    intro k41 hk41 a3 a4 S h
    dsimp only [B_X7_triesAt_60] at h
    intro f H locs w hw hn hk ls hl
    refine lv_aload_n hx hb dX7_triesAt_60 rfl (lv_at hl 0 rfl) ?_
    refine u_getr C w hw (hP _ _ (isn_f rfl rfl (by decide))) rfl (N := 57) rfl rfl cin_7 39 (by decide) (by decide) (a2 := 55) (i2 := 0) rfl gw_1195 dX7_triesAt_61 ?_
    refine lv_iload hx hb dX7_triesAt_64 (lv_at hl 2 rfl) ?_
    obtain ⟨g2, h⟩ := gd_some h
    refine u_iald C w hw (hP _ _ (isn_f rfl rfl (by decide))) rfl rfl (n := 5) rfl (vp_in_iff.mpr g2) dX7_triesAt_66 ?_
    refine u_iv h (fun x3 h => ?_)
    refine lv_istore (lv' := [(5, .int x3), (0, .ref (ad 40 0)), (3, .int a3), (4, .int a4)]) hx hb dX7_triesAt_67 hl (by decide) rfl (fun ls hl => ?_)
    refine lv_aload_n hx hb dX7_triesAt_69 rfl (lv_at hl 1 rfl) ?_
    refine lv_iload hx hb dX7_triesAt_70 (lv_at hl 0 rfl) ?_
    refine lv_iconst (v := (-1)) hx hb dX7_triesAt_72 (by decide) ?_
    obtain ⟨v4, S5, h6, h⟩ := bd_some h
    refine u_callV (n := 2) C w hw (hP _ _ (isn_f rfl rfl (by decide))) rfl rfl rfl (c_X7_goes l D K b0 sa _ L _ ad P hP S hw hn x3 (-1) v4 S5 h6) gw_1483 gw_1480 gw_1482 gs_47 gw_8 ⟨by decide, by decide, by decide +kernel⟩ rfl rfl ⟨by decide, by decide⟩ rfl hl.1 rfl (Nat.le_of_ble_eq_true rfl) dX7_triesAt_73 ⟨Nat.le_of_ble_eq_true rfl, Nat.le_of_ble_eq_true rfl⟩ (fun v9 u H locs hp w => ?_)
    obtain ⟨f2, rfl, rfl, hw, hn, hk1⟩ := hp
    have hk := hk.tr hk1
    generalize f2 = f at w hw hk
    refine lv_iload_n hx hb dX7_triesAt_76 rfl (lv_at hl 2 rfl) ?_
    refine lv_iconst (v := 3) hx hb dX7_triesAt_77 (by decide) ?_
    refine lv_icmp_ne (tgt := 94) hx hb dX7_triesAt_78 (by decide) (fun c7 => ?_) (fun c7 => ?_)
    · have h := bb_f h c7
      refine lv_aload_n hx hb dX7_triesAt_94 rfl (lv_at hl 1 rfl) ?_
      refine lv_dup hx hb dX7_triesAt_95 rfl ?_
      refine u_geti C w hw (hP _ _ (isn_f rfl rfl (by decide))) rfl (N := 57) rfl rfl cin_7 43 (by decide) rfl gw_1199 dX7_triesAt_96 ?_
      refine u_iv h (fun x8 h => ?_)
      refine lv_aload_n hx hb dX7_triesAt_99 rfl (lv_at hl 1 rfl) ?_
      refine u_getr C w hw (hP _ _ (isn_f rfl rfl (by decide))) rfl (N := 57) rfl rfl cin_7 24 (by decide) (by decide) (a2 := 48) (i2 := 0) rfl gw_1180 dX7_triesAt_100 ?_
      refine lv_iload hx hb dX7_triesAt_103 (lv_at hl 0 rfl) ?_
      obtain ⟨g9, h⟩ := gd_some h
      refine u_iald C w hw (hP _ _ (isn_f rfl rfl (by decide))) rfl rfl (n := 24) rfl (vp_in_iff.mpr g9) dX7_triesAt_105 ?_
      refine u_iv h (fun x10 h => ?_)
      refine lv_iadd hx hb dX7_triesAt_106 ?_
      refine u_iv h (fun x11 h => ?_)
      refine u_puti C w hw (hP _ _ (isn_f rfl rfl (by decide))) rfl (N := 57) rfl rfl cin_7 tyX7 tyX7_ok nmX7 43 (by decide) rfl rfl rfl rfl gw_1199 dX7_triesAt_107 (fun f H locs w hw hk1 => ?_)
      have hk := hk.tr hk1
      refine u_sv h hw hn (fun S12 h hw hn => ?_)
      exact J110 k41 hk41 a3 a4 S12 h f H locs w hw hn hk ls (lv_sub hl [1, 2, 3] rfl)
    · have h := bb_t h c7
      refine lv_aload_n hx hb dX7_triesAt_81 rfl (lv_at hl 1 rfl) ?_
      refine lv_iload hx hb dX7_triesAt_82 (lv_at hl 0 rfl) ?_
      refine lv_aload_n hx hb dX7_triesAt_84 rfl (lv_at hl 1 rfl) ?_
      refine u_geti C w hw (hP _ _ (isn_f rfl rfl (by decide))) rfl (N := 57) rfl rfl cin_7 42 (by decide) rfl gw_1198 dX7_triesAt_85 ?_
      refine u_iv h (fun x13 h => ?_)
      obtain ⟨v14, S15, h16, h⟩ := bd_some h
      refine u_callV (n := 2) C w hw (hP _ _ (isn_f rfl rfl (by decide))) rfl rfl rfl (c_X7_puts l D K b0 sa _ L _ ad P hP S5 hw hn x3 x13 v14 S15 h16) gw_1471 gw_1468 gw_1470 gs_46 gw_8 ⟨by decide, by decide, by decide +kernel⟩ rfl rfl ⟨by decide, by decide⟩ rfl hl.1 rfl (Nat.le_of_ble_eq_true rfl) dX7_triesAt_88 ⟨Nat.le_of_ble_eq_true rfl, Nat.le_of_ble_eq_true rfl⟩ (fun v9 u H locs hp w => ?_)
      obtain ⟨f2, rfl, rfl, hw, hn, hk1⟩ := hp
      have hk := hk.tr hk1
      generalize f2 = f at w hw hk
      refine lv_goto (tgt := 110) hx hb dX7_triesAt_91 (by decide) ?_
      exact J110 k41 hk41 a3 a4 S15 h f H locs w hw hn hk ls (lv_sub hl [1, 2, 3] rfl)
  have J142 : ∀ (t0 : Int32) (S : fS), B_X7_triesAt_142  t0 S = some (v, S1) → Gw D K b0 sa ad P n L f0 p l e { frames := 74, cells := 0, slots := 0, locals := 2758 } s m [.ref (ad 40 0), .int p1, .int p2].toArray below meth c 6 (MQ below (hQ D K b0 (fun v9 u9 => ∃ f2 : Nat → va_E, v9 = none ∧ u9 = lU L f2 ∧ PW K ad P S1 L f2 ∧ S1.2.2.1 = n ∧ Kp ad P L f0 f2)) [.ref (ad 40 0), .int p1, .int p2].toArray s 0 0 (fun q => b0 ≤ q)) 0 0 142 [(0, .ref (ad 40 0))] [.int t0, .ref (ad 40 0)] S := by
    intro t0 S h
    dsimp only [B_X7_triesAt_142] at h
    intro f H locs w hw hn hk ls hl
    refine u_puti C w hw (hP _ _ (isn_f rfl rfl (by decide))) rfl (N := 57) rfl rfl cin_7 tyX7 tyX7_ok nmX7 36 (by decide) rfl rfl rfl rfl gw_1192 dX7_triesAt_142 (fun f H locs w hw hk1 => ?_)
    have hk := hk.tr hk1
    refine u_sv h hw hn (fun S17 h hw hn => ?_)
    refine lv_aload_n hx hb dX7_triesAt_145 rfl (lv_at hl 0 rfl) ?_
    refine lv_dup hx hb dX7_triesAt_146 rfl ?_
    refine u_geti C w hw (hP _ _ (isn_f rfl rfl (by decide))) rfl (N := 57) rfl rfl cin_7 37 (by decide) rfl gw_1193 dX7_triesAt_147 ?_
    refine u_iv h (fun x18 h => ?_)
    refine lv_aload_n hx hb dX7_triesAt_150 rfl (lv_at hl 0 rfl) ?_
    refine u_geti C w hw (hP _ _ (isn_f rfl rfl (by decide))) rfl (N := 57) rfl rfl cin_7 32 (by decide) rfl gw_1188 dX7_triesAt_151 ?_
    refine u_iv h (fun x19 h => ?_)
    refine lv_iadd hx hb dX7_triesAt_154 ?_
    refine u_iv h (fun x20 h => ?_)
    refine u_puti C w hw (hP _ _ (isn_f rfl rfl (by decide))) rfl (N := 57) rfl rfl cin_7 tyX7 tyX7_ok nmX7 37 (by decide) rfl rfl rfl rfl gw_1193 dX7_triesAt_155 (fun f H locs w hw hk1 => ?_)
    have hk := hk.tr hk1
    refine u_sv h hw hn (fun S21 h hw hn => ?_)
    refine lv_aload_n hx hb dX7_triesAt_158 rfl (lv_at hl 0 rfl) ?_
    refine lv_dup hx hb dX7_triesAt_159 rfl ?_
    refine u_geti C w hw (hP _ _ (isn_f rfl rfl (by decide))) rfl (N := 57) rfl rfl cin_7 38 (by decide) rfl gw_1194 dX7_triesAt_160 ?_
    refine u_iv h (fun x22 h => ?_)
    refine lv_aload_n hx hb dX7_triesAt_163 rfl (lv_at hl 0 rfl) ?_
    refine u_geti C w hw (hP _ _ (isn_f rfl rfl (by decide))) rfl (N := 57) rfl rfl cin_7 43 (by decide) rfl gw_1199 dX7_triesAt_164 ?_
    refine u_iv h (fun x23 h => ?_)
    refine lv_iadd hx hb dX7_triesAt_167 ?_
    refine u_iv h (fun x24 h => ?_)
    refine u_puti C w hw (hP _ _ (isn_f rfl rfl (by decide))) rfl (N := 57) rfl rfl cin_7 tyX7 tyX7_ok nmX7 38 (by decide) rfl rfl rfl rfl gw_1194 dX7_triesAt_168 (fun f H locs w hw hk1 => ?_)
    have hk := hk.tr hk1
    refine u_sv h hw hn (fun S25 h hw hn => ?_)
    exact t_vret C hr hlk w ⟨_, rfl, rfl, so_w h hw, so_n h hn, hk⟩ (by decide) (by decide) dX7_triesAt_171
  have J116 : ∀ (a3 : Int32) (S : fS), B_X7_triesAt_116  a3 S = some (v, S1) → Gw D K b0 sa ad P n L f0 p l e { frames := 74, cells := 0, slots := 0, locals := 2758 } s m [.ref (ad 40 0), .int p1, .int p2].toArray below meth c 6 (MQ below (hQ D K b0 (fun v9 u9 => ∃ f2 : Nat → va_E, v9 = none ∧ u9 = lU L f2 ∧ PW K ad P S1 L f2 ∧ S1.2.2.1 = n ∧ Kp ad P L f0 f2)) [.ref (ad 40 0), .int p1, .int p2].toArray s 0 0 (fun q => b0 ≤ q)) 0 0 116 [(0, .ref (ad 40 0)), (3, .int a3)] [] S := by
    intro a3 S h
    dsimp only [B_X7_triesAt_116] at h
    intro f H locs w hw hn hk ls hl
    refine lv_aload_n hx hb dX7_triesAt_116 rfl (lv_at hl 0 rfl) ?_
    refine lv_dup hx hb dX7_triesAt_117 rfl ?_
    refine u_geti C w hw (hP _ _ (isn_f rfl rfl (by decide))) rfl (N := 57) rfl rfl cin_7 35 (by decide) rfl gw_1191 dX7_triesAt_118 ?_
    refine u_iv h (fun x26 h => ?_)
    refine lv_iconst (v := 1) hx hb dX7_triesAt_121 (by decide) ?_
    refine lv_iadd hx hb dX7_triesAt_122 ?_
    refine u_iv h (fun x27 h => ?_)
    refine u_puti C w hw (hP _ _ (isn_f rfl rfl (by decide))) rfl (N := 57) rfl rfl cin_7 tyX7 tyX7_ok nmX7 35 (by decide) rfl rfl rfl rfl gw_1191 dX7_triesAt_123 (fun f H locs w hw hk1 => ?_)
    have hk := hk.tr hk1
    refine u_sv h hw hn (fun S28 h hw hn => ?_)
    refine lv_aload_n hx hb dX7_triesAt_126 rfl (lv_at hl 0 rfl) ?_
    refine lv_iload_n hx hb dX7_triesAt_127 rfl (lv_at hl 1 rfl) ?_
    refine lv_iconst (v := 5) hx hb dX7_triesAt_128 (by decide) ?_
    refine lv_icmp_ne (tgt := 136) hx hb dX7_triesAt_129 (by decide) (fun c29 => ?_) (fun c29 => ?_)
    · have h := bb_f h c29
      refine lv_aload_n hx hb dX7_triesAt_136 rfl (lv_at hl 0 rfl) ?_
      refine u_geti C w hw (hP _ _ (isn_f rfl rfl (by decide))) rfl (N := 57) rfl rfl cin_7 36 (by decide) rfl gw_1192 dX7_triesAt_137 ?_
      refine u_iv h (fun x30 h => ?_)
      refine lv_iconst (v := 1) hx hb dX7_triesAt_140 (by decide) ?_
      refine lv_iadd hx hb dX7_triesAt_141 ?_
      refine u_iv h (fun x31 h => ?_)
      exact J142  x31 S28 h f H locs w hw hn hk ls (lv_sub hl [0] rfl)
    · have h := bb_t h c29
      refine lv_iconst (v := 0) hx hb dX7_triesAt_132 (by decide) ?_
      refine lv_goto (tgt := 142) hx hb dX7_triesAt_133 (by decide) ?_
      exact J142  0 S28 h f H locs w hw hn hk ls (lv_sub hl [0] rfl)
  have J41 : ∀ (fu : Nat) (a3 : Int32) (a4 : Int32) (S : fS), lp (B_X7_triesAt_41 ) fu (a3, a4) S = some (v, S1) → Gw D K b0 sa ad P n L f0 p l e { frames := 74, cells := 0, slots := 0, locals := 2758 } s m [.ref (ad 40 0), .int p1, .int p2].toArray below meth c 6 (MQ below (hQ D K b0 (fun v9 u9 => ∃ f2 : Nat → va_E, v9 = none ∧ u9 = lU L f2 ∧ PW K ad P S1 L f2 ∧ S1.2.2.1 = n ∧ Kp ad P L f0 f2)) [.ref (ad 40 0), .int p1, .int p2].toArray s 0 0 (fun q => b0 ≤ q)) 0 0 41 [(0, .ref (ad 40 0)), (3, .int a3), (4, .int a4)] [] S := by
    intro fu a3 a4 S h
    refine lp_some (G := (fun q S => Gw D K b0 sa ad P n L f0 p l e { frames := 74, cells := 0, slots := 0, locals := 2758 } s m [.ref (ad 40 0), .int p1, .int p2].toArray below meth c 6 (MQ below (hQ D K b0 (fun v9 u9 => ∃ f2 : Nat → va_E, v9 = none ∧ u9 = lU L f2 ∧ PW K ad P S1 L f2 ∧ S1.2.2.1 = n ∧ Kp ad P L f0 f2)) [.ref (ad 40 0), .int p1, .int p2].toArray s 0 0 (fun q => b0 ≤ q)) 0 0 41 [(0, .ref (ad 40 0)), (3, .int q.1), (4, .int q.2)] [] S)) (fun k41 hk41 q S h => ?_) fu (a3, a4) S h
    obtain ⟨a3, a4⟩ := q
    have hk41 : ∀ (a3 : Int32) (a4 : Int32) (S : fS), k41 (a3, a4) S = some (v, S1) → Gw D K b0 sa ad P n L f0 p l e { frames := 74, cells := 0, slots := 0, locals := 2758 } s m [.ref (ad 40 0), .int p1, .int p2].toArray below meth c 6 (MQ below (hQ D K b0 (fun v9 u9 => ∃ f2 : Nat → va_E, v9 = none ∧ u9 = lU L f2 ∧ PW K ad P S1 L f2 ∧ S1.2.2.1 = n ∧ Kp ad P L f0 f2)) [.ref (ad 40 0), .int p1, .int p2].toArray s 0 0 (fun q => b0 ≤ q)) 0 0 41 [(0, .ref (ad 40 0)), (3, .int a3), (4, .int a4)] [] S := fun a3 a4 S h => hk41 (a3, a4) S h
    dsimp only [B_X7_triesAt_41] at h
    intro f H locs w hw hn hk ls hl
    refine lv_iload hx hb dX7_triesAt_41 (lv_at hl 2 rfl) ?_
    refine lv_aload_n hx hb dX7_triesAt_43 rfl (lv_at hl 0 rfl) ?_
    refine u_geti C w hw (hP _ _ (isn_f rfl rfl (by decide))) rfl (N := 57) rfl rfl cin_7 40 (by decide) rfl gw_1196 dX7_triesAt_44 ?_
    refine u_iv h (fun x32 h => ?_)
    refine lv_icmp_ge (tgt := 116) hx hb dX7_triesAt_47 (by decide) (fun c33 => ?_) (fun c33 => ?_)
    · have h := bb_t h c33
      exact J116  a3 S h f H locs w hw hn hk ls (lv_sub hl [0, 1] rfl)
    · have h := bb_f h c33
      refine lv_iload_n hx hb dX7_triesAt_50 rfl (lv_at hl 1 rfl) ?_
      refine lv_iconst (v := 3) hx hb dX7_triesAt_51 (by decide) ?_
      refine lv_icmp_eq (tgt := 60) hx hb dX7_triesAt_52 (by decide) (fun c34 => ?_) (fun c34 => ?_)
      · have h := bb_t h c34
        exact J60 k41 hk41 a3 a4 S h f H locs w hw hn hk ls (lv_sub hl [0, 1, 2] rfl)
      · have h := bb_f h c34
        refine lv_iload_n hx hb dX7_triesAt_55 rfl (lv_at hl 1 rfl) ?_
        refine lv_iconst (v := 5) hx hb dX7_triesAt_56 (by decide) ?_
        refine lv_icmp_ne (tgt := 116) hx hb dX7_triesAt_57 (by decide) (fun c35 => ?_) (fun c35 => ?_)
        · have h := bb_f h c35
          exact J116  a3 S h f H locs w hw hn hk ls (lv_sub hl [0, 1] rfl)
        · have h := bb_t h c35
          exact J60 k41 hk41 a3 a4 S h f H locs w hw hn hk ls (lv_sub hl [0, 1, 2] rfl)
  dsimp only [F_X7_triesAt] at h
  obtain ⟨f, ef⟩ : ∃ z, z = f0 := ⟨_, rfl⟩
  rw [← ef] at w hw
  have hk : Kp ad P L f0 f := by rw [ef]; exact Kp.rf
  obtain ⟨H, eH⟩ : ∃ z, z = s.heap := ⟨_, rfl⟩
  obtain ⟨locs, el⟩ : ∃ z : List Loc, z = [] := ⟨_, rfl⟩
  rw [← eH, ← el] at w ⊢
  refine lv_aload_n hx hb dX7_triesAt_0 rfl (lv_at hl 0 rfl) ?_
  refine lv_iconst (v := 1) hx hb dX7_triesAt_1 (by decide) ?_
  obtain ⟨v36, S37, h38, h⟩ := bd_some h
  refine u_callV (n := 1) C w hw (hP _ _ (isn_f rfl rfl (by decide))) rfl rfl rfl (c_X7_namesOf l D K b0 sa _ L _ ad P hP S0 hw hn 1 v36 S37 h38) gw_1445 gw_1442 gw_1444 gs_42 gw_8 ⟨by decide, by decide, by decide +kernel⟩ rfl rfl ⟨by decide, by decide⟩ rfl hl.1 rfl (Nat.le_of_ble_eq_true rfl) dX7_triesAt_2 ⟨Nat.le_of_ble_eq_true rfl, Nat.le_of_ble_eq_true rfl⟩ (fun v9 u H locs hp w => ?_)
  obtain ⟨f2, rfl, rfl, hw, hn, hk1⟩ := hp
  have hk := hk.tr hk1
  generalize f2 = f at w hw hk
  refine lv_aload_n hx hb dX7_triesAt_5 rfl (lv_at hl 0 rfl) ?_
  refine lv_aload_n hx hb dX7_triesAt_6 rfl (lv_at hl 0 rfl) ?_
  refine u_geti C w hw (hP _ _ (isn_f rfl rfl (by decide))) rfl (N := 57) rfl rfl cin_7 15 (by decide) rfl gw_1171 dX7_triesAt_7 ?_
  refine u_iv h (fun x39 h => ?_)
  refine lv_iload_n hx hb dX7_triesAt_10 rfl (lv_at hl 2 rfl) ?_
  obtain ⟨v40, S41, h42, h⟩ := bd_some h
  refine u_callV (n := 2) C w hw (hP _ _ (isn_f rfl rfl (by decide))) rfl rfl rfl (c_X7_tellsBy l D K b0 sa _ L _ ad P hP S37 hw hn x39 p2 v40 S41 h42) gw_1453 gw_1450 gw_1452 gs_44 gw_8 ⟨by decide, by decide, by decide +kernel⟩ rfl rfl ⟨by decide, by decide⟩ rfl hl.1 rfl (Nat.le_of_ble_eq_true rfl) dX7_triesAt_11 ⟨Nat.le_of_ble_eq_true rfl, Nat.le_of_ble_eq_true rfl⟩ (fun v9 u H locs hp w => ?_)
  obtain ⟨f2, rfl, rfl, hw, hn, hk1⟩ := hp
  have hk := hk.tr hk1
  generalize f2 = f at w hw hk
  refine lv_aload_n hx hb dX7_triesAt_14 rfl (lv_at hl 0 rfl) ?_
  refine lv_iload_n hx hb dX7_triesAt_15 rfl (lv_at hl 1 rfl) ?_
  refine lv_aload_n hx hb dX7_triesAt_16 rfl (lv_at hl 0 rfl) ?_
  refine u_geti C w hw (hP _ _ (isn_f rfl rfl (by decide))) rfl (N := 57) rfl rfl cin_7 18 (by decide) rfl gw_1174 dX7_triesAt_17 ?_
  refine u_iv h (fun x43 h => ?_)
  refine lv_aload_n hx hb dX7_triesAt_20 rfl (lv_at hl 0 rfl) ?_
  refine u_geti C w hw (hP _ _ (isn_f rfl rfl (by decide))) rfl (N := 57) rfl rfl cin_7 19 (by decide) rfl gw_1175 dX7_triesAt_21 ?_
  refine u_iv h (fun x44 h => ?_)
  obtain ⟨v45, S46, h47, h⟩ := bd_some h
  refine u_callV (n := 3) C w hw (hP _ _ (isn_f rfl rfl (by decide))) rfl rfl rfl (c_X7_wouldBe l D K b0 sa _ L _ ad P hP S41 hw hn p1 x43 x44 v45 S46 h47) gw_1527 gw_1524 gw_1526 gs_52 gw_8 ⟨by decide, by decide, by decide +kernel⟩ rfl rfl ⟨by decide, by decide⟩ rfl hl.1 rfl (Nat.le_of_ble_eq_true rfl) dX7_triesAt_24 ⟨Nat.le_of_ble_eq_true rfl, Nat.le_of_ble_eq_true rfl⟩ (fun v9 u H locs hp w => ?_)
  obtain ⟨f2, rfl, rfl, hw, hn, hk1⟩ := hp
  have hk := hk.tr hk1
  generalize f2 = f at w hw hk
  refine lv_istore_n (lv' := [(3, .int v45), (0, .ref (ad 40 0)), (1, .int p1), (2, .int p2)]) hx hb dX7_triesAt_27 rfl hl (by decide) rfl (fun ls hl => ?_)
  refine lv_aload_n hx hb dX7_triesAt_28 rfl (lv_at hl 1 rfl) ?_
  refine lv_iload_n hx hb dX7_triesAt_29 rfl (lv_at hl 0 rfl) ?_
  refine u_puti C w hw (hP _ _ (isn_f rfl rfl (by decide))) rfl (N := 57) rfl rfl cin_7 tyX7 tyX7_ok nmX7 41 (by decide) rfl rfl rfl rfl gw_1197 dX7_triesAt_30 (fun f H locs w hw hk1 => ?_)
  have hk := hk.tr hk1
  refine u_sv h hw hn (fun S48 h hw hn => ?_)
  refine lv_aload_n hx hb dX7_triesAt_33 rfl (lv_at hl 1 rfl) ?_
  refine lv_iconst (v := 0) hx hb dX7_triesAt_34 (by decide) ?_
  refine u_puti C w hw (hP _ _ (isn_f rfl rfl (by decide))) rfl (N := 57) rfl rfl cin_7 tyX7 tyX7_ok nmX7 43 (by decide) rfl rfl rfl rfl gw_1199 dX7_triesAt_35 (fun f H locs w hw hk1 => ?_)
  have hk := hk.tr hk1
  refine u_sv h hw hn (fun S49 h hw hn => ?_)
  refine lv_iconst (v := 0) hx hb dX7_triesAt_38 (by decide) ?_
  refine lv_istore (lv' := [(4, .int 0), (3, .int v45), (0, .ref (ad 40 0)), (1, .int p1), (2, .int p2)]) hx hb dX7_triesAt_39 hl (by decide) rfl (fun ls hl => ?_)
  exact J41  fuel v45 0 S49 h f H locs w hw hn hk ls (lv_sub hl [2, 1, 0] rfl)
