theorem dX7_lays_0 : decode cX7_lays 0 = .ok (.iconst 0, 1) := by decide +kernel
theorem dX7_lays_1 : decode cX7_lays 1 = .ok (.istore_n 2, 1) := by decide +kernel
theorem dX7_lays_2 : decode cX7_lays 2 = .ok (.iload_n 2, 1) := by decide +kernel
theorem dX7_lays_3 : decode cX7_lays 3 = .ok (.bipush 64, 2) := by decide +kernel
theorem dX7_lays_5 : decode cX7_lays 5 = .ok (.if_icmp .ge 58, 3) := by decide +kernel
theorem dX7_lays_8 : decode cX7_lays 8 = .ok (.iconst 0, 1) := by decide +kernel
theorem dX7_lays_9 : decode cX7_lays 9 = .ok (.istore_n 3, 1) := by decide +kernel
theorem dX7_lays_10 : decode cX7_lays 10 = .ok (.iload_n 3, 1) := by decide +kernel
theorem dX7_lays_11 : decode cX7_lays 11 = .ok (.bipush 24, 2) := by decide +kernel
theorem dX7_lays_13 : decode cX7_lays 13 = .ok (.if_icmp .ge 30, 3) := by decide +kernel
theorem dX7_lays_16 : decode cX7_lays 16 = .ok (.aload_n 0, 1) := by decide +kernel
theorem dX7_lays_17 : decode cX7_lays 17 = .ok (.getfield 79, 3) := by decide +kernel
theorem dX7_lays_20 : decode cX7_lays 20 = .ok (.bipush 64, 2) := by decide +kernel
theorem dX7_lays_22 : decode cX7_lays 22 = .ok (.iload_n 1, 1) := by decide +kernel
theorem dX7_lays_23 : decode cX7_lays 23 = .ok (.imul, 1) := by decide +kernel
theorem dX7_lays_24 : decode cX7_lays 24 = .ok (.iload_n 2, 1) := by decide +kernel
theorem dX7_lays_25 : decode cX7_lays 25 = .ok (.iadd, 1) := by decide +kernel
theorem dX7_lays_26 : decode cX7_lays 26 = .ok (.aaload, 1) := by decide +kernel
theorem dX7_lays_27 : decode cX7_lays 27 = .ok (.iload_n 3, 1) := by decide +kernel
theorem dX7_lays_28 : decode cX7_lays 28 = .ok (.aload_n 0, 1) := by decide +kernel
theorem dX7_lays_29 : decode cX7_lays 29 = .ok (.getfield 52, 3) := by decide +kernel
theorem dX7_lays_32 : decode cX7_lays 32 = .ok (.iload_n 2, 1) := by decide +kernel
theorem dX7_lays_33 : decode cX7_lays 33 = .ok (.aaload, 1) := by decide +kernel
theorem dX7_lays_34 : decode cX7_lays 34 = .ok (.iload_n 3, 1) := by decide +kernel
theorem dX7_lays_35 : decode cX7_lays 35 = .ok (.iaload, 1) := by decide +kernel
theorem dX7_lays_36 : decode cX7_lays 36 = .ok (.iastore, 1) := by decide +kernel
theorem dX7_lays_37 : decode cX7_lays 37 = .ok (.iinc 3 1, 3) := by decide +kernel
theorem dX7_lays_40 : decode cX7_lays 40 = .ok (.goto (-30), 3) := by decide +kernel
theorem dX7_lays_43 : decode cX7_lays 43 = .ok (.aload_n 0, 1) := by decide +kernel
theorem dX7_lays_44 : decode cX7_lays 44 = .ok (.getfield 82, 3) := by decide +kernel
theorem dX7_lays_47 : decode cX7_lays 47 = .ok (.iload_n 1, 1) := by decide +kernel
theorem dX7_lays_48 : decode cX7_lays 48 = .ok (.aaload, 1) := by decide +kernel
theorem dX7_lays_49 : decode cX7_lays 49 = .ok (.iload_n 2, 1) := by decide +kernel
theorem dX7_lays_50 : decode cX7_lays 50 = .ok (.aload_n 0, 1) := by decide +kernel
theorem dX7_lays_51 : decode cX7_lays 51 = .ok (.getfield 55, 3) := by decide +kernel
theorem dX7_lays_54 : decode cX7_lays 54 = .ok (.iload_n 2, 1) := by decide +kernel
theorem dX7_lays_55 : decode cX7_lays 55 = .ok (.iaload, 1) := by decide +kernel
theorem dX7_lays_56 : decode cX7_lays 56 = .ok (.iastore, 1) := by decide +kernel
theorem dX7_lays_57 : decode cX7_lays 57 = .ok (.iinc 2 1, 3) := by decide +kernel
theorem dX7_lays_60 : decode cX7_lays 60 = .ok (.goto (-58), 3) := by decide +kernel
theorem dX7_lays_63 : decode cX7_lays 63 = .ok (.iconst 0, 1) := by decide +kernel
theorem dX7_lays_64 : decode cX7_lays 64 = .ok (.istore_n 2, 1) := by decide +kernel
theorem dX7_lays_65 : decode cX7_lays 65 = .ok (.iload_n 2, 1) := by decide +kernel
theorem dX7_lays_66 : decode cX7_lays 66 = .ok (.bipush 24, 2) := by decide +kernel
theorem dX7_lays_68 : decode cX7_lays 68 = .ok (.if_icmp .ge 23, 3) := by decide +kernel
theorem dX7_lays_71 : decode cX7_lays 71 = .ok (.aload_n 0, 1) := by decide +kernel
theorem dX7_lays_72 : decode cX7_lays 72 = .ok (.getfield 85, 3) := by decide +kernel
theorem dX7_lays_75 : decode cX7_lays 75 = .ok (.iload_n 1, 1) := by decide +kernel
theorem dX7_lays_76 : decode cX7_lays 76 = .ok (.aaload, 1) := by decide +kernel
theorem dX7_lays_77 : decode cX7_lays 77 = .ok (.iload_n 2, 1) := by decide +kernel
theorem dX7_lays_78 : decode cX7_lays 78 = .ok (.aload_n 0, 1) := by decide +kernel
theorem dX7_lays_79 : decode cX7_lays 79 = .ok (.getfield 45, 3) := by decide +kernel
theorem dX7_lays_82 : decode cX7_lays 82 = .ok (.iload_n 2, 1) := by decide +kernel
theorem dX7_lays_83 : decode cX7_lays 83 = .ok (.iaload, 1) := by decide +kernel
theorem dX7_lays_84 : decode cX7_lays 84 = .ok (.iastore, 1) := by decide +kernel
theorem dX7_lays_85 : decode cX7_lays 85 = .ok (.iinc 2 1, 3) := by decide +kernel
theorem dX7_lays_88 : decode cX7_lays 88 = .ok (.goto (-23), 3) := by decide +kernel
theorem dX7_lays_91 : decode cX7_lays 91 = .ok (.aload_n 0, 1) := by decide +kernel
theorem dX7_lays_92 : decode cX7_lays 92 = .ok (.getfield 88, 3) := by decide +kernel
theorem dX7_lays_95 : decode cX7_lays 95 = .ok (.iload_n 1, 1) := by decide +kernel
theorem dX7_lays_96 : decode cX7_lays 96 = .ok (.aaload, 1) := by decide +kernel
theorem dX7_lays_97 : decode cX7_lays 97 = .ok (.iconst 0, 1) := by decide +kernel
theorem dX7_lays_98 : decode cX7_lays 98 = .ok (.aload_n 0, 1) := by decide +kernel
theorem dX7_lays_99 : decode cX7_lays 99 = .ok (.getfield 222, 3) := by decide +kernel
theorem dX7_lays_102 : decode cX7_lays 102 = .ok (.iastore, 1) := by decide +kernel
theorem dX7_lays_103 : decode cX7_lays 103 = .ok (.aload_n 0, 1) := by decide +kernel
theorem dX7_lays_104 : decode cX7_lays 104 = .ok (.getfield 88, 3) := by decide +kernel
theorem dX7_lays_107 : decode cX7_lays 107 = .ok (.iload_n 1, 1) := by decide +kernel
theorem dX7_lays_108 : decode cX7_lays 108 = .ok (.aaload, 1) := by decide +kernel
theorem dX7_lays_109 : decode cX7_lays 109 = .ok (.iconst 1, 1) := by decide +kernel
theorem dX7_lays_110 : decode cX7_lays 110 = .ok (.aload_n 0, 1) := by decide +kernel
theorem dX7_lays_111 : decode cX7_lays 111 = .ok (.getfield 225, 3) := by decide +kernel
theorem dX7_lays_114 : decode cX7_lays 114 = .ok (.iastore, 1) := by decide +kernel
theorem dX7_lays_115 : decode cX7_lays 115 = .ok (.aload_n 0, 1) := by decide +kernel
theorem dX7_lays_116 : decode cX7_lays 116 = .ok (.getfield 88, 3) := by decide +kernel
theorem dX7_lays_119 : decode cX7_lays 119 = .ok (.iload_n 1, 1) := by decide +kernel
theorem dX7_lays_120 : decode cX7_lays 120 = .ok (.aaload, 1) := by decide +kernel
theorem dX7_lays_121 : decode cX7_lays 121 = .ok (.iconst 2, 1) := by decide +kernel
theorem dX7_lays_122 : decode cX7_lays 122 = .ok (.aload_n 0, 1) := by decide +kernel
theorem dX7_lays_123 : decode cX7_lays 123 = .ok (.getfield 228, 3) := by decide +kernel
theorem dX7_lays_126 : decode cX7_lays 126 = .ok (.iastore, 1) := by decide +kernel
theorem dX7_lays_127 : decode cX7_lays 127 = .ok (.aload_n 0, 1) := by decide +kernel
theorem dX7_lays_128 : decode cX7_lays 128 = .ok (.getfield 88, 3) := by decide +kernel
theorem dX7_lays_131 : decode cX7_lays 131 = .ok (.iload_n 1, 1) := by decide +kernel
theorem dX7_lays_132 : decode cX7_lays 132 = .ok (.aaload, 1) := by decide +kernel
theorem dX7_lays_133 : decode cX7_lays 133 = .ok (.iconst 3, 1) := by decide +kernel
theorem dX7_lays_134 : decode cX7_lays 134 = .ok (.aload_n 0, 1) := by decide +kernel
theorem dX7_lays_135 : decode cX7_lays 135 = .ok (.getfield 231, 3) := by decide +kernel
theorem dX7_lays_138 : decode cX7_lays 138 = .ok (.iastore, 1) := by decide +kernel
theorem dX7_lays_139 : decode cX7_lays 139 = .ok (.return_, 1) := by decide +kernel
noncomputable def B_X7_lays_10 (k2 : (Int32 × Int32) → fS → Option (Int32 × fS)) (k10 : (Int32 × Int32 × Int32) → fS → Option (Int32 × fS)) : (Int32 × Int32 × Int32) → fS → Option (Int32 × fS) := fun ⟨a1, a2, a3⟩ S => bb ((24 : Int32) ≤ a3) (gd (ib a1 4) (gd (ib a2 64) (iv (ge S 54 0 (a2 : Int32).toNatClampNeg) (fun x4 => gd (ib a2 64) (sv (pu S 63 (a1.toNatClampNeg) (a2 : Int32).toNatClampNeg x4) (fun S6 => iv (a2 + Int32.ofInt 1) (fun x7 => k2 (a1, x7) S6))))))) (iv ((64 : Int32) * a1) (fun x8 => iv (x8 + a2) (fun x9 => gd (ib x9 256) (gd (ib a2 64) (gd (ib a3 24) (iv (ge S 53 (a2.toNatClampNeg) (a3 : Int32).toNatClampNeg) (fun x13 => gd (ib a3 24) (sv (pu S 61 (x9.toNatClampNeg) (a3 : Int32).toNatClampNeg x13) (fun S15 => iv (a3 + Int32.ofInt 1) (fun x16 => k10 (a1, a2, x16) S15))))))))))
noncomputable def B_X7_lays_65 (k65 : (Int32 × Int32) → fS → Option (Int32 × fS)) : (Int32 × Int32) → fS → Option (Int32 × fS) := fun ⟨a1, a2⟩ S => bb ((24 : Int32) ≤ a2) (gd (ib a1 4) (iv (ge S 40 0 35) (fun x19 => sv (pu S 67 (a1.toNatClampNeg) (0 : Int32).toNatClampNeg x19) (fun S20 => gd (ib a1 4) (iv (ge S20 40 0 36) (fun x22 => sv (pu S20 67 (a1.toNatClampNeg) (1 : Int32).toNatClampNeg x22) (fun S23 => gd (ib a1 4) (iv (ge S23 40 0 37) (fun x25 => sv (pu S23 67 (a1.toNatClampNeg) (2 : Int32).toNatClampNeg x25) (fun S26 => gd (ib a1 4) (iv (ge S26 40 0 38) (fun x28 => sv (pu S26 67 (a1.toNatClampNeg) (3 : Int32).toNatClampNeg x28) (fun S29 => some (0, S29)))))))))))))) (gd (ib a1 4) (gd (ib a2 24) (iv (ge S 50 0 (a2 : Int32).toNatClampNeg) (fun x32 => gd (ib a2 24) (sv (pu S 65 (a1.toNatClampNeg) (a2 : Int32).toNatClampNeg x32) (fun S34 => iv (a2 + Int32.ofInt 1) (fun x35 => k65 (a1, x35) S34)))))))
noncomputable def B_X7_lays_2 (k2 : (Int32 × Int32) → fS → Option (Int32 × fS)) : (Int32 × Int32) → fS → Option (Int32 × fS) := fun ⟨a1, a2⟩ S => bb ((64 : Int32) ≤ a2) (lp (B_X7_lays_65 ) fuel (a1, 0) S) (lp (B_X7_lays_10 k2) fuel (a1, a2, 0) S)
noncomputable def F_X7_lays (p1 : Int32) (S0 : fS) : Option (Int32 × fS) := lp (B_X7_lays_2 ) fuel (p1, 0) S0
set_option maxHeartbeats 4000000 in
set_option maxRecDepth 100000 in
theorem c_X7_lays (l : Launch) (D : va_G) (K : Nat → ClassId) (b0 : Nat) (sa : sT) (sz : Nat) (L : List Nat) (f0 : Nat → va_E) (ad : Nat → Nat → Nat) (P : Nat → Nat → Prop) {n : Nat × Nat} (hP : ∀ a i : Nat, isn n a i → P a i) (S0 : fS) (hw : PW K ad P S0 L f0) (hn : S0.2.2.1 = n) (p1 : Int32) (v : Int32) (S1 : fS) (h : F_X7_lays p1 S0 = some (v, S1)) : Met l yX7_lays (.code yX7_lays cX7_lays 4 none :: gt) { frames := 0, cells := 0, slots := 0, locals := 0 } (va_Pc [.ref (ad 40 0), .int p1] (hPre D K b0 sa sz L f0)) (hQ D K b0 (fun v9 u9 => ∃ f2 : Nat → va_E, v9 = none ∧ u9 = lU L f2 ∧ PW K ad P S1 L f2 ∧ S1.2.2.1 = n ∧ Kp ad P L f0 f2)) 0 0 (fun q => b0 ≤ q) := by
  refine t_of (own := RX7) (by decide) rfl ?_ (Nat.le_of_ble_eq_true rfl)
  intro p e s m below meth c ls C w hsz hr hlk hnm hl
  have hx := C.1
  have hb := C.2.1
  have hl : lv_has ls 4 [(0, .ref (ad 40 0)), (1, .int p1)] := hl
  have J10 : ∀ (k2 : (Int32 × Int32) → fS → Option (Int32 × fS)) (hk2 : ∀ (a1 : Int32) (a2 : Int32) (S : fS), k2 (a1, a2) S = some (v, S1) → Gw D K b0 sa ad P n L f0 p l e { frames := 0, cells := 0, slots := 0, locals := 0 } s m [.ref (ad 40 0), .int p1].toArray below meth c 4 (MQ below (hQ D K b0 (fun v9 u9 => ∃ f2 : Nat → va_E, v9 = none ∧ u9 = lU L f2 ∧ PW K ad P S1 L f2 ∧ S1.2.2.1 = n ∧ Kp ad P L f0 f2)) [.ref (ad 40 0), .int p1].toArray s 0 0 (fun q => b0 ≤ q)) 0 0 2 [(0, .ref (ad 40 0)), (1, .int a1), (2, .int a2)] [] S) (fu : Nat) (a1 : Int32) (a2 : Int32) (a3 : Int32) (S : fS), lp (B_X7_lays_10 k2) fu (a1, a2, a3) S = some (v, S1) → Gw D K b0 sa ad P n L f0 p l e { frames := 0, cells := 0, slots := 0, locals := 0 } s m [.ref (ad 40 0), .int p1].toArray below meth c 4 (MQ below (hQ D K b0 (fun v9 u9 => ∃ f2 : Nat → va_E, v9 = none ∧ u9 = lU L f2 ∧ PW K ad P S1 L f2 ∧ S1.2.2.1 = n ∧ Kp ad P L f0 f2)) [.ref (ad 40 0), .int p1].toArray s 0 0 (fun q => b0 ≤ q)) 0 0 10 [(0, .ref (ad 40 0)), (1, .int a1), (2, .int a2), (3, .int a3)] [] S := by
    intro k2 hk2 fu a1 a2 a3 S h
    refine lp_some (G := (fun q S => Gw D K b0 sa ad P n L f0 p l e { frames := 0, cells := 0, slots := 0, locals := 0 } s m [.ref (ad 40 0), .int p1].toArray below meth c 4 (MQ below (hQ D K b0 (fun v9 u9 => ∃ f2 : Nat → va_E, v9 = none ∧ u9 = lU L f2 ∧ PW K ad P S1 L f2 ∧ S1.2.2.1 = n ∧ Kp ad P L f0 f2)) [.ref (ad 40 0), .int p1].toArray s 0 0 (fun q => b0 ≤ q)) 0 0 10 [(0, .ref (ad 40 0)), (1, .int q.1), (2, .int q.2.1), (3, .int q.2.2)] [] S)) (fun k10 hk10 q S h => ?_) fu (a1, a2, a3) S h
    obtain ⟨a1, a2, a3⟩ := q
    have hk10 : ∀ (a1 : Int32) (a2 : Int32) (a3 : Int32) (S : fS), k10 (a1, a2, a3) S = some (v, S1) → Gw D K b0 sa ad P n L f0 p l e { frames := 0, cells := 0, slots := 0, locals := 0 } s m [.ref (ad 40 0), .int p1].toArray below meth c 4 (MQ below (hQ D K b0 (fun v9 u9 => ∃ f2 : Nat → va_E, v9 = none ∧ u9 = lU L f2 ∧ PW K ad P S1 L f2 ∧ S1.2.2.1 = n ∧ Kp ad P L f0 f2)) [.ref (ad 40 0), .int p1].toArray s 0 0 (fun q => b0 ≤ q)) 0 0 10 [(0, .ref (ad 40 0)), (1, .int a1), (2, .int a2), (3, .int a3)] [] S := fun a1 a2 a3 S h => hk10 (a1, a2, a3) S h
    dsimp only [B_X7_lays_10] at h
    intro f H locs w hw hn hk ls hl
    refine lv_iload_n hx hb dX7_lays_10 rfl (lv_at hl 3 rfl) ?_
    refine lv_bipush (v := 24) hx hb dX7_lays_11 (by decide) ?_
    refine lv_icmp_ge (tgt := 43) hx hb dX7_lays_13 (by decide) (fun c1 => ?_) (fun c1 => ?_)
    · have h := bb_t h c1
      refine lv_aload_n hx hb dX7_lays_43 rfl (lv_at hl 0 rfl) ?_
      refine u_getr C w hw (hP _ _ (isn_f rfl rfl (by decide))) rfl (N := 57) rfl rfl cin_7 51 (by decide) (by decide) (a2 := 62) (i2 := 0) rfl gw_1207 dX7_lays_44 ?_
      refine lv_iload_n hx hb dX7_lays_47 rfl (lv_at hl 1 rfl) ?_
      obtain ⟨g2, h⟩ := gd_some h
      refine u_aald C w hw (hP _ _ (isn_f rfl rfl (by decide))) rfl rfl rfl (n := 4) rfl (vp_in_iff.mpr g2) (a2 := 63) (i2 := (a1.toNatClampNeg)) (by exact congrArg (Prod.mk _) (Nat.zero_add _)) dX7_lays_48 ?_
      refine lv_iload_n hx hb dX7_lays_49 rfl (lv_at hl 2 rfl) ?_
      refine lv_aload_n hx hb dX7_lays_50 rfl (lv_at hl 0 rfl) ?_
      refine u_getr C w hw (hP _ _ (isn_f rfl rfl (by decide))) rfl (N := 57) rfl rfl cin_7 29 (by decide) (by decide) (a2 := 54) (i2 := 0) rfl gw_1185 dX7_lays_51 ?_
      refine lv_iload_n hx hb dX7_lays_54 rfl (lv_at hl 2 rfl) ?_
      obtain ⟨g3, h⟩ := gd_some h
      refine u_iald C w hw (hP _ _ (isn_f rfl rfl (by decide))) rfl rfl (n := 64) rfl (vp_in_iff.mpr g3) dX7_lays_55 ?_
      refine u_iv h (fun x4 h => ?_)
      obtain ⟨g5, h⟩ := gd_some h
      refine u_iast C w hw (hP _ _ (isn_f rfl rfl (ib_lt g2))) rfl rfl (n := 64) rfl (vp_in_iff.mpr g5) dX7_lays_56 (fun f H locs w hw hk1 => ?_)
      have hk := hk.tr hk1
      refine u_sv h hw hn (fun S6 h hw hn => ?_)
      obtain ⟨x7, ex7, h⟩ := iv_some h
      refine lv_iinc (v := x7) (lv' := [(2, .int x7), (0, .ref (ad 40 0)), (1, .int a1), (3, .int a3)]) hx hb dX7_lays_57 hl (k := 2) rfl ex7.symm (by decide) rfl (fun ls hl => ?_)
      refine lv_goto (tgt := 2) hx hb dX7_lays_60 (by decide) ?_
      exact hk2 a1 x7 S6 h f H locs w hw hn hk ls (lv_sub hl [1, 2, 0] rfl)
    · have h := bb_f h c1
      refine lv_aload_n hx hb dX7_lays_16 rfl (lv_at hl 0 rfl) ?_
      refine u_getr C w hw (hP _ _ (isn_f rfl rfl (by decide))) rfl (N := 57) rfl rfl cin_7 50 (by decide) (by decide) (a2 := 60) (i2 := 0) rfl gw_1206 dX7_lays_17 ?_
      refine lv_bipush (v := 64) hx hb dX7_lays_20 (by decide) ?_
      refine lv_iload_n hx hb dX7_lays_22 rfl (lv_at hl 1 rfl) ?_
      refine lv_imul hx hb dX7_lays_23 ?_
      refine u_iv h (fun x8 h => ?_)
      refine lv_iload_n hx hb dX7_lays_24 rfl (lv_at hl 2 rfl) ?_
      refine lv_iadd hx hb dX7_lays_25 ?_
      refine u_iv h (fun x9 h => ?_)
      obtain ⟨g10, h⟩ := gd_some h
      refine u_aald C w hw (hP _ _ (isn_f rfl rfl (by decide))) rfl rfl rfl (n := 256) rfl (vp_in_iff.mpr g10) (a2 := 61) (i2 := (x9.toNatClampNeg)) (by exact congrArg (Prod.mk _) (Nat.zero_add _)) dX7_lays_26 ?_
      refine lv_iload_n hx hb dX7_lays_27 rfl (lv_at hl 3 rfl) ?_
      refine lv_aload_n hx hb dX7_lays_28 rfl (lv_at hl 0 rfl) ?_
      refine u_getr C w hw (hP _ _ (isn_f rfl rfl (by decide))) rfl (N := 57) rfl rfl cin_7 28 (by decide) (by decide) (a2 := 52) (i2 := 0) rfl gw_1184 dX7_lays_29 ?_
      refine lv_iload_n hx hb dX7_lays_32 rfl (lv_at hl 2 rfl) ?_
      obtain ⟨g11, h⟩ := gd_some h
      refine u_aald C w hw (hP _ _ (isn_f rfl rfl (by decide))) rfl rfl rfl (n := 64) rfl (vp_in_iff.mpr g11) (a2 := 53) (i2 := (a2.toNatClampNeg)) (by exact congrArg (Prod.mk _) (Nat.zero_add _)) dX7_lays_33 ?_
      refine lv_iload_n hx hb dX7_lays_34 rfl (lv_at hl 3 rfl) ?_
      obtain ⟨g12, h⟩ := gd_some h
      refine u_iald C w hw (hP _ _ (isn_f rfl rfl (ib_lt g11))) rfl rfl (n := 24) rfl (vp_in_iff.mpr g12) dX7_lays_35 ?_
      refine u_iv h (fun x13 h => ?_)
      obtain ⟨g14, h⟩ := gd_some h
      refine u_iast C w hw (hP _ _ (isn_f rfl rfl (ib_lt g10))) rfl rfl (n := 24) rfl (vp_in_iff.mpr g14) dX7_lays_36 (fun f H locs w hw hk1 => ?_)
      have hk := hk.tr hk1
      refine u_sv h hw hn (fun S15 h hw hn => ?_)
      obtain ⟨x16, ex16, h⟩ := iv_some h
      refine lv_iinc (v := x16) (lv' := [(3, .int x16), (0, .ref (ad 40 0)), (1, .int a1), (2, .int a2)]) hx hb dX7_lays_37 hl (k := 3) rfl ex16.symm (by decide) rfl (fun ls hl => ?_)
      refine lv_goto (tgt := 10) hx hb dX7_lays_40 (by decide) ?_
      exact hk10 a1 a2 x16 S15 h f H locs w hw hn hk ls (lv_sub hl [1, 2, 3, 0] rfl)
  have J65 : ∀ (fu : Nat) (a1 : Int32) (a2 : Int32) (S : fS), lp (B_X7_lays_65 ) fu (a1, a2) S = some (v, S1) → Gw D K b0 sa ad P n L f0 p l e { frames := 0, cells := 0, slots := 0, locals := 0 } s m [.ref (ad 40 0), .int p1].toArray below meth c 4 (MQ below (hQ D K b0 (fun v9 u9 => ∃ f2 : Nat → va_E, v9 = none ∧ u9 = lU L f2 ∧ PW K ad P S1 L f2 ∧ S1.2.2.1 = n ∧ Kp ad P L f0 f2)) [.ref (ad 40 0), .int p1].toArray s 0 0 (fun q => b0 ≤ q)) 0 0 65 [(0, .ref (ad 40 0)), (1, .int a1), (2, .int a2)] [] S := by
    intro fu a1 a2 S h
    refine lp_some (G := (fun q S => Gw D K b0 sa ad P n L f0 p l e { frames := 0, cells := 0, slots := 0, locals := 0 } s m [.ref (ad 40 0), .int p1].toArray below meth c 4 (MQ below (hQ D K b0 (fun v9 u9 => ∃ f2 : Nat → va_E, v9 = none ∧ u9 = lU L f2 ∧ PW K ad P S1 L f2 ∧ S1.2.2.1 = n ∧ Kp ad P L f0 f2)) [.ref (ad 40 0), .int p1].toArray s 0 0 (fun q => b0 ≤ q)) 0 0 65 [(0, .ref (ad 40 0)), (1, .int q.1), (2, .int q.2)] [] S)) (fun k65 hk65 q S h => ?_) fu (a1, a2) S h
    obtain ⟨a1, a2⟩ := q
    have hk65 : ∀ (a1 : Int32) (a2 : Int32) (S : fS), k65 (a1, a2) S = some (v, S1) → Gw D K b0 sa ad P n L f0 p l e { frames := 0, cells := 0, slots := 0, locals := 0 } s m [.ref (ad 40 0), .int p1].toArray below meth c 4 (MQ below (hQ D K b0 (fun v9 u9 => ∃ f2 : Nat → va_E, v9 = none ∧ u9 = lU L f2 ∧ PW K ad P S1 L f2 ∧ S1.2.2.1 = n ∧ Kp ad P L f0 f2)) [.ref (ad 40 0), .int p1].toArray s 0 0 (fun q => b0 ≤ q)) 0 0 65 [(0, .ref (ad 40 0)), (1, .int a1), (2, .int a2)] [] S := fun a1 a2 S h => hk65 (a1, a2) S h
    dsimp only [B_X7_lays_65] at h
    intro f H locs w hw hn hk ls hl
    refine lv_iload_n hx hb dX7_lays_65 rfl (lv_at hl 2 rfl) ?_
    refine lv_bipush (v := 24) hx hb dX7_lays_66 (by decide) ?_
    refine lv_icmp_ge (tgt := 91) hx hb dX7_lays_68 (by decide) (fun c17 => ?_) (fun c17 => ?_)
    · have h := bb_t h c17
      refine lv_aload_n hx hb dX7_lays_91 rfl (lv_at hl 0 rfl) ?_
      refine u_getr C w hw (hP _ _ (isn_f rfl rfl (by decide))) rfl (N := 57) rfl rfl cin_7 53 (by decide) (by decide) (a2 := 66) (i2 := 0) rfl gw_1209 dX7_lays_92 ?_
      refine lv_iload_n hx hb dX7_lays_95 rfl (lv_at hl 1 rfl) ?_
      obtain ⟨g18, h⟩ := gd_some h
      refine u_aald C w hw (hP _ _ (isn_f rfl rfl (by decide))) rfl rfl rfl (n := 4) rfl (vp_in_iff.mpr g18) (a2 := 67) (i2 := (a1.toNatClampNeg)) (by exact congrArg (Prod.mk _) (Nat.zero_add _)) dX7_lays_96 ?_
      refine lv_iconst (v := 0) hx hb dX7_lays_97 (by decide) ?_
      refine lv_aload_n hx hb dX7_lays_98 rfl (lv_at hl 0 rfl) ?_
      refine u_geti C w hw (hP _ _ (isn_f rfl rfl (by decide))) rfl (N := 57) rfl rfl cin_7 35 (by decide) rfl gw_1191 dX7_lays_99 ?_
      refine u_iv h (fun x19 h => ?_)
      refine u_iast C w hw (hP _ _ (isn_f rfl rfl (ib_lt g18))) rfl rfl (n := 11) rfl (vp_in_iff.mpr ⟨by decide, by decide⟩) dX7_lays_102 (fun f H locs w hw hk1 => ?_)
      have hk := hk.tr hk1
      refine u_sv h hw hn (fun S20 h hw hn => ?_)
      refine lv_aload_n hx hb dX7_lays_103 rfl (lv_at hl 0 rfl) ?_
      refine u_getr C w hw (hP _ _ (isn_f rfl rfl (by decide))) rfl (N := 57) rfl rfl cin_7 53 (by decide) (by decide) (a2 := 66) (i2 := 0) rfl gw_1209 dX7_lays_104 ?_
      refine lv_iload_n hx hb dX7_lays_107 rfl (lv_at hl 1 rfl) ?_
      obtain ⟨g21, h⟩ := gd_some h
      refine u_aald C w hw (hP _ _ (isn_f rfl rfl (by decide))) rfl rfl rfl (n := 4) rfl (vp_in_iff.mpr g21) (a2 := 67) (i2 := (a1.toNatClampNeg)) (by exact congrArg (Prod.mk _) (Nat.zero_add _)) dX7_lays_108 ?_
      refine lv_iconst (v := 1) hx hb dX7_lays_109 (by decide) ?_
      refine lv_aload_n hx hb dX7_lays_110 rfl (lv_at hl 0 rfl) ?_
      refine u_geti C w hw (hP _ _ (isn_f rfl rfl (by decide))) rfl (N := 57) rfl rfl cin_7 36 (by decide) rfl gw_1192 dX7_lays_111 ?_
      refine u_iv h (fun x22 h => ?_)
      refine u_iast C w hw (hP _ _ (isn_f rfl rfl (ib_lt g21))) rfl rfl (n := 11) rfl (vp_in_iff.mpr ⟨by decide, by decide⟩) dX7_lays_114 (fun f H locs w hw hk1 => ?_)
      have hk := hk.tr hk1
      refine u_sv h hw hn (fun S23 h hw hn => ?_)
      refine lv_aload_n hx hb dX7_lays_115 rfl (lv_at hl 0 rfl) ?_
      refine u_getr C w hw (hP _ _ (isn_f rfl rfl (by decide))) rfl (N := 57) rfl rfl cin_7 53 (by decide) (by decide) (a2 := 66) (i2 := 0) rfl gw_1209 dX7_lays_116 ?_
      refine lv_iload_n hx hb dX7_lays_119 rfl (lv_at hl 1 rfl) ?_
      obtain ⟨g24, h⟩ := gd_some h
      refine u_aald C w hw (hP _ _ (isn_f rfl rfl (by decide))) rfl rfl rfl (n := 4) rfl (vp_in_iff.mpr g24) (a2 := 67) (i2 := (a1.toNatClampNeg)) (by exact congrArg (Prod.mk _) (Nat.zero_add _)) dX7_lays_120 ?_
      refine lv_iconst (v := 2) hx hb dX7_lays_121 (by decide) ?_
      refine lv_aload_n hx hb dX7_lays_122 rfl (lv_at hl 0 rfl) ?_
      refine u_geti C w hw (hP _ _ (isn_f rfl rfl (by decide))) rfl (N := 57) rfl rfl cin_7 37 (by decide) rfl gw_1193 dX7_lays_123 ?_
      refine u_iv h (fun x25 h => ?_)
      refine u_iast C w hw (hP _ _ (isn_f rfl rfl (ib_lt g24))) rfl rfl (n := 11) rfl (vp_in_iff.mpr ⟨by decide, by decide⟩) dX7_lays_126 (fun f H locs w hw hk1 => ?_)
      have hk := hk.tr hk1
      refine u_sv h hw hn (fun S26 h hw hn => ?_)
      refine lv_aload_n hx hb dX7_lays_127 rfl (lv_at hl 0 rfl) ?_
      refine u_getr C w hw (hP _ _ (isn_f rfl rfl (by decide))) rfl (N := 57) rfl rfl cin_7 53 (by decide) (by decide) (a2 := 66) (i2 := 0) rfl gw_1209 dX7_lays_128 ?_
      refine lv_iload_n hx hb dX7_lays_131 rfl (lv_at hl 1 rfl) ?_
      obtain ⟨g27, h⟩ := gd_some h
      refine u_aald C w hw (hP _ _ (isn_f rfl rfl (by decide))) rfl rfl rfl (n := 4) rfl (vp_in_iff.mpr g27) (a2 := 67) (i2 := (a1.toNatClampNeg)) (by exact congrArg (Prod.mk _) (Nat.zero_add _)) dX7_lays_132 ?_
      refine lv_iconst (v := 3) hx hb dX7_lays_133 (by decide) ?_
      refine lv_aload_n hx hb dX7_lays_134 rfl (lv_at hl 0 rfl) ?_
      refine u_geti C w hw (hP _ _ (isn_f rfl rfl (by decide))) rfl (N := 57) rfl rfl cin_7 38 (by decide) rfl gw_1194 dX7_lays_135 ?_
      refine u_iv h (fun x28 h => ?_)
      refine u_iast C w hw (hP _ _ (isn_f rfl rfl (ib_lt g27))) rfl rfl (n := 11) rfl (vp_in_iff.mpr ⟨by decide, by decide⟩) dX7_lays_138 (fun f H locs w hw hk1 => ?_)
      have hk := hk.tr hk1
      refine u_sv h hw hn (fun S29 h hw hn => ?_)
      exact t_vret C hr hlk w ⟨_, rfl, rfl, so_w h hw, so_n h hn, hk⟩ (by decide) (by decide) dX7_lays_139
    · have h := bb_f h c17
      refine lv_aload_n hx hb dX7_lays_71 rfl (lv_at hl 0 rfl) ?_
      refine u_getr C w hw (hP _ _ (isn_f rfl rfl (by decide))) rfl (N := 57) rfl rfl cin_7 52 (by decide) (by decide) (a2 := 64) (i2 := 0) rfl gw_1208 dX7_lays_72 ?_
      refine lv_iload_n hx hb dX7_lays_75 rfl (lv_at hl 1 rfl) ?_
      obtain ⟨g30, h⟩ := gd_some h
      refine u_aald C w hw (hP _ _ (isn_f rfl rfl (by decide))) rfl rfl rfl (n := 4) rfl (vp_in_iff.mpr g30) (a2 := 65) (i2 := (a1.toNatClampNeg)) (by exact congrArg (Prod.mk _) (Nat.zero_add _)) dX7_lays_76 ?_
      refine lv_iload_n hx hb dX7_lays_77 rfl (lv_at hl 2 rfl) ?_
      refine lv_aload_n hx hb dX7_lays_78 rfl (lv_at hl 0 rfl) ?_
      refine u_getr C w hw (hP _ _ (isn_f rfl rfl (by decide))) rfl (N := 57) rfl rfl cin_7 26 (by decide) (by decide) (a2 := 50) (i2 := 0) rfl gw_1182 dX7_lays_79 ?_
      refine lv_iload_n hx hb dX7_lays_82 rfl (lv_at hl 2 rfl) ?_
      obtain ⟨g31, h⟩ := gd_some h
      refine u_iald C w hw (hP _ _ (isn_f rfl rfl (by decide))) rfl rfl (n := 24) rfl (vp_in_iff.mpr g31) dX7_lays_83 ?_
      refine u_iv h (fun x32 h => ?_)
      obtain ⟨g33, h⟩ := gd_some h
      refine u_iast C w hw (hP _ _ (isn_f rfl rfl (ib_lt g30))) rfl rfl (n := 24) rfl (vp_in_iff.mpr g33) dX7_lays_84 (fun f H locs w hw hk1 => ?_)
      have hk := hk.tr hk1
      refine u_sv h hw hn (fun S34 h hw hn => ?_)
      obtain ⟨x35, ex35, h⟩ := iv_some h
      refine lv_iinc (v := x35) (lv' := [(2, .int x35), (0, .ref (ad 40 0)), (1, .int a1)]) hx hb dX7_lays_85 hl (k := 2) rfl ex35.symm (by decide) rfl (fun ls hl => ?_)
      refine lv_goto (tgt := 65) hx hb dX7_lays_88 (by decide) ?_
      exact hk65 a1 x35 S34 h f H locs w hw hn hk ls (lv_sub hl [1, 2, 0] rfl)
  have J2 : ∀ (fu : Nat) (a1 : Int32) (a2 : Int32) (S : fS), lp (B_X7_lays_2 ) fu (a1, a2) S = some (v, S1) → Gw D K b0 sa ad P n L f0 p l e { frames := 0, cells := 0, slots := 0, locals := 0 } s m [.ref (ad 40 0), .int p1].toArray below meth c 4 (MQ below (hQ D K b0 (fun v9 u9 => ∃ f2 : Nat → va_E, v9 = none ∧ u9 = lU L f2 ∧ PW K ad P S1 L f2 ∧ S1.2.2.1 = n ∧ Kp ad P L f0 f2)) [.ref (ad 40 0), .int p1].toArray s 0 0 (fun q => b0 ≤ q)) 0 0 2 [(0, .ref (ad 40 0)), (1, .int a1), (2, .int a2)] [] S := by
    intro fu a1 a2 S h
    refine lp_some (G := (fun q S => Gw D K b0 sa ad P n L f0 p l e { frames := 0, cells := 0, slots := 0, locals := 0 } s m [.ref (ad 40 0), .int p1].toArray below meth c 4 (MQ below (hQ D K b0 (fun v9 u9 => ∃ f2 : Nat → va_E, v9 = none ∧ u9 = lU L f2 ∧ PW K ad P S1 L f2 ∧ S1.2.2.1 = n ∧ Kp ad P L f0 f2)) [.ref (ad 40 0), .int p1].toArray s 0 0 (fun q => b0 ≤ q)) 0 0 2 [(0, .ref (ad 40 0)), (1, .int q.1), (2, .int q.2)] [] S)) (fun k2 hk2 q S h => ?_) fu (a1, a2) S h
    obtain ⟨a1, a2⟩ := q
    have hk2 : ∀ (a1 : Int32) (a2 : Int32) (S : fS), k2 (a1, a2) S = some (v, S1) → Gw D K b0 sa ad P n L f0 p l e { frames := 0, cells := 0, slots := 0, locals := 0 } s m [.ref (ad 40 0), .int p1].toArray below meth c 4 (MQ below (hQ D K b0 (fun v9 u9 => ∃ f2 : Nat → va_E, v9 = none ∧ u9 = lU L f2 ∧ PW K ad P S1 L f2 ∧ S1.2.2.1 = n ∧ Kp ad P L f0 f2)) [.ref (ad 40 0), .int p1].toArray s 0 0 (fun q => b0 ≤ q)) 0 0 2 [(0, .ref (ad 40 0)), (1, .int a1), (2, .int a2)] [] S := fun a1 a2 S h => hk2 (a1, a2) S h
    dsimp only [B_X7_lays_2] at h
    intro f H locs w hw hn hk ls hl
    refine lv_iload_n hx hb dX7_lays_2 rfl (lv_at hl 2 rfl) ?_
    refine lv_bipush (v := 64) hx hb dX7_lays_3 (by decide) ?_
    refine lv_icmp_ge (tgt := 63) hx hb dX7_lays_5 (by decide) (fun c36 => ?_) (fun c36 => ?_)
    · have h := bb_t h c36
      refine lv_iconst (v := 0) hx hb dX7_lays_63 (by decide) ?_
      refine lv_istore_n (lv' := [(2, .int 0), (0, .ref (ad 40 0)), (1, .int a1)]) hx hb dX7_lays_64 rfl hl (by decide) rfl (fun ls hl => ?_)
      exact J65  fuel a1 0 S h f H locs w hw hn hk ls (lv_sub hl [1, 2, 0] rfl)
    · have h := bb_f h c36
      refine lv_iconst (v := 0) hx hb dX7_lays_8 (by decide) ?_
      refine lv_istore_n (lv' := [(3, .int 0), (0, .ref (ad 40 0)), (1, .int a1), (2, .int a2)]) hx hb dX7_lays_9 rfl hl (by decide) rfl (fun ls hl => ?_)
      exact J10 k2 hk2 fuel a1 a2 0 S h f H locs w hw hn hk ls (lv_sub hl [1, 2, 3, 0] rfl)
  dsimp only [F_X7_lays] at h
  obtain ⟨f, ef⟩ : ∃ z, z = f0 := ⟨_, rfl⟩
  rw [← ef] at w hw
  have hk : Kp ad P L f0 f := by rw [ef]; exact Kp.rf
  obtain ⟨H, eH⟩ : ∃ z, z = s.heap := ⟨_, rfl⟩
  obtain ⟨locs, el⟩ : ∃ z : List Loc, z = [] := ⟨_, rfl⟩
  rw [← eH, ← el] at w ⊢
  refine lv_iconst (v := 0) hx hb dX7_lays_0 (by decide) ?_
  refine lv_istore_n (lv' := [(2, .int 0), (0, .ref (ad 40 0)), (1, .int p1)]) hx hb dX7_lays_1 rfl hl (by decide) rfl (fun ls hl => ?_)
  exact J2  fuel p1 0 S0 h f H locs w hw hn hk ls (lv_sub hl [1, 2, 0] rfl)
theorem dX7_laysBack_0 : decode cX7_laysBack 0 = .ok (.iconst 0, 1) := by decide +kernel
theorem dX7_laysBack_1 : decode cX7_laysBack 1 = .ok (.istore_n 2, 1) := by decide +kernel
theorem dX7_laysBack_2 : decode cX7_laysBack 2 = .ok (.iload_n 2, 1) := by decide +kernel
theorem dX7_laysBack_3 : decode cX7_laysBack 3 = .ok (.bipush 64, 2) := by decide +kernel
theorem dX7_laysBack_5 : decode cX7_laysBack 5 = .ok (.if_icmp .ge 58, 3) := by decide +kernel
theorem dX7_laysBack_8 : decode cX7_laysBack 8 = .ok (.iconst 0, 1) := by decide +kernel
theorem dX7_laysBack_9 : decode cX7_laysBack 9 = .ok (.istore_n 3, 1) := by decide +kernel
theorem dX7_laysBack_10 : decode cX7_laysBack 10 = .ok (.iload_n 3, 1) := by decide +kernel
theorem dX7_laysBack_11 : decode cX7_laysBack 11 = .ok (.bipush 24, 2) := by decide +kernel
theorem dX7_laysBack_13 : decode cX7_laysBack 13 = .ok (.if_icmp .ge 30, 3) := by decide +kernel
theorem dX7_laysBack_16 : decode cX7_laysBack 16 = .ok (.aload_n 0, 1) := by decide +kernel
theorem dX7_laysBack_17 : decode cX7_laysBack 17 = .ok (.getfield 52, 3) := by decide +kernel
theorem dX7_laysBack_20 : decode cX7_laysBack 20 = .ok (.iload_n 2, 1) := by decide +kernel
theorem dX7_laysBack_21 : decode cX7_laysBack 21 = .ok (.aaload, 1) := by decide +kernel
theorem dX7_laysBack_22 : decode cX7_laysBack 22 = .ok (.iload_n 3, 1) := by decide +kernel
theorem dX7_laysBack_23 : decode cX7_laysBack 23 = .ok (.aload_n 0, 1) := by decide +kernel
theorem dX7_laysBack_24 : decode cX7_laysBack 24 = .ok (.getfield 79, 3) := by decide +kernel
theorem dX7_laysBack_27 : decode cX7_laysBack 27 = .ok (.bipush 64, 2) := by decide +kernel
theorem dX7_laysBack_29 : decode cX7_laysBack 29 = .ok (.iload_n 1, 1) := by decide +kernel
theorem dX7_laysBack_30 : decode cX7_laysBack 30 = .ok (.imul, 1) := by decide +kernel
theorem dX7_laysBack_31 : decode cX7_laysBack 31 = .ok (.iload_n 2, 1) := by decide +kernel
theorem dX7_laysBack_32 : decode cX7_laysBack 32 = .ok (.iadd, 1) := by decide +kernel
theorem dX7_laysBack_33 : decode cX7_laysBack 33 = .ok (.aaload, 1) := by decide +kernel
theorem dX7_laysBack_34 : decode cX7_laysBack 34 = .ok (.iload_n 3, 1) := by decide +kernel
theorem dX7_laysBack_35 : decode cX7_laysBack 35 = .ok (.iaload, 1) := by decide +kernel
theorem dX7_laysBack_36 : decode cX7_laysBack 36 = .ok (.iastore, 1) := by decide +kernel
theorem dX7_laysBack_37 : decode cX7_laysBack 37 = .ok (.iinc 3 1, 3) := by decide +kernel
theorem dX7_laysBack_40 : decode cX7_laysBack 40 = .ok (.goto (-30), 3) := by decide +kernel
theorem dX7_laysBack_43 : decode cX7_laysBack 43 = .ok (.aload_n 0, 1) := by decide +kernel
theorem dX7_laysBack_44 : decode cX7_laysBack 44 = .ok (.getfield 55, 3) := by decide +kernel
theorem dX7_laysBack_47 : decode cX7_laysBack 47 = .ok (.iload_n 2, 1) := by decide +kernel
theorem dX7_laysBack_48 : decode cX7_laysBack 48 = .ok (.aload_n 0, 1) := by decide +kernel
theorem dX7_laysBack_49 : decode cX7_laysBack 49 = .ok (.getfield 82, 3) := by decide +kernel
theorem dX7_laysBack_52 : decode cX7_laysBack 52 = .ok (.iload_n 1, 1) := by decide +kernel
theorem dX7_laysBack_53 : decode cX7_laysBack 53 = .ok (.aaload, 1) := by decide +kernel
theorem dX7_laysBack_54 : decode cX7_laysBack 54 = .ok (.iload_n 2, 1) := by decide +kernel
theorem dX7_laysBack_55 : decode cX7_laysBack 55 = .ok (.iaload, 1) := by decide +kernel
theorem dX7_laysBack_56 : decode cX7_laysBack 56 = .ok (.iastore, 1) := by decide +kernel
theorem dX7_laysBack_57 : decode cX7_laysBack 57 = .ok (.iinc 2 1, 3) := by decide +kernel
theorem dX7_laysBack_60 : decode cX7_laysBack 60 = .ok (.goto (-58), 3) := by decide +kernel
theorem dX7_laysBack_63 : decode cX7_laysBack 63 = .ok (.iconst 0, 1) := by decide +kernel
theorem dX7_laysBack_64 : decode cX7_laysBack 64 = .ok (.istore_n 2, 1) := by decide +kernel
theorem dX7_laysBack_65 : decode cX7_laysBack 65 = .ok (.iload_n 2, 1) := by decide +kernel
theorem dX7_laysBack_66 : decode cX7_laysBack 66 = .ok (.bipush 24, 2) := by decide +kernel
theorem dX7_laysBack_68 : decode cX7_laysBack 68 = .ok (.if_icmp .ge 23, 3) := by decide +kernel
theorem dX7_laysBack_71 : decode cX7_laysBack 71 = .ok (.aload_n 0, 1) := by decide +kernel
theorem dX7_laysBack_72 : decode cX7_laysBack 72 = .ok (.getfield 45, 3) := by decide +kernel
theorem dX7_laysBack_75 : decode cX7_laysBack 75 = .ok (.iload_n 2, 1) := by decide +kernel
theorem dX7_laysBack_76 : decode cX7_laysBack 76 = .ok (.aload_n 0, 1) := by decide +kernel
theorem dX7_laysBack_77 : decode cX7_laysBack 77 = .ok (.getfield 85, 3) := by decide +kernel
theorem dX7_laysBack_80 : decode cX7_laysBack 80 = .ok (.iload_n 1, 1) := by decide +kernel
theorem dX7_laysBack_81 : decode cX7_laysBack 81 = .ok (.aaload, 1) := by decide +kernel
theorem dX7_laysBack_82 : decode cX7_laysBack 82 = .ok (.iload_n 2, 1) := by decide +kernel
theorem dX7_laysBack_83 : decode cX7_laysBack 83 = .ok (.iaload, 1) := by decide +kernel
theorem dX7_laysBack_84 : decode cX7_laysBack 84 = .ok (.iastore, 1) := by decide +kernel
theorem dX7_laysBack_85 : decode cX7_laysBack 85 = .ok (.iinc 2 1, 3) := by decide +kernel
theorem dX7_laysBack_88 : decode cX7_laysBack 88 = .ok (.goto (-23), 3) := by decide +kernel
theorem dX7_laysBack_91 : decode cX7_laysBack 91 = .ok (.aload_n 0, 1) := by decide +kernel
theorem dX7_laysBack_92 : decode cX7_laysBack 92 = .ok (.aload_n 0, 1) := by decide +kernel
theorem dX7_laysBack_93 : decode cX7_laysBack 93 = .ok (.getfield 88, 3) := by decide +kernel
theorem dX7_laysBack_96 : decode cX7_laysBack 96 = .ok (.iload_n 1, 1) := by decide +kernel
theorem dX7_laysBack_97 : decode cX7_laysBack 97 = .ok (.aaload, 1) := by decide +kernel
theorem dX7_laysBack_98 : decode cX7_laysBack 98 = .ok (.iconst 0, 1) := by decide +kernel
theorem dX7_laysBack_99 : decode cX7_laysBack 99 = .ok (.iaload, 1) := by decide +kernel
theorem dX7_laysBack_100 : decode cX7_laysBack 100 = .ok (.putfield 222, 3) := by decide +kernel
theorem dX7_laysBack_103 : decode cX7_laysBack 103 = .ok (.aload_n 0, 1) := by decide +kernel
theorem dX7_laysBack_104 : decode cX7_laysBack 104 = .ok (.aload_n 0, 1) := by decide +kernel
theorem dX7_laysBack_105 : decode cX7_laysBack 105 = .ok (.getfield 88, 3) := by decide +kernel
theorem dX7_laysBack_108 : decode cX7_laysBack 108 = .ok (.iload_n 1, 1) := by decide +kernel
theorem dX7_laysBack_109 : decode cX7_laysBack 109 = .ok (.aaload, 1) := by decide +kernel
theorem dX7_laysBack_110 : decode cX7_laysBack 110 = .ok (.iconst 1, 1) := by decide +kernel
theorem dX7_laysBack_111 : decode cX7_laysBack 111 = .ok (.iaload, 1) := by decide +kernel
theorem dX7_laysBack_112 : decode cX7_laysBack 112 = .ok (.putfield 225, 3) := by decide +kernel
theorem dX7_laysBack_115 : decode cX7_laysBack 115 = .ok (.aload_n 0, 1) := by decide +kernel
theorem dX7_laysBack_116 : decode cX7_laysBack 116 = .ok (.aload_n 0, 1) := by decide +kernel
theorem dX7_laysBack_117 : decode cX7_laysBack 117 = .ok (.getfield 88, 3) := by decide +kernel
theorem dX7_laysBack_120 : decode cX7_laysBack 120 = .ok (.iload_n 1, 1) := by decide +kernel
theorem dX7_laysBack_121 : decode cX7_laysBack 121 = .ok (.aaload, 1) := by decide +kernel
theorem dX7_laysBack_122 : decode cX7_laysBack 122 = .ok (.iconst 2, 1) := by decide +kernel
theorem dX7_laysBack_123 : decode cX7_laysBack 123 = .ok (.iaload, 1) := by decide +kernel
theorem dX7_laysBack_124 : decode cX7_laysBack 124 = .ok (.putfield 228, 3) := by decide +kernel
theorem dX7_laysBack_127 : decode cX7_laysBack 127 = .ok (.aload_n 0, 1) := by decide +kernel
theorem dX7_laysBack_128 : decode cX7_laysBack 128 = .ok (.aload_n 0, 1) := by decide +kernel
theorem dX7_laysBack_129 : decode cX7_laysBack 129 = .ok (.getfield 88, 3) := by decide +kernel
theorem dX7_laysBack_132 : decode cX7_laysBack 132 = .ok (.iload_n 1, 1) := by decide +kernel
theorem dX7_laysBack_133 : decode cX7_laysBack 133 = .ok (.aaload, 1) := by decide +kernel
theorem dX7_laysBack_134 : decode cX7_laysBack 134 = .ok (.iconst 3, 1) := by decide +kernel
theorem dX7_laysBack_135 : decode cX7_laysBack 135 = .ok (.iaload, 1) := by decide +kernel
theorem dX7_laysBack_136 : decode cX7_laysBack 136 = .ok (.putfield 231, 3) := by decide +kernel
theorem dX7_laysBack_139 : decode cX7_laysBack 139 = .ok (.return_, 1) := by decide +kernel
noncomputable def B_X7_laysBack_10 (k2 : (Int32 × Int32) → fS → Option (Int32 × fS)) (k10 : (Int32 × Int32 × Int32) → fS → Option (Int32 × fS)) : (Int32 × Int32 × Int32) → fS → Option (Int32 × fS) := fun ⟨a1, a2, a3⟩ S => bb ((24 : Int32) ≤ a3) (gd (ib a1 4) (gd (ib a2 64) (iv (ge S 63 (a1.toNatClampNeg) (a2 : Int32).toNatClampNeg) (fun x4 => gd (ib a2 64) (sv (pu S 54 0 (a2 : Int32).toNatClampNeg x4) (fun S6 => iv (a2 + Int32.ofInt 1) (fun x7 => k2 (a1, x7) S6))))))) (gd (ib a2 64) (iv ((64 : Int32) * a1) (fun x9 => iv (x9 + a2) (fun x10 => gd (ib x10 256) (gd (ib a3 24) (iv (ge S 61 (x10.toNatClampNeg) (a3 : Int32).toNatClampNeg) (fun x13 => gd (ib a3 24) (sv (pu S 53 (a2.toNatClampNeg) (a3 : Int32).toNatClampNeg x13) (fun S15 => iv (a3 + Int32.ofInt 1) (fun x16 => k10 (a1, a2, x16) S15))))))))))
noncomputable def B_X7_laysBack_65 (k65 : (Int32 × Int32) → fS → Option (Int32 × fS)) : (Int32 × Int32) → fS → Option (Int32 × fS) := fun ⟨a1, a2⟩ S => bb ((24 : Int32) ≤ a2) (gd (ib a1 4) (iv (ge S 67 (a1.toNatClampNeg) (0 : Int32).toNatClampNeg) (fun x19 => sv (pu S 40 0 35 x19) (fun S20 => gd (ib a1 4) (iv (ge S20 67 (a1.toNatClampNeg) (1 : Int32).toNatClampNeg) (fun x22 => sv (pu S20 40 0 36 x22) (fun S23 => gd (ib a1 4) (iv (ge S23 67 (a1.toNatClampNeg) (2 : Int32).toNatClampNeg) (fun x25 => sv (pu S23 40 0 37 x25) (fun S26 => gd (ib a1 4) (iv (ge S26 67 (a1.toNatClampNeg) (3 : Int32).toNatClampNeg) (fun x28 => sv (pu S26 40 0 38 x28) (fun S29 => some (0, S29)))))))))))))) (gd (ib a1 4) (gd (ib a2 24) (iv (ge S 65 (a1.toNatClampNeg) (a2 : Int32).toNatClampNeg) (fun x32 => gd (ib a2 24) (sv (pu S 50 0 (a2 : Int32).toNatClampNeg x32) (fun S34 => iv (a2 + Int32.ofInt 1) (fun x35 => k65 (a1, x35) S34)))))))
noncomputable def B_X7_laysBack_2 (k2 : (Int32 × Int32) → fS → Option (Int32 × fS)) : (Int32 × Int32) → fS → Option (Int32 × fS) := fun ⟨a1, a2⟩ S => bb ((64 : Int32) ≤ a2) (lp (B_X7_laysBack_65 ) fuel (a1, 0) S) (lp (B_X7_laysBack_10 k2) fuel (a1, a2, 0) S)
noncomputable def F_X7_laysBack (p1 : Int32) (S0 : fS) : Option (Int32 × fS) := lp (B_X7_laysBack_2 ) fuel (p1, 0) S0
set_option maxHeartbeats 4000000 in
set_option maxRecDepth 100000 in
theorem c_X7_laysBack (l : Launch) (D : va_G) (K : Nat → ClassId) (b0 : Nat) (sa : sT) (sz : Nat) (L : List Nat) (f0 : Nat → va_E) (ad : Nat → Nat → Nat) (P : Nat → Nat → Prop) {n : Nat × Nat} (hP : ∀ a i : Nat, isn n a i → P a i) (S0 : fS) (hw : PW K ad P S0 L f0) (hn : S0.2.2.1 = n) (p1 : Int32) (v : Int32) (S1 : fS) (h : F_X7_laysBack p1 S0 = some (v, S1)) : Met l yX7_laysBack (.code yX7_laysBack cX7_laysBack 4 none :: gt) { frames := 0, cells := 0, slots := 0, locals := 0 } (va_Pc [.ref (ad 40 0), .int p1] (hPre D K b0 sa sz L f0)) (hQ D K b0 (fun v9 u9 => ∃ f2 : Nat → va_E, v9 = none ∧ u9 = lU L f2 ∧ PW K ad P S1 L f2 ∧ S1.2.2.1 = n ∧ Kp ad P L f0 f2)) 0 0 (fun q => b0 ≤ q) := by
  refine t_of (own := RX7) (by decide) rfl ?_ (Nat.le_of_ble_eq_true rfl)
  intro p e s m below meth c ls C w hsz hr hlk hnm hl
  have hx := C.1
  have hb := C.2.1
  have hl : lv_has ls 4 [(0, .ref (ad 40 0)), (1, .int p1)] := hl
  have J10 : ∀ (k2 : (Int32 × Int32) → fS → Option (Int32 × fS)) (hk2 : ∀ (a1 : Int32) (a2 : Int32) (S : fS), k2 (a1, a2) S = some (v, S1) → Gw D K b0 sa ad P n L f0 p l e { frames := 0, cells := 0, slots := 0, locals := 0 } s m [.ref (ad 40 0), .int p1].toArray below meth c 4 (MQ below (hQ D K b0 (fun v9 u9 => ∃ f2 : Nat → va_E, v9 = none ∧ u9 = lU L f2 ∧ PW K ad P S1 L f2 ∧ S1.2.2.1 = n ∧ Kp ad P L f0 f2)) [.ref (ad 40 0), .int p1].toArray s 0 0 (fun q => b0 ≤ q)) 0 0 2 [(0, .ref (ad 40 0)), (1, .int a1), (2, .int a2)] [] S) (fu : Nat) (a1 : Int32) (a2 : Int32) (a3 : Int32) (S : fS), lp (B_X7_laysBack_10 k2) fu (a1, a2, a3) S = some (v, S1) → Gw D K b0 sa ad P n L f0 p l e { frames := 0, cells := 0, slots := 0, locals := 0 } s m [.ref (ad 40 0), .int p1].toArray below meth c 4 (MQ below (hQ D K b0 (fun v9 u9 => ∃ f2 : Nat → va_E, v9 = none ∧ u9 = lU L f2 ∧ PW K ad P S1 L f2 ∧ S1.2.2.1 = n ∧ Kp ad P L f0 f2)) [.ref (ad 40 0), .int p1].toArray s 0 0 (fun q => b0 ≤ q)) 0 0 10 [(0, .ref (ad 40 0)), (1, .int a1), (2, .int a2), (3, .int a3)] [] S := by
    intro k2 hk2 fu a1 a2 a3 S h
    refine lp_some (G := (fun q S => Gw D K b0 sa ad P n L f0 p l e { frames := 0, cells := 0, slots := 0, locals := 0 } s m [.ref (ad 40 0), .int p1].toArray below meth c 4 (MQ below (hQ D K b0 (fun v9 u9 => ∃ f2 : Nat → va_E, v9 = none ∧ u9 = lU L f2 ∧ PW K ad P S1 L f2 ∧ S1.2.2.1 = n ∧ Kp ad P L f0 f2)) [.ref (ad 40 0), .int p1].toArray s 0 0 (fun q => b0 ≤ q)) 0 0 10 [(0, .ref (ad 40 0)), (1, .int q.1), (2, .int q.2.1), (3, .int q.2.2)] [] S)) (fun k10 hk10 q S h => ?_) fu (a1, a2, a3) S h
    obtain ⟨a1, a2, a3⟩ := q
    have hk10 : ∀ (a1 : Int32) (a2 : Int32) (a3 : Int32) (S : fS), k10 (a1, a2, a3) S = some (v, S1) → Gw D K b0 sa ad P n L f0 p l e { frames := 0, cells := 0, slots := 0, locals := 0 } s m [.ref (ad 40 0), .int p1].toArray below meth c 4 (MQ below (hQ D K b0 (fun v9 u9 => ∃ f2 : Nat → va_E, v9 = none ∧ u9 = lU L f2 ∧ PW K ad P S1 L f2 ∧ S1.2.2.1 = n ∧ Kp ad P L f0 f2)) [.ref (ad 40 0), .int p1].toArray s 0 0 (fun q => b0 ≤ q)) 0 0 10 [(0, .ref (ad 40 0)), (1, .int a1), (2, .int a2), (3, .int a3)] [] S := fun a1 a2 a3 S h => hk10 (a1, a2, a3) S h
    dsimp only [B_X7_laysBack_10] at h
    intro f H locs w hw hn hk ls hl
    refine lv_iload_n hx hb dX7_laysBack_10 rfl (lv_at hl 3 rfl) ?_
    refine lv_bipush (v := 24) hx hb dX7_laysBack_11 (by decide) ?_
    refine lv_icmp_ge (tgt := 43) hx hb dX7_laysBack_13 (by decide) (fun c1 => ?_) (fun c1 => ?_)
    · have h := bb_t h c1
      refine lv_aload_n hx hb dX7_laysBack_43 rfl (lv_at hl 0 rfl) ?_
      refine u_getr C w hw (hP _ _ (isn_f rfl rfl (by decide))) rfl (N := 57) rfl rfl cin_7 29 (by decide) (by decide) (a2 := 54) (i2 := 0) rfl gw_1185 dX7_laysBack_44 ?_
      refine lv_iload_n hx hb dX7_laysBack_47 rfl (lv_at hl 2 rfl) ?_
      refine lv_aload_n hx hb dX7_laysBack_48 rfl (lv_at hl 0 rfl) ?_
      refine u_getr C w hw (hP _ _ (isn_f rfl rfl (by decide))) rfl (N := 57) rfl rfl cin_7 51 (by decide) (by decide) (a2 := 62) (i2 := 0) rfl gw_1207 dX7_laysBack_49 ?_
      refine lv_iload_n hx hb dX7_laysBack_52 rfl (lv_at hl 1 rfl) ?_
      obtain ⟨g2, h⟩ := gd_some h
      refine u_aald C w hw (hP _ _ (isn_f rfl rfl (by decide))) rfl rfl rfl (n := 4) rfl (vp_in_iff.mpr g2) (a2 := 63) (i2 := (a1.toNatClampNeg)) (by exact congrArg (Prod.mk _) (Nat.zero_add _)) dX7_laysBack_53 ?_
      refine lv_iload_n hx hb dX7_laysBack_54 rfl (lv_at hl 2 rfl) ?_
      obtain ⟨g3, h⟩ := gd_some h
      refine u_iald C w hw (hP _ _ (isn_f rfl rfl (ib_lt g2))) rfl rfl (n := 64) rfl (vp_in_iff.mpr g3) dX7_laysBack_55 ?_
      refine u_iv h (fun x4 h => ?_)
      obtain ⟨g5, h⟩ := gd_some h
      refine u_iast C w hw (hP _ _ (isn_f rfl rfl (by decide))) rfl rfl (n := 64) rfl (vp_in_iff.mpr g5) dX7_laysBack_56 (fun f H locs w hw hk1 => ?_)
      have hk := hk.tr hk1
      refine u_sv h hw hn (fun S6 h hw hn => ?_)
      obtain ⟨x7, ex7, h⟩ := iv_some h
      refine lv_iinc (v := x7) (lv' := [(2, .int x7), (0, .ref (ad 40 0)), (1, .int a1), (3, .int a3)]) hx hb dX7_laysBack_57 hl (k := 2) rfl ex7.symm (by decide) rfl (fun ls hl => ?_)
      refine lv_goto (tgt := 2) hx hb dX7_laysBack_60 (by decide) ?_
      exact hk2 a1 x7 S6 h f H locs w hw hn hk ls (lv_sub hl [1, 2, 0] rfl)
    · have h := bb_f h c1
      refine lv_aload_n hx hb dX7_laysBack_16 rfl (lv_at hl 0 rfl) ?_
      refine u_getr C w hw (hP _ _ (isn_f rfl rfl (by decide))) rfl (N := 57) rfl rfl cin_7 28 (by decide) (by decide) (a2 := 52) (i2 := 0) rfl gw_1184 dX7_laysBack_17 ?_
      refine lv_iload_n hx hb dX7_laysBack_20 rfl (lv_at hl 2 rfl) ?_
      obtain ⟨g8, h⟩ := gd_some h
      refine u_aald C w hw (hP _ _ (isn_f rfl rfl (by decide))) rfl rfl rfl (n := 64) rfl (vp_in_iff.mpr g8) (a2 := 53) (i2 := (a2.toNatClampNeg)) (by exact congrArg (Prod.mk _) (Nat.zero_add _)) dX7_laysBack_21 ?_
      refine lv_iload_n hx hb dX7_laysBack_22 rfl (lv_at hl 3 rfl) ?_
      refine lv_aload_n hx hb dX7_laysBack_23 rfl (lv_at hl 0 rfl) ?_
      refine u_getr C w hw (hP _ _ (isn_f rfl rfl (by decide))) rfl (N := 57) rfl rfl cin_7 50 (by decide) (by decide) (a2 := 60) (i2 := 0) rfl gw_1206 dX7_laysBack_24 ?_
      refine lv_bipush (v := 64) hx hb dX7_laysBack_27 (by decide) ?_
      refine lv_iload_n hx hb dX7_laysBack_29 rfl (lv_at hl 1 rfl) ?_
      refine lv_imul hx hb dX7_laysBack_30 ?_
      refine u_iv h (fun x9 h => ?_)
      refine lv_iload_n hx hb dX7_laysBack_31 rfl (lv_at hl 2 rfl) ?_
      refine lv_iadd hx hb dX7_laysBack_32 ?_
      refine u_iv h (fun x10 h => ?_)
      obtain ⟨g11, h⟩ := gd_some h
      refine u_aald C w hw (hP _ _ (isn_f rfl rfl (by decide))) rfl rfl rfl (n := 256) rfl (vp_in_iff.mpr g11) (a2 := 61) (i2 := (x10.toNatClampNeg)) (by exact congrArg (Prod.mk _) (Nat.zero_add _)) dX7_laysBack_33 ?_
      refine lv_iload_n hx hb dX7_laysBack_34 rfl (lv_at hl 3 rfl) ?_
      obtain ⟨g12, h⟩ := gd_some h
      refine u_iald C w hw (hP _ _ (isn_f rfl rfl (ib_lt g11))) rfl rfl (n := 24) rfl (vp_in_iff.mpr g12) dX7_laysBack_35 ?_
      refine u_iv h (fun x13 h => ?_)
      obtain ⟨g14, h⟩ := gd_some h
      refine u_iast C w hw (hP _ _ (isn_f rfl rfl (ib_lt g8))) rfl rfl (n := 24) rfl (vp_in_iff.mpr g14) dX7_laysBack_36 (fun f H locs w hw hk1 => ?_)
      have hk := hk.tr hk1
      refine u_sv h hw hn (fun S15 h hw hn => ?_)
      obtain ⟨x16, ex16, h⟩ := iv_some h
      refine lv_iinc (v := x16) (lv' := [(3, .int x16), (0, .ref (ad 40 0)), (1, .int a1), (2, .int a2)]) hx hb dX7_laysBack_37 hl (k := 3) rfl ex16.symm (by decide) rfl (fun ls hl => ?_)
      refine lv_goto (tgt := 10) hx hb dX7_laysBack_40 (by decide) ?_
      exact hk10 a1 a2 x16 S15 h f H locs w hw hn hk ls (lv_sub hl [1, 2, 3, 0] rfl)
  have J65 : ∀ (fu : Nat) (a1 : Int32) (a2 : Int32) (S : fS), lp (B_X7_laysBack_65 ) fu (a1, a2) S = some (v, S1) → Gw D K b0 sa ad P n L f0 p l e { frames := 0, cells := 0, slots := 0, locals := 0 } s m [.ref (ad 40 0), .int p1].toArray below meth c 4 (MQ below (hQ D K b0 (fun v9 u9 => ∃ f2 : Nat → va_E, v9 = none ∧ u9 = lU L f2 ∧ PW K ad P S1 L f2 ∧ S1.2.2.1 = n ∧ Kp ad P L f0 f2)) [.ref (ad 40 0), .int p1].toArray s 0 0 (fun q => b0 ≤ q)) 0 0 65 [(0, .ref (ad 40 0)), (1, .int a1), (2, .int a2)] [] S := by
    intro fu a1 a2 S h
    refine lp_some (G := (fun q S => Gw D K b0 sa ad P n L f0 p l e { frames := 0, cells := 0, slots := 0, locals := 0 } s m [.ref (ad 40 0), .int p1].toArray below meth c 4 (MQ below (hQ D K b0 (fun v9 u9 => ∃ f2 : Nat → va_E, v9 = none ∧ u9 = lU L f2 ∧ PW K ad P S1 L f2 ∧ S1.2.2.1 = n ∧ Kp ad P L f0 f2)) [.ref (ad 40 0), .int p1].toArray s 0 0 (fun q => b0 ≤ q)) 0 0 65 [(0, .ref (ad 40 0)), (1, .int q.1), (2, .int q.2)] [] S)) (fun k65 hk65 q S h => ?_) fu (a1, a2) S h
    obtain ⟨a1, a2⟩ := q
    have hk65 : ∀ (a1 : Int32) (a2 : Int32) (S : fS), k65 (a1, a2) S = some (v, S1) → Gw D K b0 sa ad P n L f0 p l e { frames := 0, cells := 0, slots := 0, locals := 0 } s m [.ref (ad 40 0), .int p1].toArray below meth c 4 (MQ below (hQ D K b0 (fun v9 u9 => ∃ f2 : Nat → va_E, v9 = none ∧ u9 = lU L f2 ∧ PW K ad P S1 L f2 ∧ S1.2.2.1 = n ∧ Kp ad P L f0 f2)) [.ref (ad 40 0), .int p1].toArray s 0 0 (fun q => b0 ≤ q)) 0 0 65 [(0, .ref (ad 40 0)), (1, .int a1), (2, .int a2)] [] S := fun a1 a2 S h => hk65 (a1, a2) S h
    dsimp only [B_X7_laysBack_65] at h
    intro f H locs w hw hn hk ls hl
    refine lv_iload_n hx hb dX7_laysBack_65 rfl (lv_at hl 2 rfl) ?_
    refine lv_bipush (v := 24) hx hb dX7_laysBack_66 (by decide) ?_
    refine lv_icmp_ge (tgt := 91) hx hb dX7_laysBack_68 (by decide) (fun c17 => ?_) (fun c17 => ?_)
    · have h := bb_t h c17
      refine lv_aload_n hx hb dX7_laysBack_91 rfl (lv_at hl 0 rfl) ?_
      refine lv_aload_n hx hb dX7_laysBack_92 rfl (lv_at hl 0 rfl) ?_
      refine u_getr C w hw (hP _ _ (isn_f rfl rfl (by decide))) rfl (N := 57) rfl rfl cin_7 53 (by decide) (by decide) (a2 := 66) (i2 := 0) rfl gw_1209 dX7_laysBack_93 ?_
      refine lv_iload_n hx hb dX7_laysBack_96 rfl (lv_at hl 1 rfl) ?_
      obtain ⟨g18, h⟩ := gd_some h
      refine u_aald C w hw (hP _ _ (isn_f rfl rfl (by decide))) rfl rfl rfl (n := 4) rfl (vp_in_iff.mpr g18) (a2 := 67) (i2 := (a1.toNatClampNeg)) (by exact congrArg (Prod.mk _) (Nat.zero_add _)) dX7_laysBack_97 ?_
      refine lv_iconst (v := 0) hx hb dX7_laysBack_98 (by decide) ?_
      refine u_iald C w hw (hP _ _ (isn_f rfl rfl (ib_lt g18))) rfl rfl (n := 11) rfl (vp_in_iff.mpr ⟨by decide, by decide⟩) dX7_laysBack_99 ?_
      refine u_iv h (fun x19 h => ?_)
      refine u_puti C w hw (hP _ _ (isn_f rfl rfl (by decide))) rfl (N := 57) rfl rfl cin_7 tyX7 tyX7_ok nmX7 35 (by decide) rfl rfl rfl rfl gw_1191 dX7_laysBack_100 (fun f H locs w hw hk1 => ?_)
      have hk := hk.tr hk1
      refine u_sv h hw hn (fun S20 h hw hn => ?_)
      refine lv_aload_n hx hb dX7_laysBack_103 rfl (lv_at hl 0 rfl) ?_
      refine lv_aload_n hx hb dX7_laysBack_104 rfl (lv_at hl 0 rfl) ?_
      refine u_getr C w hw (hP _ _ (isn_f rfl rfl (by decide))) rfl (N := 57) rfl rfl cin_7 53 (by decide) (by decide) (a2 := 66) (i2 := 0) rfl gw_1209 dX7_laysBack_105 ?_
      refine lv_iload_n hx hb dX7_laysBack_108 rfl (lv_at hl 1 rfl) ?_
      obtain ⟨g21, h⟩ := gd_some h
      refine u_aald C w hw (hP _ _ (isn_f rfl rfl (by decide))) rfl rfl rfl (n := 4) rfl (vp_in_iff.mpr g21) (a2 := 67) (i2 := (a1.toNatClampNeg)) (by exact congrArg (Prod.mk _) (Nat.zero_add _)) dX7_laysBack_109 ?_
      refine lv_iconst (v := 1) hx hb dX7_laysBack_110 (by decide) ?_
      refine u_iald C w hw (hP _ _ (isn_f rfl rfl (ib_lt g21))) rfl rfl (n := 11) rfl (vp_in_iff.mpr ⟨by decide, by decide⟩) dX7_laysBack_111 ?_
      refine u_iv h (fun x22 h => ?_)
      refine u_puti C w hw (hP _ _ (isn_f rfl rfl (by decide))) rfl (N := 57) rfl rfl cin_7 tyX7 tyX7_ok nmX7 36 (by decide) rfl rfl rfl rfl gw_1192 dX7_laysBack_112 (fun f H locs w hw hk1 => ?_)
      have hk := hk.tr hk1
      refine u_sv h hw hn (fun S23 h hw hn => ?_)
      refine lv_aload_n hx hb dX7_laysBack_115 rfl (lv_at hl 0 rfl) ?_
      refine lv_aload_n hx hb dX7_laysBack_116 rfl (lv_at hl 0 rfl) ?_
      refine u_getr C w hw (hP _ _ (isn_f rfl rfl (by decide))) rfl (N := 57) rfl rfl cin_7 53 (by decide) (by decide) (a2 := 66) (i2 := 0) rfl gw_1209 dX7_laysBack_117 ?_
      refine lv_iload_n hx hb dX7_laysBack_120 rfl (lv_at hl 1 rfl) ?_
      obtain ⟨g24, h⟩ := gd_some h
      refine u_aald C w hw (hP _ _ (isn_f rfl rfl (by decide))) rfl rfl rfl (n := 4) rfl (vp_in_iff.mpr g24) (a2 := 67) (i2 := (a1.toNatClampNeg)) (by exact congrArg (Prod.mk _) (Nat.zero_add _)) dX7_laysBack_121 ?_
      refine lv_iconst (v := 2) hx hb dX7_laysBack_122 (by decide) ?_
      refine u_iald C w hw (hP _ _ (isn_f rfl rfl (ib_lt g24))) rfl rfl (n := 11) rfl (vp_in_iff.mpr ⟨by decide, by decide⟩) dX7_laysBack_123 ?_
      refine u_iv h (fun x25 h => ?_)
      refine u_puti C w hw (hP _ _ (isn_f rfl rfl (by decide))) rfl (N := 57) rfl rfl cin_7 tyX7 tyX7_ok nmX7 37 (by decide) rfl rfl rfl rfl gw_1193 dX7_laysBack_124 (fun f H locs w hw hk1 => ?_)
      have hk := hk.tr hk1
      refine u_sv h hw hn (fun S26 h hw hn => ?_)
      refine lv_aload_n hx hb dX7_laysBack_127 rfl (lv_at hl 0 rfl) ?_
      refine lv_aload_n hx hb dX7_laysBack_128 rfl (lv_at hl 0 rfl) ?_
      refine u_getr C w hw (hP _ _ (isn_f rfl rfl (by decide))) rfl (N := 57) rfl rfl cin_7 53 (by decide) (by decide) (a2 := 66) (i2 := 0) rfl gw_1209 dX7_laysBack_129 ?_
      refine lv_iload_n hx hb dX7_laysBack_132 rfl (lv_at hl 1 rfl) ?_
      obtain ⟨g27, h⟩ := gd_some h
      refine u_aald C w hw (hP _ _ (isn_f rfl rfl (by decide))) rfl rfl rfl (n := 4) rfl (vp_in_iff.mpr g27) (a2 := 67) (i2 := (a1.toNatClampNeg)) (by exact congrArg (Prod.mk _) (Nat.zero_add _)) dX7_laysBack_133 ?_
      refine lv_iconst (v := 3) hx hb dX7_laysBack_134 (by decide) ?_
      refine u_iald C w hw (hP _ _ (isn_f rfl rfl (ib_lt g27))) rfl rfl (n := 11) rfl (vp_in_iff.mpr ⟨by decide, by decide⟩) dX7_laysBack_135 ?_
      refine u_iv h (fun x28 h => ?_)
      refine u_puti C w hw (hP _ _ (isn_f rfl rfl (by decide))) rfl (N := 57) rfl rfl cin_7 tyX7 tyX7_ok nmX7 38 (by decide) rfl rfl rfl rfl gw_1194 dX7_laysBack_136 (fun f H locs w hw hk1 => ?_)
      have hk := hk.tr hk1
      refine u_sv h hw hn (fun S29 h hw hn => ?_)
      exact t_vret C hr hlk w ⟨_, rfl, rfl, so_w h hw, so_n h hn, hk⟩ (by decide) (by decide) dX7_laysBack_139
    · have h := bb_f h c17
      refine lv_aload_n hx hb dX7_laysBack_71 rfl (lv_at hl 0 rfl) ?_
      refine u_getr C w hw (hP _ _ (isn_f rfl rfl (by decide))) rfl (N := 57) rfl rfl cin_7 26 (by decide) (by decide) (a2 := 50) (i2 := 0) rfl gw_1182 dX7_laysBack_72 ?_
      refine lv_iload_n hx hb dX7_laysBack_75 rfl (lv_at hl 2 rfl) ?_
      refine lv_aload_n hx hb dX7_laysBack_76 rfl (lv_at hl 0 rfl) ?_
      refine u_getr C w hw (hP _ _ (isn_f rfl rfl (by decide))) rfl (N := 57) rfl rfl cin_7 52 (by decide) (by decide) (a2 := 64) (i2 := 0) rfl gw_1208 dX7_laysBack_77 ?_
      refine lv_iload_n hx hb dX7_laysBack_80 rfl (lv_at hl 1 rfl) ?_
      obtain ⟨g30, h⟩ := gd_some h
      refine u_aald C w hw (hP _ _ (isn_f rfl rfl (by decide))) rfl rfl rfl (n := 4) rfl (vp_in_iff.mpr g30) (a2 := 65) (i2 := (a1.toNatClampNeg)) (by exact congrArg (Prod.mk _) (Nat.zero_add _)) dX7_laysBack_81 ?_
      refine lv_iload_n hx hb dX7_laysBack_82 rfl (lv_at hl 2 rfl) ?_
      obtain ⟨g31, h⟩ := gd_some h
      refine u_iald C w hw (hP _ _ (isn_f rfl rfl (ib_lt g30))) rfl rfl (n := 24) rfl (vp_in_iff.mpr g31) dX7_laysBack_83 ?_
      refine u_iv h (fun x32 h => ?_)
      obtain ⟨g33, h⟩ := gd_some h
      refine u_iast C w hw (hP _ _ (isn_f rfl rfl (by decide))) rfl rfl (n := 24) rfl (vp_in_iff.mpr g33) dX7_laysBack_84 (fun f H locs w hw hk1 => ?_)
      have hk := hk.tr hk1
      refine u_sv h hw hn (fun S34 h hw hn => ?_)
      obtain ⟨x35, ex35, h⟩ := iv_some h
      refine lv_iinc (v := x35) (lv' := [(2, .int x35), (0, .ref (ad 40 0)), (1, .int a1)]) hx hb dX7_laysBack_85 hl (k := 2) rfl ex35.symm (by decide) rfl (fun ls hl => ?_)
      refine lv_goto (tgt := 65) hx hb dX7_laysBack_88 (by decide) ?_
      exact hk65 a1 x35 S34 h f H locs w hw hn hk ls (lv_sub hl [1, 2, 0] rfl)
  have J2 : ∀ (fu : Nat) (a1 : Int32) (a2 : Int32) (S : fS), lp (B_X7_laysBack_2 ) fu (a1, a2) S = some (v, S1) → Gw D K b0 sa ad P n L f0 p l e { frames := 0, cells := 0, slots := 0, locals := 0 } s m [.ref (ad 40 0), .int p1].toArray below meth c 4 (MQ below (hQ D K b0 (fun v9 u9 => ∃ f2 : Nat → va_E, v9 = none ∧ u9 = lU L f2 ∧ PW K ad P S1 L f2 ∧ S1.2.2.1 = n ∧ Kp ad P L f0 f2)) [.ref (ad 40 0), .int p1].toArray s 0 0 (fun q => b0 ≤ q)) 0 0 2 [(0, .ref (ad 40 0)), (1, .int a1), (2, .int a2)] [] S := by
    intro fu a1 a2 S h
    refine lp_some (G := (fun q S => Gw D K b0 sa ad P n L f0 p l e { frames := 0, cells := 0, slots := 0, locals := 0 } s m [.ref (ad 40 0), .int p1].toArray below meth c 4 (MQ below (hQ D K b0 (fun v9 u9 => ∃ f2 : Nat → va_E, v9 = none ∧ u9 = lU L f2 ∧ PW K ad P S1 L f2 ∧ S1.2.2.1 = n ∧ Kp ad P L f0 f2)) [.ref (ad 40 0), .int p1].toArray s 0 0 (fun q => b0 ≤ q)) 0 0 2 [(0, .ref (ad 40 0)), (1, .int q.1), (2, .int q.2)] [] S)) (fun k2 hk2 q S h => ?_) fu (a1, a2) S h
    obtain ⟨a1, a2⟩ := q
    have hk2 : ∀ (a1 : Int32) (a2 : Int32) (S : fS), k2 (a1, a2) S = some (v, S1) → Gw D K b0 sa ad P n L f0 p l e { frames := 0, cells := 0, slots := 0, locals := 0 } s m [.ref (ad 40 0), .int p1].toArray below meth c 4 (MQ below (hQ D K b0 (fun v9 u9 => ∃ f2 : Nat → va_E, v9 = none ∧ u9 = lU L f2 ∧ PW K ad P S1 L f2 ∧ S1.2.2.1 = n ∧ Kp ad P L f0 f2)) [.ref (ad 40 0), .int p1].toArray s 0 0 (fun q => b0 ≤ q)) 0 0 2 [(0, .ref (ad 40 0)), (1, .int a1), (2, .int a2)] [] S := fun a1 a2 S h => hk2 (a1, a2) S h
    dsimp only [B_X7_laysBack_2] at h
    intro f H locs w hw hn hk ls hl
    refine lv_iload_n hx hb dX7_laysBack_2 rfl (lv_at hl 2 rfl) ?_
    refine lv_bipush (v := 64) hx hb dX7_laysBack_3 (by decide) ?_
    refine lv_icmp_ge (tgt := 63) hx hb dX7_laysBack_5 (by decide) (fun c36 => ?_) (fun c36 => ?_)
    · have h := bb_t h c36
      refine lv_iconst (v := 0) hx hb dX7_laysBack_63 (by decide) ?_
      refine lv_istore_n (lv' := [(2, .int 0), (0, .ref (ad 40 0)), (1, .int a1)]) hx hb dX7_laysBack_64 rfl hl (by decide) rfl (fun ls hl => ?_)
      exact J65  fuel a1 0 S h f H locs w hw hn hk ls (lv_sub hl [1, 2, 0] rfl)
    · have h := bb_f h c36
      refine lv_iconst (v := 0) hx hb dX7_laysBack_8 (by decide) ?_
      refine lv_istore_n (lv' := [(3, .int 0), (0, .ref (ad 40 0)), (1, .int a1), (2, .int a2)]) hx hb dX7_laysBack_9 rfl hl (by decide) rfl (fun ls hl => ?_)
      exact J10 k2 hk2 fuel a1 a2 0 S h f H locs w hw hn hk ls (lv_sub hl [1, 2, 3, 0] rfl)
  dsimp only [F_X7_laysBack] at h
  obtain ⟨f, ef⟩ : ∃ z, z = f0 := ⟨_, rfl⟩
  rw [← ef] at w hw
  have hk : Kp ad P L f0 f := by rw [ef]; exact Kp.rf
  obtain ⟨H, eH⟩ : ∃ z, z = s.heap := ⟨_, rfl⟩
  obtain ⟨locs, el⟩ : ∃ z : List Loc, z = [] := ⟨_, rfl⟩
  rw [← eH, ← el] at w ⊢
  refine lv_iconst (v := 0) hx hb dX7_laysBack_0 (by decide) ?_
  refine lv_istore_n (lv' := [(2, .int 0), (0, .ref (ad 40 0)), (1, .int p1)]) hx hb dX7_laysBack_1 rfl hl (by decide) rfl (fun ls hl => ?_)
  exact J2  fuel p1 0 S0 h f H locs w hw hn hk ls (lv_sub hl [1, 2, 0] rfl)
theorem dX7_weightFor_0 : decode cX7_weightFor 0 = .ok (.iconst 0, 1) := by decide +kernel
theorem dX7_weightFor_1 : decode cX7_weightFor 1 = .ok (.istore_n 3, 1) := by decide +kernel
theorem dX7_weightFor_2 : decode cX7_weightFor 2 = .ok (.iconst 0, 1) := by decide +kernel
theorem dX7_weightFor_3 : decode cX7_weightFor 3 = .ok (.istore 4, 2) := by decide +kernel
theorem dX7_weightFor_5 : decode cX7_weightFor 5 = .ok (.iload 4, 2) := by decide +kernel
theorem dX7_weightFor_7 : decode cX7_weightFor 7 = .ok (.bipush 9, 2) := by decide +kernel
theorem dX7_weightFor_9 : decode cX7_weightFor 9 = .ok (.if_icmp .ge 35, 3) := by decide +kernel
theorem dX7_weightFor_12 : decode cX7_weightFor 12 = .ok (.iload_n 3, 1) := by decide +kernel
theorem dX7_weightFor_13 : decode cX7_weightFor 13 = .ok (.iload_n 2, 1) := by decide +kernel
theorem dX7_weightFor_14 : decode cX7_weightFor 14 = .ok (.iload 4, 2) := by decide +kernel
theorem dX7_weightFor_16 : decode cX7_weightFor 16 = .ok (.invokestatic 339, 3) := by decide +kernel
theorem dX7_weightFor_19 : decode cX7_weightFor 19 = .ok (.iload_n 2, 1) := by decide +kernel
theorem dX7_weightFor_20 : decode cX7_weightFor 20 = .ok (.if_icmp .ne 15, 3) := by decide +kernel
theorem dX7_weightFor_23 : decode cX7_weightFor 23 = .ok (.aload_n 0, 1) := by decide +kernel
theorem dX7_weightFor_24 : decode cX7_weightFor 24 = .ok (.getfield 76, 3) := by decide +kernel
theorem dX7_weightFor_27 : decode cX7_weightFor 27 = .ok (.iload_n 1, 1) := by decide +kernel
theorem dX7_weightFor_28 : decode cX7_weightFor 28 = .ok (.aaload, 1) := by decide +kernel
theorem dX7_weightFor_29 : decode cX7_weightFor 29 = .ok (.iload 4, 2) := by decide +kernel
theorem dX7_weightFor_31 : decode cX7_weightFor 31 = .ok (.iaload, 1) := by decide +kernel
theorem dX7_weightFor_32 : decode cX7_weightFor 32 = .ok (.goto 4, 3) := by decide +kernel
theorem dX7_weightFor_35 : decode cX7_weightFor 35 = .ok (.iconst 0, 1) := by decide +kernel
theorem dX7_weightFor_36 : decode cX7_weightFor 36 = .ok (.iadd, 1) := by decide +kernel
theorem dX7_weightFor_37 : decode cX7_weightFor 37 = .ok (.istore_n 3, 1) := by decide +kernel
theorem dX7_weightFor_38 : decode cX7_weightFor 38 = .ok (.iinc 4 1, 3) := by decide +kernel
theorem dX7_weightFor_41 : decode cX7_weightFor 41 = .ok (.goto (-36), 3) := by decide +kernel
theorem dX7_weightFor_44 : decode cX7_weightFor 44 = .ok (.iload_n 3, 1) := by decide +kernel
theorem dX7_weightFor_45 : decode cX7_weightFor 45 = .ok (.ireturn, 1) := by decide +kernel
noncomputable def B_X7_weightFor_36 (k5 : (Int32 × Int32 × Int32 × Int32) → fS → Option (Int32 × fS)) (a1 : Int32) (a2 : Int32) (a4 : Int32) (t0 : Int32) (t1 : Int32) (S : fS) : Option (Int32 × fS) := iv (t1 + t0) (fun x1 => iv (a4 + Int32.ofInt 1) (fun x2 => k5 (a1, a2, x1, x2) S))
noncomputable def B_X7_weightFor_5 (k5 : (Int32 × Int32 × Int32 × Int32) → fS → Option (Int32 × fS)) : (Int32 × Int32 × Int32 × Int32) → fS → Option (Int32 × fS) := fun ⟨a1, a2, a3, a4⟩ S => bb ((9 : Int32) ≤ a4) (some (a3, S)) (bd (F_X7_comesTo a2 a4 S) (fun v4 S5 => bb (v4 = a2) (gd (ib a1 6) (gd (ib a4 9) (iv (ge S5 59 (a1.toNatClampNeg) (a4 : Int32).toNatClampNeg) (fun x10 => B_X7_weightFor_36 k5 a1 a2 a4 x10 a3 S5)))) (B_X7_weightFor_36 k5 a1 a2 a4 0 a3 S5)))
noncomputable def F_X7_weightFor (p1 : Int32) (p2 : Int32) (S0 : fS) : Option (Int32 × fS) := lp (B_X7_weightFor_5 ) fuel (p1, p2, 0, 0) S0
set_option maxHeartbeats 4000000 in
set_option maxRecDepth 100000 in
theorem c_X7_weightFor (l : Launch) (D : va_G) (K : Nat → ClassId) (b0 : Nat) (sa : sT) (sz : Nat) (L : List Nat) (f0 : Nat → va_E) (ad : Nat → Nat → Nat) (P : Nat → Nat → Prop) {n : Nat × Nat} (hP : ∀ a i : Nat, isn n a i → P a i) (S0 : fS) (hw : PW K ad P S0 L f0) (hn : S0.2.2.1 = n) (p1 : Int32) (p2 : Int32) (v : Int32) (S1 : fS) (h : F_X7_weightFor p1 p2 S0 = some (v, S1)) : Met l yX7_weightFor (.code yX7_weightFor cX7_weightFor 5 (some .int) :: gt) { frames := 2, cells := 0, slots := 0, locals := 43 } (va_Pc [.ref (ad 40 0), .int p1, .int p2] (hPre D K b0 sa sz L f0)) (hQ D K b0 (fun v9 u9 => ∃ f2 : Nat → va_E, v9 = some (.int v) ∧ u9 = lU L f2 ∧ PW K ad P S1 L f2 ∧ S1.2.2.1 = n ∧ Kp ad P L f0 f2)) 0 0 (fun q => b0 ≤ q) := by
  refine t_of (own := RX7) (by decide) rfl ?_ (Nat.le_of_ble_eq_true rfl)
  intro p e s m below meth c ls C w hsz hr hlk hnm hl
  have hx := C.1
  have hb := C.2.1
  have hl : lv_has ls 5 [(0, .ref (ad 40 0)), (1, .int p1), (2, .int p2)] := hl
  have J36 : ∀ (k5 : (Int32 × Int32 × Int32 × Int32) → fS → Option (Int32 × fS)) (hk5 : ∀ (a1 : Int32) (a2 : Int32) (a3 : Int32) (a4 : Int32) (S : fS), k5 (a1, a2, a3, a4) S = some (v, S1) → Gw D K b0 sa ad P n L f0 p l e { frames := 2, cells := 0, slots := 0, locals := 43 } s m [.ref (ad 40 0), .int p1, .int p2].toArray below meth c 5 (MQ below (hQ D K b0 (fun v9 u9 => ∃ f2 : Nat → va_E, v9 = some (.int v) ∧ u9 = lU L f2 ∧ PW K ad P S1 L f2 ∧ S1.2.2.1 = n ∧ Kp ad P L f0 f2)) [.ref (ad 40 0), .int p1, .int p2].toArray s 0 0 (fun q => b0 ≤ q)) 0 0 5 [(0, .ref (ad 40 0)), (1, .int a1), (2, .int a2), (3, .int a3), (4, .int a4)] [] S) (a1 : Int32) (a2 : Int32) (a4 : Int32) (t0 : Int32) (t1 : Int32) (S : fS), B_X7_weightFor_36 k5 a1 a2 a4 t0 t1 S = some (v, S1) → Gw D K b0 sa ad P n L f0 p l e { frames := 2, cells := 0, slots := 0, locals := 43 } s m [.ref (ad 40 0), .int p1, .int p2].toArray below meth c 5 (MQ below (hQ D K b0 (fun v9 u9 => ∃ f2 : Nat → va_E, v9 = some (.int v) ∧ u9 = lU L f2 ∧ PW K ad P S1 L f2 ∧ S1.2.2.1 = n ∧ Kp ad P L f0 f2)) [.ref (ad 40 0), .int p1, .int p2].toArray s 0 0 (fun q => b0 ≤ q)) 0 0 36 [(0, .ref (ad 40 0)), (1, .int a1), (2, .int a2), (4, .int a4)] [.int t0, .int t1] S := by
    intro k5 hk5 a1 a2 a4 t0 t1 S h
    dsimp only [B_X7_weightFor_36] at h
    intro f H locs w hw hn hk ls hl
    refine lv_iadd hx hb dX7_weightFor_36 ?_
    refine u_iv h (fun x1 h => ?_)
    refine lv_istore_n (lv' := [(3, .int x1), (0, .ref (ad 40 0)), (1, .int a1), (2, .int a2), (4, .int a4)]) hx hb dX7_weightFor_37 rfl hl (by decide) rfl (fun ls hl => ?_)
    obtain ⟨x2, ex2, h⟩ := iv_some h
    refine lv_iinc (v := x2) (lv' := [(4, .int x2), (3, .int x1), (0, .ref (ad 40 0)), (1, .int a1), (2, .int a2)]) hx hb dX7_weightFor_38 hl (k := 4) rfl ex2.symm (by decide) rfl (fun ls hl => ?_)
    refine lv_goto (tgt := 5) hx hb dX7_weightFor_41 (by decide) ?_
    exact hk5 a1 a2 x1 x2 S h f H locs w hw hn hk ls (lv_sub hl [2, 3, 4, 1, 0] rfl)
  have J5 : ∀ (fu : Nat) (a1 : Int32) (a2 : Int32) (a3 : Int32) (a4 : Int32) (S : fS), lp (B_X7_weightFor_5 ) fu (a1, a2, a3, a4) S = some (v, S1) → Gw D K b0 sa ad P n L f0 p l e { frames := 2, cells := 0, slots := 0, locals := 43 } s m [.ref (ad 40 0), .int p1, .int p2].toArray below meth c 5 (MQ below (hQ D K b0 (fun v9 u9 => ∃ f2 : Nat → va_E, v9 = some (.int v) ∧ u9 = lU L f2 ∧ PW K ad P S1 L f2 ∧ S1.2.2.1 = n ∧ Kp ad P L f0 f2)) [.ref (ad 40 0), .int p1, .int p2].toArray s 0 0 (fun q => b0 ≤ q)) 0 0 5 [(0, .ref (ad 40 0)), (1, .int a1), (2, .int a2), (3, .int a3), (4, .int a4)] [] S := by
    intro fu a1 a2 a3 a4 S h
    refine lp_some (G := (fun q S => Gw D K b0 sa ad P n L f0 p l e { frames := 2, cells := 0, slots := 0, locals := 43 } s m [.ref (ad 40 0), .int p1, .int p2].toArray below meth c 5 (MQ below (hQ D K b0 (fun v9 u9 => ∃ f2 : Nat → va_E, v9 = some (.int v) ∧ u9 = lU L f2 ∧ PW K ad P S1 L f2 ∧ S1.2.2.1 = n ∧ Kp ad P L f0 f2)) [.ref (ad 40 0), .int p1, .int p2].toArray s 0 0 (fun q => b0 ≤ q)) 0 0 5 [(0, .ref (ad 40 0)), (1, .int q.1), (2, .int q.2.1), (3, .int q.2.2.1), (4, .int q.2.2.2)] [] S)) (fun k5 hk5 q S h => ?_) fu (a1, a2, a3, a4) S h
    obtain ⟨a1, a2, a3, a4⟩ := q
    have hk5 : ∀ (a1 : Int32) (a2 : Int32) (a3 : Int32) (a4 : Int32) (S : fS), k5 (a1, a2, a3, a4) S = some (v, S1) → Gw D K b0 sa ad P n L f0 p l e { frames := 2, cells := 0, slots := 0, locals := 43 } s m [.ref (ad 40 0), .int p1, .int p2].toArray below meth c 5 (MQ below (hQ D K b0 (fun v9 u9 => ∃ f2 : Nat → va_E, v9 = some (.int v) ∧ u9 = lU L f2 ∧ PW K ad P S1 L f2 ∧ S1.2.2.1 = n ∧ Kp ad P L f0 f2)) [.ref (ad 40 0), .int p1, .int p2].toArray s 0 0 (fun q => b0 ≤ q)) 0 0 5 [(0, .ref (ad 40 0)), (1, .int a1), (2, .int a2), (3, .int a3), (4, .int a4)] [] S := fun a1 a2 a3 a4 S h => hk5 (a1, a2, a3, a4) S h
    dsimp only [B_X7_weightFor_5] at h
    intro f H locs w hw hn hk ls hl
    refine lv_iload hx hb dX7_weightFor_5 (lv_at hl 4 rfl) ?_
    refine lv_bipush (v := 9) hx hb dX7_weightFor_7 (by decide) ?_
    refine lv_icmp_ge (tgt := 44) hx hb dX7_weightFor_9 (by decide) (fun c3 => ?_) (fun c3 => ?_)
    · have h := bb_t h c3
      refine lv_iload_n hx hb dX7_weightFor_44 rfl (lv_at hl 3 rfl) ?_
      exact t_iret C hr hlk w ⟨_, so_v h, rfl, so_w h hw, so_n h hn, hk⟩ (by decide) (by decide) dX7_weightFor_45
    · have h := bb_f h c3
      refine lv_iload_n hx hb dX7_weightFor_12 rfl (lv_at hl 3 rfl) ?_
      refine lv_iload_n hx hb dX7_weightFor_13 rfl (lv_at hl 2 rfl) ?_
      refine lv_iload hx hb dX7_weightFor_14 (lv_at hl 4 rfl) ?_
      obtain ⟨v4, S5, h6, h⟩ := bd_some h
      refine t_callS (n := 2) C w (c_X7_comesTo l D K b0 sa _ L _ ad P hP S hw hn a2 a4 v4 S5 h6) gw_1581 gw_1579 gw_1580 gw_8 ⟨by decide, by decide, by decide +kernel⟩ rfl rfl ⟨by decide, by decide⟩ rfl hl.1 rfl (Nat.le_of_ble_eq_true rfl) dX7_weightFor_16 ⟨Nat.le_of_ble_eq_true rfl, Nat.le_of_ble_eq_true rfl⟩ (fun v9 u H locs hp w => ?_)
      obtain ⟨f2, rfl, rfl, hw, hn, hk1⟩ := hp
      have hk := hk.tr hk1
      generalize f2 = f at w hw hk
      refine lv_iload_n hx hb dX7_weightFor_19 rfl (lv_at hl 2 rfl) ?_
      refine lv_icmp_ne (tgt := 35) hx hb dX7_weightFor_20 (by decide) (fun c7 => ?_) (fun c7 => ?_)
      · have h := bb_f h c7
        refine lv_iconst (v := 0) hx hb dX7_weightFor_35 (by decide) ?_
        exact J36 k5 hk5 a1 a2 a4 0 a3 S5 h f H locs w hw hn hk ls (lv_sub hl [0, 1, 2, 4] rfl)
      · have h := bb_t h c7
        refine lv_aload_n hx hb dX7_weightFor_23 rfl (lv_at hl 0 rfl) ?_
        refine u_getr C w hw (hP _ _ (isn_f rfl rfl (by decide))) rfl (N := 57) rfl rfl cin_7 49 (by decide) (by decide) (a2 := 58) (i2 := 0) rfl gw_1205 dX7_weightFor_24 ?_
        refine lv_iload_n hx hb dX7_weightFor_27 rfl (lv_at hl 1 rfl) ?_
        obtain ⟨g8, h⟩ := gd_some h
        refine u_aald C w hw (hP _ _ (isn_f rfl rfl (by decide))) rfl rfl rfl (n := 6) rfl (vp_in_iff.mpr g8) (a2 := 59) (i2 := (a1.toNatClampNeg)) (by exact congrArg (Prod.mk _) (Nat.zero_add _)) dX7_weightFor_28 ?_
        refine lv_iload hx hb dX7_weightFor_29 (lv_at hl 4 rfl) ?_
        obtain ⟨g9, h⟩ := gd_some h
        refine u_iald C w hw (hP _ _ (isn_f rfl rfl (ib_lt g8))) rfl rfl (n := 9) rfl (vp_in_iff.mpr g9) dX7_weightFor_31 ?_
        refine u_iv h (fun x10 h => ?_)
        refine lv_goto (tgt := 36) hx hb dX7_weightFor_32 (by decide) ?_
        exact J36 k5 hk5 a1 a2 a4 x10 a3 S5 h f H locs w hw hn hk ls (lv_sub hl [0, 1, 2, 4] rfl)
  dsimp only [F_X7_weightFor] at h
  obtain ⟨f, ef⟩ : ∃ z, z = f0 := ⟨_, rfl⟩
  rw [← ef] at w hw
  have hk : Kp ad P L f0 f := by rw [ef]; exact Kp.rf
  obtain ⟨H, eH⟩ : ∃ z, z = s.heap := ⟨_, rfl⟩
  obtain ⟨locs, el⟩ : ∃ z : List Loc, z = [] := ⟨_, rfl⟩
  rw [← eH, ← el] at w ⊢
  refine lv_iconst (v := 0) hx hb dX7_weightFor_0 (by decide) ?_
  refine lv_istore_n (lv' := [(3, .int 0), (0, .ref (ad 40 0)), (1, .int p1), (2, .int p2)]) hx hb dX7_weightFor_1 rfl hl (by decide) rfl (fun ls hl => ?_)
  refine lv_iconst (v := 0) hx hb dX7_weightFor_2 (by decide) ?_
  refine lv_istore (lv' := [(4, .int 0), (3, .int 0), (0, .ref (ad 40 0)), (1, .int p1), (2, .int p2)]) hx hb dX7_weightFor_3 hl (by decide) rfl (fun ls hl => ?_)
  exact J5  fuel p1 p2 0 0 S0 h f H locs w hw hn hk ls (lv_sub hl [2, 3, 4, 1, 0] rfl)
theorem dX7_settle_0 : decode cX7_settle 0 = .ok (.aload_n 0, 1) := by decide +kernel
theorem dX7_settle_1 : decode cX7_settle 1 = .ok (.iconst 0, 1) := by decide +kernel
theorem dX7_settle_2 : decode cX7_settle 2 = .ok (.putfield 97, 3) := by decide +kernel
theorem dX7_settle_5 : decode cX7_settle 5 = .ok (.aload_n 0, 1) := by decide +kernel
theorem dX7_settle_6 : decode cX7_settle 6 = .ok (.aload_n 0, 1) := by decide +kernel
theorem dX7_settle_7 : decode cX7_settle 7 = .ok (.iload_n 1, 1) := by decide +kernel
theorem dX7_settle_8 : decode cX7_settle 8 = .ok (.invokevirtual 333, 3) := by decide +kernel
theorem dX7_settle_11 : decode cX7_settle 11 = .ok (.ifCond .ne 7, 3) := by decide +kernel
theorem dX7_settle_14 : decode cX7_settle 14 = .ok (.iconst 1, 1) := by decide +kernel
theorem dX7_settle_15 : decode cX7_settle 15 = .ok (.goto 4, 3) := by decide +kernel
theorem dX7_settle_18 : decode cX7_settle 18 = .ok (.iconst 0, 1) := by decide +kernel
theorem dX7_settle_19 : decode cX7_settle 19 = .ok (.iconst 1, 1) := by decide +kernel
theorem dX7_settle_20 : decode cX7_settle 20 = .ok (.invokevirtual 206, 3) := by decide +kernel
theorem dX7_settle_23 : decode cX7_settle 23 = .ok (.ifCond .ne 47, 3) := by decide +kernel
theorem dX7_settle_26 : decode cX7_settle 26 = .ok (.aload_n 0, 1) := by decide +kernel
theorem dX7_settle_27 : decode cX7_settle 27 = .ok (.iload_n 2, 1) := by decide +kernel
theorem dX7_settle_28 : decode cX7_settle 28 = .ok (.invokestatic 253, 3) := by decide +kernel
theorem dX7_settle_31 : decode cX7_settle 31 = .ok (.ifCond .ne 7, 3) := by decide +kernel
theorem dX7_settle_34 : decode cX7_settle 34 = .ok (.iconst 1, 1) := by decide +kernel
theorem dX7_settle_35 : decode cX7_settle 35 = .ok (.goto 4, 3) := by decide +kernel
theorem dX7_settle_38 : decode cX7_settle 38 = .ok (.iconst 0, 1) := by decide +kernel
theorem dX7_settle_39 : decode cX7_settle 39 = .ok (.iconst 2, 1) := by decide +kernel
theorem dX7_settle_40 : decode cX7_settle 40 = .ok (.invokevirtual 206, 3) := by decide +kernel
theorem dX7_settle_43 : decode cX7_settle 43 = .ok (.ifCond .ne 27, 3) := by decide +kernel
theorem dX7_settle_46 : decode cX7_settle 46 = .ok (.aload_n 0, 1) := by decide +kernel
theorem dX7_settle_47 : decode cX7_settle 47 = .ok (.iload_n 3, 1) := by decide +kernel
theorem dX7_settle_48 : decode cX7_settle 48 = .ok (.iconst 0, 1) := by decide +kernel
theorem dX7_settle_49 : decode cX7_settle 49 = .ok (.sipush 9999, 3) := by decide +kernel
theorem dX7_settle_52 : decode cX7_settle 52 = .ok (.invokestatic 100, 3) := by decide +kernel
theorem dX7_settle_55 : decode cX7_settle 55 = .ok (.ifCond .ne 7, 3) := by decide +kernel
theorem dX7_settle_58 : decode cX7_settle 58 = .ok (.iconst 1, 1) := by decide +kernel
theorem dX7_settle_59 : decode cX7_settle 59 = .ok (.goto 4, 3) := by decide +kernel
theorem dX7_settle_62 : decode cX7_settle 62 = .ok (.iconst 0, 1) := by decide +kernel
theorem dX7_settle_63 : decode cX7_settle 63 = .ok (.iconst 3, 1) := by decide +kernel
theorem dX7_settle_64 : decode cX7_settle 64 = .ok (.invokevirtual 206, 3) := by decide +kernel
theorem dX7_settle_67 : decode cX7_settle 67 = .ok (.ifCond .eq 5, 3) := by decide +kernel
theorem dX7_settle_70 : decode cX7_settle 70 = .ok (.iconst 0, 1) := by decide +kernel
theorem dX7_settle_71 : decode cX7_settle 71 = .ok (.ireturn, 1) := by decide +kernel
theorem dX7_settle_72 : decode cX7_settle 72 = .ok (.aload_n 0, 1) := by decide +kernel
theorem dX7_settle_73 : decode cX7_settle 73 = .ok (.iload_n 2, 1) := by decide +kernel
theorem dX7_settle_74 : decode cX7_settle 74 = .ok (.invokevirtual 268, 3) := by decide +kernel
theorem dX7_settle_77 : decode cX7_settle 77 = .ok (.istore 4, 2) := by decide +kernel
theorem dX7_settle_79 : decode cX7_settle 79 = .ok (.aload_n 0, 1) := by decide +kernel
theorem dX7_settle_80 : decode cX7_settle 80 = .ok (.iload_n 1, 1) := by decide +kernel
theorem dX7_settle_81 : decode cX7_settle 81 = .ok (.iload_n 2, 1) := by decide +kernel
theorem dX7_settle_82 : decode cX7_settle 82 = .ok (.invokevirtual 361, 3) := by decide +kernel
theorem dX7_settle_85 : decode cX7_settle 85 = .ok (.istore 5, 2) := by decide +kernel
theorem dX7_settle_87 : decode cX7_settle 87 = .ok (.iload 4, 2) := by decide +kernel
theorem dX7_settle_89 : decode cX7_settle 89 = .ok (.iconst (-1), 1) := by decide +kernel
theorem dX7_settle_90 : decode cX7_settle 90 = .ok (.if_icmp .eq 8, 3) := by decide +kernel
theorem dX7_settle_93 : decode cX7_settle 93 = .ok (.iload 5, 2) := by decide +kernel
theorem dX7_settle_95 : decode cX7_settle 95 = .ok (.ifCond .ne 5, 3) := by decide +kernel
theorem dX7_settle_98 : decode cX7_settle 98 = .ok (.iconst (-1), 1) := by decide +kernel
theorem dX7_settle_99 : decode cX7_settle 99 = .ok (.ireturn, 1) := by decide +kernel
theorem dX7_settle_100 : decode cX7_settle 100 = .ok (.iconst 1, 1) := by decide +kernel
theorem dX7_settle_101 : decode cX7_settle 101 = .ok (.istore 6, 2) := by decide +kernel
theorem dX7_settle_103 : decode cX7_settle 103 = .ok (.iload 6, 2) := by decide +kernel
theorem dX7_settle_105 : decode cX7_settle 105 = .ok (.sipush 200, 3) := by decide +kernel
theorem dX7_settle_108 : decode cX7_settle 108 = .ok (.if_icmp .gt 45, 3) := by decide +kernel
theorem dX7_settle_111 : decode cX7_settle 111 = .ok (.aload_n 0, 1) := by decide +kernel
theorem dX7_settle_112 : decode cX7_settle 112 = .ok (.getfield 64, 3) := by decide +kernel
theorem dX7_settle_115 : decode cX7_settle 115 = .ok (.iload 6, 2) := by decide +kernel
theorem dX7_settle_117 : decode cX7_settle 117 = .ok (.iconst 1, 1) := by decide +kernel
theorem dX7_settle_118 : decode cX7_settle 118 = .ok (.isub, 1) := by decide +kernel
theorem dX7_settle_119 : decode cX7_settle 119 = .ok (.iload 5, 2) := by decide +kernel
theorem dX7_settle_121 : decode cX7_settle 121 = .ok (.imul, 1) := by decide +kernel
theorem dX7_settle_122 : decode cX7_settle 122 = .ok (.aload_n 0, 1) := by decide +kernel
theorem dX7_settle_123 : decode cX7_settle 123 = .ok (.iload_n 1, 1) := by decide +kernel
theorem dX7_settle_124 : decode cX7_settle 124 = .ok (.invokevirtual 336, 3) := by decide +kernel
theorem dX7_settle_127 : decode cX7_settle 127 = .ok (.iadd, 1) := by decide +kernel
theorem dX7_settle_128 : decode cX7_settle 128 = .ok (.imul, 1) := by decide +kernel
theorem dX7_settle_129 : decode cX7_settle 129 = .ok (.aload_n 0, 1) := by decide +kernel
theorem dX7_settle_130 : decode cX7_settle 130 = .ok (.getfield 39, 3) := by decide +kernel
theorem dX7_settle_133 : decode cX7_settle 133 = .ok (.iload 4, 2) := by decide +kernel
theorem dX7_settle_135 : decode cX7_settle 135 = .ok (.iaload, 1) := by decide +kernel
theorem dX7_settle_136 : decode cX7_settle 136 = .ok (.iload_n 3, 1) := by decide +kernel
theorem dX7_settle_137 : decode cX7_settle 137 = .ok (.iadd, 1) := by decide +kernel
theorem dX7_settle_138 : decode cX7_settle 138 = .ok (.iload 5, 2) := by decide +kernel
theorem dX7_settle_140 : decode cX7_settle 140 = .ok (.imul, 1) := by decide +kernel
theorem dX7_settle_141 : decode cX7_settle 141 = .ok (.if_icmp .lt 6, 3) := by decide +kernel
theorem dX7_settle_144 : decode cX7_settle 144 = .ok (.iload 6, 2) := by decide +kernel
theorem dX7_settle_146 : decode cX7_settle 146 = .ok (.ireturn, 1) := by decide +kernel
theorem dX7_settle_147 : decode cX7_settle 147 = .ok (.iinc 6 1, 3) := by decide +kernel
theorem dX7_settle_150 : decode cX7_settle 150 = .ok (.goto (-47), 3) := by decide +kernel
theorem dX7_settle_153 : decode cX7_settle 153 = .ok (.iconst (-1), 1) := by decide +kernel
theorem dX7_settle_154 : decode cX7_settle 154 = .ok (.ireturn, 1) := by decide +kernel
noncomputable def B_X7_settle_103 (k103 : (Int32 × Int32 × Int32 × Int32 × Int32) → fS → Option (Int32 × fS)) : (Int32 × Int32 × Int32 × Int32 × Int32) → fS → Option (Int32 × fS) := fun ⟨a1, a3, a4, a5, a6⟩ S => bb ((200 : Int32) < a6) (some ((-1), S)) (iv (ge S 40 0 32) (fun x2 => iv (a6 - (1 : Int32)) (fun x3 => iv (x3 * a5) (fun x4 => bd (F_X7_weightsOf a1 S) (fun v5 S6 => iv (x4 + v5) (fun x8 => iv (x2 * x8) (fun x9 => gd (ib a4 24) (iv (ge S6 48 0 (a4 : Int32).toNatClampNeg) (fun x11 => iv (x11 + a3) (fun x12 => iv (x12 * a5) (fun x13 => bb (x9 < x13) (iv (a6 + Int32.ofInt 1) (fun x15 => k103 (a1, a3, a4, a5, x15) S6)) (some (a6, S6)))))))))))))
noncomputable def B_X7_settle_63 (a1 : Int32) (a2 : Int32) (a3 : Int32) (t0 : Int32) (S : fS) : Option (Int32 × fS) := bd (F_X7_bad t0 3 S) (fun v16 S17 => bb (v16 = (0 : Int32)) (bd (F_X7_topOf a2 S17) (fun v20 S21 => bd (F_X7_weightFor a1 a2 S21) (fun v23 S24 => bb (v20 = ((-1) : Int32)) (some ((-1), S24)) (bb (v23 = (0 : Int32)) (some ((-1), S24)) (lp (B_X7_settle_103 ) fuel (a1, a3, v20, v23, 1) S24))))) (some (0, S17)))
noncomputable def B_X7_settle_39 (a1 : Int32) (a2 : Int32) (a3 : Int32) (t0 : Int32) (S : fS) : Option (Int32 × fS) := bd (F_X7_bad t0 2 S) (fun v28 S29 => bb (v28 = (0 : Int32)) (bd (F_X7_in a3 0 9999 S29) (fun v32 S33 => bb (v32 = (0 : Int32)) (B_X7_settle_63  a1 a2 a3 1 S33) (B_X7_settle_63  a1 a2 a3 0 S33))) (some (0, S29)))
noncomputable def B_X7_settle_19 (a1 : Int32) (a2 : Int32) (a3 : Int32) (t0 : Int32) (S : fS) : Option (Int32 × fS) := bd (F_X7_bad t0 1 S) (fun v36 S37 => bb (v36 = (0 : Int32)) (bd (F_X7_isCell a2 S37) (fun v40 S41 => bb (v40 = (0 : Int32)) (B_X7_settle_39  a1 a2 a3 1 S41) (B_X7_settle_39  a1 a2 a3 0 S41))) (some (0, S37)))
noncomputable def F_X7_settle (p1 : Int32) (p2 : Int32) (p3 : Int32) (S0 : fS) : Option (Int32 × fS) := sv (pu S0 40 0 0 0) (fun S44 => bd (F_X7_isHand p1 S44) (fun v45 S46 => bb (v45 = (0 : Int32)) (B_X7_settle_19  p1 p2 p3 1 S46) (B_X7_settle_19  p1 p2 p3 0 S46)))
set_option maxHeartbeats 4000000 in
set_option maxRecDepth 100000 in
theorem c_X7_settle (l : Launch) (D : va_G) (K : Nat → ClassId) (b0 : Nat) (sa : sT) (sz : Nat) (L : List Nat) (f0 : Nat → va_E) (ad : Nat → Nat → Nat) (P : Nat → Nat → Prop) {n : Nat × Nat} (hP : ∀ a i : Nat, isn n a i → P a i) (S0 : fS) (hw : PW K ad P S0 L f0) (hn : S0.2.2.1 = n) (p1 : Int32) (p2 : Int32) (p3 : Int32) (v : Int32) (S1 : fS) (h : F_X7_settle p1 p2 p3 S0 = some (v, S1)) : Met l yX7_settle (.code yX7_settle cX7_settle 7 (some .int) :: gt) { frames := 3, cells := 0, slots := 0, locals := 67 } (va_Pc [.ref (ad 40 0), .int p1, .int p2, .int p3] (hPre D K b0 sa sz L f0)) (hQ D K b0 (fun v9 u9 => ∃ f2 : Nat → va_E, v9 = some (.int v) ∧ u9 = lU L f2 ∧ PW K ad P S1 L f2 ∧ S1.2.2.1 = n ∧ Kp ad P L f0 f2)) 0 0 (fun q => b0 ≤ q) := by
  refine t_of (own := RX7) (by decide) rfl ?_ (Nat.le_of_ble_eq_true rfl)
  intro p e s m below meth c ls C w hsz hr hlk hnm hl
  have hx := C.1
  have hb := C.2.1
  have hl : lv_has ls 7 [(0, .ref (ad 40 0)), (1, .int p1), (2, .int p2), (3, .int p3)] := hl
  have J103 : ∀ (fu : Nat) (a1 : Int32) (a3 : Int32) (a4 : Int32) (a5 : Int32) (a6 : Int32) (S : fS), lp (B_X7_settle_103 ) fu (a1, a3, a4, a5, a6) S = some (v, S1) → Gw D K b0 sa ad P n L f0 p l e { frames := 3, cells := 0, slots := 0, locals := 67 } s m [.ref (ad 40 0), .int p1, .int p2, .int p3].toArray below meth c 7 (MQ below (hQ D K b0 (fun v9 u9 => ∃ f2 : Nat → va_E, v9 = some (.int v) ∧ u9 = lU L f2 ∧ PW K ad P S1 L f2 ∧ S1.2.2.1 = n ∧ Kp ad P L f0 f2)) [.ref (ad 40 0), .int p1, .int p2, .int p3].toArray s 0 0 (fun q => b0 ≤ q)) 0 0 103 [(0, .ref (ad 40 0)), (1, .int a1), (3, .int a3), (4, .int a4), (5, .int a5), (6, .int a6)] [] S := by
    intro fu a1 a3 a4 a5 a6 S h
    refine lp_some (G := (fun q S => Gw D K b0 sa ad P n L f0 p l e { frames := 3, cells := 0, slots := 0, locals := 67 } s m [.ref (ad 40 0), .int p1, .int p2, .int p3].toArray below meth c 7 (MQ below (hQ D K b0 (fun v9 u9 => ∃ f2 : Nat → va_E, v9 = some (.int v) ∧ u9 = lU L f2 ∧ PW K ad P S1 L f2 ∧ S1.2.2.1 = n ∧ Kp ad P L f0 f2)) [.ref (ad 40 0), .int p1, .int p2, .int p3].toArray s 0 0 (fun q => b0 ≤ q)) 0 0 103 [(0, .ref (ad 40 0)), (1, .int q.1), (3, .int q.2.1), (4, .int q.2.2.1), (5, .int q.2.2.2.1), (6, .int q.2.2.2.2)] [] S)) (fun k103 hk103 q S h => ?_) fu (a1, a3, a4, a5, a6) S h
    obtain ⟨a1, a3, a4, a5, a6⟩ := q
    have hk103 : ∀ (a1 : Int32) (a3 : Int32) (a4 : Int32) (a5 : Int32) (a6 : Int32) (S : fS), k103 (a1, a3, a4, a5, a6) S = some (v, S1) → Gw D K b0 sa ad P n L f0 p l e { frames := 3, cells := 0, slots := 0, locals := 67 } s m [.ref (ad 40 0), .int p1, .int p2, .int p3].toArray below meth c 7 (MQ below (hQ D K b0 (fun v9 u9 => ∃ f2 : Nat → va_E, v9 = some (.int v) ∧ u9 = lU L f2 ∧ PW K ad P S1 L f2 ∧ S1.2.2.1 = n ∧ Kp ad P L f0 f2)) [.ref (ad 40 0), .int p1, .int p2, .int p3].toArray s 0 0 (fun q => b0 ≤ q)) 0 0 103 [(0, .ref (ad 40 0)), (1, .int a1), (3, .int a3), (4, .int a4), (5, .int a5), (6, .int a6)] [] S := fun a1 a3 a4 a5 a6 S h => hk103 (a1, a3, a4, a5, a6) S h
    dsimp only [B_X7_settle_103] at h
    intro f H locs w hw hn hk ls hl
    refine lv_iload hx hb dX7_settle_103 (lv_at hl 5 rfl) ?_
    refine lv_sipush (v := 200) hx hb dX7_settle_105 (by decide) ?_
    refine lv_icmp_gt (tgt := 153) hx hb dX7_settle_108 (by decide) (fun c1 => ?_) (fun c1 => ?_)
    · have h := bb_t h c1
      refine lv_iconst (v := (-1)) hx hb dX7_settle_153 (by decide) ?_
      exact t_iret C hr hlk w ⟨_, so_v h, rfl, so_w h hw, so_n h hn, hk⟩ (by decide) (by decide) dX7_settle_154
    · have h := bb_f h c1
      refine lv_aload_n hx hb dX7_settle_111 rfl (lv_at hl 0 rfl) ?_
      refine u_geti C w hw (hP _ _ (isn_f rfl rfl (by decide))) rfl (N := 57) rfl rfl cin_7 32 (by decide) rfl gw_1188 dX7_settle_112 ?_
      refine u_iv h (fun x2 h => ?_)
      refine lv_iload hx hb dX7_settle_115 (lv_at hl 5 rfl) ?_
      refine lv_iconst (v := 1) hx hb dX7_settle_117 (by decide) ?_
      refine lv_isub hx hb dX7_settle_118 ?_
      refine u_iv h (fun x3 h => ?_)
      refine lv_iload hx hb dX7_settle_119 (lv_at hl 4 rfl) ?_
      refine lv_imul hx hb dX7_settle_121 ?_
      refine u_iv h (fun x4 h => ?_)
      refine lv_aload_n hx hb dX7_settle_122 rfl (lv_at hl 0 rfl) ?_
      refine lv_iload_n hx hb dX7_settle_123 rfl (lv_at hl 1 rfl) ?_
      obtain ⟨v5, S6, h7, h⟩ := bd_some h
      refine u_callV (n := 1) C w hw (hP _ _ (isn_f rfl rfl (by decide))) rfl rfl rfl (c_X7_weightsOf l D K b0 sa _ L _ ad P hP S hw hn a1 v5 S6 h7) gw_1578 gw_1575 gw_1577 gs_59 gw_8 ⟨by decide, by decide, by decide +kernel⟩ rfl rfl ⟨by decide, by decide⟩ rfl hl.1 rfl (Nat.le_of_ble_eq_true rfl) dX7_settle_124 ⟨Nat.le_of_ble_eq_true rfl, Nat.le_of_ble_eq_true rfl⟩ (fun v9 u H locs hp w => ?_)
      obtain ⟨f2, rfl, rfl, hw, hn, hk1⟩ := hp
      have hk := hk.tr hk1
      generalize f2 = f at w hw hk
      refine lv_iadd hx hb dX7_settle_127 ?_
      refine u_iv h (fun x8 h => ?_)
      refine lv_imul hx hb dX7_settle_128 ?_
      refine u_iv h (fun x9 h => ?_)
      refine lv_aload_n hx hb dX7_settle_129 rfl (lv_at hl 0 rfl) ?_
      refine u_getr C w hw (hP _ _ (isn_f rfl rfl (by decide))) rfl (N := 57) rfl rfl cin_7 24 (by decide) (by decide) (a2 := 48) (i2 := 0) rfl gw_1180 dX7_settle_130 ?_
      refine lv_iload hx hb dX7_settle_133 (lv_at hl 3 rfl) ?_
      obtain ⟨g10, h⟩ := gd_some h
      refine u_iald C w hw (hP _ _ (isn_f rfl rfl (by decide))) rfl rfl (n := 24) rfl (vp_in_iff.mpr g10) dX7_settle_135 ?_
      refine u_iv h (fun x11 h => ?_)
      refine lv_iload_n hx hb dX7_settle_136 rfl (lv_at hl 2 rfl) ?_
      refine lv_iadd hx hb dX7_settle_137 ?_
      refine u_iv h (fun x12 h => ?_)
      refine lv_iload hx hb dX7_settle_138 (lv_at hl 4 rfl) ?_
      refine lv_imul hx hb dX7_settle_140 ?_
      refine u_iv h (fun x13 h => ?_)
      refine lv_icmp_lt (tgt := 147) hx hb dX7_settle_141 (by decide) (fun c14 => ?_) (fun c14 => ?_)
      · have h := bb_t h c14
        obtain ⟨x15, ex15, h⟩ := iv_some h
        refine lv_iinc (v := x15) (lv' := [(6, .int x15), (0, .ref (ad 40 0)), (1, .int a1), (3, .int a3), (4, .int a4), (5, .int a5)]) hx hb dX7_settle_147 hl (k := 5) rfl ex15.symm (by decide) rfl (fun ls hl => ?_)
        refine lv_goto (tgt := 103) hx hb dX7_settle_150 (by decide) ?_
        exact hk103 a1 a3 a4 a5 x15 S6 h f H locs w hw hn hk ls (lv_sub hl [1, 2, 3, 4, 5, 0] rfl)
      · have h := bb_f h c14
        refine lv_iload hx hb dX7_settle_144 (lv_at hl 5 rfl) ?_
        exact t_iret C hr hlk w ⟨_, so_v h, rfl, so_w h hw, so_n h hn, hk⟩ (by decide) (by decide) dX7_settle_146
  have J63 : ∀ (a1 : Int32) (a2 : Int32) (a3 : Int32) (t0 : Int32) (S : fS), B_X7_settle_63  a1 a2 a3 t0 S = some (v, S1) → Gw D K b0 sa ad P n L f0 p l e { frames := 3, cells := 0, slots := 0, locals := 67 } s m [.ref (ad 40 0), .int p1, .int p2, .int p3].toArray below meth c 7 (MQ below (hQ D K b0 (fun v9 u9 => ∃ f2 : Nat → va_E, v9 = some (.int v) ∧ u9 = lU L f2 ∧ PW K ad P S1 L f2 ∧ S1.2.2.1 = n ∧ Kp ad P L f0 f2)) [.ref (ad 40 0), .int p1, .int p2, .int p3].toArray s 0 0 (fun q => b0 ≤ q)) 0 0 63 [(0, .ref (ad 40 0)), (1, .int a1), (2, .int a2), (3, .int a3)] [.int t0, .ref (ad 40 0)] S := by
    intro a1 a2 a3 t0 S h
    dsimp only [B_X7_settle_63] at h
    intro f H locs w hw hn hk ls hl
    refine lv_iconst (v := 3) hx hb dX7_settle_63 (by decide) ?_
    obtain ⟨v16, S17, h18, h⟩ := bd_some h
    refine u_callV (n := 2) C w hw (hP _ _ (isn_f rfl rfl (by decide))) rfl rfl rfl (c_X7_bad l D K b0 sa _ L _ ad P hP S hw hn t0 3 v16 S17 h18) gw_1347 gw_1344 gw_1346 gs_22 gw_8 ⟨by decide, by decide, by decide +kernel⟩ rfl rfl ⟨by decide, by decide⟩ rfl hl.1 rfl (Nat.le_of_ble_eq_true rfl) dX7_settle_64 ⟨Nat.le_of_ble_eq_true rfl, Nat.le_of_ble_eq_true rfl⟩ (fun v9 u H locs hp w => ?_)
    obtain ⟨f2, rfl, rfl, hw, hn, hk1⟩ := hp
    have hk := hk.tr hk1
    generalize f2 = f at w hw hk
    refine lv_if_eq (tgt := 72) hx hb dX7_settle_67 (by decide) (fun c19 => ?_) (fun c19 => ?_)
    · have h := bb_t h c19
      refine lv_aload_n hx hb dX7_settle_72 rfl (lv_at hl 0 rfl) ?_
      refine lv_iload_n hx hb dX7_settle_73 rfl (lv_at hl 2 rfl) ?_
      obtain ⟨v20, S21, h22, h⟩ := bd_some h
      refine u_callV (n := 1) C w hw (hP _ _ (isn_f rfl rfl (by decide))) rfl rfl rfl (c_X7_topOf l D K b0 sa _ L _ ad P hP S17 hw hn a2 v20 S21 h22) gw_1499 gw_1496 gw_1498 gs_49 gw_8 ⟨by decide, by decide, by decide +kernel⟩ rfl rfl ⟨by decide, by decide⟩ rfl hl.1 rfl (Nat.le_of_ble_eq_true rfl) dX7_settle_74 ⟨Nat.le_of_ble_eq_true rfl, Nat.le_of_ble_eq_true rfl⟩ (fun v9 u H locs hp w => ?_)
      obtain ⟨f2, rfl, rfl, hw, hn, hk1⟩ := hp
      have hk := hk.tr hk1
      generalize f2 = f at w hw hk
      refine lv_istore (lv' := [(4, .int v20), (0, .ref (ad 40 0)), (1, .int a1), (2, .int a2), (3, .int a3)]) hx hb dX7_settle_77 hl (by decide) rfl (fun ls hl => ?_)
      refine lv_aload_n hx hb dX7_settle_79 rfl (lv_at hl 1 rfl) ?_
      refine lv_iload_n hx hb dX7_settle_80 rfl (lv_at hl 2 rfl) ?_
      refine lv_iload_n hx hb dX7_settle_81 rfl (lv_at hl 3 rfl) ?_
      obtain ⟨v23, S24, h25, h⟩ := bd_some h
      refine u_callV (n := 2) C w hw (hP _ _ (isn_f rfl rfl (by decide))) rfl rfl rfl (c_X7_weightFor l D K b0 sa _ L _ ad P hP S21 hw hn a1 a2 v23 S24 h25) gw_1653 gw_1650 gw_1652 gs_66 gw_8 ⟨by decide, by decide, by decide +kernel⟩ rfl rfl ⟨by decide, by decide⟩ rfl hl.1 rfl (Nat.le_of_ble_eq_true rfl) dX7_settle_82 ⟨Nat.le_of_ble_eq_true rfl, Nat.le_of_ble_eq_true rfl⟩ (fun v9 u H locs hp w => ?_)
      obtain ⟨f2, rfl, rfl, hw, hn, hk1⟩ := hp
      have hk := hk.tr hk1
      generalize f2 = f at w hw hk
      refine lv_istore (lv' := [(5, .int v23), (4, .int v20), (0, .ref (ad 40 0)), (1, .int a1), (2, .int a2), (3, .int a3)]) hx hb dX7_settle_85 hl (by decide) rfl (fun ls hl => ?_)
      refine lv_iload hx hb dX7_settle_87 (lv_at hl 1 rfl) ?_
      refine lv_iconst (v := (-1)) hx hb dX7_settle_89 (by decide) ?_
      refine lv_icmp_eq (tgt := 98) hx hb dX7_settle_90 (by decide) (fun c26 => ?_) (fun c26 => ?_)
      · have h := bb_t h c26
        refine lv_iconst (v := (-1)) hx hb dX7_settle_98 (by decide) ?_
        exact t_iret C hr hlk w ⟨_, so_v h, rfl, so_w h hw, so_n h hn, hk⟩ (by decide) (by decide) dX7_settle_99
      · have h := bb_f h c26
        refine lv_iload hx hb dX7_settle_93 (lv_at hl 0 rfl) ?_
        refine lv_if_ne (tgt := 100) hx hb dX7_settle_95 (by decide) (fun c27 => ?_) (fun c27 => ?_)
        · have h := bb_f h c27
          refine lv_iconst (v := 1) hx hb dX7_settle_100 (by decide) ?_
          refine lv_istore (lv' := [(6, .int 1), (5, .int v23), (4, .int v20), (0, .ref (ad 40 0)), (1, .int a1), (2, .int a2), (3, .int a3)]) hx hb dX7_settle_101 hl (by decide) rfl (fun ls hl => ?_)
          exact J103  fuel a1 a3 v20 v23 1 S24 h f H locs w hw hn hk ls (lv_sub hl [3, 4, 6, 2, 1, 0] rfl)
        · have h := bb_t h c27
          refine lv_iconst (v := (-1)) hx hb dX7_settle_98 (by decide) ?_
          exact t_iret C hr hlk w ⟨_, so_v h, rfl, so_w h hw, so_n h hn, hk⟩ (by decide) (by decide) dX7_settle_99
    · have h := bb_f h c19
      refine lv_iconst (v := 0) hx hb dX7_settle_70 (by decide) ?_
      exact t_iret C hr hlk w ⟨_, so_v h, rfl, so_w h hw, so_n h hn, hk⟩ (by decide) (by decide) dX7_settle_71
  have J39 : ∀ (a1 : Int32) (a2 : Int32) (a3 : Int32) (t0 : Int32) (S : fS), B_X7_settle_39  a1 a2 a3 t0 S = some (v, S1) → Gw D K b0 sa ad P n L f0 p l e { frames := 3, cells := 0, slots := 0, locals := 67 } s m [.ref (ad 40 0), .int p1, .int p2, .int p3].toArray below meth c 7 (MQ below (hQ D K b0 (fun v9 u9 => ∃ f2 : Nat → va_E, v9 = some (.int v) ∧ u9 = lU L f2 ∧ PW K ad P S1 L f2 ∧ S1.2.2.1 = n ∧ Kp ad P L f0 f2)) [.ref (ad 40 0), .int p1, .int p2, .int p3].toArray s 0 0 (fun q => b0 ≤ q)) 0 0 39 [(0, .ref (ad 40 0)), (1, .int a1), (2, .int a2), (3, .int a3)] [.int t0, .ref (ad 40 0)] S := by
    intro a1 a2 a3 t0 S h
    dsimp only [B_X7_settle_39] at h
    intro f H locs w hw hn hk ls hl
    refine lv_iconst (v := 2) hx hb dX7_settle_39 (by decide) ?_
    obtain ⟨v28, S29, h30, h⟩ := bd_some h
    refine u_callV (n := 2) C w hw (hP _ _ (isn_f rfl rfl (by decide))) rfl rfl rfl (c_X7_bad l D K b0 sa _ L _ ad P hP S hw hn t0 2 v28 S29 h30) gw_1347 gw_1344 gw_1346 gs_22 gw_8 ⟨by decide, by decide, by decide +kernel⟩ rfl rfl ⟨by decide, by decide⟩ rfl hl.1 rfl (Nat.le_of_ble_eq_true rfl) dX7_settle_40 ⟨Nat.le_of_ble_eq_true rfl, Nat.le_of_ble_eq_true rfl⟩ (fun v9 u H locs hp w => ?_)
    obtain ⟨f2, rfl, rfl, hw, hn, hk1⟩ := hp
    have hk := hk.tr hk1
    generalize f2 = f at w hw hk
    refine lv_if_ne (tgt := 70) hx hb dX7_settle_43 (by decide) (fun c31 => ?_) (fun c31 => ?_)
    · have h := bb_f h c31
      refine lv_iconst (v := 0) hx hb dX7_settle_70 (by decide) ?_
      exact t_iret C hr hlk w ⟨_, so_v h, rfl, so_w h hw, so_n h hn, hk⟩ (by decide) (by decide) dX7_settle_71
    · have h := bb_t h c31
      refine lv_aload_n hx hb dX7_settle_46 rfl (lv_at hl 0 rfl) ?_
      refine lv_iload_n hx hb dX7_settle_47 rfl (lv_at hl 3 rfl) ?_
      refine lv_iconst (v := 0) hx hb dX7_settle_48 (by decide) ?_
      refine lv_sipush (v := 9999) hx hb dX7_settle_49 (by decide) ?_
      obtain ⟨v32, S33, h34, h⟩ := bd_some h
      refine t_callS (n := 3) C w (c_X7_in l D K b0 sa _ L _ ad P hP S29 hw hn a3 0 9999 v32 S33 h34) gw_1343 gw_1341 gw_1342 gw_8 ⟨by decide, by decide, by decide +kernel⟩ rfl rfl ⟨by decide, by decide⟩ rfl hl.1 rfl (Nat.le_of_ble_eq_true rfl) dX7_settle_52 ⟨Nat.le_of_ble_eq_true rfl, Nat.le_of_ble_eq_true rfl⟩ (fun v9 u H locs hp w => ?_)
      obtain ⟨f2, rfl, rfl, hw, hn, hk1⟩ := hp
      have hk := hk.tr hk1
      generalize f2 = f at w hw hk
      refine lv_if_ne (tgt := 62) hx hb dX7_settle_55 (by decide) (fun c35 => ?_) (fun c35 => ?_)
      · have h := bb_f h c35
        refine lv_iconst (v := 0) hx hb dX7_settle_62 (by decide) ?_
        exact J63  a1 a2 a3 0 S33 h f H locs w hw hn hk ls (lv_sub hl [0, 1, 2, 3] rfl)
      · have h := bb_t h c35
        refine lv_iconst (v := 1) hx hb dX7_settle_58 (by decide) ?_
        refine lv_goto (tgt := 63) hx hb dX7_settle_59 (by decide) ?_
        exact J63  a1 a2 a3 1 S33 h f H locs w hw hn hk ls (lv_sub hl [0, 1, 2, 3] rfl)
  have J19 : ∀ (a1 : Int32) (a2 : Int32) (a3 : Int32) (t0 : Int32) (S : fS), B_X7_settle_19  a1 a2 a3 t0 S = some (v, S1) → Gw D K b0 sa ad P n L f0 p l e { frames := 3, cells := 0, slots := 0, locals := 67 } s m [.ref (ad 40 0), .int p1, .int p2, .int p3].toArray below meth c 7 (MQ below (hQ D K b0 (fun v9 u9 => ∃ f2 : Nat → va_E, v9 = some (.int v) ∧ u9 = lU L f2 ∧ PW K ad P S1 L f2 ∧ S1.2.2.1 = n ∧ Kp ad P L f0 f2)) [.ref (ad 40 0), .int p1, .int p2, .int p3].toArray s 0 0 (fun q => b0 ≤ q)) 0 0 19 [(0, .ref (ad 40 0)), (1, .int a1), (2, .int a2), (3, .int a3)] [.int t0, .ref (ad 40 0)] S := by
    intro a1 a2 a3 t0 S h
    dsimp only [B_X7_settle_19] at h
    intro f H locs w hw hn hk ls hl
    refine lv_iconst (v := 1) hx hb dX7_settle_19 (by decide) ?_
    obtain ⟨v36, S37, h38, h⟩ := bd_some h
    refine u_callV (n := 2) C w hw (hP _ _ (isn_f rfl rfl (by decide))) rfl rfl rfl (c_X7_bad l D K b0 sa _ L _ ad P hP S hw hn t0 1 v36 S37 h38) gw_1347 gw_1344 gw_1346 gs_22 gw_8 ⟨by decide, by decide, by decide +kernel⟩ rfl rfl ⟨by decide, by decide⟩ rfl hl.1 rfl (Nat.le_of_ble_eq_true rfl) dX7_settle_20 ⟨Nat.le_of_ble_eq_true rfl, Nat.le_of_ble_eq_true rfl⟩ (fun v9 u H locs hp w => ?_)
    obtain ⟨f2, rfl, rfl, hw, hn, hk1⟩ := hp
    have hk := hk.tr hk1
    generalize f2 = f at w hw hk
    refine lv_if_ne (tgt := 70) hx hb dX7_settle_23 (by decide) (fun c39 => ?_) (fun c39 => ?_)
    · have h := bb_f h c39
      refine lv_iconst (v := 0) hx hb dX7_settle_70 (by decide) ?_
      exact t_iret C hr hlk w ⟨_, so_v h, rfl, so_w h hw, so_n h hn, hk⟩ (by decide) (by decide) dX7_settle_71
    · have h := bb_t h c39
      refine lv_aload_n hx hb dX7_settle_26 rfl (lv_at hl 0 rfl) ?_
      refine lv_iload_n hx hb dX7_settle_27 rfl (lv_at hl 2 rfl) ?_
      obtain ⟨v40, S41, h42, h⟩ := bd_some h
      refine t_callS (n := 1) C w (c_X7_isCell l D K b0 sa _ L _ ad P hP S37 hw hn a2 v40 S41 h42) gw_1467 gw_1465 gw_1466 gw_8 ⟨by decide, by decide, by decide +kernel⟩ rfl rfl ⟨by decide, by decide⟩ rfl hl.1 rfl (Nat.le_of_ble_eq_true rfl) dX7_settle_28 ⟨Nat.le_of_ble_eq_true rfl, Nat.le_of_ble_eq_true rfl⟩ (fun v9 u H locs hp w => ?_)
      obtain ⟨f2, rfl, rfl, hw, hn, hk1⟩ := hp
      have hk := hk.tr hk1
      generalize f2 = f at w hw hk
      refine lv_if_ne (tgt := 38) hx hb dX7_settle_31 (by decide) (fun c43 => ?_) (fun c43 => ?_)
      · have h := bb_f h c43
        refine lv_iconst (v := 0) hx hb dX7_settle_38 (by decide) ?_
        exact J39  a1 a2 a3 0 S41 h f H locs w hw hn hk ls (lv_sub hl [0, 1, 2, 3] rfl)
      · have h := bb_t h c43
        refine lv_iconst (v := 1) hx hb dX7_settle_34 (by decide) ?_
        refine lv_goto (tgt := 39) hx hb dX7_settle_35 (by decide) ?_
        exact J39  a1 a2 a3 1 S41 h f H locs w hw hn hk ls (lv_sub hl [0, 1, 2, 3] rfl)
  dsimp only [F_X7_settle] at h
  obtain ⟨f, ef⟩ : ∃ z, z = f0 := ⟨_, rfl⟩
  rw [← ef] at w hw
  have hk : Kp ad P L f0 f := by rw [ef]; exact Kp.rf
  obtain ⟨H, eH⟩ : ∃ z, z = s.heap := ⟨_, rfl⟩
  obtain ⟨locs, el⟩ : ∃ z : List Loc, z = [] := ⟨_, rfl⟩
  rw [← eH, ← el] at w ⊢
  refine lv_aload_n hx hb dX7_settle_0 rfl (lv_at hl 0 rfl) ?_
  refine lv_iconst (v := 0) hx hb dX7_settle_1 (by decide) ?_
  refine u_puti C w hw (hP _ _ (isn_f rfl rfl (by decide))) rfl (N := 57) rfl rfl cin_7 tyX7 tyX7_ok nmX7 0 (by decide) rfl rfl rfl rfl gw_1156 dX7_settle_2 (fun f H locs w hw hk1 => ?_)
  have hk := hk.tr hk1
  refine u_sv h hw hn (fun S44 h hw hn => ?_)
  refine lv_aload_n hx hb dX7_settle_5 rfl (lv_at hl 0 rfl) ?_
  refine lv_aload_n hx hb dX7_settle_6 rfl (lv_at hl 0 rfl) ?_
  refine lv_iload_n hx hb dX7_settle_7 rfl (lv_at hl 1 rfl) ?_
  obtain ⟨v45, S46, h47, h⟩ := bd_some h
  refine u_callV (n := 1) C w hw (hP _ _ (isn_f rfl rfl (by decide))) rfl rfl rfl (c_X7_isHand l D K b0 sa _ L _ ad P hP S44 hw hn p1 v45 S46 h47) gw_1574 gw_1571 gw_1573 gs_58 gw_8 ⟨by decide, by decide, by decide +kernel⟩ rfl rfl ⟨by decide, by decide⟩ rfl hl.1 rfl (Nat.le_of_ble_eq_true rfl) dX7_settle_8 ⟨Nat.le_of_ble_eq_true rfl, Nat.le_of_ble_eq_true rfl⟩ (fun v9 u H locs hp w => ?_)
  obtain ⟨f2, rfl, rfl, hw, hn, hk1⟩ := hp
  have hk := hk.tr hk1
  generalize f2 = f at w hw hk
  refine lv_if_ne (tgt := 18) hx hb dX7_settle_11 (by decide) (fun c48 => ?_) (fun c48 => ?_)
  · have h := bb_f h c48
    refine lv_iconst (v := 0) hx hb dX7_settle_18 (by decide) ?_
    exact J19  p1 p2 p3 0 S46 h f H locs w hw hn hk ls (lv_sub hl [0, 1, 2, 3] rfl)
  · have h := bb_t h c48
    refine lv_iconst (v := 1) hx hb dX7_settle_14 (by decide) ?_
    refine lv_goto (tgt := 19) hx hb dX7_settle_15 (by decide) ?_
    exact J19  p1 p2 p3 1 S46 h f H locs w hw hn hk ls (lv_sub hl [0, 1, 2, 3] rfl)
theorem dX7_back_0 : decode cX7_back 0 = .ok (.aload_n 0, 1) := by decide +kernel
theorem dX7_back_1 : decode cX7_back 1 = .ok (.iconst 0, 1) := by decide +kernel
theorem dX7_back_2 : decode cX7_back 2 = .ok (.putfield 97, 3) := by decide +kernel
theorem dX7_back_5 : decode cX7_back 5 = .ok (.aload_n 0, 1) := by decide +kernel
theorem dX7_back_6 : decode cX7_back 6 = .ok (.aload_n 0, 1) := by decide +kernel
theorem dX7_back_7 : decode cX7_back 7 = .ok (.iload_n 1, 1) := by decide +kernel
theorem dX7_back_8 : decode cX7_back 8 = .ok (.invokevirtual 333, 3) := by decide +kernel
theorem dX7_back_11 : decode cX7_back 11 = .ok (.ifCond .ne 7, 3) := by decide +kernel
theorem dX7_back_14 : decode cX7_back 14 = .ok (.iconst 1, 1) := by decide +kernel
theorem dX7_back_15 : decode cX7_back 15 = .ok (.goto 4, 3) := by decide +kernel
theorem dX7_back_18 : decode cX7_back 18 = .ok (.iconst 0, 1) := by decide +kernel
theorem dX7_back_19 : decode cX7_back 19 = .ok (.iconst 1, 1) := by decide +kernel
theorem dX7_back_20 : decode cX7_back 20 = .ok (.invokevirtual 206, 3) := by decide +kernel
theorem dX7_back_23 : decode cX7_back 23 = .ok (.ifCond .ne 23, 3) := by decide +kernel
theorem dX7_back_26 : decode cX7_back 26 = .ok (.aload_n 0, 1) := by decide +kernel
theorem dX7_back_27 : decode cX7_back 27 = .ok (.iload_n 2, 1) := by decide +kernel
theorem dX7_back_28 : decode cX7_back 28 = .ok (.invokestatic 253, 3) := by decide +kernel
theorem dX7_back_31 : decode cX7_back 31 = .ok (.ifCond .ne 7, 3) := by decide +kernel
theorem dX7_back_34 : decode cX7_back 34 = .ok (.iconst 1, 1) := by decide +kernel
theorem dX7_back_35 : decode cX7_back 35 = .ok (.goto 4, 3) := by decide +kernel
theorem dX7_back_38 : decode cX7_back 38 = .ok (.iconst 0, 1) := by decide +kernel
theorem dX7_back_39 : decode cX7_back 39 = .ok (.iconst 2, 1) := by decide +kernel
theorem dX7_back_40 : decode cX7_back 40 = .ok (.invokevirtual 206, 3) := by decide +kernel
theorem dX7_back_43 : decode cX7_back 43 = .ok (.ifCond .eq 5, 3) := by decide +kernel
theorem dX7_back_46 : decode cX7_back 46 = .ok (.iconst 0, 1) := by decide +kernel
theorem dX7_back_47 : decode cX7_back 47 = .ok (.ireturn, 1) := by decide +kernel
theorem dX7_back_48 : decode cX7_back 48 = .ok (.aload_n 0, 1) := by decide +kernel
theorem dX7_back_49 : decode cX7_back 49 = .ok (.iload_n 2, 1) := by decide +kernel
theorem dX7_back_50 : decode cX7_back 50 = .ok (.invokevirtual 268, 3) := by decide +kernel
theorem dX7_back_53 : decode cX7_back 53 = .ok (.istore_n 3, 1) := by decide +kernel
theorem dX7_back_54 : decode cX7_back 54 = .ok (.aload_n 0, 1) := by decide +kernel
theorem dX7_back_55 : decode cX7_back 55 = .ok (.iload_n 1, 1) := by decide +kernel
theorem dX7_back_56 : decode cX7_back 56 = .ok (.iload_n 2, 1) := by decide +kernel
theorem dX7_back_57 : decode cX7_back 57 = .ok (.invokevirtual 361, 3) := by decide +kernel
theorem dX7_back_60 : decode cX7_back 60 = .ok (.istore 4, 2) := by decide +kernel
theorem dX7_back_62 : decode cX7_back 62 = .ok (.iload_n 3, 1) := by decide +kernel
theorem dX7_back_63 : decode cX7_back 63 = .ok (.iconst (-1), 1) := by decide +kernel
theorem dX7_back_64 : decode cX7_back 64 = .ok (.if_icmp .eq 8, 3) := by decide +kernel
theorem dX7_back_67 : decode cX7_back 67 = .ok (.iload 4, 2) := by decide +kernel
theorem dX7_back_69 : decode cX7_back 69 = .ok (.ifCond .ne 7, 3) := by decide +kernel
theorem dX7_back_72 : decode cX7_back 72 = .ok (.ldc_w 364, 3) := by decide +kernel
theorem dX7_back_75 : decode cX7_back 75 = .ok (.ireturn, 1) := by decide +kernel
theorem dX7_back_76 : decode cX7_back 76 = .ok (.aload_n 0, 1) := by decide +kernel
theorem dX7_back_77 : decode cX7_back 77 = .ok (.getfield 64, 3) := by decide +kernel
theorem dX7_back_80 : decode cX7_back 80 = .ok (.aload_n 0, 1) := by decide +kernel
theorem dX7_back_81 : decode cX7_back 81 = .ok (.iload_n 1, 1) := by decide +kernel
theorem dX7_back_82 : decode cX7_back 82 = .ok (.invokevirtual 336, 3) := by decide +kernel
theorem dX7_back_85 : decode cX7_back 85 = .ok (.imul, 1) := by decide +kernel
theorem dX7_back_86 : decode cX7_back 86 = .ok (.aload_n 0, 1) := by decide +kernel
theorem dX7_back_87 : decode cX7_back 87 = .ok (.getfield 39, 3) := by decide +kernel
theorem dX7_back_90 : decode cX7_back 90 = .ok (.iload_n 3, 1) := by decide +kernel
theorem dX7_back_91 : decode cX7_back 91 = .ok (.iaload, 1) := by decide +kernel
theorem dX7_back_92 : decode cX7_back 92 = .ok (.iload 4, 2) := by decide +kernel
theorem dX7_back_94 : decode cX7_back 94 = .ok (.imul, 1) := by decide +kernel
theorem dX7_back_95 : decode cX7_back 95 = .ok (.isub, 1) := by decide +kernel
theorem dX7_back_96 : decode cX7_back 96 = .ok (.istore 5, 2) := by decide +kernel
theorem dX7_back_98 : decode cX7_back 98 = .ok (.iload 5, 2) := by decide +kernel
theorem dX7_back_100 : decode cX7_back 100 = .ok (.ifCond .lt 11, 3) := by decide +kernel
theorem dX7_back_103 : decode cX7_back 103 = .ok (.iload 5, 2) := by decide +kernel
theorem dX7_back_105 : decode cX7_back 105 = .ok (.iload 4, 2) := by decide +kernel
theorem dX7_back_107 : decode cX7_back 107 = .ok (.idiv, 1) := by decide +kernel
theorem dX7_back_108 : decode cX7_back 108 = .ok (.goto 15, 3) := by decide +kernel
theorem dX7_back_111 : decode cX7_back 111 = .ok (.iload 5, 2) := by decide +kernel
theorem dX7_back_113 : decode cX7_back 113 = .ok (.ineg, 1) := by decide +kernel
theorem dX7_back_114 : decode cX7_back 114 = .ok (.iload 4, 2) := by decide +kernel
theorem dX7_back_116 : decode cX7_back 116 = .ok (.iadd, 1) := by decide +kernel
theorem dX7_back_117 : decode cX7_back 117 = .ok (.iconst 1, 1) := by decide +kernel
theorem dX7_back_118 : decode cX7_back 118 = .ok (.isub, 1) := by decide +kernel
theorem dX7_back_119 : decode cX7_back 119 = .ok (.iload 4, 2) := by decide +kernel
theorem dX7_back_121 : decode cX7_back 121 = .ok (.idiv, 1) := by decide +kernel
theorem dX7_back_122 : decode cX7_back 122 = .ok (.ineg, 1) := by decide +kernel
theorem dX7_back_123 : decode cX7_back 123 = .ok (.ireturn, 1) := by decide +kernel
noncomputable def B_X7_back_72 (S : fS) : Option (Int32 × fS) := some ((-2147483648), S)
noncomputable def B_X7_back_39 (a1 : Int32) (a2 : Int32) (t0 : Int32) (S : fS) : Option (Int32 × fS) := bd (F_X7_bad t0 2 S) (fun v1 S2 => bb (v1 = (0 : Int32)) (bd (F_X7_topOf a2 S2) (fun v5 S6 => bd (F_X7_weightFor a1 a2 S6) (fun v8 S9 => bb (v5 = ((-1) : Int32)) (B_X7_back_72   S9) (bb (v8 = (0 : Int32)) (B_X7_back_72   S9) (iv (ge S9 40 0 32) (fun x13 => bd (F_X7_weightsOf a1 S9) (fun v14 S15 => iv (x13 * v14) (fun x17 => gd (ib v5 24) (iv (ge S15 48 0 (v5 : Int32).toNatClampNeg) (fun x19 => iv (x19 * v8) (fun x20 => iv (x17 - x20) (fun x21 => bb (x21 < (0 : Int32)) (iv (-x21) (fun x23 => iv (x23 + v8) (fun x24 => iv (x24 - (1 : Int32)) (fun x25 => gd (¬ v8 = 0) (iv (x25 / v8) (fun x27 => iv (-x27) (fun x28 => some (x28, S15)))))))) (gd (¬ v8 = 0) (iv (x21 / v8) (fun x30 => some (x30, S15)))))))))))))))) (some (0, S2)))
noncomputable def B_X7_back_19 (a1 : Int32) (a2 : Int32) (t0 : Int32) (S : fS) : Option (Int32 × fS) := bd (F_X7_bad t0 1 S) (fun v31 S32 => bb (v31 = (0 : Int32)) (bd (F_X7_isCell a2 S32) (fun v35 S36 => bb (v35 = (0 : Int32)) (B_X7_back_39  a1 a2 1 S36) (B_X7_back_39  a1 a2 0 S36))) (some (0, S32)))
noncomputable def F_X7_back (p1 : Int32) (p2 : Int32) (S0 : fS) : Option (Int32 × fS) := sv (pu S0 40 0 0 0) (fun S39 => bd (F_X7_isHand p1 S39) (fun v40 S41 => bb (v40 = (0 : Int32)) (B_X7_back_19  p1 p2 1 S41) (B_X7_back_19  p1 p2 0 S41)))
set_option maxHeartbeats 4000000 in
set_option maxRecDepth 100000 in
theorem c_X7_back (l : Launch) (D : va_G) (K : Nat → ClassId) (b0 : Nat) (sa : sT) (sz : Nat) (L : List Nat) (f0 : Nat → va_E) (ad : Nat → Nat → Nat) (P : Nat → Nat → Prop) {n : Nat × Nat} (hP : ∀ a i : Nat, isn n a i → P a i) (S0 : fS) (hw : PW K ad P S0 L f0) (hn : S0.2.2.1 = n) (p1 : Int32) (p2 : Int32) (v : Int32) (S1 : fS) (h : F_X7_back p1 p2 S0 = some (v, S1)) : Met l yX7_back (.code yX7_back cX7_back 6 (some .int) :: gt) { frames := 3, cells := 0, slots := 0, locals := 67 } (va_Pc [.ref (ad 40 0), .int p1, .int p2] (hPre D K b0 sa sz L f0)) (hQ D K b0 (fun v9 u9 => ∃ f2 : Nat → va_E, v9 = some (.int v) ∧ u9 = lU L f2 ∧ PW K ad P S1 L f2 ∧ S1.2.2.1 = n ∧ Kp ad P L f0 f2)) 0 0 (fun q => b0 ≤ q) := by
  refine t_of (own := RX7) (by decide) rfl ?_ (Nat.le_of_ble_eq_true rfl)
  intro p e s m below meth c ls C w hsz hr hlk hnm hl
  have hx := C.1
  have hb := C.2.1
  have hl : lv_has ls 6 [(0, .ref (ad 40 0)), (1, .int p1), (2, .int p2)] := hl
  have J72 : ∀ (S : fS), B_X7_back_72   S = some (v, S1) → Gw D K b0 sa ad P n L f0 p l e { frames := 3, cells := 0, slots := 0, locals := 67 } s m [.ref (ad 40 0), .int p1, .int p2].toArray below meth c 6 (MQ below (hQ D K b0 (fun v9 u9 => ∃ f2 : Nat → va_E, v9 = some (.int v) ∧ u9 = lU L f2 ∧ PW K ad P S1 L f2 ∧ S1.2.2.1 = n ∧ Kp ad P L f0 f2)) [.ref (ad 40 0), .int p1, .int p2].toArray s 0 0 (fun q => b0 ≤ q)) 0 0 72 [] [] S := by
    intro S h
    dsimp only [B_X7_back_72] at h
    intro f H locs w hw hn hk ls hl
    refine lv_ldcw hx hb C.2.2.2.1 (C.2.2.2.2 _ gw_1658) dX7_back_72 ?_
    exact t_iret C hr hlk w ⟨_, so_v h, rfl, so_w h hw, so_n h hn, hk⟩ (by decide) (by decide) dX7_back_75
  have J39 : ∀ (a1 : Int32) (a2 : Int32) (t0 : Int32) (S : fS), B_X7_back_39  a1 a2 t0 S = some (v, S1) → Gw D K b0 sa ad P n L f0 p l e { frames := 3, cells := 0, slots := 0, locals := 67 } s m [.ref (ad 40 0), .int p1, .int p2].toArray below meth c 6 (MQ below (hQ D K b0 (fun v9 u9 => ∃ f2 : Nat → va_E, v9 = some (.int v) ∧ u9 = lU L f2 ∧ PW K ad P S1 L f2 ∧ S1.2.2.1 = n ∧ Kp ad P L f0 f2)) [.ref (ad 40 0), .int p1, .int p2].toArray s 0 0 (fun q => b0 ≤ q)) 0 0 39 [(0, .ref (ad 40 0)), (1, .int a1), (2, .int a2)] [.int t0, .ref (ad 40 0)] S := by
    intro a1 a2 t0 S h
    dsimp only [B_X7_back_39] at h
    intro f H locs w hw hn hk ls hl
    refine lv_iconst (v := 2) hx hb dX7_back_39 (by decide) ?_
    obtain ⟨v1, S2, h3, h⟩ := bd_some h
    refine u_callV (n := 2) C w hw (hP _ _ (isn_f rfl rfl (by decide))) rfl rfl rfl (c_X7_bad l D K b0 sa _ L _ ad P hP S hw hn t0 2 v1 S2 h3) gw_1347 gw_1344 gw_1346 gs_22 gw_8 ⟨by decide, by decide, by decide +kernel⟩ rfl rfl ⟨by decide, by decide⟩ rfl hl.1 rfl (Nat.le_of_ble_eq_true rfl) dX7_back_40 ⟨Nat.le_of_ble_eq_true rfl, Nat.le_of_ble_eq_true rfl⟩ (fun v9 u H locs hp w => ?_)
    obtain ⟨f2, rfl, rfl, hw, hn, hk1⟩ := hp
    have hk := hk.tr hk1
    generalize f2 = f at w hw hk
    refine lv_if_eq (tgt := 48) hx hb dX7_back_43 (by decide) (fun c4 => ?_) (fun c4 => ?_)
    · have h := bb_t h c4
      refine lv_aload_n hx hb dX7_back_48 rfl (lv_at hl 0 rfl) ?_
      refine lv_iload_n hx hb dX7_back_49 rfl (lv_at hl 2 rfl) ?_
      obtain ⟨v5, S6, h7, h⟩ := bd_some h
      refine u_callV (n := 1) C w hw (hP _ _ (isn_f rfl rfl (by decide))) rfl rfl rfl (c_X7_topOf l D K b0 sa _ L _ ad P hP S2 hw hn a2 v5 S6 h7) gw_1499 gw_1496 gw_1498 gs_49 gw_8 ⟨by decide, by decide, by decide +kernel⟩ rfl rfl ⟨by decide, by decide⟩ rfl hl.1 rfl (Nat.le_of_ble_eq_true rfl) dX7_back_50 ⟨Nat.le_of_ble_eq_true rfl, Nat.le_of_ble_eq_true rfl⟩ (fun v9 u H locs hp w => ?_)
      obtain ⟨f2, rfl, rfl, hw, hn, hk1⟩ := hp
      have hk := hk.tr hk1
      generalize f2 = f at w hw hk
      refine lv_istore_n (lv' := [(3, .int v5), (0, .ref (ad 40 0)), (1, .int a1), (2, .int a2)]) hx hb dX7_back_53 rfl hl (by decide) rfl (fun ls hl => ?_)
      refine lv_aload_n hx hb dX7_back_54 rfl (lv_at hl 1 rfl) ?_
      refine lv_iload_n hx hb dX7_back_55 rfl (lv_at hl 2 rfl) ?_
      refine lv_iload_n hx hb dX7_back_56 rfl (lv_at hl 3 rfl) ?_
      obtain ⟨v8, S9, h10, h⟩ := bd_some h
      refine u_callV (n := 2) C w hw (hP _ _ (isn_f rfl rfl (by decide))) rfl rfl rfl (c_X7_weightFor l D K b0 sa _ L _ ad P hP S6 hw hn a1 a2 v8 S9 h10) gw_1653 gw_1650 gw_1652 gs_66 gw_8 ⟨by decide, by decide, by decide +kernel⟩ rfl rfl ⟨by decide, by decide⟩ rfl hl.1 rfl (Nat.le_of_ble_eq_true rfl) dX7_back_57 ⟨Nat.le_of_ble_eq_true rfl, Nat.le_of_ble_eq_true rfl⟩ (fun v9 u H locs hp w => ?_)
      obtain ⟨f2, rfl, rfl, hw, hn, hk1⟩ := hp
      have hk := hk.tr hk1
      generalize f2 = f at w hw hk
      refine lv_istore (lv' := [(4, .int v8), (3, .int v5), (0, .ref (ad 40 0)), (1, .int a1), (2, .int a2)]) hx hb dX7_back_60 hl (by decide) rfl (fun ls hl => ?_)
      refine lv_iload_n hx hb dX7_back_62 rfl (lv_at hl 1 rfl) ?_
      refine lv_iconst (v := (-1)) hx hb dX7_back_63 (by decide) ?_
      refine lv_icmp_eq (tgt := 72) hx hb dX7_back_64 (by decide) (fun c11 => ?_) (fun c11 => ?_)
      · have h := bb_t h c11
        exact J72   S9 h f H locs w hw hn hk ls (lv_sub hl [] rfl)
      · have h := bb_f h c11
        refine lv_iload hx hb dX7_back_67 (lv_at hl 0 rfl) ?_
        refine lv_if_ne (tgt := 76) hx hb dX7_back_69 (by decide) (fun c12 => ?_) (fun c12 => ?_)
        · have h := bb_f h c12
          refine lv_aload_n hx hb dX7_back_76 rfl (lv_at hl 2 rfl) ?_
          refine u_geti C w hw (hP _ _ (isn_f rfl rfl (by decide))) rfl (N := 57) rfl rfl cin_7 32 (by decide) rfl gw_1188 dX7_back_77 ?_
          refine u_iv h (fun x13 h => ?_)
          refine lv_aload_n hx hb dX7_back_80 rfl (lv_at hl 2 rfl) ?_
          refine lv_iload_n hx hb dX7_back_81 rfl (lv_at hl 3 rfl) ?_
          obtain ⟨v14, S15, h16, h⟩ := bd_some h
          refine u_callV (n := 1) C w hw (hP _ _ (isn_f rfl rfl (by decide))) rfl rfl rfl (c_X7_weightsOf l D K b0 sa _ L _ ad P hP S9 hw hn a1 v14 S15 h16) gw_1578 gw_1575 gw_1577 gs_59 gw_8 ⟨by decide, by decide, by decide +kernel⟩ rfl rfl ⟨by decide, by decide⟩ rfl hl.1 rfl (Nat.le_of_ble_eq_true rfl) dX7_back_82 ⟨Nat.le_of_ble_eq_true rfl, Nat.le_of_ble_eq_true rfl⟩ (fun v9 u H locs hp w => ?_)
          obtain ⟨f2, rfl, rfl, hw, hn, hk1⟩ := hp
          have hk := hk.tr hk1
          generalize f2 = f at w hw hk
          refine lv_imul hx hb dX7_back_85 ?_
          refine u_iv h (fun x17 h => ?_)
          refine lv_aload_n hx hb dX7_back_86 rfl (lv_at hl 2 rfl) ?_
          refine u_getr C w hw (hP _ _ (isn_f rfl rfl (by decide))) rfl (N := 57) rfl rfl cin_7 24 (by decide) (by decide) (a2 := 48) (i2 := 0) rfl gw_1180 dX7_back_87 ?_
          refine lv_iload_n hx hb dX7_back_90 rfl (lv_at hl 1 rfl) ?_
          obtain ⟨g18, h⟩ := gd_some h
          refine u_iald C w hw (hP _ _ (isn_f rfl rfl (by decide))) rfl rfl (n := 24) rfl (vp_in_iff.mpr g18) dX7_back_91 ?_
          refine u_iv h (fun x19 h => ?_)
          refine lv_iload hx hb dX7_back_92 (lv_at hl 0 rfl) ?_
          refine lv_imul hx hb dX7_back_94 ?_
          refine u_iv h (fun x20 h => ?_)
          refine lv_isub hx hb dX7_back_95 ?_
          refine u_iv h (fun x21 h => ?_)
          refine lv_istore (lv' := [(5, .int x21), (4, .int v8), (3, .int v5), (0, .ref (ad 40 0)), (1, .int a1), (2, .int a2)]) hx hb dX7_back_96 hl (by decide) rfl (fun ls hl => ?_)
          refine lv_iload hx hb dX7_back_98 (lv_at hl 0 rfl) ?_
          refine lv_if_lt (tgt := 111) hx hb dX7_back_100 (by decide) (fun c22 => ?_) (fun c22 => ?_)
          · have h := bb_t h c22
            refine lv_iload hx hb dX7_back_111 (lv_at hl 0 rfl) ?_
            refine lv_ineg hx hb dX7_back_113 ?_
            refine u_iv h (fun x23 h => ?_)
            refine lv_iload hx hb dX7_back_114 (lv_at hl 1 rfl) ?_
            refine lv_iadd hx hb dX7_back_116 ?_
            refine u_iv h (fun x24 h => ?_)
            refine lv_iconst (v := 1) hx hb dX7_back_117 (by decide) ?_
            refine lv_isub hx hb dX7_back_118 ?_
            refine u_iv h (fun x25 h => ?_)
            refine lv_iload hx hb dX7_back_119 (lv_at hl 1 rfl) ?_
            obtain ⟨g26, h⟩ := gd_some h
            refine lv_idiv hx hb dX7_back_121 g26 ?_
            refine u_iv h (fun x27 h => ?_)
            refine lv_ineg hx hb dX7_back_122 ?_
            refine u_iv h (fun x28 h => ?_)
            exact t_iret C hr hlk w ⟨_, so_v h, rfl, so_w h hw, so_n h hn, hk⟩ (by decide) (by decide) dX7_back_123
          · have h := bb_f h c22
            refine lv_iload hx hb dX7_back_103 (lv_at hl 0 rfl) ?_
            refine lv_iload hx hb dX7_back_105 (lv_at hl 1 rfl) ?_
            obtain ⟨g29, h⟩ := gd_some h
            refine lv_idiv hx hb dX7_back_107 g29 ?_
            refine u_iv h (fun x30 h => ?_)
            refine lv_goto (tgt := 123) hx hb dX7_back_108 (by decide) ?_
            exact t_iret C hr hlk w ⟨_, so_v h, rfl, so_w h hw, so_n h hn, hk⟩ (by decide) (by decide) dX7_back_123
        · have h := bb_t h c12
          exact J72   S9 h f H locs w hw hn hk ls (lv_sub hl [] rfl)
    · have h := bb_f h c4
      refine lv_iconst (v := 0) hx hb dX7_back_46 (by decide) ?_
      exact t_iret C hr hlk w ⟨_, so_v h, rfl, so_w h hw, so_n h hn, hk⟩ (by decide) (by decide) dX7_back_47
  have J19 : ∀ (a1 : Int32) (a2 : Int32) (t0 : Int32) (S : fS), B_X7_back_19  a1 a2 t0 S = some (v, S1) → Gw D K b0 sa ad P n L f0 p l e { frames := 3, cells := 0, slots := 0, locals := 67 } s m [.ref (ad 40 0), .int p1, .int p2].toArray below meth c 6 (MQ below (hQ D K b0 (fun v9 u9 => ∃ f2 : Nat → va_E, v9 = some (.int v) ∧ u9 = lU L f2 ∧ PW K ad P S1 L f2 ∧ S1.2.2.1 = n ∧ Kp ad P L f0 f2)) [.ref (ad 40 0), .int p1, .int p2].toArray s 0 0 (fun q => b0 ≤ q)) 0 0 19 [(0, .ref (ad 40 0)), (1, .int a1), (2, .int a2)] [.int t0, .ref (ad 40 0)] S := by
    intro a1 a2 t0 S h
    dsimp only [B_X7_back_19] at h
    intro f H locs w hw hn hk ls hl
    refine lv_iconst (v := 1) hx hb dX7_back_19 (by decide) ?_
    obtain ⟨v31, S32, h33, h⟩ := bd_some h
    refine u_callV (n := 2) C w hw (hP _ _ (isn_f rfl rfl (by decide))) rfl rfl rfl (c_X7_bad l D K b0 sa _ L _ ad P hP S hw hn t0 1 v31 S32 h33) gw_1347 gw_1344 gw_1346 gs_22 gw_8 ⟨by decide, by decide, by decide +kernel⟩ rfl rfl ⟨by decide, by decide⟩ rfl hl.1 rfl (Nat.le_of_ble_eq_true rfl) dX7_back_20 ⟨Nat.le_of_ble_eq_true rfl, Nat.le_of_ble_eq_true rfl⟩ (fun v9 u H locs hp w => ?_)
    obtain ⟨f2, rfl, rfl, hw, hn, hk1⟩ := hp
    have hk := hk.tr hk1
    generalize f2 = f at w hw hk
    refine lv_if_ne (tgt := 46) hx hb dX7_back_23 (by decide) (fun c34 => ?_) (fun c34 => ?_)
    · have h := bb_f h c34
      refine lv_iconst (v := 0) hx hb dX7_back_46 (by decide) ?_
      exact t_iret C hr hlk w ⟨_, so_v h, rfl, so_w h hw, so_n h hn, hk⟩ (by decide) (by decide) dX7_back_47
    · have h := bb_t h c34
      refine lv_aload_n hx hb dX7_back_26 rfl (lv_at hl 0 rfl) ?_
      refine lv_iload_n hx hb dX7_back_27 rfl (lv_at hl 2 rfl) ?_
      obtain ⟨v35, S36, h37, h⟩ := bd_some h
      refine t_callS (n := 1) C w (c_X7_isCell l D K b0 sa _ L _ ad P hP S32 hw hn a2 v35 S36 h37) gw_1467 gw_1465 gw_1466 gw_8 ⟨by decide, by decide, by decide +kernel⟩ rfl rfl ⟨by decide, by decide⟩ rfl hl.1 rfl (Nat.le_of_ble_eq_true rfl) dX7_back_28 ⟨Nat.le_of_ble_eq_true rfl, Nat.le_of_ble_eq_true rfl⟩ (fun v9 u H locs hp w => ?_)
      obtain ⟨f2, rfl, rfl, hw, hn, hk1⟩ := hp
      have hk := hk.tr hk1
      generalize f2 = f at w hw hk
      refine lv_if_ne (tgt := 38) hx hb dX7_back_31 (by decide) (fun c38 => ?_) (fun c38 => ?_)
      · have h := bb_f h c38
        refine lv_iconst (v := 0) hx hb dX7_back_38 (by decide) ?_
        exact J39  a1 a2 0 S36 h f H locs w hw hn hk ls (lv_sub hl [0, 1, 2] rfl)
      · have h := bb_t h c38
        refine lv_iconst (v := 1) hx hb dX7_back_34 (by decide) ?_
        refine lv_goto (tgt := 39) hx hb dX7_back_35 (by decide) ?_
        exact J39  a1 a2 1 S36 h f H locs w hw hn hk ls (lv_sub hl [0, 1, 2] rfl)
  dsimp only [F_X7_back] at h
  obtain ⟨f, ef⟩ : ∃ z, z = f0 := ⟨_, rfl⟩
  rw [← ef] at w hw
  have hk : Kp ad P L f0 f := by rw [ef]; exact Kp.rf
  obtain ⟨H, eH⟩ : ∃ z, z = s.heap := ⟨_, rfl⟩
  obtain ⟨locs, el⟩ : ∃ z : List Loc, z = [] := ⟨_, rfl⟩
  rw [← eH, ← el] at w ⊢
  refine lv_aload_n hx hb dX7_back_0 rfl (lv_at hl 0 rfl) ?_
  refine lv_iconst (v := 0) hx hb dX7_back_1 (by decide) ?_
  refine u_puti C w hw (hP _ _ (isn_f rfl rfl (by decide))) rfl (N := 57) rfl rfl cin_7 tyX7 tyX7_ok nmX7 0 (by decide) rfl rfl rfl rfl gw_1156 dX7_back_2 (fun f H locs w hw hk1 => ?_)
  have hk := hk.tr hk1
  refine u_sv h hw hn (fun S39 h hw hn => ?_)
  refine lv_aload_n hx hb dX7_back_5 rfl (lv_at hl 0 rfl) ?_
  refine lv_aload_n hx hb dX7_back_6 rfl (lv_at hl 0 rfl) ?_
  refine lv_iload_n hx hb dX7_back_7 rfl (lv_at hl 1 rfl) ?_
  obtain ⟨v40, S41, h42, h⟩ := bd_some h
  refine u_callV (n := 1) C w hw (hP _ _ (isn_f rfl rfl (by decide))) rfl rfl rfl (c_X7_isHand l D K b0 sa _ L _ ad P hP S39 hw hn p1 v40 S41 h42) gw_1574 gw_1571 gw_1573 gs_58 gw_8 ⟨by decide, by decide, by decide +kernel⟩ rfl rfl ⟨by decide, by decide⟩ rfl hl.1 rfl (Nat.le_of_ble_eq_true rfl) dX7_back_8 ⟨Nat.le_of_ble_eq_true rfl, Nat.le_of_ble_eq_true rfl⟩ (fun v9 u H locs hp w => ?_)
  obtain ⟨f2, rfl, rfl, hw, hn, hk1⟩ := hp
  have hk := hk.tr hk1
  generalize f2 = f at w hw hk
  refine lv_if_ne (tgt := 18) hx hb dX7_back_11 (by decide) (fun c43 => ?_) (fun c43 => ?_)
  · have h := bb_f h c43
    refine lv_iconst (v := 0) hx hb dX7_back_18 (by decide) ?_
    exact J19  p1 p2 0 S41 h f H locs w hw hn hk ls (lv_sub hl [0, 1, 2] rfl)
  · have h := bb_t h c43
    refine lv_iconst (v := 1) hx hb dX7_back_14 (by decide) ?_
    refine lv_goto (tgt := 19) hx hb dX7_back_15 (by decide) ?_
    exact J19  p1 p2 1 S41 h f H locs w hw hn hk ls (lv_sub hl [0, 1, 2] rfl)
theorem dX7_cut_0 : decode cX7_cut 0 = .ok (.aload_n 0, 1) := by decide +kernel
theorem dX7_cut_1 : decode cX7_cut 1 = .ok (.iconst 0, 1) := by decide +kernel
theorem dX7_cut_2 : decode cX7_cut 2 = .ok (.putfield 97, 3) := by decide +kernel
theorem dX7_cut_5 : decode cX7_cut 5 = .ok (.aload_n 0, 1) := by decide +kernel
theorem dX7_cut_6 : decode cX7_cut 6 = .ok (.aload_n 0, 1) := by decide +kernel
theorem dX7_cut_7 : decode cX7_cut 7 = .ok (.iload_n 1, 1) := by decide +kernel
theorem dX7_cut_8 : decode cX7_cut 8 = .ok (.invokevirtual 333, 3) := by decide +kernel
theorem dX7_cut_11 : decode cX7_cut 11 = .ok (.ifCond .ne 7, 3) := by decide +kernel
theorem dX7_cut_14 : decode cX7_cut 14 = .ok (.iconst 1, 1) := by decide +kernel
theorem dX7_cut_15 : decode cX7_cut 15 = .ok (.goto 4, 3) := by decide +kernel
theorem dX7_cut_18 : decode cX7_cut 18 = .ok (.iconst 0, 1) := by decide +kernel
theorem dX7_cut_19 : decode cX7_cut 19 = .ok (.iconst 1, 1) := by decide +kernel
theorem dX7_cut_20 : decode cX7_cut 20 = .ok (.invokevirtual 206, 3) := by decide +kernel
theorem dX7_cut_23 : decode cX7_cut 23 = .ok (.ifCond .ne 59, 3) := by decide +kernel
theorem dX7_cut_26 : decode cX7_cut 26 = .ok (.aload_n 0, 1) := by decide +kernel
theorem dX7_cut_27 : decode cX7_cut 27 = .ok (.iload_n 2, 1) := by decide +kernel
theorem dX7_cut_28 : decode cX7_cut 28 = .ok (.iconst 0, 1) := by decide +kernel
theorem dX7_cut_29 : decode cX7_cut 29 = .ok (.bipush 99, 2) := by decide +kernel
theorem dX7_cut_31 : decode cX7_cut 31 = .ok (.invokestatic 100, 3) := by decide +kernel
theorem dX7_cut_34 : decode cX7_cut 34 = .ok (.ifCond .eq 36, 3) := by decide +kernel
theorem dX7_cut_37 : decode cX7_cut 37 = .ok (.iload_n 3, 1) := by decide +kernel
theorem dX7_cut_38 : decode cX7_cut 38 = .ok (.iconst 0, 1) := by decide +kernel
theorem dX7_cut_39 : decode cX7_cut 39 = .ok (.bipush 99, 2) := by decide +kernel
theorem dX7_cut_41 : decode cX7_cut 41 = .ok (.invokestatic 100, 3) := by decide +kernel
theorem dX7_cut_44 : decode cX7_cut 44 = .ok (.ifCond .eq 26, 3) := by decide +kernel
theorem dX7_cut_47 : decode cX7_cut 47 = .ok (.iload 4, 2) := by decide +kernel
theorem dX7_cut_49 : decode cX7_cut 49 = .ok (.iconst 0, 1) := by decide +kernel
theorem dX7_cut_50 : decode cX7_cut 50 = .ok (.bipush 9, 2) := by decide +kernel
theorem dX7_cut_52 : decode cX7_cut 52 = .ok (.invokestatic 100, 3) := by decide +kernel
theorem dX7_cut_55 : decode cX7_cut 55 = .ok (.ifCond .eq 15, 3) := by decide +kernel
theorem dX7_cut_58 : decode cX7_cut 58 = .ok (.iload 5, 2) := by decide +kernel
theorem dX7_cut_60 : decode cX7_cut 60 = .ok (.iconst 0, 1) := by decide +kernel
theorem dX7_cut_61 : decode cX7_cut 61 = .ok (.sipush 999, 3) := by decide +kernel
theorem dX7_cut_64 : decode cX7_cut 64 = .ok (.invokestatic 100, 3) := by decide +kernel
theorem dX7_cut_67 : decode cX7_cut 67 = .ok (.ifCond .ne 7, 3) := by decide +kernel
theorem dX7_cut_70 : decode cX7_cut 70 = .ok (.iconst 1, 1) := by decide +kernel
theorem dX7_cut_71 : decode cX7_cut 71 = .ok (.goto 4, 3) := by decide +kernel
theorem dX7_cut_74 : decode cX7_cut 74 = .ok (.iconst 0, 1) := by decide +kernel
theorem dX7_cut_75 : decode cX7_cut 75 = .ok (.iconst 2, 1) := by decide +kernel
theorem dX7_cut_76 : decode cX7_cut 76 = .ok (.invokevirtual 206, 3) := by decide +kernel
theorem dX7_cut_79 : decode cX7_cut 79 = .ok (.ifCond .eq 5, 3) := by decide +kernel
theorem dX7_cut_82 : decode cX7_cut 82 = .ok (.iconst 0, 1) := by decide +kernel
theorem dX7_cut_83 : decode cX7_cut 83 = .ok (.ireturn, 1) := by decide +kernel
theorem dX7_cut_84 : decode cX7_cut 84 = .ok (.iconst 0, 1) := by decide +kernel
theorem dX7_cut_85 : decode cX7_cut 85 = .ok (.istore 6, 2) := by decide +kernel
theorem dX7_cut_87 : decode cX7_cut 87 = .ok (.aload_n 0, 1) := by decide +kernel
theorem dX7_cut_88 : decode cX7_cut 88 = .ok (.getfield 225, 3) := by decide +kernel
theorem dX7_cut_91 : decode cX7_cut 91 = .ok (.iconst 1, 1) := by decide +kernel
theorem dX7_cut_92 : decode cX7_cut 92 = .ok (.iadd, 1) := by decide +kernel
theorem dX7_cut_93 : decode cX7_cut 93 = .ok (.iload 5, 2) := by decide +kernel
theorem dX7_cut_95 : decode cX7_cut 95 = .ok (.if_icmp .lt 7, 3) := by decide +kernel
theorem dX7_cut_98 : decode cX7_cut 98 = .ok (.iconst 0, 1) := by decide +kernel
theorem dX7_cut_99 : decode cX7_cut 99 = .ok (.goto 5, 3) := by decide +kernel
theorem dX7_cut_102 : decode cX7_cut 102 = .ok (.iload 4, 2) := by decide +kernel
theorem dX7_cut_104 : decode cX7_cut 104 = .ok (.istore 7, 2) := by decide +kernel
theorem dX7_cut_106 : decode cX7_cut 106 = .ok (.iconst 0, 1) := by decide +kernel
theorem dX7_cut_107 : decode cX7_cut 107 = .ok (.istore 8, 2) := by decide +kernel
theorem dX7_cut_109 : decode cX7_cut 109 = .ok (.iload 8, 2) := by decide +kernel
theorem dX7_cut_111 : decode cX7_cut 111 = .ok (.bipush 9, 2) := by decide +kernel
theorem dX7_cut_113 : decode cX7_cut 113 = .ok (.if_icmp .ge 48, 3) := by decide +kernel
theorem dX7_cut_116 : decode cX7_cut 116 = .ok (.iload 6, 2) := by decide +kernel
theorem dX7_cut_118 : decode cX7_cut 118 = .ok (.iload_n 2, 1) := by decide +kernel
theorem dX7_cut_119 : decode cX7_cut 119 = .ok (.iload 8, 2) := by decide +kernel
theorem dX7_cut_121 : decode cX7_cut 121 = .ok (.iconst 3, 1) := by decide +kernel
theorem dX7_cut_122 : decode cX7_cut 122 = .ok (.irem, 1) := by decide +kernel
theorem dX7_cut_123 : decode cX7_cut 123 = .ok (.iadd, 1) := by decide +kernel
theorem dX7_cut_124 : decode cX7_cut 124 = .ok (.iconst 1, 1) := by decide +kernel
theorem dX7_cut_125 : decode cX7_cut 125 = .ok (.isub, 1) := by decide +kernel
theorem dX7_cut_126 : decode cX7_cut 126 = .ok (.iload 7, 2) := by decide +kernel
theorem dX7_cut_128 : decode cX7_cut 128 = .ok (.iadd, 1) := by decide +kernel
theorem dX7_cut_129 : decode cX7_cut 129 = .ok (.bipush 100, 2) := by decide +kernel
theorem dX7_cut_131 : decode cX7_cut 131 = .ok (.iadd, 1) := by decide +kernel
theorem dX7_cut_132 : decode cX7_cut 132 = .ok (.bipush 100, 2) := by decide +kernel
theorem dX7_cut_134 : decode cX7_cut 134 = .ok (.irem, 1) := by decide +kernel
theorem dX7_cut_135 : decode cX7_cut 135 = .ok (.iload_n 3, 1) := by decide +kernel
theorem dX7_cut_136 : decode cX7_cut 136 = .ok (.if_icmp .ne 15, 3) := by decide +kernel
theorem dX7_cut_139 : decode cX7_cut 139 = .ok (.aload_n 0, 1) := by decide +kernel
theorem dX7_cut_140 : decode cX7_cut 140 = .ok (.getfield 76, 3) := by decide +kernel
theorem dX7_cut_143 : decode cX7_cut 143 = .ok (.iload_n 1, 1) := by decide +kernel
theorem dX7_cut_144 : decode cX7_cut 144 = .ok (.aaload, 1) := by decide +kernel
theorem dX7_cut_145 : decode cX7_cut 145 = .ok (.iload 8, 2) := by decide +kernel
theorem dX7_cut_147 : decode cX7_cut 147 = .ok (.iaload, 1) := by decide +kernel
theorem dX7_cut_148 : decode cX7_cut 148 = .ok (.goto 4, 3) := by decide +kernel
theorem dX7_cut_151 : decode cX7_cut 151 = .ok (.iconst 0, 1) := by decide +kernel
theorem dX7_cut_152 : decode cX7_cut 152 = .ok (.iadd, 1) := by decide +kernel
theorem dX7_cut_153 : decode cX7_cut 153 = .ok (.istore 6, 2) := by decide +kernel
theorem dX7_cut_155 : decode cX7_cut 155 = .ok (.iinc 8 1, 3) := by decide +kernel
theorem dX7_cut_158 : decode cX7_cut 158 = .ok (.goto (-49), 3) := by decide +kernel
theorem dX7_cut_161 : decode cX7_cut 161 = .ok (.iload 6, 2) := by decide +kernel
theorem dX7_cut_163 : decode cX7_cut 163 = .ok (.ireturn, 1) := by decide +kernel
noncomputable def B_X7_cut_152 (k109 : (Int32 × Int32 × Int32 × Int32 × Int32 × Int32) → fS → Option (Int32 × fS)) (a1 : Int32) (a2 : Int32) (a3 : Int32) (a7 : Int32) (a8 : Int32) (t0 : Int32) (t1 : Int32) (S : fS) : Option (Int32 × fS) := iv (t1 + t0) (fun x1 => iv (a8 + Int32.ofInt 1) (fun x2 => k109 (a1, a2, a3, x1, a7, x2) S))
noncomputable def B_X7_cut_109 (k109 : (Int32 × Int32 × Int32 × Int32 × Int32 × Int32) → fS → Option (Int32 × fS)) : (Int32 × Int32 × Int32 × Int32 × Int32 × Int32) → fS → Option (Int32 × fS) := fun ⟨a1, a2, a3, a6, a7, a8⟩ S => bb ((9 : Int32) ≤ a8) (some (a6, S)) (iv (a8 - a8 / (3 : Int32) * (3 : Int32)) (fun x4 => iv (a2 + x4) (fun x5 => iv (x5 - (1 : Int32)) (fun x6 => iv (x6 + a7) (fun x7 => iv (x7 + (100 : Int32)) (fun x8 => iv (x8 - x8 / (100 : Int32) * (100 : Int32)) (fun x9 => bb (x9 = a3) (gd (ib a1 6) (gd (ib a8 9) (iv (ge S 59 (a1.toNatClampNeg) (a8 : Int32).toNatClampNeg) (fun x13 => B_X7_cut_152 k109 a1 a2 a3 a7 a8 x13 a6 S)))) (B_X7_cut_152 k109 a1 a2 a3 a7 a8 0 a6 S))))))))
noncomputable def B_X7_cut_104 (a1 : Int32) (a2 : Int32) (a3 : Int32) (a6 : Int32) (t0 : Int32) (S : fS) : Option (Int32 × fS) := lp (B_X7_cut_109 ) fuel (a1, a2, a3, a6, t0, 0) S
noncomputable def B_X7_cut_75 (a1 : Int32) (a2 : Int32) (a3 : Int32) (a4 : Int32) (a5 : Int32) (t0 : Int32) (S : fS) : Option (Int32 × fS) := bd (F_X7_bad t0 2 S) (fun v14 S15 => bb (v14 = (0 : Int32)) (iv (ge S15 40 0 36) (fun x18 => iv (x18 + (1 : Int32)) (fun x19 => bb (x19 < a5) (B_X7_cut_104  a1 a2 a3 0 a4 S15) (B_X7_cut_104  a1 a2 a3 0 0 S15)))) (some (0, S15)))
noncomputable def B_X7_cut_70 (a1 : Int32) (a2 : Int32) (a3 : Int32) (a4 : Int32) (a5 : Int32) (S : fS) : Option (Int32 × fS) := B_X7_cut_75  a1 a2 a3 a4 a5 1 S
noncomputable def B_X7_cut_19 (a1 : Int32) (a2 : Int32) (a3 : Int32) (a4 : Int32) (a5 : Int32) (t0 : Int32) (S : fS) : Option (Int32 × fS) := bd (F_X7_bad t0 1 S) (fun v21 S22 => bb (v21 = (0 : Int32)) (bd (F_X7_in a2 0 99 S22) (fun v25 S26 => bb (v25 = (0 : Int32)) (B_X7_cut_70  a1 a2 a3 a4 a5 S26) (bd (F_X7_in a3 0 99 S26) (fun v29 S30 => bb (v29 = (0 : Int32)) (B_X7_cut_70  a1 a2 a3 a4 a5 S30) (bd (F_X7_in a4 0 9 S30) (fun v33 S34 => bb (v33 = (0 : Int32)) (B_X7_cut_70  a1 a2 a3 a4 a5 S34) (bd (F_X7_in a5 0 999 S34) (fun v37 S38 => bb (v37 = (0 : Int32)) (B_X7_cut_70  a1 a2 a3 a4 a5 S38) (B_X7_cut_75  a1 a2 a3 a4 a5 0 S38))))))))) (some (0, S22)))
noncomputable def F_X7_cut (p1 : Int32) (p2 : Int32) (p3 : Int32) (p4 : Int32) (p5 : Int32) (S0 : fS) : Option (Int32 × fS) := sv (pu S0 40 0 0 0) (fun S41 => bd (F_X7_isHand p1 S41) (fun v42 S43 => bb (v42 = (0 : Int32)) (B_X7_cut_19  p1 p2 p3 p4 p5 1 S43) (B_X7_cut_19  p1 p2 p3 p4 p5 0 S43)))
set_option maxHeartbeats 4000000 in
set_option maxRecDepth 100000 in
theorem c_X7_cut (l : Launch) (D : va_G) (K : Nat → ClassId) (b0 : Nat) (sa : sT) (sz : Nat) (L : List Nat) (f0 : Nat → va_E) (ad : Nat → Nat → Nat) (P : Nat → Nat → Prop) {n : Nat × Nat} (hP : ∀ a i : Nat, isn n a i → P a i) (S0 : fS) (hw : PW K ad P S0 L f0) (hn : S0.2.2.1 = n) (p1 : Int32) (p2 : Int32) (p3 : Int32) (p4 : Int32) (p5 : Int32) (v : Int32) (S1 : fS) (h : F_X7_cut p1 p2 p3 p4 p5 S0 = some (v, S1)) : Met l yX7_cut (.code yX7_cut cX7_cut 9 (some .int) :: gt) { frames := 2, cells := 0, slots := 0, locals := 43 } (va_Pc [.ref (ad 40 0), .int p1, .int p2, .int p3, .int p4, .int p5] (hPre D K b0 sa sz L f0)) (hQ D K b0 (fun v9 u9 => ∃ f2 : Nat → va_E, v9 = some (.int v) ∧ u9 = lU L f2 ∧ PW K ad P S1 L f2 ∧ S1.2.2.1 = n ∧ Kp ad P L f0 f2)) 0 0 (fun q => b0 ≤ q) := by
  refine t_of (own := RX7) (by decide) rfl ?_ (Nat.le_of_ble_eq_true rfl)
  intro p e s m below meth c ls C w hsz hr hlk hnm hl
  have hx := C.1
  have hb := C.2.1
  have hl : lv_has ls 9 [(0, .ref (ad 40 0)), (1, .int p1), (2, .int p2), (3, .int p3), (4, .int p4), (5, .int p5)] := hl
  have J152 : ∀ (k109 : (Int32 × Int32 × Int32 × Int32 × Int32 × Int32) → fS → Option (Int32 × fS)) (hk109 : ∀ (a1 : Int32) (a2 : Int32) (a3 : Int32) (a6 : Int32) (a7 : Int32) (a8 : Int32) (S : fS), k109 (a1, a2, a3, a6, a7, a8) S = some (v, S1) → Gw D K b0 sa ad P n L f0 p l e { frames := 2, cells := 0, slots := 0, locals := 43 } s m [.ref (ad 40 0), .int p1, .int p2, .int p3, .int p4, .int p5].toArray below meth c 9 (MQ below (hQ D K b0 (fun v9 u9 => ∃ f2 : Nat → va_E, v9 = some (.int v) ∧ u9 = lU L f2 ∧ PW K ad P S1 L f2 ∧ S1.2.2.1 = n ∧ Kp ad P L f0 f2)) [.ref (ad 40 0), .int p1, .int p2, .int p3, .int p4, .int p5].toArray s 0 0 (fun q => b0 ≤ q)) 0 0 109 [(0, .ref (ad 40 0)), (1, .int a1), (2, .int a2), (3, .int a3), (6, .int a6), (7, .int a7), (8, .int a8)] [] S) (a1 : Int32) (a2 : Int32) (a3 : Int32) (a7 : Int32) (a8 : Int32) (t0 : Int32) (t1 : Int32) (S : fS), B_X7_cut_152 k109 a1 a2 a3 a7 a8 t0 t1 S = some (v, S1) → Gw D K b0 sa ad P n L f0 p l e { frames := 2, cells := 0, slots := 0, locals := 43 } s m [.ref (ad 40 0), .int p1, .int p2, .int p3, .int p4, .int p5].toArray below meth c 9 (MQ below (hQ D K b0 (fun v9 u9 => ∃ f2 : Nat → va_E, v9 = some (.int v) ∧ u9 = lU L f2 ∧ PW K ad P S1 L f2 ∧ S1.2.2.1 = n ∧ Kp ad P L f0 f2)) [.ref (ad 40 0), .int p1, .int p2, .int p3, .int p4, .int p5].toArray s 0 0 (fun q => b0 ≤ q)) 0 0 152 [(0, .ref (ad 40 0)), (1, .int a1), (2, .int a2), (3, .int a3), (7, .int a7), (8, .int a8)] [.int t0, .int t1] S := by
    intro k109 hk109 a1 a2 a3 a7 a8 t0 t1 S h
    dsimp only [B_X7_cut_152] at h
    intro f H locs w hw hn hk ls hl
    refine lv_iadd hx hb dX7_cut_152 ?_
    refine u_iv h (fun x1 h => ?_)
    refine lv_istore (lv' := [(6, .int x1), (0, .ref (ad 40 0)), (1, .int a1), (2, .int a2), (3, .int a3), (7, .int a7), (8, .int a8)]) hx hb dX7_cut_153 hl (by decide) rfl (fun ls hl => ?_)
    obtain ⟨x2, ex2, h⟩ := iv_some h
    refine lv_iinc (v := x2) (lv' := [(8, .int x2), (6, .int x1), (0, .ref (ad 40 0)), (1, .int a1), (2, .int a2), (3, .int a3), (7, .int a7)]) hx hb dX7_cut_155 hl (k := 6) rfl ex2.symm (by decide) rfl (fun ls hl => ?_)
    refine lv_goto (tgt := 109) hx hb dX7_cut_158 (by decide) ?_
    exact hk109 a1 a2 a3 x1 a7 x2 S h f H locs w hw hn hk ls (lv_sub hl [2, 3, 4, 5, 1, 6, 0] rfl)
  have J109 : ∀ (fu : Nat) (a1 : Int32) (a2 : Int32) (a3 : Int32) (a6 : Int32) (a7 : Int32) (a8 : Int32) (S : fS), lp (B_X7_cut_109 ) fu (a1, a2, a3, a6, a7, a8) S = some (v, S1) → Gw D K b0 sa ad P n L f0 p l e { frames := 2, cells := 0, slots := 0, locals := 43 } s m [.ref (ad 40 0), .int p1, .int p2, .int p3, .int p4, .int p5].toArray below meth c 9 (MQ below (hQ D K b0 (fun v9 u9 => ∃ f2 : Nat → va_E, v9 = some (.int v) ∧ u9 = lU L f2 ∧ PW K ad P S1 L f2 ∧ S1.2.2.1 = n ∧ Kp ad P L f0 f2)) [.ref (ad 40 0), .int p1, .int p2, .int p3, .int p4, .int p5].toArray s 0 0 (fun q => b0 ≤ q)) 0 0 109 [(0, .ref (ad 40 0)), (1, .int a1), (2, .int a2), (3, .int a3), (6, .int a6), (7, .int a7), (8, .int a8)] [] S := by
    intro fu a1 a2 a3 a6 a7 a8 S h
    refine lp_some (G := (fun q S => Gw D K b0 sa ad P n L f0 p l e { frames := 2, cells := 0, slots := 0, locals := 43 } s m [.ref (ad 40 0), .int p1, .int p2, .int p3, .int p4, .int p5].toArray below meth c 9 (MQ below (hQ D K b0 (fun v9 u9 => ∃ f2 : Nat → va_E, v9 = some (.int v) ∧ u9 = lU L f2 ∧ PW K ad P S1 L f2 ∧ S1.2.2.1 = n ∧ Kp ad P L f0 f2)) [.ref (ad 40 0), .int p1, .int p2, .int p3, .int p4, .int p5].toArray s 0 0 (fun q => b0 ≤ q)) 0 0 109 [(0, .ref (ad 40 0)), (1, .int q.1), (2, .int q.2.1), (3, .int q.2.2.1), (6, .int q.2.2.2.1), (7, .int q.2.2.2.2.1), (8, .int q.2.2.2.2.2)] [] S)) (fun k109 hk109 q S h => ?_) fu (a1, a2, a3, a6, a7, a8) S h
    obtain ⟨a1, a2, a3, a6, a7, a8⟩ := q
    have hk109 : ∀ (a1 : Int32) (a2 : Int32) (a3 : Int32) (a6 : Int32) (a7 : Int32) (a8 : Int32) (S : fS), k109 (a1, a2, a3, a6, a7, a8) S = some (v, S1) → Gw D K b0 sa ad P n L f0 p l e { frames := 2, cells := 0, slots := 0, locals := 43 } s m [.ref (ad 40 0), .int p1, .int p2, .int p3, .int p4, .int p5].toArray below meth c 9 (MQ below (hQ D K b0 (fun v9 u9 => ∃ f2 : Nat → va_E, v9 = some (.int v) ∧ u9 = lU L f2 ∧ PW K ad P S1 L f2 ∧ S1.2.2.1 = n ∧ Kp ad P L f0 f2)) [.ref (ad 40 0), .int p1, .int p2, .int p3, .int p4, .int p5].toArray s 0 0 (fun q => b0 ≤ q)) 0 0 109 [(0, .ref (ad 40 0)), (1, .int a1), (2, .int a2), (3, .int a3), (6, .int a6), (7, .int a7), (8, .int a8)] [] S := fun a1 a2 a3 a6 a7 a8 S h => hk109 (a1, a2, a3, a6, a7, a8) S h
    dsimp only [B_X7_cut_109] at h
    intro f H locs w hw hn hk ls hl
    refine lv_iload hx hb dX7_cut_109 (lv_at hl 6 rfl) ?_
    refine lv_bipush (v := 9) hx hb dX7_cut_111 (by decide) ?_
    refine lv_icmp_ge (tgt := 161) hx hb dX7_cut_113 (by decide) (fun c3 => ?_) (fun c3 => ?_)
    · have h := bb_t h c3
      refine lv_iload hx hb dX7_cut_161 (lv_at hl 4 rfl) ?_
      exact t_iret C hr hlk w ⟨_, so_v h, rfl, so_w h hw, so_n h hn, hk⟩ (by decide) (by decide) dX7_cut_163
    · have h := bb_f h c3
      refine lv_iload hx hb dX7_cut_116 (lv_at hl 4 rfl) ?_
      refine lv_iload_n hx hb dX7_cut_118 rfl (lv_at hl 2 rfl) ?_
      refine lv_iload hx hb dX7_cut_119 (lv_at hl 6 rfl) ?_
      refine lv_iconst (v := 3) hx hb dX7_cut_121 (by decide) ?_
      refine lv_irem hx hb dX7_cut_122 (by decide) ?_
      refine u_iv h (fun x4 h => ?_)
      refine lv_iadd hx hb dX7_cut_123 ?_
      refine u_iv h (fun x5 h => ?_)
      refine lv_iconst (v := 1) hx hb dX7_cut_124 (by decide) ?_
      refine lv_isub hx hb dX7_cut_125 ?_
      refine u_iv h (fun x6 h => ?_)
      refine lv_iload hx hb dX7_cut_126 (lv_at hl 5 rfl) ?_
      refine lv_iadd hx hb dX7_cut_128 ?_
      refine u_iv h (fun x7 h => ?_)
      refine lv_bipush (v := 100) hx hb dX7_cut_129 (by decide) ?_
      refine lv_iadd hx hb dX7_cut_131 ?_
      refine u_iv h (fun x8 h => ?_)
      refine lv_bipush (v := 100) hx hb dX7_cut_132 (by decide) ?_
      refine lv_irem hx hb dX7_cut_134 (by decide) ?_
      refine u_iv h (fun x9 h => ?_)
      refine lv_iload_n hx hb dX7_cut_135 rfl (lv_at hl 3 rfl) ?_
      refine lv_icmp_ne (tgt := 151) hx hb dX7_cut_136 (by decide) (fun c10 => ?_) (fun c10 => ?_)
      · have h := bb_f h c10
        refine lv_iconst (v := 0) hx hb dX7_cut_151 (by decide) ?_
        exact J152 k109 hk109 a1 a2 a3 a7 a8 0 a6 S h f H locs w hw hn hk ls (lv_sub hl [0, 1, 2, 3, 5, 6] rfl)
      · have h := bb_t h c10
        refine lv_aload_n hx hb dX7_cut_139 rfl (lv_at hl 0 rfl) ?_
        refine u_getr C w hw (hP _ _ (isn_f rfl rfl (by decide))) rfl (N := 57) rfl rfl cin_7 49 (by decide) (by decide) (a2 := 58) (i2 := 0) rfl gw_1205 dX7_cut_140 ?_
        refine lv_iload_n hx hb dX7_cut_143 rfl (lv_at hl 1 rfl) ?_
        obtain ⟨g11, h⟩ := gd_some h
        refine u_aald C w hw (hP _ _ (isn_f rfl rfl (by decide))) rfl rfl rfl (n := 6) rfl (vp_in_iff.mpr g11) (a2 := 59) (i2 := (a1.toNatClampNeg)) (by exact congrArg (Prod.mk _) (Nat.zero_add _)) dX7_cut_144 ?_
        refine lv_iload hx hb dX7_cut_145 (lv_at hl 6 rfl) ?_
        obtain ⟨g12, h⟩ := gd_some h
        refine u_iald C w hw (hP _ _ (isn_f rfl rfl (ib_lt g11))) rfl rfl (n := 9) rfl (vp_in_iff.mpr g12) dX7_cut_147 ?_
        refine u_iv h (fun x13 h => ?_)
        refine lv_goto (tgt := 152) hx hb dX7_cut_148 (by decide) ?_
        exact J152 k109 hk109 a1 a2 a3 a7 a8 x13 a6 S h f H locs w hw hn hk ls (lv_sub hl [0, 1, 2, 3, 5, 6] rfl)
  have J104 : ∀ (a1 : Int32) (a2 : Int32) (a3 : Int32) (a6 : Int32) (t0 : Int32) (S : fS), B_X7_cut_104  a1 a2 a3 a6 t0 S = some (v, S1) → Gw D K b0 sa ad P n L f0 p l e { frames := 2, cells := 0, slots := 0, locals := 43 } s m [.ref (ad 40 0), .int p1, .int p2, .int p3, .int p4, .int p5].toArray below meth c 9 (MQ below (hQ D K b0 (fun v9 u9 => ∃ f2 : Nat → va_E, v9 = some (.int v) ∧ u9 = lU L f2 ∧ PW K ad P S1 L f2 ∧ S1.2.2.1 = n ∧ Kp ad P L f0 f2)) [.ref (ad 40 0), .int p1, .int p2, .int p3, .int p4, .int p5].toArray s 0 0 (fun q => b0 ≤ q)) 0 0 104 [(0, .ref (ad 40 0)), (1, .int a1), (2, .int a2), (3, .int a3), (6, .int a6)] [.int t0] S := by
    intro a1 a2 a3 a6 t0 S h
    dsimp only [B_X7_cut_104] at h
    intro f H locs w hw hn hk ls hl
    refine lv_istore (lv' := [(7, .int t0), (0, .ref (ad 40 0)), (1, .int a1), (2, .int a2), (3, .int a3), (6, .int a6)]) hx hb dX7_cut_104 hl (by decide) rfl (fun ls hl => ?_)
    refine lv_iconst (v := 0) hx hb dX7_cut_106 (by decide) ?_
    refine lv_istore (lv' := [(8, .int 0), (7, .int t0), (0, .ref (ad 40 0)), (1, .int a1), (2, .int a2), (3, .int a3), (6, .int a6)]) hx hb dX7_cut_107 hl (by decide) rfl (fun ls hl => ?_)
    exact J109  fuel a1 a2 a3 a6 t0 0 S h f H locs w hw hn hk ls (lv_sub hl [2, 3, 4, 5, 6, 1, 0] rfl)
  have J75 : ∀ (a1 : Int32) (a2 : Int32) (a3 : Int32) (a4 : Int32) (a5 : Int32) (t0 : Int32) (S : fS), B_X7_cut_75  a1 a2 a3 a4 a5 t0 S = some (v, S1) → Gw D K b0 sa ad P n L f0 p l e { frames := 2, cells := 0, slots := 0, locals := 43 } s m [.ref (ad 40 0), .int p1, .int p2, .int p3, .int p4, .int p5].toArray below meth c 9 (MQ below (hQ D K b0 (fun v9 u9 => ∃ f2 : Nat → va_E, v9 = some (.int v) ∧ u9 = lU L f2 ∧ PW K ad P S1 L f2 ∧ S1.2.2.1 = n ∧ Kp ad P L f0 f2)) [.ref (ad 40 0), .int p1, .int p2, .int p3, .int p4, .int p5].toArray s 0 0 (fun q => b0 ≤ q)) 0 0 75 [(0, .ref (ad 40 0)), (1, .int a1), (2, .int a2), (3, .int a3), (4, .int a4), (5, .int a5)] [.int t0, .ref (ad 40 0)] S := by
    intro a1 a2 a3 a4 a5 t0 S h
    dsimp only [B_X7_cut_75] at h
    intro f H locs w hw hn hk ls hl
    refine lv_iconst (v := 2) hx hb dX7_cut_75 (by decide) ?_
    obtain ⟨v14, S15, h16, h⟩ := bd_some h
    refine u_callV (n := 2) C w hw (hP _ _ (isn_f rfl rfl (by decide))) rfl rfl rfl (c_X7_bad l D K b0 sa _ L _ ad P hP S hw hn t0 2 v14 S15 h16) gw_1347 gw_1344 gw_1346 gs_22 gw_8 ⟨by decide, by decide, by decide +kernel⟩ rfl rfl ⟨by decide, by decide⟩ rfl hl.1 rfl (Nat.le_of_ble_eq_true rfl) dX7_cut_76 ⟨Nat.le_of_ble_eq_true rfl, Nat.le_of_ble_eq_true rfl⟩ (fun v9 u H locs hp w => ?_)
    obtain ⟨f2, rfl, rfl, hw, hn, hk1⟩ := hp
    have hk := hk.tr hk1
    generalize f2 = f at w hw hk
    refine lv_if_eq (tgt := 84) hx hb dX7_cut_79 (by decide) (fun c17 => ?_) (fun c17 => ?_)
    · have h := bb_t h c17
      refine lv_iconst (v := 0) hx hb dX7_cut_84 (by decide) ?_
      refine lv_istore (lv' := [(6, .int 0), (0, .ref (ad 40 0)), (1, .int a1), (2, .int a2), (3, .int a3), (4, .int a4), (5, .int a5)]) hx hb dX7_cut_85 hl (by decide) rfl (fun ls hl => ?_)
      refine lv_aload_n hx hb dX7_cut_87 rfl (lv_at hl 1 rfl) ?_
      refine u_geti C w hw (hP _ _ (isn_f rfl rfl (by decide))) rfl (N := 57) rfl rfl cin_7 36 (by decide) rfl gw_1192 dX7_cut_88 ?_
      refine u_iv h (fun x18 h => ?_)
      refine lv_iconst (v := 1) hx hb dX7_cut_91 (by decide) ?_
      refine lv_iadd hx hb dX7_cut_92 ?_
      refine u_iv h (fun x19 h => ?_)
      refine lv_iload hx hb dX7_cut_93 (lv_at hl 6 rfl) ?_
      refine lv_icmp_lt (tgt := 102) hx hb dX7_cut_95 (by decide) (fun c20 => ?_) (fun c20 => ?_)
      · have h := bb_t h c20
        refine lv_iload hx hb dX7_cut_102 (lv_at hl 5 rfl) ?_
        exact J104  a1 a2 a3 0 a4 S15 h f H locs w hw hn hk ls (lv_sub hl [1, 2, 3, 4, 0] rfl)
      · have h := bb_f h c20
        refine lv_iconst (v := 0) hx hb dX7_cut_98 (by decide) ?_
        refine lv_goto (tgt := 104) hx hb dX7_cut_99 (by decide) ?_
        exact J104  a1 a2 a3 0 0 S15 h f H locs w hw hn hk ls (lv_sub hl [1, 2, 3, 4, 0] rfl)
    · have h := bb_f h c17
      refine lv_iconst (v := 0) hx hb dX7_cut_82 (by decide) ?_
      exact t_iret C hr hlk w ⟨_, so_v h, rfl, so_w h hw, so_n h hn, hk⟩ (by decide) (by decide) dX7_cut_83
  have J70 : ∀ (a1 : Int32) (a2 : Int32) (a3 : Int32) (a4 : Int32) (a5 : Int32) (S : fS), B_X7_cut_70  a1 a2 a3 a4 a5 S = some (v, S1) → Gw D K b0 sa ad P n L f0 p l e { frames := 2, cells := 0, slots := 0, locals := 43 } s m [.ref (ad 40 0), .int p1, .int p2, .int p3, .int p4, .int p5].toArray below meth c 9 (MQ below (hQ D K b0 (fun v9 u9 => ∃ f2 : Nat → va_E, v9 = some (.int v) ∧ u9 = lU L f2 ∧ PW K ad P S1 L f2 ∧ S1.2.2.1 = n ∧ Kp ad P L f0 f2)) [.ref (ad 40 0), .int p1, .int p2, .int p3, .int p4, .int p5].toArray s 0 0 (fun q => b0 ≤ q)) 0 0 70 [(0, .ref (ad 40 0)), (1, .int a1), (2, .int a2), (3, .int a3), (4, .int a4), (5, .int a5)] [.ref (ad 40 0)] S := by
    intro a1 a2 a3 a4 a5 S h
    dsimp only [B_X7_cut_70] at h
    intro f H locs w hw hn hk ls hl
    refine lv_iconst (v := 1) hx hb dX7_cut_70 (by decide) ?_
    refine lv_goto (tgt := 75) hx hb dX7_cut_71 (by decide) ?_
    exact J75  a1 a2 a3 a4 a5 1 S h f H locs w hw hn hk ls (lv_sub hl [0, 1, 2, 3, 4, 5] rfl)
  have J19 : ∀ (a1 : Int32) (a2 : Int32) (a3 : Int32) (a4 : Int32) (a5 : Int32) (t0 : Int32) (S : fS), B_X7_cut_19  a1 a2 a3 a4 a5 t0 S = some (v, S1) → Gw D K b0 sa ad P n L f0 p l e { frames := 2, cells := 0, slots := 0, locals := 43 } s m [.ref (ad 40 0), .int p1, .int p2, .int p3, .int p4, .int p5].toArray below meth c 9 (MQ below (hQ D K b0 (fun v9 u9 => ∃ f2 : Nat → va_E, v9 = some (.int v) ∧ u9 = lU L f2 ∧ PW K ad P S1 L f2 ∧ S1.2.2.1 = n ∧ Kp ad P L f0 f2)) [.ref (ad 40 0), .int p1, .int p2, .int p3, .int p4, .int p5].toArray s 0 0 (fun q => b0 ≤ q)) 0 0 19 [(0, .ref (ad 40 0)), (1, .int a1), (2, .int a2), (3, .int a3), (4, .int a4), (5, .int a5)] [.int t0, .ref (ad 40 0)] S := by
    intro a1 a2 a3 a4 a5 t0 S h
    dsimp only [B_X7_cut_19] at h
    intro f H locs w hw hn hk ls hl
    refine lv_iconst (v := 1) hx hb dX7_cut_19 (by decide) ?_
    obtain ⟨v21, S22, h23, h⟩ := bd_some h
    refine u_callV (n := 2) C w hw (hP _ _ (isn_f rfl rfl (by decide))) rfl rfl rfl (c_X7_bad l D K b0 sa _ L _ ad P hP S hw hn t0 1 v21 S22 h23) gw_1347 gw_1344 gw_1346 gs_22 gw_8 ⟨by decide, by decide, by decide +kernel⟩ rfl rfl ⟨by decide, by decide⟩ rfl hl.1 rfl (Nat.le_of_ble_eq_true rfl) dX7_cut_20 ⟨Nat.le_of_ble_eq_true rfl, Nat.le_of_ble_eq_true rfl⟩ (fun v9 u H locs hp w => ?_)
    obtain ⟨f2, rfl, rfl, hw, hn, hk1⟩ := hp
    have hk := hk.tr hk1
    generalize f2 = f at w hw hk
    refine lv_if_ne (tgt := 82) hx hb dX7_cut_23 (by decide) (fun c24 => ?_) (fun c24 => ?_)
    · have h := bb_f h c24
      refine lv_iconst (v := 0) hx hb dX7_cut_82 (by decide) ?_
      exact t_iret C hr hlk w ⟨_, so_v h, rfl, so_w h hw, so_n h hn, hk⟩ (by decide) (by decide) dX7_cut_83
    · have h := bb_t h c24
      refine lv_aload_n hx hb dX7_cut_26 rfl (lv_at hl 0 rfl) ?_
      refine lv_iload_n hx hb dX7_cut_27 rfl (lv_at hl 2 rfl) ?_
      refine lv_iconst (v := 0) hx hb dX7_cut_28 (by decide) ?_
      refine lv_bipush (v := 99) hx hb dX7_cut_29 (by decide) ?_
      obtain ⟨v25, S26, h27, h⟩ := bd_some h
      refine t_callS (n := 3) C w (c_X7_in l D K b0 sa _ L _ ad P hP S22 hw hn a2 0 99 v25 S26 h27) gw_1343 gw_1341 gw_1342 gw_8 ⟨by decide, by decide, by decide +kernel⟩ rfl rfl ⟨by decide, by decide⟩ rfl hl.1 rfl (Nat.le_of_ble_eq_true rfl) dX7_cut_31 ⟨Nat.le_of_ble_eq_true rfl, Nat.le_of_ble_eq_true rfl⟩ (fun v9 u H locs hp w => ?_)
      obtain ⟨f2, rfl, rfl, hw, hn, hk1⟩ := hp
      have hk := hk.tr hk1
      generalize f2 = f at w hw hk
      refine lv_if_eq (tgt := 70) hx hb dX7_cut_34 (by decide) (fun c28 => ?_) (fun c28 => ?_)
      · have h := bb_t h c28
        exact J70  a1 a2 a3 a4 a5 S26 h f H locs w hw hn hk ls (lv_sub hl [0, 1, 2, 3, 4, 5] rfl)
      · have h := bb_f h c28
        refine lv_iload_n hx hb dX7_cut_37 rfl (lv_at hl 3 rfl) ?_
        refine lv_iconst (v := 0) hx hb dX7_cut_38 (by decide) ?_
        refine lv_bipush (v := 99) hx hb dX7_cut_39 (by decide) ?_
        obtain ⟨v29, S30, h31, h⟩ := bd_some h
        refine t_callS (n := 3) C w (c_X7_in l D K b0 sa _ L _ ad P hP S26 hw hn a3 0 99 v29 S30 h31) gw_1343 gw_1341 gw_1342 gw_8 ⟨by decide, by decide, by decide +kernel⟩ rfl rfl ⟨by decide, by decide⟩ rfl hl.1 rfl (Nat.le_of_ble_eq_true rfl) dX7_cut_41 ⟨Nat.le_of_ble_eq_true rfl, Nat.le_of_ble_eq_true rfl⟩ (fun v9 u H locs hp w => ?_)
        obtain ⟨f2, rfl, rfl, hw, hn, hk1⟩ := hp
        have hk := hk.tr hk1
        generalize f2 = f at w hw hk
        refine lv_if_eq (tgt := 70) hx hb dX7_cut_44 (by decide) (fun c32 => ?_) (fun c32 => ?_)
        · have h := bb_t h c32
          exact J70  a1 a2 a3 a4 a5 S30 h f H locs w hw hn hk ls (lv_sub hl [0, 1, 2, 3, 4, 5] rfl)
        · have h := bb_f h c32
          refine lv_iload hx hb dX7_cut_47 (lv_at hl 4 rfl) ?_
          refine lv_iconst (v := 0) hx hb dX7_cut_49 (by decide) ?_
          refine lv_bipush (v := 9) hx hb dX7_cut_50 (by decide) ?_
          obtain ⟨v33, S34, h35, h⟩ := bd_some h
          refine t_callS (n := 3) C w (c_X7_in l D K b0 sa _ L _ ad P hP S30 hw hn a4 0 9 v33 S34 h35) gw_1343 gw_1341 gw_1342 gw_8 ⟨by decide, by decide, by decide +kernel⟩ rfl rfl ⟨by decide, by decide⟩ rfl hl.1 rfl (Nat.le_of_ble_eq_true rfl) dX7_cut_52 ⟨Nat.le_of_ble_eq_true rfl, Nat.le_of_ble_eq_true rfl⟩ (fun v9 u H locs hp w => ?_)
          obtain ⟨f2, rfl, rfl, hw, hn, hk1⟩ := hp
          have hk := hk.tr hk1
          generalize f2 = f at w hw hk
          refine lv_if_eq (tgt := 70) hx hb dX7_cut_55 (by decide) (fun c36 => ?_) (fun c36 => ?_)
          · have h := bb_t h c36
            exact J70  a1 a2 a3 a4 a5 S34 h f H locs w hw hn hk ls (lv_sub hl [0, 1, 2, 3, 4, 5] rfl)
          · have h := bb_f h c36
            refine lv_iload hx hb dX7_cut_58 (lv_at hl 5 rfl) ?_
            refine lv_iconst (v := 0) hx hb dX7_cut_60 (by decide) ?_
            refine lv_sipush (v := 999) hx hb dX7_cut_61 (by decide) ?_
            obtain ⟨v37, S38, h39, h⟩ := bd_some h
            refine t_callS (n := 3) C w (c_X7_in l D K b0 sa _ L _ ad P hP S34 hw hn a5 0 999 v37 S38 h39) gw_1343 gw_1341 gw_1342 gw_8 ⟨by decide, by decide, by decide +kernel⟩ rfl rfl ⟨by decide, by decide⟩ rfl hl.1 rfl (Nat.le_of_ble_eq_true rfl) dX7_cut_64 ⟨Nat.le_of_ble_eq_true rfl, Nat.le_of_ble_eq_true rfl⟩ (fun v9 u H locs hp w => ?_)
            obtain ⟨f2, rfl, rfl, hw, hn, hk1⟩ := hp
            have hk := hk.tr hk1
            generalize f2 = f at w hw hk
            refine lv_if_ne (tgt := 74) hx hb dX7_cut_67 (by decide) (fun c40 => ?_) (fun c40 => ?_)
            · have h := bb_f h c40
              refine lv_iconst (v := 0) hx hb dX7_cut_74 (by decide) ?_
              exact J75  a1 a2 a3 a4 a5 0 S38 h f H locs w hw hn hk ls (lv_sub hl [0, 1, 2, 3, 4, 5] rfl)
            · have h := bb_t h c40
              exact J70  a1 a2 a3 a4 a5 S38 h f H locs w hw hn hk ls (lv_sub hl [0, 1, 2, 3, 4, 5] rfl)
  dsimp only [F_X7_cut] at h
  obtain ⟨f, ef⟩ : ∃ z, z = f0 := ⟨_, rfl⟩
  rw [← ef] at w hw
  have hk : Kp ad P L f0 f := by rw [ef]; exact Kp.rf
  obtain ⟨H, eH⟩ : ∃ z, z = s.heap := ⟨_, rfl⟩
  obtain ⟨locs, el⟩ : ∃ z : List Loc, z = [] := ⟨_, rfl⟩
  rw [← eH, ← el] at w ⊢
  refine lv_aload_n hx hb dX7_cut_0 rfl (lv_at hl 0 rfl) ?_
  refine lv_iconst (v := 0) hx hb dX7_cut_1 (by decide) ?_
  refine u_puti C w hw (hP _ _ (isn_f rfl rfl (by decide))) rfl (N := 57) rfl rfl cin_7 tyX7 tyX7_ok nmX7 0 (by decide) rfl rfl rfl rfl gw_1156 dX7_cut_2 (fun f H locs w hw hk1 => ?_)
  have hk := hk.tr hk1
  refine u_sv h hw hn (fun S41 h hw hn => ?_)
  refine lv_aload_n hx hb dX7_cut_5 rfl (lv_at hl 0 rfl) ?_
  refine lv_aload_n hx hb dX7_cut_6 rfl (lv_at hl 0 rfl) ?_
  refine lv_iload_n hx hb dX7_cut_7 rfl (lv_at hl 1 rfl) ?_
  obtain ⟨v42, S43, h44, h⟩ := bd_some h
  refine u_callV (n := 1) C w hw (hP _ _ (isn_f rfl rfl (by decide))) rfl rfl rfl (c_X7_isHand l D K b0 sa _ L _ ad P hP S41 hw hn p1 v42 S43 h44) gw_1574 gw_1571 gw_1573 gs_58 gw_8 ⟨by decide, by decide, by decide +kernel⟩ rfl rfl ⟨by decide, by decide⟩ rfl hl.1 rfl (Nat.le_of_ble_eq_true rfl) dX7_cut_8 ⟨Nat.le_of_ble_eq_true rfl, Nat.le_of_ble_eq_true rfl⟩ (fun v9 u H locs hp w => ?_)
  obtain ⟨f2, rfl, rfl, hw, hn, hk1⟩ := hp
  have hk := hk.tr hk1
  generalize f2 = f at w hw hk
  refine lv_if_ne (tgt := 18) hx hb dX7_cut_11 (by decide) (fun c45 => ?_) (fun c45 => ?_)
  · have h := bb_f h c45
    refine lv_iconst (v := 0) hx hb dX7_cut_18 (by decide) ?_
    exact J19  p1 p2 p3 p4 p5 0 S43 h f H locs w hw hn hk ls (lv_sub hl [0, 1, 2, 3, 4, 5] rfl)
  · have h := bb_t h c45
    refine lv_iconst (v := 1) hx hb dX7_cut_14 (by decide) ?_
    refine lv_goto (tgt := 19) hx hb dX7_cut_15 (by decide) ?_
    exact J19  p1 p2 p3 p4 p5 1 S43 h f H locs w hw hn hk ls (lv_sub hl [0, 1, 2, 3, 4, 5] rfl)
theorem dX7_fair_0 : decode cX7_fair 0 = .ok (.aload_n 0, 1) := by decide +kernel
theorem dX7_fair_1 : decode cX7_fair 1 = .ok (.iconst 0, 1) := by decide +kernel
theorem dX7_fair_2 : decode cX7_fair 2 = .ok (.putfield 97, 3) := by decide +kernel
theorem dX7_fair_5 : decode cX7_fair 5 = .ok (.aload_n 0, 1) := by decide +kernel
theorem dX7_fair_6 : decode cX7_fair 6 = .ok (.iload_n 1, 1) := by decide +kernel
theorem dX7_fair_7 : decode cX7_fair 7 = .ok (.iconst 0, 1) := by decide +kernel
theorem dX7_fair_8 : decode cX7_fair 8 = .ok (.bipush 64, 2) := by decide +kernel
theorem dX7_fair_10 : decode cX7_fair 10 = .ok (.invokestatic 100, 3) := by decide +kernel
theorem dX7_fair_13 : decode cX7_fair 13 = .ok (.ifCond .ne 7, 3) := by decide +kernel
theorem dX7_fair_16 : decode cX7_fair 16 = .ok (.iconst 1, 1) := by decide +kernel
theorem dX7_fair_17 : decode cX7_fair 17 = .ok (.goto 4, 3) := by decide +kernel
theorem dX7_fair_20 : decode cX7_fair 20 = .ok (.iconst 0, 1) := by decide +kernel
theorem dX7_fair_21 : decode cX7_fair 21 = .ok (.iconst 1, 1) := by decide +kernel
theorem dX7_fair_22 : decode cX7_fair 22 = .ok (.invokevirtual 206, 3) := by decide +kernel
theorem dX7_fair_25 : decode cX7_fair 25 = .ok (.ifCond .eq 5, 3) := by decide +kernel
theorem dX7_fair_28 : decode cX7_fair 28 = .ok (.iconst 0, 1) := by decide +kernel
theorem dX7_fair_29 : decode cX7_fair 29 = .ok (.ireturn, 1) := by decide +kernel
theorem dX7_fair_30 : decode cX7_fair 30 = .ok (.bipush 8, 2) := by decide +kernel
theorem dX7_fair_32 : decode cX7_fair 32 = .ok (.istore_n 2, 1) := by decide +kernel
theorem dX7_fair_33 : decode cX7_fair 33 = .ok (.iload_n 2, 1) := by decide +kernel
theorem dX7_fair_34 : decode cX7_fair 34 = .ok (.ifCond .lt 78, 3) := by decide +kernel
theorem dX7_fair_37 : decode cX7_fair 37 = .ok (.bipush 10, 2) := by decide +kernel
theorem dX7_fair_39 : decode cX7_fair 39 = .ok (.istore_n 3, 1) := by decide +kernel
theorem dX7_fair_40 : decode cX7_fair 40 = .ok (.iload_n 3, 1) := by decide +kernel
theorem dX7_fair_41 : decode cX7_fair 41 = .ok (.bipush 90, 2) := by decide +kernel
theorem dX7_fair_43 : decode cX7_fair 43 = .ok (.if_icmp .gt 63, 3) := by decide +kernel
theorem dX7_fair_46 : decode cX7_fair 46 = .ok (.iconst 0, 1) := by decide +kernel
theorem dX7_fair_47 : decode cX7_fair 47 = .ok (.istore 4, 2) := by decide +kernel
theorem dX7_fair_49 : decode cX7_fair 49 = .ok (.iconst 0, 1) := by decide +kernel
theorem dX7_fair_50 : decode cX7_fair 50 = .ok (.istore 5, 2) := by decide +kernel
theorem dX7_fair_52 : decode cX7_fair 52 = .ok (.iload 5, 2) := by decide +kernel
theorem dX7_fair_54 : decode cX7_fair 54 = .ok (.bipush 64, 2) := by decide +kernel
theorem dX7_fair_56 : decode cX7_fair 56 = .ok (.if_icmp .ge 31, 3) := by decide +kernel
theorem dX7_fair_59 : decode cX7_fair 59 = .ok (.iload 4, 2) := by decide +kernel
theorem dX7_fair_61 : decode cX7_fair 61 = .ok (.aload_n 0, 1) := by decide +kernel
theorem dX7_fair_62 : decode cX7_fair 62 = .ok (.iload 5, 2) := by decide +kernel
theorem dX7_fair_64 : decode cX7_fair 64 = .ok (.iload_n 3, 1) := by decide +kernel
theorem dX7_fair_65 : decode cX7_fair 65 = .ok (.iload_n 2, 1) := by decide +kernel
theorem dX7_fair_66 : decode cX7_fair 66 = .ok (.invokevirtual 307, 3) := by decide +kernel
theorem dX7_fair_69 : decode cX7_fair 69 = .ok (.iconst 5, 1) := by decide +kernel
theorem dX7_fair_70 : decode cX7_fair 70 = .ok (.if_icmp .ne 7, 3) := by decide +kernel
theorem dX7_fair_73 : decode cX7_fair 73 = .ok (.iconst 1, 1) := by decide +kernel
theorem dX7_fair_74 : decode cX7_fair 74 = .ok (.goto 4, 3) := by decide +kernel
theorem dX7_fair_77 : decode cX7_fair 77 = .ok (.iconst 0, 1) := by decide +kernel
theorem dX7_fair_78 : decode cX7_fair 78 = .ok (.iadd, 1) := by decide +kernel
theorem dX7_fair_79 : decode cX7_fair 79 = .ok (.istore 4, 2) := by decide +kernel
theorem dX7_fair_81 : decode cX7_fair 81 = .ok (.iinc 5 1, 3) := by decide +kernel
theorem dX7_fair_84 : decode cX7_fair 84 = .ok (.goto (-32), 3) := by decide +kernel
theorem dX7_fair_87 : decode cX7_fair 87 = .ok (.iload 4, 2) := by decide +kernel
theorem dX7_fair_89 : decode cX7_fair 89 = .ok (.iload_n 1, 1) := by decide +kernel
theorem dX7_fair_90 : decode cX7_fair 90 = .ok (.if_icmp .lt 10, 3) := by decide +kernel
theorem dX7_fair_93 : decode cX7_fair 93 = .ok (.bipush 100, 2) := by decide +kernel
theorem dX7_fair_95 : decode cX7_fair 95 = .ok (.iload_n 3, 1) := by decide +kernel
theorem dX7_fair_96 : decode cX7_fair 96 = .ok (.imul, 1) := by decide +kernel
theorem dX7_fair_97 : decode cX7_fair 97 = .ok (.iload_n 2, 1) := by decide +kernel
theorem dX7_fair_98 : decode cX7_fair 98 = .ok (.iadd, 1) := by decide +kernel
theorem dX7_fair_99 : decode cX7_fair 99 = .ok (.ireturn, 1) := by decide +kernel
theorem dX7_fair_100 : decode cX7_fair 100 = .ok (.iinc 3 10, 3) := by decide +kernel
theorem dX7_fair_103 : decode cX7_fair 103 = .ok (.goto (-63), 3) := by decide +kernel
theorem dX7_fair_106 : decode cX7_fair 106 = .ok (.iinc 2 (-2), 3) := by decide +kernel
theorem dX7_fair_109 : decode cX7_fair 109 = .ok (.goto (-76), 3) := by decide +kernel
theorem dX7_fair_112 : decode cX7_fair 112 = .ok (.iconst (-1), 1) := by decide +kernel
theorem dX7_fair_113 : decode cX7_fair 113 = .ok (.ireturn, 1) := by decide +kernel
noncomputable def B_X7_fair_78 (k33 : (Int32 × Int32) → fS → Option (Int32 × fS)) (k40 : (Int32 × Int32 × Int32) → fS → Option (Int32 × fS)) (k52 : (Int32 × Int32 × Int32 × Int32 × Int32) → fS → Option (Int32 × fS)) (a1 : Int32) (a2 : Int32) (a3 : Int32) (a5 : Int32) (t0 : Int32) (t1 : Int32) (S : fS) : Option (Int32 × fS) := iv (t1 + t0) (fun x1 => iv (a5 + Int32.ofInt 1) (fun x2 => k52 (a1, a2, a3, x1, x2) S))
noncomputable def B_X7_fair_52 (k33 : (Int32 × Int32) → fS → Option (Int32 × fS)) (k40 : (Int32 × Int32 × Int32) → fS → Option (Int32 × fS)) (k52 : (Int32 × Int32 × Int32 × Int32 × Int32) → fS → Option (Int32 × fS)) : (Int32 × Int32 × Int32 × Int32 × Int32) → fS → Option (Int32 × fS) := fun ⟨a1, a2, a3, a4, a5⟩ S => bb ((64 : Int32) ≤ a5) (bb (a4 < a1) (iv (a3 + Int32.ofInt 10) (fun x5 => k40 (a1, a2, x5) S)) (iv ((100 : Int32) * a3) (fun x6 => iv (x6 + a2) (fun x7 => some (x7, S))))) (bd (F_X7_wouldBe a5 a3 a2 S) (fun v8 S9 => bb (v8 = (5 : Int32)) (B_X7_fair_78 k33 k40 k52 a1 a2 a3 a5 1 a4 S9) (B_X7_fair_78 k33 k40 k52 a1 a2 a3 a5 0 a4 S9)))
noncomputable def B_X7_fair_40 (k33 : (Int32 × Int32) → fS → Option (Int32 × fS)) (k40 : (Int32 × Int32 × Int32) → fS → Option (Int32 × fS)) : (Int32 × Int32 × Int32) → fS → Option (Int32 × fS) := fun ⟨a1, a2, a3⟩ S => bb ((90 : Int32) < a3) (iv (a2 + Int32.ofInt (-2)) (fun x13 => k33 (a1, x13) S)) (lp (B_X7_fair_52 k33 k40) fuel (a1, a2, a3, 0, 0) S)
noncomputable def B_X7_fair_33 (k33 : (Int32 × Int32) → fS → Option (Int32 × fS)) : (Int32 × Int32) → fS → Option (Int32 × fS) := fun ⟨a1, a2⟩ S => bb (a2 < (0 : Int32)) (some ((-1), S)) (lp (B_X7_fair_40 k33) fuel (a1, a2, 10) S)
noncomputable def B_X7_fair_21 (a1 : Int32) (t0 : Int32) (S : fS) : Option (Int32 × fS) := bd (F_X7_bad t0 1 S) (fun v15 S16 => bb (v15 = (0 : Int32)) (lp (B_X7_fair_33 ) fuel (a1, 8) S16) (some (0, S16)))
noncomputable def F_X7_fair (p1 : Int32) (S0 : fS) : Option (Int32 × fS) := sv (pu S0 40 0 0 0) (fun S19 => bd (F_X7_in p1 0 64 S19) (fun v20 S21 => bb (v20 = (0 : Int32)) (B_X7_fair_21  p1 1 S21) (B_X7_fair_21  p1 0 S21)))
set_option maxHeartbeats 4000000 in
set_option maxRecDepth 100000 in
theorem c_X7_fair (l : Launch) (D : va_G) (K : Nat → ClassId) (b0 : Nat) (sa : sT) (sz : Nat) (L : List Nat) (f0 : Nat → va_E) (ad : Nat → Nat → Nat) (P : Nat → Nat → Prop) {n : Nat × Nat} (hP : ∀ a i : Nat, isn n a i → P a i) (S0 : fS) (hw : PW K ad P S0 L f0) (hn : S0.2.2.1 = n) (p1 : Int32) (v : Int32) (S1 : fS) (h : F_X7_fair p1 S0 = some (v, S1)) : Met l yX7_fair (.code yX7_fair cX7_fair 6 (some .int) :: gt) { frames := 3, cells := 0, slots := 0, locals := 76 } (va_Pc [.ref (ad 40 0), .int p1] (hPre D K b0 sa sz L f0)) (hQ D K b0 (fun v9 u9 => ∃ f2 : Nat → va_E, v9 = some (.int v) ∧ u9 = lU L f2 ∧ PW K ad P S1 L f2 ∧ S1.2.2.1 = n ∧ Kp ad P L f0 f2)) 0 0 (fun q => b0 ≤ q) := by
  refine t_of (own := RX7) (by decide) rfl ?_ (Nat.le_of_ble_eq_true rfl)
  intro p e s m below meth c ls C w hsz hr hlk hnm hl
  have hx := C.1
  have hb := C.2.1
  have hl : lv_has ls 6 [(0, .ref (ad 40 0)), (1, .int p1)] := hl
  have J78 : ∀ (k33 : (Int32 × Int32) → fS → Option (Int32 × fS)) (hk33 : ∀ (a1 : Int32) (a2 : Int32) (S : fS), k33 (a1, a2) S = some (v, S1) → Gw D K b0 sa ad P n L f0 p l e { frames := 3, cells := 0, slots := 0, locals := 76 } s m [.ref (ad 40 0), .int p1].toArray below meth c 6 (MQ below (hQ D K b0 (fun v9 u9 => ∃ f2 : Nat → va_E, v9 = some (.int v) ∧ u9 = lU L f2 ∧ PW K ad P S1 L f2 ∧ S1.2.2.1 = n ∧ Kp ad P L f0 f2)) [.ref (ad 40 0), .int p1].toArray s 0 0 (fun q => b0 ≤ q)) 0 0 33 [(0, .ref (ad 40 0)), (1, .int a1), (2, .int a2)] [] S) (k40 : (Int32 × Int32 × Int32) → fS → Option (Int32 × fS)) (hk40 : ∀ (a1 : Int32) (a2 : Int32) (a3 : Int32) (S : fS), k40 (a1, a2, a3) S = some (v, S1) → Gw D K b0 sa ad P n L f0 p l e { frames := 3, cells := 0, slots := 0, locals := 76 } s m [.ref (ad 40 0), .int p1].toArray below meth c 6 (MQ below (hQ D K b0 (fun v9 u9 => ∃ f2 : Nat → va_E, v9 = some (.int v) ∧ u9 = lU L f2 ∧ PW K ad P S1 L f2 ∧ S1.2.2.1 = n ∧ Kp ad P L f0 f2)) [.ref (ad 40 0), .int p1].toArray s 0 0 (fun q => b0 ≤ q)) 0 0 40 [(0, .ref (ad 40 0)), (1, .int a1), (2, .int a2), (3, .int a3)] [] S) (k52 : (Int32 × Int32 × Int32 × Int32 × Int32) → fS → Option (Int32 × fS)) (hk52 : ∀ (a1 : Int32) (a2 : Int32) (a3 : Int32) (a4 : Int32) (a5 : Int32) (S : fS), k52 (a1, a2, a3, a4, a5) S = some (v, S1) → Gw D K b0 sa ad P n L f0 p l e { frames := 3, cells := 0, slots := 0, locals := 76 } s m [.ref (ad 40 0), .int p1].toArray below meth c 6 (MQ below (hQ D K b0 (fun v9 u9 => ∃ f2 : Nat → va_E, v9 = some (.int v) ∧ u9 = lU L f2 ∧ PW K ad P S1 L f2 ∧ S1.2.2.1 = n ∧ Kp ad P L f0 f2)) [.ref (ad 40 0), .int p1].toArray s 0 0 (fun q => b0 ≤ q)) 0 0 52 [(0, .ref (ad 40 0)), (1, .int a1), (2, .int a2), (3, .int a3), (4, .int a4), (5, .int a5)] [] S) (a1 : Int32) (a2 : Int32) (a3 : Int32) (a5 : Int32) (t0 : Int32) (t1 : Int32) (S : fS), B_X7_fair_78 k33 k40 k52 a1 a2 a3 a5 t0 t1 S = some (v, S1) → Gw D K b0 sa ad P n L f0 p l e { frames := 3, cells := 0, slots := 0, locals := 76 } s m [.ref (ad 40 0), .int p1].toArray below meth c 6 (MQ below (hQ D K b0 (fun v9 u9 => ∃ f2 : Nat → va_E, v9 = some (.int v) ∧ u9 = lU L f2 ∧ PW K ad P S1 L f2 ∧ S1.2.2.1 = n ∧ Kp ad P L f0 f2)) [.ref (ad 40 0), .int p1].toArray s 0 0 (fun q => b0 ≤ q)) 0 0 78 [(0, .ref (ad 40 0)), (1, .int a1), (2, .int a2), (3, .int a3), (5, .int a5)] [.int t0, .int t1] S := by
    intro k33 hk33 k40 hk40 k52 hk52 a1 a2 a3 a5 t0 t1 S h
    dsimp only [B_X7_fair_78] at h
    intro f H locs w hw hn hk ls hl
    refine lv_iadd hx hb dX7_fair_78 ?_
    refine u_iv h (fun x1 h => ?_)
    refine lv_istore (lv' := [(4, .int x1), (0, .ref (ad 40 0)), (1, .int a1), (2, .int a2), (3, .int a3), (5, .int a5)]) hx hb dX7_fair_79 hl (by decide) rfl (fun ls hl => ?_)
    obtain ⟨x2, ex2, h⟩ := iv_some h
    refine lv_iinc (v := x2) (lv' := [(5, .int x2), (4, .int x1), (0, .ref (ad 40 0)), (1, .int a1), (2, .int a2), (3, .int a3)]) hx hb dX7_fair_81 hl (k := 5) rfl ex2.symm (by decide) rfl (fun ls hl => ?_)
    refine lv_goto (tgt := 52) hx hb dX7_fair_84 (by decide) ?_
    exact hk52 a1 a2 a3 x1 x2 S h f H locs w hw hn hk ls (lv_sub hl [2, 3, 4, 5, 1, 0] rfl)
  have J52 : ∀ (k33 : (Int32 × Int32) → fS → Option (Int32 × fS)) (hk33 : ∀ (a1 : Int32) (a2 : Int32) (S : fS), k33 (a1, a2) S = some (v, S1) → Gw D K b0 sa ad P n L f0 p l e { frames := 3, cells := 0, slots := 0, locals := 76 } s m [.ref (ad 40 0), .int p1].toArray below meth c 6 (MQ below (hQ D K b0 (fun v9 u9 => ∃ f2 : Nat → va_E, v9 = some (.int v) ∧ u9 = lU L f2 ∧ PW K ad P S1 L f2 ∧ S1.2.2.1 = n ∧ Kp ad P L f0 f2)) [.ref (ad 40 0), .int p1].toArray s 0 0 (fun q => b0 ≤ q)) 0 0 33 [(0, .ref (ad 40 0)), (1, .int a1), (2, .int a2)] [] S) (k40 : (Int32 × Int32 × Int32) → fS → Option (Int32 × fS)) (hk40 : ∀ (a1 : Int32) (a2 : Int32) (a3 : Int32) (S : fS), k40 (a1, a2, a3) S = some (v, S1) → Gw D K b0 sa ad P n L f0 p l e { frames := 3, cells := 0, slots := 0, locals := 76 } s m [.ref (ad 40 0), .int p1].toArray below meth c 6 (MQ below (hQ D K b0 (fun v9 u9 => ∃ f2 : Nat → va_E, v9 = some (.int v) ∧ u9 = lU L f2 ∧ PW K ad P S1 L f2 ∧ S1.2.2.1 = n ∧ Kp ad P L f0 f2)) [.ref (ad 40 0), .int p1].toArray s 0 0 (fun q => b0 ≤ q)) 0 0 40 [(0, .ref (ad 40 0)), (1, .int a1), (2, .int a2), (3, .int a3)] [] S) (fu : Nat) (a1 : Int32) (a2 : Int32) (a3 : Int32) (a4 : Int32) (a5 : Int32) (S : fS), lp (B_X7_fair_52 k33 k40) fu (a1, a2, a3, a4, a5) S = some (v, S1) → Gw D K b0 sa ad P n L f0 p l e { frames := 3, cells := 0, slots := 0, locals := 76 } s m [.ref (ad 40 0), .int p1].toArray below meth c 6 (MQ below (hQ D K b0 (fun v9 u9 => ∃ f2 : Nat → va_E, v9 = some (.int v) ∧ u9 = lU L f2 ∧ PW K ad P S1 L f2 ∧ S1.2.2.1 = n ∧ Kp ad P L f0 f2)) [.ref (ad 40 0), .int p1].toArray s 0 0 (fun q => b0 ≤ q)) 0 0 52 [(0, .ref (ad 40 0)), (1, .int a1), (2, .int a2), (3, .int a3), (4, .int a4), (5, .int a5)] [] S := by
    intro k33 hk33 k40 hk40 fu a1 a2 a3 a4 a5 S h
    refine lp_some (G := (fun q S => Gw D K b0 sa ad P n L f0 p l e { frames := 3, cells := 0, slots := 0, locals := 76 } s m [.ref (ad 40 0), .int p1].toArray below meth c 6 (MQ below (hQ D K b0 (fun v9 u9 => ∃ f2 : Nat → va_E, v9 = some (.int v) ∧ u9 = lU L f2 ∧ PW K ad P S1 L f2 ∧ S1.2.2.1 = n ∧ Kp ad P L f0 f2)) [.ref (ad 40 0), .int p1].toArray s 0 0 (fun q => b0 ≤ q)) 0 0 52 [(0, .ref (ad 40 0)), (1, .int q.1), (2, .int q.2.1), (3, .int q.2.2.1), (4, .int q.2.2.2.1), (5, .int q.2.2.2.2)] [] S)) (fun k52 hk52 q S h => ?_) fu (a1, a2, a3, a4, a5) S h
    obtain ⟨a1, a2, a3, a4, a5⟩ := q
    have hk52 : ∀ (a1 : Int32) (a2 : Int32) (a3 : Int32) (a4 : Int32) (a5 : Int32) (S : fS), k52 (a1, a2, a3, a4, a5) S = some (v, S1) → Gw D K b0 sa ad P n L f0 p l e { frames := 3, cells := 0, slots := 0, locals := 76 } s m [.ref (ad 40 0), .int p1].toArray below meth c 6 (MQ below (hQ D K b0 (fun v9 u9 => ∃ f2 : Nat → va_E, v9 = some (.int v) ∧ u9 = lU L f2 ∧ PW K ad P S1 L f2 ∧ S1.2.2.1 = n ∧ Kp ad P L f0 f2)) [.ref (ad 40 0), .int p1].toArray s 0 0 (fun q => b0 ≤ q)) 0 0 52 [(0, .ref (ad 40 0)), (1, .int a1), (2, .int a2), (3, .int a3), (4, .int a4), (5, .int a5)] [] S := fun a1 a2 a3 a4 a5 S h => hk52 (a1, a2, a3, a4, a5) S h
    dsimp only [B_X7_fair_52] at h
    intro f H locs w hw hn hk ls hl
    refine lv_iload hx hb dX7_fair_52 (lv_at hl 5 rfl) ?_
    refine lv_bipush (v := 64) hx hb dX7_fair_54 (by decide) ?_
    refine lv_icmp_ge (tgt := 87) hx hb dX7_fair_56 (by decide) (fun c3 => ?_) (fun c3 => ?_)
    · have h := bb_t h c3
      refine lv_iload hx hb dX7_fair_87 (lv_at hl 4 rfl) ?_
      refine lv_iload_n hx hb dX7_fair_89 rfl (lv_at hl 1 rfl) ?_
      refine lv_icmp_lt (tgt := 100) hx hb dX7_fair_90 (by decide) (fun c4 => ?_) (fun c4 => ?_)
      · have h := bb_t h c4
        obtain ⟨x5, ex5, h⟩ := iv_some h
        refine lv_iinc (v := x5) (lv' := [(3, .int x5), (0, .ref (ad 40 0)), (1, .int a1), (2, .int a2), (4, .int a4), (5, .int a5)]) hx hb dX7_fair_100 hl (k := 3) rfl ex5.symm (by decide) rfl (fun ls hl => ?_)
        refine lv_goto (tgt := 40) hx hb dX7_fair_103 (by decide) ?_
        exact hk40 a1 a2 x5 S h f H locs w hw hn hk ls (lv_sub hl [1, 2, 3, 0] rfl)
      · have h := bb_f h c4
        refine lv_bipush (v := 100) hx hb dX7_fair_93 (by decide) ?_
        refine lv_iload_n hx hb dX7_fair_95 rfl (lv_at hl 3 rfl) ?_
        refine lv_imul hx hb dX7_fair_96 ?_
        refine u_iv h (fun x6 h => ?_)
        refine lv_iload_n hx hb dX7_fair_97 rfl (lv_at hl 2 rfl) ?_
        refine lv_iadd hx hb dX7_fair_98 ?_
        refine u_iv h (fun x7 h => ?_)
        exact t_iret C hr hlk w ⟨_, so_v h, rfl, so_w h hw, so_n h hn, hk⟩ (by decide) (by decide) dX7_fair_99
    · have h := bb_f h c3
      refine lv_iload hx hb dX7_fair_59 (lv_at hl 4 rfl) ?_
      refine lv_aload_n hx hb dX7_fair_61 rfl (lv_at hl 0 rfl) ?_
      refine lv_iload hx hb dX7_fair_62 (lv_at hl 5 rfl) ?_
      refine lv_iload_n hx hb dX7_fair_64 rfl (lv_at hl 3 rfl) ?_
      refine lv_iload_n hx hb dX7_fair_65 rfl (lv_at hl 2 rfl) ?_
      obtain ⟨v8, S9, h10, h⟩ := bd_some h
      refine u_callV (n := 3) C w hw (hP _ _ (isn_f rfl rfl (by decide))) rfl rfl rfl (c_X7_wouldBe l D K b0 sa _ L _ ad P hP S hw hn a5 a3 a2 v8 S9 h10) gw_1527 gw_1524 gw_1526 gs_52 gw_8 ⟨by decide, by decide, by decide +kernel⟩ rfl rfl ⟨by decide, by decide⟩ rfl hl.1 rfl (Nat.le_of_ble_eq_true rfl) dX7_fair_66 ⟨Nat.le_of_ble_eq_true rfl, Nat.le_of_ble_eq_true rfl⟩ (fun v9 u H locs hp w => ?_)
      obtain ⟨f2, rfl, rfl, hw, hn, hk1⟩ := hp
      have hk := hk.tr hk1
      generalize f2 = f at w hw hk
      refine lv_iconst (v := 5) hx hb dX7_fair_69 (by decide) ?_
      refine lv_icmp_ne (tgt := 77) hx hb dX7_fair_70 (by decide) (fun c11 => ?_) (fun c11 => ?_)
      · have h := bb_f h c11
        refine lv_iconst (v := 0) hx hb dX7_fair_77 (by decide) ?_
        exact J78 k33 hk33 k40 hk40 k52 hk52 a1 a2 a3 a5 0 a4 S9 h f H locs w hw hn hk ls (lv_sub hl [0, 1, 2, 3, 5] rfl)
      · have h := bb_t h c11
        refine lv_iconst (v := 1) hx hb dX7_fair_73 (by decide) ?_
        refine lv_goto (tgt := 78) hx hb dX7_fair_74 (by decide) ?_
        exact J78 k33 hk33 k40 hk40 k52 hk52 a1 a2 a3 a5 1 a4 S9 h f H locs w hw hn hk ls (lv_sub hl [0, 1, 2, 3, 5] rfl)
  have J40 : ∀ (k33 : (Int32 × Int32) → fS → Option (Int32 × fS)) (hk33 : ∀ (a1 : Int32) (a2 : Int32) (S : fS), k33 (a1, a2) S = some (v, S1) → Gw D K b0 sa ad P n L f0 p l e { frames := 3, cells := 0, slots := 0, locals := 76 } s m [.ref (ad 40 0), .int p1].toArray below meth c 6 (MQ below (hQ D K b0 (fun v9 u9 => ∃ f2 : Nat → va_E, v9 = some (.int v) ∧ u9 = lU L f2 ∧ PW K ad P S1 L f2 ∧ S1.2.2.1 = n ∧ Kp ad P L f0 f2)) [.ref (ad 40 0), .int p1].toArray s 0 0 (fun q => b0 ≤ q)) 0 0 33 [(0, .ref (ad 40 0)), (1, .int a1), (2, .int a2)] [] S) (fu : Nat) (a1 : Int32) (a2 : Int32) (a3 : Int32) (S : fS), lp (B_X7_fair_40 k33) fu (a1, a2, a3) S = some (v, S1) → Gw D K b0 sa ad P n L f0 p l e { frames := 3, cells := 0, slots := 0, locals := 76 } s m [.ref (ad 40 0), .int p1].toArray below meth c 6 (MQ below (hQ D K b0 (fun v9 u9 => ∃ f2 : Nat → va_E, v9 = some (.int v) ∧ u9 = lU L f2 ∧ PW K ad P S1 L f2 ∧ S1.2.2.1 = n ∧ Kp ad P L f0 f2)) [.ref (ad 40 0), .int p1].toArray s 0 0 (fun q => b0 ≤ q)) 0 0 40 [(0, .ref (ad 40 0)), (1, .int a1), (2, .int a2), (3, .int a3)] [] S := by
    intro k33 hk33 fu a1 a2 a3 S h
    refine lp_some (G := (fun q S => Gw D K b0 sa ad P n L f0 p l e { frames := 3, cells := 0, slots := 0, locals := 76 } s m [.ref (ad 40 0), .int p1].toArray below meth c 6 (MQ below (hQ D K b0 (fun v9 u9 => ∃ f2 : Nat → va_E, v9 = some (.int v) ∧ u9 = lU L f2 ∧ PW K ad P S1 L f2 ∧ S1.2.2.1 = n ∧ Kp ad P L f0 f2)) [.ref (ad 40 0), .int p1].toArray s 0 0 (fun q => b0 ≤ q)) 0 0 40 [(0, .ref (ad 40 0)), (1, .int q.1), (2, .int q.2.1), (3, .int q.2.2)] [] S)) (fun k40 hk40 q S h => ?_) fu (a1, a2, a3) S h
    obtain ⟨a1, a2, a3⟩ := q
    have hk40 : ∀ (a1 : Int32) (a2 : Int32) (a3 : Int32) (S : fS), k40 (a1, a2, a3) S = some (v, S1) → Gw D K b0 sa ad P n L f0 p l e { frames := 3, cells := 0, slots := 0, locals := 76 } s m [.ref (ad 40 0), .int p1].toArray below meth c 6 (MQ below (hQ D K b0 (fun v9 u9 => ∃ f2 : Nat → va_E, v9 = some (.int v) ∧ u9 = lU L f2 ∧ PW K ad P S1 L f2 ∧ S1.2.2.1 = n ∧ Kp ad P L f0 f2)) [.ref (ad 40 0), .int p1].toArray s 0 0 (fun q => b0 ≤ q)) 0 0 40 [(0, .ref (ad 40 0)), (1, .int a1), (2, .int a2), (3, .int a3)] [] S := fun a1 a2 a3 S h => hk40 (a1, a2, a3) S h
    dsimp only [B_X7_fair_40] at h
    intro f H locs w hw hn hk ls hl
    refine lv_iload_n hx hb dX7_fair_40 rfl (lv_at hl 3 rfl) ?_
    refine lv_bipush (v := 90) hx hb dX7_fair_41 (by decide) ?_
    refine lv_icmp_gt (tgt := 106) hx hb dX7_fair_43 (by decide) (fun c12 => ?_) (fun c12 => ?_)
    · have h := bb_t h c12
      obtain ⟨x13, ex13, h⟩ := iv_some h
      refine lv_iinc (v := x13) (lv' := [(2, .int x13), (0, .ref (ad 40 0)), (1, .int a1), (3, .int a3)]) hx hb dX7_fair_106 hl (k := 2) rfl ex13.symm (by decide) rfl (fun ls hl => ?_)
      refine lv_goto (tgt := 33) hx hb dX7_fair_109 (by decide) ?_
      exact hk33 a1 x13 S h f H locs w hw hn hk ls (lv_sub hl [1, 2, 0] rfl)
    · have h := bb_f h c12
      refine lv_iconst (v := 0) hx hb dX7_fair_46 (by decide) ?_
      refine lv_istore (lv' := [(4, .int 0), (0, .ref (ad 40 0)), (1, .int a1), (2, .int a2), (3, .int a3)]) hx hb dX7_fair_47 hl (by decide) rfl (fun ls hl => ?_)
      refine lv_iconst (v := 0) hx hb dX7_fair_49 (by decide) ?_
      refine lv_istore (lv' := [(5, .int 0), (4, .int 0), (0, .ref (ad 40 0)), (1, .int a1), (2, .int a2), (3, .int a3)]) hx hb dX7_fair_50 hl (by decide) rfl (fun ls hl => ?_)
      exact J52 k33 hk33 k40 hk40 fuel a1 a2 a3 0 0 S h f H locs w hw hn hk ls (lv_sub hl [2, 3, 4, 5, 1, 0] rfl)
  have J33 : ∀ (fu : Nat) (a1 : Int32) (a2 : Int32) (S : fS), lp (B_X7_fair_33 ) fu (a1, a2) S = some (v, S1) → Gw D K b0 sa ad P n L f0 p l e { frames := 3, cells := 0, slots := 0, locals := 76 } s m [.ref (ad 40 0), .int p1].toArray below meth c 6 (MQ below (hQ D K b0 (fun v9 u9 => ∃ f2 : Nat → va_E, v9 = some (.int v) ∧ u9 = lU L f2 ∧ PW K ad P S1 L f2 ∧ S1.2.2.1 = n ∧ Kp ad P L f0 f2)) [.ref (ad 40 0), .int p1].toArray s 0 0 (fun q => b0 ≤ q)) 0 0 33 [(0, .ref (ad 40 0)), (1, .int a1), (2, .int a2)] [] S := by
    intro fu a1 a2 S h
    refine lp_some (G := (fun q S => Gw D K b0 sa ad P n L f0 p l e { frames := 3, cells := 0, slots := 0, locals := 76 } s m [.ref (ad 40 0), .int p1].toArray below meth c 6 (MQ below (hQ D K b0 (fun v9 u9 => ∃ f2 : Nat → va_E, v9 = some (.int v) ∧ u9 = lU L f2 ∧ PW K ad P S1 L f2 ∧ S1.2.2.1 = n ∧ Kp ad P L f0 f2)) [.ref (ad 40 0), .int p1].toArray s 0 0 (fun q => b0 ≤ q)) 0 0 33 [(0, .ref (ad 40 0)), (1, .int q.1), (2, .int q.2)] [] S)) (fun k33 hk33 q S h => ?_) fu (a1, a2) S h
    obtain ⟨a1, a2⟩ := q
    have hk33 : ∀ (a1 : Int32) (a2 : Int32) (S : fS), k33 (a1, a2) S = some (v, S1) → Gw D K b0 sa ad P n L f0 p l e { frames := 3, cells := 0, slots := 0, locals := 76 } s m [.ref (ad 40 0), .int p1].toArray below meth c 6 (MQ below (hQ D K b0 (fun v9 u9 => ∃ f2 : Nat → va_E, v9 = some (.int v) ∧ u9 = lU L f2 ∧ PW K ad P S1 L f2 ∧ S1.2.2.1 = n ∧ Kp ad P L f0 f2)) [.ref (ad 40 0), .int p1].toArray s 0 0 (fun q => b0 ≤ q)) 0 0 33 [(0, .ref (ad 40 0)), (1, .int a1), (2, .int a2)] [] S := fun a1 a2 S h => hk33 (a1, a2) S h
    dsimp only [B_X7_fair_33] at h
    intro f H locs w hw hn hk ls hl
    refine lv_iload_n hx hb dX7_fair_33 rfl (lv_at hl 2 rfl) ?_
    refine lv_if_lt (tgt := 112) hx hb dX7_fair_34 (by decide) (fun c14 => ?_) (fun c14 => ?_)
    · have h := bb_t h c14
      refine lv_iconst (v := (-1)) hx hb dX7_fair_112 (by decide) ?_
      exact t_iret C hr hlk w ⟨_, so_v h, rfl, so_w h hw, so_n h hn, hk⟩ (by decide) (by decide) dX7_fair_113
    · have h := bb_f h c14
      refine lv_bipush (v := 10) hx hb dX7_fair_37 (by decide) ?_
      refine lv_istore_n (lv' := [(3, .int 10), (0, .ref (ad 40 0)), (1, .int a1), (2, .int a2)]) hx hb dX7_fair_39 rfl hl (by decide) rfl (fun ls hl => ?_)
      exact J40 k33 hk33 fuel a1 a2 10 S h f H locs w hw hn hk ls (lv_sub hl [1, 2, 3, 0] rfl)
  have J21 : ∀ (a1 : Int32) (t0 : Int32) (S : fS), B_X7_fair_21  a1 t0 S = some (v, S1) → Gw D K b0 sa ad P n L f0 p l e { frames := 3, cells := 0, slots := 0, locals := 76 } s m [.ref (ad 40 0), .int p1].toArray below meth c 6 (MQ below (hQ D K b0 (fun v9 u9 => ∃ f2 : Nat → va_E, v9 = some (.int v) ∧ u9 = lU L f2 ∧ PW K ad P S1 L f2 ∧ S1.2.2.1 = n ∧ Kp ad P L f0 f2)) [.ref (ad 40 0), .int p1].toArray s 0 0 (fun q => b0 ≤ q)) 0 0 21 [(0, .ref (ad 40 0)), (1, .int a1)] [.int t0, .ref (ad 40 0)] S := by
    intro a1 t0 S h
    dsimp only [B_X7_fair_21] at h
    intro f H locs w hw hn hk ls hl
    refine lv_iconst (v := 1) hx hb dX7_fair_21 (by decide) ?_
    obtain ⟨v15, S16, h17, h⟩ := bd_some h
    refine u_callV (n := 2) C w hw (hP _ _ (isn_f rfl rfl (by decide))) rfl rfl rfl (c_X7_bad l D K b0 sa _ L _ ad P hP S hw hn t0 1 v15 S16 h17) gw_1347 gw_1344 gw_1346 gs_22 gw_8 ⟨by decide, by decide, by decide +kernel⟩ rfl rfl ⟨by decide, by decide⟩ rfl hl.1 rfl (Nat.le_of_ble_eq_true rfl) dX7_fair_22 ⟨Nat.le_of_ble_eq_true rfl, Nat.le_of_ble_eq_true rfl⟩ (fun v9 u H locs hp w => ?_)
    obtain ⟨f2, rfl, rfl, hw, hn, hk1⟩ := hp
    have hk := hk.tr hk1
    generalize f2 = f at w hw hk
    refine lv_if_eq (tgt := 30) hx hb dX7_fair_25 (by decide) (fun c18 => ?_) (fun c18 => ?_)
    · have h := bb_t h c18
      refine lv_bipush (v := 8) hx hb dX7_fair_30 (by decide) ?_
      refine lv_istore_n (lv' := [(2, .int 8), (0, .ref (ad 40 0)), (1, .int a1)]) hx hb dX7_fair_32 rfl hl (by decide) rfl (fun ls hl => ?_)
      exact J33  fuel a1 8 S16 h f H locs w hw hn hk ls (lv_sub hl [1, 2, 0] rfl)
    · have h := bb_f h c18
      refine lv_iconst (v := 0) hx hb dX7_fair_28 (by decide) ?_
      exact t_iret C hr hlk w ⟨_, so_v h, rfl, so_w h hw, so_n h hn, hk⟩ (by decide) (by decide) dX7_fair_29
  dsimp only [F_X7_fair] at h
  obtain ⟨f, ef⟩ : ∃ z, z = f0 := ⟨_, rfl⟩
  rw [← ef] at w hw
  have hk : Kp ad P L f0 f := by rw [ef]; exact Kp.rf
  obtain ⟨H, eH⟩ : ∃ z, z = s.heap := ⟨_, rfl⟩
  obtain ⟨locs, el⟩ : ∃ z : List Loc, z = [] := ⟨_, rfl⟩
  rw [← eH, ← el] at w ⊢
  refine lv_aload_n hx hb dX7_fair_0 rfl (lv_at hl 0 rfl) ?_
  refine lv_iconst (v := 0) hx hb dX7_fair_1 (by decide) ?_
  refine u_puti C w hw (hP _ _ (isn_f rfl rfl (by decide))) rfl (N := 57) rfl rfl cin_7 tyX7 tyX7_ok nmX7 0 (by decide) rfl rfl rfl rfl gw_1156 dX7_fair_2 (fun f H locs w hw hk1 => ?_)
  have hk := hk.tr hk1
  refine u_sv h hw hn (fun S19 h hw hn => ?_)
  refine lv_aload_n hx hb dX7_fair_5 rfl (lv_at hl 0 rfl) ?_
  refine lv_iload_n hx hb dX7_fair_6 rfl (lv_at hl 1 rfl) ?_
  refine lv_iconst (v := 0) hx hb dX7_fair_7 (by decide) ?_
  refine lv_bipush (v := 64) hx hb dX7_fair_8 (by decide) ?_
  obtain ⟨v20, S21, h22, h⟩ := bd_some h
  refine t_callS (n := 3) C w (c_X7_in l D K b0 sa _ L _ ad P hP S19 hw hn p1 0 64 v20 S21 h22) gw_1343 gw_1341 gw_1342 gw_8 ⟨by decide, by decide, by decide +kernel⟩ rfl rfl ⟨by decide, by decide⟩ rfl hl.1 rfl (Nat.le_of_ble_eq_true rfl) dX7_fair_10 ⟨Nat.le_of_ble_eq_true rfl, Nat.le_of_ble_eq_true rfl⟩ (fun v9 u H locs hp w => ?_)
  obtain ⟨f2, rfl, rfl, hw, hn, hk1⟩ := hp
  have hk := hk.tr hk1
  generalize f2 = f at w hw hk
  refine lv_if_ne (tgt := 20) hx hb dX7_fair_13 (by decide) (fun c23 => ?_) (fun c23 => ?_)
  · have h := bb_f h c23
    refine lv_iconst (v := 0) hx hb dX7_fair_20 (by decide) ?_
    exact J21  p1 0 S21 h f H locs w hw hn hk ls (lv_sub hl [0, 1] rfl)
  · have h := bb_t h c23
    refine lv_iconst (v := 1) hx hb dX7_fair_16 (by decide) ?_
    refine lv_goto (tgt := 21) hx hb dX7_fair_17 (by decide) ?_
    exact J21  p1 1 S21 h f H locs w hw hn hk ls (lv_sub hl [0, 1] rfl)
theorem dX7_image_0 : decode cX7_image 0 = .ok (.aload_n 0, 1) := by decide +kernel
theorem dX7_image_1 : decode cX7_image 1 = .ok (.iconst 0, 1) := by decide +kernel
theorem dX7_image_2 : decode cX7_image 2 = .ok (.putfield 97, 3) := by decide +kernel
theorem dX7_image_5 : decode cX7_image 5 = .ok (.aload_n 0, 1) := by decide +kernel
theorem dX7_image_6 : decode cX7_image 6 = .ok (.getfield 365, 3) := by decide +kernel
theorem dX7_image_9 : decode cX7_image 9 = .ok (.iconst 3, 1) := by decide +kernel
theorem dX7_image_10 : decode cX7_image 10 = .ok (.if_icmp .ne 5, 3) := by decide +kernel
theorem dX7_image_13 : decode cX7_image 13 = .ok (.iconst (-1), 1) := by decide +kernel
theorem dX7_image_14 : decode cX7_image 14 = .ok (.ireturn, 1) := by decide +kernel
theorem dX7_image_15 : decode cX7_image 15 = .ok (.aload_n 0, 1) := by decide +kernel
theorem dX7_image_16 : decode cX7_image 16 = .ok (.getfield 365, 3) := by decide +kernel
theorem dX7_image_19 : decode cX7_image 19 = .ok (.istore_n 1, 1) := by decide +kernel
theorem dX7_image_20 : decode cX7_image 20 = .ok (.aload_n 0, 1) := by decide +kernel
theorem dX7_image_21 : decode cX7_image 21 = .ok (.iload_n 1, 1) := by decide +kernel
theorem dX7_image_22 : decode cX7_image 22 = .ok (.invokevirtual 352, 3) := by decide +kernel
theorem dX7_image_25 : decode cX7_image 25 = .ok (.aload_n 0, 1) := by decide +kernel
theorem dX7_image_26 : decode cX7_image 26 = .ok (.getfield 88, 3) := by decide +kernel
theorem dX7_image_29 : decode cX7_image 29 = .ok (.iload_n 1, 1) := by decide +kernel
theorem dX7_image_30 : decode cX7_image 30 = .ok (.aaload, 1) := by decide +kernel
theorem dX7_image_31 : decode cX7_image 31 = .ok (.astore_n 2, 1) := by decide +kernel
theorem dX7_image_32 : decode cX7_image 32 = .ok (.aload_n 2, 1) := by decide +kernel
theorem dX7_image_33 : decode cX7_image 33 = .ok (.iconst 4, 1) := by decide +kernel
theorem dX7_image_34 : decode cX7_image 34 = .ok (.aload_n 0, 1) := by decide +kernel
theorem dX7_image_35 : decode cX7_image 35 = .ok (.getfield 58, 3) := by decide +kernel
theorem dX7_image_38 : decode cX7_image 38 = .ok (.iastore, 1) := by decide +kernel
theorem dX7_image_39 : decode cX7_image 39 = .ok (.aload_n 2, 1) := by decide +kernel
theorem dX7_image_40 : decode cX7_image 40 = .ok (.iconst 5, 1) := by decide +kernel
theorem dX7_image_41 : decode cX7_image 41 = .ok (.aload_n 0, 1) := by decide +kernel
theorem dX7_image_42 : decode cX7_image 42 = .ok (.getfield 61, 3) := by decide +kernel
theorem dX7_image_45 : decode cX7_image 45 = .ok (.iastore, 1) := by decide +kernel
theorem dX7_image_46 : decode cX7_image 46 = .ok (.aload_n 2, 1) := by decide +kernel
theorem dX7_image_47 : decode cX7_image 47 = .ok (.bipush 6, 2) := by decide +kernel
theorem dX7_image_49 : decode cX7_image 49 = .ok (.aload_n 0, 1) := by decide +kernel
theorem dX7_image_50 : decode cX7_image 50 = .ok (.getfield 64, 3) := by decide +kernel
theorem dX7_image_53 : decode cX7_image 53 = .ok (.iastore, 1) := by decide +kernel
theorem dX7_image_54 : decode cX7_image 54 = .ok (.aload_n 2, 1) := by decide +kernel
theorem dX7_image_55 : decode cX7_image 55 = .ok (.bipush 7, 2) := by decide +kernel
theorem dX7_image_57 : decode cX7_image 57 = .ok (.aload_n 0, 1) := by decide +kernel
theorem dX7_image_58 : decode cX7_image 58 = .ok (.getfield 234, 3) := by decide +kernel
theorem dX7_image_61 : decode cX7_image 61 = .ok (.iastore, 1) := by decide +kernel
theorem dX7_image_62 : decode cX7_image 62 = .ok (.aload_n 2, 1) := by decide +kernel
theorem dX7_image_63 : decode cX7_image 63 = .ok (.bipush 8, 2) := by decide +kernel
theorem dX7_image_65 : decode cX7_image 65 = .ok (.aload_n 0, 1) := by decide +kernel
theorem dX7_image_66 : decode cX7_image 66 = .ok (.getfield 67, 3) := by decide +kernel
theorem dX7_image_69 : decode cX7_image 69 = .ok (.iastore, 1) := by decide +kernel
theorem dX7_image_70 : decode cX7_image 70 = .ok (.aload_n 2, 1) := by decide +kernel
theorem dX7_image_71 : decode cX7_image 71 = .ok (.bipush 9, 2) := by decide +kernel
theorem dX7_image_73 : decode cX7_image 73 = .ok (.bipush 100, 2) := by decide +kernel
theorem dX7_image_75 : decode cX7_image 75 = .ok (.aload_n 0, 1) := by decide +kernel
theorem dX7_image_76 : decode cX7_image 76 = .ok (.getfield 313, 3) := by decide +kernel
theorem dX7_image_79 : decode cX7_image 79 = .ok (.imul, 1) := by decide +kernel
theorem dX7_image_80 : decode cX7_image 80 = .ok (.aload_n 0, 1) := by decide +kernel
theorem dX7_image_81 : decode cX7_image 81 = .ok (.getfield 256, 3) := by decide +kernel
theorem dX7_image_84 : decode cX7_image 84 = .ok (.iadd, 1) := by decide +kernel
theorem dX7_image_85 : decode cX7_image 85 = .ok (.iastore, 1) := by decide +kernel
theorem dX7_image_86 : decode cX7_image 86 = .ok (.aload_n 2, 1) := by decide +kernel
theorem dX7_image_87 : decode cX7_image 87 = .ok (.bipush 10, 2) := by decide +kernel
theorem dX7_image_89 : decode cX7_image 89 = .ok (.aload_n 0, 1) := by decide +kernel
theorem dX7_image_90 : decode cX7_image 90 = .ok (.getfield 27, 3) := by decide +kernel
theorem dX7_image_93 : decode cX7_image 93 = .ok (.iastore, 1) := by decide +kernel
theorem dX7_image_94 : decode cX7_image 94 = .ok (.iconst 0, 1) := by decide +kernel
theorem dX7_image_95 : decode cX7_image 95 = .ok (.istore_n 3, 1) := by decide +kernel
theorem dX7_image_96 : decode cX7_image 96 = .ok (.iload_n 3, 1) := by decide +kernel
theorem dX7_image_97 : decode cX7_image 97 = .ok (.bipush 24, 2) := by decide +kernel
theorem dX7_image_99 : decode cX7_image 99 = .ok (.if_icmp .ge 105, 3) := by decide +kernel
theorem dX7_image_102 : decode cX7_image 102 = .ok (.aload_n 0, 1) := by decide +kernel
theorem dX7_image_103 : decode cX7_image 103 = .ok (.getfield 91, 3) := by decide +kernel
theorem dX7_image_106 : decode cX7_image 106 = .ok (.iconst 5, 1) := by decide +kernel
theorem dX7_image_107 : decode cX7_image 107 = .ok (.iload_n 1, 1) := by decide +kernel
theorem dX7_image_108 : decode cX7_image 108 = .ok (.imul, 1) := by decide +kernel
theorem dX7_image_109 : decode cX7_image 109 = .ok (.aaload, 1) := by decide +kernel
theorem dX7_image_110 : decode cX7_image 110 = .ok (.iload_n 3, 1) := by decide +kernel
theorem dX7_image_111 : decode cX7_image 111 = .ok (.aload_n 0, 1) := by decide +kernel
theorem dX7_image_112 : decode cX7_image 112 = .ok (.getfield 33, 3) := by decide +kernel
theorem dX7_image_115 : decode cX7_image 115 = .ok (.iload_n 3, 1) := by decide +kernel
theorem dX7_image_116 : decode cX7_image 116 = .ok (.iaload, 1) := by decide +kernel
theorem dX7_image_117 : decode cX7_image 117 = .ok (.iastore, 1) := by decide +kernel
theorem dX7_image_118 : decode cX7_image 118 = .ok (.aload_n 0, 1) := by decide +kernel
theorem dX7_image_119 : decode cX7_image 119 = .ok (.getfield 91, 3) := by decide +kernel
theorem dX7_image_122 : decode cX7_image 122 = .ok (.iconst 5, 1) := by decide +kernel
theorem dX7_image_123 : decode cX7_image 123 = .ok (.iload_n 1, 1) := by decide +kernel
theorem dX7_image_124 : decode cX7_image 124 = .ok (.imul, 1) := by decide +kernel
theorem dX7_image_125 : decode cX7_image 125 = .ok (.iconst 1, 1) := by decide +kernel
theorem dX7_image_126 : decode cX7_image 126 = .ok (.iadd, 1) := by decide +kernel
theorem dX7_image_127 : decode cX7_image 127 = .ok (.aaload, 1) := by decide +kernel
theorem dX7_image_128 : decode cX7_image 128 = .ok (.iload_n 3, 1) := by decide +kernel
theorem dX7_image_129 : decode cX7_image 129 = .ok (.aload_n 0, 1) := by decide +kernel
theorem dX7_image_130 : decode cX7_image 130 = .ok (.getfield 36, 3) := by decide +kernel
theorem dX7_image_133 : decode cX7_image 133 = .ok (.iload_n 3, 1) := by decide +kernel
theorem dX7_image_134 : decode cX7_image 134 = .ok (.iaload, 1) := by decide +kernel
theorem dX7_image_135 : decode cX7_image 135 = .ok (.iastore, 1) := by decide +kernel
theorem dX7_image_136 : decode cX7_image 136 = .ok (.aload_n 0, 1) := by decide +kernel
theorem dX7_image_137 : decode cX7_image 137 = .ok (.getfield 91, 3) := by decide +kernel
theorem dX7_image_140 : decode cX7_image 140 = .ok (.iconst 5, 1) := by decide +kernel
theorem dX7_image_141 : decode cX7_image 141 = .ok (.iload_n 1, 1) := by decide +kernel
theorem dX7_image_142 : decode cX7_image 142 = .ok (.imul, 1) := by decide +kernel
theorem dX7_image_143 : decode cX7_image 143 = .ok (.iconst 2, 1) := by decide +kernel
theorem dX7_image_144 : decode cX7_image 144 = .ok (.iadd, 1) := by decide +kernel
theorem dX7_image_145 : decode cX7_image 145 = .ok (.aaload, 1) := by decide +kernel
theorem dX7_image_146 : decode cX7_image 146 = .ok (.iload_n 3, 1) := by decide +kernel
theorem dX7_image_147 : decode cX7_image 147 = .ok (.aload_n 0, 1) := by decide +kernel
theorem dX7_image_148 : decode cX7_image 148 = .ok (.getfield 39, 3) := by decide +kernel
theorem dX7_image_151 : decode cX7_image 151 = .ok (.iload_n 3, 1) := by decide +kernel
theorem dX7_image_152 : decode cX7_image 152 = .ok (.iaload, 1) := by decide +kernel
theorem dX7_image_153 : decode cX7_image 153 = .ok (.iastore, 1) := by decide +kernel
theorem dX7_image_154 : decode cX7_image 154 = .ok (.aload_n 0, 1) := by decide +kernel
theorem dX7_image_155 : decode cX7_image 155 = .ok (.getfield 91, 3) := by decide +kernel
theorem dX7_image_158 : decode cX7_image 158 = .ok (.iconst 5, 1) := by decide +kernel
theorem dX7_image_159 : decode cX7_image 159 = .ok (.iload_n 1, 1) := by decide +kernel
theorem dX7_image_160 : decode cX7_image 160 = .ok (.imul, 1) := by decide +kernel
theorem dX7_image_161 : decode cX7_image 161 = .ok (.iconst 3, 1) := by decide +kernel
theorem dX7_image_162 : decode cX7_image 162 = .ok (.iadd, 1) := by decide +kernel
theorem dX7_image_163 : decode cX7_image 163 = .ok (.aaload, 1) := by decide +kernel
theorem dX7_image_164 : decode cX7_image 164 = .ok (.iload_n 3, 1) := by decide +kernel
theorem dX7_image_165 : decode cX7_image 165 = .ok (.aload_n 0, 1) := by decide +kernel
theorem dX7_image_166 : decode cX7_image 166 = .ok (.getfield 42, 3) := by decide +kernel
theorem dX7_image_169 : decode cX7_image 169 = .ok (.iload_n 3, 1) := by decide +kernel
theorem dX7_image_170 : decode cX7_image 170 = .ok (.iaload, 1) := by decide +kernel
theorem dX7_image_171 : decode cX7_image 171 = .ok (.iastore, 1) := by decide +kernel
theorem dX7_image_172 : decode cX7_image 172 = .ok (.aload_n 0, 1) := by decide +kernel
theorem dX7_image_173 : decode cX7_image 173 = .ok (.getfield 91, 3) := by decide +kernel
theorem dX7_image_176 : decode cX7_image 176 = .ok (.iconst 5, 1) := by decide +kernel
theorem dX7_image_177 : decode cX7_image 177 = .ok (.iload_n 1, 1) := by decide +kernel
theorem dX7_image_178 : decode cX7_image 178 = .ok (.imul, 1) := by decide +kernel
theorem dX7_image_179 : decode cX7_image 179 = .ok (.iconst 4, 1) := by decide +kernel
theorem dX7_image_180 : decode cX7_image 180 = .ok (.iadd, 1) := by decide +kernel
theorem dX7_image_181 : decode cX7_image 181 = .ok (.aaload, 1) := by decide +kernel
theorem dX7_image_182 : decode cX7_image 182 = .ok (.iload_n 3, 1) := by decide +kernel
theorem dX7_image_183 : decode cX7_image 183 = .ok (.aload_n 0, 1) := by decide +kernel
theorem dX7_image_184 : decode cX7_image 184 = .ok (.getfield 48, 3) := by decide +kernel
theorem dX7_image_187 : decode cX7_image 187 = .ok (.iload_n 3, 1) := by decide +kernel
theorem dX7_image_188 : decode cX7_image 188 = .ok (.baload, 1) := by decide +kernel
theorem dX7_image_189 : decode cX7_image 189 = .ok (.ifCond .eq 7, 3) := by decide +kernel
theorem dX7_image_192 : decode cX7_image 192 = .ok (.iconst 1, 1) := by decide +kernel
theorem dX7_image_193 : decode cX7_image 193 = .ok (.goto 4, 3) := by decide +kernel
theorem dX7_image_196 : decode cX7_image 196 = .ok (.iconst 0, 1) := by decide +kernel
theorem dX7_image_197 : decode cX7_image 197 = .ok (.iastore, 1) := by decide +kernel
theorem dX7_image_198 : decode cX7_image 198 = .ok (.iinc 3 1, 3) := by decide +kernel
theorem dX7_image_201 : decode cX7_image 201 = .ok (.goto (-105), 3) := by decide +kernel
theorem dX7_image_204 : decode cX7_image 204 = .ok (.iconst 0, 1) := by decide +kernel
theorem dX7_image_205 : decode cX7_image 205 = .ok (.istore_n 3, 1) := by decide +kernel
theorem dX7_image_206 : decode cX7_image 206 = .ok (.iload_n 3, 1) := by decide +kernel
theorem dX7_image_207 : decode cX7_image 207 = .ok (.aload_n 0, 1) := by decide +kernel
theorem dX7_image_208 : decode cX7_image 208 = .ok (.getfield 313, 3) := by decide +kernel
theorem dX7_image_211 : decode cX7_image 211 = .ok (.if_icmp .ge 49, 3) := by decide +kernel
theorem dX7_image_214 : decode cX7_image 214 = .ok (.iconst 0, 1) := by decide +kernel
theorem dX7_image_215 : decode cX7_image 215 = .ok (.istore 4, 2) := by decide +kernel
theorem dX7_image_217 : decode cX7_image 217 = .ok (.iload 4, 2) := by decide +kernel
theorem dX7_image_219 : decode cX7_image 219 = .ok (.bipush 14, 2) := by decide +kernel
theorem dX7_image_221 : decode cX7_image 221 = .ok (.if_icmp .ge 33, 3) := by decide +kernel
theorem dX7_image_224 : decode cX7_image 224 = .ok (.aload_n 0, 1) := by decide +kernel
theorem dX7_image_225 : decode cX7_image 225 = .ok (.getfield 94, 3) := by decide +kernel
theorem dX7_image_228 : decode cX7_image 228 = .ok (.sipush 200, 3) := by decide +kernel
theorem dX7_image_231 : decode cX7_image 231 = .ok (.iload_n 1, 1) := by decide +kernel
theorem dX7_image_232 : decode cX7_image 232 = .ok (.imul, 1) := by decide +kernel
theorem dX7_image_233 : decode cX7_image 233 = .ok (.iload_n 3, 1) := by decide +kernel
theorem dX7_image_234 : decode cX7_image 234 = .ok (.iadd, 1) := by decide +kernel
theorem dX7_image_235 : decode cX7_image 235 = .ok (.aaload, 1) := by decide +kernel
theorem dX7_image_236 : decode cX7_image 236 = .ok (.iload 4, 2) := by decide +kernel
theorem dX7_image_238 : decode cX7_image 238 = .ok (.aload_n 0, 1) := by decide +kernel
theorem dX7_image_239 : decode cX7_image 239 = .ok (.getfield 73, 3) := by decide +kernel
theorem dX7_image_242 : decode cX7_image 242 = .ok (.iload_n 3, 1) := by decide +kernel
theorem dX7_image_243 : decode cX7_image 243 = .ok (.aaload, 1) := by decide +kernel
theorem dX7_image_244 : decode cX7_image 244 = .ok (.iload 4, 2) := by decide +kernel
theorem dX7_image_246 : decode cX7_image 246 = .ok (.iaload, 1) := by decide +kernel
theorem dX7_image_247 : decode cX7_image 247 = .ok (.iastore, 1) := by decide +kernel
theorem dX7_image_248 : decode cX7_image 248 = .ok (.iinc 4 1, 3) := by decide +kernel
theorem dX7_image_251 : decode cX7_image 251 = .ok (.goto (-34), 3) := by decide +kernel
theorem dX7_image_254 : decode cX7_image 254 = .ok (.iinc 3 1, 3) := by decide +kernel
theorem dX7_image_257 : decode cX7_image 257 = .ok (.goto (-51), 3) := by decide +kernel
theorem dX7_image_260 : decode cX7_image 260 = .ok (.aload_n 0, 1) := by decide +kernel
theorem dX7_image_261 : decode cX7_image 261 = .ok (.dup, 1) := by decide +kernel
theorem dX7_image_262 : decode cX7_image 262 = .ok (.getfield 365, 3) := by decide +kernel
theorem dX7_image_265 : decode cX7_image 265 = .ok (.iconst 1, 1) := by decide +kernel
theorem dX7_image_266 : decode cX7_image 266 = .ok (.iadd, 1) := by decide +kernel
theorem dX7_image_267 : decode cX7_image 267 = .ok (.putfield 365, 3) := by decide +kernel
theorem dX7_image_270 : decode cX7_image 270 = .ok (.aload_n 0, 1) := by decide +kernel
theorem dX7_image_271 : decode cX7_image 271 = .ok (.getfield 365, 3) := by decide +kernel
theorem dX7_image_274 : decode cX7_image 274 = .ok (.ireturn, 1) := by decide +kernel
noncomputable def B_X7_image_197 (k96 : (Int32 × Int32) → fS → Option (Int32 × fS)) (a1 : Int32) (a3 : Int32) (t0 : Int32) (t1 : Int32) (t2 : Nat) (S : fS) : Option (Int32 × fS) := gd (ib t1 24) (sv (pu S 69 t2 (t1 : Int32).toNatClampNeg t0) (fun S2 => iv (a3 + Int32.ofInt 1) (fun x3 => k96 (a1, x3) S2)))
noncomputable def B_X7_image_217 (k206 : (Int32 × Int32) → fS → Option (Int32 × fS)) (k217 : (Int32 × Int32 × Int32) → fS → Option (Int32 × fS)) : (Int32 × Int32 × Int32) → fS → Option (Int32 × fS) := fun ⟨a1, a3, a4⟩ S => bb ((14 : Int32) ≤ a4) (iv (a3 + Int32.ofInt 1) (fun x5 => k206 (a1, x5) S)) (iv ((200 : Int32) * a1) (fun x6 => iv (x6 + a3) (fun x7 => gd (ib x7 600) (gd (ib a3 200) (gd (ib a4 14) (iv (ge S 57 (a3.toNatClampNeg) (a4 : Int32).toNatClampNeg) (fun x11 => gd (ib a4 14) (sv (pu S 71 (x7.toNatClampNeg) (a4 : Int32).toNatClampNeg x11) (fun S13 => iv (a4 + Int32.ofInt 1) (fun x14 => k217 (a1, a3, x14) S13))))))))))
noncomputable def B_X7_image_206 (k206 : (Int32 × Int32) → fS → Option (Int32 × fS)) : (Int32 × Int32) → fS → Option (Int32 × fS) := fun ⟨a1, a3⟩ S => iv (ge S 40 0 46) (fun x15 => bb (x15 ≤ a3) (iv (ge S 40 0 56) (fun x17 => iv (x17 + (1 : Int32)) (fun x18 => sv (pu S 40 0 56 x18) (fun S19 => iv (ge S19 40 0 56) (fun x20 => some (x20, S19)))))) (lp (B_X7_image_217 k206) fuel (a1, a3, 0) S))
noncomputable def B_X7_image_96 (k96 : (Int32 × Int32) → fS → Option (Int32 × fS)) : (Int32 × Int32) → fS → Option (Int32 × fS) := fun ⟨a1, a3⟩ S => bb ((24 : Int32) ≤ a3) (lp (B_X7_image_206 ) fuel (a1, 0) S) (iv ((5 : Int32) * a1) (fun x22 => gd (ib x22 15) (gd (ib a3 24) (iv (ge S 46 0 (a3 : Int32).toNatClampNeg) (fun x25 => gd (ib a3 24) (sv (pu S 69 (x22.toNatClampNeg) (a3 : Int32).toNatClampNeg x25) (fun S27 => iv ((5 : Int32) * a1) (fun x28 => iv (x28 + (1 : Int32)) (fun x29 => gd (ib x29 15) (gd (ib a3 24) (iv (ge S27 47 0 (a3 : Int32).toNatClampNeg) (fun x32 => gd (ib a3 24) (sv (pu S27 69 (x29.toNatClampNeg) (a3 : Int32).toNatClampNeg x32) (fun S34 => iv ((5 : Int32) * a1) (fun x35 => iv (x35 + (2 : Int32)) (fun x36 => gd (ib x36 15) (gd (ib a3 24) (iv (ge S34 48 0 (a3 : Int32).toNatClampNeg) (fun x39 => gd (ib a3 24) (sv (pu S34 69 (x36.toNatClampNeg) (a3 : Int32).toNatClampNeg x39) (fun S41 => iv ((5 : Int32) * a1) (fun x42 => iv (x42 + (3 : Int32)) (fun x43 => gd (ib x43 15) (gd (ib a3 24) (iv (ge S41 49 0 (a3 : Int32).toNatClampNeg) (fun x46 => gd (ib a3 24) (sv (pu S41 69 (x43.toNatClampNeg) (a3 : Int32).toNatClampNeg x46) (fun S48 => iv ((5 : Int32) * a1) (fun x49 => iv (x49 + (4 : Int32)) (fun x50 => gd (ib x50 15) (gd (ib a3 24) (iv (ge S48 51 0 (a3 : Int32).toNatClampNeg) (fun x53 => bb (x53 = (0 : Int32)) (B_X7_image_197 k96 a1 a3 0 a3 (x50.toNatClampNeg) S48) (B_X7_image_197 k96 a1 a3 1 a3 (x50.toNatClampNeg) S48))))))))))))))))))))))))))))))))))
noncomputable def F_X7_image  (S0 : fS) : Option (Int32 × fS) := sv (pu S0 40 0 0 0) (fun S55 => iv (ge S55 40 0 56) (fun x56 => bb (x56 = (3 : Int32)) (some ((-1), S55)) (iv (ge S55 40 0 56) (fun x58 => bd (F_X7_lays x58 S55) (fun v59 S60 => gd (ib x58 4) (iv (ge S60 40 0 30) (fun x63 => sv (pu S60 67 (x58.toNatClampNeg) (4 : Int32).toNatClampNeg x63) (fun S64 => iv (ge S64 40 0 31) (fun x65 => sv (pu S64 67 (x58.toNatClampNeg) (5 : Int32).toNatClampNeg x65) (fun S66 => iv (ge S66 40 0 32) (fun x67 => sv (pu S66 67 (x58.toNatClampNeg) (6 : Int32).toNatClampNeg x67) (fun S68 => iv (ge S68 40 0 33) (fun x69 => sv (pu S68 67 (x58.toNatClampNeg) (7 : Int32).toNatClampNeg x69) (fun S70 => iv (ge S70 40 0 34) (fun x71 => sv (pu S70 67 (x58.toNatClampNeg) (8 : Int32).toNatClampNeg x71) (fun S72 => iv (ge S72 40 0 46) (fun x73 => iv ((100 : Int32) * x73) (fun x74 => iv (ge S72 40 0 21) (fun x75 => iv (x74 + x75) (fun x76 => sv (pu S72 67 (x58.toNatClampNeg) (9 : Int32).toNatClampNeg x76) (fun S77 => iv (ge S77 40 0 15) (fun x78 => sv (pu S77 67 (x58.toNatClampNeg) (10 : Int32).toNatClampNeg x78) (fun S79 => lp (B_X7_image_96 ) fuel (x58, 0) S79)))))))))))))))))))))))
set_option maxHeartbeats 4000000 in
set_option maxRecDepth 100000 in
theorem c_X7_image (l : Launch) (D : va_G) (K : Nat → ClassId) (b0 : Nat) (sa : sT) (sz : Nat) (L : List Nat) (f0 : Nat → va_E) (ad : Nat → Nat → Nat) (P : Nat → Nat → Prop) {n : Nat × Nat} (hP : ∀ a i : Nat, isn n a i → P a i) (S0 : fS) (hw : PW K ad P S0 L f0) (hn : S0.2.2.1 = n)  (v : Int32) (S1 : fS) (h : F_X7_image  S0 = some (v, S1)) : Met l yX7_image (.code yX7_image cX7_image 5 (some .int) :: gt) { frames := 1, cells := 0, slots := 0, locals := 23 } (va_Pc [.ref (ad 40 0)] (hPre D K b0 sa sz L f0)) (hQ D K b0 (fun v9 u9 => ∃ f2 : Nat → va_E, v9 = some (.int v) ∧ u9 = lU L f2 ∧ PW K ad P S1 L f2 ∧ S1.2.2.1 = n ∧ Kp ad P L f0 f2)) 0 0 (fun q => b0 ≤ q) := by
  refine t_of (own := RX7) (by decide) rfl ?_ (Nat.le_of_ble_eq_true rfl)
  intro p e s m below meth c ls C w hsz hr hlk hnm hl
  have hx := C.1
  have hb := C.2.1
  have hl : lv_has ls 5 [(0, .ref (ad 40 0))] := hl
  have J197 : ∀ (k96 : (Int32 × Int32) → fS → Option (Int32 × fS)) (hk96 : ∀ (a1 : Int32) (a3 : Int32) (S : fS), k96 (a1, a3) S = some (v, S1) → Gw D K b0 sa ad P n L f0 p l e { frames := 1, cells := 0, slots := 0, locals := 23 } s m [.ref (ad 40 0)].toArray below meth c 5 (MQ below (hQ D K b0 (fun v9 u9 => ∃ f2 : Nat → va_E, v9 = some (.int v) ∧ u9 = lU L f2 ∧ PW K ad P S1 L f2 ∧ S1.2.2.1 = n ∧ Kp ad P L f0 f2)) [.ref (ad 40 0)].toArray s 0 0 (fun q => b0 ≤ q)) 0 0 96 [(0, .ref (ad 40 0)), (1, .int a1), (3, .int a3)] [] S) (a1 : Int32) (a3 : Int32) (t0 : Int32) (t1 : Int32) (t2 : Nat) (ht2 : t2 < 15) (S : fS), B_X7_image_197 k96 a1 a3 t0 t1 t2 S = some (v, S1) → Gw D K b0 sa ad P n L f0 p l e { frames := 1, cells := 0, slots := 0, locals := 23 } s m [.ref (ad 40 0)].toArray below meth c 5 (MQ below (hQ D K b0 (fun v9 u9 => ∃ f2 : Nat → va_E, v9 = some (.int v) ∧ u9 = lU L f2 ∧ PW K ad P S1 L f2 ∧ S1.2.2.1 = n ∧ Kp ad P L f0 f2)) [.ref (ad 40 0)].toArray s 0 0 (fun q => b0 ≤ q)) 0 0 197 [(0, .ref (ad 40 0)), (1, .int a1), (3, .int a3)] [.int t0, .int t1, .ref (ad 69 t2)] S := by
    intro k96 hk96 a1 a3 t0 t1 t2 ht2 S h
    dsimp only [B_X7_image_197] at h
    intro f H locs w hw hn hk ls hl
    obtain ⟨g1, h⟩ := gd_some h
    refine u_iast C w hw (hP _ _ (isn_f rfl rfl ht2)) rfl rfl (n := 24) rfl (vp_in_iff.mpr g1) dX7_image_197 (fun f H locs w hw hk1 => ?_)
    have hk := hk.tr hk1
    refine u_sv h hw hn (fun S2 h hw hn => ?_)
    obtain ⟨x3, ex3, h⟩ := iv_some h
    refine lv_iinc (v := x3) (lv' := [(3, .int x3), (0, .ref (ad 40 0)), (1, .int a1)]) hx hb dX7_image_198 hl (k := 2) rfl ex3.symm (by decide) rfl (fun ls hl => ?_)
    refine lv_goto (tgt := 96) hx hb dX7_image_201 (by decide) ?_
    exact hk96 a1 x3 S2 h f H locs w hw hn hk ls (lv_sub hl [1, 2, 0] rfl)
  have J217 : ∀ (k206 : (Int32 × Int32) → fS → Option (Int32 × fS)) (hk206 : ∀ (a1 : Int32) (a3 : Int32) (S : fS), k206 (a1, a3) S = some (v, S1) → Gw D K b0 sa ad P n L f0 p l e { frames := 1, cells := 0, slots := 0, locals := 23 } s m [.ref (ad 40 0)].toArray below meth c 5 (MQ below (hQ D K b0 (fun v9 u9 => ∃ f2 : Nat → va_E, v9 = some (.int v) ∧ u9 = lU L f2 ∧ PW K ad P S1 L f2 ∧ S1.2.2.1 = n ∧ Kp ad P L f0 f2)) [.ref (ad 40 0)].toArray s 0 0 (fun q => b0 ≤ q)) 0 0 206 [(0, .ref (ad 40 0)), (1, .int a1), (3, .int a3)] [] S) (fu : Nat) (a1 : Int32) (a3 : Int32) (a4 : Int32) (S : fS), lp (B_X7_image_217 k206) fu (a1, a3, a4) S = some (v, S1) → Gw D K b0 sa ad P n L f0 p l e { frames := 1, cells := 0, slots := 0, locals := 23 } s m [.ref (ad 40 0)].toArray below meth c 5 (MQ below (hQ D K b0 (fun v9 u9 => ∃ f2 : Nat → va_E, v9 = some (.int v) ∧ u9 = lU L f2 ∧ PW K ad P S1 L f2 ∧ S1.2.2.1 = n ∧ Kp ad P L f0 f2)) [.ref (ad 40 0)].toArray s 0 0 (fun q => b0 ≤ q)) 0 0 217 [(0, .ref (ad 40 0)), (1, .int a1), (3, .int a3), (4, .int a4)] [] S := by
    intro k206 hk206 fu a1 a3 a4 S h
    refine lp_some (G := (fun q S => Gw D K b0 sa ad P n L f0 p l e { frames := 1, cells := 0, slots := 0, locals := 23 } s m [.ref (ad 40 0)].toArray below meth c 5 (MQ below (hQ D K b0 (fun v9 u9 => ∃ f2 : Nat → va_E, v9 = some (.int v) ∧ u9 = lU L f2 ∧ PW K ad P S1 L f2 ∧ S1.2.2.1 = n ∧ Kp ad P L f0 f2)) [.ref (ad 40 0)].toArray s 0 0 (fun q => b0 ≤ q)) 0 0 217 [(0, .ref (ad 40 0)), (1, .int q.1), (3, .int q.2.1), (4, .int q.2.2)] [] S)) (fun k217 hk217 q S h => ?_) fu (a1, a3, a4) S h
    obtain ⟨a1, a3, a4⟩ := q
    have hk217 : ∀ (a1 : Int32) (a3 : Int32) (a4 : Int32) (S : fS), k217 (a1, a3, a4) S = some (v, S1) → Gw D K b0 sa ad P n L f0 p l e { frames := 1, cells := 0, slots := 0, locals := 23 } s m [.ref (ad 40 0)].toArray below meth c 5 (MQ below (hQ D K b0 (fun v9 u9 => ∃ f2 : Nat → va_E, v9 = some (.int v) ∧ u9 = lU L f2 ∧ PW K ad P S1 L f2 ∧ S1.2.2.1 = n ∧ Kp ad P L f0 f2)) [.ref (ad 40 0)].toArray s 0 0 (fun q => b0 ≤ q)) 0 0 217 [(0, .ref (ad 40 0)), (1, .int a1), (3, .int a3), (4, .int a4)] [] S := fun a1 a3 a4 S h => hk217 (a1, a3, a4) S h
    dsimp only [B_X7_image_217] at h
    intro f H locs w hw hn hk ls hl
    refine lv_iload hx hb dX7_image_217 (lv_at hl 3 rfl) ?_
    refine lv_bipush (v := 14) hx hb dX7_image_219 (by decide) ?_
    refine lv_icmp_ge (tgt := 254) hx hb dX7_image_221 (by decide) (fun c4 => ?_) (fun c4 => ?_)
    · have h := bb_t h c4
      obtain ⟨x5, ex5, h⟩ := iv_some h
      refine lv_iinc (v := x5) (lv' := [(3, .int x5), (0, .ref (ad 40 0)), (1, .int a1), (4, .int a4)]) hx hb dX7_image_254 hl (k := 2) rfl ex5.symm (by decide) rfl (fun ls hl => ?_)
      refine lv_goto (tgt := 206) hx hb dX7_image_257 (by decide) ?_
      exact hk206 a1 x5 S h f H locs w hw hn hk ls (lv_sub hl [1, 2, 0] rfl)
    · have h := bb_f h c4
      refine lv_aload_n hx hb dX7_image_224 rfl (lv_at hl 0 rfl) ?_
      refine u_getr C w hw (hP _ _ (isn_f rfl rfl (by decide))) rfl (N := 57) rfl rfl cin_7 55 (by decide) (by decide) (a2 := 70) (i2 := 0) rfl gw_1211 dX7_image_225 ?_
      refine lv_sipush (v := 200) hx hb dX7_image_228 (by decide) ?_
      refine lv_iload_n hx hb dX7_image_231 rfl (lv_at hl 1 rfl) ?_
      refine lv_imul hx hb dX7_image_232 ?_
      refine u_iv h (fun x6 h => ?_)
      refine lv_iload_n hx hb dX7_image_233 rfl (lv_at hl 2 rfl) ?_
      refine lv_iadd hx hb dX7_image_234 ?_
      refine u_iv h (fun x7 h => ?_)
      obtain ⟨g8, h⟩ := gd_some h
      refine u_aald C w hw (hP _ _ (isn_f rfl rfl (by decide))) rfl rfl rfl (n := 600) rfl (vp_in_iff.mpr g8) (a2 := 71) (i2 := (x7.toNatClampNeg)) (by exact congrArg (Prod.mk _) (Nat.zero_add _)) dX7_image_235 ?_
      refine lv_iload hx hb dX7_image_236 (lv_at hl 3 rfl) ?_
      refine lv_aload_n hx hb dX7_image_238 rfl (lv_at hl 0 rfl) ?_
      refine u_getr C w hw (hP _ _ (isn_f rfl rfl (by decide))) rfl (N := 57) rfl rfl cin_7 47 (by decide) (by decide) (a2 := 56) (i2 := 0) rfl gw_1203 dX7_image_239 ?_
      refine lv_iload_n hx hb dX7_image_242 rfl (lv_at hl 2 rfl) ?_
      obtain ⟨g9, h⟩ := gd_some h
      refine u_aald C w hw (hP _ _ (isn_f rfl rfl (by decide))) rfl rfl rfl (n := 200) rfl (vp_in_iff.mpr g9) (a2 := 57) (i2 := (a3.toNatClampNeg)) (by exact congrArg (Prod.mk _) (Nat.zero_add _)) dX7_image_243 ?_
      refine lv_iload hx hb dX7_image_244 (lv_at hl 3 rfl) ?_
      obtain ⟨g10, h⟩ := gd_some h
      refine u_iald C w hw (hP _ _ (isn_f rfl rfl (ib_lt g9))) rfl rfl (n := 14) rfl (vp_in_iff.mpr g10) dX7_image_246 ?_
      refine u_iv h (fun x11 h => ?_)
      obtain ⟨g12, h⟩ := gd_some h
      refine u_iast C w hw (hP _ _ (isn_f rfl rfl (ib_lt g8))) rfl rfl (n := 14) rfl (vp_in_iff.mpr g12) dX7_image_247 (fun f H locs w hw hk1 => ?_)
      have hk := hk.tr hk1
      refine u_sv h hw hn (fun S13 h hw hn => ?_)
      obtain ⟨x14, ex14, h⟩ := iv_some h
      refine lv_iinc (v := x14) (lv' := [(4, .int x14), (0, .ref (ad 40 0)), (1, .int a1), (3, .int a3)]) hx hb dX7_image_248 hl (k := 3) rfl ex14.symm (by decide) rfl (fun ls hl => ?_)
      refine lv_goto (tgt := 217) hx hb dX7_image_251 (by decide) ?_
      exact hk217 a1 a3 x14 S13 h f H locs w hw hn hk ls (lv_sub hl [1, 2, 3, 0] rfl)
  have J206 : ∀ (fu : Nat) (a1 : Int32) (a3 : Int32) (S : fS), lp (B_X7_image_206 ) fu (a1, a3) S = some (v, S1) → Gw D K b0 sa ad P n L f0 p l e { frames := 1, cells := 0, slots := 0, locals := 23 } s m [.ref (ad 40 0)].toArray below meth c 5 (MQ below (hQ D K b0 (fun v9 u9 => ∃ f2 : Nat → va_E, v9 = some (.int v) ∧ u9 = lU L f2 ∧ PW K ad P S1 L f2 ∧ S1.2.2.1 = n ∧ Kp ad P L f0 f2)) [.ref (ad 40 0)].toArray s 0 0 (fun q => b0 ≤ q)) 0 0 206 [(0, .ref (ad 40 0)), (1, .int a1), (3, .int a3)] [] S := by
    intro fu a1 a3 S h
    refine lp_some (G := (fun q S => Gw D K b0 sa ad P n L f0 p l e { frames := 1, cells := 0, slots := 0, locals := 23 } s m [.ref (ad 40 0)].toArray below meth c 5 (MQ below (hQ D K b0 (fun v9 u9 => ∃ f2 : Nat → va_E, v9 = some (.int v) ∧ u9 = lU L f2 ∧ PW K ad P S1 L f2 ∧ S1.2.2.1 = n ∧ Kp ad P L f0 f2)) [.ref (ad 40 0)].toArray s 0 0 (fun q => b0 ≤ q)) 0 0 206 [(0, .ref (ad 40 0)), (1, .int q.1), (3, .int q.2)] [] S)) (fun k206 hk206 q S h => ?_) fu (a1, a3) S h
    obtain ⟨a1, a3⟩ := q
    have hk206 : ∀ (a1 : Int32) (a3 : Int32) (S : fS), k206 (a1, a3) S = some (v, S1) → Gw D K b0 sa ad P n L f0 p l e { frames := 1, cells := 0, slots := 0, locals := 23 } s m [.ref (ad 40 0)].toArray below meth c 5 (MQ below (hQ D K b0 (fun v9 u9 => ∃ f2 : Nat → va_E, v9 = some (.int v) ∧ u9 = lU L f2 ∧ PW K ad P S1 L f2 ∧ S1.2.2.1 = n ∧ Kp ad P L f0 f2)) [.ref (ad 40 0)].toArray s 0 0 (fun q => b0 ≤ q)) 0 0 206 [(0, .ref (ad 40 0)), (1, .int a1), (3, .int a3)] [] S := fun a1 a3 S h => hk206 (a1, a3) S h
    dsimp only [B_X7_image_206] at h
    intro f H locs w hw hn hk ls hl
    refine lv_iload_n hx hb dX7_image_206 rfl (lv_at hl 2 rfl) ?_
    refine lv_aload_n hx hb dX7_image_207 rfl (lv_at hl 0 rfl) ?_
    refine u_geti C w hw (hP _ _ (isn_f rfl rfl (by decide))) rfl (N := 57) rfl rfl cin_7 46 (by decide) rfl gw_1202 dX7_image_208 ?_
    refine u_iv h (fun x15 h => ?_)
    refine lv_icmp_ge (tgt := 260) hx hb dX7_image_211 (by decide) (fun c16 => ?_) (fun c16 => ?_)
    · have h := bb_t h c16
      refine lv_aload_n hx hb dX7_image_260 rfl (lv_at hl 0 rfl) ?_
      refine lv_dup hx hb dX7_image_261 rfl ?_
      refine u_geti C w hw (hP _ _ (isn_f rfl rfl (by decide))) rfl (N := 57) rfl rfl cin_7 56 (by decide) rfl gw_1212 dX7_image_262 ?_
      refine u_iv h (fun x17 h => ?_)
      refine lv_iconst (v := 1) hx hb dX7_image_265 (by decide) ?_
      refine lv_iadd hx hb dX7_image_266 ?_
      refine u_iv h (fun x18 h => ?_)
      refine u_puti C w hw (hP _ _ (isn_f rfl rfl (by decide))) rfl (N := 57) rfl rfl cin_7 tyX7 tyX7_ok nmX7 56 (by decide) rfl rfl rfl rfl gw_1212 dX7_image_267 (fun f H locs w hw hk1 => ?_)
      have hk := hk.tr hk1
      refine u_sv h hw hn (fun S19 h hw hn => ?_)
      refine lv_aload_n hx hb dX7_image_270 rfl (lv_at hl 0 rfl) ?_
      refine u_geti C w hw (hP _ _ (isn_f rfl rfl (by decide))) rfl (N := 57) rfl rfl cin_7 56 (by decide) rfl gw_1212 dX7_image_271 ?_
      refine u_iv h (fun x20 h => ?_)
      exact t_iret C hr hlk w ⟨_, so_v h, rfl, so_w h hw, so_n h hn, hk⟩ (by decide) (by decide) dX7_image_274
    · have h := bb_f h c16
      refine lv_iconst (v := 0) hx hb dX7_image_214 (by decide) ?_
      refine lv_istore (lv' := [(4, .int 0), (0, .ref (ad 40 0)), (1, .int a1), (3, .int a3)]) hx hb dX7_image_215 hl (by decide) rfl (fun ls hl => ?_)
      exact J217 k206 hk206 fuel a1 a3 0 S h f H locs w hw hn hk ls (lv_sub hl [1, 2, 3, 0] rfl)
  have J96 : ∀ (fu : Nat) (a1 : Int32) (a3 : Int32) (S : fS), lp (B_X7_image_96 ) fu (a1, a3) S = some (v, S1) → Gw D K b0 sa ad P n L f0 p l e { frames := 1, cells := 0, slots := 0, locals := 23 } s m [.ref (ad 40 0)].toArray below meth c 5 (MQ below (hQ D K b0 (fun v9 u9 => ∃ f2 : Nat → va_E, v9 = some (.int v) ∧ u9 = lU L f2 ∧ PW K ad P S1 L f2 ∧ S1.2.2.1 = n ∧ Kp ad P L f0 f2)) [.ref (ad 40 0)].toArray s 0 0 (fun q => b0 ≤ q)) 0 0 96 [(0, .ref (ad 40 0)), (1, .int a1), (3, .int a3)] [] S := by
    intro fu a1 a3 S h
    refine lp_some (G := (fun q S => Gw D K b0 sa ad P n L f0 p l e { frames := 1, cells := 0, slots := 0, locals := 23 } s m [.ref (ad 40 0)].toArray below meth c 5 (MQ below (hQ D K b0 (fun v9 u9 => ∃ f2 : Nat → va_E, v9 = some (.int v) ∧ u9 = lU L f2 ∧ PW K ad P S1 L f2 ∧ S1.2.2.1 = n ∧ Kp ad P L f0 f2)) [.ref (ad 40 0)].toArray s 0 0 (fun q => b0 ≤ q)) 0 0 96 [(0, .ref (ad 40 0)), (1, .int q.1), (3, .int q.2)] [] S)) (fun k96 hk96 q S h => ?_) fu (a1, a3) S h
    obtain ⟨a1, a3⟩ := q
    have hk96 : ∀ (a1 : Int32) (a3 : Int32) (S : fS), k96 (a1, a3) S = some (v, S1) → Gw D K b0 sa ad P n L f0 p l e { frames := 1, cells := 0, slots := 0, locals := 23 } s m [.ref (ad 40 0)].toArray below meth c 5 (MQ below (hQ D K b0 (fun v9 u9 => ∃ f2 : Nat → va_E, v9 = some (.int v) ∧ u9 = lU L f2 ∧ PW K ad P S1 L f2 ∧ S1.2.2.1 = n ∧ Kp ad P L f0 f2)) [.ref (ad 40 0)].toArray s 0 0 (fun q => b0 ≤ q)) 0 0 96 [(0, .ref (ad 40 0)), (1, .int a1), (3, .int a3)] [] S := fun a1 a3 S h => hk96 (a1, a3) S h
    dsimp only [B_X7_image_96] at h
    intro f H locs w hw hn hk ls hl
    refine lv_iload_n hx hb dX7_image_96 rfl (lv_at hl 2 rfl) ?_
    refine lv_bipush (v := 24) hx hb dX7_image_97 (by decide) ?_
    refine lv_icmp_ge (tgt := 204) hx hb dX7_image_99 (by decide) (fun c21 => ?_) (fun c21 => ?_)
    · have h := bb_t h c21
      refine lv_iconst (v := 0) hx hb dX7_image_204 (by decide) ?_
      refine lv_istore_n (lv' := [(3, .int 0), (0, .ref (ad 40 0)), (1, .int a1)]) hx hb dX7_image_205 rfl hl (by decide) rfl (fun ls hl => ?_)
      exact J206  fuel a1 0 S h f H locs w hw hn hk ls (lv_sub hl [1, 2, 0] rfl)
    · have h := bb_f h c21
      refine lv_aload_n hx hb dX7_image_102 rfl (lv_at hl 0 rfl) ?_
      refine u_getr C w hw (hP _ _ (isn_f rfl rfl (by decide))) rfl (N := 57) rfl rfl cin_7 54 (by decide) (by decide) (a2 := 68) (i2 := 0) rfl gw_1210 dX7_image_103 ?_
      refine lv_iconst (v := 5) hx hb dX7_image_106 (by decide) ?_
      refine lv_iload_n hx hb dX7_image_107 rfl (lv_at hl 1 rfl) ?_
      refine lv_imul hx hb dX7_image_108 ?_
      refine u_iv h (fun x22 h => ?_)
      obtain ⟨g23, h⟩ := gd_some h
      refine u_aald C w hw (hP _ _ (isn_f rfl rfl (by decide))) rfl rfl rfl (n := 15) rfl (vp_in_iff.mpr g23) (a2 := 69) (i2 := (x22.toNatClampNeg)) (by exact congrArg (Prod.mk _) (Nat.zero_add _)) dX7_image_109 ?_
      refine lv_iload_n hx hb dX7_image_110 rfl (lv_at hl 2 rfl) ?_
      refine lv_aload_n hx hb dX7_image_111 rfl (lv_at hl 0 rfl) ?_
      refine u_getr C w hw (hP _ _ (isn_f rfl rfl (by decide))) rfl (N := 57) rfl rfl cin_7 22 (by decide) (by decide) (a2 := 46) (i2 := 0) rfl gw_1178 dX7_image_112 ?_
      refine lv_iload_n hx hb dX7_image_115 rfl (lv_at hl 2 rfl) ?_
      obtain ⟨g24, h⟩ := gd_some h
      refine u_iald C w hw (hP _ _ (isn_f rfl rfl (by decide))) rfl rfl (n := 24) rfl (vp_in_iff.mpr g24) dX7_image_116 ?_
      refine u_iv h (fun x25 h => ?_)
      obtain ⟨g26, h⟩ := gd_some h
      refine u_iast C w hw (hP _ _ (isn_f rfl rfl (ib_lt g23))) rfl rfl (n := 24) rfl (vp_in_iff.mpr g26) dX7_image_117 (fun f H locs w hw hk1 => ?_)
      have hk := hk.tr hk1
      refine u_sv h hw hn (fun S27 h hw hn => ?_)
      refine lv_aload_n hx hb dX7_image_118 rfl (lv_at hl 0 rfl) ?_
      refine u_getr C w hw (hP _ _ (isn_f rfl rfl (by decide))) rfl (N := 57) rfl rfl cin_7 54 (by decide) (by decide) (a2 := 68) (i2 := 0) rfl gw_1210 dX7_image_119 ?_
      refine lv_iconst (v := 5) hx hb dX7_image_122 (by decide) ?_
      refine lv_iload_n hx hb dX7_image_123 rfl (lv_at hl 1 rfl) ?_
      refine lv_imul hx hb dX7_image_124 ?_
      refine u_iv h (fun x28 h => ?_)
      refine lv_iconst (v := 1) hx hb dX7_image_125 (by decide) ?_
      refine lv_iadd hx hb dX7_image_126 ?_
      refine u_iv h (fun x29 h => ?_)
      obtain ⟨g30, h⟩ := gd_some h
      refine u_aald C w hw (hP _ _ (isn_f rfl rfl (by decide))) rfl rfl rfl (n := 15) rfl (vp_in_iff.mpr g30) (a2 := 69) (i2 := (x29.toNatClampNeg)) (by exact congrArg (Prod.mk _) (Nat.zero_add _)) dX7_image_127 ?_
      refine lv_iload_n hx hb dX7_image_128 rfl (lv_at hl 2 rfl) ?_
      refine lv_aload_n hx hb dX7_image_129 rfl (lv_at hl 0 rfl) ?_
      refine u_getr C w hw (hP _ _ (isn_f rfl rfl (by decide))) rfl (N := 57) rfl rfl cin_7 23 (by decide) (by decide) (a2 := 47) (i2 := 0) rfl gw_1179 dX7_image_130 ?_
      refine lv_iload_n hx hb dX7_image_133 rfl (lv_at hl 2 rfl) ?_
      obtain ⟨g31, h⟩ := gd_some h
      refine u_iald C w hw (hP _ _ (isn_f rfl rfl (by decide))) rfl rfl (n := 24) rfl (vp_in_iff.mpr g31) dX7_image_134 ?_
      refine u_iv h (fun x32 h => ?_)
      obtain ⟨g33, h⟩ := gd_some h
      refine u_iast C w hw (hP _ _ (isn_f rfl rfl (ib_lt g30))) rfl rfl (n := 24) rfl (vp_in_iff.mpr g33) dX7_image_135 (fun f H locs w hw hk1 => ?_)
      have hk := hk.tr hk1
      refine u_sv h hw hn (fun S34 h hw hn => ?_)
      refine lv_aload_n hx hb dX7_image_136 rfl (lv_at hl 0 rfl) ?_
      refine u_getr C w hw (hP _ _ (isn_f rfl rfl (by decide))) rfl (N := 57) rfl rfl cin_7 54 (by decide) (by decide) (a2 := 68) (i2 := 0) rfl gw_1210 dX7_image_137 ?_
      refine lv_iconst (v := 5) hx hb dX7_image_140 (by decide) ?_
      refine lv_iload_n hx hb dX7_image_141 rfl (lv_at hl 1 rfl) ?_
      refine lv_imul hx hb dX7_image_142 ?_
      refine u_iv h (fun x35 h => ?_)
      refine lv_iconst (v := 2) hx hb dX7_image_143 (by decide) ?_
      refine lv_iadd hx hb dX7_image_144 ?_
      refine u_iv h (fun x36 h => ?_)
      obtain ⟨g37, h⟩ := gd_some h
      refine u_aald C w hw (hP _ _ (isn_f rfl rfl (by decide))) rfl rfl rfl (n := 15) rfl (vp_in_iff.mpr g37) (a2 := 69) (i2 := (x36.toNatClampNeg)) (by exact congrArg (Prod.mk _) (Nat.zero_add _)) dX7_image_145 ?_
      refine lv_iload_n hx hb dX7_image_146 rfl (lv_at hl 2 rfl) ?_
      refine lv_aload_n hx hb dX7_image_147 rfl (lv_at hl 0 rfl) ?_
      refine u_getr C w hw (hP _ _ (isn_f rfl rfl (by decide))) rfl (N := 57) rfl rfl cin_7 24 (by decide) (by decide) (a2 := 48) (i2 := 0) rfl gw_1180 dX7_image_148 ?_
      refine lv_iload_n hx hb dX7_image_151 rfl (lv_at hl 2 rfl) ?_
      obtain ⟨g38, h⟩ := gd_some h
      refine u_iald C w hw (hP _ _ (isn_f rfl rfl (by decide))) rfl rfl (n := 24) rfl (vp_in_iff.mpr g38) dX7_image_152 ?_
      refine u_iv h (fun x39 h => ?_)
      obtain ⟨g40, h⟩ := gd_some h
      refine u_iast C w hw (hP _ _ (isn_f rfl rfl (ib_lt g37))) rfl rfl (n := 24) rfl (vp_in_iff.mpr g40) dX7_image_153 (fun f H locs w hw hk1 => ?_)
      have hk := hk.tr hk1
      refine u_sv h hw hn (fun S41 h hw hn => ?_)
      refine lv_aload_n hx hb dX7_image_154 rfl (lv_at hl 0 rfl) ?_
      refine u_getr C w hw (hP _ _ (isn_f rfl rfl (by decide))) rfl (N := 57) rfl rfl cin_7 54 (by decide) (by decide) (a2 := 68) (i2 := 0) rfl gw_1210 dX7_image_155 ?_
      refine lv_iconst (v := 5) hx hb dX7_image_158 (by decide) ?_
      refine lv_iload_n hx hb dX7_image_159 rfl (lv_at hl 1 rfl) ?_
      refine lv_imul hx hb dX7_image_160 ?_
      refine u_iv h (fun x42 h => ?_)
      refine lv_iconst (v := 3) hx hb dX7_image_161 (by decide) ?_
      refine lv_iadd hx hb dX7_image_162 ?_
      refine u_iv h (fun x43 h => ?_)
      obtain ⟨g44, h⟩ := gd_some h
      refine u_aald C w hw (hP _ _ (isn_f rfl rfl (by decide))) rfl rfl rfl (n := 15) rfl (vp_in_iff.mpr g44) (a2 := 69) (i2 := (x43.toNatClampNeg)) (by exact congrArg (Prod.mk _) (Nat.zero_add _)) dX7_image_163 ?_
      refine lv_iload_n hx hb dX7_image_164 rfl (lv_at hl 2 rfl) ?_
      refine lv_aload_n hx hb dX7_image_165 rfl (lv_at hl 0 rfl) ?_
      refine u_getr C w hw (hP _ _ (isn_f rfl rfl (by decide))) rfl (N := 57) rfl rfl cin_7 25 (by decide) (by decide) (a2 := 49) (i2 := 0) rfl gw_1181 dX7_image_166 ?_
      refine lv_iload_n hx hb dX7_image_169 rfl (lv_at hl 2 rfl) ?_
      obtain ⟨g45, h⟩ := gd_some h
      refine u_iald C w hw (hP _ _ (isn_f rfl rfl (by decide))) rfl rfl (n := 24) rfl (vp_in_iff.mpr g45) dX7_image_170 ?_
      refine u_iv h (fun x46 h => ?_)
      obtain ⟨g47, h⟩ := gd_some h
      refine u_iast C w hw (hP _ _ (isn_f rfl rfl (ib_lt g44))) rfl rfl (n := 24) rfl (vp_in_iff.mpr g47) dX7_image_171 (fun f H locs w hw hk1 => ?_)
      have hk := hk.tr hk1
      refine u_sv h hw hn (fun S48 h hw hn => ?_)
      refine lv_aload_n hx hb dX7_image_172 rfl (lv_at hl 0 rfl) ?_
      refine u_getr C w hw (hP _ _ (isn_f rfl rfl (by decide))) rfl (N := 57) rfl rfl cin_7 54 (by decide) (by decide) (a2 := 68) (i2 := 0) rfl gw_1210 dX7_image_173 ?_
      refine lv_iconst (v := 5) hx hb dX7_image_176 (by decide) ?_
      refine lv_iload_n hx hb dX7_image_177 rfl (lv_at hl 1 rfl) ?_
      refine lv_imul hx hb dX7_image_178 ?_
      refine u_iv h (fun x49 h => ?_)
      refine lv_iconst (v := 4) hx hb dX7_image_179 (by decide) ?_
      refine lv_iadd hx hb dX7_image_180 ?_
      refine u_iv h (fun x50 h => ?_)
      obtain ⟨g51, h⟩ := gd_some h
      refine u_aald C w hw (hP _ _ (isn_f rfl rfl (by decide))) rfl rfl rfl (n := 15) rfl (vp_in_iff.mpr g51) (a2 := 69) (i2 := (x50.toNatClampNeg)) (by exact congrArg (Prod.mk _) (Nat.zero_add _)) dX7_image_181 ?_
      refine lv_iload_n hx hb dX7_image_182 rfl (lv_at hl 2 rfl) ?_
      refine lv_aload_n hx hb dX7_image_183 rfl (lv_at hl 0 rfl) ?_
      refine u_getr C w hw (hP _ _ (isn_f rfl rfl (by decide))) rfl (N := 57) rfl rfl cin_7 27 (by decide) (by decide) (a2 := 51) (i2 := 0) rfl gw_1183 dX7_image_184 ?_
      refine lv_iload_n hx hb dX7_image_187 rfl (lv_at hl 2 rfl) ?_
      obtain ⟨g52, h⟩ := gd_some h
      refine u_zald C w hw (hP _ _ (isn_f rfl rfl (by decide))) rfl rfl (n := 24) rfl (vp_in_iff.mpr g52) dX7_image_188 ?_
      refine u_iv h (fun x53 h => ?_)
      refine lv_if_eq (tgt := 196) hx hb dX7_image_189 (by decide) (fun c54 => ?_) (fun c54 => ?_)
      · have h := bb_t h c54
        refine lv_iconst (v := 0) hx hb dX7_image_196 (by decide) ?_
        exact J197 k96 hk96 a1 a3 0 a3 (x50.toNatClampNeg) (ib_lt g51) S48 h f H locs w hw hn hk ls (lv_sub hl [0, 1, 2] rfl)
      · have h := bb_f h c54
        refine lv_iconst (v := 1) hx hb dX7_image_192 (by decide) ?_
        refine lv_goto (tgt := 197) hx hb dX7_image_193 (by decide) ?_
        exact J197 k96 hk96 a1 a3 1 a3 (x50.toNatClampNeg) (ib_lt g51) S48 h f H locs w hw hn hk ls (lv_sub hl [0, 1, 2] rfl)
  dsimp only [F_X7_image] at h
  obtain ⟨f, ef⟩ : ∃ z, z = f0 := ⟨_, rfl⟩
  rw [← ef] at w hw
  have hk : Kp ad P L f0 f := by rw [ef]; exact Kp.rf
  obtain ⟨H, eH⟩ : ∃ z, z = s.heap := ⟨_, rfl⟩
  obtain ⟨locs, el⟩ : ∃ z : List Loc, z = [] := ⟨_, rfl⟩
  rw [← eH, ← el] at w ⊢
  refine lv_aload_n hx hb dX7_image_0 rfl (lv_at hl 0 rfl) ?_
  refine lv_iconst (v := 0) hx hb dX7_image_1 (by decide) ?_
  refine u_puti C w hw (hP _ _ (isn_f rfl rfl (by decide))) rfl (N := 57) rfl rfl cin_7 tyX7 tyX7_ok nmX7 0 (by decide) rfl rfl rfl rfl gw_1156 dX7_image_2 (fun f H locs w hw hk1 => ?_)
  have hk := hk.tr hk1
  refine u_sv h hw hn (fun S55 h hw hn => ?_)
  refine lv_aload_n hx hb dX7_image_5 rfl (lv_at hl 0 rfl) ?_
  refine u_geti C w hw (hP _ _ (isn_f rfl rfl (by decide))) rfl (N := 57) rfl rfl cin_7 56 (by decide) rfl gw_1212 dX7_image_6 ?_
  refine u_iv h (fun x56 h => ?_)
  refine lv_iconst (v := 3) hx hb dX7_image_9 (by decide) ?_
  refine lv_icmp_ne (tgt := 15) hx hb dX7_image_10 (by decide) (fun c57 => ?_) (fun c57 => ?_)
  · have h := bb_f h c57
    refine lv_aload_n hx hb dX7_image_15 rfl (lv_at hl 0 rfl) ?_
    refine u_geti C w hw (hP _ _ (isn_f rfl rfl (by decide))) rfl (N := 57) rfl rfl cin_7 56 (by decide) rfl gw_1212 dX7_image_16 ?_
    refine u_iv h (fun x58 h => ?_)
    refine lv_istore_n (lv' := [(1, .int x58), (0, .ref (ad 40 0))]) hx hb dX7_image_19 rfl hl (by decide) rfl (fun ls hl => ?_)
    refine lv_aload_n hx hb dX7_image_20 rfl (lv_at hl 1 rfl) ?_
    refine lv_iload_n hx hb dX7_image_21 rfl (lv_at hl 0 rfl) ?_
    obtain ⟨v59, S60, h61, h⟩ := bd_some h
    refine u_callV (n := 1) C w hw (hP _ _ (isn_f rfl rfl (by decide))) rfl rfl rfl (c_X7_lays l D K b0 sa _ L _ ad P hP S55 hw hn x58 v59 S60 h61) gw_1637 gw_1634 gw_1636 gs_64 gw_8 ⟨by decide, by decide, by decide +kernel⟩ rfl rfl ⟨by decide, by decide⟩ rfl hl.1 rfl (Nat.le_of_ble_eq_true rfl) dX7_image_22 ⟨Nat.le_of_ble_eq_true rfl, Nat.le_of_ble_eq_true rfl⟩ (fun v9 u H locs hp w => ?_)
    obtain ⟨f2, rfl, rfl, hw, hn, hk1⟩ := hp
    have hk := hk.tr hk1
    generalize f2 = f at w hw hk
    refine lv_aload_n hx hb dX7_image_25 rfl (lv_at hl 1 rfl) ?_
    refine u_getr C w hw (hP _ _ (isn_f rfl rfl (by decide))) rfl (N := 57) rfl rfl cin_7 53 (by decide) (by decide) (a2 := 66) (i2 := 0) rfl gw_1209 dX7_image_26 ?_
    refine lv_iload_n hx hb dX7_image_29 rfl (lv_at hl 0 rfl) ?_
    obtain ⟨g62, h⟩ := gd_some h
    refine u_aald C w hw (hP _ _ (isn_f rfl rfl (by decide))) rfl rfl rfl (n := 4) rfl (vp_in_iff.mpr g62) (a2 := 67) (i2 := (x58.toNatClampNeg)) (by exact congrArg (Prod.mk _) (Nat.zero_add _)) dX7_image_30 ?_
    refine lv_astore_n (lv' := [(2, .ref (ad 67 (x58.toNatClampNeg))), (1, .int x58), (0, .ref (ad 40 0))]) hx hb dX7_image_31 rfl hl (by decide) rfl (fun ls hl => ?_)
    refine lv_aload_n hx hb dX7_image_32 rfl (lv_at hl 0 rfl) ?_
    refine lv_iconst (v := 4) hx hb dX7_image_33 (by decide) ?_
    refine lv_aload_n hx hb dX7_image_34 rfl (lv_at hl 2 rfl) ?_
    refine u_geti C w hw (hP _ _ (isn_f rfl rfl (by decide))) rfl (N := 57) rfl rfl cin_7 30 (by decide) rfl gw_1186 dX7_image_35 ?_
    refine u_iv h (fun x63 h => ?_)
    refine u_iast C w hw (hP _ _ (isn_f rfl rfl (ib_lt g62))) rfl rfl (n := 11) rfl (vp_in_iff.mpr ⟨by decide, by decide⟩) dX7_image_38 (fun f H locs w hw hk1 => ?_)
    have hk := hk.tr hk1
    refine u_sv h hw hn (fun S64 h hw hn => ?_)
    refine lv_aload_n hx hb dX7_image_39 rfl (lv_at hl 0 rfl) ?_
    refine lv_iconst (v := 5) hx hb dX7_image_40 (by decide) ?_
    refine lv_aload_n hx hb dX7_image_41 rfl (lv_at hl 2 rfl) ?_
    refine u_geti C w hw (hP _ _ (isn_f rfl rfl (by decide))) rfl (N := 57) rfl rfl cin_7 31 (by decide) rfl gw_1187 dX7_image_42 ?_
    refine u_iv h (fun x65 h => ?_)
    refine u_iast C w hw (hP _ _ (isn_f rfl rfl (ib_lt g62))) rfl rfl (n := 11) rfl (vp_in_iff.mpr ⟨by decide, by decide⟩) dX7_image_45 (fun f H locs w hw hk1 => ?_)
    have hk := hk.tr hk1
    refine u_sv h hw hn (fun S66 h hw hn => ?_)
    refine lv_aload_n hx hb dX7_image_46 rfl (lv_at hl 0 rfl) ?_
    refine lv_bipush (v := 6) hx hb dX7_image_47 (by decide) ?_
    refine lv_aload_n hx hb dX7_image_49 rfl (lv_at hl 2 rfl) ?_
    refine u_geti C w hw (hP _ _ (isn_f rfl rfl (by decide))) rfl (N := 57) rfl rfl cin_7 32 (by decide) rfl gw_1188 dX7_image_50 ?_
    refine u_iv h (fun x67 h => ?_)
    refine u_iast C w hw (hP _ _ (isn_f rfl rfl (ib_lt g62))) rfl rfl (n := 11) rfl (vp_in_iff.mpr ⟨by decide, by decide⟩) dX7_image_53 (fun f H locs w hw hk1 => ?_)
    have hk := hk.tr hk1
    refine u_sv h hw hn (fun S68 h hw hn => ?_)
    refine lv_aload_n hx hb dX7_image_54 rfl (lv_at hl 0 rfl) ?_
    refine lv_bipush (v := 7) hx hb dX7_image_55 (by decide) ?_
    refine lv_aload_n hx hb dX7_image_57 rfl (lv_at hl 2 rfl) ?_
    refine u_geti C w hw (hP _ _ (isn_f rfl rfl (by decide))) rfl (N := 57) rfl rfl cin_7 33 (by decide) rfl gw_1189 dX7_image_58 ?_
    refine u_iv h (fun x69 h => ?_)
    refine u_iast C w hw (hP _ _ (isn_f rfl rfl (ib_lt g62))) rfl rfl (n := 11) rfl (vp_in_iff.mpr ⟨by decide, by decide⟩) dX7_image_61 (fun f H locs w hw hk1 => ?_)
    have hk := hk.tr hk1
    refine u_sv h hw hn (fun S70 h hw hn => ?_)
    refine lv_aload_n hx hb dX7_image_62 rfl (lv_at hl 0 rfl) ?_
    refine lv_bipush (v := 8) hx hb dX7_image_63 (by decide) ?_
    refine lv_aload_n hx hb dX7_image_65 rfl (lv_at hl 2 rfl) ?_
    refine u_geti C w hw (hP _ _ (isn_f rfl rfl (by decide))) rfl (N := 57) rfl rfl cin_7 34 (by decide) rfl gw_1190 dX7_image_66 ?_
    refine u_iv h (fun x71 h => ?_)
    refine u_iast C w hw (hP _ _ (isn_f rfl rfl (ib_lt g62))) rfl rfl (n := 11) rfl (vp_in_iff.mpr ⟨by decide, by decide⟩) dX7_image_69 (fun f H locs w hw hk1 => ?_)
    have hk := hk.tr hk1
    refine u_sv h hw hn (fun S72 h hw hn => ?_)
    refine lv_aload_n hx hb dX7_image_70 rfl (lv_at hl 0 rfl) ?_
    refine lv_bipush (v := 9) hx hb dX7_image_71 (by decide) ?_
    refine lv_bipush (v := 100) hx hb dX7_image_73 (by decide) ?_
    refine lv_aload_n hx hb dX7_image_75 rfl (lv_at hl 2 rfl) ?_
    refine u_geti C w hw (hP _ _ (isn_f rfl rfl (by decide))) rfl (N := 57) rfl rfl cin_7 46 (by decide) rfl gw_1202 dX7_image_76 ?_
    refine u_iv h (fun x73 h => ?_)
    refine lv_imul hx hb dX7_image_79 ?_
    refine u_iv h (fun x74 h => ?_)
    refine lv_aload_n hx hb dX7_image_80 rfl (lv_at hl 2 rfl) ?_
    refine u_geti C w hw (hP _ _ (isn_f rfl rfl (by decide))) rfl (N := 57) rfl rfl cin_7 21 (by decide) rfl gw_1177 dX7_image_81 ?_
    refine u_iv h (fun x75 h => ?_)
    refine lv_iadd hx hb dX7_image_84 ?_
    refine u_iv h (fun x76 h => ?_)
    refine u_iast C w hw (hP _ _ (isn_f rfl rfl (ib_lt g62))) rfl rfl (n := 11) rfl (vp_in_iff.mpr ⟨by decide, by decide⟩) dX7_image_85 (fun f H locs w hw hk1 => ?_)
    have hk := hk.tr hk1
    refine u_sv h hw hn (fun S77 h hw hn => ?_)
    refine lv_aload_n hx hb dX7_image_86 rfl (lv_at hl 0 rfl) ?_
    refine lv_bipush (v := 10) hx hb dX7_image_87 (by decide) ?_
    refine lv_aload_n hx hb dX7_image_89 rfl (lv_at hl 2 rfl) ?_
    refine u_geti C w hw (hP _ _ (isn_f rfl rfl (by decide))) rfl (N := 57) rfl rfl cin_7 15 (by decide) rfl gw_1171 dX7_image_90 ?_
    refine u_iv h (fun x78 h => ?_)
    refine u_iast C w hw (hP _ _ (isn_f rfl rfl (ib_lt g62))) rfl rfl (n := 11) rfl (vp_in_iff.mpr ⟨by decide, by decide⟩) dX7_image_93 (fun f H locs w hw hk1 => ?_)
    have hk := hk.tr hk1
    refine u_sv h hw hn (fun S79 h hw hn => ?_)
    refine lv_iconst (v := 0) hx hb dX7_image_94 (by decide) ?_
    refine lv_istore_n (lv' := [(3, .int 0), (2, .ref (ad 67 (x58.toNatClampNeg))), (1, .int x58), (0, .ref (ad 40 0))]) hx hb dX7_image_95 rfl hl (by decide) rfl (fun ls hl => ?_)
    exact J96  fuel x58 0 S79 h f H locs w hw hn hk ls (lv_sub hl [3, 2, 0] rfl)
  · have h := bb_t h c57
    refine lv_iconst (v := (-1)) hx hb dX7_image_13 (by decide) ?_
    exact t_iret C hr hlk w ⟨_, so_v h, rfl, so_w h hw, so_n h hn, hk⟩ (by decide) (by decide) dX7_image_14
theorem dX7_restore_0 : decode cX7_restore 0 = .ok (.aload_n 0, 1) := by decide +kernel
theorem dX7_restore_1 : decode cX7_restore 1 = .ok (.iconst 0, 1) := by decide +kernel
theorem dX7_restore_2 : decode cX7_restore 2 = .ok (.putfield 97, 3) := by decide +kernel
theorem dX7_restore_5 : decode cX7_restore 5 = .ok (.aload_n 0, 1) := by decide +kernel
theorem dX7_restore_6 : decode cX7_restore 6 = .ok (.getfield 365, 3) := by decide +kernel
theorem dX7_restore_9 : decode cX7_restore 9 = .ok (.ifCond .ne 5, 3) := by decide +kernel
theorem dX7_restore_12 : decode cX7_restore 12 = .ok (.iconst (-1), 1) := by decide +kernel
theorem dX7_restore_13 : decode cX7_restore 13 = .ok (.ireturn, 1) := by decide +kernel
theorem dX7_restore_14 : decode cX7_restore 14 = .ok (.aload_n 0, 1) := by decide +kernel
theorem dX7_restore_15 : decode cX7_restore 15 = .ok (.dup, 1) := by decide +kernel
theorem dX7_restore_16 : decode cX7_restore 16 = .ok (.getfield 365, 3) := by decide +kernel
theorem dX7_restore_19 : decode cX7_restore 19 = .ok (.iconst 1, 1) := by decide +kernel
theorem dX7_restore_20 : decode cX7_restore 20 = .ok (.isub, 1) := by decide +kernel
theorem dX7_restore_21 : decode cX7_restore 21 = .ok (.putfield 365, 3) := by decide +kernel
theorem dX7_restore_24 : decode cX7_restore 24 = .ok (.aload_n 0, 1) := by decide +kernel
theorem dX7_restore_25 : decode cX7_restore 25 = .ok (.getfield 365, 3) := by decide +kernel
theorem dX7_restore_28 : decode cX7_restore 28 = .ok (.istore_n 1, 1) := by decide +kernel
theorem dX7_restore_29 : decode cX7_restore 29 = .ok (.aload_n 0, 1) := by decide +kernel
theorem dX7_restore_30 : decode cX7_restore 30 = .ok (.iload_n 1, 1) := by decide +kernel
theorem dX7_restore_31 : decode cX7_restore 31 = .ok (.invokevirtual 355, 3) := by decide +kernel
theorem dX7_restore_34 : decode cX7_restore 34 = .ok (.aload_n 0, 1) := by decide +kernel
theorem dX7_restore_35 : decode cX7_restore 35 = .ok (.getfield 88, 3) := by decide +kernel
theorem dX7_restore_38 : decode cX7_restore 38 = .ok (.iload_n 1, 1) := by decide +kernel
theorem dX7_restore_39 : decode cX7_restore 39 = .ok (.aaload, 1) := by decide +kernel
theorem dX7_restore_40 : decode cX7_restore 40 = .ok (.astore_n 2, 1) := by decide +kernel
theorem dX7_restore_41 : decode cX7_restore 41 = .ok (.aload_n 0, 1) := by decide +kernel
theorem dX7_restore_42 : decode cX7_restore 42 = .ok (.aload_n 2, 1) := by decide +kernel
theorem dX7_restore_43 : decode cX7_restore 43 = .ok (.iconst 4, 1) := by decide +kernel
theorem dX7_restore_44 : decode cX7_restore 44 = .ok (.iaload, 1) := by decide +kernel
theorem dX7_restore_45 : decode cX7_restore 45 = .ok (.putfield 58, 3) := by decide +kernel
theorem dX7_restore_48 : decode cX7_restore 48 = .ok (.aload_n 0, 1) := by decide +kernel
theorem dX7_restore_49 : decode cX7_restore 49 = .ok (.aload_n 2, 1) := by decide +kernel
theorem dX7_restore_50 : decode cX7_restore 50 = .ok (.iconst 5, 1) := by decide +kernel
theorem dX7_restore_51 : decode cX7_restore 51 = .ok (.iaload, 1) := by decide +kernel
theorem dX7_restore_52 : decode cX7_restore 52 = .ok (.putfield 61, 3) := by decide +kernel
theorem dX7_restore_55 : decode cX7_restore 55 = .ok (.aload_n 0, 1) := by decide +kernel
theorem dX7_restore_56 : decode cX7_restore 56 = .ok (.aload_n 2, 1) := by decide +kernel
theorem dX7_restore_57 : decode cX7_restore 57 = .ok (.bipush 6, 2) := by decide +kernel
theorem dX7_restore_59 : decode cX7_restore 59 = .ok (.iaload, 1) := by decide +kernel
theorem dX7_restore_60 : decode cX7_restore 60 = .ok (.putfield 64, 3) := by decide +kernel
theorem dX7_restore_63 : decode cX7_restore 63 = .ok (.aload_n 0, 1) := by decide +kernel
theorem dX7_restore_64 : decode cX7_restore 64 = .ok (.aload_n 2, 1) := by decide +kernel
theorem dX7_restore_65 : decode cX7_restore 65 = .ok (.bipush 7, 2) := by decide +kernel
theorem dX7_restore_67 : decode cX7_restore 67 = .ok (.iaload, 1) := by decide +kernel
theorem dX7_restore_68 : decode cX7_restore 68 = .ok (.putfield 234, 3) := by decide +kernel
theorem dX7_restore_71 : decode cX7_restore 71 = .ok (.aload_n 0, 1) := by decide +kernel
theorem dX7_restore_72 : decode cX7_restore 72 = .ok (.aload_n 2, 1) := by decide +kernel
theorem dX7_restore_73 : decode cX7_restore 73 = .ok (.bipush 8, 2) := by decide +kernel
theorem dX7_restore_75 : decode cX7_restore 75 = .ok (.iaload, 1) := by decide +kernel
theorem dX7_restore_76 : decode cX7_restore 76 = .ok (.putfield 67, 3) := by decide +kernel
theorem dX7_restore_79 : decode cX7_restore 79 = .ok (.aload_n 0, 1) := by decide +kernel
theorem dX7_restore_80 : decode cX7_restore 80 = .ok (.aload_n 2, 1) := by decide +kernel
theorem dX7_restore_81 : decode cX7_restore 81 = .ok (.bipush 9, 2) := by decide +kernel
theorem dX7_restore_83 : decode cX7_restore 83 = .ok (.iaload, 1) := by decide +kernel
theorem dX7_restore_84 : decode cX7_restore 84 = .ok (.bipush 100, 2) := by decide +kernel
theorem dX7_restore_86 : decode cX7_restore 86 = .ok (.idiv, 1) := by decide +kernel
theorem dX7_restore_87 : decode cX7_restore 87 = .ok (.putfield 313, 3) := by decide +kernel
theorem dX7_restore_90 : decode cX7_restore 90 = .ok (.aload_n 0, 1) := by decide +kernel
theorem dX7_restore_91 : decode cX7_restore 91 = .ok (.aload_n 2, 1) := by decide +kernel
theorem dX7_restore_92 : decode cX7_restore 92 = .ok (.bipush 9, 2) := by decide +kernel
theorem dX7_restore_94 : decode cX7_restore 94 = .ok (.iaload, 1) := by decide +kernel
theorem dX7_restore_95 : decode cX7_restore 95 = .ok (.bipush 100, 2) := by decide +kernel
theorem dX7_restore_97 : decode cX7_restore 97 = .ok (.irem, 1) := by decide +kernel
theorem dX7_restore_98 : decode cX7_restore 98 = .ok (.putfield 256, 3) := by decide +kernel
theorem dX7_restore_101 : decode cX7_restore 101 = .ok (.aload_n 0, 1) := by decide +kernel
theorem dX7_restore_102 : decode cX7_restore 102 = .ok (.aload_n 2, 1) := by decide +kernel
theorem dX7_restore_103 : decode cX7_restore 103 = .ok (.bipush 10, 2) := by decide +kernel
theorem dX7_restore_105 : decode cX7_restore 105 = .ok (.iaload, 1) := by decide +kernel
theorem dX7_restore_106 : decode cX7_restore 106 = .ok (.putfield 27, 3) := by decide +kernel
theorem dX7_restore_109 : decode cX7_restore 109 = .ok (.iconst 0, 1) := by decide +kernel
theorem dX7_restore_110 : decode cX7_restore 110 = .ok (.istore_n 3, 1) := by decide +kernel
theorem dX7_restore_111 : decode cX7_restore 111 = .ok (.iload_n 3, 1) := by decide +kernel
theorem dX7_restore_112 : decode cX7_restore 112 = .ok (.bipush 24, 2) := by decide +kernel
theorem dX7_restore_114 : decode cX7_restore 114 = .ok (.if_icmp .ge 106, 3) := by decide +kernel
theorem dX7_restore_117 : decode cX7_restore 117 = .ok (.aload_n 0, 1) := by decide +kernel
theorem dX7_restore_118 : decode cX7_restore 118 = .ok (.getfield 33, 3) := by decide +kernel
theorem dX7_restore_121 : decode cX7_restore 121 = .ok (.iload_n 3, 1) := by decide +kernel
theorem dX7_restore_122 : decode cX7_restore 122 = .ok (.aload_n 0, 1) := by decide +kernel
theorem dX7_restore_123 : decode cX7_restore 123 = .ok (.getfield 91, 3) := by decide +kernel
theorem dX7_restore_126 : decode cX7_restore 126 = .ok (.iconst 5, 1) := by decide +kernel
theorem dX7_restore_127 : decode cX7_restore 127 = .ok (.iload_n 1, 1) := by decide +kernel
theorem dX7_restore_128 : decode cX7_restore 128 = .ok (.imul, 1) := by decide +kernel
theorem dX7_restore_129 : decode cX7_restore 129 = .ok (.aaload, 1) := by decide +kernel
theorem dX7_restore_130 : decode cX7_restore 130 = .ok (.iload_n 3, 1) := by decide +kernel
theorem dX7_restore_131 : decode cX7_restore 131 = .ok (.iaload, 1) := by decide +kernel
theorem dX7_restore_132 : decode cX7_restore 132 = .ok (.iastore, 1) := by decide +kernel
theorem dX7_restore_133 : decode cX7_restore 133 = .ok (.aload_n 0, 1) := by decide +kernel
theorem dX7_restore_134 : decode cX7_restore 134 = .ok (.getfield 36, 3) := by decide +kernel
theorem dX7_restore_137 : decode cX7_restore 137 = .ok (.iload_n 3, 1) := by decide +kernel
theorem dX7_restore_138 : decode cX7_restore 138 = .ok (.aload_n 0, 1) := by decide +kernel
theorem dX7_restore_139 : decode cX7_restore 139 = .ok (.getfield 91, 3) := by decide +kernel
theorem dX7_restore_142 : decode cX7_restore 142 = .ok (.iconst 5, 1) := by decide +kernel
theorem dX7_restore_143 : decode cX7_restore 143 = .ok (.iload_n 1, 1) := by decide +kernel
theorem dX7_restore_144 : decode cX7_restore 144 = .ok (.imul, 1) := by decide +kernel
theorem dX7_restore_145 : decode cX7_restore 145 = .ok (.iconst 1, 1) := by decide +kernel
theorem dX7_restore_146 : decode cX7_restore 146 = .ok (.iadd, 1) := by decide +kernel
theorem dX7_restore_147 : decode cX7_restore 147 = .ok (.aaload, 1) := by decide +kernel
theorem dX7_restore_148 : decode cX7_restore 148 = .ok (.iload_n 3, 1) := by decide +kernel
theorem dX7_restore_149 : decode cX7_restore 149 = .ok (.iaload, 1) := by decide +kernel
theorem dX7_restore_150 : decode cX7_restore 150 = .ok (.iastore, 1) := by decide +kernel
theorem dX7_restore_151 : decode cX7_restore 151 = .ok (.aload_n 0, 1) := by decide +kernel
theorem dX7_restore_152 : decode cX7_restore 152 = .ok (.getfield 39, 3) := by decide +kernel
theorem dX7_restore_155 : decode cX7_restore 155 = .ok (.iload_n 3, 1) := by decide +kernel
theorem dX7_restore_156 : decode cX7_restore 156 = .ok (.aload_n 0, 1) := by decide +kernel
theorem dX7_restore_157 : decode cX7_restore 157 = .ok (.getfield 91, 3) := by decide +kernel
theorem dX7_restore_160 : decode cX7_restore 160 = .ok (.iconst 5, 1) := by decide +kernel
theorem dX7_restore_161 : decode cX7_restore 161 = .ok (.iload_n 1, 1) := by decide +kernel
theorem dX7_restore_162 : decode cX7_restore 162 = .ok (.imul, 1) := by decide +kernel
theorem dX7_restore_163 : decode cX7_restore 163 = .ok (.iconst 2, 1) := by decide +kernel
theorem dX7_restore_164 : decode cX7_restore 164 = .ok (.iadd, 1) := by decide +kernel
theorem dX7_restore_165 : decode cX7_restore 165 = .ok (.aaload, 1) := by decide +kernel
theorem dX7_restore_166 : decode cX7_restore 166 = .ok (.iload_n 3, 1) := by decide +kernel
theorem dX7_restore_167 : decode cX7_restore 167 = .ok (.iaload, 1) := by decide +kernel
theorem dX7_restore_168 : decode cX7_restore 168 = .ok (.iastore, 1) := by decide +kernel
theorem dX7_restore_169 : decode cX7_restore 169 = .ok (.aload_n 0, 1) := by decide +kernel
theorem dX7_restore_170 : decode cX7_restore 170 = .ok (.getfield 42, 3) := by decide +kernel
theorem dX7_restore_173 : decode cX7_restore 173 = .ok (.iload_n 3, 1) := by decide +kernel
theorem dX7_restore_174 : decode cX7_restore 174 = .ok (.aload_n 0, 1) := by decide +kernel
theorem dX7_restore_175 : decode cX7_restore 175 = .ok (.getfield 91, 3) := by decide +kernel
theorem dX7_restore_178 : decode cX7_restore 178 = .ok (.iconst 5, 1) := by decide +kernel
theorem dX7_restore_179 : decode cX7_restore 179 = .ok (.iload_n 1, 1) := by decide +kernel
theorem dX7_restore_180 : decode cX7_restore 180 = .ok (.imul, 1) := by decide +kernel
theorem dX7_restore_181 : decode cX7_restore 181 = .ok (.iconst 3, 1) := by decide +kernel
theorem dX7_restore_182 : decode cX7_restore 182 = .ok (.iadd, 1) := by decide +kernel
theorem dX7_restore_183 : decode cX7_restore 183 = .ok (.aaload, 1) := by decide +kernel
theorem dX7_restore_184 : decode cX7_restore 184 = .ok (.iload_n 3, 1) := by decide +kernel
theorem dX7_restore_185 : decode cX7_restore 185 = .ok (.iaload, 1) := by decide +kernel
theorem dX7_restore_186 : decode cX7_restore 186 = .ok (.iastore, 1) := by decide +kernel
theorem dX7_restore_187 : decode cX7_restore 187 = .ok (.aload_n 0, 1) := by decide +kernel
theorem dX7_restore_188 : decode cX7_restore 188 = .ok (.getfield 48, 3) := by decide +kernel
theorem dX7_restore_191 : decode cX7_restore 191 = .ok (.iload_n 3, 1) := by decide +kernel
theorem dX7_restore_192 : decode cX7_restore 192 = .ok (.aload_n 0, 1) := by decide +kernel
theorem dX7_restore_193 : decode cX7_restore 193 = .ok (.getfield 91, 3) := by decide +kernel
theorem dX7_restore_196 : decode cX7_restore 196 = .ok (.iconst 5, 1) := by decide +kernel
theorem dX7_restore_197 : decode cX7_restore 197 = .ok (.iload_n 1, 1) := by decide +kernel
theorem dX7_restore_198 : decode cX7_restore 198 = .ok (.imul, 1) := by decide +kernel
theorem dX7_restore_199 : decode cX7_restore 199 = .ok (.iconst 4, 1) := by decide +kernel
theorem dX7_restore_200 : decode cX7_restore 200 = .ok (.iadd, 1) := by decide +kernel
theorem dX7_restore_201 : decode cX7_restore 201 = .ok (.aaload, 1) := by decide +kernel
theorem dX7_restore_202 : decode cX7_restore 202 = .ok (.iload_n 3, 1) := by decide +kernel
theorem dX7_restore_203 : decode cX7_restore 203 = .ok (.iaload, 1) := by decide +kernel
theorem dX7_restore_204 : decode cX7_restore 204 = .ok (.iconst 1, 1) := by decide +kernel
theorem dX7_restore_205 : decode cX7_restore 205 = .ok (.if_icmp .ne 7, 3) := by decide +kernel
theorem dX7_restore_208 : decode cX7_restore 208 = .ok (.iconst 1, 1) := by decide +kernel
theorem dX7_restore_209 : decode cX7_restore 209 = .ok (.goto 4, 3) := by decide +kernel
theorem dX7_restore_212 : decode cX7_restore 212 = .ok (.iconst 0, 1) := by decide +kernel
theorem dX7_restore_213 : decode cX7_restore 213 = .ok (.bastore, 1) := by decide +kernel
theorem dX7_restore_214 : decode cX7_restore 214 = .ok (.iinc 3 1, 3) := by decide +kernel
theorem dX7_restore_217 : decode cX7_restore 217 = .ok (.goto (-106), 3) := by decide +kernel
theorem dX7_restore_220 : decode cX7_restore 220 = .ok (.iconst 0, 1) := by decide +kernel
theorem dX7_restore_221 : decode cX7_restore 221 = .ok (.istore_n 3, 1) := by decide +kernel
theorem dX7_restore_222 : decode cX7_restore 222 = .ok (.iload_n 3, 1) := by decide +kernel
theorem dX7_restore_223 : decode cX7_restore 223 = .ok (.aload_n 0, 1) := by decide +kernel
theorem dX7_restore_224 : decode cX7_restore 224 = .ok (.getfield 313, 3) := by decide +kernel
theorem dX7_restore_227 : decode cX7_restore 227 = .ok (.if_icmp .ge 49, 3) := by decide +kernel
theorem dX7_restore_230 : decode cX7_restore 230 = .ok (.iconst 0, 1) := by decide +kernel
theorem dX7_restore_231 : decode cX7_restore 231 = .ok (.istore 4, 2) := by decide +kernel
theorem dX7_restore_233 : decode cX7_restore 233 = .ok (.iload 4, 2) := by decide +kernel
theorem dX7_restore_235 : decode cX7_restore 235 = .ok (.bipush 14, 2) := by decide +kernel
theorem dX7_restore_237 : decode cX7_restore 237 = .ok (.if_icmp .ge 33, 3) := by decide +kernel
theorem dX7_restore_240 : decode cX7_restore 240 = .ok (.aload_n 0, 1) := by decide +kernel
theorem dX7_restore_241 : decode cX7_restore 241 = .ok (.getfield 73, 3) := by decide +kernel
theorem dX7_restore_244 : decode cX7_restore 244 = .ok (.iload_n 3, 1) := by decide +kernel
theorem dX7_restore_245 : decode cX7_restore 245 = .ok (.aaload, 1) := by decide +kernel
theorem dX7_restore_246 : decode cX7_restore 246 = .ok (.iload 4, 2) := by decide +kernel
theorem dX7_restore_248 : decode cX7_restore 248 = .ok (.aload_n 0, 1) := by decide +kernel
theorem dX7_restore_249 : decode cX7_restore 249 = .ok (.getfield 94, 3) := by decide +kernel
theorem dX7_restore_252 : decode cX7_restore 252 = .ok (.sipush 200, 3) := by decide +kernel
theorem dX7_restore_255 : decode cX7_restore 255 = .ok (.iload_n 1, 1) := by decide +kernel
theorem dX7_restore_256 : decode cX7_restore 256 = .ok (.imul, 1) := by decide +kernel
theorem dX7_restore_257 : decode cX7_restore 257 = .ok (.iload_n 3, 1) := by decide +kernel
theorem dX7_restore_258 : decode cX7_restore 258 = .ok (.iadd, 1) := by decide +kernel
theorem dX7_restore_259 : decode cX7_restore 259 = .ok (.aaload, 1) := by decide +kernel
theorem dX7_restore_260 : decode cX7_restore 260 = .ok (.iload 4, 2) := by decide +kernel
theorem dX7_restore_262 : decode cX7_restore 262 = .ok (.iaload, 1) := by decide +kernel
theorem dX7_restore_263 : decode cX7_restore 263 = .ok (.iastore, 1) := by decide +kernel
theorem dX7_restore_264 : decode cX7_restore 264 = .ok (.iinc 4 1, 3) := by decide +kernel
theorem dX7_restore_267 : decode cX7_restore 267 = .ok (.goto (-34), 3) := by decide +kernel
theorem dX7_restore_270 : decode cX7_restore 270 = .ok (.iinc 3 1, 3) := by decide +kernel
theorem dX7_restore_273 : decode cX7_restore 273 = .ok (.goto (-51), 3) := by decide +kernel
theorem dX7_restore_276 : decode cX7_restore 276 = .ok (.aload_n 0, 1) := by decide +kernel
theorem dX7_restore_277 : decode cX7_restore 277 = .ok (.getfield 365, 3) := by decide +kernel
theorem dX7_restore_280 : decode cX7_restore 280 = .ok (.ireturn, 1) := by decide +kernel
noncomputable def B_X7_restore_213 (k111 : (Int32 × Int32) → fS → Option (Int32 × fS)) (a1 : Int32) (a3 : Int32) (t0 : Int32) (t1 : Int32) (S : fS) : Option (Int32 × fS) := gd (ib t1 24) (sv (pu S 51 0 (t1 : Int32).toNatClampNeg (vp_nar .boolean t0)) (fun S2 => iv (a3 + Int32.ofInt 1) (fun x3 => k111 (a1, x3) S2)))
noncomputable def B_X7_restore_233 (k222 : (Int32 × Int32) → fS → Option (Int32 × fS)) (k233 : (Int32 × Int32 × Int32) → fS → Option (Int32 × fS)) : (Int32 × Int32 × Int32) → fS → Option (Int32 × fS) := fun ⟨a1, a3, a4⟩ S => bb ((14 : Int32) ≤ a4) (iv (a3 + Int32.ofInt 1) (fun x5 => k222 (a1, x5) S)) (gd (ib a3 200) (iv ((200 : Int32) * a1) (fun x7 => iv (x7 + a3) (fun x8 => gd (ib x8 600) (gd (ib a4 14) (iv (ge S 71 (x8.toNatClampNeg) (a4 : Int32).toNatClampNeg) (fun x11 => gd (ib a4 14) (sv (pu S 57 (a3.toNatClampNeg) (a4 : Int32).toNatClampNeg x11) (fun S13 => iv (a4 + Int32.ofInt 1) (fun x14 => k233 (a1, a3, x14) S13))))))))))
noncomputable def B_X7_restore_222 (k222 : (Int32 × Int32) → fS → Option (Int32 × fS)) : (Int32 × Int32) → fS → Option (Int32 × fS) := fun ⟨a1, a3⟩ S => iv (ge S 40 0 46) (fun x15 => bb (x15 ≤ a3) (iv (ge S 40 0 56) (fun x17 => some (x17, S))) (lp (B_X7_restore_233 k222) fuel (a1, a3, 0) S))
noncomputable def B_X7_restore_111 (k111 : (Int32 × Int32) → fS → Option (Int32 × fS)) : (Int32 × Int32) → fS → Option (Int32 × fS) := fun ⟨a1, a3⟩ S => bb ((24 : Int32) ≤ a3) (lp (B_X7_restore_222 ) fuel (a1, 0) S) (iv ((5 : Int32) * a1) (fun x19 => gd (ib x19 15) (gd (ib a3 24) (iv (ge S 69 (x19.toNatClampNeg) (a3 : Int32).toNatClampNeg) (fun x22 => gd (ib a3 24) (sv (pu S 46 0 (a3 : Int32).toNatClampNeg x22) (fun S24 => iv ((5 : Int32) * a1) (fun x25 => iv (x25 + (1 : Int32)) (fun x26 => gd (ib x26 15) (gd (ib a3 24) (iv (ge S24 69 (x26.toNatClampNeg) (a3 : Int32).toNatClampNeg) (fun x29 => gd (ib a3 24) (sv (pu S24 47 0 (a3 : Int32).toNatClampNeg x29) (fun S31 => iv ((5 : Int32) * a1) (fun x32 => iv (x32 + (2 : Int32)) (fun x33 => gd (ib x33 15) (gd (ib a3 24) (iv (ge S31 69 (x33.toNatClampNeg) (a3 : Int32).toNatClampNeg) (fun x36 => gd (ib a3 24) (sv (pu S31 48 0 (a3 : Int32).toNatClampNeg x36) (fun S38 => iv ((5 : Int32) * a1) (fun x39 => iv (x39 + (3 : Int32)) (fun x40 => gd (ib x40 15) (gd (ib a3 24) (iv (ge S38 69 (x40.toNatClampNeg) (a3 : Int32).toNatClampNeg) (fun x43 => gd (ib a3 24) (sv (pu S38 49 0 (a3 : Int32).toNatClampNeg x43) (fun S45 => iv ((5 : Int32) * a1) (fun x46 => iv (x46 + (4 : Int32)) (fun x47 => gd (ib x47 15) (gd (ib a3 24) (iv (ge S45 69 (x47.toNatClampNeg) (a3 : Int32).toNatClampNeg) (fun x50 => bb (x50 = (1 : Int32)) (B_X7_restore_213 k111 a1 a3 1 a3 S45) (B_X7_restore_213 k111 a1 a3 0 a3 S45))))))))))))))))))))))))))))))))))
noncomputable def F_X7_restore  (S0 : fS) : Option (Int32 × fS) := sv (pu S0 40 0 0 0) (fun S52 => iv (ge S52 40 0 56) (fun x53 => bb (x53 = (0 : Int32)) (some ((-1), S52)) (iv (ge S52 40 0 56) (fun x55 => iv (x55 - (1 : Int32)) (fun x56 => sv (pu S52 40 0 56 x56) (fun S57 => iv (ge S57 40 0 56) (fun x58 => bd (F_X7_laysBack x58 S57) (fun v59 S60 => gd (ib x58 4) (iv (ge S60 67 (x58.toNatClampNeg) (4 : Int32).toNatClampNeg) (fun x63 => sv (pu S60 40 0 30 x63) (fun S64 => iv (ge S64 67 (x58.toNatClampNeg) (5 : Int32).toNatClampNeg) (fun x65 => sv (pu S64 40 0 31 x65) (fun S66 => iv (ge S66 67 (x58.toNatClampNeg) (6 : Int32).toNatClampNeg) (fun x67 => sv (pu S66 40 0 32 x67) (fun S68 => iv (ge S68 67 (x58.toNatClampNeg) (7 : Int32).toNatClampNeg) (fun x69 => sv (pu S68 40 0 33 x69) (fun S70 => iv (ge S70 67 (x58.toNatClampNeg) (8 : Int32).toNatClampNeg) (fun x71 => sv (pu S70 40 0 34 x71) (fun S72 => iv (ge S72 67 (x58.toNatClampNeg) (9 : Int32).toNatClampNeg) (fun x73 => iv (x73 / (100 : Int32)) (fun x74 => sv (pu S72 40 0 46 x74) (fun S75 => iv (ge S75 67 (x58.toNatClampNeg) (9 : Int32).toNatClampNeg) (fun x76 => iv (x76 - x76 / (100 : Int32) * (100 : Int32)) (fun x77 => sv (pu S75 40 0 21 x77) (fun S78 => iv (ge S78 67 (x58.toNatClampNeg) (10 : Int32).toNatClampNeg) (fun x79 => sv (pu S78 40 0 15 x79) (fun S80 => lp (B_X7_restore_111 ) fuel (x58, 0) S80)))))))))))))))))))))))))))
set_option maxHeartbeats 4000000 in
set_option maxRecDepth 100000 in
theorem c_X7_restore (l : Launch) (D : va_G) (K : Nat → ClassId) (b0 : Nat) (sa : sT) (sz : Nat) (L : List Nat) (f0 : Nat → va_E) (ad : Nat → Nat → Nat) (P : Nat → Nat → Prop) {n : Nat × Nat} (hP : ∀ a i : Nat, isn n a i → P a i) (S0 : fS) (hw : PW K ad P S0 L f0) (hn : S0.2.2.1 = n)  (v : Int32) (S1 : fS) (h : F_X7_restore  S0 = some (v, S1)) : Met l yX7_restore (.code yX7_restore cX7_restore 5 (some .int) :: gt) { frames := 1, cells := 0, slots := 0, locals := 23 } (va_Pc [.ref (ad 40 0)] (hPre D K b0 sa sz L f0)) (hQ D K b0 (fun v9 u9 => ∃ f2 : Nat → va_E, v9 = some (.int v) ∧ u9 = lU L f2 ∧ PW K ad P S1 L f2 ∧ S1.2.2.1 = n ∧ Kp ad P L f0 f2)) 0 0 (fun q => b0 ≤ q) := by
  refine t_of (own := RX7) (by decide) rfl ?_ (Nat.le_of_ble_eq_true rfl)
  intro p e s m below meth c ls C w hsz hr hlk hnm hl
  have hx := C.1
  have hb := C.2.1
  have hl : lv_has ls 5 [(0, .ref (ad 40 0))] := hl
  have J213 : ∀ (k111 : (Int32 × Int32) → fS → Option (Int32 × fS)) (hk111 : ∀ (a1 : Int32) (a3 : Int32) (S : fS), k111 (a1, a3) S = some (v, S1) → Gw D K b0 sa ad P n L f0 p l e { frames := 1, cells := 0, slots := 0, locals := 23 } s m [.ref (ad 40 0)].toArray below meth c 5 (MQ below (hQ D K b0 (fun v9 u9 => ∃ f2 : Nat → va_E, v9 = some (.int v) ∧ u9 = lU L f2 ∧ PW K ad P S1 L f2 ∧ S1.2.2.1 = n ∧ Kp ad P L f0 f2)) [.ref (ad 40 0)].toArray s 0 0 (fun q => b0 ≤ q)) 0 0 111 [(0, .ref (ad 40 0)), (1, .int a1), (3, .int a3)] [] S) (a1 : Int32) (a3 : Int32) (t0 : Int32) (t1 : Int32) (S : fS), B_X7_restore_213 k111 a1 a3 t0 t1 S = some (v, S1) → Gw D K b0 sa ad P n L f0 p l e { frames := 1, cells := 0, slots := 0, locals := 23 } s m [.ref (ad 40 0)].toArray below meth c 5 (MQ below (hQ D K b0 (fun v9 u9 => ∃ f2 : Nat → va_E, v9 = some (.int v) ∧ u9 = lU L f2 ∧ PW K ad P S1 L f2 ∧ S1.2.2.1 = n ∧ Kp ad P L f0 f2)) [.ref (ad 40 0)].toArray s 0 0 (fun q => b0 ≤ q)) 0 0 213 [(0, .ref (ad 40 0)), (1, .int a1), (3, .int a3)] [.int t0, .int t1, .ref (ad 51 0)] S := by
    intro k111 hk111 a1 a3 t0 t1 S h
    dsimp only [B_X7_restore_213] at h
    intro f H locs w hw hn hk ls hl
    obtain ⟨g1, h⟩ := gd_some h
    refine u_zast C w hw (hP _ _ (isn_f rfl rfl (by decide))) rfl rfl (n := 24) rfl (vp_in_iff.mpr g1) dX7_restore_213 (fun f H locs w hw hk1 => ?_)
    have hk := hk.tr hk1
    refine u_sv h hw hn (fun S2 h hw hn => ?_)
    obtain ⟨x3, ex3, h⟩ := iv_some h
    refine lv_iinc (v := x3) (lv' := [(3, .int x3), (0, .ref (ad 40 0)), (1, .int a1)]) hx hb dX7_restore_214 hl (k := 2) rfl ex3.symm (by decide) rfl (fun ls hl => ?_)
    refine lv_goto (tgt := 111) hx hb dX7_restore_217 (by decide) ?_
    exact hk111 a1 x3 S2 h f H locs w hw hn hk ls (lv_sub hl [1, 2, 0] rfl)
  have J233 : ∀ (k222 : (Int32 × Int32) → fS → Option (Int32 × fS)) (hk222 : ∀ (a1 : Int32) (a3 : Int32) (S : fS), k222 (a1, a3) S = some (v, S1) → Gw D K b0 sa ad P n L f0 p l e { frames := 1, cells := 0, slots := 0, locals := 23 } s m [.ref (ad 40 0)].toArray below meth c 5 (MQ below (hQ D K b0 (fun v9 u9 => ∃ f2 : Nat → va_E, v9 = some (.int v) ∧ u9 = lU L f2 ∧ PW K ad P S1 L f2 ∧ S1.2.2.1 = n ∧ Kp ad P L f0 f2)) [.ref (ad 40 0)].toArray s 0 0 (fun q => b0 ≤ q)) 0 0 222 [(0, .ref (ad 40 0)), (1, .int a1), (3, .int a3)] [] S) (fu : Nat) (a1 : Int32) (a3 : Int32) (a4 : Int32) (S : fS), lp (B_X7_restore_233 k222) fu (a1, a3, a4) S = some (v, S1) → Gw D K b0 sa ad P n L f0 p l e { frames := 1, cells := 0, slots := 0, locals := 23 } s m [.ref (ad 40 0)].toArray below meth c 5 (MQ below (hQ D K b0 (fun v9 u9 => ∃ f2 : Nat → va_E, v9 = some (.int v) ∧ u9 = lU L f2 ∧ PW K ad P S1 L f2 ∧ S1.2.2.1 = n ∧ Kp ad P L f0 f2)) [.ref (ad 40 0)].toArray s 0 0 (fun q => b0 ≤ q)) 0 0 233 [(0, .ref (ad 40 0)), (1, .int a1), (3, .int a3), (4, .int a4)] [] S := by
    intro k222 hk222 fu a1 a3 a4 S h
    refine lp_some (G := (fun q S => Gw D K b0 sa ad P n L f0 p l e { frames := 1, cells := 0, slots := 0, locals := 23 } s m [.ref (ad 40 0)].toArray below meth c 5 (MQ below (hQ D K b0 (fun v9 u9 => ∃ f2 : Nat → va_E, v9 = some (.int v) ∧ u9 = lU L f2 ∧ PW K ad P S1 L f2 ∧ S1.2.2.1 = n ∧ Kp ad P L f0 f2)) [.ref (ad 40 0)].toArray s 0 0 (fun q => b0 ≤ q)) 0 0 233 [(0, .ref (ad 40 0)), (1, .int q.1), (3, .int q.2.1), (4, .int q.2.2)] [] S)) (fun k233 hk233 q S h => ?_) fu (a1, a3, a4) S h
    obtain ⟨a1, a3, a4⟩ := q
    have hk233 : ∀ (a1 : Int32) (a3 : Int32) (a4 : Int32) (S : fS), k233 (a1, a3, a4) S = some (v, S1) → Gw D K b0 sa ad P n L f0 p l e { frames := 1, cells := 0, slots := 0, locals := 23 } s m [.ref (ad 40 0)].toArray below meth c 5 (MQ below (hQ D K b0 (fun v9 u9 => ∃ f2 : Nat → va_E, v9 = some (.int v) ∧ u9 = lU L f2 ∧ PW K ad P S1 L f2 ∧ S1.2.2.1 = n ∧ Kp ad P L f0 f2)) [.ref (ad 40 0)].toArray s 0 0 (fun q => b0 ≤ q)) 0 0 233 [(0, .ref (ad 40 0)), (1, .int a1), (3, .int a3), (4, .int a4)] [] S := fun a1 a3 a4 S h => hk233 (a1, a3, a4) S h
    dsimp only [B_X7_restore_233] at h
    intro f H locs w hw hn hk ls hl
    refine lv_iload hx hb dX7_restore_233 (lv_at hl 3 rfl) ?_
    refine lv_bipush (v := 14) hx hb dX7_restore_235 (by decide) ?_
    refine lv_icmp_ge (tgt := 270) hx hb dX7_restore_237 (by decide) (fun c4 => ?_) (fun c4 => ?_)
    · have h := bb_t h c4
      obtain ⟨x5, ex5, h⟩ := iv_some h
      refine lv_iinc (v := x5) (lv' := [(3, .int x5), (0, .ref (ad 40 0)), (1, .int a1), (4, .int a4)]) hx hb dX7_restore_270 hl (k := 2) rfl ex5.symm (by decide) rfl (fun ls hl => ?_)
      refine lv_goto (tgt := 222) hx hb dX7_restore_273 (by decide) ?_
      exact hk222 a1 x5 S h f H locs w hw hn hk ls (lv_sub hl [1, 2, 0] rfl)
    · have h := bb_f h c4
      refine lv_aload_n hx hb dX7_restore_240 rfl (lv_at hl 0 rfl) ?_
      refine u_getr C w hw (hP _ _ (isn_f rfl rfl (by decide))) rfl (N := 57) rfl rfl cin_7 47 (by decide) (by decide) (a2 := 56) (i2 := 0) rfl gw_1203 dX7_restore_241 ?_
      refine lv_iload_n hx hb dX7_restore_244 rfl (lv_at hl 2 rfl) ?_
      obtain ⟨g6, h⟩ := gd_some h
      refine u_aald C w hw (hP _ _ (isn_f rfl rfl (by decide))) rfl rfl rfl (n := 200) rfl (vp_in_iff.mpr g6) (a2 := 57) (i2 := (a3.toNatClampNeg)) (by exact congrArg (Prod.mk _) (Nat.zero_add _)) dX7_restore_245 ?_
      refine lv_iload hx hb dX7_restore_246 (lv_at hl 3 rfl) ?_
      refine lv_aload_n hx hb dX7_restore_248 rfl (lv_at hl 0 rfl) ?_
      refine u_getr C w hw (hP _ _ (isn_f rfl rfl (by decide))) rfl (N := 57) rfl rfl cin_7 55 (by decide) (by decide) (a2 := 70) (i2 := 0) rfl gw_1211 dX7_restore_249 ?_
      refine lv_sipush (v := 200) hx hb dX7_restore_252 (by decide) ?_
      refine lv_iload_n hx hb dX7_restore_255 rfl (lv_at hl 1 rfl) ?_
      refine lv_imul hx hb dX7_restore_256 ?_
      refine u_iv h (fun x7 h => ?_)
      refine lv_iload_n hx hb dX7_restore_257 rfl (lv_at hl 2 rfl) ?_
      refine lv_iadd hx hb dX7_restore_258 ?_
      refine u_iv h (fun x8 h => ?_)
      obtain ⟨g9, h⟩ := gd_some h
      refine u_aald C w hw (hP _ _ (isn_f rfl rfl (by decide))) rfl rfl rfl (n := 600) rfl (vp_in_iff.mpr g9) (a2 := 71) (i2 := (x8.toNatClampNeg)) (by exact congrArg (Prod.mk _) (Nat.zero_add _)) dX7_restore_259 ?_
      refine lv_iload hx hb dX7_restore_260 (lv_at hl 3 rfl) ?_
      obtain ⟨g10, h⟩ := gd_some h
      refine u_iald C w hw (hP _ _ (isn_f rfl rfl (ib_lt g9))) rfl rfl (n := 14) rfl (vp_in_iff.mpr g10) dX7_restore_262 ?_
      refine u_iv h (fun x11 h => ?_)
      obtain ⟨g12, h⟩ := gd_some h
      refine u_iast C w hw (hP _ _ (isn_f rfl rfl (ib_lt g6))) rfl rfl (n := 14) rfl (vp_in_iff.mpr g12) dX7_restore_263 (fun f H locs w hw hk1 => ?_)
      have hk := hk.tr hk1
      refine u_sv h hw hn (fun S13 h hw hn => ?_)
      obtain ⟨x14, ex14, h⟩ := iv_some h
      refine lv_iinc (v := x14) (lv' := [(4, .int x14), (0, .ref (ad 40 0)), (1, .int a1), (3, .int a3)]) hx hb dX7_restore_264 hl (k := 3) rfl ex14.symm (by decide) rfl (fun ls hl => ?_)
      refine lv_goto (tgt := 233) hx hb dX7_restore_267 (by decide) ?_
      exact hk233 a1 a3 x14 S13 h f H locs w hw hn hk ls (lv_sub hl [1, 2, 3, 0] rfl)
  have J222 : ∀ (fu : Nat) (a1 : Int32) (a3 : Int32) (S : fS), lp (B_X7_restore_222 ) fu (a1, a3) S = some (v, S1) → Gw D K b0 sa ad P n L f0 p l e { frames := 1, cells := 0, slots := 0, locals := 23 } s m [.ref (ad 40 0)].toArray below meth c 5 (MQ below (hQ D K b0 (fun v9 u9 => ∃ f2 : Nat → va_E, v9 = some (.int v) ∧ u9 = lU L f2 ∧ PW K ad P S1 L f2 ∧ S1.2.2.1 = n ∧ Kp ad P L f0 f2)) [.ref (ad 40 0)].toArray s 0 0 (fun q => b0 ≤ q)) 0 0 222 [(0, .ref (ad 40 0)), (1, .int a1), (3, .int a3)] [] S := by
    intro fu a1 a3 S h
    refine lp_some (G := (fun q S => Gw D K b0 sa ad P n L f0 p l e { frames := 1, cells := 0, slots := 0, locals := 23 } s m [.ref (ad 40 0)].toArray below meth c 5 (MQ below (hQ D K b0 (fun v9 u9 => ∃ f2 : Nat → va_E, v9 = some (.int v) ∧ u9 = lU L f2 ∧ PW K ad P S1 L f2 ∧ S1.2.2.1 = n ∧ Kp ad P L f0 f2)) [.ref (ad 40 0)].toArray s 0 0 (fun q => b0 ≤ q)) 0 0 222 [(0, .ref (ad 40 0)), (1, .int q.1), (3, .int q.2)] [] S)) (fun k222 hk222 q S h => ?_) fu (a1, a3) S h
    obtain ⟨a1, a3⟩ := q
    have hk222 : ∀ (a1 : Int32) (a3 : Int32) (S : fS), k222 (a1, a3) S = some (v, S1) → Gw D K b0 sa ad P n L f0 p l e { frames := 1, cells := 0, slots := 0, locals := 23 } s m [.ref (ad 40 0)].toArray below meth c 5 (MQ below (hQ D K b0 (fun v9 u9 => ∃ f2 : Nat → va_E, v9 = some (.int v) ∧ u9 = lU L f2 ∧ PW K ad P S1 L f2 ∧ S1.2.2.1 = n ∧ Kp ad P L f0 f2)) [.ref (ad 40 0)].toArray s 0 0 (fun q => b0 ≤ q)) 0 0 222 [(0, .ref (ad 40 0)), (1, .int a1), (3, .int a3)] [] S := fun a1 a3 S h => hk222 (a1, a3) S h
    dsimp only [B_X7_restore_222] at h
    intro f H locs w hw hn hk ls hl
    refine lv_iload_n hx hb dX7_restore_222 rfl (lv_at hl 2 rfl) ?_
    refine lv_aload_n hx hb dX7_restore_223 rfl (lv_at hl 0 rfl) ?_
    refine u_geti C w hw (hP _ _ (isn_f rfl rfl (by decide))) rfl (N := 57) rfl rfl cin_7 46 (by decide) rfl gw_1202 dX7_restore_224 ?_
    refine u_iv h (fun x15 h => ?_)
    refine lv_icmp_ge (tgt := 276) hx hb dX7_restore_227 (by decide) (fun c16 => ?_) (fun c16 => ?_)
    · have h := bb_t h c16
      refine lv_aload_n hx hb dX7_restore_276 rfl (lv_at hl 0 rfl) ?_
      refine u_geti C w hw (hP _ _ (isn_f rfl rfl (by decide))) rfl (N := 57) rfl rfl cin_7 56 (by decide) rfl gw_1212 dX7_restore_277 ?_
      refine u_iv h (fun x17 h => ?_)
      exact t_iret C hr hlk w ⟨_, so_v h, rfl, so_w h hw, so_n h hn, hk⟩ (by decide) (by decide) dX7_restore_280
    · have h := bb_f h c16
      refine lv_iconst (v := 0) hx hb dX7_restore_230 (by decide) ?_
      refine lv_istore (lv' := [(4, .int 0), (0, .ref (ad 40 0)), (1, .int a1), (3, .int a3)]) hx hb dX7_restore_231 hl (by decide) rfl (fun ls hl => ?_)
      exact J233 k222 hk222 fuel a1 a3 0 S h f H locs w hw hn hk ls (lv_sub hl [1, 2, 3, 0] rfl)
  have J111 : ∀ (fu : Nat) (a1 : Int32) (a3 : Int32) (S : fS), lp (B_X7_restore_111 ) fu (a1, a3) S = some (v, S1) → Gw D K b0 sa ad P n L f0 p l e { frames := 1, cells := 0, slots := 0, locals := 23 } s m [.ref (ad 40 0)].toArray below meth c 5 (MQ below (hQ D K b0 (fun v9 u9 => ∃ f2 : Nat → va_E, v9 = some (.int v) ∧ u9 = lU L f2 ∧ PW K ad P S1 L f2 ∧ S1.2.2.1 = n ∧ Kp ad P L f0 f2)) [.ref (ad 40 0)].toArray s 0 0 (fun q => b0 ≤ q)) 0 0 111 [(0, .ref (ad 40 0)), (1, .int a1), (3, .int a3)] [] S := by
    intro fu a1 a3 S h
    refine lp_some (G := (fun q S => Gw D K b0 sa ad P n L f0 p l e { frames := 1, cells := 0, slots := 0, locals := 23 } s m [.ref (ad 40 0)].toArray below meth c 5 (MQ below (hQ D K b0 (fun v9 u9 => ∃ f2 : Nat → va_E, v9 = some (.int v) ∧ u9 = lU L f2 ∧ PW K ad P S1 L f2 ∧ S1.2.2.1 = n ∧ Kp ad P L f0 f2)) [.ref (ad 40 0)].toArray s 0 0 (fun q => b0 ≤ q)) 0 0 111 [(0, .ref (ad 40 0)), (1, .int q.1), (3, .int q.2)] [] S)) (fun k111 hk111 q S h => ?_) fu (a1, a3) S h
    obtain ⟨a1, a3⟩ := q
    have hk111 : ∀ (a1 : Int32) (a3 : Int32) (S : fS), k111 (a1, a3) S = some (v, S1) → Gw D K b0 sa ad P n L f0 p l e { frames := 1, cells := 0, slots := 0, locals := 23 } s m [.ref (ad 40 0)].toArray below meth c 5 (MQ below (hQ D K b0 (fun v9 u9 => ∃ f2 : Nat → va_E, v9 = some (.int v) ∧ u9 = lU L f2 ∧ PW K ad P S1 L f2 ∧ S1.2.2.1 = n ∧ Kp ad P L f0 f2)) [.ref (ad 40 0)].toArray s 0 0 (fun q => b0 ≤ q)) 0 0 111 [(0, .ref (ad 40 0)), (1, .int a1), (3, .int a3)] [] S := fun a1 a3 S h => hk111 (a1, a3) S h
    dsimp only [B_X7_restore_111] at h
    intro f H locs w hw hn hk ls hl
    refine lv_iload_n hx hb dX7_restore_111 rfl (lv_at hl 2 rfl) ?_
    refine lv_bipush (v := 24) hx hb dX7_restore_112 (by decide) ?_
    refine lv_icmp_ge (tgt := 220) hx hb dX7_restore_114 (by decide) (fun c18 => ?_) (fun c18 => ?_)
    · have h := bb_t h c18
      refine lv_iconst (v := 0) hx hb dX7_restore_220 (by decide) ?_
      refine lv_istore_n (lv' := [(3, .int 0), (0, .ref (ad 40 0)), (1, .int a1)]) hx hb dX7_restore_221 rfl hl (by decide) rfl (fun ls hl => ?_)
      exact J222  fuel a1 0 S h f H locs w hw hn hk ls (lv_sub hl [1, 2, 0] rfl)
    · have h := bb_f h c18
      refine lv_aload_n hx hb dX7_restore_117 rfl (lv_at hl 0 rfl) ?_
      refine u_getr C w hw (hP _ _ (isn_f rfl rfl (by decide))) rfl (N := 57) rfl rfl cin_7 22 (by decide) (by decide) (a2 := 46) (i2 := 0) rfl gw_1178 dX7_restore_118 ?_
      refine lv_iload_n hx hb dX7_restore_121 rfl (lv_at hl 2 rfl) ?_
      refine lv_aload_n hx hb dX7_restore_122 rfl (lv_at hl 0 rfl) ?_
      refine u_getr C w hw (hP _ _ (isn_f rfl rfl (by decide))) rfl (N := 57) rfl rfl cin_7 54 (by decide) (by decide) (a2 := 68) (i2 := 0) rfl gw_1210 dX7_restore_123 ?_
      refine lv_iconst (v := 5) hx hb dX7_restore_126 (by decide) ?_
      refine lv_iload_n hx hb dX7_restore_127 rfl (lv_at hl 1 rfl) ?_
      refine lv_imul hx hb dX7_restore_128 ?_
      refine u_iv h (fun x19 h => ?_)
      obtain ⟨g20, h⟩ := gd_some h
      refine u_aald C w hw (hP _ _ (isn_f rfl rfl (by decide))) rfl rfl rfl (n := 15) rfl (vp_in_iff.mpr g20) (a2 := 69) (i2 := (x19.toNatClampNeg)) (by exact congrArg (Prod.mk _) (Nat.zero_add _)) dX7_restore_129 ?_
      refine lv_iload_n hx hb dX7_restore_130 rfl (lv_at hl 2 rfl) ?_
      obtain ⟨g21, h⟩ := gd_some h
      refine u_iald C w hw (hP _ _ (isn_f rfl rfl (ib_lt g20))) rfl rfl (n := 24) rfl (vp_in_iff.mpr g21) dX7_restore_131 ?_
      refine u_iv h (fun x22 h => ?_)
      obtain ⟨g23, h⟩ := gd_some h
      refine u_iast C w hw (hP _ _ (isn_f rfl rfl (by decide))) rfl rfl (n := 24) rfl (vp_in_iff.mpr g23) dX7_restore_132 (fun f H locs w hw hk1 => ?_)
      have hk := hk.tr hk1
      refine u_sv h hw hn (fun S24 h hw hn => ?_)
      refine lv_aload_n hx hb dX7_restore_133 rfl (lv_at hl 0 rfl) ?_
      refine u_getr C w hw (hP _ _ (isn_f rfl rfl (by decide))) rfl (N := 57) rfl rfl cin_7 23 (by decide) (by decide) (a2 := 47) (i2 := 0) rfl gw_1179 dX7_restore_134 ?_
      refine lv_iload_n hx hb dX7_restore_137 rfl (lv_at hl 2 rfl) ?_
      refine lv_aload_n hx hb dX7_restore_138 rfl (lv_at hl 0 rfl) ?_
      refine u_getr C w hw (hP _ _ (isn_f rfl rfl (by decide))) rfl (N := 57) rfl rfl cin_7 54 (by decide) (by decide) (a2 := 68) (i2 := 0) rfl gw_1210 dX7_restore_139 ?_
      refine lv_iconst (v := 5) hx hb dX7_restore_142 (by decide) ?_
      refine lv_iload_n hx hb dX7_restore_143 rfl (lv_at hl 1 rfl) ?_
      refine lv_imul hx hb dX7_restore_144 ?_
      refine u_iv h (fun x25 h => ?_)
      refine lv_iconst (v := 1) hx hb dX7_restore_145 (by decide) ?_
      refine lv_iadd hx hb dX7_restore_146 ?_
      refine u_iv h (fun x26 h => ?_)
      obtain ⟨g27, h⟩ := gd_some h
      refine u_aald C w hw (hP _ _ (isn_f rfl rfl (by decide))) rfl rfl rfl (n := 15) rfl (vp_in_iff.mpr g27) (a2 := 69) (i2 := (x26.toNatClampNeg)) (by exact congrArg (Prod.mk _) (Nat.zero_add _)) dX7_restore_147 ?_
      refine lv_iload_n hx hb dX7_restore_148 rfl (lv_at hl 2 rfl) ?_
      obtain ⟨g28, h⟩ := gd_some h
      refine u_iald C w hw (hP _ _ (isn_f rfl rfl (ib_lt g27))) rfl rfl (n := 24) rfl (vp_in_iff.mpr g28) dX7_restore_149 ?_
      refine u_iv h (fun x29 h => ?_)
      obtain ⟨g30, h⟩ := gd_some h
      refine u_iast C w hw (hP _ _ (isn_f rfl rfl (by decide))) rfl rfl (n := 24) rfl (vp_in_iff.mpr g30) dX7_restore_150 (fun f H locs w hw hk1 => ?_)
      have hk := hk.tr hk1
      refine u_sv h hw hn (fun S31 h hw hn => ?_)
      refine lv_aload_n hx hb dX7_restore_151 rfl (lv_at hl 0 rfl) ?_
      refine u_getr C w hw (hP _ _ (isn_f rfl rfl (by decide))) rfl (N := 57) rfl rfl cin_7 24 (by decide) (by decide) (a2 := 48) (i2 := 0) rfl gw_1180 dX7_restore_152 ?_
      refine lv_iload_n hx hb dX7_restore_155 rfl (lv_at hl 2 rfl) ?_
      refine lv_aload_n hx hb dX7_restore_156 rfl (lv_at hl 0 rfl) ?_
      refine u_getr C w hw (hP _ _ (isn_f rfl rfl (by decide))) rfl (N := 57) rfl rfl cin_7 54 (by decide) (by decide) (a2 := 68) (i2 := 0) rfl gw_1210 dX7_restore_157 ?_
      refine lv_iconst (v := 5) hx hb dX7_restore_160 (by decide) ?_
      refine lv_iload_n hx hb dX7_restore_161 rfl (lv_at hl 1 rfl) ?_
      refine lv_imul hx hb dX7_restore_162 ?_
      refine u_iv h (fun x32 h => ?_)
      refine lv_iconst (v := 2) hx hb dX7_restore_163 (by decide) ?_
      refine lv_iadd hx hb dX7_restore_164 ?_
      refine u_iv h (fun x33 h => ?_)
      obtain ⟨g34, h⟩ := gd_some h
      refine u_aald C w hw (hP _ _ (isn_f rfl rfl (by decide))) rfl rfl rfl (n := 15) rfl (vp_in_iff.mpr g34) (a2 := 69) (i2 := (x33.toNatClampNeg)) (by exact congrArg (Prod.mk _) (Nat.zero_add _)) dX7_restore_165 ?_
      refine lv_iload_n hx hb dX7_restore_166 rfl (lv_at hl 2 rfl) ?_
      obtain ⟨g35, h⟩ := gd_some h
      refine u_iald C w hw (hP _ _ (isn_f rfl rfl (ib_lt g34))) rfl rfl (n := 24) rfl (vp_in_iff.mpr g35) dX7_restore_167 ?_
      refine u_iv h (fun x36 h => ?_)
      obtain ⟨g37, h⟩ := gd_some h
      refine u_iast C w hw (hP _ _ (isn_f rfl rfl (by decide))) rfl rfl (n := 24) rfl (vp_in_iff.mpr g37) dX7_restore_168 (fun f H locs w hw hk1 => ?_)
      have hk := hk.tr hk1
      refine u_sv h hw hn (fun S38 h hw hn => ?_)
      refine lv_aload_n hx hb dX7_restore_169 rfl (lv_at hl 0 rfl) ?_
      refine u_getr C w hw (hP _ _ (isn_f rfl rfl (by decide))) rfl (N := 57) rfl rfl cin_7 25 (by decide) (by decide) (a2 := 49) (i2 := 0) rfl gw_1181 dX7_restore_170 ?_
      refine lv_iload_n hx hb dX7_restore_173 rfl (lv_at hl 2 rfl) ?_
      refine lv_aload_n hx hb dX7_restore_174 rfl (lv_at hl 0 rfl) ?_
      refine u_getr C w hw (hP _ _ (isn_f rfl rfl (by decide))) rfl (N := 57) rfl rfl cin_7 54 (by decide) (by decide) (a2 := 68) (i2 := 0) rfl gw_1210 dX7_restore_175 ?_
      refine lv_iconst (v := 5) hx hb dX7_restore_178 (by decide) ?_
      refine lv_iload_n hx hb dX7_restore_179 rfl (lv_at hl 1 rfl) ?_
      refine lv_imul hx hb dX7_restore_180 ?_
      refine u_iv h (fun x39 h => ?_)
      refine lv_iconst (v := 3) hx hb dX7_restore_181 (by decide) ?_
      refine lv_iadd hx hb dX7_restore_182 ?_
      refine u_iv h (fun x40 h => ?_)
      obtain ⟨g41, h⟩ := gd_some h
      refine u_aald C w hw (hP _ _ (isn_f rfl rfl (by decide))) rfl rfl rfl (n := 15) rfl (vp_in_iff.mpr g41) (a2 := 69) (i2 := (x40.toNatClampNeg)) (by exact congrArg (Prod.mk _) (Nat.zero_add _)) dX7_restore_183 ?_
      refine lv_iload_n hx hb dX7_restore_184 rfl (lv_at hl 2 rfl) ?_
      obtain ⟨g42, h⟩ := gd_some h
      refine u_iald C w hw (hP _ _ (isn_f rfl rfl (ib_lt g41))) rfl rfl (n := 24) rfl (vp_in_iff.mpr g42) dX7_restore_185 ?_
      refine u_iv h (fun x43 h => ?_)
      obtain ⟨g44, h⟩ := gd_some h
      refine u_iast C w hw (hP _ _ (isn_f rfl rfl (by decide))) rfl rfl (n := 24) rfl (vp_in_iff.mpr g44) dX7_restore_186 (fun f H locs w hw hk1 => ?_)
      have hk := hk.tr hk1
      refine u_sv h hw hn (fun S45 h hw hn => ?_)
      refine lv_aload_n hx hb dX7_restore_187 rfl (lv_at hl 0 rfl) ?_
      refine u_getr C w hw (hP _ _ (isn_f rfl rfl (by decide))) rfl (N := 57) rfl rfl cin_7 27 (by decide) (by decide) (a2 := 51) (i2 := 0) rfl gw_1183 dX7_restore_188 ?_
      refine lv_iload_n hx hb dX7_restore_191 rfl (lv_at hl 2 rfl) ?_
      refine lv_aload_n hx hb dX7_restore_192 rfl (lv_at hl 0 rfl) ?_
      refine u_getr C w hw (hP _ _ (isn_f rfl rfl (by decide))) rfl (N := 57) rfl rfl cin_7 54 (by decide) (by decide) (a2 := 68) (i2 := 0) rfl gw_1210 dX7_restore_193 ?_
      refine lv_iconst (v := 5) hx hb dX7_restore_196 (by decide) ?_
      refine lv_iload_n hx hb dX7_restore_197 rfl (lv_at hl 1 rfl) ?_
      refine lv_imul hx hb dX7_restore_198 ?_
      refine u_iv h (fun x46 h => ?_)
      refine lv_iconst (v := 4) hx hb dX7_restore_199 (by decide) ?_
      refine lv_iadd hx hb dX7_restore_200 ?_
      refine u_iv h (fun x47 h => ?_)
      obtain ⟨g48, h⟩ := gd_some h
      refine u_aald C w hw (hP _ _ (isn_f rfl rfl (by decide))) rfl rfl rfl (n := 15) rfl (vp_in_iff.mpr g48) (a2 := 69) (i2 := (x47.toNatClampNeg)) (by exact congrArg (Prod.mk _) (Nat.zero_add _)) dX7_restore_201 ?_
      refine lv_iload_n hx hb dX7_restore_202 rfl (lv_at hl 2 rfl) ?_
      obtain ⟨g49, h⟩ := gd_some h
      refine u_iald C w hw (hP _ _ (isn_f rfl rfl (ib_lt g48))) rfl rfl (n := 24) rfl (vp_in_iff.mpr g49) dX7_restore_203 ?_
      refine u_iv h (fun x50 h => ?_)
      refine lv_iconst (v := 1) hx hb dX7_restore_204 (by decide) ?_
      refine lv_icmp_ne (tgt := 212) hx hb dX7_restore_205 (by decide) (fun c51 => ?_) (fun c51 => ?_)
      · have h := bb_f h c51
        refine lv_iconst (v := 0) hx hb dX7_restore_212 (by decide) ?_
        exact J213 k111 hk111 a1 a3 0 a3 S45 h f H locs w hw hn hk ls (lv_sub hl [0, 1, 2] rfl)
      · have h := bb_t h c51
        refine lv_iconst (v := 1) hx hb dX7_restore_208 (by decide) ?_
        refine lv_goto (tgt := 213) hx hb dX7_restore_209 (by decide) ?_
        exact J213 k111 hk111 a1 a3 1 a3 S45 h f H locs w hw hn hk ls (lv_sub hl [0, 1, 2] rfl)
  dsimp only [F_X7_restore] at h
  obtain ⟨f, ef⟩ : ∃ z, z = f0 := ⟨_, rfl⟩
  rw [← ef] at w hw
  have hk : Kp ad P L f0 f := by rw [ef]; exact Kp.rf
  obtain ⟨H, eH⟩ : ∃ z, z = s.heap := ⟨_, rfl⟩
  obtain ⟨locs, el⟩ : ∃ z : List Loc, z = [] := ⟨_, rfl⟩
  rw [← eH, ← el] at w ⊢
  refine lv_aload_n hx hb dX7_restore_0 rfl (lv_at hl 0 rfl) ?_
  refine lv_iconst (v := 0) hx hb dX7_restore_1 (by decide) ?_
  refine u_puti C w hw (hP _ _ (isn_f rfl rfl (by decide))) rfl (N := 57) rfl rfl cin_7 tyX7 tyX7_ok nmX7 0 (by decide) rfl rfl rfl rfl gw_1156 dX7_restore_2 (fun f H locs w hw hk1 => ?_)
  have hk := hk.tr hk1
  refine u_sv h hw hn (fun S52 h hw hn => ?_)
  refine lv_aload_n hx hb dX7_restore_5 rfl (lv_at hl 0 rfl) ?_
  refine u_geti C w hw (hP _ _ (isn_f rfl rfl (by decide))) rfl (N := 57) rfl rfl cin_7 56 (by decide) rfl gw_1212 dX7_restore_6 ?_
  refine u_iv h (fun x53 h => ?_)
  refine lv_if_ne (tgt := 14) hx hb dX7_restore_9 (by decide) (fun c54 => ?_) (fun c54 => ?_)
  · have h := bb_f h c54
    refine lv_aload_n hx hb dX7_restore_14 rfl (lv_at hl 0 rfl) ?_
    refine lv_dup hx hb dX7_restore_15 rfl ?_
    refine u_geti C w hw (hP _ _ (isn_f rfl rfl (by decide))) rfl (N := 57) rfl rfl cin_7 56 (by decide) rfl gw_1212 dX7_restore_16 ?_
    refine u_iv h (fun x55 h => ?_)
    refine lv_iconst (v := 1) hx hb dX7_restore_19 (by decide) ?_
    refine lv_isub hx hb dX7_restore_20 ?_
    refine u_iv h (fun x56 h => ?_)
    refine u_puti C w hw (hP _ _ (isn_f rfl rfl (by decide))) rfl (N := 57) rfl rfl cin_7 tyX7 tyX7_ok nmX7 56 (by decide) rfl rfl rfl rfl gw_1212 dX7_restore_21 (fun f H locs w hw hk1 => ?_)
    have hk := hk.tr hk1
    refine u_sv h hw hn (fun S57 h hw hn => ?_)
    refine lv_aload_n hx hb dX7_restore_24 rfl (lv_at hl 0 rfl) ?_
    refine u_geti C w hw (hP _ _ (isn_f rfl rfl (by decide))) rfl (N := 57) rfl rfl cin_7 56 (by decide) rfl gw_1212 dX7_restore_25 ?_
    refine u_iv h (fun x58 h => ?_)
    refine lv_istore_n (lv' := [(1, .int x58), (0, .ref (ad 40 0))]) hx hb dX7_restore_28 rfl hl (by decide) rfl (fun ls hl => ?_)
    refine lv_aload_n hx hb dX7_restore_29 rfl (lv_at hl 1 rfl) ?_
    refine lv_iload_n hx hb dX7_restore_30 rfl (lv_at hl 0 rfl) ?_
    obtain ⟨v59, S60, h61, h⟩ := bd_some h
    refine u_callV (n := 1) C w hw (hP _ _ (isn_f rfl rfl (by decide))) rfl rfl rfl (c_X7_laysBack l D K b0 sa _ L _ ad P hP S57 hw hn x58 v59 S60 h61) gw_1641 gw_1638 gw_1640 gs_65 gw_8 ⟨by decide, by decide, by decide +kernel⟩ rfl rfl ⟨by decide, by decide⟩ rfl hl.1 rfl (Nat.le_of_ble_eq_true rfl) dX7_restore_31 ⟨Nat.le_of_ble_eq_true rfl, Nat.le_of_ble_eq_true rfl⟩ (fun v9 u H locs hp w => ?_)
    obtain ⟨f2, rfl, rfl, hw, hn, hk1⟩ := hp
    have hk := hk.tr hk1
    generalize f2 = f at w hw hk
    refine lv_aload_n hx hb dX7_restore_34 rfl (lv_at hl 1 rfl) ?_
    refine u_getr C w hw (hP _ _ (isn_f rfl rfl (by decide))) rfl (N := 57) rfl rfl cin_7 53 (by decide) (by decide) (a2 := 66) (i2 := 0) rfl gw_1209 dX7_restore_35 ?_
    refine lv_iload_n hx hb dX7_restore_38 rfl (lv_at hl 0 rfl) ?_
    obtain ⟨g62, h⟩ := gd_some h
    refine u_aald C w hw (hP _ _ (isn_f rfl rfl (by decide))) rfl rfl rfl (n := 4) rfl (vp_in_iff.mpr g62) (a2 := 67) (i2 := (x58.toNatClampNeg)) (by exact congrArg (Prod.mk _) (Nat.zero_add _)) dX7_restore_39 ?_
    refine lv_astore_n (lv' := [(2, .ref (ad 67 (x58.toNatClampNeg))), (1, .int x58), (0, .ref (ad 40 0))]) hx hb dX7_restore_40 rfl hl (by decide) rfl (fun ls hl => ?_)
    refine lv_aload_n hx hb dX7_restore_41 rfl (lv_at hl 2 rfl) ?_
    refine lv_aload_n hx hb dX7_restore_42 rfl (lv_at hl 0 rfl) ?_
    refine lv_iconst (v := 4) hx hb dX7_restore_43 (by decide) ?_
    refine u_iald C w hw (hP _ _ (isn_f rfl rfl (ib_lt g62))) rfl rfl (n := 11) rfl (vp_in_iff.mpr ⟨by decide, by decide⟩) dX7_restore_44 ?_
    refine u_iv h (fun x63 h => ?_)
    refine u_puti C w hw (hP _ _ (isn_f rfl rfl (by decide))) rfl (N := 57) rfl rfl cin_7 tyX7 tyX7_ok nmX7 30 (by decide) rfl rfl rfl rfl gw_1186 dX7_restore_45 (fun f H locs w hw hk1 => ?_)
    have hk := hk.tr hk1
    refine u_sv h hw hn (fun S64 h hw hn => ?_)
    refine lv_aload_n hx hb dX7_restore_48 rfl (lv_at hl 2 rfl) ?_
    refine lv_aload_n hx hb dX7_restore_49 rfl (lv_at hl 0 rfl) ?_
    refine lv_iconst (v := 5) hx hb dX7_restore_50 (by decide) ?_
    refine u_iald C w hw (hP _ _ (isn_f rfl rfl (ib_lt g62))) rfl rfl (n := 11) rfl (vp_in_iff.mpr ⟨by decide, by decide⟩) dX7_restore_51 ?_
    refine u_iv h (fun x65 h => ?_)
    refine u_puti C w hw (hP _ _ (isn_f rfl rfl (by decide))) rfl (N := 57) rfl rfl cin_7 tyX7 tyX7_ok nmX7 31 (by decide) rfl rfl rfl rfl gw_1187 dX7_restore_52 (fun f H locs w hw hk1 => ?_)
    have hk := hk.tr hk1
    refine u_sv h hw hn (fun S66 h hw hn => ?_)
    refine lv_aload_n hx hb dX7_restore_55 rfl (lv_at hl 2 rfl) ?_
    refine lv_aload_n hx hb dX7_restore_56 rfl (lv_at hl 0 rfl) ?_
    refine lv_bipush (v := 6) hx hb dX7_restore_57 (by decide) ?_
    refine u_iald C w hw (hP _ _ (isn_f rfl rfl (ib_lt g62))) rfl rfl (n := 11) rfl (vp_in_iff.mpr ⟨by decide, by decide⟩) dX7_restore_59 ?_
    refine u_iv h (fun x67 h => ?_)
    refine u_puti C w hw (hP _ _ (isn_f rfl rfl (by decide))) rfl (N := 57) rfl rfl cin_7 tyX7 tyX7_ok nmX7 32 (by decide) rfl rfl rfl rfl gw_1188 dX7_restore_60 (fun f H locs w hw hk1 => ?_)
    have hk := hk.tr hk1
    refine u_sv h hw hn (fun S68 h hw hn => ?_)
    refine lv_aload_n hx hb dX7_restore_63 rfl (lv_at hl 2 rfl) ?_
    refine lv_aload_n hx hb dX7_restore_64 rfl (lv_at hl 0 rfl) ?_
    refine lv_bipush (v := 7) hx hb dX7_restore_65 (by decide) ?_
    refine u_iald C w hw (hP _ _ (isn_f rfl rfl (ib_lt g62))) rfl rfl (n := 11) rfl (vp_in_iff.mpr ⟨by decide, by decide⟩) dX7_restore_67 ?_
    refine u_iv h (fun x69 h => ?_)
    refine u_puti C w hw (hP _ _ (isn_f rfl rfl (by decide))) rfl (N := 57) rfl rfl cin_7 tyX7 tyX7_ok nmX7 33 (by decide) rfl rfl rfl rfl gw_1189 dX7_restore_68 (fun f H locs w hw hk1 => ?_)
    have hk := hk.tr hk1
    refine u_sv h hw hn (fun S70 h hw hn => ?_)
    refine lv_aload_n hx hb dX7_restore_71 rfl (lv_at hl 2 rfl) ?_
    refine lv_aload_n hx hb dX7_restore_72 rfl (lv_at hl 0 rfl) ?_
    refine lv_bipush (v := 8) hx hb dX7_restore_73 (by decide) ?_
    refine u_iald C w hw (hP _ _ (isn_f rfl rfl (ib_lt g62))) rfl rfl (n := 11) rfl (vp_in_iff.mpr ⟨by decide, by decide⟩) dX7_restore_75 ?_
    refine u_iv h (fun x71 h => ?_)
    refine u_puti C w hw (hP _ _ (isn_f rfl rfl (by decide))) rfl (N := 57) rfl rfl cin_7 tyX7 tyX7_ok nmX7 34 (by decide) rfl rfl rfl rfl gw_1190 dX7_restore_76 (fun f H locs w hw hk1 => ?_)
    have hk := hk.tr hk1
    refine u_sv h hw hn (fun S72 h hw hn => ?_)
    refine lv_aload_n hx hb dX7_restore_79 rfl (lv_at hl 2 rfl) ?_
    refine lv_aload_n hx hb dX7_restore_80 rfl (lv_at hl 0 rfl) ?_
    refine lv_bipush (v := 9) hx hb dX7_restore_81 (by decide) ?_
    refine u_iald C w hw (hP _ _ (isn_f rfl rfl (ib_lt g62))) rfl rfl (n := 11) rfl (vp_in_iff.mpr ⟨by decide, by decide⟩) dX7_restore_83 ?_
    refine u_iv h (fun x73 h => ?_)
    refine lv_bipush (v := 100) hx hb dX7_restore_84 (by decide) ?_
    refine lv_idiv hx hb dX7_restore_86 (by decide) ?_
    refine u_iv h (fun x74 h => ?_)
    refine u_puti C w hw (hP _ _ (isn_f rfl rfl (by decide))) rfl (N := 57) rfl rfl cin_7 tyX7 tyX7_ok nmX7 46 (by decide) rfl rfl rfl rfl gw_1202 dX7_restore_87 (fun f H locs w hw hk1 => ?_)
    have hk := hk.tr hk1
    refine u_sv h hw hn (fun S75 h hw hn => ?_)
    refine lv_aload_n hx hb dX7_restore_90 rfl (lv_at hl 2 rfl) ?_
    refine lv_aload_n hx hb dX7_restore_91 rfl (lv_at hl 0 rfl) ?_
    refine lv_bipush (v := 9) hx hb dX7_restore_92 (by decide) ?_
    refine u_iald C w hw (hP _ _ (isn_f rfl rfl (ib_lt g62))) rfl rfl (n := 11) rfl (vp_in_iff.mpr ⟨by decide, by decide⟩) dX7_restore_94 ?_
    refine u_iv h (fun x76 h => ?_)
    refine lv_bipush (v := 100) hx hb dX7_restore_95 (by decide) ?_
    refine lv_irem hx hb dX7_restore_97 (by decide) ?_
    refine u_iv h (fun x77 h => ?_)
    refine u_puti C w hw (hP _ _ (isn_f rfl rfl (by decide))) rfl (N := 57) rfl rfl cin_7 tyX7 tyX7_ok nmX7 21 (by decide) rfl rfl rfl rfl gw_1177 dX7_restore_98 (fun f H locs w hw hk1 => ?_)
    have hk := hk.tr hk1
    refine u_sv h hw hn (fun S78 h hw hn => ?_)
    refine lv_aload_n hx hb dX7_restore_101 rfl (lv_at hl 2 rfl) ?_
    refine lv_aload_n hx hb dX7_restore_102 rfl (lv_at hl 0 rfl) ?_
    refine lv_bipush (v := 10) hx hb dX7_restore_103 (by decide) ?_
    refine u_iald C w hw (hP _ _ (isn_f rfl rfl (ib_lt g62))) rfl rfl (n := 11) rfl (vp_in_iff.mpr ⟨by decide, by decide⟩) dX7_restore_105 ?_
    refine u_iv h (fun x79 h => ?_)
    refine u_puti C w hw (hP _ _ (isn_f rfl rfl (by decide))) rfl (N := 57) rfl rfl cin_7 tyX7 tyX7_ok nmX7 15 (by decide) rfl rfl rfl rfl gw_1171 dX7_restore_106 (fun f H locs w hw hk1 => ?_)
    have hk := hk.tr hk1
    refine u_sv h hw hn (fun S80 h hw hn => ?_)
    refine lv_iconst (v := 0) hx hb dX7_restore_109 (by decide) ?_
    refine lv_istore_n (lv' := [(3, .int 0), (2, .ref (ad 67 (x58.toNatClampNeg))), (1, .int x58), (0, .ref (ad 40 0))]) hx hb dX7_restore_110 rfl hl (by decide) rfl (fun ls hl => ?_)
    exact J111  fuel x58 0 S80 h f H locs w hw hn hk ls (lv_sub hl [3, 2, 0] rfl)
  · have h := bb_t h c54
    refine lv_iconst (v := (-1)) hx hb dX7_restore_12 (by decide) ?_
    exact t_iret C hr hlk w ⟨_, so_v h, rfl, so_w h hw, so_n h hn, hk⟩ (by decide) (by decide) dX7_restore_13
theorem dX7_lying_0 : decode cX7_lying 0 = .ok (.iconst 0, 1) := by decide +kernel
theorem dX7_lying_1 : decode cX7_lying 1 = .ok (.istore_n 2, 1) := by decide +kernel
theorem dX7_lying_2 : decode cX7_lying 2 = .ok (.iconst 0, 1) := by decide +kernel
theorem dX7_lying_3 : decode cX7_lying 3 = .ok (.istore_n 3, 1) := by decide +kernel
theorem dX7_lying_4 : decode cX7_lying 4 = .ok (.iload_n 3, 1) := by decide +kernel
theorem dX7_lying_5 : decode cX7_lying 5 = .ok (.aload_n 0, 1) := by decide +kernel
theorem dX7_lying_6 : decode cX7_lying 6 = .ok (.getfield 256, 3) := by decide +kernel
theorem dX7_lying_9 : decode cX7_lying 9 = .ok (.if_icmp .ge 49, 3) := by decide +kernel
theorem dX7_lying_12 : decode cX7_lying 12 = .ok (.iload_n 2, 1) := by decide +kernel
theorem dX7_lying_13 : decode cX7_lying 13 = .ok (.iload_n 1, 1) := by decide +kernel
theorem dX7_lying_14 : decode cX7_lying 14 = .ok (.ifCond .ne 20, 3) := by decide +kernel
theorem dX7_lying_17 : decode cX7_lying 17 = .ok (.aload_n 0, 1) := by decide +kernel
theorem dX7_lying_18 : decode cX7_lying 18 = .ok (.getfield 45, 3) := by decide +kernel
theorem dX7_lying_21 : decode cX7_lying 21 = .ok (.iload_n 3, 1) := by decide +kernel
theorem dX7_lying_22 : decode cX7_lying 22 = .ok (.iaload, 1) := by decide +kernel
theorem dX7_lying_23 : decode cX7_lying 23 = .ok (.ifCond .lt 7, 3) := by decide +kernel
theorem dX7_lying_26 : decode cX7_lying 26 = .ok (.iconst 1, 1) := by decide +kernel
theorem dX7_lying_27 : decode cX7_lying 27 = .ok (.goto 23, 3) := by decide +kernel
theorem dX7_lying_30 : decode cX7_lying 30 = .ok (.iconst 0, 1) := by decide +kernel
theorem dX7_lying_31 : decode cX7_lying 31 = .ok (.goto 19, 3) := by decide +kernel
theorem dX7_lying_34 : decode cX7_lying 34 = .ok (.aload_n 0, 1) := by decide +kernel
theorem dX7_lying_35 : decode cX7_lying 35 = .ok (.getfield 45, 3) := by decide +kernel
theorem dX7_lying_38 : decode cX7_lying 38 = .ok (.iload_n 3, 1) := by decide +kernel
theorem dX7_lying_39 : decode cX7_lying 39 = .ok (.iaload, 1) := by decide +kernel
theorem dX7_lying_40 : decode cX7_lying 40 = .ok (.iload_n 1, 1) := by decide +kernel
theorem dX7_lying_41 : decode cX7_lying 41 = .ok (.ineg, 1) := by decide +kernel
theorem dX7_lying_42 : decode cX7_lying 42 = .ok (.if_icmp .ne 7, 3) := by decide +kernel
theorem dX7_lying_45 : decode cX7_lying 45 = .ok (.iconst 1, 1) := by decide +kernel
theorem dX7_lying_46 : decode cX7_lying 46 = .ok (.goto 4, 3) := by decide +kernel
theorem dX7_lying_49 : decode cX7_lying 49 = .ok (.iconst 0, 1) := by decide +kernel
theorem dX7_lying_50 : decode cX7_lying 50 = .ok (.iadd, 1) := by decide +kernel
theorem dX7_lying_51 : decode cX7_lying 51 = .ok (.istore_n 2, 1) := by decide +kernel
theorem dX7_lying_52 : decode cX7_lying 52 = .ok (.iinc 3 1, 3) := by decide +kernel
theorem dX7_lying_55 : decode cX7_lying 55 = .ok (.goto (-51), 3) := by decide +kernel
theorem dX7_lying_58 : decode cX7_lying 58 = .ok (.iload_n 2, 1) := by decide +kernel
theorem dX7_lying_59 : decode cX7_lying 59 = .ok (.ireturn, 1) := by decide +kernel
noncomputable def B_X7_lying_50 (k4 : (Int32 × Int32 × Int32) → fS → Option (Int32 × fS)) (a1 : Int32) (a3 : Int32) (t0 : Int32) (t1 : Int32) (S : fS) : Option (Int32 × fS) := iv (t1 + t0) (fun x1 => iv (a3 + Int32.ofInt 1) (fun x2 => k4 (a1, x1, x2) S))
noncomputable def B_X7_lying_4 (k4 : (Int32 × Int32 × Int32) → fS → Option (Int32 × fS)) : (Int32 × Int32 × Int32) → fS → Option (Int32 × fS) := fun ⟨a1, a2, a3⟩ S => iv (ge S 40 0 21) (fun x3 => bb (x3 ≤ a3) (some (a2, S)) (bb (a1 = (0 : Int32)) (gd (ib a3 24) (iv (ge S 50 0 (a3 : Int32).toNatClampNeg) (fun x11 => bb (x11 < (0 : Int32)) (B_X7_lying_50 k4 a1 a3 0 a2 S) (B_X7_lying_50 k4 a1 a3 1 a2 S)))) (gd (ib a3 24) (iv (ge S 50 0 (a3 : Int32).toNatClampNeg) (fun x7 => iv (-a1) (fun x8 => bb (x7 = x8) (B_X7_lying_50 k4 a1 a3 1 a2 S) (B_X7_lying_50 k4 a1 a3 0 a2 S)))))))
noncomputable def F_X7_lying (p1 : Int32) (S0 : fS) : Option (Int32 × fS) := lp (B_X7_lying_4 ) fuel (p1, 0, 0) S0
set_option maxHeartbeats 4000000 in
set_option maxRecDepth 100000 in
theorem c_X7_lying (l : Launch) (D : va_G) (K : Nat → ClassId) (b0 : Nat) (sa : sT) (sz : Nat) (L : List Nat) (f0 : Nat → va_E) (ad : Nat → Nat → Nat) (P : Nat → Nat → Prop) {n : Nat × Nat} (hP : ∀ a i : Nat, isn n a i → P a i) (S0 : fS) (hw : PW K ad P S0 L f0) (hn : S0.2.2.1 = n) (p1 : Int32) (v : Int32) (S1 : fS) (h : F_X7_lying p1 S0 = some (v, S1)) : Met l yX7_lying (.code yX7_lying cX7_lying 4 (some .int) :: gt) { frames := 0, cells := 0, slots := 0, locals := 0 } (va_Pc [.ref (ad 40 0), .int p1] (hPre D K b0 sa sz L f0)) (hQ D K b0 (fun v9 u9 => ∃ f2 : Nat → va_E, v9 = some (.int v) ∧ u9 = lU L f2 ∧ PW K ad P S1 L f2 ∧ S1.2.2.1 = n ∧ Kp ad P L f0 f2)) 0 0 (fun q => b0 ≤ q) := by
  refine t_of (own := RX7) (by decide) rfl ?_ (Nat.le_of_ble_eq_true rfl)
  intro p e s m below meth c ls C w hsz hr hlk hnm hl
  have hx := C.1
  have hb := C.2.1
  have hl : lv_has ls 4 [(0, .ref (ad 40 0)), (1, .int p1)] := hl
  have J50 : ∀ (k4 : (Int32 × Int32 × Int32) → fS → Option (Int32 × fS)) (hk4 : ∀ (a1 : Int32) (a2 : Int32) (a3 : Int32) (S : fS), k4 (a1, a2, a3) S = some (v, S1) → Gw D K b0 sa ad P n L f0 p l e { frames := 0, cells := 0, slots := 0, locals := 0 } s m [.ref (ad 40 0), .int p1].toArray below meth c 4 (MQ below (hQ D K b0 (fun v9 u9 => ∃ f2 : Nat → va_E, v9 = some (.int v) ∧ u9 = lU L f2 ∧ PW K ad P S1 L f2 ∧ S1.2.2.1 = n ∧ Kp ad P L f0 f2)) [.ref (ad 40 0), .int p1].toArray s 0 0 (fun q => b0 ≤ q)) 0 0 4 [(0, .ref (ad 40 0)), (1, .int a1), (2, .int a2), (3, .int a3)] [] S) (a1 : Int32) (a3 : Int32) (t0 : Int32) (t1 : Int32) (S : fS), B_X7_lying_50 k4 a1 a3 t0 t1 S = some (v, S1) → Gw D K b0 sa ad P n L f0 p l e { frames := 0, cells := 0, slots := 0, locals := 0 } s m [.ref (ad 40 0), .int p1].toArray below meth c 4 (MQ below (hQ D K b0 (fun v9 u9 => ∃ f2 : Nat → va_E, v9 = some (.int v) ∧ u9 = lU L f2 ∧ PW K ad P S1 L f2 ∧ S1.2.2.1 = n ∧ Kp ad P L f0 f2)) [.ref (ad 40 0), .int p1].toArray s 0 0 (fun q => b0 ≤ q)) 0 0 50 [(0, .ref (ad 40 0)), (1, .int a1), (3, .int a3)] [.int t0, .int t1] S := by
    intro k4 hk4 a1 a3 t0 t1 S h
    dsimp only [B_X7_lying_50] at h
    intro f H locs w hw hn hk ls hl
    refine lv_iadd hx hb dX7_lying_50 ?_
    refine u_iv h (fun x1 h => ?_)
    refine lv_istore_n (lv' := [(2, .int x1), (0, .ref (ad 40 0)), (1, .int a1), (3, .int a3)]) hx hb dX7_lying_51 rfl hl (by decide) rfl (fun ls hl => ?_)
    obtain ⟨x2, ex2, h⟩ := iv_some h
    refine lv_iinc (v := x2) (lv' := [(3, .int x2), (2, .int x1), (0, .ref (ad 40 0)), (1, .int a1)]) hx hb dX7_lying_52 hl (k := 3) rfl ex2.symm (by decide) rfl (fun ls hl => ?_)
    refine lv_goto (tgt := 4) hx hb dX7_lying_55 (by decide) ?_
    exact hk4 a1 x1 x2 S h f H locs w hw hn hk ls (lv_sub hl [2, 3, 1, 0] rfl)
  have J4 : ∀ (fu : Nat) (a1 : Int32) (a2 : Int32) (a3 : Int32) (S : fS), lp (B_X7_lying_4 ) fu (a1, a2, a3) S = some (v, S1) → Gw D K b0 sa ad P n L f0 p l e { frames := 0, cells := 0, slots := 0, locals := 0 } s m [.ref (ad 40 0), .int p1].toArray below meth c 4 (MQ below (hQ D K b0 (fun v9 u9 => ∃ f2 : Nat → va_E, v9 = some (.int v) ∧ u9 = lU L f2 ∧ PW K ad P S1 L f2 ∧ S1.2.2.1 = n ∧ Kp ad P L f0 f2)) [.ref (ad 40 0), .int p1].toArray s 0 0 (fun q => b0 ≤ q)) 0 0 4 [(0, .ref (ad 40 0)), (1, .int a1), (2, .int a2), (3, .int a3)] [] S := by
    intro fu a1 a2 a3 S h
    refine lp_some (G := (fun q S => Gw D K b0 sa ad P n L f0 p l e { frames := 0, cells := 0, slots := 0, locals := 0 } s m [.ref (ad 40 0), .int p1].toArray below meth c 4 (MQ below (hQ D K b0 (fun v9 u9 => ∃ f2 : Nat → va_E, v9 = some (.int v) ∧ u9 = lU L f2 ∧ PW K ad P S1 L f2 ∧ S1.2.2.1 = n ∧ Kp ad P L f0 f2)) [.ref (ad 40 0), .int p1].toArray s 0 0 (fun q => b0 ≤ q)) 0 0 4 [(0, .ref (ad 40 0)), (1, .int q.1), (2, .int q.2.1), (3, .int q.2.2)] [] S)) (fun k4 hk4 q S h => ?_) fu (a1, a2, a3) S h
    obtain ⟨a1, a2, a3⟩ := q
    have hk4 : ∀ (a1 : Int32) (a2 : Int32) (a3 : Int32) (S : fS), k4 (a1, a2, a3) S = some (v, S1) → Gw D K b0 sa ad P n L f0 p l e { frames := 0, cells := 0, slots := 0, locals := 0 } s m [.ref (ad 40 0), .int p1].toArray below meth c 4 (MQ below (hQ D K b0 (fun v9 u9 => ∃ f2 : Nat → va_E, v9 = some (.int v) ∧ u9 = lU L f2 ∧ PW K ad P S1 L f2 ∧ S1.2.2.1 = n ∧ Kp ad P L f0 f2)) [.ref (ad 40 0), .int p1].toArray s 0 0 (fun q => b0 ≤ q)) 0 0 4 [(0, .ref (ad 40 0)), (1, .int a1), (2, .int a2), (3, .int a3)] [] S := fun a1 a2 a3 S h => hk4 (a1, a2, a3) S h
    dsimp only [B_X7_lying_4] at h
    intro f H locs w hw hn hk ls hl
    refine lv_iload_n hx hb dX7_lying_4 rfl (lv_at hl 3 rfl) ?_
    refine lv_aload_n hx hb dX7_lying_5 rfl (lv_at hl 0 rfl) ?_
    refine u_geti C w hw (hP _ _ (isn_f rfl rfl (by decide))) rfl (N := 57) rfl rfl cin_7 21 (by decide) rfl gw_1177 dX7_lying_6 ?_
    refine u_iv h (fun x3 h => ?_)
    refine lv_icmp_ge (tgt := 58) hx hb dX7_lying_9 (by decide) (fun c4 => ?_) (fun c4 => ?_)
    · have h := bb_t h c4
      refine lv_iload_n hx hb dX7_lying_58 rfl (lv_at hl 2 rfl) ?_
      exact t_iret C hr hlk w ⟨_, so_v h, rfl, so_w h hw, so_n h hn, hk⟩ (by decide) (by decide) dX7_lying_59
    · have h := bb_f h c4
      refine lv_iload_n hx hb dX7_lying_12 rfl (lv_at hl 2 rfl) ?_
      refine lv_iload_n hx hb dX7_lying_13 rfl (lv_at hl 1 rfl) ?_
      refine lv_if_ne (tgt := 34) hx hb dX7_lying_14 (by decide) (fun c5 => ?_) (fun c5 => ?_)
      · have h := bb_f h c5
        refine lv_aload_n hx hb dX7_lying_34 rfl (lv_at hl 0 rfl) ?_
        refine u_getr C w hw (hP _ _ (isn_f rfl rfl (by decide))) rfl (N := 57) rfl rfl cin_7 26 (by decide) (by decide) (a2 := 50) (i2 := 0) rfl gw_1182 dX7_lying_35 ?_
        refine lv_iload_n hx hb dX7_lying_38 rfl (lv_at hl 3 rfl) ?_
        obtain ⟨g6, h⟩ := gd_some h
        refine u_iald C w hw (hP _ _ (isn_f rfl rfl (by decide))) rfl rfl (n := 24) rfl (vp_in_iff.mpr g6) dX7_lying_39 ?_
        refine u_iv h (fun x7 h => ?_)
        refine lv_iload_n hx hb dX7_lying_40 rfl (lv_at hl 1 rfl) ?_
        refine lv_ineg hx hb dX7_lying_41 ?_
        refine u_iv h (fun x8 h => ?_)
        refine lv_icmp_ne (tgt := 49) hx hb dX7_lying_42 (by decide) (fun c9 => ?_) (fun c9 => ?_)
        · have h := bb_f h c9
          refine lv_iconst (v := 0) hx hb dX7_lying_49 (by decide) ?_
          exact J50 k4 hk4 a1 a3 0 a2 S h f H locs w hw hn hk ls (lv_sub hl [0, 1, 3] rfl)
        · have h := bb_t h c9
          refine lv_iconst (v := 1) hx hb dX7_lying_45 (by decide) ?_
          refine lv_goto (tgt := 50) hx hb dX7_lying_46 (by decide) ?_
          exact J50 k4 hk4 a1 a3 1 a2 S h f H locs w hw hn hk ls (lv_sub hl [0, 1, 3] rfl)
      · have h := bb_t h c5
        refine lv_aload_n hx hb dX7_lying_17 rfl (lv_at hl 0 rfl) ?_
        refine u_getr C w hw (hP _ _ (isn_f rfl rfl (by decide))) rfl (N := 57) rfl rfl cin_7 26 (by decide) (by decide) (a2 := 50) (i2 := 0) rfl gw_1182 dX7_lying_18 ?_
        refine lv_iload_n hx hb dX7_lying_21 rfl (lv_at hl 3 rfl) ?_
        obtain ⟨g10, h⟩ := gd_some h
        refine u_iald C w hw (hP _ _ (isn_f rfl rfl (by decide))) rfl rfl (n := 24) rfl (vp_in_iff.mpr g10) dX7_lying_22 ?_
        refine u_iv h (fun x11 h => ?_)
        refine lv_if_lt (tgt := 30) hx hb dX7_lying_23 (by decide) (fun c12 => ?_) (fun c12 => ?_)
        · have h := bb_t h c12
          refine lv_iconst (v := 0) hx hb dX7_lying_30 (by decide) ?_
          refine lv_goto (tgt := 50) hx hb dX7_lying_31 (by decide) ?_
          exact J50 k4 hk4 a1 a3 0 a2 S h f H locs w hw hn hk ls (lv_sub hl [0, 1, 3] rfl)
        · have h := bb_f h c12
          refine lv_iconst (v := 1) hx hb dX7_lying_26 (by decide) ?_
          refine lv_goto (tgt := 50) hx hb dX7_lying_27 (by decide) ?_
          exact J50 k4 hk4 a1 a3 1 a2 S h f H locs w hw hn hk ls (lv_sub hl [0, 1, 3] rfl)
  dsimp only [F_X7_lying] at h
  obtain ⟨f, ef⟩ : ∃ z, z = f0 := ⟨_, rfl⟩
  rw [← ef] at w hw
  have hk : Kp ad P L f0 f := by rw [ef]; exact Kp.rf
  obtain ⟨H, eH⟩ : ∃ z, z = s.heap := ⟨_, rfl⟩
  obtain ⟨locs, el⟩ : ∃ z : List Loc, z = [] := ⟨_, rfl⟩
  rw [← eH, ← el] at w ⊢
  refine lv_iconst (v := 0) hx hb dX7_lying_0 (by decide) ?_
  refine lv_istore_n (lv' := [(2, .int 0), (0, .ref (ad 40 0)), (1, .int p1)]) hx hb dX7_lying_1 rfl hl (by decide) rfl (fun ls hl => ?_)
  refine lv_iconst (v := 0) hx hb dX7_lying_2 (by decide) ?_
  refine lv_istore_n (lv' := [(3, .int 0), (2, .int 0), (0, .ref (ad 40 0)), (1, .int p1)]) hx hb dX7_lying_3 rfl hl (by decide) rfl (fun ls hl => ?_)
  exact J4  fuel p1 0 0 S0 h f H locs w hw hn hk ls (lv_sub hl [2, 3, 1, 0] rfl)
theorem dX7_count_0 : decode cX7_count 0 = .ok (.aload_n 0, 1) := by decide +kernel
theorem dX7_count_1 : decode cX7_count 1 = .ok (.iconst 0, 1) := by decide +kernel
theorem dX7_count_2 : decode cX7_count 2 = .ok (.putfield 97, 3) := by decide +kernel
theorem dX7_count_5 : decode cX7_count 5 = .ok (.iload_n 1, 1) := by decide +kernel
theorem dX7_count_6 : decode cX7_count 6 = .ok (.tableswitch 145 0 13 #[70, 75, 81, 87, 93, 98, 105, 110, 115, 120, 125, 130, 135, 140], 70) := by decide +kernel
theorem dX7_count_76 : decode cX7_count 76 = .ok (.aload_n 0, 1) := by decide +kernel
theorem dX7_count_77 : decode cX7_count 77 = .ok (.getfield 256, 3) := by decide +kernel
theorem dX7_count_80 : decode cX7_count 80 = .ok (.ireturn, 1) := by decide +kernel
theorem dX7_count_81 : decode cX7_count 81 = .ok (.aload_n 0, 1) := by decide +kernel
theorem dX7_count_82 : decode cX7_count 82 = .ok (.iconst 0, 1) := by decide +kernel
theorem dX7_count_83 : decode cX7_count 83 = .ok (.invokevirtual 368, 3) := by decide +kernel
theorem dX7_count_86 : decode cX7_count 86 = .ok (.ireturn, 1) := by decide +kernel
theorem dX7_count_87 : decode cX7_count 87 = .ok (.aload_n 0, 1) := by decide +kernel
theorem dX7_count_88 : decode cX7_count 88 = .ok (.iconst 1, 1) := by decide +kernel
theorem dX7_count_89 : decode cX7_count 89 = .ok (.invokevirtual 368, 3) := by decide +kernel
theorem dX7_count_92 : decode cX7_count 92 = .ok (.ireturn, 1) := by decide +kernel
theorem dX7_count_93 : decode cX7_count 93 = .ok (.aload_n 0, 1) := by decide +kernel
theorem dX7_count_94 : decode cX7_count 94 = .ok (.iconst 2, 1) := by decide +kernel
theorem dX7_count_95 : decode cX7_count 95 = .ok (.invokevirtual 368, 3) := by decide +kernel
theorem dX7_count_98 : decode cX7_count 98 = .ok (.ireturn, 1) := by decide +kernel
theorem dX7_count_99 : decode cX7_count 99 = .ok (.aload_n 0, 1) := by decide +kernel
theorem dX7_count_100 : decode cX7_count 100 = .ok (.getfield 222, 3) := by decide +kernel
theorem dX7_count_103 : decode cX7_count 103 = .ok (.ireturn, 1) := by decide +kernel
theorem dX7_count_104 : decode cX7_count 104 = .ok (.aload_n 0, 1) := by decide +kernel
theorem dX7_count_105 : decode cX7_count 105 = .ok (.getfield 225, 3) := by decide +kernel
theorem dX7_count_108 : decode cX7_count 108 = .ok (.iconst 1, 1) := by decide +kernel
theorem dX7_count_109 : decode cX7_count 109 = .ok (.iadd, 1) := by decide +kernel
theorem dX7_count_110 : decode cX7_count 110 = .ok (.ireturn, 1) := by decide +kernel
theorem dX7_count_111 : decode cX7_count 111 = .ok (.aload_n 0, 1) := by decide +kernel
theorem dX7_count_112 : decode cX7_count 112 = .ok (.getfield 228, 3) := by decide +kernel
theorem dX7_count_115 : decode cX7_count 115 = .ok (.ireturn, 1) := by decide +kernel
theorem dX7_count_116 : decode cX7_count 116 = .ok (.aload_n 0, 1) := by decide +kernel
theorem dX7_count_117 : decode cX7_count 117 = .ok (.getfield 231, 3) := by decide +kernel
theorem dX7_count_120 : decode cX7_count 120 = .ok (.ireturn, 1) := by decide +kernel
theorem dX7_count_121 : decode cX7_count 121 = .ok (.aload_n 0, 1) := by decide +kernel
theorem dX7_count_122 : decode cX7_count 122 = .ok (.getfield 213, 3) := by decide +kernel
theorem dX7_count_125 : decode cX7_count 125 = .ok (.ireturn, 1) := by decide +kernel
theorem dX7_count_126 : decode cX7_count 126 = .ok (.aload_n 0, 1) := by decide +kernel
theorem dX7_count_127 : decode cX7_count 127 = .ok (.getfield 210, 3) := by decide +kernel
theorem dX7_count_130 : decode cX7_count 130 = .ok (.ireturn, 1) := by decide +kernel
theorem dX7_count_131 : decode cX7_count 131 = .ok (.aload_n 0, 1) := by decide +kernel
theorem dX7_count_132 : decode cX7_count 132 = .ok (.getfield 330, 3) := by decide +kernel
theorem dX7_count_135 : decode cX7_count 135 = .ok (.ireturn, 1) := by decide +kernel
theorem dX7_count_136 : decode cX7_count 136 = .ok (.aload_n 0, 1) := by decide +kernel
theorem dX7_count_137 : decode cX7_count 137 = .ok (.getfield 365, 3) := by decide +kernel
theorem dX7_count_140 : decode cX7_count 140 = .ok (.ireturn, 1) := by decide +kernel
theorem dX7_count_141 : decode cX7_count 141 = .ok (.aload_n 0, 1) := by decide +kernel
theorem dX7_count_142 : decode cX7_count 142 = .ok (.getfield 104, 3) := by decide +kernel
theorem dX7_count_145 : decode cX7_count 145 = .ok (.ireturn, 1) := by decide +kernel
theorem dX7_count_146 : decode cX7_count 146 = .ok (.aload_n 0, 1) := by decide +kernel
theorem dX7_count_147 : decode cX7_count 147 = .ok (.getfield 67, 3) := by decide +kernel
theorem dX7_count_150 : decode cX7_count 150 = .ok (.ireturn, 1) := by decide +kernel
theorem dX7_count_151 : decode cX7_count 151 = .ok (.iconst (-1), 1) := by decide +kernel
theorem dX7_count_152 : decode cX7_count 152 = .ok (.ireturn, 1) := by decide +kernel
noncomputable def F_X7_count (p1 : Int32) (S0 : fS) : Option (Int32 × fS) := sv (pu S0 40 0 0 0) (fun S1 => bb (p1.toInt = 0) (iv (ge S1 40 0 21) (fun x3 => some (x3, S1))) (bb (p1.toInt = 1) (bd (F_X7_lying 0 S1) (fun v5 S6 => some (v5, S6))) (bb (p1.toInt = 2) (bd (F_X7_lying 1 S1) (fun v9 S10 => some (v9, S10))) (bb (p1.toInt = 3) (bd (F_X7_lying 2 S1) (fun v13 S14 => some (v13, S14))) (bb (p1.toInt = 4) (iv (ge S1 40 0 35) (fun x17 => some (x17, S1))) (bb (p1.toInt = 5) (iv (ge S1 40 0 36) (fun x19 => iv (x19 + (1 : Int32)) (fun x20 => some (x20, S1)))) (bb (p1.toInt = 6) (iv (ge S1 40 0 37) (fun x22 => some (x22, S1))) (bb (p1.toInt = 7) (iv (ge S1 40 0 38) (fun x24 => some (x24, S1))) (bb (p1.toInt = 8) (iv (ge S1 40 0 13) (fun x26 => some (x26, S1))) (bb (p1.toInt = 9) (iv (ge S1 40 0 14) (fun x28 => some (x28, S1))) (bb (p1.toInt = 10) (iv (ge S1 40 0 48) (fun x30 => some (x30, S1))) (bb (p1.toInt = 11) (iv (ge S1 40 0 56) (fun x32 => some (x32, S1))) (bb (p1.toInt = 12) (iv (ge S1 40 0 1) (fun x34 => some (x34, S1))) (bb (p1.toInt = 13) (iv (ge S1 40 0 34) (fun x36 => some (x36, S1))) (some ((-1), S1))))))))))))))))
set_option maxHeartbeats 4000000 in
set_option maxRecDepth 100000 in
theorem c_X7_count (l : Launch) (D : va_G) (K : Nat → ClassId) (b0 : Nat) (sa : sT) (sz : Nat) (L : List Nat) (f0 : Nat → va_E) (ad : Nat → Nat → Nat) (P : Nat → Nat → Prop) {n : Nat × Nat} (hP : ∀ a i : Nat, isn n a i → P a i) (S0 : fS) (hw : PW K ad P S0 L f0) (hn : S0.2.2.1 = n) (p1 : Int32) (v : Int32) (S1 : fS) (h : F_X7_count p1 S0 = some (v, S1)) : Met l yX7_count (.code yX7_count cX7_count 2 (some .int) :: gt) { frames := 1, cells := 0, slots := 0, locals := 23 } (va_Pc [.ref (ad 40 0), .int p1] (hPre D K b0 sa sz L f0)) (hQ D K b0 (fun v9 u9 => ∃ f2 : Nat → va_E, v9 = some (.int v) ∧ u9 = lU L f2 ∧ PW K ad P S1 L f2 ∧ S1.2.2.1 = n ∧ Kp ad P L f0 f2)) 0 0 (fun q => b0 ≤ q) := by
  refine t_of (own := RX7) (by decide) rfl ?_ (Nat.le_of_ble_eq_true rfl)
  intro p e s m below meth c ls C w hsz hr hlk hnm hl
  have hx := C.1
  have hb := C.2.1
  have hl : lv_has ls 2 [(0, .ref (ad 40 0)), (1, .int p1)] := hl
  dsimp only [F_X7_count] at h
  obtain ⟨f, ef⟩ : ∃ z, z = f0 := ⟨_, rfl⟩
  rw [← ef] at w hw
  have hk : Kp ad P L f0 f := by rw [ef]; exact Kp.rf
  obtain ⟨H, eH⟩ : ∃ z, z = s.heap := ⟨_, rfl⟩
  obtain ⟨locs, el⟩ : ∃ z : List Loc, z = [] := ⟨_, rfl⟩
  rw [← eH, ← el] at w ⊢
  refine lv_aload_n hx hb dX7_count_0 rfl (lv_at hl 0 rfl) ?_
  refine lv_iconst (v := 0) hx hb dX7_count_1 (by decide) ?_
  refine u_puti C w hw (hP _ _ (isn_f rfl rfl (by decide))) rfl (N := 57) rfl rfl cin_7 tyX7 tyX7_ok nmX7 0 (by decide) rfl rfl rfl rfl gw_1156 dX7_count_2 (fun f H locs w hw hk1 => ?_)
  have hk := hk.tr hk1
  refine u_sv h hw hn (fun S1 h hw hn => ?_)
  refine lv_iload_n hx hb dX7_count_5 rfl (lv_at hl 1 rfl) ?_
  by_cases c2 : p1.toInt = 0
  · have h := bb_t h c2
    refine lv_tableIn (tgt := 76) hx hb dX7_count_6 (by omega) (by omega) (by rw [c2]; rfl) (by decide) ?_
    refine lv_aload_n hx hb dX7_count_76 rfl (lv_at hl 0 rfl) ?_
    refine u_geti C w hw (hP _ _ (isn_f rfl rfl (by decide))) rfl (N := 57) rfl rfl cin_7 21 (by decide) rfl gw_1177 dX7_count_77 ?_
    refine u_iv h (fun x3 h => ?_)
    exact t_iret C hr hlk w ⟨_, so_v h, rfl, so_w h hw, so_n h hn, hk⟩ (by decide) (by decide) dX7_count_80
  have h := bb_f h c2
  by_cases c4 : p1.toInt = 1
  · have h := bb_t h c4
    refine lv_tableIn (tgt := 81) hx hb dX7_count_6 (by omega) (by omega) (by rw [c4]; rfl) (by decide) ?_
    refine lv_aload_n hx hb dX7_count_81 rfl (lv_at hl 0 rfl) ?_
    refine lv_iconst (v := 0) hx hb dX7_count_82 (by decide) ?_
    obtain ⟨v5, S6, h7, h⟩ := bd_some h
    refine u_callV (n := 1) C w hw (hP _ _ (isn_f rfl rfl (by decide))) rfl rfl rfl (c_X7_lying l D K b0 sa _ L _ ad P hP S1 hw hn 0 v5 S6 h7) gw_1690 gw_1687 gw_1689 gs_67 gw_8 ⟨by decide, by decide, by decide +kernel⟩ rfl rfl ⟨by decide, by decide⟩ rfl hl.1 rfl (Nat.le_of_ble_eq_true rfl) dX7_count_83 ⟨Nat.le_of_ble_eq_true rfl, Nat.le_of_ble_eq_true rfl⟩ (fun v9 u H locs hp w => ?_)
    obtain ⟨f2, rfl, rfl, hw, hn, hk1⟩ := hp
    have hk := hk.tr hk1
    generalize f2 = f at w hw hk
    exact t_iret C hr hlk w ⟨_, so_v h, rfl, so_w h hw, so_n h hn, hk⟩ (by decide) (by decide) dX7_count_86
  have h := bb_f h c4
  by_cases c8 : p1.toInt = 2
  · have h := bb_t h c8
    refine lv_tableIn (tgt := 87) hx hb dX7_count_6 (by omega) (by omega) (by rw [c8]; rfl) (by decide) ?_
    refine lv_aload_n hx hb dX7_count_87 rfl (lv_at hl 0 rfl) ?_
    refine lv_iconst (v := 1) hx hb dX7_count_88 (by decide) ?_
    obtain ⟨v9, S10, h11, h⟩ := bd_some h
    refine u_callV (n := 1) C w hw (hP _ _ (isn_f rfl rfl (by decide))) rfl rfl rfl (c_X7_lying l D K b0 sa _ L _ ad P hP S1 hw hn 1 v9 S10 h11) gw_1690 gw_1687 gw_1689 gs_67 gw_8 ⟨by decide, by decide, by decide +kernel⟩ rfl rfl ⟨by decide, by decide⟩ rfl hl.1 rfl (Nat.le_of_ble_eq_true rfl) dX7_count_89 ⟨Nat.le_of_ble_eq_true rfl, Nat.le_of_ble_eq_true rfl⟩ (fun v9 u H locs hp w => ?_)
    obtain ⟨f2, rfl, rfl, hw, hn, hk1⟩ := hp
    have hk := hk.tr hk1
    generalize f2 = f at w hw hk
    exact t_iret C hr hlk w ⟨_, so_v h, rfl, so_w h hw, so_n h hn, hk⟩ (by decide) (by decide) dX7_count_92
  have h := bb_f h c8
  by_cases c12 : p1.toInt = 3
  · have h := bb_t h c12
    refine lv_tableIn (tgt := 93) hx hb dX7_count_6 (by omega) (by omega) (by rw [c12]; rfl) (by decide) ?_
    refine lv_aload_n hx hb dX7_count_93 rfl (lv_at hl 0 rfl) ?_
    refine lv_iconst (v := 2) hx hb dX7_count_94 (by decide) ?_
    obtain ⟨v13, S14, h15, h⟩ := bd_some h
    refine u_callV (n := 1) C w hw (hP _ _ (isn_f rfl rfl (by decide))) rfl rfl rfl (c_X7_lying l D K b0 sa _ L _ ad P hP S1 hw hn 2 v13 S14 h15) gw_1690 gw_1687 gw_1689 gs_67 gw_8 ⟨by decide, by decide, by decide +kernel⟩ rfl rfl ⟨by decide, by decide⟩ rfl hl.1 rfl (Nat.le_of_ble_eq_true rfl) dX7_count_95 ⟨Nat.le_of_ble_eq_true rfl, Nat.le_of_ble_eq_true rfl⟩ (fun v9 u H locs hp w => ?_)
    obtain ⟨f2, rfl, rfl, hw, hn, hk1⟩ := hp
    have hk := hk.tr hk1
    generalize f2 = f at w hw hk
    exact t_iret C hr hlk w ⟨_, so_v h, rfl, so_w h hw, so_n h hn, hk⟩ (by decide) (by decide) dX7_count_98
  have h := bb_f h c12
  by_cases c16 : p1.toInt = 4
  · have h := bb_t h c16
    refine lv_tableIn (tgt := 99) hx hb dX7_count_6 (by omega) (by omega) (by rw [c16]; rfl) (by decide) ?_
    refine lv_aload_n hx hb dX7_count_99 rfl (lv_at hl 0 rfl) ?_
    refine u_geti C w hw (hP _ _ (isn_f rfl rfl (by decide))) rfl (N := 57) rfl rfl cin_7 35 (by decide) rfl gw_1191 dX7_count_100 ?_
    refine u_iv h (fun x17 h => ?_)
    exact t_iret C hr hlk w ⟨_, so_v h, rfl, so_w h hw, so_n h hn, hk⟩ (by decide) (by decide) dX7_count_103
  have h := bb_f h c16
  by_cases c18 : p1.toInt = 5
  · have h := bb_t h c18
    refine lv_tableIn (tgt := 104) hx hb dX7_count_6 (by omega) (by omega) (by rw [c18]; rfl) (by decide) ?_
    refine lv_aload_n hx hb dX7_count_104 rfl (lv_at hl 0 rfl) ?_
    refine u_geti C w hw (hP _ _ (isn_f rfl rfl (by decide))) rfl (N := 57) rfl rfl cin_7 36 (by decide) rfl gw_1192 dX7_count_105 ?_
    refine u_iv h (fun x19 h => ?_)
    refine lv_iconst (v := 1) hx hb dX7_count_108 (by decide) ?_
    refine lv_iadd hx hb dX7_count_109 ?_
    refine u_iv h (fun x20 h => ?_)
    exact t_iret C hr hlk w ⟨_, so_v h, rfl, so_w h hw, so_n h hn, hk⟩ (by decide) (by decide) dX7_count_110
  have h := bb_f h c18
  by_cases c21 : p1.toInt = 6
  · have h := bb_t h c21
    refine lv_tableIn (tgt := 111) hx hb dX7_count_6 (by omega) (by omega) (by rw [c21]; rfl) (by decide) ?_
    refine lv_aload_n hx hb dX7_count_111 rfl (lv_at hl 0 rfl) ?_
    refine u_geti C w hw (hP _ _ (isn_f rfl rfl (by decide))) rfl (N := 57) rfl rfl cin_7 37 (by decide) rfl gw_1193 dX7_count_112 ?_
    refine u_iv h (fun x22 h => ?_)
    exact t_iret C hr hlk w ⟨_, so_v h, rfl, so_w h hw, so_n h hn, hk⟩ (by decide) (by decide) dX7_count_115
  have h := bb_f h c21
  by_cases c23 : p1.toInt = 7
  · have h := bb_t h c23
    refine lv_tableIn (tgt := 116) hx hb dX7_count_6 (by omega) (by omega) (by rw [c23]; rfl) (by decide) ?_
    refine lv_aload_n hx hb dX7_count_116 rfl (lv_at hl 0 rfl) ?_
    refine u_geti C w hw (hP _ _ (isn_f rfl rfl (by decide))) rfl (N := 57) rfl rfl cin_7 38 (by decide) rfl gw_1194 dX7_count_117 ?_
    refine u_iv h (fun x24 h => ?_)
    exact t_iret C hr hlk w ⟨_, so_v h, rfl, so_w h hw, so_n h hn, hk⟩ (by decide) (by decide) dX7_count_120
  have h := bb_f h c23
  by_cases c25 : p1.toInt = 8
  · have h := bb_t h c25
    refine lv_tableIn (tgt := 121) hx hb dX7_count_6 (by omega) (by omega) (by rw [c25]; rfl) (by decide) ?_
    refine lv_aload_n hx hb dX7_count_121 rfl (lv_at hl 0 rfl) ?_
    refine u_geti C w hw (hP _ _ (isn_f rfl rfl (by decide))) rfl (N := 57) rfl rfl cin_7 13 (by decide) rfl gw_1169 dX7_count_122 ?_
    refine u_iv h (fun x26 h => ?_)
    exact t_iret C hr hlk w ⟨_, so_v h, rfl, so_w h hw, so_n h hn, hk⟩ (by decide) (by decide) dX7_count_125
  have h := bb_f h c25
  by_cases c27 : p1.toInt = 9
  · have h := bb_t h c27
    refine lv_tableIn (tgt := 126) hx hb dX7_count_6 (by omega) (by omega) (by rw [c27]; rfl) (by decide) ?_
    refine lv_aload_n hx hb dX7_count_126 rfl (lv_at hl 0 rfl) ?_
    refine u_geti C w hw (hP _ _ (isn_f rfl rfl (by decide))) rfl (N := 57) rfl rfl cin_7 14 (by decide) rfl gw_1170 dX7_count_127 ?_
    refine u_iv h (fun x28 h => ?_)
    exact t_iret C hr hlk w ⟨_, so_v h, rfl, so_w h hw, so_n h hn, hk⟩ (by decide) (by decide) dX7_count_130
  have h := bb_f h c27
  by_cases c29 : p1.toInt = 10
  · have h := bb_t h c29
    refine lv_tableIn (tgt := 131) hx hb dX7_count_6 (by omega) (by omega) (by rw [c29]; rfl) (by decide) ?_
    refine lv_aload_n hx hb dX7_count_131 rfl (lv_at hl 0 rfl) ?_
    refine u_geti C w hw (hP _ _ (isn_f rfl rfl (by decide))) rfl (N := 57) rfl rfl cin_7 48 (by decide) rfl gw_1204 dX7_count_132 ?_
    refine u_iv h (fun x30 h => ?_)
    exact t_iret C hr hlk w ⟨_, so_v h, rfl, so_w h hw, so_n h hn, hk⟩ (by decide) (by decide) dX7_count_135
  have h := bb_f h c29
  by_cases c31 : p1.toInt = 11
  · have h := bb_t h c31
    refine lv_tableIn (tgt := 136) hx hb dX7_count_6 (by omega) (by omega) (by rw [c31]; rfl) (by decide) ?_
    refine lv_aload_n hx hb dX7_count_136 rfl (lv_at hl 0 rfl) ?_
    refine u_geti C w hw (hP _ _ (isn_f rfl rfl (by decide))) rfl (N := 57) rfl rfl cin_7 56 (by decide) rfl gw_1212 dX7_count_137 ?_
    refine u_iv h (fun x32 h => ?_)
    exact t_iret C hr hlk w ⟨_, so_v h, rfl, so_w h hw, so_n h hn, hk⟩ (by decide) (by decide) dX7_count_140
  have h := bb_f h c31
  by_cases c33 : p1.toInt = 12
  · have h := bb_t h c33
    refine lv_tableIn (tgt := 141) hx hb dX7_count_6 (by omega) (by omega) (by rw [c33]; rfl) (by decide) ?_
    refine lv_aload_n hx hb dX7_count_141 rfl (lv_at hl 0 rfl) ?_
    refine u_geti C w hw (hP _ _ (isn_f rfl rfl (by decide))) rfl (N := 57) rfl rfl cin_7 1 (by decide) rfl gw_1157 dX7_count_142 ?_
    refine u_iv h (fun x34 h => ?_)
    exact t_iret C hr hlk w ⟨_, so_v h, rfl, so_w h hw, so_n h hn, hk⟩ (by decide) (by decide) dX7_count_145
  have h := bb_f h c33
  by_cases c35 : p1.toInt = 13
  · have h := bb_t h c35
    refine lv_tableIn (tgt := 146) hx hb dX7_count_6 (by omega) (by omega) (by rw [c35]; rfl) (by decide) ?_
    refine lv_aload_n hx hb dX7_count_146 rfl (lv_at hl 0 rfl) ?_
    refine u_geti C w hw (hP _ _ (isn_f rfl rfl (by decide))) rfl (N := 57) rfl rfl cin_7 34 (by decide) rfl gw_1190 dX7_count_147 ?_
    refine u_iv h (fun x36 h => ?_)
    exact t_iret C hr hlk w ⟨_, so_v h, rfl, so_w h hw, so_n h hn, hk⟩ (by decide) (by decide) dX7_count_150
  have h := bb_f h c35
  refine lv_tableOut (tgt := 151) hx hb dX7_count_6 (by omega) (by decide) ?_
  refine lv_iconst (v := (-1)) hx hb dX7_count_151 (by decide) ?_
  exact t_iret C hr hlk w ⟨_, so_v h, rfl, so_w h hw, so_n h hn, hk⟩ (by decide) (by decide) dX7_count_152
