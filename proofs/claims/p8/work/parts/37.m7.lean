theorem dX7_couldBe_0 : decode cX7_couldBe 0 = .ok (.aload_n 2, 1) := by decide +kernel
theorem dX7_couldBe_1 : decode cX7_couldBe 1 = .ok (.iconst 1, 1) := by decide +kernel
theorem dX7_couldBe_2 : decode cX7_couldBe 2 = .ok (.iaload, 1) := by decide +kernel
theorem dX7_couldBe_3 : decode cX7_couldBe 3 = .ok (.ifCond .eq 10, 3) := by decide +kernel
theorem dX7_couldBe_6 : decode cX7_couldBe 6 = .ok (.aload_n 2, 1) := by decide +kernel
theorem dX7_couldBe_7 : decode cX7_couldBe 7 = .ok (.iconst 1, 1) := by decide +kernel
theorem dX7_couldBe_8 : decode cX7_couldBe 8 = .ok (.iaload, 1) := by decide +kernel
theorem dX7_couldBe_9 : decode cX7_couldBe 9 = .ok (.iconst 4, 1) := by decide +kernel
theorem dX7_couldBe_10 : decode cX7_couldBe 10 = .ok (.if_icmp .ne 5, 3) := by decide +kernel
theorem dX7_couldBe_13 : decode cX7_couldBe 13 = .ok (.iconst 1, 1) := by decide +kernel
theorem dX7_couldBe_14 : decode cX7_couldBe 14 = .ok (.ireturn, 1) := by decide +kernel
theorem dX7_couldBe_15 : decode cX7_couldBe 15 = .ok (.iconst 0, 1) := by decide +kernel
theorem dX7_couldBe_16 : decode cX7_couldBe 16 = .ok (.istore_n 3, 1) := by decide +kernel
theorem dX7_couldBe_17 : decode cX7_couldBe 17 = .ok (.iload_n 3, 1) := by decide +kernel
theorem dX7_couldBe_18 : decode cX7_couldBe 18 = .ok (.iconst 5, 1) := by decide +kernel
theorem dX7_couldBe_19 : decode cX7_couldBe 19 = .ok (.if_icmp .ge 20, 3) := by decide +kernel
theorem dX7_couldBe_22 : decode cX7_couldBe 22 = .ok (.aload_n 0, 1) := by decide +kernel
theorem dX7_couldBe_23 : decode cX7_couldBe 23 = .ok (.getfield 30, 3) := by decide +kernel
theorem dX7_couldBe_26 : decode cX7_couldBe 26 = .ok (.iload_n 3, 1) := by decide +kernel
theorem dX7_couldBe_27 : decode cX7_couldBe 27 = .ok (.aload_n 2, 1) := by decide +kernel
theorem dX7_couldBe_28 : decode cX7_couldBe 28 = .ok (.iconst 4, 1) := by decide +kernel
theorem dX7_couldBe_29 : decode cX7_couldBe 29 = .ok (.iload_n 3, 1) := by decide +kernel
theorem dX7_couldBe_30 : decode cX7_couldBe 30 = .ok (.iadd, 1) := by decide +kernel
theorem dX7_couldBe_31 : decode cX7_couldBe 31 = .ok (.iaload, 1) := by decide +kernel
theorem dX7_couldBe_32 : decode cX7_couldBe 32 = .ok (.iastore, 1) := by decide +kernel
theorem dX7_couldBe_33 : decode cX7_couldBe 33 = .ok (.iinc 3 1, 3) := by decide +kernel
theorem dX7_couldBe_36 : decode cX7_couldBe 36 = .ok (.goto (-19), 3) := by decide +kernel
theorem dX7_couldBe_39 : decode cX7_couldBe 39 = .ok (.aload_n 0, 1) := by decide +kernel
theorem dX7_couldBe_40 : decode cX7_couldBe 40 = .ok (.iload_n 1, 1) := by decide +kernel
theorem dX7_couldBe_41 : decode cX7_couldBe 41 = .ok (.invokevirtual 250, 3) := by decide +kernel
theorem dX7_couldBe_44 : decode cX7_couldBe 44 = .ok (.istore_n 3, 1) := by decide +kernel
theorem dX7_couldBe_45 : decode cX7_couldBe 45 = .ok (.iconst 0, 1) := by decide +kernel
theorem dX7_couldBe_46 : decode cX7_couldBe 46 = .ok (.istore 4, 2) := by decide +kernel
theorem dX7_couldBe_48 : decode cX7_couldBe 48 = .ok (.iload 4, 2) := by decide +kernel
theorem dX7_couldBe_50 : decode cX7_couldBe 50 = .ok (.iload_n 3, 1) := by decide +kernel
theorem dX7_couldBe_51 : decode cX7_couldBe 51 = .ok (.if_icmp .ge 61, 3) := by decide +kernel
theorem dX7_couldBe_54 : decode cX7_couldBe 54 = .ok (.aload_n 0, 1) := by decide +kernel
theorem dX7_couldBe_55 : decode cX7_couldBe 55 = .ok (.iload_n 1, 1) := by decide +kernel
theorem dX7_couldBe_56 : decode cX7_couldBe 56 = .ok (.iload 4, 2) := by decide +kernel
theorem dX7_couldBe_58 : decode cX7_couldBe 58 = .ok (.invokevirtual 244, 3) := by decide +kernel
theorem dX7_couldBe_61 : decode cX7_couldBe 61 = .ok (.aload_n 0, 1) := by decide +kernel
theorem dX7_couldBe_62 : decode cX7_couldBe 62 = .ok (.aload_n 2, 1) := by decide +kernel
theorem dX7_couldBe_63 : decode cX7_couldBe 63 = .ok (.bipush 10, 2) := by decide +kernel
theorem dX7_couldBe_65 : decode cX7_couldBe 65 = .ok (.iaload, 1) := by decide +kernel
theorem dX7_couldBe_66 : decode cX7_couldBe 66 = .ok (.aload_n 2, 1) := by decide +kernel
theorem dX7_couldBe_67 : decode cX7_couldBe 67 = .ok (.bipush 11, 2) := by decide +kernel
theorem dX7_couldBe_69 : decode cX7_couldBe 69 = .ok (.iaload, 1) := by decide +kernel
theorem dX7_couldBe_70 : decode cX7_couldBe 70 = .ok (.aload_n 2, 1) := by decide +kernel
theorem dX7_couldBe_71 : decode cX7_couldBe 71 = .ok (.iconst 0, 1) := by decide +kernel
theorem dX7_couldBe_72 : decode cX7_couldBe 72 = .ok (.iaload, 1) := by decide +kernel
theorem dX7_couldBe_73 : decode cX7_couldBe 73 = .ok (.aload_n 2, 1) := by decide +kernel
theorem dX7_couldBe_74 : decode cX7_couldBe 74 = .ok (.bipush 12, 2) := by decide +kernel
theorem dX7_couldBe_76 : decode cX7_couldBe 76 = .ok (.iaload, 1) := by decide +kernel
theorem dX7_couldBe_77 : decode cX7_couldBe 77 = .ok (.aload_n 0, 1) := by decide +kernel
theorem dX7_couldBe_78 : decode cX7_couldBe 78 = .ok (.getfield 194, 3) := by decide +kernel
theorem dX7_couldBe_81 : decode cX7_couldBe 81 = .ok (.aload_n 0, 1) := by decide +kernel
theorem dX7_couldBe_82 : decode cX7_couldBe 82 = .ok (.getfield 197, 3) := by decide +kernel
theorem dX7_couldBe_85 : decode cX7_couldBe 85 = .ok (.invokevirtual 303, 3) := by decide +kernel
theorem dX7_couldBe_88 : decode cX7_couldBe 88 = .ok (.aload_n 2, 1) := by decide +kernel
theorem dX7_couldBe_89 : decode cX7_couldBe 89 = .ok (.iconst 1, 1) := by decide +kernel
theorem dX7_couldBe_90 : decode cX7_couldBe 90 = .ok (.iaload, 1) := by decide +kernel
theorem dX7_couldBe_91 : decode cX7_couldBe 91 = .ok (.if_icmp .ne 15, 3) := by decide +kernel
theorem dX7_couldBe_94 : decode cX7_couldBe 94 = .ok (.aload_n 0, 1) := by decide +kernel
theorem dX7_couldBe_95 : decode cX7_couldBe 95 = .ok (.getfield 281, 3) := by decide +kernel
theorem dX7_couldBe_98 : decode cX7_couldBe 98 = .ok (.aload_n 2, 1) := by decide +kernel
theorem dX7_couldBe_99 : decode cX7_couldBe 99 = .ok (.iconst 2, 1) := by decide +kernel
theorem dX7_couldBe_100 : decode cX7_couldBe 100 = .ok (.iaload, 1) := by decide +kernel
theorem dX7_couldBe_101 : decode cX7_couldBe 101 = .ok (.if_icmp .ne 5, 3) := by decide +kernel
theorem dX7_couldBe_104 : decode cX7_couldBe 104 = .ok (.iconst 1, 1) := by decide +kernel
theorem dX7_couldBe_105 : decode cX7_couldBe 105 = .ok (.ireturn, 1) := by decide +kernel
theorem dX7_couldBe_106 : decode cX7_couldBe 106 = .ok (.iinc 4 1, 3) := by decide +kernel
theorem dX7_couldBe_109 : decode cX7_couldBe 109 = .ok (.goto (-61), 3) := by decide +kernel
theorem dX7_couldBe_112 : decode cX7_couldBe 112 = .ok (.iconst 0, 1) := by decide +kernel
theorem dX7_couldBe_113 : decode cX7_couldBe 113 = .ok (.ireturn, 1) := by decide +kernel
noncomputable def B_X7_couldBe_106 (r2 : Nat) (k48 : (Int32 × Int32 × Int32) → fS → Option (Int32 × fS)) (a1 : Int32) (a3 : Int32) (a4 : Int32) (S : fS) : Option (Int32 × fS) := iv (a4 + Int32.ofInt 1) (fun x1 => k48 (a1, a3, x1) S)
noncomputable def B_X7_couldBe_48 (r2 : Nat) (k48 : (Int32 × Int32 × Int32) → fS → Option (Int32 × fS)) : (Int32 × Int32 × Int32) → fS → Option (Int32 × fS) := fun ⟨a1, a3, a4⟩ S => bb (a3 ≤ a4) (some (0, S)) (bd (F_X7_tellsBy a1 a4 S) (fun v3 S4 => iv (ge S4 57 r2 (10 : Int32).toNatClampNeg) (fun x6 => iv (ge S4 57 r2 (11 : Int32).toNatClampNeg) (fun x7 => iv (ge S4 57 r2 (0 : Int32).toNatClampNeg) (fun x8 => iv (ge S4 57 r2 (12 : Int32).toNatClampNeg) (fun x9 => iv (ge S4 40 0 18) (fun x10 => iv (ge S4 40 0 19) (fun x11 => bd (F_X7_judged x6 x7 x8 x9 x10 x11 S4) (fun v12 S13 => iv (ge S13 57 r2 (1 : Int32).toNatClampNeg) (fun x15 => bb (v12 = x15) (iv (ge S13 40 0 42) (fun x17 => iv (ge S13 57 r2 (2 : Int32).toNatClampNeg) (fun x18 => bb (x17 = x18) (some (1, S13)) (B_X7_couldBe_106 r2 k48 a1 a3 a4 S13)))) (B_X7_couldBe_106 r2 k48 a1 a3 a4 S13)))))))))))
noncomputable def B_X7_couldBe_17 (r2 : Nat) (k17 : (Int32 × Int32) → fS → Option (Int32 × fS)) : (Int32 × Int32) → fS → Option (Int32 × fS) := fun ⟨a1, a3⟩ S => bb ((5 : Int32) ≤ a3) (bd (F_X7_lotsBy a1 S) (fun v21 S22 => lp (B_X7_couldBe_48 r2 ) fuel (a1, v21, 0) S22)) (iv ((4 : Int32) + a3) (fun x24 => gd (ib x24 14) (iv (ge S 57 r2 (x24 : Int32).toNatClampNeg) (fun x26 => gd (ib a3 7) (sv (pu S 45 0 (a3 : Int32).toNatClampNeg x26) (fun S28 => iv (a3 + Int32.ofInt 1) (fun x29 => k17 (a1, x29) S28)))))))
noncomputable def F_X7_couldBe (p1 : Int32) (r2 : Nat) (S0 : fS) : Option (Int32 × fS) := iv (ge S0 57 r2 (1 : Int32).toNatClampNeg) (fun x30 => bb (x30 = (0 : Int32)) (some (1, S0)) (iv (ge S0 57 r2 (1 : Int32).toNatClampNeg) (fun x32 => bb (x32 = (4 : Int32)) (some (1, S0)) (lp (B_X7_couldBe_17 r2 ) fuel (p1, 0) S0))))
set_option maxHeartbeats 4000000 in
set_option maxRecDepth 100000 in
theorem c_X7_couldBe (l : Launch) (D : va_G) (K : Nat → ClassId) (b0 : Nat) (sa : sT) (sz : Nat) (L : List Nat) (f0 : Nat → va_E) (ad : Nat → Nat → Nat) (P : Nat → Nat → Prop) {n : Nat × Nat} (hP : ∀ a i : Nat, isn n a i → P a i) (S0 : fS) (hw : PW K ad P S0 L f0) (hn : S0.2.2.1 = n) (p1 : Int32) (r2 : Nat) (hr2 : r2 < 200) (v : Int32) (S1 : fS) (h : F_X7_couldBe p1 r2 S0 = some (v, S1)) : Met l yX7_couldBe (.code yX7_couldBe cX7_couldBe 5 (some .boolean) :: gt) { frames := 75, cells := 0, slots := 0, locals := 2779 } (va_Pc [.ref (ad 40 0), .int p1, .ref (ad 57 r2)] (hPre D K b0 sa sz L f0)) (hQ D K b0 (fun v9 u9 => ∃ f2 : Nat → va_E, v9 = some (.int v) ∧ u9 = lU L f2 ∧ PW K ad P S1 L f2 ∧ S1.2.2.1 = n ∧ Kp ad P L f0 f2)) 0 0 (fun q => b0 ≤ q) := by
  refine t_of (own := RX7) (by decide) rfl ?_ (Nat.le_of_ble_eq_true rfl)
  intro p e s m below meth c ls C w hsz hr hlk hnm hl
  have hx := C.1
  have hb := C.2.1
  have hl : lv_has ls 5 [(0, .ref (ad 40 0)), (1, .int p1), (2, .ref (ad 57 r2))] := hl
  have J106 : ∀ (k48 : (Int32 × Int32 × Int32) → fS → Option (Int32 × fS)) (hk48 : ∀ (a1 : Int32) (a3 : Int32) (a4 : Int32) (S : fS), k48 (a1, a3, a4) S = some (v, S1) → Gw D K b0 sa ad P n L f0 p l e { frames := 75, cells := 0, slots := 0, locals := 2779 } s m [.ref (ad 40 0), .int p1, .ref (ad 57 r2)].toArray below meth c 5 (MQ below (hQ D K b0 (fun v9 u9 => ∃ f2 : Nat → va_E, v9 = some (.int v) ∧ u9 = lU L f2 ∧ PW K ad P S1 L f2 ∧ S1.2.2.1 = n ∧ Kp ad P L f0 f2)) [.ref (ad 40 0), .int p1, .ref (ad 57 r2)].toArray s 0 0 (fun q => b0 ≤ q)) 0 0 48 [(0, .ref (ad 40 0)), (1, .int a1), (2, .ref (ad 57 r2)), (3, .int a3), (4, .int a4)] [] S) (a1 : Int32) (a3 : Int32) (a4 : Int32) (S : fS), B_X7_couldBe_106 r2 k48 a1 a3 a4 S = some (v, S1) → Gw D K b0 sa ad P n L f0 p l e { frames := 75, cells := 0, slots := 0, locals := 2779 } s m [.ref (ad 40 0), .int p1, .ref (ad 57 r2)].toArray below meth c 5 (MQ below (hQ D K b0 (fun v9 u9 => ∃ f2 : Nat → va_E, v9 = some (.int v) ∧ u9 = lU L f2 ∧ PW K ad P S1 L f2 ∧ S1.2.2.1 = n ∧ Kp ad P L f0 f2)) [.ref (ad 40 0), .int p1, .ref (ad 57 r2)].toArray s 0 0 (fun q => b0 ≤ q)) 0 0 106 [(0, .ref (ad 40 0)), (1, .int a1), (2, .ref (ad 57 r2)), (3, .int a3), (4, .int a4)] [] S := by
    intro k48 hk48 a1 a3 a4 S h
    dsimp only [B_X7_couldBe_106] at h
    intro f H locs w hw hn hk ls hl
    obtain ⟨x1, ex1, h⟩ := iv_some h
    refine lv_iinc (v := x1) (lv' := [(4, .int x1), (0, .ref (ad 40 0)), (1, .int a1), (2, .ref (ad 57 r2)), (3, .int a3)]) hx hb dX7_couldBe_106 hl (k := 4) rfl ex1.symm (by decide) rfl (fun ls hl => ?_)
    refine lv_goto (tgt := 48) hx hb dX7_couldBe_109 (by decide) ?_
    exact hk48 a1 a3 x1 S h f H locs w hw hn hk ls (lv_sub hl [1, 2, 3, 4, 0] rfl)
  have J48 : ∀ (fu : Nat) (a1 : Int32) (a3 : Int32) (a4 : Int32) (S : fS), lp (B_X7_couldBe_48 r2 ) fu (a1, a3, a4) S = some (v, S1) → Gw D K b0 sa ad P n L f0 p l e { frames := 75, cells := 0, slots := 0, locals := 2779 } s m [.ref (ad 40 0), .int p1, .ref (ad 57 r2)].toArray below meth c 5 (MQ below (hQ D K b0 (fun v9 u9 => ∃ f2 : Nat → va_E, v9 = some (.int v) ∧ u9 = lU L f2 ∧ PW K ad P S1 L f2 ∧ S1.2.2.1 = n ∧ Kp ad P L f0 f2)) [.ref (ad 40 0), .int p1, .ref (ad 57 r2)].toArray s 0 0 (fun q => b0 ≤ q)) 0 0 48 [(0, .ref (ad 40 0)), (1, .int a1), (2, .ref (ad 57 r2)), (3, .int a3), (4, .int a4)] [] S := by
    intro fu a1 a3 a4 S h
    refine lp_some (G := (fun q S => Gw D K b0 sa ad P n L f0 p l e { frames := 75, cells := 0, slots := 0, locals := 2779 } s m [.ref (ad 40 0), .int p1, .ref (ad 57 r2)].toArray below meth c 5 (MQ below (hQ D K b0 (fun v9 u9 => ∃ f2 : Nat → va_E, v9 = some (.int v) ∧ u9 = lU L f2 ∧ PW K ad P S1 L f2 ∧ S1.2.2.1 = n ∧ Kp ad P L f0 f2)) [.ref (ad 40 0), .int p1, .ref (ad 57 r2)].toArray s 0 0 (fun q => b0 ≤ q)) 0 0 48 [(0, .ref (ad 40 0)), (1, .int q.1), (2, .ref (ad 57 r2)), (3, .int q.2.1), (4, .int q.2.2)] [] S)) (fun k48 hk48 q S h => ?_) fu (a1, a3, a4) S h
    obtain ⟨a1, a3, a4⟩ := q
    have hk48 : ∀ (a1 : Int32) (a3 : Int32) (a4 : Int32) (S : fS), k48 (a1, a3, a4) S = some (v, S1) → Gw D K b0 sa ad P n L f0 p l e { frames := 75, cells := 0, slots := 0, locals := 2779 } s m [.ref (ad 40 0), .int p1, .ref (ad 57 r2)].toArray below meth c 5 (MQ below (hQ D K b0 (fun v9 u9 => ∃ f2 : Nat → va_E, v9 = some (.int v) ∧ u9 = lU L f2 ∧ PW K ad P S1 L f2 ∧ S1.2.2.1 = n ∧ Kp ad P L f0 f2)) [.ref (ad 40 0), .int p1, .ref (ad 57 r2)].toArray s 0 0 (fun q => b0 ≤ q)) 0 0 48 [(0, .ref (ad 40 0)), (1, .int a1), (2, .ref (ad 57 r2)), (3, .int a3), (4, .int a4)] [] S := fun a1 a3 a4 S h => hk48 (a1, a3, a4) S h
    dsimp only [B_X7_couldBe_48] at h
    intro f H locs w hw hn hk ls hl
    refine lv_iload hx hb dX7_couldBe_48 (lv_at hl 4 rfl) ?_
    refine lv_iload_n hx hb dX7_couldBe_50 rfl (lv_at hl 3 rfl) ?_
    refine lv_icmp_ge (tgt := 112) hx hb dX7_couldBe_51 (by decide) (fun c2 => ?_) (fun c2 => ?_)
    · have h := bb_t h c2
      refine lv_iconst (v := 0) hx hb dX7_couldBe_112 (by decide) ?_
      exact t_zret C hr hlk w (by decide) ⟨_, so_v h, rfl, so_w h hw, so_n h hn, hk⟩ (by decide) (by decide) dX7_couldBe_113
    · have h := bb_f h c2
      refine lv_aload_n hx hb dX7_couldBe_54 rfl (lv_at hl 0 rfl) ?_
      refine lv_iload_n hx hb dX7_couldBe_55 rfl (lv_at hl 1 rfl) ?_
      refine lv_iload hx hb dX7_couldBe_56 (lv_at hl 4 rfl) ?_
      obtain ⟨v3, S4, h5, h⟩ := bd_some h
      refine u_callV (n := 2) C w hw (hP _ _ (isn_f rfl rfl (by decide))) rfl rfl rfl (c_X7_tellsBy l D K b0 sa _ L _ ad P hP S hw hn a1 a4 v3 S4 h5) gw_1453 gw_1450 gw_1452 gs_44 gw_8 ⟨by decide, by decide, by decide +kernel⟩ rfl rfl ⟨by decide, by decide⟩ rfl hl.1 rfl (Nat.le_of_ble_eq_true rfl) dX7_couldBe_58 ⟨Nat.le_of_ble_eq_true rfl, Nat.le_of_ble_eq_true rfl⟩ (fun v9 u H locs hp w => ?_)
      obtain ⟨f2, rfl, rfl, hw, hn, hk1⟩ := hp
      have hk := hk.tr hk1
      generalize f2 = f at w hw hk
      refine lv_aload_n hx hb dX7_couldBe_61 rfl (lv_at hl 0 rfl) ?_
      refine lv_aload_n hx hb dX7_couldBe_62 rfl (lv_at hl 2 rfl) ?_
      refine lv_bipush (v := 10) hx hb dX7_couldBe_63 (by decide) ?_
      refine u_iald C w hw (hP _ _ (isn_f rfl rfl hr2)) rfl rfl (n := 14) rfl (vp_in_iff.mpr ⟨by decide, by decide⟩) dX7_couldBe_65 ?_
      refine u_iv h (fun x6 h => ?_)
      refine lv_aload_n hx hb dX7_couldBe_66 rfl (lv_at hl 2 rfl) ?_
      refine lv_bipush (v := 11) hx hb dX7_couldBe_67 (by decide) ?_
      refine u_iald C w hw (hP _ _ (isn_f rfl rfl hr2)) rfl rfl (n := 14) rfl (vp_in_iff.mpr ⟨by decide, by decide⟩) dX7_couldBe_69 ?_
      refine u_iv h (fun x7 h => ?_)
      refine lv_aload_n hx hb dX7_couldBe_70 rfl (lv_at hl 2 rfl) ?_
      refine lv_iconst (v := 0) hx hb dX7_couldBe_71 (by decide) ?_
      refine u_iald C w hw (hP _ _ (isn_f rfl rfl hr2)) rfl rfl (n := 14) rfl (vp_in_iff.mpr ⟨by decide, by decide⟩) dX7_couldBe_72 ?_
      refine u_iv h (fun x8 h => ?_)
      refine lv_aload_n hx hb dX7_couldBe_73 rfl (lv_at hl 2 rfl) ?_
      refine lv_bipush (v := 12) hx hb dX7_couldBe_74 (by decide) ?_
      refine u_iald C w hw (hP _ _ (isn_f rfl rfl hr2)) rfl rfl (n := 14) rfl (vp_in_iff.mpr ⟨by decide, by decide⟩) dX7_couldBe_76 ?_
      refine u_iv h (fun x9 h => ?_)
      refine lv_aload_n hx hb dX7_couldBe_77 rfl (lv_at hl 0 rfl) ?_
      refine u_geti C w hw (hP _ _ (isn_f rfl rfl (by decide))) rfl (N := 57) rfl rfl cin_7 18 (by decide) rfl gw_1174 dX7_couldBe_78 ?_
      refine u_iv h (fun x10 h => ?_)
      refine lv_aload_n hx hb dX7_couldBe_81 rfl (lv_at hl 0 rfl) ?_
      refine u_geti C w hw (hP _ _ (isn_f rfl rfl (by decide))) rfl (N := 57) rfl rfl cin_7 19 (by decide) rfl gw_1175 dX7_couldBe_82 ?_
      refine u_iv h (fun x11 h => ?_)
      obtain ⟨v12, S13, h14, h⟩ := bd_some h
      refine u_callV (n := 6) C w hw (hP _ _ (isn_f rfl rfl (by decide))) rfl rfl rfl (c_X7_judged l D K b0 sa _ L _ ad P hP S4 hw hn x6 x7 x8 x9 x10 x11 v12 S13 h14) gw_1542 gw_1539 gw_1541 gs_55 gw_8 ⟨by decide, by decide, by decide +kernel⟩ rfl rfl ⟨by decide, by decide⟩ rfl hl.1 rfl (Nat.le_of_ble_eq_true rfl) dX7_couldBe_85 ⟨Nat.le_of_ble_eq_true rfl, Nat.le_of_ble_eq_true rfl⟩ (fun v9 u H locs hp w => ?_)
      obtain ⟨f2, rfl, rfl, hw, hn, hk1⟩ := hp
      have hk := hk.tr hk1
      generalize f2 = f at w hw hk
      refine lv_aload_n hx hb dX7_couldBe_88 rfl (lv_at hl 2 rfl) ?_
      refine lv_iconst (v := 1) hx hb dX7_couldBe_89 (by decide) ?_
      refine u_iald C w hw (hP _ _ (isn_f rfl rfl hr2)) rfl rfl (n := 14) rfl (vp_in_iff.mpr ⟨by decide, by decide⟩) dX7_couldBe_90 ?_
      refine u_iv h (fun x15 h => ?_)
      refine lv_icmp_ne (tgt := 106) hx hb dX7_couldBe_91 (by decide) (fun c16 => ?_) (fun c16 => ?_)
      · have h := bb_f h c16
        exact J106 k48 hk48 a1 a3 a4 S13 h f H locs w hw hn hk ls (lv_sub hl [0, 1, 2, 3, 4] rfl)
      · have h := bb_t h c16
        refine lv_aload_n hx hb dX7_couldBe_94 rfl (lv_at hl 0 rfl) ?_
        refine u_geti C w hw (hP _ _ (isn_f rfl rfl (by decide))) rfl (N := 57) rfl rfl cin_7 42 (by decide) rfl gw_1198 dX7_couldBe_95 ?_
        refine u_iv h (fun x17 h => ?_)
        refine lv_aload_n hx hb dX7_couldBe_98 rfl (lv_at hl 2 rfl) ?_
        refine lv_iconst (v := 2) hx hb dX7_couldBe_99 (by decide) ?_
        refine u_iald C w hw (hP _ _ (isn_f rfl rfl hr2)) rfl rfl (n := 14) rfl (vp_in_iff.mpr ⟨by decide, by decide⟩) dX7_couldBe_100 ?_
        refine u_iv h (fun x18 h => ?_)
        refine lv_icmp_ne (tgt := 106) hx hb dX7_couldBe_101 (by decide) (fun c19 => ?_) (fun c19 => ?_)
        · have h := bb_f h c19
          exact J106 k48 hk48 a1 a3 a4 S13 h f H locs w hw hn hk ls (lv_sub hl [0, 1, 2, 3, 4] rfl)
        · have h := bb_t h c19
          refine lv_iconst (v := 1) hx hb dX7_couldBe_104 (by decide) ?_
          exact t_zret C hr hlk w (by decide) ⟨_, so_v h, rfl, so_w h hw, so_n h hn, hk⟩ (by decide) (by decide) dX7_couldBe_105
  have J17 : ∀ (fu : Nat) (a1 : Int32) (a3 : Int32) (S : fS), lp (B_X7_couldBe_17 r2 ) fu (a1, a3) S = some (v, S1) → Gw D K b0 sa ad P n L f0 p l e { frames := 75, cells := 0, slots := 0, locals := 2779 } s m [.ref (ad 40 0), .int p1, .ref (ad 57 r2)].toArray below meth c 5 (MQ below (hQ D K b0 (fun v9 u9 => ∃ f2 : Nat → va_E, v9 = some (.int v) ∧ u9 = lU L f2 ∧ PW K ad P S1 L f2 ∧ S1.2.2.1 = n ∧ Kp ad P L f0 f2)) [.ref (ad 40 0), .int p1, .ref (ad 57 r2)].toArray s 0 0 (fun q => b0 ≤ q)) 0 0 17 [(0, .ref (ad 40 0)), (1, .int a1), (2, .ref (ad 57 r2)), (3, .int a3)] [] S := by
    intro fu a1 a3 S h
    refine lp_some (G := (fun q S => Gw D K b0 sa ad P n L f0 p l e { frames := 75, cells := 0, slots := 0, locals := 2779 } s m [.ref (ad 40 0), .int p1, .ref (ad 57 r2)].toArray below meth c 5 (MQ below (hQ D K b0 (fun v9 u9 => ∃ f2 : Nat → va_E, v9 = some (.int v) ∧ u9 = lU L f2 ∧ PW K ad P S1 L f2 ∧ S1.2.2.1 = n ∧ Kp ad P L f0 f2)) [.ref (ad 40 0), .int p1, .ref (ad 57 r2)].toArray s 0 0 (fun q => b0 ≤ q)) 0 0 17 [(0, .ref (ad 40 0)), (1, .int q.1), (2, .ref (ad 57 r2)), (3, .int q.2)] [] S)) (fun k17 hk17 q S h => ?_) fu (a1, a3) S h
    obtain ⟨a1, a3⟩ := q
    have hk17 : ∀ (a1 : Int32) (a3 : Int32) (S : fS), k17 (a1, a3) S = some (v, S1) → Gw D K b0 sa ad P n L f0 p l e { frames := 75, cells := 0, slots := 0, locals := 2779 } s m [.ref (ad 40 0), .int p1, .ref (ad 57 r2)].toArray below meth c 5 (MQ below (hQ D K b0 (fun v9 u9 => ∃ f2 : Nat → va_E, v9 = some (.int v) ∧ u9 = lU L f2 ∧ PW K ad P S1 L f2 ∧ S1.2.2.1 = n ∧ Kp ad P L f0 f2)) [.ref (ad 40 0), .int p1, .ref (ad 57 r2)].toArray s 0 0 (fun q => b0 ≤ q)) 0 0 17 [(0, .ref (ad 40 0)), (1, .int a1), (2, .ref (ad 57 r2)), (3, .int a3)] [] S := fun a1 a3 S h => hk17 (a1, a3) S h
    dsimp only [B_X7_couldBe_17] at h
    intro f H locs w hw hn hk ls hl
    refine lv_iload_n hx hb dX7_couldBe_17 rfl (lv_at hl 3 rfl) ?_
    refine lv_iconst (v := 5) hx hb dX7_couldBe_18 (by decide) ?_
    refine lv_icmp_ge (tgt := 39) hx hb dX7_couldBe_19 (by decide) (fun c20 => ?_) (fun c20 => ?_)
    · have h := bb_t h c20
      refine lv_aload_n hx hb dX7_couldBe_39 rfl (lv_at hl 0 rfl) ?_
      refine lv_iload_n hx hb dX7_couldBe_40 rfl (lv_at hl 1 rfl) ?_
      obtain ⟨v21, S22, h23, h⟩ := bd_some h
      refine u_callV (n := 1) C w hw (hP _ _ (isn_f rfl rfl (by decide))) rfl rfl rfl (c_X7_lotsBy l D K b0 sa _ L _ ad P hP S hw hn a1 v21 S22 h23) gw_1449 gw_1446 gw_1448 gs_43 gw_8 ⟨by decide, by decide, by decide +kernel⟩ rfl rfl ⟨by decide, by decide⟩ rfl hl.1 rfl (Nat.le_of_ble_eq_true rfl) dX7_couldBe_41 ⟨Nat.le_of_ble_eq_true rfl, Nat.le_of_ble_eq_true rfl⟩ (fun v9 u H locs hp w => ?_)
      obtain ⟨f2, rfl, rfl, hw, hn, hk1⟩ := hp
      have hk := hk.tr hk1
      generalize f2 = f at w hw hk
      refine lv_istore_n (lv' := [(3, .int v21), (0, .ref (ad 40 0)), (1, .int a1), (2, .ref (ad 57 r2))]) hx hb dX7_couldBe_44 rfl hl (by decide) rfl (fun ls hl => ?_)
      refine lv_iconst (v := 0) hx hb dX7_couldBe_45 (by decide) ?_
      refine lv_istore (lv' := [(4, .int 0), (3, .int v21), (0, .ref (ad 40 0)), (1, .int a1), (2, .ref (ad 57 r2))]) hx hb dX7_couldBe_46 hl (by decide) rfl (fun ls hl => ?_)
      exact J48  fuel a1 v21 0 S22 h f H locs w hw hn hk ls (lv_sub hl [2, 3, 4, 1, 0] rfl)
    · have h := bb_f h c20
      refine lv_aload_n hx hb dX7_couldBe_22 rfl (lv_at hl 0 rfl) ?_
      refine u_getr C w hw (hP _ _ (isn_f rfl rfl (by decide))) rfl (N := 57) rfl rfl cin_7 17 (by decide) (by decide) (a2 := 45) (i2 := 0) rfl gw_1173 dX7_couldBe_23 ?_
      refine lv_iload_n hx hb dX7_couldBe_26 rfl (lv_at hl 3 rfl) ?_
      refine lv_aload_n hx hb dX7_couldBe_27 rfl (lv_at hl 2 rfl) ?_
      refine lv_iconst (v := 4) hx hb dX7_couldBe_28 (by decide) ?_
      refine lv_iload_n hx hb dX7_couldBe_29 rfl (lv_at hl 3 rfl) ?_
      refine lv_iadd hx hb dX7_couldBe_30 ?_
      refine u_iv h (fun x24 h => ?_)
      obtain ⟨g25, h⟩ := gd_some h
      refine u_iald C w hw (hP _ _ (isn_f rfl rfl hr2)) rfl rfl (n := 14) rfl (vp_in_iff.mpr g25) dX7_couldBe_31 ?_
      refine u_iv h (fun x26 h => ?_)
      obtain ⟨g27, h⟩ := gd_some h
      refine u_iast C w hw (hP _ _ (isn_f rfl rfl (by decide))) rfl rfl (n := 7) rfl (vp_in_iff.mpr g27) dX7_couldBe_32 (fun f H locs w hw hk1 => ?_)
      have hk := hk.tr hk1
      refine u_sv h hw hn (fun S28 h hw hn => ?_)
      obtain ⟨x29, ex29, h⟩ := iv_some h
      refine lv_iinc (v := x29) (lv' := [(3, .int x29), (0, .ref (ad 40 0)), (1, .int a1), (2, .ref (ad 57 r2))]) hx hb dX7_couldBe_33 hl (k := 3) rfl ex29.symm (by decide) rfl (fun ls hl => ?_)
      refine lv_goto (tgt := 17) hx hb dX7_couldBe_36 (by decide) ?_
      exact hk17 a1 x29 S28 h f H locs w hw hn hk ls (lv_sub hl [1, 2, 3, 0] rfl)
  dsimp only [F_X7_couldBe] at h
  obtain ⟨f, ef⟩ : ∃ z, z = f0 := ⟨_, rfl⟩
  rw [← ef] at w hw
  have hk : Kp ad P L f0 f := by rw [ef]; exact Kp.rf
  obtain ⟨H, eH⟩ : ∃ z, z = s.heap := ⟨_, rfl⟩
  obtain ⟨locs, el⟩ : ∃ z : List Loc, z = [] := ⟨_, rfl⟩
  rw [← eH, ← el] at w ⊢
  refine lv_aload_n hx hb dX7_couldBe_0 rfl (lv_at hl 2 rfl) ?_
  refine lv_iconst (v := 1) hx hb dX7_couldBe_1 (by decide) ?_
  refine u_iald C w hw (hP _ _ (isn_f rfl rfl hr2)) rfl rfl (n := 14) rfl (vp_in_iff.mpr ⟨by decide, by decide⟩) dX7_couldBe_2 ?_
  refine u_iv h (fun x30 h => ?_)
  refine lv_if_eq (tgt := 13) hx hb dX7_couldBe_3 (by decide) (fun c31 => ?_) (fun c31 => ?_)
  · have h := bb_t h c31
    refine lv_iconst (v := 1) hx hb dX7_couldBe_13 (by decide) ?_
    exact t_zret C hr hlk w (by decide) ⟨_, so_v h, rfl, so_w h hw, so_n h hn, hk⟩ (by decide) (by decide) dX7_couldBe_14
  · have h := bb_f h c31
    refine lv_aload_n hx hb dX7_couldBe_6 rfl (lv_at hl 2 rfl) ?_
    refine lv_iconst (v := 1) hx hb dX7_couldBe_7 (by decide) ?_
    refine u_iald C w hw (hP _ _ (isn_f rfl rfl hr2)) rfl rfl (n := 14) rfl (vp_in_iff.mpr ⟨by decide, by decide⟩) dX7_couldBe_8 ?_
    refine u_iv h (fun x32 h => ?_)
    refine lv_iconst (v := 4) hx hb dX7_couldBe_9 (by decide) ?_
    refine lv_icmp_ne (tgt := 15) hx hb dX7_couldBe_10 (by decide) (fun c33 => ?_) (fun c33 => ?_)
    · have h := bb_f h c33
      refine lv_iconst (v := 0) hx hb dX7_couldBe_15 (by decide) ?_
      refine lv_istore_n (lv' := [(3, .int 0), (0, .ref (ad 40 0)), (1, .int p1), (2, .ref (ad 57 r2))]) hx hb dX7_couldBe_16 rfl hl (by decide) rfl (fun ls hl => ?_)
      exact J17  fuel p1 0 S0 h f H locs w hw hn hk ls (lv_sub hl [1, 2, 3, 0] rfl)
    · have h := bb_t h c33
      refine lv_iconst (v := 1) hx hb dX7_couldBe_13 (by decide) ?_
      exact t_zret C hr hlk w (by decide) ⟨_, so_v h, rfl, so_w h hw, so_n h hn, hk⟩ (by decide) (by decide) dX7_couldBe_14
theorem dX7_strangeBy_0 : decode cX7_strangeBy 0 = .ok (.iconst 0, 1) := by decide +kernel
theorem dX7_strangeBy_1 : decode cX7_strangeBy 1 = .ok (.istore_n 2, 1) := by decide +kernel
theorem dX7_strangeBy_2 : decode cX7_strangeBy 2 = .ok (.iload_n 2, 1) := by decide +kernel
theorem dX7_strangeBy_3 : decode cX7_strangeBy 3 = .ok (.aload_n 0, 1) := by decide +kernel
theorem dX7_strangeBy_4 : decode cX7_strangeBy 4 = .ok (.getfield 313, 3) := by decide +kernel
theorem dX7_strangeBy_7 : decode cX7_strangeBy 7 = .ok (.if_icmp .ge 25, 3) := by decide +kernel
theorem dX7_strangeBy_10 : decode cX7_strangeBy 10 = .ok (.aload_n 0, 1) := by decide +kernel
theorem dX7_strangeBy_11 : decode cX7_strangeBy 11 = .ok (.iload_n 1, 1) := by decide +kernel
theorem dX7_strangeBy_12 : decode cX7_strangeBy 12 = .ok (.aload_n 0, 1) := by decide +kernel
theorem dX7_strangeBy_13 : decode cX7_strangeBy 13 = .ok (.getfield 73, 3) := by decide +kernel
theorem dX7_strangeBy_16 : decode cX7_strangeBy 16 = .ok (.iload_n 2, 1) := by decide +kernel
theorem dX7_strangeBy_17 : decode cX7_strangeBy 17 = .ok (.aaload, 1) := by decide +kernel
theorem dX7_strangeBy_18 : decode cX7_strangeBy 18 = .ok (.invokevirtual 345, 3) := by decide +kernel
theorem dX7_strangeBy_21 : decode cX7_strangeBy 21 = .ok (.ifCond .ne 5, 3) := by decide +kernel
theorem dX7_strangeBy_24 : decode cX7_strangeBy 24 = .ok (.iload_n 2, 1) := by decide +kernel
theorem dX7_strangeBy_25 : decode cX7_strangeBy 25 = .ok (.ireturn, 1) := by decide +kernel
theorem dX7_strangeBy_26 : decode cX7_strangeBy 26 = .ok (.iinc 2 1, 3) := by decide +kernel
theorem dX7_strangeBy_29 : decode cX7_strangeBy 29 = .ok (.goto (-27), 3) := by decide +kernel
theorem dX7_strangeBy_32 : decode cX7_strangeBy 32 = .ok (.iconst (-1), 1) := by decide +kernel
theorem dX7_strangeBy_33 : decode cX7_strangeBy 33 = .ok (.ireturn, 1) := by decide +kernel
noncomputable def B_X7_strangeBy_2 (k2 : (Int32 × Int32) → fS → Option (Int32 × fS)) : (Int32 × Int32) → fS → Option (Int32 × fS) := fun ⟨a1, a2⟩ S => iv (ge S 40 0 46) (fun x1 => bb (x1 ≤ a2) (some ((-1), S)) (gd (ib a2 200) (bd (F_X7_couldBe a1 (a2.toNatClampNeg) S) (fun v4 S5 => bb (v4 = (0 : Int32)) (some (a2, S5)) (iv (a2 + Int32.ofInt 1) (fun x8 => k2 (a1, x8) S5))))))
noncomputable def F_X7_strangeBy (p1 : Int32) (S0 : fS) : Option (Int32 × fS) := lp (B_X7_strangeBy_2 ) fuel (p1, 0) S0
set_option maxHeartbeats 4000000 in
set_option maxRecDepth 100000 in
theorem c_X7_strangeBy (l : Launch) (D : va_G) (K : Nat → ClassId) (b0 : Nat) (sa : sT) (sz : Nat) (L : List Nat) (f0 : Nat → va_E) (ad : Nat → Nat → Nat) (P : Nat → Nat → Prop) {n : Nat × Nat} (hP : ∀ a i : Nat, isn n a i → P a i) (S0 : fS) (hw : PW K ad P S0 L f0) (hn : S0.2.2.1 = n) (p1 : Int32) (v : Int32) (S1 : fS) (h : F_X7_strangeBy p1 S0 = some (v, S1)) : Met l yX7_strangeBy (.code yX7_strangeBy cX7_strangeBy 3 (some .int) :: gt) { frames := 76, cells := 0, slots := 0, locals := 2803 } (va_Pc [.ref (ad 40 0), .int p1] (hPre D K b0 sa sz L f0)) (hQ D K b0 (fun v9 u9 => ∃ f2 : Nat → va_E, v9 = some (.int v) ∧ u9 = lU L f2 ∧ PW K ad P S1 L f2 ∧ S1.2.2.1 = n ∧ Kp ad P L f0 f2)) 0 0 (fun q => b0 ≤ q) := by
  refine t_of (own := RX7) (by decide) rfl ?_ (Nat.le_of_ble_eq_true rfl)
  intro p e s m below meth c ls C w hsz hr hlk hnm hl
  have hx := C.1
  have hb := C.2.1
  have hl : lv_has ls 3 [(0, .ref (ad 40 0)), (1, .int p1)] := hl
  have J2 : ∀ (fu : Nat) (a1 : Int32) (a2 : Int32) (S : fS), lp (B_X7_strangeBy_2 ) fu (a1, a2) S = some (v, S1) → Gw D K b0 sa ad P n L f0 p l e { frames := 76, cells := 0, slots := 0, locals := 2803 } s m [.ref (ad 40 0), .int p1].toArray below meth c 3 (MQ below (hQ D K b0 (fun v9 u9 => ∃ f2 : Nat → va_E, v9 = some (.int v) ∧ u9 = lU L f2 ∧ PW K ad P S1 L f2 ∧ S1.2.2.1 = n ∧ Kp ad P L f0 f2)) [.ref (ad 40 0), .int p1].toArray s 0 0 (fun q => b0 ≤ q)) 0 0 2 [(0, .ref (ad 40 0)), (1, .int a1), (2, .int a2)] [] S := by
    intro fu a1 a2 S h
    refine lp_some (G := (fun q S => Gw D K b0 sa ad P n L f0 p l e { frames := 76, cells := 0, slots := 0, locals := 2803 } s m [.ref (ad 40 0), .int p1].toArray below meth c 3 (MQ below (hQ D K b0 (fun v9 u9 => ∃ f2 : Nat → va_E, v9 = some (.int v) ∧ u9 = lU L f2 ∧ PW K ad P S1 L f2 ∧ S1.2.2.1 = n ∧ Kp ad P L f0 f2)) [.ref (ad 40 0), .int p1].toArray s 0 0 (fun q => b0 ≤ q)) 0 0 2 [(0, .ref (ad 40 0)), (1, .int q.1), (2, .int q.2)] [] S)) (fun k2 hk2 q S h => ?_) fu (a1, a2) S h
    obtain ⟨a1, a2⟩ := q
    have hk2 : ∀ (a1 : Int32) (a2 : Int32) (S : fS), k2 (a1, a2) S = some (v, S1) → Gw D K b0 sa ad P n L f0 p l e { frames := 76, cells := 0, slots := 0, locals := 2803 } s m [.ref (ad 40 0), .int p1].toArray below meth c 3 (MQ below (hQ D K b0 (fun v9 u9 => ∃ f2 : Nat → va_E, v9 = some (.int v) ∧ u9 = lU L f2 ∧ PW K ad P S1 L f2 ∧ S1.2.2.1 = n ∧ Kp ad P L f0 f2)) [.ref (ad 40 0), .int p1].toArray s 0 0 (fun q => b0 ≤ q)) 0 0 2 [(0, .ref (ad 40 0)), (1, .int a1), (2, .int a2)] [] S := fun a1 a2 S h => hk2 (a1, a2) S h
    dsimp only [B_X7_strangeBy_2] at h
    intro f H locs w hw hn hk ls hl
    refine lv_iload_n hx hb dX7_strangeBy_2 rfl (lv_at hl 2 rfl) ?_
    refine lv_aload_n hx hb dX7_strangeBy_3 rfl (lv_at hl 0 rfl) ?_
    refine u_geti C w hw (hP _ _ (isn_f rfl rfl (by decide))) rfl (N := 57) rfl rfl cin_7 46 (by decide) rfl gw_1202 dX7_strangeBy_4 ?_
    refine u_iv h (fun x1 h => ?_)
    refine lv_icmp_ge (tgt := 32) hx hb dX7_strangeBy_7 (by decide) (fun c2 => ?_) (fun c2 => ?_)
    · have h := bb_t h c2
      refine lv_iconst (v := (-1)) hx hb dX7_strangeBy_32 (by decide) ?_
      exact t_iret C hr hlk w ⟨_, so_v h, rfl, so_w h hw, so_n h hn, hk⟩ (by decide) (by decide) dX7_strangeBy_33
    · have h := bb_f h c2
      refine lv_aload_n hx hb dX7_strangeBy_10 rfl (lv_at hl 0 rfl) ?_
      refine lv_iload_n hx hb dX7_strangeBy_11 rfl (lv_at hl 1 rfl) ?_
      refine lv_aload_n hx hb dX7_strangeBy_12 rfl (lv_at hl 0 rfl) ?_
      refine u_getr C w hw (hP _ _ (isn_f rfl rfl (by decide))) rfl (N := 57) rfl rfl cin_7 47 (by decide) (by decide) (a2 := 56) (i2 := 0) rfl gw_1203 dX7_strangeBy_13 ?_
      refine lv_iload_n hx hb dX7_strangeBy_16 rfl (lv_at hl 2 rfl) ?_
      obtain ⟨g3, h⟩ := gd_some h
      refine u_aald C w hw (hP _ _ (isn_f rfl rfl (by decide))) rfl rfl rfl (n := 200) rfl (vp_in_iff.mpr g3) (a2 := 57) (i2 := (a2.toNatClampNeg)) (by exact congrArg (Prod.mk _) (Nat.zero_add _)) dX7_strangeBy_17 ?_
      obtain ⟨v4, S5, h6, h⟩ := bd_some h
      refine u_callV (n := 2) C w hw (hP _ _ (isn_f rfl rfl (by decide))) rfl rfl rfl (c_X7_couldBe l D K b0 sa _ L _ ad P hP S hw hn a1 (a2.toNatClampNeg) (ib_lt g3) v4 S5 h6) gw_1613 gw_1610 gw_1612 gs_62 gw_8 ⟨by decide, by decide, by decide +kernel⟩ rfl rfl ⟨by decide, by decide⟩ rfl hl.1 rfl (Nat.le_of_ble_eq_true rfl) dX7_strangeBy_18 ⟨Nat.le_of_ble_eq_true rfl, Nat.le_of_ble_eq_true rfl⟩ (fun v9 u H locs hp w => ?_)
      obtain ⟨f2, rfl, rfl, hw, hn, hk1⟩ := hp
      have hk := hk.tr hk1
      generalize f2 = f at w hw hk
      refine lv_if_ne (tgt := 26) hx hb dX7_strangeBy_21 (by decide) (fun c7 => ?_) (fun c7 => ?_)
      · have h := bb_f h c7
        obtain ⟨x8, ex8, h⟩ := iv_some h
        refine lv_iinc (v := x8) (lv' := [(2, .int x8), (0, .ref (ad 40 0)), (1, .int a1)]) hx hb dX7_strangeBy_26 hl (k := 2) rfl ex8.symm (by decide) rfl (fun ls hl => ?_)
        refine lv_goto (tgt := 2) hx hb dX7_strangeBy_29 (by decide) ?_
        exact hk2 a1 x8 S5 h f H locs w hw hn hk ls (lv_sub hl [1, 2, 0] rfl)
      · have h := bb_t h c7
        refine lv_iload_n hx hb dX7_strangeBy_24 rfl (lv_at hl 2 rfl) ?_
        exact t_iret C hr hlk w ⟨_, so_v h, rfl, so_w h hw, so_n h hn, hk⟩ (by decide) (by decide) dX7_strangeBy_25
  dsimp only [F_X7_strangeBy] at h
  obtain ⟨f, ef⟩ : ∃ z, z = f0 := ⟨_, rfl⟩
  rw [← ef] at w hw
  have hk : Kp ad P L f0 f := by rw [ef]; exact Kp.rf
  obtain ⟨H, eH⟩ : ∃ z, z = s.heap := ⟨_, rfl⟩
  obtain ⟨locs, el⟩ : ∃ z : List Loc, z = [] := ⟨_, rfl⟩
  rw [← eH, ← el] at w ⊢
  refine lv_iconst (v := 0) hx hb dX7_strangeBy_0 (by decide) ?_
  refine lv_istore_n (lv' := [(2, .int 0), (0, .ref (ad 40 0)), (1, .int p1)]) hx hb dX7_strangeBy_1 rfl hl (by decide) rfl (fun ls hl => ?_)
  exact J2  fuel p1 0 S0 h f H locs w hw hn hk ls (lv_sub hl [1, 2, 0] rfl)
theorem dX7_fitting_0 : decode cX7_fitting 0 = .ok (.aload_n 0, 1) := by decide +kernel
theorem dX7_fitting_1 : decode cX7_fitting 1 = .ok (.iconst 0, 1) := by decide +kernel
theorem dX7_fitting_2 : decode cX7_fitting 2 = .ok (.putfield 97, 3) := by decide +kernel
theorem dX7_fitting_5 : decode cX7_fitting 5 = .ok (.iconst 0, 1) := by decide +kernel
theorem dX7_fitting_6 : decode cX7_fitting 6 = .ok (.istore_n 1, 1) := by decide +kernel
theorem dX7_fitting_7 : decode cX7_fitting 7 = .ok (.iconst 0, 1) := by decide +kernel
theorem dX7_fitting_8 : decode cX7_fitting 8 = .ok (.istore_n 2, 1) := by decide +kernel
theorem dX7_fitting_9 : decode cX7_fitting 9 = .ok (.iload_n 2, 1) := by decide +kernel
theorem dX7_fitting_10 : decode cX7_fitting 10 = .ok (.aload_n 0, 1) := by decide +kernel
theorem dX7_fitting_11 : decode cX7_fitting 11 = .ok (.getfield 213, 3) := by decide +kernel
theorem dX7_fitting_14 : decode cX7_fitting 14 = .ok (.if_icmp .ge 28, 3) := by decide +kernel
theorem dX7_fitting_17 : decode cX7_fitting 17 = .ok (.iload_n 1, 1) := by decide +kernel
theorem dX7_fitting_18 : decode cX7_fitting 18 = .ok (.aload_n 0, 1) := by decide +kernel
theorem dX7_fitting_19 : decode cX7_fitting 19 = .ok (.iload_n 2, 1) := by decide +kernel
theorem dX7_fitting_20 : decode cX7_fitting 20 = .ok (.invokevirtual 349, 3) := by decide +kernel
theorem dX7_fitting_23 : decode cX7_fitting 23 = .ok (.iconst (-1), 1) := by decide +kernel
theorem dX7_fitting_24 : decode cX7_fitting 24 = .ok (.if_icmp .ne 9, 3) := by decide +kernel
theorem dX7_fitting_27 : decode cX7_fitting 27 = .ok (.iconst 1, 1) := by decide +kernel
theorem dX7_fitting_28 : decode cX7_fitting 28 = .ok (.iload_n 2, 1) := by decide +kernel
theorem dX7_fitting_29 : decode cX7_fitting 29 = .ok (.ishl, 1) := by decide +kernel
theorem dX7_fitting_30 : decode cX7_fitting 30 = .ok (.goto 4, 3) := by decide +kernel
theorem dX7_fitting_33 : decode cX7_fitting 33 = .ok (.iconst 0, 1) := by decide +kernel
theorem dX7_fitting_34 : decode cX7_fitting 34 = .ok (.ior, 1) := by decide +kernel
theorem dX7_fitting_35 : decode cX7_fitting 35 = .ok (.istore_n 1, 1) := by decide +kernel
theorem dX7_fitting_36 : decode cX7_fitting 36 = .ok (.iinc 2 1, 3) := by decide +kernel
theorem dX7_fitting_39 : decode cX7_fitting 39 = .ok (.goto (-30), 3) := by decide +kernel
theorem dX7_fitting_42 : decode cX7_fitting 42 = .ok (.iload_n 1, 1) := by decide +kernel
theorem dX7_fitting_43 : decode cX7_fitting 43 = .ok (.ireturn, 1) := by decide +kernel
noncomputable def B_X7_fitting_34 (k9 : (Int32 × Int32) → fS → Option (Int32 × fS)) (a2 : Int32) (t0 : Int32) (t1 : Int32) (S : fS) : Option (Int32 × fS) := iv (t1 ||| t0) (fun x1 => iv (a2 + Int32.ofInt 1) (fun x2 => k9 (x1, x2) S))
noncomputable def B_X7_fitting_9 (k9 : (Int32 × Int32) → fS → Option (Int32 × fS)) : (Int32 × Int32) → fS → Option (Int32 × fS) := fun ⟨a1, a2⟩ S => iv (ge S 40 0 13) (fun x3 => bb (x3 ≤ a2) (some (a1, S)) (bd (F_X7_strangeBy a2 S) (fun v5 S6 => bb (v5 = ((-1) : Int32)) (iv ((1 : Int32) <<< (a2 &&& 31)) (fun x9 => B_X7_fitting_34 k9 a2 x9 a1 S6)) (B_X7_fitting_34 k9 a2 0 a1 S6))))
noncomputable def F_X7_fitting  (S0 : fS) : Option (Int32 × fS) := sv (pu S0 40 0 0 0) (fun S10 => lp (B_X7_fitting_9 ) fuel (0, 0) S10)
set_option maxHeartbeats 4000000 in
set_option maxRecDepth 100000 in
theorem c_X7_fitting (l : Launch) (D : va_G) (K : Nat → ClassId) (b0 : Nat) (sa : sT) (sz : Nat) (L : List Nat) (f0 : Nat → va_E) (ad : Nat → Nat → Nat) (P : Nat → Nat → Prop) {n : Nat × Nat} (hP : ∀ a i : Nat, isn n a i → P a i) (S0 : fS) (hw : PW K ad P S0 L f0) (hn : S0.2.2.1 = n)  (v : Int32) (S1 : fS) (h : F_X7_fitting  S0 = some (v, S1)) : Met l yX7_fitting (.code yX7_fitting cX7_fitting 3 (some .int) :: gt) { frames := 77, cells := 0, slots := 0, locals := 2825 } (va_Pc [.ref (ad 40 0)] (hPre D K b0 sa sz L f0)) (hQ D K b0 (fun v9 u9 => ∃ f2 : Nat → va_E, v9 = some (.int v) ∧ u9 = lU L f2 ∧ PW K ad P S1 L f2 ∧ S1.2.2.1 = n ∧ Kp ad P L f0 f2)) 0 0 (fun q => b0 ≤ q) := by
  refine t_of (own := RX7) (by decide) rfl ?_ (Nat.le_of_ble_eq_true rfl)
  intro p e s m below meth c ls C w hsz hr hlk hnm hl
  have hx := C.1
  have hb := C.2.1
  have hl : lv_has ls 3 [(0, .ref (ad 40 0))] := hl
  have J34 : ∀ (k9 : (Int32 × Int32) → fS → Option (Int32 × fS)) (hk9 : ∀ (a1 : Int32) (a2 : Int32) (S : fS), k9 (a1, a2) S = some (v, S1) → Gw D K b0 sa ad P n L f0 p l e { frames := 77, cells := 0, slots := 0, locals := 2825 } s m [.ref (ad 40 0)].toArray below meth c 3 (MQ below (hQ D K b0 (fun v9 u9 => ∃ f2 : Nat → va_E, v9 = some (.int v) ∧ u9 = lU L f2 ∧ PW K ad P S1 L f2 ∧ S1.2.2.1 = n ∧ Kp ad P L f0 f2)) [.ref (ad 40 0)].toArray s 0 0 (fun q => b0 ≤ q)) 0 0 9 [(0, .ref (ad 40 0)), (1, .int a1), (2, .int a2)] [] S) (a2 : Int32) (t0 : Int32) (t1 : Int32) (S : fS), B_X7_fitting_34 k9 a2 t0 t1 S = some (v, S1) → Gw D K b0 sa ad P n L f0 p l e { frames := 77, cells := 0, slots := 0, locals := 2825 } s m [.ref (ad 40 0)].toArray below meth c 3 (MQ below (hQ D K b0 (fun v9 u9 => ∃ f2 : Nat → va_E, v9 = some (.int v) ∧ u9 = lU L f2 ∧ PW K ad P S1 L f2 ∧ S1.2.2.1 = n ∧ Kp ad P L f0 f2)) [.ref (ad 40 0)].toArray s 0 0 (fun q => b0 ≤ q)) 0 0 34 [(0, .ref (ad 40 0)), (2, .int a2)] [.int t0, .int t1] S := by
    intro k9 hk9 a2 t0 t1 S h
    dsimp only [B_X7_fitting_34] at h
    intro f H locs w hw hn hk ls hl
    refine lv_ior hx hb dX7_fitting_34 ?_
    refine u_iv h (fun x1 h => ?_)
    refine lv_istore_n (lv' := [(1, .int x1), (0, .ref (ad 40 0)), (2, .int a2)]) hx hb dX7_fitting_35 rfl hl (by decide) rfl (fun ls hl => ?_)
    obtain ⟨x2, ex2, h⟩ := iv_some h
    refine lv_iinc (v := x2) (lv' := [(2, .int x2), (1, .int x1), (0, .ref (ad 40 0))]) hx hb dX7_fitting_36 hl (k := 2) rfl ex2.symm (by decide) rfl (fun ls hl => ?_)
    refine lv_goto (tgt := 9) hx hb dX7_fitting_39 (by decide) ?_
    exact hk9 x1 x2 S h f H locs w hw hn hk ls (lv_sub hl [2, 1, 0] rfl)
  have J9 : ∀ (fu : Nat) (a1 : Int32) (a2 : Int32) (S : fS), lp (B_X7_fitting_9 ) fu (a1, a2) S = some (v, S1) → Gw D K b0 sa ad P n L f0 p l e { frames := 77, cells := 0, slots := 0, locals := 2825 } s m [.ref (ad 40 0)].toArray below meth c 3 (MQ below (hQ D K b0 (fun v9 u9 => ∃ f2 : Nat → va_E, v9 = some (.int v) ∧ u9 = lU L f2 ∧ PW K ad P S1 L f2 ∧ S1.2.2.1 = n ∧ Kp ad P L f0 f2)) [.ref (ad 40 0)].toArray s 0 0 (fun q => b0 ≤ q)) 0 0 9 [(0, .ref (ad 40 0)), (1, .int a1), (2, .int a2)] [] S := by
    intro fu a1 a2 S h
    refine lp_some (G := (fun q S => Gw D K b0 sa ad P n L f0 p l e { frames := 77, cells := 0, slots := 0, locals := 2825 } s m [.ref (ad 40 0)].toArray below meth c 3 (MQ below (hQ D K b0 (fun v9 u9 => ∃ f2 : Nat → va_E, v9 = some (.int v) ∧ u9 = lU L f2 ∧ PW K ad P S1 L f2 ∧ S1.2.2.1 = n ∧ Kp ad P L f0 f2)) [.ref (ad 40 0)].toArray s 0 0 (fun q => b0 ≤ q)) 0 0 9 [(0, .ref (ad 40 0)), (1, .int q.1), (2, .int q.2)] [] S)) (fun k9 hk9 q S h => ?_) fu (a1, a2) S h
    obtain ⟨a1, a2⟩ := q
    have hk9 : ∀ (a1 : Int32) (a2 : Int32) (S : fS), k9 (a1, a2) S = some (v, S1) → Gw D K b0 sa ad P n L f0 p l e { frames := 77, cells := 0, slots := 0, locals := 2825 } s m [.ref (ad 40 0)].toArray below meth c 3 (MQ below (hQ D K b0 (fun v9 u9 => ∃ f2 : Nat → va_E, v9 = some (.int v) ∧ u9 = lU L f2 ∧ PW K ad P S1 L f2 ∧ S1.2.2.1 = n ∧ Kp ad P L f0 f2)) [.ref (ad 40 0)].toArray s 0 0 (fun q => b0 ≤ q)) 0 0 9 [(0, .ref (ad 40 0)), (1, .int a1), (2, .int a2)] [] S := fun a1 a2 S h => hk9 (a1, a2) S h
    dsimp only [B_X7_fitting_9] at h
    intro f H locs w hw hn hk ls hl
    refine lv_iload_n hx hb dX7_fitting_9 rfl (lv_at hl 2 rfl) ?_
    refine lv_aload_n hx hb dX7_fitting_10 rfl (lv_at hl 0 rfl) ?_
    refine u_geti C w hw (hP _ _ (isn_f rfl rfl (by decide))) rfl (N := 57) rfl rfl cin_7 13 (by decide) rfl gw_1169 dX7_fitting_11 ?_
    refine u_iv h (fun x3 h => ?_)
    refine lv_icmp_ge (tgt := 42) hx hb dX7_fitting_14 (by decide) (fun c4 => ?_) (fun c4 => ?_)
    · have h := bb_t h c4
      refine lv_iload_n hx hb dX7_fitting_42 rfl (lv_at hl 1 rfl) ?_
      exact t_iret C hr hlk w ⟨_, so_v h, rfl, so_w h hw, so_n h hn, hk⟩ (by decide) (by decide) dX7_fitting_43
    · have h := bb_f h c4
      refine lv_iload_n hx hb dX7_fitting_17 rfl (lv_at hl 1 rfl) ?_
      refine lv_aload_n hx hb dX7_fitting_18 rfl (lv_at hl 0 rfl) ?_
      refine lv_iload_n hx hb dX7_fitting_19 rfl (lv_at hl 2 rfl) ?_
      obtain ⟨v5, S6, h7, h⟩ := bd_some h
      refine u_callV (n := 1) C w hw (hP _ _ (isn_f rfl rfl (by decide))) rfl rfl rfl (c_X7_strangeBy l D K b0 sa _ L _ ad P hP S hw hn a2 v5 S6 h7) gw_1609 gw_1606 gw_1608 gs_61 gw_8 ⟨by decide, by decide, by decide +kernel⟩ rfl rfl ⟨by decide, by decide⟩ rfl hl.1 rfl (Nat.le_of_ble_eq_true rfl) dX7_fitting_20 ⟨Nat.le_of_ble_eq_true rfl, Nat.le_of_ble_eq_true rfl⟩ (fun v9 u H locs hp w => ?_)
      obtain ⟨f2, rfl, rfl, hw, hn, hk1⟩ := hp
      have hk := hk.tr hk1
      generalize f2 = f at w hw hk
      refine lv_iconst (v := (-1)) hx hb dX7_fitting_23 (by decide) ?_
      refine lv_icmp_ne (tgt := 33) hx hb dX7_fitting_24 (by decide) (fun c8 => ?_) (fun c8 => ?_)
      · have h := bb_f h c8
        refine lv_iconst (v := 0) hx hb dX7_fitting_33 (by decide) ?_
        exact J34 k9 hk9 a2 0 a1 S6 h f H locs w hw hn hk ls (lv_sub hl [0, 2] rfl)
      · have h := bb_t h c8
        refine lv_iconst (v := 1) hx hb dX7_fitting_27 (by decide) ?_
        refine lv_iload_n hx hb dX7_fitting_28 rfl (lv_at hl 2 rfl) ?_
        refine lv_ishl hx hb dX7_fitting_29 ?_
        refine u_iv h (fun x9 h => ?_)
        refine lv_goto (tgt := 34) hx hb dX7_fitting_30 (by decide) ?_
        exact J34 k9 hk9 a2 x9 a1 S6 h f H locs w hw hn hk ls (lv_sub hl [0, 2] rfl)
  dsimp only [F_X7_fitting] at h
  obtain ⟨f, ef⟩ : ∃ z, z = f0 := ⟨_, rfl⟩
  rw [← ef] at w hw
  have hk : Kp ad P L f0 f := by rw [ef]; exact Kp.rf
  obtain ⟨H, eH⟩ : ∃ z, z = s.heap := ⟨_, rfl⟩
  obtain ⟨locs, el⟩ : ∃ z : List Loc, z = [] := ⟨_, rfl⟩
  rw [← eH, ← el] at w ⊢
  refine lv_aload_n hx hb dX7_fitting_0 rfl (lv_at hl 0 rfl) ?_
  refine lv_iconst (v := 0) hx hb dX7_fitting_1 (by decide) ?_
  refine u_puti C w hw (hP _ _ (isn_f rfl rfl (by decide))) rfl (N := 57) rfl rfl cin_7 tyX7 tyX7_ok nmX7 0 (by decide) rfl rfl rfl rfl gw_1156 dX7_fitting_2 (fun f H locs w hw hk1 => ?_)
  have hk := hk.tr hk1
  refine u_sv h hw hn (fun S10 h hw hn => ?_)
  refine lv_iconst (v := 0) hx hb dX7_fitting_5 (by decide) ?_
  refine lv_istore_n (lv' := [(1, .int 0), (0, .ref (ad 40 0))]) hx hb dX7_fitting_6 rfl hl (by decide) rfl (fun ls hl => ?_)
  refine lv_iconst (v := 0) hx hb dX7_fitting_7 (by decide) ?_
  refine lv_istore_n (lv' := [(2, .int 0), (1, .int 0), (0, .ref (ad 40 0))]) hx hb dX7_fitting_8 rfl hl (by decide) rfl (fun ls hl => ?_)
  exact J9  fuel 0 0 S10 h f H locs w hw hn hk ls (lv_sub hl [2, 1, 0] rfl)
theorem dX7_strange_0 : decode cX7_strange 0 = .ok (.aload_n 0, 1) := by decide +kernel
theorem dX7_strange_1 : decode cX7_strange 1 = .ok (.iconst 0, 1) := by decide +kernel
theorem dX7_strange_2 : decode cX7_strange 2 = .ok (.putfield 97, 3) := by decide +kernel
theorem dX7_strange_5 : decode cX7_strange 5 = .ok (.aload_n 0, 1) := by decide +kernel
theorem dX7_strange_6 : decode cX7_strange 6 = .ok (.iload_n 1, 1) := by decide +kernel
theorem dX7_strange_7 : decode cX7_strange 7 = .ok (.iconst 0, 1) := by decide +kernel
theorem dX7_strange_8 : decode cX7_strange 8 = .ok (.aload_n 0, 1) := by decide +kernel
theorem dX7_strange_9 : decode cX7_strange 9 = .ok (.getfield 213, 3) := by decide +kernel
theorem dX7_strange_12 : decode cX7_strange 12 = .ok (.iconst 1, 1) := by decide +kernel
theorem dX7_strange_13 : decode cX7_strange 13 = .ok (.isub, 1) := by decide +kernel
theorem dX7_strange_14 : decode cX7_strange 14 = .ok (.invokestatic 100, 3) := by decide +kernel
theorem dX7_strange_17 : decode cX7_strange 17 = .ok (.ifCond .ne 7, 3) := by decide +kernel
theorem dX7_strange_20 : decode cX7_strange 20 = .ok (.iconst 1, 1) := by decide +kernel
theorem dX7_strange_21 : decode cX7_strange 21 = .ok (.goto 4, 3) := by decide +kernel
theorem dX7_strange_24 : decode cX7_strange 24 = .ok (.iconst 0, 1) := by decide +kernel
theorem dX7_strange_25 : decode cX7_strange 25 = .ok (.iconst 1, 1) := by decide +kernel
theorem dX7_strange_26 : decode cX7_strange 26 = .ok (.invokevirtual 206, 3) := by decide +kernel
theorem dX7_strange_29 : decode cX7_strange 29 = .ok (.ifCond .eq 5, 3) := by decide +kernel
theorem dX7_strange_32 : decode cX7_strange 32 = .ok (.iconst 0, 1) := by decide +kernel
theorem dX7_strange_33 : decode cX7_strange 33 = .ok (.ireturn, 1) := by decide +kernel
theorem dX7_strange_34 : decode cX7_strange 34 = .ok (.aload_n 0, 1) := by decide +kernel
theorem dX7_strange_35 : decode cX7_strange 35 = .ok (.iload_n 1, 1) := by decide +kernel
theorem dX7_strange_36 : decode cX7_strange 36 = .ok (.invokevirtual 349, 3) := by decide +kernel
theorem dX7_strange_39 : decode cX7_strange 39 = .ok (.ireturn, 1) := by decide +kernel
noncomputable def B_X7_strange_25 (a1 : Int32) (t0 : Int32) (S : fS) : Option (Int32 × fS) := bd (F_X7_bad t0 1 S) (fun v1 S2 => bb (v1 = (0 : Int32)) (bd (F_X7_strangeBy a1 S2) (fun v5 S6 => some (v5, S6))) (some (0, S2)))
noncomputable def F_X7_strange (p1 : Int32) (S0 : fS) : Option (Int32 × fS) := sv (pu S0 40 0 0 0) (fun S8 => iv (ge S8 40 0 13) (fun x9 => iv (x9 - (1 : Int32)) (fun x10 => bd (F_X7_in p1 0 x10 S8) (fun v11 S12 => bb (v11 = (0 : Int32)) (B_X7_strange_25  p1 1 S12) (B_X7_strange_25  p1 0 S12)))))
set_option maxHeartbeats 4000000 in
set_option maxRecDepth 100000 in
theorem c_X7_strange (l : Launch) (D : va_G) (K : Nat → ClassId) (b0 : Nat) (sa : sT) (sz : Nat) (L : List Nat) (f0 : Nat → va_E) (ad : Nat → Nat → Nat) (P : Nat → Nat → Prop) {n : Nat × Nat} (hP : ∀ a i : Nat, isn n a i → P a i) (S0 : fS) (hw : PW K ad P S0 L f0) (hn : S0.2.2.1 = n) (p1 : Int32) (v : Int32) (S1 : fS) (h : F_X7_strange p1 S0 = some (v, S1)) : Met l yX7_strange (.code yX7_strange cX7_strange 2 (some .int) :: gt) { frames := 77, cells := 0, slots := 0, locals := 2825 } (va_Pc [.ref (ad 40 0), .int p1] (hPre D K b0 sa sz L f0)) (hQ D K b0 (fun v9 u9 => ∃ f2 : Nat → va_E, v9 = some (.int v) ∧ u9 = lU L f2 ∧ PW K ad P S1 L f2 ∧ S1.2.2.1 = n ∧ Kp ad P L f0 f2)) 0 0 (fun q => b0 ≤ q) := by
  refine t_of (own := RX7) (by decide) rfl ?_ (Nat.le_of_ble_eq_true rfl)
  intro p e s m below meth c ls C w hsz hr hlk hnm hl
  have hx := C.1
  have hb := C.2.1
  have hl : lv_has ls 2 [(0, .ref (ad 40 0)), (1, .int p1)] := hl
  have J25 : ∀ (a1 : Int32) (t0 : Int32) (S : fS), B_X7_strange_25  a1 t0 S = some (v, S1) → Gw D K b0 sa ad P n L f0 p l e { frames := 77, cells := 0, slots := 0, locals := 2825 } s m [.ref (ad 40 0), .int p1].toArray below meth c 2 (MQ below (hQ D K b0 (fun v9 u9 => ∃ f2 : Nat → va_E, v9 = some (.int v) ∧ u9 = lU L f2 ∧ PW K ad P S1 L f2 ∧ S1.2.2.1 = n ∧ Kp ad P L f0 f2)) [.ref (ad 40 0), .int p1].toArray s 0 0 (fun q => b0 ≤ q)) 0 0 25 [(0, .ref (ad 40 0)), (1, .int a1)] [.int t0, .ref (ad 40 0)] S := by
    intro a1 t0 S h
    dsimp only [B_X7_strange_25] at h
    intro f H locs w hw hn hk ls hl
    refine lv_iconst (v := 1) hx hb dX7_strange_25 (by decide) ?_
    obtain ⟨v1, S2, h3, h⟩ := bd_some h
    refine u_callV (n := 2) C w hw (hP _ _ (isn_f rfl rfl (by decide))) rfl rfl rfl (c_X7_bad l D K b0 sa _ L _ ad P hP S hw hn t0 1 v1 S2 h3) gw_1347 gw_1344 gw_1346 gs_22 gw_8 ⟨by decide, by decide, by decide +kernel⟩ rfl rfl ⟨by decide, by decide⟩ rfl hl.1 rfl (Nat.le_of_ble_eq_true rfl) dX7_strange_26 ⟨Nat.le_of_ble_eq_true rfl, Nat.le_of_ble_eq_true rfl⟩ (fun v9 u H locs hp w => ?_)
    obtain ⟨f2, rfl, rfl, hw, hn, hk1⟩ := hp
    have hk := hk.tr hk1
    generalize f2 = f at w hw hk
    refine lv_if_eq (tgt := 34) hx hb dX7_strange_29 (by decide) (fun c4 => ?_) (fun c4 => ?_)
    · have h := bb_t h c4
      refine lv_aload_n hx hb dX7_strange_34 rfl (lv_at hl 0 rfl) ?_
      refine lv_iload_n hx hb dX7_strange_35 rfl (lv_at hl 1 rfl) ?_
      obtain ⟨v5, S6, h7, h⟩ := bd_some h
      refine u_callV (n := 1) C w hw (hP _ _ (isn_f rfl rfl (by decide))) rfl rfl rfl (c_X7_strangeBy l D K b0 sa _ L _ ad P hP S2 hw hn a1 v5 S6 h7) gw_1609 gw_1606 gw_1608 gs_61 gw_8 ⟨by decide, by decide, by decide +kernel⟩ rfl rfl ⟨by decide, by decide⟩ rfl hl.1 rfl (Nat.le_of_ble_eq_true rfl) dX7_strange_36 ⟨Nat.le_of_ble_eq_true rfl, Nat.le_of_ble_eq_true rfl⟩ (fun v9 u H locs hp w => ?_)
      obtain ⟨f2, rfl, rfl, hw, hn, hk1⟩ := hp
      have hk := hk.tr hk1
      generalize f2 = f at w hw hk
      exact t_iret C hr hlk w ⟨_, so_v h, rfl, so_w h hw, so_n h hn, hk⟩ (by decide) (by decide) dX7_strange_39
    · have h := bb_f h c4
      refine lv_iconst (v := 0) hx hb dX7_strange_32 (by decide) ?_
      exact t_iret C hr hlk w ⟨_, so_v h, rfl, so_w h hw, so_n h hn, hk⟩ (by decide) (by decide) dX7_strange_33
  dsimp only [F_X7_strange] at h
  obtain ⟨f, ef⟩ : ∃ z, z = f0 := ⟨_, rfl⟩
  rw [← ef] at w hw
  have hk : Kp ad P L f0 f := by rw [ef]; exact Kp.rf
  obtain ⟨H, eH⟩ : ∃ z, z = s.heap := ⟨_, rfl⟩
  obtain ⟨locs, el⟩ : ∃ z : List Loc, z = [] := ⟨_, rfl⟩
  rw [← eH, ← el] at w ⊢
  refine lv_aload_n hx hb dX7_strange_0 rfl (lv_at hl 0 rfl) ?_
  refine lv_iconst (v := 0) hx hb dX7_strange_1 (by decide) ?_
  refine u_puti C w hw (hP _ _ (isn_f rfl rfl (by decide))) rfl (N := 57) rfl rfl cin_7 tyX7 tyX7_ok nmX7 0 (by decide) rfl rfl rfl rfl gw_1156 dX7_strange_2 (fun f H locs w hw hk1 => ?_)
  have hk := hk.tr hk1
  refine u_sv h hw hn (fun S8 h hw hn => ?_)
  refine lv_aload_n hx hb dX7_strange_5 rfl (lv_at hl 0 rfl) ?_
  refine lv_iload_n hx hb dX7_strange_6 rfl (lv_at hl 1 rfl) ?_
  refine lv_iconst (v := 0) hx hb dX7_strange_7 (by decide) ?_
  refine lv_aload_n hx hb dX7_strange_8 rfl (lv_at hl 0 rfl) ?_
  refine u_geti C w hw (hP _ _ (isn_f rfl rfl (by decide))) rfl (N := 57) rfl rfl cin_7 13 (by decide) rfl gw_1169 dX7_strange_9 ?_
  refine u_iv h (fun x9 h => ?_)
  refine lv_iconst (v := 1) hx hb dX7_strange_12 (by decide) ?_
  refine lv_isub hx hb dX7_strange_13 ?_
  refine u_iv h (fun x10 h => ?_)
  obtain ⟨v11, S12, h13, h⟩ := bd_some h
  refine t_callS (n := 3) C w (c_X7_in l D K b0 sa _ L _ ad P hP S8 hw hn p1 0 x10 v11 S12 h13) gw_1343 gw_1341 gw_1342 gw_8 ⟨by decide, by decide, by decide +kernel⟩ rfl rfl ⟨by decide, by decide⟩ rfl hl.1 rfl (Nat.le_of_ble_eq_true rfl) dX7_strange_14 ⟨Nat.le_of_ble_eq_true rfl, Nat.le_of_ble_eq_true rfl⟩ (fun v9 u H locs hp w => ?_)
  obtain ⟨f2, rfl, rfl, hw, hn, hk1⟩ := hp
  have hk := hk.tr hk1
  generalize f2 = f at w hw hk
  refine lv_if_ne (tgt := 24) hx hb dX7_strange_17 (by decide) (fun c14 => ?_) (fun c14 => ?_)
  · have h := bb_f h c14
    refine lv_iconst (v := 0) hx hb dX7_strange_24 (by decide) ?_
    exact J25  p1 0 S12 h f H locs w hw hn hk ls (lv_sub hl [0, 1] rfl)
  · have h := bb_t h c14
    refine lv_iconst (v := 1) hx hb dX7_strange_20 (by decide) ?_
    refine lv_goto (tgt := 25) hx hb dX7_strange_21 (by decide) ?_
    exact J25  p1 1 S12 h f H locs w hw hn hk ls (lv_sub hl [0, 1] rfl)
theorem dX7_guess_0 : decode cX7_guess 0 = .ok (.aload_n 0, 1) := by decide +kernel
theorem dX7_guess_1 : decode cX7_guess 1 = .ok (.iconst 0, 1) := by decide +kernel
theorem dX7_guess_2 : decode cX7_guess 2 = .ok (.putfield 97, 3) := by decide +kernel
theorem dX7_guess_5 : decode cX7_guess 5 = .ok (.aload_n 0, 1) := by decide +kernel
theorem dX7_guess_6 : decode cX7_guess 6 = .ok (.iload_n 1, 1) := by decide +kernel
theorem dX7_guess_7 : decode cX7_guess 7 = .ok (.invokestatic 253, 3) := by decide +kernel
theorem dX7_guess_10 : decode cX7_guess 10 = .ok (.ifCond .ne 7, 3) := by decide +kernel
theorem dX7_guess_13 : decode cX7_guess 13 = .ok (.iconst 1, 1) := by decide +kernel
theorem dX7_guess_14 : decode cX7_guess 14 = .ok (.goto 4, 3) := by decide +kernel
theorem dX7_guess_17 : decode cX7_guess 17 = .ok (.iconst 0, 1) := by decide +kernel
theorem dX7_guess_18 : decode cX7_guess 18 = .ok (.iconst 1, 1) := by decide +kernel
theorem dX7_guess_19 : decode cX7_guess 19 = .ok (.invokevirtual 206, 3) := by decide +kernel
theorem dX7_guess_22 : decode cX7_guess 22 = .ok (.ifCond .eq 5, 3) := by decide +kernel
theorem dX7_guess_25 : decode cX7_guess 25 = .ok (.iconst 0, 1) := by decide +kernel
theorem dX7_guess_26 : decode cX7_guess 26 = .ok (.ireturn, 1) := by decide +kernel
theorem dX7_guess_27 : decode cX7_guess 27 = .ok (.iconst 0, 1) := by decide +kernel
theorem dX7_guess_28 : decode cX7_guess 28 = .ok (.istore_n 2, 1) := by decide +kernel
theorem dX7_guess_29 : decode cX7_guess 29 = .ok (.iconst 0, 1) := by decide +kernel
theorem dX7_guess_30 : decode cX7_guess 30 = .ok (.istore_n 3, 1) := by decide +kernel
theorem dX7_guess_31 : decode cX7_guess 31 = .ok (.iload_n 3, 1) := by decide +kernel
theorem dX7_guess_32 : decode cX7_guess 32 = .ok (.aload_n 0, 1) := by decide +kernel
theorem dX7_guess_33 : decode cX7_guess 33 = .ok (.getfield 213, 3) := by decide +kernel
theorem dX7_guess_36 : decode cX7_guess 36 = .ok (.if_icmp .ge 44, 3) := by decide +kernel
theorem dX7_guess_39 : decode cX7_guess 39 = .ok (.aload_n 0, 1) := by decide +kernel
theorem dX7_guess_40 : decode cX7_guess 40 = .ok (.iload_n 3, 1) := by decide +kernel
theorem dX7_guess_41 : decode cX7_guess 41 = .ok (.invokevirtual 349, 3) := by decide +kernel
theorem dX7_guess_44 : decode cX7_guess 44 = .ok (.iconst (-1), 1) := by decide +kernel
theorem dX7_guess_45 : decode cX7_guess 45 = .ok (.if_icmp .eq 6, 3) := by decide +kernel
theorem dX7_guess_48 : decode cX7_guess 48 = .ok (.goto 26, 3) := by decide +kernel
theorem dX7_guess_51 : decode cX7_guess 51 = .ok (.aload_n 0, 1) := by decide +kernel
theorem dX7_guess_52 : decode cX7_guess 52 = .ok (.iconst 1, 1) := by decide +kernel
theorem dX7_guess_53 : decode cX7_guess 53 = .ok (.invokevirtual 247, 3) := by decide +kernel
theorem dX7_guess_56 : decode cX7_guess 56 = .ok (.iload_n 2, 1) := by decide +kernel
theorem dX7_guess_57 : decode cX7_guess 57 = .ok (.aload_n 0, 1) := by decide +kernel
theorem dX7_guess_58 : decode cX7_guess 58 = .ok (.iload_n 1, 1) := by decide +kernel
theorem dX7_guess_59 : decode cX7_guess 59 = .ok (.iload_n 3, 1) := by decide +kernel
theorem dX7_guess_60 : decode cX7_guess 60 = .ok (.iconst 0, 1) := by decide +kernel
theorem dX7_guess_61 : decode cX7_guess 61 = .ok (.invokevirtual 342, 3) := by decide +kernel
theorem dX7_guess_64 : decode cX7_guess 64 = .ok (.ifCond .eq 7, 3) := by decide +kernel
theorem dX7_guess_67 : decode cX7_guess 67 = .ok (.iconst 1, 1) := by decide +kernel
theorem dX7_guess_68 : decode cX7_guess 68 = .ok (.goto 4, 3) := by decide +kernel
theorem dX7_guess_71 : decode cX7_guess 71 = .ok (.iconst 0, 1) := by decide +kernel
theorem dX7_guess_72 : decode cX7_guess 72 = .ok (.iadd, 1) := by decide +kernel
theorem dX7_guess_73 : decode cX7_guess 73 = .ok (.istore_n 2, 1) := by decide +kernel
theorem dX7_guess_74 : decode cX7_guess 74 = .ok (.iinc 3 1, 3) := by decide +kernel
theorem dX7_guess_77 : decode cX7_guess 77 = .ok (.goto (-46), 3) := by decide +kernel
theorem dX7_guess_80 : decode cX7_guess 80 = .ok (.iload_n 2, 1) := by decide +kernel
theorem dX7_guess_81 : decode cX7_guess 81 = .ok (.ireturn, 1) := by decide +kernel
noncomputable def B_X7_guess_74 (k31 : (Int32 × Int32 × Int32) → fS → Option (Int32 × fS)) (a1 : Int32) (a2 : Int32) (a3 : Int32) (S : fS) : Option (Int32 × fS) := iv (a3 + Int32.ofInt 1) (fun x1 => k31 (a1, a2, x1) S)
noncomputable def B_X7_guess_72 (k31 : (Int32 × Int32 × Int32) → fS → Option (Int32 × fS)) (a1 : Int32) (a3 : Int32) (t0 : Int32) (t1 : Int32) (S : fS) : Option (Int32 × fS) := iv (t1 + t0) (fun x2 => B_X7_guess_74 k31 a1 x2 a3 S)
noncomputable def B_X7_guess_31 (k31 : (Int32 × Int32 × Int32) → fS → Option (Int32 × fS)) : (Int32 × Int32 × Int32) → fS → Option (Int32 × fS) := fun ⟨a1, a2, a3⟩ S => iv (ge S 40 0 13) (fun x3 => bb (x3 ≤ a3) (some (a2, S)) (bd (F_X7_strangeBy a3 S) (fun v5 S6 => bb (v5 = ((-1) : Int32)) (bd (F_X7_namesOf 1 S6) (fun v9 S10 => bd (F_X7_isPaidBy a1 a3 0 S10) (fun v12 S13 => bb (v12 = (0 : Int32)) (B_X7_guess_72 k31 a1 a3 0 a2 S13) (B_X7_guess_72 k31 a1 a3 1 a2 S13)))) (B_X7_guess_74 k31 a1 a2 a3 S6))))
noncomputable def B_X7_guess_18 (a1 : Int32) (t0 : Int32) (S : fS) : Option (Int32 × fS) := bd (F_X7_bad t0 1 S) (fun v16 S17 => bb (v16 = (0 : Int32)) (lp (B_X7_guess_31 ) fuel (a1, 0, 0) S17) (some (0, S17)))
noncomputable def F_X7_guess (p1 : Int32) (S0 : fS) : Option (Int32 × fS) := sv (pu S0 40 0 0 0) (fun S20 => bd (F_X7_isCell p1 S20) (fun v21 S22 => bb (v21 = (0 : Int32)) (B_X7_guess_18  p1 1 S22) (B_X7_guess_18  p1 0 S22)))
set_option maxHeartbeats 4000000 in
set_option maxRecDepth 100000 in
theorem c_X7_guess (l : Launch) (D : va_G) (K : Nat → ClassId) (b0 : Nat) (sa : sT) (sz : Nat) (L : List Nat) (f0 : Nat → va_E) (ad : Nat → Nat → Nat) (P : Nat → Nat → Prop) {n : Nat × Nat} (hP : ∀ a i : Nat, isn n a i → P a i) (S0 : fS) (hw : PW K ad P S0 L f0) (hn : S0.2.2.1 = n) (p1 : Int32) (v : Int32) (S1 : fS) (h : F_X7_guess p1 S0 = some (v, S1)) : Met l yX7_guess (.code yX7_guess cX7_guess 4 (some .int) :: gt) { frames := 77, cells := 0, slots := 0, locals := 2825 } (va_Pc [.ref (ad 40 0), .int p1] (hPre D K b0 sa sz L f0)) (hQ D K b0 (fun v9 u9 => ∃ f2 : Nat → va_E, v9 = some (.int v) ∧ u9 = lU L f2 ∧ PW K ad P S1 L f2 ∧ S1.2.2.1 = n ∧ Kp ad P L f0 f2)) 0 0 (fun q => b0 ≤ q) := by
  refine t_of (own := RX7) (by decide) rfl ?_ (Nat.le_of_ble_eq_true rfl)
  intro p e s m below meth c ls C w hsz hr hlk hnm hl
  have hx := C.1
  have hb := C.2.1
  have hl : lv_has ls 4 [(0, .ref (ad 40 0)), (1, .int p1)] := hl
  have J74 : ∀ (k31 : (Int32 × Int32 × Int32) → fS → Option (Int32 × fS)) (hk31 : ∀ (a1 : Int32) (a2 : Int32) (a3 : Int32) (S : fS), k31 (a1, a2, a3) S = some (v, S1) → Gw D K b0 sa ad P n L f0 p l e { frames := 77, cells := 0, slots := 0, locals := 2825 } s m [.ref (ad 40 0), .int p1].toArray below meth c 4 (MQ below (hQ D K b0 (fun v9 u9 => ∃ f2 : Nat → va_E, v9 = some (.int v) ∧ u9 = lU L f2 ∧ PW K ad P S1 L f2 ∧ S1.2.2.1 = n ∧ Kp ad P L f0 f2)) [.ref (ad 40 0), .int p1].toArray s 0 0 (fun q => b0 ≤ q)) 0 0 31 [(0, .ref (ad 40 0)), (1, .int a1), (2, .int a2), (3, .int a3)] [] S) (a1 : Int32) (a2 : Int32) (a3 : Int32) (S : fS), B_X7_guess_74 k31 a1 a2 a3 S = some (v, S1) → Gw D K b0 sa ad P n L f0 p l e { frames := 77, cells := 0, slots := 0, locals := 2825 } s m [.ref (ad 40 0), .int p1].toArray below meth c 4 (MQ below (hQ D K b0 (fun v9 u9 => ∃ f2 : Nat → va_E, v9 = some (.int v) ∧ u9 = lU L f2 ∧ PW K ad P S1 L f2 ∧ S1.2.2.1 = n ∧ Kp ad P L f0 f2)) [.ref (ad 40 0), .int p1].toArray s 0 0 (fun q => b0 ≤ q)) 0 0 74 [(0, .ref (ad 40 0)), (1, .int a1), (2, .int a2), (3, .int a3)] [] S := by
    intro k31 hk31 a1 a2 a3 S h
    dsimp only [B_X7_guess_74] at h
    intro f H locs w hw hn hk ls hl
    obtain ⟨x1, ex1, h⟩ := iv_some h
    refine lv_iinc (v := x1) (lv' := [(3, .int x1), (0, .ref (ad 40 0)), (1, .int a1), (2, .int a2)]) hx hb dX7_guess_74 hl (k := 3) rfl ex1.symm (by decide) rfl (fun ls hl => ?_)
    refine lv_goto (tgt := 31) hx hb dX7_guess_77 (by decide) ?_
    exact hk31 a1 a2 x1 S h f H locs w hw hn hk ls (lv_sub hl [1, 2, 3, 0] rfl)
  have J72 : ∀ (k31 : (Int32 × Int32 × Int32) → fS → Option (Int32 × fS)) (hk31 : ∀ (a1 : Int32) (a2 : Int32) (a3 : Int32) (S : fS), k31 (a1, a2, a3) S = some (v, S1) → Gw D K b0 sa ad P n L f0 p l e { frames := 77, cells := 0, slots := 0, locals := 2825 } s m [.ref (ad 40 0), .int p1].toArray below meth c 4 (MQ below (hQ D K b0 (fun v9 u9 => ∃ f2 : Nat → va_E, v9 = some (.int v) ∧ u9 = lU L f2 ∧ PW K ad P S1 L f2 ∧ S1.2.2.1 = n ∧ Kp ad P L f0 f2)) [.ref (ad 40 0), .int p1].toArray s 0 0 (fun q => b0 ≤ q)) 0 0 31 [(0, .ref (ad 40 0)), (1, .int a1), (2, .int a2), (3, .int a3)] [] S) (a1 : Int32) (a3 : Int32) (t0 : Int32) (t1 : Int32) (S : fS), B_X7_guess_72 k31 a1 a3 t0 t1 S = some (v, S1) → Gw D K b0 sa ad P n L f0 p l e { frames := 77, cells := 0, slots := 0, locals := 2825 } s m [.ref (ad 40 0), .int p1].toArray below meth c 4 (MQ below (hQ D K b0 (fun v9 u9 => ∃ f2 : Nat → va_E, v9 = some (.int v) ∧ u9 = lU L f2 ∧ PW K ad P S1 L f2 ∧ S1.2.2.1 = n ∧ Kp ad P L f0 f2)) [.ref (ad 40 0), .int p1].toArray s 0 0 (fun q => b0 ≤ q)) 0 0 72 [(0, .ref (ad 40 0)), (1, .int a1), (3, .int a3)] [.int t0, .int t1] S := by
    intro k31 hk31 a1 a3 t0 t1 S h
    dsimp only [B_X7_guess_72] at h
    intro f H locs w hw hn hk ls hl
    refine lv_iadd hx hb dX7_guess_72 ?_
    refine u_iv h (fun x2 h => ?_)
    refine lv_istore_n (lv' := [(2, .int x2), (0, .ref (ad 40 0)), (1, .int a1), (3, .int a3)]) hx hb dX7_guess_73 rfl hl (by decide) rfl (fun ls hl => ?_)
    exact J74 k31 hk31 a1 x2 a3 S h f H locs w hw hn hk ls (lv_sub hl [1, 2, 0, 3] rfl)
  have J31 : ∀ (fu : Nat) (a1 : Int32) (a2 : Int32) (a3 : Int32) (S : fS), lp (B_X7_guess_31 ) fu (a1, a2, a3) S = some (v, S1) → Gw D K b0 sa ad P n L f0 p l e { frames := 77, cells := 0, slots := 0, locals := 2825 } s m [.ref (ad 40 0), .int p1].toArray below meth c 4 (MQ below (hQ D K b0 (fun v9 u9 => ∃ f2 : Nat → va_E, v9 = some (.int v) ∧ u9 = lU L f2 ∧ PW K ad P S1 L f2 ∧ S1.2.2.1 = n ∧ Kp ad P L f0 f2)) [.ref (ad 40 0), .int p1].toArray s 0 0 (fun q => b0 ≤ q)) 0 0 31 [(0, .ref (ad 40 0)), (1, .int a1), (2, .int a2), (3, .int a3)] [] S := by
    intro fu a1 a2 a3 S h
    refine lp_some (G := (fun q S => Gw D K b0 sa ad P n L f0 p l e { frames := 77, cells := 0, slots := 0, locals := 2825 } s m [.ref (ad 40 0), .int p1].toArray below meth c 4 (MQ below (hQ D K b0 (fun v9 u9 => ∃ f2 : Nat → va_E, v9 = some (.int v) ∧ u9 = lU L f2 ∧ PW K ad P S1 L f2 ∧ S1.2.2.1 = n ∧ Kp ad P L f0 f2)) [.ref (ad 40 0), .int p1].toArray s 0 0 (fun q => b0 ≤ q)) 0 0 31 [(0, .ref (ad 40 0)), (1, .int q.1), (2, .int q.2.1), (3, .int q.2.2)] [] S)) (fun k31 hk31 q S h => ?_) fu (a1, a2, a3) S h
    obtain ⟨a1, a2, a3⟩ := q
    have hk31 : ∀ (a1 : Int32) (a2 : Int32) (a3 : Int32) (S : fS), k31 (a1, a2, a3) S = some (v, S1) → Gw D K b0 sa ad P n L f0 p l e { frames := 77, cells := 0, slots := 0, locals := 2825 } s m [.ref (ad 40 0), .int p1].toArray below meth c 4 (MQ below (hQ D K b0 (fun v9 u9 => ∃ f2 : Nat → va_E, v9 = some (.int v) ∧ u9 = lU L f2 ∧ PW K ad P S1 L f2 ∧ S1.2.2.1 = n ∧ Kp ad P L f0 f2)) [.ref (ad 40 0), .int p1].toArray s 0 0 (fun q => b0 ≤ q)) 0 0 31 [(0, .ref (ad 40 0)), (1, .int a1), (2, .int a2), (3, .int a3)] [] S := fun a1 a2 a3 S h => hk31 (a1, a2, a3) S h
    dsimp only [B_X7_guess_31] at h
    intro f H locs w hw hn hk ls hl
    refine lv_iload_n hx hb dX7_guess_31 rfl (lv_at hl 3 rfl) ?_
    refine lv_aload_n hx hb dX7_guess_32 rfl (lv_at hl 0 rfl) ?_
    refine u_geti C w hw (hP _ _ (isn_f rfl rfl (by decide))) rfl (N := 57) rfl rfl cin_7 13 (by decide) rfl gw_1169 dX7_guess_33 ?_
    refine u_iv h (fun x3 h => ?_)
    refine lv_icmp_ge (tgt := 80) hx hb dX7_guess_36 (by decide) (fun c4 => ?_) (fun c4 => ?_)
    · have h := bb_t h c4
      refine lv_iload_n hx hb dX7_guess_80 rfl (lv_at hl 2 rfl) ?_
      exact t_iret C hr hlk w ⟨_, so_v h, rfl, so_w h hw, so_n h hn, hk⟩ (by decide) (by decide) dX7_guess_81
    · have h := bb_f h c4
      refine lv_aload_n hx hb dX7_guess_39 rfl (lv_at hl 0 rfl) ?_
      refine lv_iload_n hx hb dX7_guess_40 rfl (lv_at hl 3 rfl) ?_
      obtain ⟨v5, S6, h7, h⟩ := bd_some h
      refine u_callV (n := 1) C w hw (hP _ _ (isn_f rfl rfl (by decide))) rfl rfl rfl (c_X7_strangeBy l D K b0 sa _ L _ ad P hP S hw hn a3 v5 S6 h7) gw_1609 gw_1606 gw_1608 gs_61 gw_8 ⟨by decide, by decide, by decide +kernel⟩ rfl rfl ⟨by decide, by decide⟩ rfl hl.1 rfl (Nat.le_of_ble_eq_true rfl) dX7_guess_41 ⟨Nat.le_of_ble_eq_true rfl, Nat.le_of_ble_eq_true rfl⟩ (fun v9 u H locs hp w => ?_)
      obtain ⟨f2, rfl, rfl, hw, hn, hk1⟩ := hp
      have hk := hk.tr hk1
      generalize f2 = f at w hw hk
      refine lv_iconst (v := (-1)) hx hb dX7_guess_44 (by decide) ?_
      refine lv_icmp_eq (tgt := 51) hx hb dX7_guess_45 (by decide) (fun c8 => ?_) (fun c8 => ?_)
      · have h := bb_t h c8
        refine lv_aload_n hx hb dX7_guess_51 rfl (lv_at hl 0 rfl) ?_
        refine lv_iconst (v := 1) hx hb dX7_guess_52 (by decide) ?_
        obtain ⟨v9, S10, h11, h⟩ := bd_some h
        refine u_callV (n := 1) C w hw (hP _ _ (isn_f rfl rfl (by decide))) rfl rfl rfl (c_X7_namesOf l D K b0 sa _ L _ ad P hP S6 hw hn 1 v9 S10 h11) gw_1445 gw_1442 gw_1444 gs_42 gw_8 ⟨by decide, by decide, by decide +kernel⟩ rfl rfl ⟨by decide, by decide⟩ rfl hl.1 rfl (Nat.le_of_ble_eq_true rfl) dX7_guess_53 ⟨Nat.le_of_ble_eq_true rfl, Nat.le_of_ble_eq_true rfl⟩ (fun v9 u H locs hp w => ?_)
        obtain ⟨f2, rfl, rfl, hw, hn, hk1⟩ := hp
        have hk := hk.tr hk1
        generalize f2 = f at w hw hk
        refine lv_iload_n hx hb dX7_guess_56 rfl (lv_at hl 2 rfl) ?_
        refine lv_aload_n hx hb dX7_guess_57 rfl (lv_at hl 0 rfl) ?_
        refine lv_iload_n hx hb dX7_guess_58 rfl (lv_at hl 1 rfl) ?_
        refine lv_iload_n hx hb dX7_guess_59 rfl (lv_at hl 3 rfl) ?_
        refine lv_iconst (v := 0) hx hb dX7_guess_60 (by decide) ?_
        obtain ⟨v12, S13, h14, h⟩ := bd_some h
        refine u_callV (n := 3) C w hw (hP _ _ (isn_f rfl rfl (by decide))) rfl rfl rfl (c_X7_isPaidBy l D K b0 sa _ L _ ad P hP S10 hw hn a1 a3 0 v12 S13 h14) gw_1593 gw_1590 gw_1592 gs_60 gw_8 ⟨by decide, by decide, by decide +kernel⟩ rfl rfl ⟨by decide, by decide⟩ rfl hl.1 rfl (Nat.le_of_ble_eq_true rfl) dX7_guess_61 ⟨Nat.le_of_ble_eq_true rfl, Nat.le_of_ble_eq_true rfl⟩ (fun v9 u H locs hp w => ?_)
        obtain ⟨f2, rfl, rfl, hw, hn, hk1⟩ := hp
        have hk := hk.tr hk1
        generalize f2 = f at w hw hk
        refine lv_if_eq (tgt := 71) hx hb dX7_guess_64 (by decide) (fun c15 => ?_) (fun c15 => ?_)
        · have h := bb_t h c15
          refine lv_iconst (v := 0) hx hb dX7_guess_71 (by decide) ?_
          exact J72 k31 hk31 a1 a3 0 a2 S13 h f H locs w hw hn hk ls (lv_sub hl [0, 1, 3] rfl)
        · have h := bb_f h c15
          refine lv_iconst (v := 1) hx hb dX7_guess_67 (by decide) ?_
          refine lv_goto (tgt := 72) hx hb dX7_guess_68 (by decide) ?_
          exact J72 k31 hk31 a1 a3 1 a2 S13 h f H locs w hw hn hk ls (lv_sub hl [0, 1, 3] rfl)
      · have h := bb_f h c8
        refine lv_goto (tgt := 74) hx hb dX7_guess_48 (by decide) ?_
        exact J74 k31 hk31 a1 a2 a3 S6 h f H locs w hw hn hk ls (lv_sub hl [0, 1, 2, 3] rfl)
  have J18 : ∀ (a1 : Int32) (t0 : Int32) (S : fS), B_X7_guess_18  a1 t0 S = some (v, S1) → Gw D K b0 sa ad P n L f0 p l e { frames := 77, cells := 0, slots := 0, locals := 2825 } s m [.ref (ad 40 0), .int p1].toArray below meth c 4 (MQ below (hQ D K b0 (fun v9 u9 => ∃ f2 : Nat → va_E, v9 = some (.int v) ∧ u9 = lU L f2 ∧ PW K ad P S1 L f2 ∧ S1.2.2.1 = n ∧ Kp ad P L f0 f2)) [.ref (ad 40 0), .int p1].toArray s 0 0 (fun q => b0 ≤ q)) 0 0 18 [(0, .ref (ad 40 0)), (1, .int a1)] [.int t0, .ref (ad 40 0)] S := by
    intro a1 t0 S h
    dsimp only [B_X7_guess_18] at h
    intro f H locs w hw hn hk ls hl
    refine lv_iconst (v := 1) hx hb dX7_guess_18 (by decide) ?_
    obtain ⟨v16, S17, h18, h⟩ := bd_some h
    refine u_callV (n := 2) C w hw (hP _ _ (isn_f rfl rfl (by decide))) rfl rfl rfl (c_X7_bad l D K b0 sa _ L _ ad P hP S hw hn t0 1 v16 S17 h18) gw_1347 gw_1344 gw_1346 gs_22 gw_8 ⟨by decide, by decide, by decide +kernel⟩ rfl rfl ⟨by decide, by decide⟩ rfl hl.1 rfl (Nat.le_of_ble_eq_true rfl) dX7_guess_19 ⟨Nat.le_of_ble_eq_true rfl, Nat.le_of_ble_eq_true rfl⟩ (fun v9 u H locs hp w => ?_)
    obtain ⟨f2, rfl, rfl, hw, hn, hk1⟩ := hp
    have hk := hk.tr hk1
    generalize f2 = f at w hw hk
    refine lv_if_eq (tgt := 27) hx hb dX7_guess_22 (by decide) (fun c19 => ?_) (fun c19 => ?_)
    · have h := bb_t h c19
      refine lv_iconst (v := 0) hx hb dX7_guess_27 (by decide) ?_
      refine lv_istore_n (lv' := [(2, .int 0), (0, .ref (ad 40 0)), (1, .int a1)]) hx hb dX7_guess_28 rfl hl (by decide) rfl (fun ls hl => ?_)
      refine lv_iconst (v := 0) hx hb dX7_guess_29 (by decide) ?_
      refine lv_istore_n (lv' := [(3, .int 0), (2, .int 0), (0, .ref (ad 40 0)), (1, .int a1)]) hx hb dX7_guess_30 rfl hl (by decide) rfl (fun ls hl => ?_)
      exact J31  fuel a1 0 0 S17 h f H locs w hw hn hk ls (lv_sub hl [2, 3, 1, 0] rfl)
    · have h := bb_f h c19
      refine lv_iconst (v := 0) hx hb dX7_guess_25 (by decide) ?_
      exact t_iret C hr hlk w ⟨_, so_v h, rfl, so_w h hw, so_n h hn, hk⟩ (by decide) (by decide) dX7_guess_26
  dsimp only [F_X7_guess] at h
  obtain ⟨f, ef⟩ : ∃ z, z = f0 := ⟨_, rfl⟩
  rw [← ef] at w hw
  have hk : Kp ad P L f0 f := by rw [ef]; exact Kp.rf
  obtain ⟨H, eH⟩ : ∃ z, z = s.heap := ⟨_, rfl⟩
  obtain ⟨locs, el⟩ : ∃ z : List Loc, z = [] := ⟨_, rfl⟩
  rw [← eH, ← el] at w ⊢
  refine lv_aload_n hx hb dX7_guess_0 rfl (lv_at hl 0 rfl) ?_
  refine lv_iconst (v := 0) hx hb dX7_guess_1 (by decide) ?_
  refine u_puti C w hw (hP _ _ (isn_f rfl rfl (by decide))) rfl (N := 57) rfl rfl cin_7 tyX7 tyX7_ok nmX7 0 (by decide) rfl rfl rfl rfl gw_1156 dX7_guess_2 (fun f H locs w hw hk1 => ?_)
  have hk := hk.tr hk1
  refine u_sv h hw hn (fun S20 h hw hn => ?_)
  refine lv_aload_n hx hb dX7_guess_5 rfl (lv_at hl 0 rfl) ?_
  refine lv_iload_n hx hb dX7_guess_6 rfl (lv_at hl 1 rfl) ?_
  obtain ⟨v21, S22, h23, h⟩ := bd_some h
  refine t_callS (n := 1) C w (c_X7_isCell l D K b0 sa _ L _ ad P hP S20 hw hn p1 v21 S22 h23) gw_1467 gw_1465 gw_1466 gw_8 ⟨by decide, by decide, by decide +kernel⟩ rfl rfl ⟨by decide, by decide⟩ rfl hl.1 rfl (Nat.le_of_ble_eq_true rfl) dX7_guess_7 ⟨Nat.le_of_ble_eq_true rfl, Nat.le_of_ble_eq_true rfl⟩ (fun v9 u H locs hp w => ?_)
  obtain ⟨f2, rfl, rfl, hw, hn, hk1⟩ := hp
  have hk := hk.tr hk1
  generalize f2 = f at w hw hk
  refine lv_if_ne (tgt := 17) hx hb dX7_guess_10 (by decide) (fun c24 => ?_) (fun c24 => ?_)
  · have h := bb_f h c24
    refine lv_iconst (v := 0) hx hb dX7_guess_17 (by decide) ?_
    exact J18  p1 0 S22 h f H locs w hw hn hk ls (lv_sub hl [0, 1] rfl)
  · have h := bb_t h c24
    refine lv_iconst (v := 1) hx hb dX7_guess_13 (by decide) ?_
    refine lv_goto (tgt := 18) hx hb dX7_guess_14 (by decide) ?_
    exact J18  p1 1 S22 h f H locs w hw hn hk ls (lv_sub hl [0, 1] rfl)
theorem dX7_worthOf_0 : decode cX7_worthOf 0 = .ok (.aload_n 0, 1) := by decide +kernel
theorem dX7_worthOf_1 : decode cX7_worthOf 1 = .ok (.iconst 3, 1) := by decide +kernel
theorem dX7_worthOf_2 : decode cX7_worthOf 2 = .ok (.invokevirtual 352, 3) := by decide +kernel
theorem dX7_worthOf_5 : decode cX7_worthOf 5 = .ok (.iconst 1, 1) := by decide +kernel
theorem dX7_worthOf_6 : decode cX7_worthOf 6 = .ok (.istore 4, 2) := by decide +kernel
theorem dX7_worthOf_8 : decode cX7_worthOf 8 = .ok (.iload 4, 2) := by decide +kernel
theorem dX7_worthOf_10 : decode cX7_worthOf 10 = .ok (.iload_n 3, 1) := by decide +kernel
theorem dX7_worthOf_11 : decode cX7_worthOf 11 = .ok (.if_icmp .ge 15, 3) := by decide +kernel
theorem dX7_worthOf_14 : decode cX7_worthOf 14 = .ok (.aload_n 0, 1) := by decide +kernel
theorem dX7_worthOf_15 : decode cX7_worthOf 15 = .ok (.iload_n 1, 1) := by decide +kernel
theorem dX7_worthOf_16 : decode cX7_worthOf 16 = .ok (.iconst 0, 1) := by decide +kernel
theorem dX7_worthOf_17 : decode cX7_worthOf 17 = .ok (.invokevirtual 323, 3) := by decide +kernel
theorem dX7_worthOf_20 : decode cX7_worthOf 20 = .ok (.iinc 4 1, 3) := by decide +kernel
theorem dX7_worthOf_23 : decode cX7_worthOf 23 = .ok (.goto (-15), 3) := by decide +kernel
theorem dX7_worthOf_26 : decode cX7_worthOf 26 = .ok (.aload_n 0, 1) := by decide +kernel
theorem dX7_worthOf_27 : decode cX7_worthOf 27 = .ok (.iload_n 2, 1) := by decide +kernel
theorem dX7_worthOf_28 : decode cX7_worthOf 28 = .ok (.iconst 0, 1) := by decide +kernel
theorem dX7_worthOf_29 : decode cX7_worthOf 29 = .ok (.invokevirtual 323, 3) := by decide +kernel
theorem dX7_worthOf_32 : decode cX7_worthOf 32 = .ok (.aload_n 0, 1) := by decide +kernel
theorem dX7_worthOf_33 : decode cX7_worthOf 33 = .ok (.getfield 310, 3) := by decide +kernel
theorem dX7_worthOf_36 : decode cX7_worthOf 36 = .ok (.aload_n 0, 1) := by decide +kernel
theorem dX7_worthOf_37 : decode cX7_worthOf 37 = .ok (.getfield 64, 3) := by decide +kernel
theorem dX7_worthOf_40 : decode cX7_worthOf 40 = .ok (.isub, 1) := by decide +kernel
theorem dX7_worthOf_41 : decode cX7_worthOf 41 = .ok (.istore 4, 2) := by decide +kernel
theorem dX7_worthOf_43 : decode cX7_worthOf 43 = .ok (.aload_n 0, 1) := by decide +kernel
theorem dX7_worthOf_44 : decode cX7_worthOf 44 = .ok (.iconst 3, 1) := by decide +kernel
theorem dX7_worthOf_45 : decode cX7_worthOf 45 = .ok (.invokevirtual 355, 3) := by decide +kernel
theorem dX7_worthOf_48 : decode cX7_worthOf 48 = .ok (.iload 4, 2) := by decide +kernel
theorem dX7_worthOf_50 : decode cX7_worthOf 50 = .ok (.ireturn, 1) := by decide +kernel
noncomputable def B_X7_worthOf_8 (k8 : (Int32 × Int32 × Int32 × Int32) → fS → Option (Int32 × fS)) : (Int32 × Int32 × Int32 × Int32) → fS → Option (Int32 × fS) := fun ⟨a1, a2, a3, a4⟩ S => bb (a3 ≤ a4) (bd (F_X7_triesAt a2 0 S) (fun v2 S3 => iv (ge S3 40 0 43) (fun x5 => iv (ge S3 40 0 32) (fun x6 => iv (x5 - x6) (fun x7 => bd (F_X7_laysBack 3 S3) (fun v8 S9 => some (x7, S9))))))) (bd (F_X7_triesAt a1 0 S) (fun v11 S12 => iv (a4 + Int32.ofInt 1) (fun x14 => k8 (a1, a2, a3, x14) S12)))
noncomputable def F_X7_worthOf (p1 : Int32) (p2 : Int32) (p3 : Int32) (S0 : fS) : Option (Int32 × fS) := bd (F_X7_lays 3 S0) (fun v15 S16 => lp (B_X7_worthOf_8 ) fuel (p1, p2, p3, 1) S16)
set_option maxHeartbeats 4000000 in
set_option maxRecDepth 100000 in
theorem c_X7_worthOf (l : Launch) (D : va_G) (K : Nat → ClassId) (b0 : Nat) (sa : sT) (sz : Nat) (L : List Nat) (f0 : Nat → va_E) (ad : Nat → Nat → Nat) (P : Nat → Nat → Prop) {n : Nat × Nat} (hP : ∀ a i : Nat, isn n a i → P a i) (S0 : fS) (hw : PW K ad P S0 L f0) (hn : S0.2.2.1 = n) (p1 : Int32) (p2 : Int32) (p3 : Int32) (v : Int32) (S1 : fS) (h : F_X7_worthOf p1 p2 p3 S0 = some (v, S1)) : Met l yX7_worthOf (.code yX7_worthOf cX7_worthOf 5 (some .int) :: gt) { frames := 75, cells := 0, slots := 0, locals := 2783 } (va_Pc [.ref (ad 40 0), .int p1, .int p2, .int p3] (hPre D K b0 sa sz L f0)) (hQ D K b0 (fun v9 u9 => ∃ f2 : Nat → va_E, v9 = some (.int v) ∧ u9 = lU L f2 ∧ PW K ad P S1 L f2 ∧ S1.2.2.1 = n ∧ Kp ad P L f0 f2)) 0 0 (fun q => b0 ≤ q) := by
  refine t_of (own := RX7) (by decide) rfl ?_ (Nat.le_of_ble_eq_true rfl)
  intro p e s m below meth c ls C w hsz hr hlk hnm hl
  have hx := C.1
  have hb := C.2.1
  have hl : lv_has ls 5 [(0, .ref (ad 40 0)), (1, .int p1), (2, .int p2), (3, .int p3)] := hl
  have J8 : ∀ (fu : Nat) (a1 : Int32) (a2 : Int32) (a3 : Int32) (a4 : Int32) (S : fS), lp (B_X7_worthOf_8 ) fu (a1, a2, a3, a4) S = some (v, S1) → Gw D K b0 sa ad P n L f0 p l e { frames := 75, cells := 0, slots := 0, locals := 2783 } s m [.ref (ad 40 0), .int p1, .int p2, .int p3].toArray below meth c 5 (MQ below (hQ D K b0 (fun v9 u9 => ∃ f2 : Nat → va_E, v9 = some (.int v) ∧ u9 = lU L f2 ∧ PW K ad P S1 L f2 ∧ S1.2.2.1 = n ∧ Kp ad P L f0 f2)) [.ref (ad 40 0), .int p1, .int p2, .int p3].toArray s 0 0 (fun q => b0 ≤ q)) 0 0 8 [(0, .ref (ad 40 0)), (1, .int a1), (2, .int a2), (3, .int a3), (4, .int a4)] [] S := by
    intro fu a1 a2 a3 a4 S h
    refine lp_some (G := (fun q S => Gw D K b0 sa ad P n L f0 p l e { frames := 75, cells := 0, slots := 0, locals := 2783 } s m [.ref (ad 40 0), .int p1, .int p2, .int p3].toArray below meth c 5 (MQ below (hQ D K b0 (fun v9 u9 => ∃ f2 : Nat → va_E, v9 = some (.int v) ∧ u9 = lU L f2 ∧ PW K ad P S1 L f2 ∧ S1.2.2.1 = n ∧ Kp ad P L f0 f2)) [.ref (ad 40 0), .int p1, .int p2, .int p3].toArray s 0 0 (fun q => b0 ≤ q)) 0 0 8 [(0, .ref (ad 40 0)), (1, .int q.1), (2, .int q.2.1), (3, .int q.2.2.1), (4, .int q.2.2.2)] [] S)) (fun k8 hk8 q S h => ?_) fu (a1, a2, a3, a4) S h
    obtain ⟨a1, a2, a3, a4⟩ := q
    have hk8 : ∀ (a1 : Int32) (a2 : Int32) (a3 : Int32) (a4 : Int32) (S : fS), k8 (a1, a2, a3, a4) S = some (v, S1) → Gw D K b0 sa ad P n L f0 p l e { frames := 75, cells := 0, slots := 0, locals := 2783 } s m [.ref (ad 40 0), .int p1, .int p2, .int p3].toArray below meth c 5 (MQ below (hQ D K b0 (fun v9 u9 => ∃ f2 : Nat → va_E, v9 = some (.int v) ∧ u9 = lU L f2 ∧ PW K ad P S1 L f2 ∧ S1.2.2.1 = n ∧ Kp ad P L f0 f2)) [.ref (ad 40 0), .int p1, .int p2, .int p3].toArray s 0 0 (fun q => b0 ≤ q)) 0 0 8 [(0, .ref (ad 40 0)), (1, .int a1), (2, .int a2), (3, .int a3), (4, .int a4)] [] S := fun a1 a2 a3 a4 S h => hk8 (a1, a2, a3, a4) S h
    dsimp only [B_X7_worthOf_8] at h
    intro f H locs w hw hn hk ls hl
    refine lv_iload hx hb dX7_worthOf_8 (lv_at hl 4 rfl) ?_
    refine lv_iload_n hx hb dX7_worthOf_10 rfl (lv_at hl 3 rfl) ?_
    refine lv_icmp_ge (tgt := 26) hx hb dX7_worthOf_11 (by decide) (fun c1 => ?_) (fun c1 => ?_)
    · have h := bb_t h c1
      refine lv_aload_n hx hb dX7_worthOf_26 rfl (lv_at hl 0 rfl) ?_
      refine lv_iload_n hx hb dX7_worthOf_27 rfl (lv_at hl 2 rfl) ?_
      refine lv_iconst (v := 0) hx hb dX7_worthOf_28 (by decide) ?_
      obtain ⟨v2, S3, h4, h⟩ := bd_some h
      refine u_callV (n := 2) C w hw (hP _ _ (isn_f rfl rfl (by decide))) rfl rfl rfl (c_X7_triesAt l D K b0 sa _ L _ ad P hP S hw hn a2 0 v2 S3 h4) gw_1557 gw_1554 gw_1556 gs_57 gw_8 ⟨by decide, by decide, by decide +kernel⟩ rfl rfl ⟨by decide, by decide⟩ rfl hl.1 rfl (Nat.le_of_ble_eq_true rfl) dX7_worthOf_29 ⟨Nat.le_of_ble_eq_true rfl, Nat.le_of_ble_eq_true rfl⟩ (fun v9 u H locs hp w => ?_)
      obtain ⟨f2, rfl, rfl, hw, hn, hk1⟩ := hp
      have hk := hk.tr hk1
      generalize f2 = f at w hw hk
      refine lv_aload_n hx hb dX7_worthOf_32 rfl (lv_at hl 0 rfl) ?_
      refine u_geti C w hw (hP _ _ (isn_f rfl rfl (by decide))) rfl (N := 57) rfl rfl cin_7 43 (by decide) rfl gw_1199 dX7_worthOf_33 ?_
      refine u_iv h (fun x5 h => ?_)
      refine lv_aload_n hx hb dX7_worthOf_36 rfl (lv_at hl 0 rfl) ?_
      refine u_geti C w hw (hP _ _ (isn_f rfl rfl (by decide))) rfl (N := 57) rfl rfl cin_7 32 (by decide) rfl gw_1188 dX7_worthOf_37 ?_
      refine u_iv h (fun x6 h => ?_)
      refine lv_isub hx hb dX7_worthOf_40 ?_
      refine u_iv h (fun x7 h => ?_)
      refine lv_istore (lv' := [(4, .int x7), (0, .ref (ad 40 0)), (1, .int a1), (2, .int a2), (3, .int a3)]) hx hb dX7_worthOf_41 hl (by decide) rfl (fun ls hl => ?_)
      refine lv_aload_n hx hb dX7_worthOf_43 rfl (lv_at hl 1 rfl) ?_
      refine lv_iconst (v := 3) hx hb dX7_worthOf_44 (by decide) ?_
      obtain ⟨v8, S9, h10, h⟩ := bd_some h
      refine u_callV (n := 1) C w hw (hP _ _ (isn_f rfl rfl (by decide))) rfl rfl rfl (c_X7_laysBack l D K b0 sa _ L _ ad P hP S3 hw hn 3 v8 S9 h10) gw_1641 gw_1638 gw_1640 gs_65 gw_8 ⟨by decide, by decide, by decide +kernel⟩ rfl rfl ⟨by decide, by decide⟩ rfl hl.1 rfl (Nat.le_of_ble_eq_true rfl) dX7_worthOf_45 ⟨Nat.le_of_ble_eq_true rfl, Nat.le_of_ble_eq_true rfl⟩ (fun v9 u H locs hp w => ?_)
      obtain ⟨f2, rfl, rfl, hw, hn, hk1⟩ := hp
      have hk := hk.tr hk1
      generalize f2 = f at w hw hk
      refine lv_iload hx hb dX7_worthOf_48 (lv_at hl 0 rfl) ?_
      exact t_iret C hr hlk w ⟨_, so_v h, rfl, so_w h hw, so_n h hn, hk⟩ (by decide) (by decide) dX7_worthOf_50
    · have h := bb_f h c1
      refine lv_aload_n hx hb dX7_worthOf_14 rfl (lv_at hl 0 rfl) ?_
      refine lv_iload_n hx hb dX7_worthOf_15 rfl (lv_at hl 1 rfl) ?_
      refine lv_iconst (v := 0) hx hb dX7_worthOf_16 (by decide) ?_
      obtain ⟨v11, S12, h13, h⟩ := bd_some h
      refine u_callV (n := 2) C w hw (hP _ _ (isn_f rfl rfl (by decide))) rfl rfl rfl (c_X7_triesAt l D K b0 sa _ L _ ad P hP S hw hn a1 0 v11 S12 h13) gw_1557 gw_1554 gw_1556 gs_57 gw_8 ⟨by decide, by decide, by decide +kernel⟩ rfl rfl ⟨by decide, by decide⟩ rfl hl.1 rfl (Nat.le_of_ble_eq_true rfl) dX7_worthOf_17 ⟨Nat.le_of_ble_eq_true rfl, Nat.le_of_ble_eq_true rfl⟩ (fun v9 u H locs hp w => ?_)
      obtain ⟨f2, rfl, rfl, hw, hn, hk1⟩ := hp
      have hk := hk.tr hk1
      generalize f2 = f at w hw hk
      obtain ⟨x14, ex14, h⟩ := iv_some h
      refine lv_iinc (v := x14) (lv' := [(4, .int x14), (0, .ref (ad 40 0)), (1, .int a1), (2, .int a2), (3, .int a3)]) hx hb dX7_worthOf_20 hl (k := 4) rfl ex14.symm (by decide) rfl (fun ls hl => ?_)
      refine lv_goto (tgt := 8) hx hb dX7_worthOf_23 (by decide) ?_
      exact hk8 a1 a2 a3 x14 S12 h f H locs w hw hn hk ls (lv_sub hl [1, 2, 3, 4, 0] rfl)
  dsimp only [F_X7_worthOf] at h
  obtain ⟨f, ef⟩ : ∃ z, z = f0 := ⟨_, rfl⟩
  rw [← ef] at w hw
  have hk : Kp ad P L f0 f := by rw [ef]; exact Kp.rf
  obtain ⟨H, eH⟩ : ∃ z, z = s.heap := ⟨_, rfl⟩
  obtain ⟨locs, el⟩ : ∃ z : List Loc, z = [] := ⟨_, rfl⟩
  rw [← eH, ← el] at w ⊢
  refine lv_aload_n hx hb dX7_worthOf_0 rfl (lv_at hl 0 rfl) ?_
  refine lv_iconst (v := 3) hx hb dX7_worthOf_1 (by decide) ?_
  obtain ⟨v15, S16, h17, h⟩ := bd_some h
  refine u_callV (n := 1) C w hw (hP _ _ (isn_f rfl rfl (by decide))) rfl rfl rfl (c_X7_lays l D K b0 sa _ L _ ad P hP S0 hw hn 3 v15 S16 h17) gw_1637 gw_1634 gw_1636 gs_64 gw_8 ⟨by decide, by decide, by decide +kernel⟩ rfl rfl ⟨by decide, by decide⟩ rfl hl.1 rfl (Nat.le_of_ble_eq_true rfl) dX7_worthOf_2 ⟨Nat.le_of_ble_eq_true rfl, Nat.le_of_ble_eq_true rfl⟩ (fun v9 u H locs hp w => ?_)
  obtain ⟨f2, rfl, rfl, hw, hn, hk1⟩ := hp
  have hk := hk.tr hk1
  generalize f2 = f at w hw hk
  refine lv_iconst (v := 1) hx hb dX7_worthOf_5 (by decide) ?_
  refine lv_istore (lv' := [(4, .int 1), (0, .ref (ad 40 0)), (1, .int p1), (2, .int p2), (3, .int p3)]) hx hb dX7_worthOf_6 hl (by decide) rfl (fun ls hl => ?_)
  exact J8  fuel p1 p2 p3 1 S16 h f H locs w hw hn hk ls (lv_sub hl [1, 2, 3, 4, 0] rfl)
theorem dX7_worth_0 : decode cX7_worth 0 = .ok (.aload_n 0, 1) := by decide +kernel
theorem dX7_worth_1 : decode cX7_worth 1 = .ok (.iconst 0, 1) := by decide +kernel
theorem dX7_worth_2 : decode cX7_worth 2 = .ok (.putfield 97, 3) := by decide +kernel
theorem dX7_worth_5 : decode cX7_worth 5 = .ok (.aload_n 0, 1) := by decide +kernel
theorem dX7_worth_6 : decode cX7_worth 6 = .ok (.iload_n 1, 1) := by decide +kernel
theorem dX7_worth_7 : decode cX7_worth 7 = .ok (.invokestatic 253, 3) := by decide +kernel
theorem dX7_worth_10 : decode cX7_worth 10 = .ok (.ifCond .eq 10, 3) := by decide +kernel
theorem dX7_worth_13 : decode cX7_worth 13 = .ok (.iload_n 2, 1) := by decide +kernel
theorem dX7_worth_14 : decode cX7_worth 14 = .ok (.invokestatic 253, 3) := by decide +kernel
theorem dX7_worth_17 : decode cX7_worth 17 = .ok (.ifCond .ne 7, 3) := by decide +kernel
theorem dX7_worth_20 : decode cX7_worth 20 = .ok (.iconst 1, 1) := by decide +kernel
theorem dX7_worth_21 : decode cX7_worth 21 = .ok (.goto 4, 3) := by decide +kernel
theorem dX7_worth_24 : decode cX7_worth 24 = .ok (.iconst 0, 1) := by decide +kernel
theorem dX7_worth_25 : decode cX7_worth 25 = .ok (.iconst 1, 1) := by decide +kernel
theorem dX7_worth_26 : decode cX7_worth 26 = .ok (.invokevirtual 206, 3) := by decide +kernel
theorem dX7_worth_29 : decode cX7_worth 29 = .ok (.ifCond .ne 26, 3) := by decide +kernel
theorem dX7_worth_32 : decode cX7_worth 32 = .ok (.aload_n 0, 1) := by decide +kernel
theorem dX7_worth_33 : decode cX7_worth 33 = .ok (.iload_n 3, 1) := by decide +kernel
theorem dX7_worth_34 : decode cX7_worth 34 = .ok (.iconst 1, 1) := by decide +kernel
theorem dX7_worth_35 : decode cX7_worth 35 = .ok (.bipush 20, 2) := by decide +kernel
theorem dX7_worth_37 : decode cX7_worth 37 = .ok (.invokestatic 100, 3) := by decide +kernel
theorem dX7_worth_40 : decode cX7_worth 40 = .ok (.ifCond .ne 7, 3) := by decide +kernel
theorem dX7_worth_43 : decode cX7_worth 43 = .ok (.iconst 1, 1) := by decide +kernel
theorem dX7_worth_44 : decode cX7_worth 44 = .ok (.goto 4, 3) := by decide +kernel
theorem dX7_worth_47 : decode cX7_worth 47 = .ok (.iconst 0, 1) := by decide +kernel
theorem dX7_worth_48 : decode cX7_worth 48 = .ok (.iconst 2, 1) := by decide +kernel
theorem dX7_worth_49 : decode cX7_worth 49 = .ok (.invokevirtual 206, 3) := by decide +kernel
theorem dX7_worth_52 : decode cX7_worth 52 = .ok (.ifCond .eq 5, 3) := by decide +kernel
theorem dX7_worth_55 : decode cX7_worth 55 = .ok (.iconst 0, 1) := by decide +kernel
theorem dX7_worth_56 : decode cX7_worth 56 = .ok (.ireturn, 1) := by decide +kernel
theorem dX7_worth_57 : decode cX7_worth 57 = .ok (.aload_n 0, 1) := by decide +kernel
theorem dX7_worth_58 : decode cX7_worth 58 = .ok (.iload_n 1, 1) := by decide +kernel
theorem dX7_worth_59 : decode cX7_worth 59 = .ok (.iload_n 2, 1) := by decide +kernel
theorem dX7_worth_60 : decode cX7_worth 60 = .ok (.iload_n 3, 1) := by decide +kernel
theorem dX7_worth_61 : decode cX7_worth 61 = .ok (.invokevirtual 358, 3) := by decide +kernel
theorem dX7_worth_64 : decode cX7_worth 64 = .ok (.ireturn, 1) := by decide +kernel
noncomputable def B_X7_worth_48 (a1 : Int32) (a2 : Int32) (a3 : Int32) (t0 : Int32) (S : fS) : Option (Int32 × fS) := bd (F_X7_bad t0 2 S) (fun v1 S2 => bb (v1 = (0 : Int32)) (bd (F_X7_worthOf a1 a2 a3 S2) (fun v5 S6 => some (v5, S6))) (some (0, S2)))
noncomputable def B_X7_worth_25 (a1 : Int32) (a2 : Int32) (a3 : Int32) (t0 : Int32) (S : fS) : Option (Int32 × fS) := bd (F_X7_bad t0 1 S) (fun v8 S9 => bb (v8 = (0 : Int32)) (bd (F_X7_in a3 1 20 S9) (fun v12 S13 => bb (v12 = (0 : Int32)) (B_X7_worth_48  a1 a2 a3 1 S13) (B_X7_worth_48  a1 a2 a3 0 S13))) (some (0, S9)))
noncomputable def B_X7_worth_20 (a1 : Int32) (a2 : Int32) (a3 : Int32) (S : fS) : Option (Int32 × fS) := B_X7_worth_25  a1 a2 a3 1 S
noncomputable def F_X7_worth (p1 : Int32) (p2 : Int32) (p3 : Int32) (S0 : fS) : Option (Int32 × fS) := sv (pu S0 40 0 0 0) (fun S16 => bd (F_X7_isCell p1 S16) (fun v17 S18 => bb (v17 = (0 : Int32)) (B_X7_worth_20  p1 p2 p3 S18) (bd (F_X7_isCell p2 S18) (fun v21 S22 => bb (v21 = (0 : Int32)) (B_X7_worth_20  p1 p2 p3 S22) (B_X7_worth_25  p1 p2 p3 0 S22)))))
set_option maxHeartbeats 4000000 in
set_option maxRecDepth 100000 in
theorem c_X7_worth (l : Launch) (D : va_G) (K : Nat → ClassId) (b0 : Nat) (sa : sT) (sz : Nat) (L : List Nat) (f0 : Nat → va_E) (ad : Nat → Nat → Nat) (P : Nat → Nat → Prop) {n : Nat × Nat} (hP : ∀ a i : Nat, isn n a i → P a i) (S0 : fS) (hw : PW K ad P S0 L f0) (hn : S0.2.2.1 = n) (p1 : Int32) (p2 : Int32) (p3 : Int32) (v : Int32) (S1 : fS) (h : F_X7_worth p1 p2 p3 S0 = some (v, S1)) : Met l yX7_worth (.code yX7_worth cX7_worth 4 (some .int) :: gt) { frames := 76, cells := 0, slots := 0, locals := 2807 } (va_Pc [.ref (ad 40 0), .int p1, .int p2, .int p3] (hPre D K b0 sa sz L f0)) (hQ D K b0 (fun v9 u9 => ∃ f2 : Nat → va_E, v9 = some (.int v) ∧ u9 = lU L f2 ∧ PW K ad P S1 L f2 ∧ S1.2.2.1 = n ∧ Kp ad P L f0 f2)) 0 0 (fun q => b0 ≤ q) := by
  refine t_of (own := RX7) (by decide) rfl ?_ (Nat.le_of_ble_eq_true rfl)
  intro p e s m below meth c ls C w hsz hr hlk hnm hl
  have hx := C.1
  have hb := C.2.1
  have hl : lv_has ls 4 [(0, .ref (ad 40 0)), (1, .int p1), (2, .int p2), (3, .int p3)] := hl
  have J48 : ∀ (a1 : Int32) (a2 : Int32) (a3 : Int32) (t0 : Int32) (S : fS), B_X7_worth_48  a1 a2 a3 t0 S = some (v, S1) → Gw D K b0 sa ad P n L f0 p l e { frames := 76, cells := 0, slots := 0, locals := 2807 } s m [.ref (ad 40 0), .int p1, .int p2, .int p3].toArray below meth c 4 (MQ below (hQ D K b0 (fun v9 u9 => ∃ f2 : Nat → va_E, v9 = some (.int v) ∧ u9 = lU L f2 ∧ PW K ad P S1 L f2 ∧ S1.2.2.1 = n ∧ Kp ad P L f0 f2)) [.ref (ad 40 0), .int p1, .int p2, .int p3].toArray s 0 0 (fun q => b0 ≤ q)) 0 0 48 [(0, .ref (ad 40 0)), (1, .int a1), (2, .int a2), (3, .int a3)] [.int t0, .ref (ad 40 0)] S := by
    intro a1 a2 a3 t0 S h
    dsimp only [B_X7_worth_48] at h
    intro f H locs w hw hn hk ls hl
    refine lv_iconst (v := 2) hx hb dX7_worth_48 (by decide) ?_
    obtain ⟨v1, S2, h3, h⟩ := bd_some h
    refine u_callV (n := 2) C w hw (hP _ _ (isn_f rfl rfl (by decide))) rfl rfl rfl (c_X7_bad l D K b0 sa _ L _ ad P hP S hw hn t0 2 v1 S2 h3) gw_1347 gw_1344 gw_1346 gs_22 gw_8 ⟨by decide, by decide, by decide +kernel⟩ rfl rfl ⟨by decide, by decide⟩ rfl hl.1 rfl (Nat.le_of_ble_eq_true rfl) dX7_worth_49 ⟨Nat.le_of_ble_eq_true rfl, Nat.le_of_ble_eq_true rfl⟩ (fun v9 u H locs hp w => ?_)
    obtain ⟨f2, rfl, rfl, hw, hn, hk1⟩ := hp
    have hk := hk.tr hk1
    generalize f2 = f at w hw hk
    refine lv_if_eq (tgt := 57) hx hb dX7_worth_52 (by decide) (fun c4 => ?_) (fun c4 => ?_)
    · have h := bb_t h c4
      refine lv_aload_n hx hb dX7_worth_57 rfl (lv_at hl 0 rfl) ?_
      refine lv_iload_n hx hb dX7_worth_58 rfl (lv_at hl 1 rfl) ?_
      refine lv_iload_n hx hb dX7_worth_59 rfl (lv_at hl 2 rfl) ?_
      refine lv_iload_n hx hb dX7_worth_60 rfl (lv_at hl 3 rfl) ?_
      obtain ⟨v5, S6, h7, h⟩ := bd_some h
      refine u_callV (n := 3) C w hw (hP _ _ (isn_f rfl rfl (by decide))) rfl rfl rfl (c_X7_worthOf l D K b0 sa _ L _ ad P hP S2 hw hn a1 a2 a3 v5 S6 h7) gw_1633 gw_1630 gw_1632 gs_63 gw_8 ⟨by decide, by decide, by decide +kernel⟩ rfl rfl ⟨by decide, by decide⟩ rfl hl.1 rfl (Nat.le_of_ble_eq_true rfl) dX7_worth_61 ⟨Nat.le_of_ble_eq_true rfl, Nat.le_of_ble_eq_true rfl⟩ (fun v9 u H locs hp w => ?_)
      obtain ⟨f2, rfl, rfl, hw, hn, hk1⟩ := hp
      have hk := hk.tr hk1
      generalize f2 = f at w hw hk
      exact t_iret C hr hlk w ⟨_, so_v h, rfl, so_w h hw, so_n h hn, hk⟩ (by decide) (by decide) dX7_worth_64
    · have h := bb_f h c4
      refine lv_iconst (v := 0) hx hb dX7_worth_55 (by decide) ?_
      exact t_iret C hr hlk w ⟨_, so_v h, rfl, so_w h hw, so_n h hn, hk⟩ (by decide) (by decide) dX7_worth_56
  have J25 : ∀ (a1 : Int32) (a2 : Int32) (a3 : Int32) (t0 : Int32) (S : fS), B_X7_worth_25  a1 a2 a3 t0 S = some (v, S1) → Gw D K b0 sa ad P n L f0 p l e { frames := 76, cells := 0, slots := 0, locals := 2807 } s m [.ref (ad 40 0), .int p1, .int p2, .int p3].toArray below meth c 4 (MQ below (hQ D K b0 (fun v9 u9 => ∃ f2 : Nat → va_E, v9 = some (.int v) ∧ u9 = lU L f2 ∧ PW K ad P S1 L f2 ∧ S1.2.2.1 = n ∧ Kp ad P L f0 f2)) [.ref (ad 40 0), .int p1, .int p2, .int p3].toArray s 0 0 (fun q => b0 ≤ q)) 0 0 25 [(0, .ref (ad 40 0)), (1, .int a1), (2, .int a2), (3, .int a3)] [.int t0, .ref (ad 40 0)] S := by
    intro a1 a2 a3 t0 S h
    dsimp only [B_X7_worth_25] at h
    intro f H locs w hw hn hk ls hl
    refine lv_iconst (v := 1) hx hb dX7_worth_25 (by decide) ?_
    obtain ⟨v8, S9, h10, h⟩ := bd_some h
    refine u_callV (n := 2) C w hw (hP _ _ (isn_f rfl rfl (by decide))) rfl rfl rfl (c_X7_bad l D K b0 sa _ L _ ad P hP S hw hn t0 1 v8 S9 h10) gw_1347 gw_1344 gw_1346 gs_22 gw_8 ⟨by decide, by decide, by decide +kernel⟩ rfl rfl ⟨by decide, by decide⟩ rfl hl.1 rfl (Nat.le_of_ble_eq_true rfl) dX7_worth_26 ⟨Nat.le_of_ble_eq_true rfl, Nat.le_of_ble_eq_true rfl⟩ (fun v9 u H locs hp w => ?_)
    obtain ⟨f2, rfl, rfl, hw, hn, hk1⟩ := hp
    have hk := hk.tr hk1
    generalize f2 = f at w hw hk
    refine lv_if_ne (tgt := 55) hx hb dX7_worth_29 (by decide) (fun c11 => ?_) (fun c11 => ?_)
    · have h := bb_f h c11
      refine lv_iconst (v := 0) hx hb dX7_worth_55 (by decide) ?_
      exact t_iret C hr hlk w ⟨_, so_v h, rfl, so_w h hw, so_n h hn, hk⟩ (by decide) (by decide) dX7_worth_56
    · have h := bb_t h c11
      refine lv_aload_n hx hb dX7_worth_32 rfl (lv_at hl 0 rfl) ?_
      refine lv_iload_n hx hb dX7_worth_33 rfl (lv_at hl 3 rfl) ?_
      refine lv_iconst (v := 1) hx hb dX7_worth_34 (by decide) ?_
      refine lv_bipush (v := 20) hx hb dX7_worth_35 (by decide) ?_
      obtain ⟨v12, S13, h14, h⟩ := bd_some h
      refine t_callS (n := 3) C w (c_X7_in l D K b0 sa _ L _ ad P hP S9 hw hn a3 1 20 v12 S13 h14) gw_1343 gw_1341 gw_1342 gw_8 ⟨by decide, by decide, by decide +kernel⟩ rfl rfl ⟨by decide, by decide⟩ rfl hl.1 rfl (Nat.le_of_ble_eq_true rfl) dX7_worth_37 ⟨Nat.le_of_ble_eq_true rfl, Nat.le_of_ble_eq_true rfl⟩ (fun v9 u H locs hp w => ?_)
      obtain ⟨f2, rfl, rfl, hw, hn, hk1⟩ := hp
      have hk := hk.tr hk1
      generalize f2 = f at w hw hk
      refine lv_if_ne (tgt := 47) hx hb dX7_worth_40 (by decide) (fun c15 => ?_) (fun c15 => ?_)
      · have h := bb_f h c15
        refine lv_iconst (v := 0) hx hb dX7_worth_47 (by decide) ?_
        exact J48  a1 a2 a3 0 S13 h f H locs w hw hn hk ls (lv_sub hl [0, 1, 2, 3] rfl)
      · have h := bb_t h c15
        refine lv_iconst (v := 1) hx hb dX7_worth_43 (by decide) ?_
        refine lv_goto (tgt := 48) hx hb dX7_worth_44 (by decide) ?_
        exact J48  a1 a2 a3 1 S13 h f H locs w hw hn hk ls (lv_sub hl [0, 1, 2, 3] rfl)
  have J20 : ∀ (a1 : Int32) (a2 : Int32) (a3 : Int32) (S : fS), B_X7_worth_20  a1 a2 a3 S = some (v, S1) → Gw D K b0 sa ad P n L f0 p l e { frames := 76, cells := 0, slots := 0, locals := 2807 } s m [.ref (ad 40 0), .int p1, .int p2, .int p3].toArray below meth c 4 (MQ below (hQ D K b0 (fun v9 u9 => ∃ f2 : Nat → va_E, v9 = some (.int v) ∧ u9 = lU L f2 ∧ PW K ad P S1 L f2 ∧ S1.2.2.1 = n ∧ Kp ad P L f0 f2)) [.ref (ad 40 0), .int p1, .int p2, .int p3].toArray s 0 0 (fun q => b0 ≤ q)) 0 0 20 [(0, .ref (ad 40 0)), (1, .int a1), (2, .int a2), (3, .int a3)] [.ref (ad 40 0)] S := by
    intro a1 a2 a3 S h
    dsimp only [B_X7_worth_20] at h
    intro f H locs w hw hn hk ls hl
    refine lv_iconst (v := 1) hx hb dX7_worth_20 (by decide) ?_
    refine lv_goto (tgt := 25) hx hb dX7_worth_21 (by decide) ?_
    exact J25  a1 a2 a3 1 S h f H locs w hw hn hk ls (lv_sub hl [0, 1, 2, 3] rfl)
  dsimp only [F_X7_worth] at h
  obtain ⟨f, ef⟩ : ∃ z, z = f0 := ⟨_, rfl⟩
  rw [← ef] at w hw
  have hk : Kp ad P L f0 f := by rw [ef]; exact Kp.rf
  obtain ⟨H, eH⟩ : ∃ z, z = s.heap := ⟨_, rfl⟩
  obtain ⟨locs, el⟩ : ∃ z : List Loc, z = [] := ⟨_, rfl⟩
  rw [← eH, ← el] at w ⊢
  refine lv_aload_n hx hb dX7_worth_0 rfl (lv_at hl 0 rfl) ?_
  refine lv_iconst (v := 0) hx hb dX7_worth_1 (by decide) ?_
  refine u_puti C w hw (hP _ _ (isn_f rfl rfl (by decide))) rfl (N := 57) rfl rfl cin_7 tyX7 tyX7_ok nmX7 0 (by decide) rfl rfl rfl rfl gw_1156 dX7_worth_2 (fun f H locs w hw hk1 => ?_)
  have hk := hk.tr hk1
  refine u_sv h hw hn (fun S16 h hw hn => ?_)
  refine lv_aload_n hx hb dX7_worth_5 rfl (lv_at hl 0 rfl) ?_
  refine lv_iload_n hx hb dX7_worth_6 rfl (lv_at hl 1 rfl) ?_
  obtain ⟨v17, S18, h19, h⟩ := bd_some h
  refine t_callS (n := 1) C w (c_X7_isCell l D K b0 sa _ L _ ad P hP S16 hw hn p1 v17 S18 h19) gw_1467 gw_1465 gw_1466 gw_8 ⟨by decide, by decide, by decide +kernel⟩ rfl rfl ⟨by decide, by decide⟩ rfl hl.1 rfl (Nat.le_of_ble_eq_true rfl) dX7_worth_7 ⟨Nat.le_of_ble_eq_true rfl, Nat.le_of_ble_eq_true rfl⟩ (fun v9 u H locs hp w => ?_)
  obtain ⟨f2, rfl, rfl, hw, hn, hk1⟩ := hp
  have hk := hk.tr hk1
  generalize f2 = f at w hw hk
  refine lv_if_eq (tgt := 20) hx hb dX7_worth_10 (by decide) (fun c20 => ?_) (fun c20 => ?_)
  · have h := bb_t h c20
    exact J20  p1 p2 p3 S18 h f H locs w hw hn hk ls (lv_sub hl [0, 1, 2, 3] rfl)
  · have h := bb_f h c20
    refine lv_iload_n hx hb dX7_worth_13 rfl (lv_at hl 2 rfl) ?_
    obtain ⟨v21, S22, h23, h⟩ := bd_some h
    refine t_callS (n := 1) C w (c_X7_isCell l D K b0 sa _ L _ ad P hP S18 hw hn p2 v21 S22 h23) gw_1467 gw_1465 gw_1466 gw_8 ⟨by decide, by decide, by decide +kernel⟩ rfl rfl ⟨by decide, by decide⟩ rfl hl.1 rfl (Nat.le_of_ble_eq_true rfl) dX7_worth_14 ⟨Nat.le_of_ble_eq_true rfl, Nat.le_of_ble_eq_true rfl⟩ (fun v9 u H locs hp w => ?_)
    obtain ⟨f2, rfl, rfl, hw, hn, hk1⟩ := hp
    have hk := hk.tr hk1
    generalize f2 = f at w hw hk
    refine lv_if_ne (tgt := 24) hx hb dX7_worth_17 (by decide) (fun c24 => ?_) (fun c24 => ?_)
    · have h := bb_f h c24
      refine lv_iconst (v := 0) hx hb dX7_worth_24 (by decide) ?_
      exact J25  p1 p2 p3 0 S22 h f H locs w hw hn hk ls (lv_sub hl [0, 1, 2, 3] rfl)
    · have h := bb_t h c24
      exact J20  p1 p2 p3 S22 h f H locs w hw hn hk ls (lv_sub hl [0, 1, 2, 3] rfl)
theorem dX7_bide_0 : decode cX7_bide 0 = .ok (.aload_n 0, 1) := by decide +kernel
theorem dX7_bide_1 : decode cX7_bide 1 = .ok (.iconst 0, 1) := by decide +kernel
theorem dX7_bide_2 : decode cX7_bide 2 = .ok (.putfield 97, 3) := by decide +kernel
theorem dX7_bide_5 : decode cX7_bide 5 = .ok (.aload_n 0, 1) := by decide +kernel
theorem dX7_bide_6 : decode cX7_bide 6 = .ok (.iload_n 1, 1) := by decide +kernel
theorem dX7_bide_7 : decode cX7_bide 7 = .ok (.invokestatic 253, 3) := by decide +kernel
theorem dX7_bide_10 : decode cX7_bide 10 = .ok (.ifCond .eq 10, 3) := by decide +kernel
theorem dX7_bide_13 : decode cX7_bide 13 = .ok (.iload_n 2, 1) := by decide +kernel
theorem dX7_bide_14 : decode cX7_bide 14 = .ok (.invokestatic 253, 3) := by decide +kernel
theorem dX7_bide_17 : decode cX7_bide 17 = .ok (.ifCond .ne 7, 3) := by decide +kernel
theorem dX7_bide_20 : decode cX7_bide 20 = .ok (.iconst 1, 1) := by decide +kernel
theorem dX7_bide_21 : decode cX7_bide 21 = .ok (.goto 4, 3) := by decide +kernel
theorem dX7_bide_24 : decode cX7_bide 24 = .ok (.iconst 0, 1) := by decide +kernel
theorem dX7_bide_25 : decode cX7_bide 25 = .ok (.iconst 1, 1) := by decide +kernel
theorem dX7_bide_26 : decode cX7_bide 26 = .ok (.invokevirtual 206, 3) := by decide +kernel
theorem dX7_bide_29 : decode cX7_bide 29 = .ok (.ifCond .eq 5, 3) := by decide +kernel
theorem dX7_bide_32 : decode cX7_bide 32 = .ok (.iconst 0, 1) := by decide +kernel
theorem dX7_bide_33 : decode cX7_bide 33 = .ok (.ireturn, 1) := by decide +kernel
theorem dX7_bide_34 : decode cX7_bide 34 = .ok (.iconst 1, 1) := by decide +kernel
theorem dX7_bide_35 : decode cX7_bide 35 = .ok (.istore_n 3, 1) := by decide +kernel
theorem dX7_bide_36 : decode cX7_bide 36 = .ok (.aload_n 0, 1) := by decide +kernel
theorem dX7_bide_37 : decode cX7_bide 37 = .ok (.iload_n 1, 1) := by decide +kernel
theorem dX7_bide_38 : decode cX7_bide 38 = .ok (.iload_n 2, 1) := by decide +kernel
theorem dX7_bide_39 : decode cX7_bide 39 = .ok (.iconst 1, 1) := by decide +kernel
theorem dX7_bide_40 : decode cX7_bide 40 = .ok (.invokevirtual 358, 3) := by decide +kernel
theorem dX7_bide_43 : decode cX7_bide 43 = .ok (.istore 4, 2) := by decide +kernel
theorem dX7_bide_45 : decode cX7_bide 45 = .ok (.iconst 2, 1) := by decide +kernel
theorem dX7_bide_46 : decode cX7_bide 46 = .ok (.istore 5, 2) := by decide +kernel
theorem dX7_bide_48 : decode cX7_bide 48 = .ok (.iload 5, 2) := by decide +kernel
theorem dX7_bide_50 : decode cX7_bide 50 = .ok (.bipush 20, 2) := by decide +kernel
theorem dX7_bide_52 : decode cX7_bide 52 = .ok (.if_icmp .gt 49, 3) := by decide +kernel
theorem dX7_bide_55 : decode cX7_bide 55 = .ok (.aload_n 0, 1) := by decide +kernel
theorem dX7_bide_56 : decode cX7_bide 56 = .ok (.iload_n 1, 1) := by decide +kernel
theorem dX7_bide_57 : decode cX7_bide 57 = .ok (.iload_n 2, 1) := by decide +kernel
theorem dX7_bide_58 : decode cX7_bide 58 = .ok (.iload 5, 2) := by decide +kernel
theorem dX7_bide_60 : decode cX7_bide 60 = .ok (.invokevirtual 358, 3) := by decide +kernel
theorem dX7_bide_63 : decode cX7_bide 63 = .ok (.istore 6, 2) := by decide +kernel
theorem dX7_bide_65 : decode cX7_bide 65 = .ok (.iload 6, 2) := by decide +kernel
theorem dX7_bide_67 : decode cX7_bide 67 = .ok (.iload 4, 2) := by decide +kernel
theorem dX7_bide_69 : decode cX7_bide 69 = .ok (.if_icmp .le 8, 3) := by decide +kernel
theorem dX7_bide_72 : decode cX7_bide 72 = .ok (.iload 5, 2) := by decide +kernel
theorem dX7_bide_74 : decode cX7_bide 74 = .ok (.goto 4, 3) := by decide +kernel
theorem dX7_bide_77 : decode cX7_bide 77 = .ok (.iload_n 3, 1) := by decide +kernel
theorem dX7_bide_78 : decode cX7_bide 78 = .ok (.istore_n 3, 1) := by decide +kernel
theorem dX7_bide_79 : decode cX7_bide 79 = .ok (.iload 6, 2) := by decide +kernel
theorem dX7_bide_81 : decode cX7_bide 81 = .ok (.iload 4, 2) := by decide +kernel
theorem dX7_bide_83 : decode cX7_bide 83 = .ok (.if_icmp .le 8, 3) := by decide +kernel
theorem dX7_bide_86 : decode cX7_bide 86 = .ok (.iload 6, 2) := by decide +kernel
theorem dX7_bide_88 : decode cX7_bide 88 = .ok (.goto 5, 3) := by decide +kernel
theorem dX7_bide_91 : decode cX7_bide 91 = .ok (.iload 4, 2) := by decide +kernel
theorem dX7_bide_93 : decode cX7_bide 93 = .ok (.istore 4, 2) := by decide +kernel
theorem dX7_bide_95 : decode cX7_bide 95 = .ok (.iinc 5 1, 3) := by decide +kernel
theorem dX7_bide_98 : decode cX7_bide 98 = .ok (.goto (-50), 3) := by decide +kernel
theorem dX7_bide_101 : decode cX7_bide 101 = .ok (.iload_n 3, 1) := by decide +kernel
theorem dX7_bide_102 : decode cX7_bide 102 = .ok (.ireturn, 1) := by decide +kernel
noncomputable def B_X7_bide_93 (k48 : (Int32 × Int32 × Int32 × Int32 × Int32) → fS → Option (Int32 × fS)) (a1 : Int32) (a2 : Int32) (a3 : Int32) (a5 : Int32) (t0 : Int32) (S : fS) : Option (Int32 × fS) := iv (a5 + Int32.ofInt 1) (fun x1 => k48 (a1, a2, a3, t0, x1) S)
noncomputable def B_X7_bide_78 (k48 : (Int32 × Int32 × Int32 × Int32 × Int32) → fS → Option (Int32 × fS)) (a1 : Int32) (a2 : Int32) (a4 : Int32) (a5 : Int32) (a6 : Int32) (t0 : Int32) (S : fS) : Option (Int32 × fS) := bb (a6 ≤ a4) (B_X7_bide_93 k48 a1 a2 t0 a5 a4 S) (B_X7_bide_93 k48 a1 a2 t0 a5 a6 S)
noncomputable def B_X7_bide_48 (k48 : (Int32 × Int32 × Int32 × Int32 × Int32) → fS → Option (Int32 × fS)) : (Int32 × Int32 × Int32 × Int32 × Int32) → fS → Option (Int32 × fS) := fun ⟨a1, a2, a3, a4, a5⟩ S => bb ((20 : Int32) < a5) (some (a3, S)) (bd (F_X7_worthOf a1 a2 a5 S) (fun v4 S5 => bb (v4 ≤ a4) (B_X7_bide_78 k48 a1 a2 a4 a5 v4 a3 S5) (B_X7_bide_78 k48 a1 a2 a4 a5 v4 a5 S5)))
noncomputable def B_X7_bide_25 (a1 : Int32) (a2 : Int32) (t0 : Int32) (S : fS) : Option (Int32 × fS) := bd (F_X7_bad t0 1 S) (fun v8 S9 => bb (v8 = (0 : Int32)) (bd (F_X7_worthOf a1 a2 1 S9) (fun v12 S13 => lp (B_X7_bide_48 ) fuel (a1, a2, 1, v12, 2) S13)) (some (0, S9)))
noncomputable def B_X7_bide_20 (a1 : Int32) (a2 : Int32) (S : fS) : Option (Int32 × fS) := B_X7_bide_25  a1 a2 1 S
noncomputable def F_X7_bide (p1 : Int32) (p2 : Int32) (S0 : fS) : Option (Int32 × fS) := sv (pu S0 40 0 0 0) (fun S15 => bd (F_X7_isCell p1 S15) (fun v16 S17 => bb (v16 = (0 : Int32)) (B_X7_bide_20  p1 p2 S17) (bd (F_X7_isCell p2 S17) (fun v20 S21 => bb (v20 = (0 : Int32)) (B_X7_bide_20  p1 p2 S21) (B_X7_bide_25  p1 p2 0 S21)))))
set_option maxHeartbeats 4000000 in
set_option maxRecDepth 100000 in
theorem c_X7_bide (l : Launch) (D : va_G) (K : Nat → ClassId) (b0 : Nat) (sa : sT) (sz : Nat) (L : List Nat) (f0 : Nat → va_E) (ad : Nat → Nat → Nat) (P : Nat → Nat → Prop) {n : Nat × Nat} (hP : ∀ a i : Nat, isn n a i → P a i) (S0 : fS) (hw : PW K ad P S0 L f0) (hn : S0.2.2.1 = n) (p1 : Int32) (p2 : Int32) (v : Int32) (S1 : fS) (h : F_X7_bide p1 p2 S0 = some (v, S1)) : Met l yX7_bide (.code yX7_bide cX7_bide 7 (some .int) :: gt) { frames := 76, cells := 0, slots := 0, locals := 2807 } (va_Pc [.ref (ad 40 0), .int p1, .int p2] (hPre D K b0 sa sz L f0)) (hQ D K b0 (fun v9 u9 => ∃ f2 : Nat → va_E, v9 = some (.int v) ∧ u9 = lU L f2 ∧ PW K ad P S1 L f2 ∧ S1.2.2.1 = n ∧ Kp ad P L f0 f2)) 0 0 (fun q => b0 ≤ q) := by
  refine t_of (own := RX7) (by decide) rfl ?_ (Nat.le_of_ble_eq_true rfl)
  intro p e s m below meth c ls C w hsz hr hlk hnm hl
  have hx := C.1
  have hb := C.2.1
  have hl : lv_has ls 7 [(0, .ref (ad 40 0)), (1, .int p1), (2, .int p2)] := hl
  have J93 : ∀ (k48 : (Int32 × Int32 × Int32 × Int32 × Int32) → fS → Option (Int32 × fS)) (hk48 : ∀ (a1 : Int32) (a2 : Int32) (a3 : Int32) (a4 : Int32) (a5 : Int32) (S : fS), k48 (a1, a2, a3, a4, a5) S = some (v, S1) → Gw D K b0 sa ad P n L f0 p l e { frames := 76, cells := 0, slots := 0, locals := 2807 } s m [.ref (ad 40 0), .int p1, .int p2].toArray below meth c 7 (MQ below (hQ D K b0 (fun v9 u9 => ∃ f2 : Nat → va_E, v9 = some (.int v) ∧ u9 = lU L f2 ∧ PW K ad P S1 L f2 ∧ S1.2.2.1 = n ∧ Kp ad P L f0 f2)) [.ref (ad 40 0), .int p1, .int p2].toArray s 0 0 (fun q => b0 ≤ q)) 0 0 48 [(0, .ref (ad 40 0)), (1, .int a1), (2, .int a2), (3, .int a3), (4, .int a4), (5, .int a5)] [] S) (a1 : Int32) (a2 : Int32) (a3 : Int32) (a5 : Int32) (t0 : Int32) (S : fS), B_X7_bide_93 k48 a1 a2 a3 a5 t0 S = some (v, S1) → Gw D K b0 sa ad P n L f0 p l e { frames := 76, cells := 0, slots := 0, locals := 2807 } s m [.ref (ad 40 0), .int p1, .int p2].toArray below meth c 7 (MQ below (hQ D K b0 (fun v9 u9 => ∃ f2 : Nat → va_E, v9 = some (.int v) ∧ u9 = lU L f2 ∧ PW K ad P S1 L f2 ∧ S1.2.2.1 = n ∧ Kp ad P L f0 f2)) [.ref (ad 40 0), .int p1, .int p2].toArray s 0 0 (fun q => b0 ≤ q)) 0 0 93 [(0, .ref (ad 40 0)), (1, .int a1), (2, .int a2), (3, .int a3), (5, .int a5)] [.int t0] S := by
    intro k48 hk48 a1 a2 a3 a5 t0 S h
    dsimp only [B_X7_bide_93] at h
    intro f H locs w hw hn hk ls hl
    refine lv_istore (lv' := [(4, .int t0), (0, .ref (ad 40 0)), (1, .int a1), (2, .int a2), (3, .int a3), (5, .int a5)]) hx hb dX7_bide_93 hl (by decide) rfl (fun ls hl => ?_)
    obtain ⟨x1, ex1, h⟩ := iv_some h
    refine lv_iinc (v := x1) (lv' := [(5, .int x1), (4, .int t0), (0, .ref (ad 40 0)), (1, .int a1), (2, .int a2), (3, .int a3)]) hx hb dX7_bide_95 hl (k := 5) rfl ex1.symm (by decide) rfl (fun ls hl => ?_)
    refine lv_goto (tgt := 48) hx hb dX7_bide_98 (by decide) ?_
    exact hk48 a1 a2 a3 t0 x1 S h f H locs w hw hn hk ls (lv_sub hl [2, 3, 4, 5, 1, 0] rfl)
  have J78 : ∀ (k48 : (Int32 × Int32 × Int32 × Int32 × Int32) → fS → Option (Int32 × fS)) (hk48 : ∀ (a1 : Int32) (a2 : Int32) (a3 : Int32) (a4 : Int32) (a5 : Int32) (S : fS), k48 (a1, a2, a3, a4, a5) S = some (v, S1) → Gw D K b0 sa ad P n L f0 p l e { frames := 76, cells := 0, slots := 0, locals := 2807 } s m [.ref (ad 40 0), .int p1, .int p2].toArray below meth c 7 (MQ below (hQ D K b0 (fun v9 u9 => ∃ f2 : Nat → va_E, v9 = some (.int v) ∧ u9 = lU L f2 ∧ PW K ad P S1 L f2 ∧ S1.2.2.1 = n ∧ Kp ad P L f0 f2)) [.ref (ad 40 0), .int p1, .int p2].toArray s 0 0 (fun q => b0 ≤ q)) 0 0 48 [(0, .ref (ad 40 0)), (1, .int a1), (2, .int a2), (3, .int a3), (4, .int a4), (5, .int a5)] [] S) (a1 : Int32) (a2 : Int32) (a4 : Int32) (a5 : Int32) (a6 : Int32) (t0 : Int32) (S : fS), B_X7_bide_78 k48 a1 a2 a4 a5 a6 t0 S = some (v, S1) → Gw D K b0 sa ad P n L f0 p l e { frames := 76, cells := 0, slots := 0, locals := 2807 } s m [.ref (ad 40 0), .int p1, .int p2].toArray below meth c 7 (MQ below (hQ D K b0 (fun v9 u9 => ∃ f2 : Nat → va_E, v9 = some (.int v) ∧ u9 = lU L f2 ∧ PW K ad P S1 L f2 ∧ S1.2.2.1 = n ∧ Kp ad P L f0 f2)) [.ref (ad 40 0), .int p1, .int p2].toArray s 0 0 (fun q => b0 ≤ q)) 0 0 78 [(0, .ref (ad 40 0)), (1, .int a1), (2, .int a2), (4, .int a4), (5, .int a5), (6, .int a6)] [.int t0] S := by
    intro k48 hk48 a1 a2 a4 a5 a6 t0 S h
    dsimp only [B_X7_bide_78] at h
    intro f H locs w hw hn hk ls hl
    refine lv_istore_n (lv' := [(3, .int t0), (0, .ref (ad 40 0)), (1, .int a1), (2, .int a2), (4, .int a4), (5, .int a5), (6, .int a6)]) hx hb dX7_bide_78 rfl hl (by decide) rfl (fun ls hl => ?_)
    refine lv_iload hx hb dX7_bide_79 (lv_at hl 6 rfl) ?_
    refine lv_iload hx hb dX7_bide_81 (lv_at hl 4 rfl) ?_
    refine lv_icmp_le (tgt := 91) hx hb dX7_bide_83 (by decide) (fun c2 => ?_) (fun c2 => ?_)
    · have h := bb_t h c2
      refine lv_iload hx hb dX7_bide_91 (lv_at hl 4 rfl) ?_
      exact J93 k48 hk48 a1 a2 t0 a5 a4 S h f H locs w hw hn hk ls (lv_sub hl [1, 2, 3, 0, 5] rfl)
    · have h := bb_f h c2
      refine lv_iload hx hb dX7_bide_86 (lv_at hl 6 rfl) ?_
      refine lv_goto (tgt := 93) hx hb dX7_bide_88 (by decide) ?_
      exact J93 k48 hk48 a1 a2 t0 a5 a6 S h f H locs w hw hn hk ls (lv_sub hl [1, 2, 3, 0, 5] rfl)
  have J48 : ∀ (fu : Nat) (a1 : Int32) (a2 : Int32) (a3 : Int32) (a4 : Int32) (a5 : Int32) (S : fS), lp (B_X7_bide_48 ) fu (a1, a2, a3, a4, a5) S = some (v, S1) → Gw D K b0 sa ad P n L f0 p l e { frames := 76, cells := 0, slots := 0, locals := 2807 } s m [.ref (ad 40 0), .int p1, .int p2].toArray below meth c 7 (MQ below (hQ D K b0 (fun v9 u9 => ∃ f2 : Nat → va_E, v9 = some (.int v) ∧ u9 = lU L f2 ∧ PW K ad P S1 L f2 ∧ S1.2.2.1 = n ∧ Kp ad P L f0 f2)) [.ref (ad 40 0), .int p1, .int p2].toArray s 0 0 (fun q => b0 ≤ q)) 0 0 48 [(0, .ref (ad 40 0)), (1, .int a1), (2, .int a2), (3, .int a3), (4, .int a4), (5, .int a5)] [] S := by
    intro fu a1 a2 a3 a4 a5 S h
    refine lp_some (G := (fun q S => Gw D K b0 sa ad P n L f0 p l e { frames := 76, cells := 0, slots := 0, locals := 2807 } s m [.ref (ad 40 0), .int p1, .int p2].toArray below meth c 7 (MQ below (hQ D K b0 (fun v9 u9 => ∃ f2 : Nat → va_E, v9 = some (.int v) ∧ u9 = lU L f2 ∧ PW K ad P S1 L f2 ∧ S1.2.2.1 = n ∧ Kp ad P L f0 f2)) [.ref (ad 40 0), .int p1, .int p2].toArray s 0 0 (fun q => b0 ≤ q)) 0 0 48 [(0, .ref (ad 40 0)), (1, .int q.1), (2, .int q.2.1), (3, .int q.2.2.1), (4, .int q.2.2.2.1), (5, .int q.2.2.2.2)] [] S)) (fun k48 hk48 q S h => ?_) fu (a1, a2, a3, a4, a5) S h
    obtain ⟨a1, a2, a3, a4, a5⟩ := q
    have hk48 : ∀ (a1 : Int32) (a2 : Int32) (a3 : Int32) (a4 : Int32) (a5 : Int32) (S : fS), k48 (a1, a2, a3, a4, a5) S = some (v, S1) → Gw D K b0 sa ad P n L f0 p l e { frames := 76, cells := 0, slots := 0, locals := 2807 } s m [.ref (ad 40 0), .int p1, .int p2].toArray below meth c 7 (MQ below (hQ D K b0 (fun v9 u9 => ∃ f2 : Nat → va_E, v9 = some (.int v) ∧ u9 = lU L f2 ∧ PW K ad P S1 L f2 ∧ S1.2.2.1 = n ∧ Kp ad P L f0 f2)) [.ref (ad 40 0), .int p1, .int p2].toArray s 0 0 (fun q => b0 ≤ q)) 0 0 48 [(0, .ref (ad 40 0)), (1, .int a1), (2, .int a2), (3, .int a3), (4, .int a4), (5, .int a5)] [] S := fun a1 a2 a3 a4 a5 S h => hk48 (a1, a2, a3, a4, a5) S h
    dsimp only [B_X7_bide_48] at h
    intro f H locs w hw hn hk ls hl
    refine lv_iload hx hb dX7_bide_48 (lv_at hl 5 rfl) ?_
    refine lv_bipush (v := 20) hx hb dX7_bide_50 (by decide) ?_
    refine lv_icmp_gt (tgt := 101) hx hb dX7_bide_52 (by decide) (fun c3 => ?_) (fun c3 => ?_)
    · have h := bb_t h c3
      refine lv_iload_n hx hb dX7_bide_101 rfl (lv_at hl 3 rfl) ?_
      exact t_iret C hr hlk w ⟨_, so_v h, rfl, so_w h hw, so_n h hn, hk⟩ (by decide) (by decide) dX7_bide_102
    · have h := bb_f h c3
      refine lv_aload_n hx hb dX7_bide_55 rfl (lv_at hl 0 rfl) ?_
      refine lv_iload_n hx hb dX7_bide_56 rfl (lv_at hl 1 rfl) ?_
      refine lv_iload_n hx hb dX7_bide_57 rfl (lv_at hl 2 rfl) ?_
      refine lv_iload hx hb dX7_bide_58 (lv_at hl 5 rfl) ?_
      obtain ⟨v4, S5, h6, h⟩ := bd_some h
      refine u_callV (n := 3) C w hw (hP _ _ (isn_f rfl rfl (by decide))) rfl rfl rfl (c_X7_worthOf l D K b0 sa _ L _ ad P hP S hw hn a1 a2 a5 v4 S5 h6) gw_1633 gw_1630 gw_1632 gs_63 gw_8 ⟨by decide, by decide, by decide +kernel⟩ rfl rfl ⟨by decide, by decide⟩ rfl hl.1 rfl (Nat.le_of_ble_eq_true rfl) dX7_bide_60 ⟨Nat.le_of_ble_eq_true rfl, Nat.le_of_ble_eq_true rfl⟩ (fun v9 u H locs hp w => ?_)
      obtain ⟨f2, rfl, rfl, hw, hn, hk1⟩ := hp
      have hk := hk.tr hk1
      generalize f2 = f at w hw hk
      refine lv_istore (lv' := [(6, .int v4), (0, .ref (ad 40 0)), (1, .int a1), (2, .int a2), (3, .int a3), (4, .int a4), (5, .int a5)]) hx hb dX7_bide_63 hl (by decide) rfl (fun ls hl => ?_)
      refine lv_iload hx hb dX7_bide_65 (lv_at hl 0 rfl) ?_
      refine lv_iload hx hb dX7_bide_67 (lv_at hl 5 rfl) ?_
      refine lv_icmp_le (tgt := 77) hx hb dX7_bide_69 (by decide) (fun c7 => ?_) (fun c7 => ?_)
      · have h := bb_t h c7
        refine lv_iload_n hx hb dX7_bide_77 rfl (lv_at hl 4 rfl) ?_
        exact J78 k48 hk48 a1 a2 a4 a5 v4 a3 S5 h f H locs w hw hn hk ls (lv_sub hl [1, 2, 3, 5, 6, 0] rfl)
      · have h := bb_f h c7
        refine lv_iload hx hb dX7_bide_72 (lv_at hl 6 rfl) ?_
        refine lv_goto (tgt := 78) hx hb dX7_bide_74 (by decide) ?_
        exact J78 k48 hk48 a1 a2 a4 a5 v4 a5 S5 h f H locs w hw hn hk ls (lv_sub hl [1, 2, 3, 5, 6, 0] rfl)
  have J25 : ∀ (a1 : Int32) (a2 : Int32) (t0 : Int32) (S : fS), B_X7_bide_25  a1 a2 t0 S = some (v, S1) → Gw D K b0 sa ad P n L f0 p l e { frames := 76, cells := 0, slots := 0, locals := 2807 } s m [.ref (ad 40 0), .int p1, .int p2].toArray below meth c 7 (MQ below (hQ D K b0 (fun v9 u9 => ∃ f2 : Nat → va_E, v9 = some (.int v) ∧ u9 = lU L f2 ∧ PW K ad P S1 L f2 ∧ S1.2.2.1 = n ∧ Kp ad P L f0 f2)) [.ref (ad 40 0), .int p1, .int p2].toArray s 0 0 (fun q => b0 ≤ q)) 0 0 25 [(0, .ref (ad 40 0)), (1, .int a1), (2, .int a2)] [.int t0, .ref (ad 40 0)] S := by
    intro a1 a2 t0 S h
    dsimp only [B_X7_bide_25] at h
    intro f H locs w hw hn hk ls hl
    refine lv_iconst (v := 1) hx hb dX7_bide_25 (by decide) ?_
    obtain ⟨v8, S9, h10, h⟩ := bd_some h
    refine u_callV (n := 2) C w hw (hP _ _ (isn_f rfl rfl (by decide))) rfl rfl rfl (c_X7_bad l D K b0 sa _ L _ ad P hP S hw hn t0 1 v8 S9 h10) gw_1347 gw_1344 gw_1346 gs_22 gw_8 ⟨by decide, by decide, by decide +kernel⟩ rfl rfl ⟨by decide, by decide⟩ rfl hl.1 rfl (Nat.le_of_ble_eq_true rfl) dX7_bide_26 ⟨Nat.le_of_ble_eq_true rfl, Nat.le_of_ble_eq_true rfl⟩ (fun v9 u H locs hp w => ?_)
    obtain ⟨f2, rfl, rfl, hw, hn, hk1⟩ := hp
    have hk := hk.tr hk1
    generalize f2 = f at w hw hk
    refine lv_if_eq (tgt := 34) hx hb dX7_bide_29 (by decide) (fun c11 => ?_) (fun c11 => ?_)
    · have h := bb_t h c11
      refine lv_iconst (v := 1) hx hb dX7_bide_34 (by decide) ?_
      refine lv_istore_n (lv' := [(3, .int 1), (0, .ref (ad 40 0)), (1, .int a1), (2, .int a2)]) hx hb dX7_bide_35 rfl hl (by decide) rfl (fun ls hl => ?_)
      refine lv_aload_n hx hb dX7_bide_36 rfl (lv_at hl 1 rfl) ?_
      refine lv_iload_n hx hb dX7_bide_37 rfl (lv_at hl 2 rfl) ?_
      refine lv_iload_n hx hb dX7_bide_38 rfl (lv_at hl 3 rfl) ?_
      refine lv_iconst (v := 1) hx hb dX7_bide_39 (by decide) ?_
      obtain ⟨v12, S13, h14, h⟩ := bd_some h
      refine u_callV (n := 3) C w hw (hP _ _ (isn_f rfl rfl (by decide))) rfl rfl rfl (c_X7_worthOf l D K b0 sa _ L _ ad P hP S9 hw hn a1 a2 1 v12 S13 h14) gw_1633 gw_1630 gw_1632 gs_63 gw_8 ⟨by decide, by decide, by decide +kernel⟩ rfl rfl ⟨by decide, by decide⟩ rfl hl.1 rfl (Nat.le_of_ble_eq_true rfl) dX7_bide_40 ⟨Nat.le_of_ble_eq_true rfl, Nat.le_of_ble_eq_true rfl⟩ (fun v9 u H locs hp w => ?_)
      obtain ⟨f2, rfl, rfl, hw, hn, hk1⟩ := hp
      have hk := hk.tr hk1
      generalize f2 = f at w hw hk
      refine lv_istore (lv' := [(4, .int v12), (3, .int 1), (0, .ref (ad 40 0)), (1, .int a1), (2, .int a2)]) hx hb dX7_bide_43 hl (by decide) rfl (fun ls hl => ?_)
      refine lv_iconst (v := 2) hx hb dX7_bide_45 (by decide) ?_
      refine lv_istore (lv' := [(5, .int 2), (4, .int v12), (3, .int 1), (0, .ref (ad 40 0)), (1, .int a1), (2, .int a2)]) hx hb dX7_bide_46 hl (by decide) rfl (fun ls hl => ?_)
      exact J48  fuel a1 a2 1 v12 2 S13 h f H locs w hw hn hk ls (lv_sub hl [3, 4, 5, 2, 1, 0] rfl)
    · have h := bb_f h c11
      refine lv_iconst (v := 0) hx hb dX7_bide_32 (by decide) ?_
      exact t_iret C hr hlk w ⟨_, so_v h, rfl, so_w h hw, so_n h hn, hk⟩ (by decide) (by decide) dX7_bide_33
  have J20 : ∀ (a1 : Int32) (a2 : Int32) (S : fS), B_X7_bide_20  a1 a2 S = some (v, S1) → Gw D K b0 sa ad P n L f0 p l e { frames := 76, cells := 0, slots := 0, locals := 2807 } s m [.ref (ad 40 0), .int p1, .int p2].toArray below meth c 7 (MQ below (hQ D K b0 (fun v9 u9 => ∃ f2 : Nat → va_E, v9 = some (.int v) ∧ u9 = lU L f2 ∧ PW K ad P S1 L f2 ∧ S1.2.2.1 = n ∧ Kp ad P L f0 f2)) [.ref (ad 40 0), .int p1, .int p2].toArray s 0 0 (fun q => b0 ≤ q)) 0 0 20 [(0, .ref (ad 40 0)), (1, .int a1), (2, .int a2)] [.ref (ad 40 0)] S := by
    intro a1 a2 S h
    dsimp only [B_X7_bide_20] at h
    intro f H locs w hw hn hk ls hl
    refine lv_iconst (v := 1) hx hb dX7_bide_20 (by decide) ?_
    refine lv_goto (tgt := 25) hx hb dX7_bide_21 (by decide) ?_
    exact J25  a1 a2 1 S h f H locs w hw hn hk ls (lv_sub hl [0, 1, 2] rfl)
  dsimp only [F_X7_bide] at h
  obtain ⟨f, ef⟩ : ∃ z, z = f0 := ⟨_, rfl⟩
  rw [← ef] at w hw
  have hk : Kp ad P L f0 f := by rw [ef]; exact Kp.rf
  obtain ⟨H, eH⟩ : ∃ z, z = s.heap := ⟨_, rfl⟩
  obtain ⟨locs, el⟩ : ∃ z : List Loc, z = [] := ⟨_, rfl⟩
  rw [← eH, ← el] at w ⊢
  refine lv_aload_n hx hb dX7_bide_0 rfl (lv_at hl 0 rfl) ?_
  refine lv_iconst (v := 0) hx hb dX7_bide_1 (by decide) ?_
  refine u_puti C w hw (hP _ _ (isn_f rfl rfl (by decide))) rfl (N := 57) rfl rfl cin_7 tyX7 tyX7_ok nmX7 0 (by decide) rfl rfl rfl rfl gw_1156 dX7_bide_2 (fun f H locs w hw hk1 => ?_)
  have hk := hk.tr hk1
  refine u_sv h hw hn (fun S15 h hw hn => ?_)
  refine lv_aload_n hx hb dX7_bide_5 rfl (lv_at hl 0 rfl) ?_
  refine lv_iload_n hx hb dX7_bide_6 rfl (lv_at hl 1 rfl) ?_
  obtain ⟨v16, S17, h18, h⟩ := bd_some h
  refine t_callS (n := 1) C w (c_X7_isCell l D K b0 sa _ L _ ad P hP S15 hw hn p1 v16 S17 h18) gw_1467 gw_1465 gw_1466 gw_8 ⟨by decide, by decide, by decide +kernel⟩ rfl rfl ⟨by decide, by decide⟩ rfl hl.1 rfl (Nat.le_of_ble_eq_true rfl) dX7_bide_7 ⟨Nat.le_of_ble_eq_true rfl, Nat.le_of_ble_eq_true rfl⟩ (fun v9 u H locs hp w => ?_)
  obtain ⟨f2, rfl, rfl, hw, hn, hk1⟩ := hp
  have hk := hk.tr hk1
  generalize f2 = f at w hw hk
  refine lv_if_eq (tgt := 20) hx hb dX7_bide_10 (by decide) (fun c19 => ?_) (fun c19 => ?_)
  · have h := bb_t h c19
    exact J20  p1 p2 S17 h f H locs w hw hn hk ls (lv_sub hl [0, 1, 2] rfl)
  · have h := bb_f h c19
    refine lv_iload_n hx hb dX7_bide_13 rfl (lv_at hl 2 rfl) ?_
    obtain ⟨v20, S21, h22, h⟩ := bd_some h
    refine t_callS (n := 1) C w (c_X7_isCell l D K b0 sa _ L _ ad P hP S17 hw hn p2 v20 S21 h22) gw_1467 gw_1465 gw_1466 gw_8 ⟨by decide, by decide, by decide +kernel⟩ rfl rfl ⟨by decide, by decide⟩ rfl hl.1 rfl (Nat.le_of_ble_eq_true rfl) dX7_bide_14 ⟨Nat.le_of_ble_eq_true rfl, Nat.le_of_ble_eq_true rfl⟩ (fun v9 u H locs hp w => ?_)
    obtain ⟨f2, rfl, rfl, hw, hn, hk1⟩ := hp
    have hk := hk.tr hk1
    generalize f2 = f at w hw hk
    refine lv_if_ne (tgt := 24) hx hb dX7_bide_17 (by decide) (fun c23 => ?_) (fun c23 => ?_)
    · have h := bb_f h c23
      refine lv_iconst (v := 0) hx hb dX7_bide_24 (by decide) ?_
      exact J25  p1 p2 0 S21 h f H locs w hw hn hk ls (lv_sub hl [0, 1, 2] rfl)
    · have h := bb_t h c23
      exact J20  p1 p2 S21 h f H locs w hw hn hk ls (lv_sub hl [0, 1, 2] rfl)
theorem dX7_player_0 : decode cX7_player 0 = .ok (.aload_n 0, 1) := by decide +kernel
theorem dX7_player_1 : decode cX7_player 1 = .ok (.iconst 0, 1) := by decide +kernel
theorem dX7_player_2 : decode cX7_player 2 = .ok (.putfield 97, 3) := by decide +kernel
theorem dX7_player_5 : decode cX7_player 5 = .ok (.aload_n 0, 1) := by decide +kernel
theorem dX7_player_6 : decode cX7_player 6 = .ok (.iload_n 1, 1) := by decide +kernel
theorem dX7_player_7 : decode cX7_player 7 = .ok (.invokestatic 253, 3) := by decide +kernel
theorem dX7_player_10 : decode cX7_player 10 = .ok (.ifCond .ne 7, 3) := by decide +kernel
theorem dX7_player_13 : decode cX7_player 13 = .ok (.iconst 1, 1) := by decide +kernel
theorem dX7_player_14 : decode cX7_player 14 = .ok (.goto 4, 3) := by decide +kernel
theorem dX7_player_17 : decode cX7_player 17 = .ok (.iconst 0, 1) := by decide +kernel
theorem dX7_player_18 : decode cX7_player 18 = .ok (.iconst 1, 1) := by decide +kernel
theorem dX7_player_19 : decode cX7_player 19 = .ok (.invokevirtual 206, 3) := by decide +kernel
theorem dX7_player_22 : decode cX7_player 22 = .ok (.ifCond .ne 46, 3) := by decide +kernel
theorem dX7_player_25 : decode cX7_player 25 = .ok (.aload_n 0, 1) := by decide +kernel
theorem dX7_player_26 : decode cX7_player 26 = .ok (.iload_n 2, 1) := by decide +kernel
theorem dX7_player_27 : decode cX7_player 27 = .ok (.iconst 1, 1) := by decide +kernel
theorem dX7_player_28 : decode cX7_player 28 = .ok (.bipush 99, 2) := by decide +kernel
theorem dX7_player_30 : decode cX7_player 30 = .ok (.invokestatic 100, 3) := by decide +kernel
theorem dX7_player_33 : decode cX7_player 33 = .ok (.ifCond .eq 23, 3) := by decide +kernel
theorem dX7_player_36 : decode cX7_player 36 = .ok (.iload_n 3, 1) := by decide +kernel
theorem dX7_player_37 : decode cX7_player 37 = .ok (.iconst 0, 1) := by decide +kernel
theorem dX7_player_38 : decode cX7_player 38 = .ok (.bipush 99, 2) := by decide +kernel
theorem dX7_player_40 : decode cX7_player 40 = .ok (.invokestatic 100, 3) := by decide +kernel
theorem dX7_player_43 : decode cX7_player 43 = .ok (.ifCond .eq 13, 3) := by decide +kernel
theorem dX7_player_46 : decode cX7_player 46 = .ok (.iload 4, 2) := by decide +kernel
theorem dX7_player_48 : decode cX7_player 48 = .ok (.iconst 0, 1) := by decide +kernel
theorem dX7_player_49 : decode cX7_player 49 = .ok (.iconst 3, 1) := by decide +kernel
theorem dX7_player_50 : decode cX7_player 50 = .ok (.invokestatic 100, 3) := by decide +kernel
theorem dX7_player_53 : decode cX7_player 53 = .ok (.ifCond .ne 7, 3) := by decide +kernel
theorem dX7_player_56 : decode cX7_player 56 = .ok (.iconst 1, 1) := by decide +kernel
theorem dX7_player_57 : decode cX7_player 57 = .ok (.goto 4, 3) := by decide +kernel
theorem dX7_player_60 : decode cX7_player 60 = .ok (.iconst 0, 1) := by decide +kernel
theorem dX7_player_61 : decode cX7_player 61 = .ok (.iconst 2, 1) := by decide +kernel
theorem dX7_player_62 : decode cX7_player 62 = .ok (.invokevirtual 206, 3) := by decide +kernel
theorem dX7_player_65 : decode cX7_player 65 = .ok (.ifCond .eq 5, 3) := by decide +kernel
theorem dX7_player_68 : decode cX7_player 68 = .ok (.iconst 0, 1) := by decide +kernel
theorem dX7_player_69 : decode cX7_player 69 = .ok (.ireturn, 1) := by decide +kernel
theorem dX7_player_70 : decode cX7_player 70 = .ok (.iload_n 2, 1) := by decide +kernel
theorem dX7_player_71 : decode cX7_player 71 = .ok (.istore 5, 2) := by decide +kernel
theorem dX7_player_73 : decode cX7_player 73 = .ok (.iload_n 3, 1) := by decide +kernel
theorem dX7_player_74 : decode cX7_player 74 = .ok (.istore 6, 2) := by decide +kernel
theorem dX7_player_76 : decode cX7_player 76 = .ok (.iconst 0, 1) := by decide +kernel
theorem dX7_player_77 : decode cX7_player 77 = .ok (.istore 7, 2) := by decide +kernel
theorem dX7_player_79 : decode cX7_player 79 = .ok (.iconst 0, 1) := by decide +kernel
theorem dX7_player_80 : decode cX7_player 80 = .ok (.istore 8, 2) := by decide +kernel
theorem dX7_player_82 : decode cX7_player 82 = .ok (.aload_n 0, 1) := by decide +kernel
theorem dX7_player_83 : decode cX7_player 83 = .ok (.iconst 3, 1) := by decide +kernel
theorem dX7_player_84 : decode cX7_player 84 = .ok (.invokevirtual 352, 3) := by decide +kernel
theorem dX7_player_87 : decode cX7_player 87 = .ok (.iload 5, 2) := by decide +kernel
theorem dX7_player_89 : decode cX7_player 89 = .ok (.ifCond .le 114, 3) := by decide +kernel
theorem dX7_player_92 : decode cX7_player 92 = .ok (.iload 6, 2) := by decide +kernel
theorem dX7_player_94 : decode cX7_player 94 = .ok (.ifCond .le 109, 3) := by decide +kernel
theorem dX7_player_97 : decode cX7_player 97 = .ok (.aload_n 0, 1) := by decide +kernel
theorem dX7_player_98 : decode cX7_player 98 = .ok (.iload_n 1, 1) := by decide +kernel
theorem dX7_player_99 : decode cX7_player 99 = .ok (.iconst 0, 1) := by decide +kernel
theorem dX7_player_100 : decode cX7_player 100 = .ok (.invokevirtual 323, 3) := by decide +kernel
theorem dX7_player_103 : decode cX7_player 103 = .ok (.iinc 6 (-1), 3) := by decide +kernel
theorem dX7_player_106 : decode cX7_player 106 = .ok (.aload_n 0, 1) := by decide +kernel
theorem dX7_player_107 : decode cX7_player 107 = .ok (.getfield 284, 3) := by decide +kernel
theorem dX7_player_110 : decode cX7_player 110 = .ok (.iconst 2, 1) := by decide +kernel
theorem dX7_player_111 : decode cX7_player 111 = .ok (.if_icmp .eq 11, 3) := by decide +kernel
theorem dX7_player_114 : decode cX7_player 114 = .ok (.aload_n 0, 1) := by decide +kernel
theorem dX7_player_115 : decode cX7_player 115 = .ok (.getfield 284, 3) := by decide +kernel
theorem dX7_player_118 : decode cX7_player 118 = .ok (.iconst 3, 1) := by decide +kernel
theorem dX7_player_119 : decode cX7_player 119 = .ok (.if_icmp .ne 7, 3) := by decide +kernel
theorem dX7_player_122 : decode cX7_player 122 = .ok (.iconst 1, 1) := by decide +kernel
theorem dX7_player_123 : decode cX7_player 123 = .ok (.goto 4, 3) := by decide +kernel
theorem dX7_player_126 : decode cX7_player 126 = .ok (.iconst 0, 1) := by decide +kernel
theorem dX7_player_127 : decode cX7_player 127 = .ok (.istore 9, 2) := by decide +kernel
theorem dX7_player_129 : decode cX7_player 129 = .ok (.iload 5, 2) := by decide +kernel
theorem dX7_player_131 : decode cX7_player 131 = .ok (.iload 9, 2) := by decide +kernel
theorem dX7_player_133 : decode cX7_player 133 = .ok (.ifCond .eq 7, 3) := by decide +kernel
theorem dX7_player_136 : decode cX7_player 136 = .ok (.iconst 1, 1) := by decide +kernel
theorem dX7_player_137 : decode cX7_player 137 = .ok (.goto 17, 3) := by decide +kernel
theorem dX7_player_140 : decode cX7_player 140 = .ok (.aload_n 0, 1) := by decide +kernel
theorem dX7_player_141 : decode cX7_player 141 = .ok (.getfield 284, 3) := by decide +kernel
theorem dX7_player_144 : decode cX7_player 144 = .ok (.iconst 5, 1) := by decide +kernel
theorem dX7_player_145 : decode cX7_player 145 = .ok (.if_icmp .ne 7, 3) := by decide +kernel
theorem dX7_player_148 : decode cX7_player 148 = .ok (.iconst 5, 1) := by decide +kernel
theorem dX7_player_149 : decode cX7_player 149 = .ok (.goto 5, 3) := by decide +kernel
theorem dX7_player_152 : decode cX7_player 152 = .ok (.bipush (-2), 2) := by decide +kernel
theorem dX7_player_154 : decode cX7_player 154 = .ok (.iadd, 1) := by decide +kernel
theorem dX7_player_155 : decode cX7_player 155 = .ok (.istore 5, 2) := by decide +kernel
theorem dX7_player_157 : decode cX7_player 157 = .ok (.iload 5, 2) := by decide +kernel
theorem dX7_player_159 : decode cX7_player 159 = .ok (.iconst 0, 1) := by decide +kernel
theorem dX7_player_160 : decode cX7_player 160 = .ok (.bipush 99, 2) := by decide +kernel
theorem dX7_player_162 : decode cX7_player 162 = .ok (.invokestatic 240, 3) := by decide +kernel
theorem dX7_player_165 : decode cX7_player 165 = .ok (.istore 5, 2) := by decide +kernel
theorem dX7_player_167 : decode cX7_player 167 = .ok (.iload 7, 2) := by decide +kernel
theorem dX7_player_169 : decode cX7_player 169 = .ok (.iload 9, 2) := by decide +kernel
theorem dX7_player_171 : decode cX7_player 171 = .ok (.ifCond .eq 7, 3) := by decide +kernel
theorem dX7_player_174 : decode cX7_player 174 = .ok (.iconst 1, 1) := by decide +kernel
theorem dX7_player_175 : decode cX7_player 175 = .ok (.goto 4, 3) := by decide +kernel
theorem dX7_player_178 : decode cX7_player 178 = .ok (.iconst 0, 1) := by decide +kernel
theorem dX7_player_179 : decode cX7_player 179 = .ok (.iadd, 1) := by decide +kernel
theorem dX7_player_180 : decode cX7_player 180 = .ok (.istore 7, 2) := by decide +kernel
theorem dX7_player_182 : decode cX7_player 182 = .ok (.iload 8, 2) := by decide +kernel
theorem dX7_player_184 : decode cX7_player 184 = .ok (.aload_n 0, 1) := by decide +kernel
theorem dX7_player_185 : decode cX7_player 185 = .ok (.getfield 284, 3) := by decide +kernel
theorem dX7_player_188 : decode cX7_player 188 = .ok (.iconst 5, 1) := by decide +kernel
theorem dX7_player_189 : decode cX7_player 189 = .ok (.if_icmp .ne 7, 3) := by decide +kernel
theorem dX7_player_192 : decode cX7_player 192 = .ok (.iconst 1, 1) := by decide +kernel
theorem dX7_player_193 : decode cX7_player 193 = .ok (.goto 4, 3) := by decide +kernel
theorem dX7_player_196 : decode cX7_player 196 = .ok (.iconst 0, 1) := by decide +kernel
theorem dX7_player_197 : decode cX7_player 197 = .ok (.iadd, 1) := by decide +kernel
theorem dX7_player_198 : decode cX7_player 198 = .ok (.istore 8, 2) := by decide +kernel
theorem dX7_player_200 : decode cX7_player 200 = .ok (.goto (-113), 3) := by decide +kernel
theorem dX7_player_203 : decode cX7_player 203 = .ok (.aload_n 0, 1) := by decide +kernel
theorem dX7_player_204 : decode cX7_player 204 = .ok (.iconst 3, 1) := by decide +kernel
theorem dX7_player_205 : decode cX7_player 205 = .ok (.invokevirtual 355, 3) := by decide +kernel
theorem dX7_player_208 : decode cX7_player 208 = .ok (.iload 4, 2) := by decide +kernel
theorem dX7_player_210 : decode cX7_player 210 = .ok (.ifCond .ne 10, 3) := by decide +kernel
theorem dX7_player_213 : decode cX7_player 213 = .ok (.iload_n 3, 1) := by decide +kernel
theorem dX7_player_214 : decode cX7_player 214 = .ok (.iload 6, 2) := by decide +kernel
theorem dX7_player_216 : decode cX7_player 216 = .ok (.isub, 1) := by decide +kernel
theorem dX7_player_217 : decode cX7_player 217 = .ok (.goto 27, 3) := by decide +kernel
theorem dX7_player_220 : decode cX7_player 220 = .ok (.iload 4, 2) := by decide +kernel
theorem dX7_player_222 : decode cX7_player 222 = .ok (.iconst 1, 1) := by decide +kernel
theorem dX7_player_223 : decode cX7_player 223 = .ok (.if_icmp .ne 8, 3) := by decide +kernel
theorem dX7_player_226 : decode cX7_player 226 = .ok (.iload 7, 2) := by decide +kernel
theorem dX7_player_228 : decode cX7_player 228 = .ok (.goto 16, 3) := by decide +kernel
theorem dX7_player_231 : decode cX7_player 231 = .ok (.iload 4, 2) := by decide +kernel
theorem dX7_player_233 : decode cX7_player 233 = .ok (.iconst 2, 1) := by decide +kernel
theorem dX7_player_234 : decode cX7_player 234 = .ok (.if_icmp .ne 8, 3) := by decide +kernel
theorem dX7_player_237 : decode cX7_player 237 = .ok (.iload 5, 2) := by decide +kernel
theorem dX7_player_239 : decode cX7_player 239 = .ok (.goto 5, 3) := by decide +kernel
theorem dX7_player_242 : decode cX7_player 242 = .ok (.iload 8, 2) := by decide +kernel
theorem dX7_player_244 : decode cX7_player 244 = .ok (.ireturn, 1) := by decide +kernel
noncomputable def B_X7_player_197 (k87 : (Int32 × Int32 × Int32 × Int32 × Int32 × Int32 × Int32) → fS → Option (Int32 × fS)) (a1 : Int32) (a3 : Int32) (a4 : Int32) (a5 : Int32) (a6 : Int32) (a7 : Int32) (t0 : Int32) (t1 : Int32) (S : fS) : Option (Int32 × fS) := iv (t1 + t0) (fun x1 => k87 (a1, a3, a4, a5, a6, a7, x1) S)
noncomputable def B_X7_player_179 (k87 : (Int32 × Int32 × Int32 × Int32 × Int32 × Int32 × Int32) → fS → Option (Int32 × fS)) (a1 : Int32) (a3 : Int32) (a4 : Int32) (a5 : Int32) (a6 : Int32) (a8 : Int32) (t0 : Int32) (t1 : Int32) (S : fS) : Option (Int32 × fS) := iv (t1 + t0) (fun x2 => iv (ge S 40 0 41) (fun x3 => bb (x3 = (5 : Int32)) (B_X7_player_197 k87 a1 a3 a4 a5 a6 x2 1 a8 S) (B_X7_player_197 k87 a1 a3 a4 a5 a6 x2 0 a8 S)))
noncomputable def B_X7_player_154 (k87 : (Int32 × Int32 × Int32 × Int32 × Int32 × Int32 × Int32) → fS → Option (Int32 × fS)) (a1 : Int32) (a3 : Int32) (a4 : Int32) (a6 : Int32) (a7 : Int32) (a8 : Int32) (a9 : Int32) (t0 : Int32) (t1 : Int32) (S : fS) : Option (Int32 × fS) := iv (t1 + t0) (fun x5 => bd (F_X7_within x5 0 99 S) (fun v6 S7 => bb (a9 = (0 : Int32)) (B_X7_player_179 k87 a1 a3 a4 v6 a6 a8 0 a7 S7) (B_X7_player_179 k87 a1 a3 a4 v6 a6 a8 1 a7 S7)))
noncomputable def B_X7_player_127 (k87 : (Int32 × Int32 × Int32 × Int32 × Int32 × Int32 × Int32) → fS → Option (Int32 × fS)) (a1 : Int32) (a3 : Int32) (a4 : Int32) (a5 : Int32) (a6 : Int32) (a7 : Int32) (a8 : Int32) (t0 : Int32) (S : fS) : Option (Int32 × fS) := bb (t0 = (0 : Int32)) (iv (ge S 40 0 41) (fun x11 => bb (x11 = (5 : Int32)) (B_X7_player_154 k87 a1 a3 a4 a6 a7 a8 t0 5 a5 S) (B_X7_player_154 k87 a1 a3 a4 a6 a7 a8 t0 (-2) a5 S))) (B_X7_player_154 k87 a1 a3 a4 a6 a7 a8 t0 1 a5 S)
noncomputable def B_X7_player_122 (k87 : (Int32 × Int32 × Int32 × Int32 × Int32 × Int32 × Int32) → fS → Option (Int32 × fS)) (a1 : Int32) (a3 : Int32) (a4 : Int32) (a5 : Int32) (a6 : Int32) (a7 : Int32) (a8 : Int32) (S : fS) : Option (Int32 × fS) := B_X7_player_127 k87 a1 a3 a4 a5 a6 a7 a8 1 S
noncomputable def B_X7_player_203 (a3 : Int32) (a4 : Int32) (a5 : Int32) (a6 : Int32) (a7 : Int32) (a8 : Int32) (S : fS) : Option (Int32 × fS) := bd (F_X7_laysBack 3 S) (fun v13 S14 => bb (a4 = (0 : Int32)) (iv (a3 - a6) (fun x19 => some (x19, S14))) (bb (a4 = (1 : Int32)) (some (a7, S14)) (bb (a4 = (2 : Int32)) (some (a5, S14)) (some (a8, S14)))))
noncomputable def B_X7_player_87 (k87 : (Int32 × Int32 × Int32 × Int32 × Int32 × Int32 × Int32) → fS → Option (Int32 × fS)) : (Int32 × Int32 × Int32 × Int32 × Int32 × Int32 × Int32) → fS → Option (Int32 × fS) := fun ⟨a1, a3, a4, a5, a6, a7, a8⟩ S => bb (a5 ≤ (0 : Int32)) (B_X7_player_203  a3 a4 a5 a6 a7 a8 S) (bb (a6 ≤ (0 : Int32)) (B_X7_player_203  a3 a4 a5 a6 a7 a8 S) (bd (F_X7_triesAt a1 0 S) (fun v22 S23 => iv (a6 + Int32.ofInt (-1)) (fun x25 => iv (ge S23 40 0 41) (fun x26 => bb (x26 = (2 : Int32)) (B_X7_player_122 k87 a1 a3 a4 a5 x25 a7 a8 S23) (iv (ge S23 40 0 41) (fun x28 => bb (x28 = (3 : Int32)) (B_X7_player_122 k87 a1 a3 a4 a5 x25 a7 a8 S23) (B_X7_player_127 k87 a1 a3 a4 a5 x25 a7 a8 0 S23))))))))
noncomputable def B_X7_player_61 (a1 : Int32) (a2 : Int32) (a3 : Int32) (a4 : Int32) (t0 : Int32) (S : fS) : Option (Int32 × fS) := bd (F_X7_bad t0 2 S) (fun v30 S31 => bb (v30 = (0 : Int32)) (bd (F_X7_lays 3 S31) (fun v34 S35 => lp (B_X7_player_87 ) fuel (a1, a3, a4, a2, a3, 0, 0) S35)) (some (0, S31)))
noncomputable def B_X7_player_56 (a1 : Int32) (a2 : Int32) (a3 : Int32) (a4 : Int32) (S : fS) : Option (Int32 × fS) := B_X7_player_61  a1 a2 a3 a4 1 S
noncomputable def B_X7_player_18 (a1 : Int32) (a2 : Int32) (a3 : Int32) (a4 : Int32) (t0 : Int32) (S : fS) : Option (Int32 × fS) := bd (F_X7_bad t0 1 S) (fun v37 S38 => bb (v37 = (0 : Int32)) (bd (F_X7_in a2 1 99 S38) (fun v41 S42 => bb (v41 = (0 : Int32)) (B_X7_player_56  a1 a2 a3 a4 S42) (bd (F_X7_in a3 0 99 S42) (fun v45 S46 => bb (v45 = (0 : Int32)) (B_X7_player_56  a1 a2 a3 a4 S46) (bd (F_X7_in a4 0 3 S46) (fun v49 S50 => bb (v49 = (0 : Int32)) (B_X7_player_56  a1 a2 a3 a4 S50) (B_X7_player_61  a1 a2 a3 a4 0 S50))))))) (some (0, S38)))
noncomputable def F_X7_player (p1 : Int32) (p2 : Int32) (p3 : Int32) (p4 : Int32) (S0 : fS) : Option (Int32 × fS) := sv (pu S0 40 0 0 0) (fun S53 => bd (F_X7_isCell p1 S53) (fun v54 S55 => bb (v54 = (0 : Int32)) (B_X7_player_18  p1 p2 p3 p4 1 S55) (B_X7_player_18  p1 p2 p3 p4 0 S55)))
set_option maxHeartbeats 4000000 in
set_option maxRecDepth 100000 in
theorem c_X7_player (l : Launch) (D : va_G) (K : Nat → ClassId) (b0 : Nat) (sa : sT) (sz : Nat) (L : List Nat) (f0 : Nat → va_E) (ad : Nat → Nat → Nat) (P : Nat → Nat → Prop) {n : Nat × Nat} (hP : ∀ a i : Nat, isn n a i → P a i) (S0 : fS) (hw : PW K ad P S0 L f0) (hn : S0.2.2.1 = n) (p1 : Int32) (p2 : Int32) (p3 : Int32) (p4 : Int32) (v : Int32) (S1 : fS) (h : F_X7_player p1 p2 p3 p4 S0 = some (v, S1)) : Met l yX7_player (.code yX7_player cX7_player 10 (some .int) :: gt) { frames := 75, cells := 0, slots := 0, locals := 2783 } (va_Pc [.ref (ad 40 0), .int p1, .int p2, .int p3, .int p4] (hPre D K b0 sa sz L f0)) (hQ D K b0 (fun v9 u9 => ∃ f2 : Nat → va_E, v9 = some (.int v) ∧ u9 = lU L f2 ∧ PW K ad P S1 L f2 ∧ S1.2.2.1 = n ∧ Kp ad P L f0 f2)) 0 0 (fun q => b0 ≤ q) := by
  refine t_of (own := RX7) (by decide) rfl ?_ (Nat.le_of_ble_eq_true rfl)
  intro p e s m below meth c ls C w hsz hr hlk hnm hl
  have hx := C.1
  have hb := C.2.1
  have hl : lv_has ls 10 [(0, .ref (ad 40 0)), (1, .int p1), (2, .int p2), (3, .int p3), (4, .int p4)] := hl
  have J197 : ∀ (k87 : (Int32 × Int32 × Int32 × Int32 × Int32 × Int32 × Int32) → fS → Option (Int32 × fS)) (hk87 : ∀ (a1 : Int32) (a3 : Int32) (a4 : Int32) (a5 : Int32) (a6 : Int32) (a7 : Int32) (a8 : Int32) (S : fS), k87 (a1, a3, a4, a5, a6, a7, a8) S = some (v, S1) → Gw D K b0 sa ad P n L f0 p l e { frames := 75, cells := 0, slots := 0, locals := 2783 } s m [.ref (ad 40 0), .int p1, .int p2, .int p3, .int p4].toArray below meth c 10 (MQ below (hQ D K b0 (fun v9 u9 => ∃ f2 : Nat → va_E, v9 = some (.int v) ∧ u9 = lU L f2 ∧ PW K ad P S1 L f2 ∧ S1.2.2.1 = n ∧ Kp ad P L f0 f2)) [.ref (ad 40 0), .int p1, .int p2, .int p3, .int p4].toArray s 0 0 (fun q => b0 ≤ q)) 0 0 87 [(0, .ref (ad 40 0)), (1, .int a1), (3, .int a3), (4, .int a4), (5, .int a5), (6, .int a6), (7, .int a7), (8, .int a8)] [] S) (a1 : Int32) (a3 : Int32) (a4 : Int32) (a5 : Int32) (a6 : Int32) (a7 : Int32) (t0 : Int32) (t1 : Int32) (S : fS), B_X7_player_197 k87 a1 a3 a4 a5 a6 a7 t0 t1 S = some (v, S1) → Gw D K b0 sa ad P n L f0 p l e { frames := 75, cells := 0, slots := 0, locals := 2783 } s m [.ref (ad 40 0), .int p1, .int p2, .int p3, .int p4].toArray below meth c 10 (MQ below (hQ D K b0 (fun v9 u9 => ∃ f2 : Nat → va_E, v9 = some (.int v) ∧ u9 = lU L f2 ∧ PW K ad P S1 L f2 ∧ S1.2.2.1 = n ∧ Kp ad P L f0 f2)) [.ref (ad 40 0), .int p1, .int p2, .int p3, .int p4].toArray s 0 0 (fun q => b0 ≤ q)) 0 0 197 [(0, .ref (ad 40 0)), (1, .int a1), (3, .int a3), (4, .int a4), (5, .int a5), (6, .int a6), (7, .int a7)] [.int t0, .int t1] S := by
    intro k87 hk87 a1 a3 a4 a5 a6 a7 t0 t1 S h
    dsimp only [B_X7_player_197] at h
    intro f H locs w hw hn hk ls hl
    refine lv_iadd hx hb dX7_player_197 ?_
    refine u_iv h (fun x1 h => ?_)
    refine lv_istore (lv' := [(8, .int x1), (0, .ref (ad 40 0)), (1, .int a1), (3, .int a3), (4, .int a4), (5, .int a5), (6, .int a6), (7, .int a7)]) hx hb dX7_player_198 hl (by decide) rfl (fun ls hl => ?_)
    refine lv_goto (tgt := 87) hx hb dX7_player_200 (by decide) ?_
    exact hk87 a1 a3 a4 a5 a6 a7 x1 S h f H locs w hw hn hk ls (lv_sub hl [1, 2, 3, 4, 5, 6, 7, 0] rfl)
  have J179 : ∀ (k87 : (Int32 × Int32 × Int32 × Int32 × Int32 × Int32 × Int32) → fS → Option (Int32 × fS)) (hk87 : ∀ (a1 : Int32) (a3 : Int32) (a4 : Int32) (a5 : Int32) (a6 : Int32) (a7 : Int32) (a8 : Int32) (S : fS), k87 (a1, a3, a4, a5, a6, a7, a8) S = some (v, S1) → Gw D K b0 sa ad P n L f0 p l e { frames := 75, cells := 0, slots := 0, locals := 2783 } s m [.ref (ad 40 0), .int p1, .int p2, .int p3, .int p4].toArray below meth c 10 (MQ below (hQ D K b0 (fun v9 u9 => ∃ f2 : Nat → va_E, v9 = some (.int v) ∧ u9 = lU L f2 ∧ PW K ad P S1 L f2 ∧ S1.2.2.1 = n ∧ Kp ad P L f0 f2)) [.ref (ad 40 0), .int p1, .int p2, .int p3, .int p4].toArray s 0 0 (fun q => b0 ≤ q)) 0 0 87 [(0, .ref (ad 40 0)), (1, .int a1), (3, .int a3), (4, .int a4), (5, .int a5), (6, .int a6), (7, .int a7), (8, .int a8)] [] S) (a1 : Int32) (a3 : Int32) (a4 : Int32) (a5 : Int32) (a6 : Int32) (a8 : Int32) (t0 : Int32) (t1 : Int32) (S : fS), B_X7_player_179 k87 a1 a3 a4 a5 a6 a8 t0 t1 S = some (v, S1) → Gw D K b0 sa ad P n L f0 p l e { frames := 75, cells := 0, slots := 0, locals := 2783 } s m [.ref (ad 40 0), .int p1, .int p2, .int p3, .int p4].toArray below meth c 10 (MQ below (hQ D K b0 (fun v9 u9 => ∃ f2 : Nat → va_E, v9 = some (.int v) ∧ u9 = lU L f2 ∧ PW K ad P S1 L f2 ∧ S1.2.2.1 = n ∧ Kp ad P L f0 f2)) [.ref (ad 40 0), .int p1, .int p2, .int p3, .int p4].toArray s 0 0 (fun q => b0 ≤ q)) 0 0 179 [(0, .ref (ad 40 0)), (1, .int a1), (3, .int a3), (4, .int a4), (5, .int a5), (6, .int a6), (8, .int a8)] [.int t0, .int t1] S := by
    intro k87 hk87 a1 a3 a4 a5 a6 a8 t0 t1 S h
    dsimp only [B_X7_player_179] at h
    intro f H locs w hw hn hk ls hl
    refine lv_iadd hx hb dX7_player_179 ?_
    refine u_iv h (fun x2 h => ?_)
    refine lv_istore (lv' := [(7, .int x2), (0, .ref (ad 40 0)), (1, .int a1), (3, .int a3), (4, .int a4), (5, .int a5), (6, .int a6), (8, .int a8)]) hx hb dX7_player_180 hl (by decide) rfl (fun ls hl => ?_)
    refine lv_iload hx hb dX7_player_182 (lv_at hl 7 rfl) ?_
    refine lv_aload_n hx hb dX7_player_184 rfl (lv_at hl 1 rfl) ?_
    refine u_geti C w hw (hP _ _ (isn_f rfl rfl (by decide))) rfl (N := 57) rfl rfl cin_7 41 (by decide) rfl gw_1197 dX7_player_185 ?_
    refine u_iv h (fun x3 h => ?_)
    refine lv_iconst (v := 5) hx hb dX7_player_188 (by decide) ?_
    refine lv_icmp_ne (tgt := 196) hx hb dX7_player_189 (by decide) (fun c4 => ?_) (fun c4 => ?_)
    · have h := bb_f h c4
      refine lv_iconst (v := 0) hx hb dX7_player_196 (by decide) ?_
      exact J197 k87 hk87 a1 a3 a4 a5 a6 x2 0 a8 S h f H locs w hw hn hk ls (lv_sub hl [1, 2, 3, 4, 5, 6, 0] rfl)
    · have h := bb_t h c4
      refine lv_iconst (v := 1) hx hb dX7_player_192 (by decide) ?_
      refine lv_goto (tgt := 197) hx hb dX7_player_193 (by decide) ?_
      exact J197 k87 hk87 a1 a3 a4 a5 a6 x2 1 a8 S h f H locs w hw hn hk ls (lv_sub hl [1, 2, 3, 4, 5, 6, 0] rfl)
  have J154 : ∀ (k87 : (Int32 × Int32 × Int32 × Int32 × Int32 × Int32 × Int32) → fS → Option (Int32 × fS)) (hk87 : ∀ (a1 : Int32) (a3 : Int32) (a4 : Int32) (a5 : Int32) (a6 : Int32) (a7 : Int32) (a8 : Int32) (S : fS), k87 (a1, a3, a4, a5, a6, a7, a8) S = some (v, S1) → Gw D K b0 sa ad P n L f0 p l e { frames := 75, cells := 0, slots := 0, locals := 2783 } s m [.ref (ad 40 0), .int p1, .int p2, .int p3, .int p4].toArray below meth c 10 (MQ below (hQ D K b0 (fun v9 u9 => ∃ f2 : Nat → va_E, v9 = some (.int v) ∧ u9 = lU L f2 ∧ PW K ad P S1 L f2 ∧ S1.2.2.1 = n ∧ Kp ad P L f0 f2)) [.ref (ad 40 0), .int p1, .int p2, .int p3, .int p4].toArray s 0 0 (fun q => b0 ≤ q)) 0 0 87 [(0, .ref (ad 40 0)), (1, .int a1), (3, .int a3), (4, .int a4), (5, .int a5), (6, .int a6), (7, .int a7), (8, .int a8)] [] S) (a1 : Int32) (a3 : Int32) (a4 : Int32) (a6 : Int32) (a7 : Int32) (a8 : Int32) (a9 : Int32) (t0 : Int32) (t1 : Int32) (S : fS), B_X7_player_154 k87 a1 a3 a4 a6 a7 a8 a9 t0 t1 S = some (v, S1) → Gw D K b0 sa ad P n L f0 p l e { frames := 75, cells := 0, slots := 0, locals := 2783 } s m [.ref (ad 40 0), .int p1, .int p2, .int p3, .int p4].toArray below meth c 10 (MQ below (hQ D K b0 (fun v9 u9 => ∃ f2 : Nat → va_E, v9 = some (.int v) ∧ u9 = lU L f2 ∧ PW K ad P S1 L f2 ∧ S1.2.2.1 = n ∧ Kp ad P L f0 f2)) [.ref (ad 40 0), .int p1, .int p2, .int p3, .int p4].toArray s 0 0 (fun q => b0 ≤ q)) 0 0 154 [(0, .ref (ad 40 0)), (1, .int a1), (3, .int a3), (4, .int a4), (6, .int a6), (7, .int a7), (8, .int a8), (9, .int a9)] [.int t0, .int t1] S := by
    intro k87 hk87 a1 a3 a4 a6 a7 a8 a9 t0 t1 S h
    dsimp only [B_X7_player_154] at h
    intro f H locs w hw hn hk ls hl
    refine lv_iadd hx hb dX7_player_154 ?_
    refine u_iv h (fun x5 h => ?_)
    refine lv_istore (lv' := [(5, .int x5), (0, .ref (ad 40 0)), (1, .int a1), (3, .int a3), (4, .int a4), (6, .int a6), (7, .int a7), (8, .int a8), (9, .int a9)]) hx hb dX7_player_155 hl (by decide) rfl (fun ls hl => ?_)
    refine lv_iload hx hb dX7_player_157 (lv_at hl 0 rfl) ?_
    refine lv_iconst (v := 0) hx hb dX7_player_159 (by decide) ?_
    refine lv_bipush (v := 99) hx hb dX7_player_160 (by decide) ?_
    obtain ⟨v6, S7, h8, h⟩ := bd_some h
    refine t_callS (n := 3) C w (c_X7_within l D K b0 sa _ L _ ad P hP S hw hn x5 0 99 v6 S7 h8) gw_1460 gw_1458 gw_1459 gw_8 ⟨by decide, by decide, by decide +kernel⟩ rfl rfl ⟨by decide, by decide⟩ rfl hl.1 rfl (Nat.le_of_ble_eq_true rfl) dX7_player_162 ⟨Nat.le_of_ble_eq_true rfl, Nat.le_of_ble_eq_true rfl⟩ (fun v9 u H locs hp w => ?_)
    obtain ⟨f2, rfl, rfl, hw, hn, hk1⟩ := hp
    have hk := hk.tr hk1
    generalize f2 = f at w hw hk
    refine lv_istore (lv' := [(5, .int v6), (0, .ref (ad 40 0)), (1, .int a1), (3, .int a3), (4, .int a4), (6, .int a6), (7, .int a7), (8, .int a8), (9, .int a9)]) hx hb dX7_player_165 hl (by decide) rfl (fun ls hl => ?_)
    refine lv_iload hx hb dX7_player_167 (lv_at hl 6 rfl) ?_
    refine lv_iload hx hb dX7_player_169 (lv_at hl 8 rfl) ?_
    refine lv_if_eq (tgt := 178) hx hb dX7_player_171 (by decide) (fun c9 => ?_) (fun c9 => ?_)
    · have h := bb_t h c9
      refine lv_iconst (v := 0) hx hb dX7_player_178 (by decide) ?_
      exact J179 k87 hk87 a1 a3 a4 v6 a6 a8 0 a7 S7 h f H locs w hw hn hk ls (lv_sub hl [1, 2, 3, 4, 0, 5, 7] rfl)
    · have h := bb_f h c9
      refine lv_iconst (v := 1) hx hb dX7_player_174 (by decide) ?_
      refine lv_goto (tgt := 179) hx hb dX7_player_175 (by decide) ?_
      exact J179 k87 hk87 a1 a3 a4 v6 a6 a8 1 a7 S7 h f H locs w hw hn hk ls (lv_sub hl [1, 2, 3, 4, 0, 5, 7] rfl)
  have J127 : ∀ (k87 : (Int32 × Int32 × Int32 × Int32 × Int32 × Int32 × Int32) → fS → Option (Int32 × fS)) (hk87 : ∀ (a1 : Int32) (a3 : Int32) (a4 : Int32) (a5 : Int32) (a6 : Int32) (a7 : Int32) (a8 : Int32) (S : fS), k87 (a1, a3, a4, a5, a6, a7, a8) S = some (v, S1) → Gw D K b0 sa ad P n L f0 p l e { frames := 75, cells := 0, slots := 0, locals := 2783 } s m [.ref (ad 40 0), .int p1, .int p2, .int p3, .int p4].toArray below meth c 10 (MQ below (hQ D K b0 (fun v9 u9 => ∃ f2 : Nat → va_E, v9 = some (.int v) ∧ u9 = lU L f2 ∧ PW K ad P S1 L f2 ∧ S1.2.2.1 = n ∧ Kp ad P L f0 f2)) [.ref (ad 40 0), .int p1, .int p2, .int p3, .int p4].toArray s 0 0 (fun q => b0 ≤ q)) 0 0 87 [(0, .ref (ad 40 0)), (1, .int a1), (3, .int a3), (4, .int a4), (5, .int a5), (6, .int a6), (7, .int a7), (8, .int a8)] [] S) (a1 : Int32) (a3 : Int32) (a4 : Int32) (a5 : Int32) (a6 : Int32) (a7 : Int32) (a8 : Int32) (t0 : Int32) (S : fS), B_X7_player_127 k87 a1 a3 a4 a5 a6 a7 a8 t0 S = some (v, S1) → Gw D K b0 sa ad P n L f0 p l e { frames := 75, cells := 0, slots := 0, locals := 2783 } s m [.ref (ad 40 0), .int p1, .int p2, .int p3, .int p4].toArray below meth c 10 (MQ below (hQ D K b0 (fun v9 u9 => ∃ f2 : Nat → va_E, v9 = some (.int v) ∧ u9 = lU L f2 ∧ PW K ad P S1 L f2 ∧ S1.2.2.1 = n ∧ Kp ad P L f0 f2)) [.ref (ad 40 0), .int p1, .int p2, .int p3, .int p4].toArray s 0 0 (fun q => b0 ≤ q)) 0 0 127 [(0, .ref (ad 40 0)), (1, .int a1), (3, .int a3), (4, .int a4), (5, .int a5), (6, .int a6), (7, .int a7), (8, .int a8)] [.int t0] S := by
    intro k87 hk87 a1 a3 a4 a5 a6 a7 a8 t0 S h
    dsimp only [B_X7_player_127] at h
    intro f H locs w hw hn hk ls hl
    refine lv_istore (lv' := [(9, .int t0), (0, .ref (ad 40 0)), (1, .int a1), (3, .int a3), (4, .int a4), (5, .int a5), (6, .int a6), (7, .int a7), (8, .int a8)]) hx hb dX7_player_127 hl (by decide) rfl (fun ls hl => ?_)
    refine lv_iload hx hb dX7_player_129 (lv_at hl 5 rfl) ?_
    refine lv_iload hx hb dX7_player_131 (lv_at hl 0 rfl) ?_
    refine lv_if_eq (tgt := 140) hx hb dX7_player_133 (by decide) (fun c10 => ?_) (fun c10 => ?_)
    · have h := bb_t h c10
      refine lv_aload_n hx hb dX7_player_140 rfl (lv_at hl 1 rfl) ?_
      refine u_geti C w hw (hP _ _ (isn_f rfl rfl (by decide))) rfl (N := 57) rfl rfl cin_7 41 (by decide) rfl gw_1197 dX7_player_141 ?_
      refine u_iv h (fun x11 h => ?_)
      refine lv_iconst (v := 5) hx hb dX7_player_144 (by decide) ?_
      refine lv_icmp_ne (tgt := 152) hx hb dX7_player_145 (by decide) (fun c12 => ?_) (fun c12 => ?_)
      · have h := bb_f h c12
        refine lv_bipush (v := (-2)) hx hb dX7_player_152 (by decide) ?_
        exact J154 k87 hk87 a1 a3 a4 a6 a7 a8 t0 (-2) a5 S h f H locs w hw hn hk ls (lv_sub hl [1, 2, 3, 4, 6, 7, 8, 0] rfl)
      · have h := bb_t h c12
        refine lv_iconst (v := 5) hx hb dX7_player_148 (by decide) ?_
        refine lv_goto (tgt := 154) hx hb dX7_player_149 (by decide) ?_
        exact J154 k87 hk87 a1 a3 a4 a6 a7 a8 t0 5 a5 S h f H locs w hw hn hk ls (lv_sub hl [1, 2, 3, 4, 6, 7, 8, 0] rfl)
    · have h := bb_f h c10
      refine lv_iconst (v := 1) hx hb dX7_player_136 (by decide) ?_
      refine lv_goto (tgt := 154) hx hb dX7_player_137 (by decide) ?_
      exact J154 k87 hk87 a1 a3 a4 a6 a7 a8 t0 1 a5 S h f H locs w hw hn hk ls (lv_sub hl [1, 2, 3, 4, 6, 7, 8, 0] rfl)
  have J122 : ∀ (k87 : (Int32 × Int32 × Int32 × Int32 × Int32 × Int32 × Int32) → fS → Option (Int32 × fS)) (hk87 : ∀ (a1 : Int32) (a3 : Int32) (a4 : Int32) (a5 : Int32) (a6 : Int32) (a7 : Int32) (a8 : Int32) (S : fS), k87 (a1, a3, a4, a5, a6, a7, a8) S = some (v, S1) → Gw D K b0 sa ad P n L f0 p l e { frames := 75, cells := 0, slots := 0, locals := 2783 } s m [.ref (ad 40 0), .int p1, .int p2, .int p3, .int p4].toArray below meth c 10 (MQ below (hQ D K b0 (fun v9 u9 => ∃ f2 : Nat → va_E, v9 = some (.int v) ∧ u9 = lU L f2 ∧ PW K ad P S1 L f2 ∧ S1.2.2.1 = n ∧ Kp ad P L f0 f2)) [.ref (ad 40 0), .int p1, .int p2, .int p3, .int p4].toArray s 0 0 (fun q => b0 ≤ q)) 0 0 87 [(0, .ref (ad 40 0)), (1, .int a1), (3, .int a3), (4, .int a4), (5, .int a5), (6, .int a6), (7, .int a7), (8, .int a8)] [] S) (a1 : Int32) (a3 : Int32) (a4 : Int32) (a5 : Int32) (a6 : Int32) (a7 : Int32) (a8 : Int32) (S : fS), B_X7_player_122 k87 a1 a3 a4 a5 a6 a7 a8 S = some (v, S1) → Gw D K b0 sa ad P n L f0 p l e { frames := 75, cells := 0, slots := 0, locals := 2783 } s m [.ref (ad 40 0), .int p1, .int p2, .int p3, .int p4].toArray below meth c 10 (MQ below (hQ D K b0 (fun v9 u9 => ∃ f2 : Nat → va_E, v9 = some (.int v) ∧ u9 = lU L f2 ∧ PW K ad P S1 L f2 ∧ S1.2.2.1 = n ∧ Kp ad P L f0 f2)) [.ref (ad 40 0), .int p1, .int p2, .int p3, .int p4].toArray s 0 0 (fun q => b0 ≤ q)) 0 0 122 [(0, .ref (ad 40 0)), (1, .int a1), (3, .int a3), (4, .int a4), (5, .int a5), (6, .int a6), (7, .int a7), (8, .int a8)] [] S := by
    intro k87 hk87 a1 a3 a4 a5 a6 a7 a8 S h
    dsimp only [B_X7_player_122] at h
    intro f H locs w hw hn hk ls hl
    refine lv_iconst (v := 1) hx hb dX7_player_122 (by decide) ?_
    refine lv_goto (tgt := 127) hx hb dX7_player_123 (by decide) ?_
    exact J127 k87 hk87 a1 a3 a4 a5 a6 a7 a8 1 S h f H locs w hw hn hk ls (lv_sub hl [0, 1, 2, 3, 4, 5, 6, 7] rfl)
  have J203 : ∀ (a3 : Int32) (a4 : Int32) (a5 : Int32) (a6 : Int32) (a7 : Int32) (a8 : Int32) (S : fS), B_X7_player_203  a3 a4 a5 a6 a7 a8 S = some (v, S1) → Gw D K b0 sa ad P n L f0 p l e { frames := 75, cells := 0, slots := 0, locals := 2783 } s m [.ref (ad 40 0), .int p1, .int p2, .int p3, .int p4].toArray below meth c 10 (MQ below (hQ D K b0 (fun v9 u9 => ∃ f2 : Nat → va_E, v9 = some (.int v) ∧ u9 = lU L f2 ∧ PW K ad P S1 L f2 ∧ S1.2.2.1 = n ∧ Kp ad P L f0 f2)) [.ref (ad 40 0), .int p1, .int p2, .int p3, .int p4].toArray s 0 0 (fun q => b0 ≤ q)) 0 0 203 [(0, .ref (ad 40 0)), (3, .int a3), (4, .int a4), (5, .int a5), (6, .int a6), (7, .int a7), (8, .int a8)] [] S := by
    intro a3 a4 a5 a6 a7 a8 S h
    dsimp only [B_X7_player_203] at h
    intro f H locs w hw hn hk ls hl
    refine lv_aload_n hx hb dX7_player_203 rfl (lv_at hl 0 rfl) ?_
    refine lv_iconst (v := 3) hx hb dX7_player_204 (by decide) ?_
    obtain ⟨v13, S14, h15, h⟩ := bd_some h
    refine u_callV (n := 1) C w hw (hP _ _ (isn_f rfl rfl (by decide))) rfl rfl rfl (c_X7_laysBack l D K b0 sa _ L _ ad P hP S hw hn 3 v13 S14 h15) gw_1641 gw_1638 gw_1640 gs_65 gw_8 ⟨by decide, by decide, by decide +kernel⟩ rfl rfl ⟨by decide, by decide⟩ rfl hl.1 rfl (Nat.le_of_ble_eq_true rfl) dX7_player_205 ⟨Nat.le_of_ble_eq_true rfl, Nat.le_of_ble_eq_true rfl⟩ (fun v9 u H locs hp w => ?_)
    obtain ⟨f2, rfl, rfl, hw, hn, hk1⟩ := hp
    have hk := hk.tr hk1
    generalize f2 = f at w hw hk
    refine lv_iload hx hb dX7_player_208 (lv_at hl 2 rfl) ?_
    refine lv_if_ne (tgt := 220) hx hb dX7_player_210 (by decide) (fun c16 => ?_) (fun c16 => ?_)
    · have h := bb_f h c16
      refine lv_iload hx hb dX7_player_220 (lv_at hl 2 rfl) ?_
      refine lv_iconst (v := 1) hx hb dX7_player_222 (by decide) ?_
      refine lv_icmp_ne (tgt := 231) hx hb dX7_player_223 (by decide) (fun c17 => ?_) (fun c17 => ?_)
      · have h := bb_f h c17
        refine lv_iload hx hb dX7_player_231 (lv_at hl 2 rfl) ?_
        refine lv_iconst (v := 2) hx hb dX7_player_233 (by decide) ?_
        refine lv_icmp_ne (tgt := 242) hx hb dX7_player_234 (by decide) (fun c18 => ?_) (fun c18 => ?_)
        · have h := bb_f h c18
          refine lv_iload hx hb dX7_player_242 (lv_at hl 6 rfl) ?_
          exact t_iret C hr hlk w ⟨_, so_v h, rfl, so_w h hw, so_n h hn, hk⟩ (by decide) (by decide) dX7_player_244
        · have h := bb_t h c18
          refine lv_iload hx hb dX7_player_237 (lv_at hl 3 rfl) ?_
          refine lv_goto (tgt := 244) hx hb dX7_player_239 (by decide) ?_
          exact t_iret C hr hlk w ⟨_, so_v h, rfl, so_w h hw, so_n h hn, hk⟩ (by decide) (by decide) dX7_player_244
      · have h := bb_t h c17
        refine lv_iload hx hb dX7_player_226 (lv_at hl 5 rfl) ?_
        refine lv_goto (tgt := 244) hx hb dX7_player_228 (by decide) ?_
        exact t_iret C hr hlk w ⟨_, so_v h, rfl, so_w h hw, so_n h hn, hk⟩ (by decide) (by decide) dX7_player_244
    · have h := bb_t h c16
      refine lv_iload_n hx hb dX7_player_213 rfl (lv_at hl 1 rfl) ?_
      refine lv_iload hx hb dX7_player_214 (lv_at hl 4 rfl) ?_
      refine lv_isub hx hb dX7_player_216 ?_
      refine u_iv h (fun x19 h => ?_)
      refine lv_goto (tgt := 244) hx hb dX7_player_217 (by decide) ?_
      exact t_iret C hr hlk w ⟨_, so_v h, rfl, so_w h hw, so_n h hn, hk⟩ (by decide) (by decide) dX7_player_244
  have J87 : ∀ (fu : Nat) (a1 : Int32) (a3 : Int32) (a4 : Int32) (a5 : Int32) (a6 : Int32) (a7 : Int32) (a8 : Int32) (S : fS), lp (B_X7_player_87 ) fu (a1, a3, a4, a5, a6, a7, a8) S = some (v, S1) → Gw D K b0 sa ad P n L f0 p l e { frames := 75, cells := 0, slots := 0, locals := 2783 } s m [.ref (ad 40 0), .int p1, .int p2, .int p3, .int p4].toArray below meth c 10 (MQ below (hQ D K b0 (fun v9 u9 => ∃ f2 : Nat → va_E, v9 = some (.int v) ∧ u9 = lU L f2 ∧ PW K ad P S1 L f2 ∧ S1.2.2.1 = n ∧ Kp ad P L f0 f2)) [.ref (ad 40 0), .int p1, .int p2, .int p3, .int p4].toArray s 0 0 (fun q => b0 ≤ q)) 0 0 87 [(0, .ref (ad 40 0)), (1, .int a1), (3, .int a3), (4, .int a4), (5, .int a5), (6, .int a6), (7, .int a7), (8, .int a8)] [] S := by
    intro fu a1 a3 a4 a5 a6 a7 a8 S h
    refine lp_some (G := (fun q S => Gw D K b0 sa ad P n L f0 p l e { frames := 75, cells := 0, slots := 0, locals := 2783 } s m [.ref (ad 40 0), .int p1, .int p2, .int p3, .int p4].toArray below meth c 10 (MQ below (hQ D K b0 (fun v9 u9 => ∃ f2 : Nat → va_E, v9 = some (.int v) ∧ u9 = lU L f2 ∧ PW K ad P S1 L f2 ∧ S1.2.2.1 = n ∧ Kp ad P L f0 f2)) [.ref (ad 40 0), .int p1, .int p2, .int p3, .int p4].toArray s 0 0 (fun q => b0 ≤ q)) 0 0 87 [(0, .ref (ad 40 0)), (1, .int q.1), (3, .int q.2.1), (4, .int q.2.2.1), (5, .int q.2.2.2.1), (6, .int q.2.2.2.2.1), (7, .int q.2.2.2.2.2.1), (8, .int q.2.2.2.2.2.2)] [] S)) (fun k87 hk87 q S h => ?_) fu (a1, a3, a4, a5, a6, a7, a8) S h
    obtain ⟨a1, a3, a4, a5, a6, a7, a8⟩ := q
    have hk87 : ∀ (a1 : Int32) (a3 : Int32) (a4 : Int32) (a5 : Int32) (a6 : Int32) (a7 : Int32) (a8 : Int32) (S : fS), k87 (a1, a3, a4, a5, a6, a7, a8) S = some (v, S1) → Gw D K b0 sa ad P n L f0 p l e { frames := 75, cells := 0, slots := 0, locals := 2783 } s m [.ref (ad 40 0), .int p1, .int p2, .int p3, .int p4].toArray below meth c 10 (MQ below (hQ D K b0 (fun v9 u9 => ∃ f2 : Nat → va_E, v9 = some (.int v) ∧ u9 = lU L f2 ∧ PW K ad P S1 L f2 ∧ S1.2.2.1 = n ∧ Kp ad P L f0 f2)) [.ref (ad 40 0), .int p1, .int p2, .int p3, .int p4].toArray s 0 0 (fun q => b0 ≤ q)) 0 0 87 [(0, .ref (ad 40 0)), (1, .int a1), (3, .int a3), (4, .int a4), (5, .int a5), (6, .int a6), (7, .int a7), (8, .int a8)] [] S := fun a1 a3 a4 a5 a6 a7 a8 S h => hk87 (a1, a3, a4, a5, a6, a7, a8) S h
    dsimp only [B_X7_player_87] at h
    intro f H locs w hw hn hk ls hl
    refine lv_iload hx hb dX7_player_87 (lv_at hl 4 rfl) ?_
    refine lv_if_le (tgt := 203) hx hb dX7_player_89 (by decide) (fun c20 => ?_) (fun c20 => ?_)
    · have h := bb_t h c20
      exact J203  a3 a4 a5 a6 a7 a8 S h f H locs w hw hn hk ls (lv_sub hl [0, 2, 3, 4, 5, 6, 7] rfl)
    · have h := bb_f h c20
      refine lv_iload hx hb dX7_player_92 (lv_at hl 5 rfl) ?_
      refine lv_if_le (tgt := 203) hx hb dX7_player_94 (by decide) (fun c21 => ?_) (fun c21 => ?_)
      · have h := bb_t h c21
        exact J203  a3 a4 a5 a6 a7 a8 S h f H locs w hw hn hk ls (lv_sub hl [0, 2, 3, 4, 5, 6, 7] rfl)
      · have h := bb_f h c21
        refine lv_aload_n hx hb dX7_player_97 rfl (lv_at hl 0 rfl) ?_
        refine lv_iload_n hx hb dX7_player_98 rfl (lv_at hl 1 rfl) ?_
        refine lv_iconst (v := 0) hx hb dX7_player_99 (by decide) ?_
        obtain ⟨v22, S23, h24, h⟩ := bd_some h
        refine u_callV (n := 2) C w hw (hP _ _ (isn_f rfl rfl (by decide))) rfl rfl rfl (c_X7_triesAt l D K b0 sa _ L _ ad P hP S hw hn a1 0 v22 S23 h24) gw_1557 gw_1554 gw_1556 gs_57 gw_8 ⟨by decide, by decide, by decide +kernel⟩ rfl rfl ⟨by decide, by decide⟩ rfl hl.1 rfl (Nat.le_of_ble_eq_true rfl) dX7_player_100 ⟨Nat.le_of_ble_eq_true rfl, Nat.le_of_ble_eq_true rfl⟩ (fun v9 u H locs hp w => ?_)
        obtain ⟨f2, rfl, rfl, hw, hn, hk1⟩ := hp
        have hk := hk.tr hk1
        generalize f2 = f at w hw hk
        obtain ⟨x25, ex25, h⟩ := iv_some h
        refine lv_iinc (v := x25) (lv' := [(6, .int x25), (0, .ref (ad 40 0)), (1, .int a1), (3, .int a3), (4, .int a4), (5, .int a5), (7, .int a7), (8, .int a8)]) hx hb dX7_player_103 hl (k := 5) rfl ex25.symm (by decide) rfl (fun ls hl => ?_)
        refine lv_aload_n hx hb dX7_player_106 rfl (lv_at hl 1 rfl) ?_
        refine u_geti C w hw (hP _ _ (isn_f rfl rfl (by decide))) rfl (N := 57) rfl rfl cin_7 41 (by decide) rfl gw_1197 dX7_player_107 ?_
        refine u_iv h (fun x26 h => ?_)
        refine lv_iconst (v := 2) hx hb dX7_player_110 (by decide) ?_
        refine lv_icmp_eq (tgt := 122) hx hb dX7_player_111 (by decide) (fun c27 => ?_) (fun c27 => ?_)
        · have h := bb_t h c27
          exact J122 k87 hk87 a1 a3 a4 a5 x25 a7 a8 S23 h f H locs w hw hn hk ls (lv_sub hl [1, 2, 3, 4, 5, 0, 6, 7] rfl)
        · have h := bb_f h c27
          refine lv_aload_n hx hb dX7_player_114 rfl (lv_at hl 1 rfl) ?_
          refine u_geti C w hw (hP _ _ (isn_f rfl rfl (by decide))) rfl (N := 57) rfl rfl cin_7 41 (by decide) rfl gw_1197 dX7_player_115 ?_
          refine u_iv h (fun x28 h => ?_)
          refine lv_iconst (v := 3) hx hb dX7_player_118 (by decide) ?_
          refine lv_icmp_ne (tgt := 126) hx hb dX7_player_119 (by decide) (fun c29 => ?_) (fun c29 => ?_)
          · have h := bb_f h c29
            refine lv_iconst (v := 0) hx hb dX7_player_126 (by decide) ?_
            exact J127 k87 hk87 a1 a3 a4 a5 x25 a7 a8 0 S23 h f H locs w hw hn hk ls (lv_sub hl [1, 2, 3, 4, 5, 0, 6, 7] rfl)
          · have h := bb_t h c29
            exact J122 k87 hk87 a1 a3 a4 a5 x25 a7 a8 S23 h f H locs w hw hn hk ls (lv_sub hl [1, 2, 3, 4, 5, 0, 6, 7] rfl)
  have J61 : ∀ (a1 : Int32) (a2 : Int32) (a3 : Int32) (a4 : Int32) (t0 : Int32) (S : fS), B_X7_player_61  a1 a2 a3 a4 t0 S = some (v, S1) → Gw D K b0 sa ad P n L f0 p l e { frames := 75, cells := 0, slots := 0, locals := 2783 } s m [.ref (ad 40 0), .int p1, .int p2, .int p3, .int p4].toArray below meth c 10 (MQ below (hQ D K b0 (fun v9 u9 => ∃ f2 : Nat → va_E, v9 = some (.int v) ∧ u9 = lU L f2 ∧ PW K ad P S1 L f2 ∧ S1.2.2.1 = n ∧ Kp ad P L f0 f2)) [.ref (ad 40 0), .int p1, .int p2, .int p3, .int p4].toArray s 0 0 (fun q => b0 ≤ q)) 0 0 61 [(0, .ref (ad 40 0)), (1, .int a1), (2, .int a2), (3, .int a3), (4, .int a4)] [.int t0, .ref (ad 40 0)] S := by
    intro a1 a2 a3 a4 t0 S h
    dsimp only [B_X7_player_61] at h
    intro f H locs w hw hn hk ls hl
    refine lv_iconst (v := 2) hx hb dX7_player_61 (by decide) ?_
    obtain ⟨v30, S31, h32, h⟩ := bd_some h
    refine u_callV (n := 2) C w hw (hP _ _ (isn_f rfl rfl (by decide))) rfl rfl rfl (c_X7_bad l D K b0 sa _ L _ ad P hP S hw hn t0 2 v30 S31 h32) gw_1347 gw_1344 gw_1346 gs_22 gw_8 ⟨by decide, by decide, by decide +kernel⟩ rfl rfl ⟨by decide, by decide⟩ rfl hl.1 rfl (Nat.le_of_ble_eq_true rfl) dX7_player_62 ⟨Nat.le_of_ble_eq_true rfl, Nat.le_of_ble_eq_true rfl⟩ (fun v9 u H locs hp w => ?_)
    obtain ⟨f2, rfl, rfl, hw, hn, hk1⟩ := hp
    have hk := hk.tr hk1
    generalize f2 = f at w hw hk
    refine lv_if_eq (tgt := 70) hx hb dX7_player_65 (by decide) (fun c33 => ?_) (fun c33 => ?_)
    · have h := bb_t h c33
      refine lv_iload_n hx hb dX7_player_70 rfl (lv_at hl 2 rfl) ?_
      refine lv_istore (lv' := [(5, .int a2), (0, .ref (ad 40 0)), (1, .int a1), (2, .int a2), (3, .int a3), (4, .int a4)]) hx hb dX7_player_71 hl (by decide) rfl (fun ls hl => ?_)
      refine lv_iload_n hx hb dX7_player_73 rfl (lv_at hl 4 rfl) ?_
      refine lv_istore (lv' := [(6, .int a3), (5, .int a2), (0, .ref (ad 40 0)), (1, .int a1), (2, .int a2), (3, .int a3), (4, .int a4)]) hx hb dX7_player_74 hl (by decide) rfl (fun ls hl => ?_)
      refine lv_iconst (v := 0) hx hb dX7_player_76 (by decide) ?_
      refine lv_istore (lv' := [(7, .int 0), (6, .int a3), (5, .int a2), (0, .ref (ad 40 0)), (1, .int a1), (2, .int a2), (3, .int a3), (4, .int a4)]) hx hb dX7_player_77 hl (by decide) rfl (fun ls hl => ?_)
      refine lv_iconst (v := 0) hx hb dX7_player_79 (by decide) ?_
      refine lv_istore (lv' := [(8, .int 0), (7, .int 0), (6, .int a3), (5, .int a2), (0, .ref (ad 40 0)), (1, .int a1), (2, .int a2), (3, .int a3), (4, .int a4)]) hx hb dX7_player_80 hl (by decide) rfl (fun ls hl => ?_)
      refine lv_aload_n hx hb dX7_player_82 rfl (lv_at hl 4 rfl) ?_
      refine lv_iconst (v := 3) hx hb dX7_player_83 (by decide) ?_
      obtain ⟨v34, S35, h36, h⟩ := bd_some h
      refine u_callV (n := 1) C w hw (hP _ _ (isn_f rfl rfl (by decide))) rfl rfl rfl (c_X7_lays l D K b0 sa _ L _ ad P hP S31 hw hn 3 v34 S35 h36) gw_1637 gw_1634 gw_1636 gs_64 gw_8 ⟨by decide, by decide, by decide +kernel⟩ rfl rfl ⟨by decide, by decide⟩ rfl hl.1 rfl (Nat.le_of_ble_eq_true rfl) dX7_player_84 ⟨Nat.le_of_ble_eq_true rfl, Nat.le_of_ble_eq_true rfl⟩ (fun v9 u H locs hp w => ?_)
      obtain ⟨f2, rfl, rfl, hw, hn, hk1⟩ := hp
      have hk := hk.tr hk1
      generalize f2 = f at w hw hk
      exact J87  fuel a1 a3 a4 a2 a3 0 0 S35 h f H locs w hw hn hk ls (lv_sub hl [4, 5, 7, 8, 3, 2, 1, 0] rfl)
    · have h := bb_f h c33
      refine lv_iconst (v := 0) hx hb dX7_player_68 (by decide) ?_
      exact t_iret C hr hlk w ⟨_, so_v h, rfl, so_w h hw, so_n h hn, hk⟩ (by decide) (by decide) dX7_player_69
  have J56 : ∀ (a1 : Int32) (a2 : Int32) (a3 : Int32) (a4 : Int32) (S : fS), B_X7_player_56  a1 a2 a3 a4 S = some (v, S1) → Gw D K b0 sa ad P n L f0 p l e { frames := 75, cells := 0, slots := 0, locals := 2783 } s m [.ref (ad 40 0), .int p1, .int p2, .int p3, .int p4].toArray below meth c 10 (MQ below (hQ D K b0 (fun v9 u9 => ∃ f2 : Nat → va_E, v9 = some (.int v) ∧ u9 = lU L f2 ∧ PW K ad P S1 L f2 ∧ S1.2.2.1 = n ∧ Kp ad P L f0 f2)) [.ref (ad 40 0), .int p1, .int p2, .int p3, .int p4].toArray s 0 0 (fun q => b0 ≤ q)) 0 0 56 [(0, .ref (ad 40 0)), (1, .int a1), (2, .int a2), (3, .int a3), (4, .int a4)] [.ref (ad 40 0)] S := by
    intro a1 a2 a3 a4 S h
    dsimp only [B_X7_player_56] at h
    intro f H locs w hw hn hk ls hl
    refine lv_iconst (v := 1) hx hb dX7_player_56 (by decide) ?_
    refine lv_goto (tgt := 61) hx hb dX7_player_57 (by decide) ?_
    exact J61  a1 a2 a3 a4 1 S h f H locs w hw hn hk ls (lv_sub hl [0, 1, 2, 3, 4] rfl)
  have J18 : ∀ (a1 : Int32) (a2 : Int32) (a3 : Int32) (a4 : Int32) (t0 : Int32) (S : fS), B_X7_player_18  a1 a2 a3 a4 t0 S = some (v, S1) → Gw D K b0 sa ad P n L f0 p l e { frames := 75, cells := 0, slots := 0, locals := 2783 } s m [.ref (ad 40 0), .int p1, .int p2, .int p3, .int p4].toArray below meth c 10 (MQ below (hQ D K b0 (fun v9 u9 => ∃ f2 : Nat → va_E, v9 = some (.int v) ∧ u9 = lU L f2 ∧ PW K ad P S1 L f2 ∧ S1.2.2.1 = n ∧ Kp ad P L f0 f2)) [.ref (ad 40 0), .int p1, .int p2, .int p3, .int p4].toArray s 0 0 (fun q => b0 ≤ q)) 0 0 18 [(0, .ref (ad 40 0)), (1, .int a1), (2, .int a2), (3, .int a3), (4, .int a4)] [.int t0, .ref (ad 40 0)] S := by
    intro a1 a2 a3 a4 t0 S h
    dsimp only [B_X7_player_18] at h
    intro f H locs w hw hn hk ls hl
    refine lv_iconst (v := 1) hx hb dX7_player_18 (by decide) ?_
    obtain ⟨v37, S38, h39, h⟩ := bd_some h
    refine u_callV (n := 2) C w hw (hP _ _ (isn_f rfl rfl (by decide))) rfl rfl rfl (c_X7_bad l D K b0 sa _ L _ ad P hP S hw hn t0 1 v37 S38 h39) gw_1347 gw_1344 gw_1346 gs_22 gw_8 ⟨by decide, by decide, by decide +kernel⟩ rfl rfl ⟨by decide, by decide⟩ rfl hl.1 rfl (Nat.le_of_ble_eq_true rfl) dX7_player_19 ⟨Nat.le_of_ble_eq_true rfl, Nat.le_of_ble_eq_true rfl⟩ (fun v9 u H locs hp w => ?_)
    obtain ⟨f2, rfl, rfl, hw, hn, hk1⟩ := hp
    have hk := hk.tr hk1
    generalize f2 = f at w hw hk
    refine lv_if_ne (tgt := 68) hx hb dX7_player_22 (by decide) (fun c40 => ?_) (fun c40 => ?_)
    · have h := bb_f h c40
      refine lv_iconst (v := 0) hx hb dX7_player_68 (by decide) ?_
      exact t_iret C hr hlk w ⟨_, so_v h, rfl, so_w h hw, so_n h hn, hk⟩ (by decide) (by decide) dX7_player_69
    · have h := bb_t h c40
      refine lv_aload_n hx hb dX7_player_25 rfl (lv_at hl 0 rfl) ?_
      refine lv_iload_n hx hb dX7_player_26 rfl (lv_at hl 2 rfl) ?_
      refine lv_iconst (v := 1) hx hb dX7_player_27 (by decide) ?_
      refine lv_bipush (v := 99) hx hb dX7_player_28 (by decide) ?_
      obtain ⟨v41, S42, h43, h⟩ := bd_some h
      refine t_callS (n := 3) C w (c_X7_in l D K b0 sa _ L _ ad P hP S38 hw hn a2 1 99 v41 S42 h43) gw_1343 gw_1341 gw_1342 gw_8 ⟨by decide, by decide, by decide +kernel⟩ rfl rfl ⟨by decide, by decide⟩ rfl hl.1 rfl (Nat.le_of_ble_eq_true rfl) dX7_player_30 ⟨Nat.le_of_ble_eq_true rfl, Nat.le_of_ble_eq_true rfl⟩ (fun v9 u H locs hp w => ?_)
      obtain ⟨f2, rfl, rfl, hw, hn, hk1⟩ := hp
      have hk := hk.tr hk1
      generalize f2 = f at w hw hk
      refine lv_if_eq (tgt := 56) hx hb dX7_player_33 (by decide) (fun c44 => ?_) (fun c44 => ?_)
      · have h := bb_t h c44
        exact J56  a1 a2 a3 a4 S42 h f H locs w hw hn hk ls (lv_sub hl [0, 1, 2, 3, 4] rfl)
      · have h := bb_f h c44
        refine lv_iload_n hx hb dX7_player_36 rfl (lv_at hl 3 rfl) ?_
        refine lv_iconst (v := 0) hx hb dX7_player_37 (by decide) ?_
        refine lv_bipush (v := 99) hx hb dX7_player_38 (by decide) ?_
        obtain ⟨v45, S46, h47, h⟩ := bd_some h
        refine t_callS (n := 3) C w (c_X7_in l D K b0 sa _ L _ ad P hP S42 hw hn a3 0 99 v45 S46 h47) gw_1343 gw_1341 gw_1342 gw_8 ⟨by decide, by decide, by decide +kernel⟩ rfl rfl ⟨by decide, by decide⟩ rfl hl.1 rfl (Nat.le_of_ble_eq_true rfl) dX7_player_40 ⟨Nat.le_of_ble_eq_true rfl, Nat.le_of_ble_eq_true rfl⟩ (fun v9 u H locs hp w => ?_)
        obtain ⟨f2, rfl, rfl, hw, hn, hk1⟩ := hp
        have hk := hk.tr hk1
        generalize f2 = f at w hw hk
        refine lv_if_eq (tgt := 56) hx hb dX7_player_43 (by decide) (fun c48 => ?_) (fun c48 => ?_)
        · have h := bb_t h c48
          exact J56  a1 a2 a3 a4 S46 h f H locs w hw hn hk ls (lv_sub hl [0, 1, 2, 3, 4] rfl)
        · have h := bb_f h c48
          refine lv_iload hx hb dX7_player_46 (lv_at hl 4 rfl) ?_
          refine lv_iconst (v := 0) hx hb dX7_player_48 (by decide) ?_
          refine lv_iconst (v := 3) hx hb dX7_player_49 (by decide) ?_
          obtain ⟨v49, S50, h51, h⟩ := bd_some h
          refine t_callS (n := 3) C w (c_X7_in l D K b0 sa _ L _ ad P hP S46 hw hn a4 0 3 v49 S50 h51) gw_1343 gw_1341 gw_1342 gw_8 ⟨by decide, by decide, by decide +kernel⟩ rfl rfl ⟨by decide, by decide⟩ rfl hl.1 rfl (Nat.le_of_ble_eq_true rfl) dX7_player_50 ⟨Nat.le_of_ble_eq_true rfl, Nat.le_of_ble_eq_true rfl⟩ (fun v9 u H locs hp w => ?_)
          obtain ⟨f2, rfl, rfl, hw, hn, hk1⟩ := hp
          have hk := hk.tr hk1
          generalize f2 = f at w hw hk
          refine lv_if_ne (tgt := 60) hx hb dX7_player_53 (by decide) (fun c52 => ?_) (fun c52 => ?_)
          · have h := bb_f h c52
            refine lv_iconst (v := 0) hx hb dX7_player_60 (by decide) ?_
            exact J61  a1 a2 a3 a4 0 S50 h f H locs w hw hn hk ls (lv_sub hl [0, 1, 2, 3, 4] rfl)
          · have h := bb_t h c52
            exact J56  a1 a2 a3 a4 S50 h f H locs w hw hn hk ls (lv_sub hl [0, 1, 2, 3, 4] rfl)
  dsimp only [F_X7_player] at h
  obtain ⟨f, ef⟩ : ∃ z, z = f0 := ⟨_, rfl⟩
  rw [← ef] at w hw
  have hk : Kp ad P L f0 f := by rw [ef]; exact Kp.rf
  obtain ⟨H, eH⟩ : ∃ z, z = s.heap := ⟨_, rfl⟩
  obtain ⟨locs, el⟩ : ∃ z : List Loc, z = [] := ⟨_, rfl⟩
  rw [← eH, ← el] at w ⊢
  refine lv_aload_n hx hb dX7_player_0 rfl (lv_at hl 0 rfl) ?_
  refine lv_iconst (v := 0) hx hb dX7_player_1 (by decide) ?_
  refine u_puti C w hw (hP _ _ (isn_f rfl rfl (by decide))) rfl (N := 57) rfl rfl cin_7 tyX7 tyX7_ok nmX7 0 (by decide) rfl rfl rfl rfl gw_1156 dX7_player_2 (fun f H locs w hw hk1 => ?_)
  have hk := hk.tr hk1
  refine u_sv h hw hn (fun S53 h hw hn => ?_)
  refine lv_aload_n hx hb dX7_player_5 rfl (lv_at hl 0 rfl) ?_
  refine lv_iload_n hx hb dX7_player_6 rfl (lv_at hl 1 rfl) ?_
  obtain ⟨v54, S55, h56, h⟩ := bd_some h
  refine t_callS (n := 1) C w (c_X7_isCell l D K b0 sa _ L _ ad P hP S53 hw hn p1 v54 S55 h56) gw_1467 gw_1465 gw_1466 gw_8 ⟨by decide, by decide, by decide +kernel⟩ rfl rfl ⟨by decide, by decide⟩ rfl hl.1 rfl (Nat.le_of_ble_eq_true rfl) dX7_player_7 ⟨Nat.le_of_ble_eq_true rfl, Nat.le_of_ble_eq_true rfl⟩ (fun v9 u H locs hp w => ?_)
  obtain ⟨f2, rfl, rfl, hw, hn, hk1⟩ := hp
  have hk := hk.tr hk1
  generalize f2 = f at w hw hk
  refine lv_if_ne (tgt := 17) hx hb dX7_player_10 (by decide) (fun c57 => ?_) (fun c57 => ?_)
  · have h := bb_f h c57
    refine lv_iconst (v := 0) hx hb dX7_player_17 (by decide) ?_
    exact J18  p1 p2 p3 p4 0 S55 h f H locs w hw hn hk ls (lv_sub hl [0, 1, 2, 3, 4] rfl)
  · have h := bb_t h c57
    refine lv_iconst (v := 1) hx hb dX7_player_13 (by decide) ?_
    refine lv_goto (tgt := 18) hx hb dX7_player_14 (by decide) ?_
    exact J18  p1 p2 p3 p4 1 S55 h f H locs w hw hn hk ls (lv_sub hl [0, 1, 2, 3, 4] rfl)
theorem dX7_odds_0 : decode cX7_odds 0 = .ok (.aload_n 0, 1) := by decide +kernel
theorem dX7_odds_1 : decode cX7_odds 1 = .ok (.iconst 0, 1) := by decide +kernel
theorem dX7_odds_2 : decode cX7_odds 2 = .ok (.putfield 97, 3) := by decide +kernel
theorem dX7_odds_5 : decode cX7_odds 5 = .ok (.aload_n 0, 1) := by decide +kernel
theorem dX7_odds_6 : decode cX7_odds 6 = .ok (.aload_n 0, 1) := by decide +kernel
theorem dX7_odds_7 : decode cX7_odds 7 = .ok (.iload_n 1, 1) := by decide +kernel
theorem dX7_odds_8 : decode cX7_odds 8 = .ok (.invokevirtual 333, 3) := by decide +kernel
theorem dX7_odds_11 : decode cX7_odds 11 = .ok (.ifCond .ne 7, 3) := by decide +kernel
theorem dX7_odds_14 : decode cX7_odds 14 = .ok (.iconst 1, 1) := by decide +kernel
theorem dX7_odds_15 : decode cX7_odds 15 = .ok (.goto 4, 3) := by decide +kernel
theorem dX7_odds_18 : decode cX7_odds 18 = .ok (.iconst 0, 1) := by decide +kernel
theorem dX7_odds_19 : decode cX7_odds 19 = .ok (.iconst 1, 1) := by decide +kernel
theorem dX7_odds_20 : decode cX7_odds 20 = .ok (.invokevirtual 206, 3) := by decide +kernel
theorem dX7_odds_23 : decode cX7_odds 23 = .ok (.ifCond .ne 46, 3) := by decide +kernel
theorem dX7_odds_26 : decode cX7_odds 26 = .ok (.aload_n 0, 1) := by decide +kernel
theorem dX7_odds_27 : decode cX7_odds 27 = .ok (.iload_n 2, 1) := by decide +kernel
theorem dX7_odds_28 : decode cX7_odds 28 = .ok (.invokestatic 253, 3) := by decide +kernel
theorem dX7_odds_31 : decode cX7_odds 31 = .ok (.ifCond .ne 7, 3) := by decide +kernel
theorem dX7_odds_34 : decode cX7_odds 34 = .ok (.iconst 1, 1) := by decide +kernel
theorem dX7_odds_35 : decode cX7_odds 35 = .ok (.goto 4, 3) := by decide +kernel
theorem dX7_odds_38 : decode cX7_odds 38 = .ok (.iconst 0, 1) := by decide +kernel
theorem dX7_odds_39 : decode cX7_odds 39 = .ok (.iconst 2, 1) := by decide +kernel
theorem dX7_odds_40 : decode cX7_odds 40 = .ok (.invokevirtual 206, 3) := by decide +kernel
theorem dX7_odds_43 : decode cX7_odds 43 = .ok (.ifCond .ne 26, 3) := by decide +kernel
theorem dX7_odds_46 : decode cX7_odds 46 = .ok (.aload_n 0, 1) := by decide +kernel
theorem dX7_odds_47 : decode cX7_odds 47 = .ok (.iload_n 3, 1) := by decide +kernel
theorem dX7_odds_48 : decode cX7_odds 48 = .ok (.iconst 0, 1) := by decide +kernel
theorem dX7_odds_49 : decode cX7_odds 49 = .ok (.bipush 35, 2) := by decide +kernel
theorem dX7_odds_51 : decode cX7_odds 51 = .ok (.invokestatic 100, 3) := by decide +kernel
theorem dX7_odds_54 : decode cX7_odds 54 = .ok (.ifCond .ne 7, 3) := by decide +kernel
theorem dX7_odds_57 : decode cX7_odds 57 = .ok (.iconst 1, 1) := by decide +kernel
theorem dX7_odds_58 : decode cX7_odds 58 = .ok (.goto 4, 3) := by decide +kernel
theorem dX7_odds_61 : decode cX7_odds 61 = .ok (.iconst 0, 1) := by decide +kernel
theorem dX7_odds_62 : decode cX7_odds 62 = .ok (.iconst 3, 1) := by decide +kernel
theorem dX7_odds_63 : decode cX7_odds 63 = .ok (.invokevirtual 206, 3) := by decide +kernel
theorem dX7_odds_66 : decode cX7_odds 66 = .ok (.ifCond .eq 5, 3) := by decide +kernel
theorem dX7_odds_69 : decode cX7_odds 69 = .ok (.iconst 0, 1) := by decide +kernel
theorem dX7_odds_70 : decode cX7_odds 70 = .ok (.ireturn, 1) := by decide +kernel
theorem dX7_odds_71 : decode cX7_odds 71 = .ok (.iconst 0, 1) := by decide +kernel
theorem dX7_odds_72 : decode cX7_odds 72 = .ok (.istore 4, 2) := by decide +kernel
theorem dX7_odds_74 : decode cX7_odds 74 = .ok (.aload_n 0, 1) := by decide +kernel
theorem dX7_odds_75 : decode cX7_odds 75 = .ok (.iconst 1, 1) := by decide +kernel
theorem dX7_odds_76 : decode cX7_odds 76 = .ok (.invokevirtual 247, 3) := by decide +kernel
theorem dX7_odds_79 : decode cX7_odds 79 = .ok (.iconst 0, 1) := by decide +kernel
theorem dX7_odds_80 : decode cX7_odds 80 = .ok (.istore 5, 2) := by decide +kernel
theorem dX7_odds_82 : decode cX7_odds 82 = .ok (.iload 5, 2) := by decide +kernel
theorem dX7_odds_84 : decode cX7_odds 84 = .ok (.bipush 9, 2) := by decide +kernel
theorem dX7_odds_86 : decode cX7_odds 86 = .ok (.if_icmp .ge 45, 3) := by decide +kernel
theorem dX7_odds_89 : decode cX7_odds 89 = .ok (.iload 4, 2) := by decide +kernel
theorem dX7_odds_91 : decode cX7_odds 91 = .ok (.aload_n 0, 1) := by decide +kernel
theorem dX7_odds_92 : decode cX7_odds 92 = .ok (.iload_n 2, 1) := by decide +kernel
theorem dX7_odds_93 : decode cX7_odds 93 = .ok (.iload 5, 2) := by decide +kernel
theorem dX7_odds_95 : decode cX7_odds 95 = .ok (.invokestatic 339, 3) := by decide +kernel
theorem dX7_odds_98 : decode cX7_odds 98 = .ok (.aload_n 0, 1) := by decide +kernel
theorem dX7_odds_99 : decode cX7_odds 99 = .ok (.getfield 27, 3) := by decide +kernel
theorem dX7_odds_102 : decode cX7_odds 102 = .ok (.iload_n 3, 1) := by decide +kernel
theorem dX7_odds_103 : decode cX7_odds 103 = .ok (.invokevirtual 342, 3) := by decide +kernel
theorem dX7_odds_106 : decode cX7_odds 106 = .ok (.ifCond .eq 15, 3) := by decide +kernel
theorem dX7_odds_109 : decode cX7_odds 109 = .ok (.aload_n 0, 1) := by decide +kernel
theorem dX7_odds_110 : decode cX7_odds 110 = .ok (.getfield 76, 3) := by decide +kernel
theorem dX7_odds_113 : decode cX7_odds 113 = .ok (.iload_n 1, 1) := by decide +kernel
theorem dX7_odds_114 : decode cX7_odds 114 = .ok (.aaload, 1) := by decide +kernel
theorem dX7_odds_115 : decode cX7_odds 115 = .ok (.iload 5, 2) := by decide +kernel
theorem dX7_odds_117 : decode cX7_odds 117 = .ok (.iaload, 1) := by decide +kernel
theorem dX7_odds_118 : decode cX7_odds 118 = .ok (.goto 4, 3) := by decide +kernel
theorem dX7_odds_121 : decode cX7_odds 121 = .ok (.iconst 0, 1) := by decide +kernel
theorem dX7_odds_122 : decode cX7_odds 122 = .ok (.iadd, 1) := by decide +kernel
theorem dX7_odds_123 : decode cX7_odds 123 = .ok (.istore 4, 2) := by decide +kernel
theorem dX7_odds_125 : decode cX7_odds 125 = .ok (.iinc 5 1, 3) := by decide +kernel
theorem dX7_odds_128 : decode cX7_odds 128 = .ok (.goto (-46), 3) := by decide +kernel
theorem dX7_odds_131 : decode cX7_odds 131 = .ok (.iload 4, 2) := by decide +kernel
theorem dX7_odds_133 : decode cX7_odds 133 = .ok (.ireturn, 1) := by decide +kernel
noncomputable def B_X7_odds_122 (k82 : (Int32 × Int32 × Int32 × Int32 × Int32) → fS → Option (Int32 × fS)) (a1 : Int32) (a2 : Int32) (a3 : Int32) (a5 : Int32) (t0 : Int32) (t1 : Int32) (S : fS) : Option (Int32 × fS) := iv (t1 + t0) (fun x1 => iv (a5 + Int32.ofInt 1) (fun x2 => k82 (a1, a2, a3, x1, x2) S))
noncomputable def B_X7_odds_82 (k82 : (Int32 × Int32 × Int32 × Int32 × Int32) → fS → Option (Int32 × fS)) : (Int32 × Int32 × Int32 × Int32 × Int32) → fS → Option (Int32 × fS) := fun ⟨a1, a2, a3, a4, a5⟩ S => bb ((9 : Int32) ≤ a5) (some (a4, S)) (bd (F_X7_comesTo a2 a5 S) (fun v4 S5 => iv (ge S5 40 0 15) (fun x7 => bd (F_X7_isPaidBy v4 x7 a3 S5) (fun v8 S9 => bb (v8 = (0 : Int32)) (B_X7_odds_122 k82 a1 a2 a3 a5 0 a4 S9) (gd (ib a1 6) (gd (ib a5 9) (iv (ge S9 59 (a1.toNatClampNeg) (a5 : Int32).toNatClampNeg) (fun x14 => B_X7_odds_122 k82 a1 a2 a3 a5 x14 a4 S9))))))))
noncomputable def B_X7_odds_62 (a1 : Int32) (a2 : Int32) (a3 : Int32) (t0 : Int32) (S : fS) : Option (Int32 × fS) := bd (F_X7_bad t0 3 S) (fun v15 S16 => bb (v15 = (0 : Int32)) (bd (F_X7_namesOf 1 S16) (fun v19 S20 => lp (B_X7_odds_82 ) fuel (a1, a2, a3, 0, 0) S20)) (some (0, S16)))
noncomputable def B_X7_odds_39 (a1 : Int32) (a2 : Int32) (a3 : Int32) (t0 : Int32) (S : fS) : Option (Int32 × fS) := bd (F_X7_bad t0 2 S) (fun v22 S23 => bb (v22 = (0 : Int32)) (bd (F_X7_in a3 0 35 S23) (fun v26 S27 => bb (v26 = (0 : Int32)) (B_X7_odds_62  a1 a2 a3 1 S27) (B_X7_odds_62  a1 a2 a3 0 S27))) (some (0, S23)))
noncomputable def B_X7_odds_19 (a1 : Int32) (a2 : Int32) (a3 : Int32) (t0 : Int32) (S : fS) : Option (Int32 × fS) := bd (F_X7_bad t0 1 S) (fun v30 S31 => bb (v30 = (0 : Int32)) (bd (F_X7_isCell a2 S31) (fun v34 S35 => bb (v34 = (0 : Int32)) (B_X7_odds_39  a1 a2 a3 1 S35) (B_X7_odds_39  a1 a2 a3 0 S35))) (some (0, S31)))
noncomputable def F_X7_odds (p1 : Int32) (p2 : Int32) (p3 : Int32) (S0 : fS) : Option (Int32 × fS) := sv (pu S0 40 0 0 0) (fun S38 => bd (F_X7_isHand p1 S38) (fun v39 S40 => bb (v39 = (0 : Int32)) (B_X7_odds_19  p1 p2 p3 1 S40) (B_X7_odds_19  p1 p2 p3 0 S40)))
set_option maxHeartbeats 4000000 in
set_option maxRecDepth 100000 in
theorem c_X7_odds (l : Launch) (D : va_G) (K : Nat → ClassId) (b0 : Nat) (sa : sT) (sz : Nat) (L : List Nat) (f0 : Nat → va_E) (ad : Nat → Nat → Nat) (P : Nat → Nat → Prop) {n : Nat × Nat} (hP : ∀ a i : Nat, isn n a i → P a i) (S0 : fS) (hw : PW K ad P S0 L f0) (hn : S0.2.2.1 = n) (p1 : Int32) (p2 : Int32) (p3 : Int32) (v : Int32) (S1 : fS) (h : F_X7_odds p1 p2 p3 S0 = some (v, S1)) : Met l yX7_odds (.code yX7_odds cX7_odds 6 (some .int) :: gt) { frames := 75, cells := 0, slots := 0, locals := 2781 } (va_Pc [.ref (ad 40 0), .int p1, .int p2, .int p3] (hPre D K b0 sa sz L f0)) (hQ D K b0 (fun v9 u9 => ∃ f2 : Nat → va_E, v9 = some (.int v) ∧ u9 = lU L f2 ∧ PW K ad P S1 L f2 ∧ S1.2.2.1 = n ∧ Kp ad P L f0 f2)) 0 0 (fun q => b0 ≤ q) := by
  refine t_of (own := RX7) (by decide) rfl ?_ (Nat.le_of_ble_eq_true rfl)
  intro p e s m below meth c ls C w hsz hr hlk hnm hl
  have hx := C.1
  have hb := C.2.1
  have hl : lv_has ls 6 [(0, .ref (ad 40 0)), (1, .int p1), (2, .int p2), (3, .int p3)] := hl
  have J122 : ∀ (k82 : (Int32 × Int32 × Int32 × Int32 × Int32) → fS → Option (Int32 × fS)) (hk82 : ∀ (a1 : Int32) (a2 : Int32) (a3 : Int32) (a4 : Int32) (a5 : Int32) (S : fS), k82 (a1, a2, a3, a4, a5) S = some (v, S1) → Gw D K b0 sa ad P n L f0 p l e { frames := 75, cells := 0, slots := 0, locals := 2781 } s m [.ref (ad 40 0), .int p1, .int p2, .int p3].toArray below meth c 6 (MQ below (hQ D K b0 (fun v9 u9 => ∃ f2 : Nat → va_E, v9 = some (.int v) ∧ u9 = lU L f2 ∧ PW K ad P S1 L f2 ∧ S1.2.2.1 = n ∧ Kp ad P L f0 f2)) [.ref (ad 40 0), .int p1, .int p2, .int p3].toArray s 0 0 (fun q => b0 ≤ q)) 0 0 82 [(0, .ref (ad 40 0)), (1, .int a1), (2, .int a2), (3, .int a3), (4, .int a4), (5, .int a5)] [] S) (a1 : Int32) (a2 : Int32) (a3 : Int32) (a5 : Int32) (t0 : Int32) (t1 : Int32) (S : fS), B_X7_odds_122 k82 a1 a2 a3 a5 t0 t1 S = some (v, S1) → Gw D K b0 sa ad P n L f0 p l e { frames := 75, cells := 0, slots := 0, locals := 2781 } s m [.ref (ad 40 0), .int p1, .int p2, .int p3].toArray below meth c 6 (MQ below (hQ D K b0 (fun v9 u9 => ∃ f2 : Nat → va_E, v9 = some (.int v) ∧ u9 = lU L f2 ∧ PW K ad P S1 L f2 ∧ S1.2.2.1 = n ∧ Kp ad P L f0 f2)) [.ref (ad 40 0), .int p1, .int p2, .int p3].toArray s 0 0 (fun q => b0 ≤ q)) 0 0 122 [(0, .ref (ad 40 0)), (1, .int a1), (2, .int a2), (3, .int a3), (5, .int a5)] [.int t0, .int t1] S := by
    intro k82 hk82 a1 a2 a3 a5 t0 t1 S h
    dsimp only [B_X7_odds_122] at h
    intro f H locs w hw hn hk ls hl
    refine lv_iadd hx hb dX7_odds_122 ?_
    refine u_iv h (fun x1 h => ?_)
    refine lv_istore (lv' := [(4, .int x1), (0, .ref (ad 40 0)), (1, .int a1), (2, .int a2), (3, .int a3), (5, .int a5)]) hx hb dX7_odds_123 hl (by decide) rfl (fun ls hl => ?_)
    obtain ⟨x2, ex2, h⟩ := iv_some h
    refine lv_iinc (v := x2) (lv' := [(5, .int x2), (4, .int x1), (0, .ref (ad 40 0)), (1, .int a1), (2, .int a2), (3, .int a3)]) hx hb dX7_odds_125 hl (k := 5) rfl ex2.symm (by decide) rfl (fun ls hl => ?_)
    refine lv_goto (tgt := 82) hx hb dX7_odds_128 (by decide) ?_
    exact hk82 a1 a2 a3 x1 x2 S h f H locs w hw hn hk ls (lv_sub hl [2, 3, 4, 5, 1, 0] rfl)
  have J82 : ∀ (fu : Nat) (a1 : Int32) (a2 : Int32) (a3 : Int32) (a4 : Int32) (a5 : Int32) (S : fS), lp (B_X7_odds_82 ) fu (a1, a2, a3, a4, a5) S = some (v, S1) → Gw D K b0 sa ad P n L f0 p l e { frames := 75, cells := 0, slots := 0, locals := 2781 } s m [.ref (ad 40 0), .int p1, .int p2, .int p3].toArray below meth c 6 (MQ below (hQ D K b0 (fun v9 u9 => ∃ f2 : Nat → va_E, v9 = some (.int v) ∧ u9 = lU L f2 ∧ PW K ad P S1 L f2 ∧ S1.2.2.1 = n ∧ Kp ad P L f0 f2)) [.ref (ad 40 0), .int p1, .int p2, .int p3].toArray s 0 0 (fun q => b0 ≤ q)) 0 0 82 [(0, .ref (ad 40 0)), (1, .int a1), (2, .int a2), (3, .int a3), (4, .int a4), (5, .int a5)] [] S := by
    intro fu a1 a2 a3 a4 a5 S h
    refine lp_some (G := (fun q S => Gw D K b0 sa ad P n L f0 p l e { frames := 75, cells := 0, slots := 0, locals := 2781 } s m [.ref (ad 40 0), .int p1, .int p2, .int p3].toArray below meth c 6 (MQ below (hQ D K b0 (fun v9 u9 => ∃ f2 : Nat → va_E, v9 = some (.int v) ∧ u9 = lU L f2 ∧ PW K ad P S1 L f2 ∧ S1.2.2.1 = n ∧ Kp ad P L f0 f2)) [.ref (ad 40 0), .int p1, .int p2, .int p3].toArray s 0 0 (fun q => b0 ≤ q)) 0 0 82 [(0, .ref (ad 40 0)), (1, .int q.1), (2, .int q.2.1), (3, .int q.2.2.1), (4, .int q.2.2.2.1), (5, .int q.2.2.2.2)] [] S)) (fun k82 hk82 q S h => ?_) fu (a1, a2, a3, a4, a5) S h
    obtain ⟨a1, a2, a3, a4, a5⟩ := q
    have hk82 : ∀ (a1 : Int32) (a2 : Int32) (a3 : Int32) (a4 : Int32) (a5 : Int32) (S : fS), k82 (a1, a2, a3, a4, a5) S = some (v, S1) → Gw D K b0 sa ad P n L f0 p l e { frames := 75, cells := 0, slots := 0, locals := 2781 } s m [.ref (ad 40 0), .int p1, .int p2, .int p3].toArray below meth c 6 (MQ below (hQ D K b0 (fun v9 u9 => ∃ f2 : Nat → va_E, v9 = some (.int v) ∧ u9 = lU L f2 ∧ PW K ad P S1 L f2 ∧ S1.2.2.1 = n ∧ Kp ad P L f0 f2)) [.ref (ad 40 0), .int p1, .int p2, .int p3].toArray s 0 0 (fun q => b0 ≤ q)) 0 0 82 [(0, .ref (ad 40 0)), (1, .int a1), (2, .int a2), (3, .int a3), (4, .int a4), (5, .int a5)] [] S := fun a1 a2 a3 a4 a5 S h => hk82 (a1, a2, a3, a4, a5) S h
    dsimp only [B_X7_odds_82] at h
    intro f H locs w hw hn hk ls hl
    refine lv_iload hx hb dX7_odds_82 (lv_at hl 5 rfl) ?_
    refine lv_bipush (v := 9) hx hb dX7_odds_84 (by decide) ?_
    refine lv_icmp_ge (tgt := 131) hx hb dX7_odds_86 (by decide) (fun c3 => ?_) (fun c3 => ?_)
    · have h := bb_t h c3
      refine lv_iload hx hb dX7_odds_131 (lv_at hl 4 rfl) ?_
      exact t_iret C hr hlk w ⟨_, so_v h, rfl, so_w h hw, so_n h hn, hk⟩ (by decide) (by decide) dX7_odds_133
    · have h := bb_f h c3
      refine lv_iload hx hb dX7_odds_89 (lv_at hl 4 rfl) ?_
      refine lv_aload_n hx hb dX7_odds_91 rfl (lv_at hl 0 rfl) ?_
      refine lv_iload_n hx hb dX7_odds_92 rfl (lv_at hl 2 rfl) ?_
      refine lv_iload hx hb dX7_odds_93 (lv_at hl 5 rfl) ?_
      obtain ⟨v4, S5, h6, h⟩ := bd_some h
      refine t_callS (n := 2) C w (c_X7_comesTo l D K b0 sa _ L _ ad P hP S hw hn a2 a5 v4 S5 h6) gw_1581 gw_1579 gw_1580 gw_8 ⟨by decide, by decide, by decide +kernel⟩ rfl rfl ⟨by decide, by decide⟩ rfl hl.1 rfl (Nat.le_of_ble_eq_true rfl) dX7_odds_95 ⟨Nat.le_of_ble_eq_true rfl, Nat.le_of_ble_eq_true rfl⟩ (fun v9 u H locs hp w => ?_)
      obtain ⟨f2, rfl, rfl, hw, hn, hk1⟩ := hp
      have hk := hk.tr hk1
      generalize f2 = f at w hw hk
      refine lv_aload_n hx hb dX7_odds_98 rfl (lv_at hl 0 rfl) ?_
      refine u_geti C w hw (hP _ _ (isn_f rfl rfl (by decide))) rfl (N := 57) rfl rfl cin_7 15 (by decide) rfl gw_1171 dX7_odds_99 ?_
      refine u_iv h (fun x7 h => ?_)
      refine lv_iload_n hx hb dX7_odds_102 rfl (lv_at hl 3 rfl) ?_
      obtain ⟨v8, S9, h10, h⟩ := bd_some h
      refine u_callV (n := 3) C w hw (hP _ _ (isn_f rfl rfl (by decide))) rfl rfl rfl (c_X7_isPaidBy l D K b0 sa _ L _ ad P hP S5 hw hn v4 x7 a3 v8 S9 h10) gw_1593 gw_1590 gw_1592 gs_60 gw_8 ⟨by decide, by decide, by decide +kernel⟩ rfl rfl ⟨by decide, by decide⟩ rfl hl.1 rfl (Nat.le_of_ble_eq_true rfl) dX7_odds_103 ⟨Nat.le_of_ble_eq_true rfl, Nat.le_of_ble_eq_true rfl⟩ (fun v9 u H locs hp w => ?_)
      obtain ⟨f2, rfl, rfl, hw, hn, hk1⟩ := hp
      have hk := hk.tr hk1
      generalize f2 = f at w hw hk
      refine lv_if_eq (tgt := 121) hx hb dX7_odds_106 (by decide) (fun c11 => ?_) (fun c11 => ?_)
      · have h := bb_t h c11
        refine lv_iconst (v := 0) hx hb dX7_odds_121 (by decide) ?_
        exact J122 k82 hk82 a1 a2 a3 a5 0 a4 S9 h f H locs w hw hn hk ls (lv_sub hl [0, 1, 2, 3, 5] rfl)
      · have h := bb_f h c11
        refine lv_aload_n hx hb dX7_odds_109 rfl (lv_at hl 0 rfl) ?_
        refine u_getr C w hw (hP _ _ (isn_f rfl rfl (by decide))) rfl (N := 57) rfl rfl cin_7 49 (by decide) (by decide) (a2 := 58) (i2 := 0) rfl gw_1205 dX7_odds_110 ?_
        refine lv_iload_n hx hb dX7_odds_113 rfl (lv_at hl 1 rfl) ?_
        obtain ⟨g12, h⟩ := gd_some h
        refine u_aald C w hw (hP _ _ (isn_f rfl rfl (by decide))) rfl rfl rfl (n := 6) rfl (vp_in_iff.mpr g12) (a2 := 59) (i2 := (a1.toNatClampNeg)) (by exact congrArg (Prod.mk _) (Nat.zero_add _)) dX7_odds_114 ?_
        refine lv_iload hx hb dX7_odds_115 (lv_at hl 5 rfl) ?_
        obtain ⟨g13, h⟩ := gd_some h
        refine u_iald C w hw (hP _ _ (isn_f rfl rfl (ib_lt g12))) rfl rfl (n := 9) rfl (vp_in_iff.mpr g13) dX7_odds_117 ?_
        refine u_iv h (fun x14 h => ?_)
        refine lv_goto (tgt := 122) hx hb dX7_odds_118 (by decide) ?_
        exact J122 k82 hk82 a1 a2 a3 a5 x14 a4 S9 h f H locs w hw hn hk ls (lv_sub hl [0, 1, 2, 3, 5] rfl)
  have J62 : ∀ (a1 : Int32) (a2 : Int32) (a3 : Int32) (t0 : Int32) (S : fS), B_X7_odds_62  a1 a2 a3 t0 S = some (v, S1) → Gw D K b0 sa ad P n L f0 p l e { frames := 75, cells := 0, slots := 0, locals := 2781 } s m [.ref (ad 40 0), .int p1, .int p2, .int p3].toArray below meth c 6 (MQ below (hQ D K b0 (fun v9 u9 => ∃ f2 : Nat → va_E, v9 = some (.int v) ∧ u9 = lU L f2 ∧ PW K ad P S1 L f2 ∧ S1.2.2.1 = n ∧ Kp ad P L f0 f2)) [.ref (ad 40 0), .int p1, .int p2, .int p3].toArray s 0 0 (fun q => b0 ≤ q)) 0 0 62 [(0, .ref (ad 40 0)), (1, .int a1), (2, .int a2), (3, .int a3)] [.int t0, .ref (ad 40 0)] S := by
    intro a1 a2 a3 t0 S h
    dsimp only [B_X7_odds_62] at h
    intro f H locs w hw hn hk ls hl
    refine lv_iconst (v := 3) hx hb dX7_odds_62 (by decide) ?_
    obtain ⟨v15, S16, h17, h⟩ := bd_some h
    refine u_callV (n := 2) C w hw (hP _ _ (isn_f rfl rfl (by decide))) rfl rfl rfl (c_X7_bad l D K b0 sa _ L _ ad P hP S hw hn t0 3 v15 S16 h17) gw_1347 gw_1344 gw_1346 gs_22 gw_8 ⟨by decide, by decide, by decide +kernel⟩ rfl rfl ⟨by decide, by decide⟩ rfl hl.1 rfl (Nat.le_of_ble_eq_true rfl) dX7_odds_63 ⟨Nat.le_of_ble_eq_true rfl, Nat.le_of_ble_eq_true rfl⟩ (fun v9 u H locs hp w => ?_)
    obtain ⟨f2, rfl, rfl, hw, hn, hk1⟩ := hp
    have hk := hk.tr hk1
    generalize f2 = f at w hw hk
    refine lv_if_eq (tgt := 71) hx hb dX7_odds_66 (by decide) (fun c18 => ?_) (fun c18 => ?_)
    · have h := bb_t h c18
      refine lv_iconst (v := 0) hx hb dX7_odds_71 (by decide) ?_
      refine lv_istore (lv' := [(4, .int 0), (0, .ref (ad 40 0)), (1, .int a1), (2, .int a2), (3, .int a3)]) hx hb dX7_odds_72 hl (by decide) rfl (fun ls hl => ?_)
      refine lv_aload_n hx hb dX7_odds_74 rfl (lv_at hl 1 rfl) ?_
      refine lv_iconst (v := 1) hx hb dX7_odds_75 (by decide) ?_
      obtain ⟨v19, S20, h21, h⟩ := bd_some h
      refine u_callV (n := 1) C w hw (hP _ _ (isn_f rfl rfl (by decide))) rfl rfl rfl (c_X7_namesOf l D K b0 sa _ L _ ad P hP S16 hw hn 1 v19 S20 h21) gw_1445 gw_1442 gw_1444 gs_42 gw_8 ⟨by decide, by decide, by decide +kernel⟩ rfl rfl ⟨by decide, by decide⟩ rfl hl.1 rfl (Nat.le_of_ble_eq_true rfl) dX7_odds_76 ⟨Nat.le_of_ble_eq_true rfl, Nat.le_of_ble_eq_true rfl⟩ (fun v9 u H locs hp w => ?_)
      obtain ⟨f2, rfl, rfl, hw, hn, hk1⟩ := hp
      have hk := hk.tr hk1
      generalize f2 = f at w hw hk
      refine lv_iconst (v := 0) hx hb dX7_odds_79 (by decide) ?_
      refine lv_istore (lv' := [(5, .int 0), (4, .int 0), (0, .ref (ad 40 0)), (1, .int a1), (2, .int a2), (3, .int a3)]) hx hb dX7_odds_80 hl (by decide) rfl (fun ls hl => ?_)
      exact J82  fuel a1 a2 a3 0 0 S20 h f H locs w hw hn hk ls (lv_sub hl [2, 3, 4, 5, 1, 0] rfl)
    · have h := bb_f h c18
      refine lv_iconst (v := 0) hx hb dX7_odds_69 (by decide) ?_
      exact t_iret C hr hlk w ⟨_, so_v h, rfl, so_w h hw, so_n h hn, hk⟩ (by decide) (by decide) dX7_odds_70
  have J39 : ∀ (a1 : Int32) (a2 : Int32) (a3 : Int32) (t0 : Int32) (S : fS), B_X7_odds_39  a1 a2 a3 t0 S = some (v, S1) → Gw D K b0 sa ad P n L f0 p l e { frames := 75, cells := 0, slots := 0, locals := 2781 } s m [.ref (ad 40 0), .int p1, .int p2, .int p3].toArray below meth c 6 (MQ below (hQ D K b0 (fun v9 u9 => ∃ f2 : Nat → va_E, v9 = some (.int v) ∧ u9 = lU L f2 ∧ PW K ad P S1 L f2 ∧ S1.2.2.1 = n ∧ Kp ad P L f0 f2)) [.ref (ad 40 0), .int p1, .int p2, .int p3].toArray s 0 0 (fun q => b0 ≤ q)) 0 0 39 [(0, .ref (ad 40 0)), (1, .int a1), (2, .int a2), (3, .int a3)] [.int t0, .ref (ad 40 0)] S := by
    intro a1 a2 a3 t0 S h
    dsimp only [B_X7_odds_39] at h
    intro f H locs w hw hn hk ls hl
    refine lv_iconst (v := 2) hx hb dX7_odds_39 (by decide) ?_
    obtain ⟨v22, S23, h24, h⟩ := bd_some h
    refine u_callV (n := 2) C w hw (hP _ _ (isn_f rfl rfl (by decide))) rfl rfl rfl (c_X7_bad l D K b0 sa _ L _ ad P hP S hw hn t0 2 v22 S23 h24) gw_1347 gw_1344 gw_1346 gs_22 gw_8 ⟨by decide, by decide, by decide +kernel⟩ rfl rfl ⟨by decide, by decide⟩ rfl hl.1 rfl (Nat.le_of_ble_eq_true rfl) dX7_odds_40 ⟨Nat.le_of_ble_eq_true rfl, Nat.le_of_ble_eq_true rfl⟩ (fun v9 u H locs hp w => ?_)
    obtain ⟨f2, rfl, rfl, hw, hn, hk1⟩ := hp
    have hk := hk.tr hk1
    generalize f2 = f at w hw hk
    refine lv_if_ne (tgt := 69) hx hb dX7_odds_43 (by decide) (fun c25 => ?_) (fun c25 => ?_)
    · have h := bb_f h c25
      refine lv_iconst (v := 0) hx hb dX7_odds_69 (by decide) ?_
      exact t_iret C hr hlk w ⟨_, so_v h, rfl, so_w h hw, so_n h hn, hk⟩ (by decide) (by decide) dX7_odds_70
    · have h := bb_t h c25
      refine lv_aload_n hx hb dX7_odds_46 rfl (lv_at hl 0 rfl) ?_
      refine lv_iload_n hx hb dX7_odds_47 rfl (lv_at hl 3 rfl) ?_
      refine lv_iconst (v := 0) hx hb dX7_odds_48 (by decide) ?_
      refine lv_bipush (v := 35) hx hb dX7_odds_49 (by decide) ?_
      obtain ⟨v26, S27, h28, h⟩ := bd_some h
      refine t_callS (n := 3) C w (c_X7_in l D K b0 sa _ L _ ad P hP S23 hw hn a3 0 35 v26 S27 h28) gw_1343 gw_1341 gw_1342 gw_8 ⟨by decide, by decide, by decide +kernel⟩ rfl rfl ⟨by decide, by decide⟩ rfl hl.1 rfl (Nat.le_of_ble_eq_true rfl) dX7_odds_51 ⟨Nat.le_of_ble_eq_true rfl, Nat.le_of_ble_eq_true rfl⟩ (fun v9 u H locs hp w => ?_)
      obtain ⟨f2, rfl, rfl, hw, hn, hk1⟩ := hp
      have hk := hk.tr hk1
      generalize f2 = f at w hw hk
      refine lv_if_ne (tgt := 61) hx hb dX7_odds_54 (by decide) (fun c29 => ?_) (fun c29 => ?_)
      · have h := bb_f h c29
        refine lv_iconst (v := 0) hx hb dX7_odds_61 (by decide) ?_
        exact J62  a1 a2 a3 0 S27 h f H locs w hw hn hk ls (lv_sub hl [0, 1, 2, 3] rfl)
      · have h := bb_t h c29
        refine lv_iconst (v := 1) hx hb dX7_odds_57 (by decide) ?_
        refine lv_goto (tgt := 62) hx hb dX7_odds_58 (by decide) ?_
        exact J62  a1 a2 a3 1 S27 h f H locs w hw hn hk ls (lv_sub hl [0, 1, 2, 3] rfl)
  have J19 : ∀ (a1 : Int32) (a2 : Int32) (a3 : Int32) (t0 : Int32) (S : fS), B_X7_odds_19  a1 a2 a3 t0 S = some (v, S1) → Gw D K b0 sa ad P n L f0 p l e { frames := 75, cells := 0, slots := 0, locals := 2781 } s m [.ref (ad 40 0), .int p1, .int p2, .int p3].toArray below meth c 6 (MQ below (hQ D K b0 (fun v9 u9 => ∃ f2 : Nat → va_E, v9 = some (.int v) ∧ u9 = lU L f2 ∧ PW K ad P S1 L f2 ∧ S1.2.2.1 = n ∧ Kp ad P L f0 f2)) [.ref (ad 40 0), .int p1, .int p2, .int p3].toArray s 0 0 (fun q => b0 ≤ q)) 0 0 19 [(0, .ref (ad 40 0)), (1, .int a1), (2, .int a2), (3, .int a3)] [.int t0, .ref (ad 40 0)] S := by
    intro a1 a2 a3 t0 S h
    dsimp only [B_X7_odds_19] at h
    intro f H locs w hw hn hk ls hl
    refine lv_iconst (v := 1) hx hb dX7_odds_19 (by decide) ?_
    obtain ⟨v30, S31, h32, h⟩ := bd_some h
    refine u_callV (n := 2) C w hw (hP _ _ (isn_f rfl rfl (by decide))) rfl rfl rfl (c_X7_bad l D K b0 sa _ L _ ad P hP S hw hn t0 1 v30 S31 h32) gw_1347 gw_1344 gw_1346 gs_22 gw_8 ⟨by decide, by decide, by decide +kernel⟩ rfl rfl ⟨by decide, by decide⟩ rfl hl.1 rfl (Nat.le_of_ble_eq_true rfl) dX7_odds_20 ⟨Nat.le_of_ble_eq_true rfl, Nat.le_of_ble_eq_true rfl⟩ (fun v9 u H locs hp w => ?_)
    obtain ⟨f2, rfl, rfl, hw, hn, hk1⟩ := hp
    have hk := hk.tr hk1
    generalize f2 = f at w hw hk
    refine lv_if_ne (tgt := 69) hx hb dX7_odds_23 (by decide) (fun c33 => ?_) (fun c33 => ?_)
    · have h := bb_f h c33
      refine lv_iconst (v := 0) hx hb dX7_odds_69 (by decide) ?_
      exact t_iret C hr hlk w ⟨_, so_v h, rfl, so_w h hw, so_n h hn, hk⟩ (by decide) (by decide) dX7_odds_70
    · have h := bb_t h c33
      refine lv_aload_n hx hb dX7_odds_26 rfl (lv_at hl 0 rfl) ?_
      refine lv_iload_n hx hb dX7_odds_27 rfl (lv_at hl 2 rfl) ?_
      obtain ⟨v34, S35, h36, h⟩ := bd_some h
      refine t_callS (n := 1) C w (c_X7_isCell l D K b0 sa _ L _ ad P hP S31 hw hn a2 v34 S35 h36) gw_1467 gw_1465 gw_1466 gw_8 ⟨by decide, by decide, by decide +kernel⟩ rfl rfl ⟨by decide, by decide⟩ rfl hl.1 rfl (Nat.le_of_ble_eq_true rfl) dX7_odds_28 ⟨Nat.le_of_ble_eq_true rfl, Nat.le_of_ble_eq_true rfl⟩ (fun v9 u H locs hp w => ?_)
      obtain ⟨f2, rfl, rfl, hw, hn, hk1⟩ := hp
      have hk := hk.tr hk1
      generalize f2 = f at w hw hk
      refine lv_if_ne (tgt := 38) hx hb dX7_odds_31 (by decide) (fun c37 => ?_) (fun c37 => ?_)
      · have h := bb_f h c37
        refine lv_iconst (v := 0) hx hb dX7_odds_38 (by decide) ?_
        exact J39  a1 a2 a3 0 S35 h f H locs w hw hn hk ls (lv_sub hl [0, 1, 2, 3] rfl)
      · have h := bb_t h c37
        refine lv_iconst (v := 1) hx hb dX7_odds_34 (by decide) ?_
        refine lv_goto (tgt := 39) hx hb dX7_odds_35 (by decide) ?_
        exact J39  a1 a2 a3 1 S35 h f H locs w hw hn hk ls (lv_sub hl [0, 1, 2, 3] rfl)
  dsimp only [F_X7_odds] at h
  obtain ⟨f, ef⟩ : ∃ z, z = f0 := ⟨_, rfl⟩
  rw [← ef] at w hw
  have hk : Kp ad P L f0 f := by rw [ef]; exact Kp.rf
  obtain ⟨H, eH⟩ : ∃ z, z = s.heap := ⟨_, rfl⟩
  obtain ⟨locs, el⟩ : ∃ z : List Loc, z = [] := ⟨_, rfl⟩
  rw [← eH, ← el] at w ⊢
  refine lv_aload_n hx hb dX7_odds_0 rfl (lv_at hl 0 rfl) ?_
  refine lv_iconst (v := 0) hx hb dX7_odds_1 (by decide) ?_
  refine u_puti C w hw (hP _ _ (isn_f rfl rfl (by decide))) rfl (N := 57) rfl rfl cin_7 tyX7 tyX7_ok nmX7 0 (by decide) rfl rfl rfl rfl gw_1156 dX7_odds_2 (fun f H locs w hw hk1 => ?_)
  have hk := hk.tr hk1
  refine u_sv h hw hn (fun S38 h hw hn => ?_)
  refine lv_aload_n hx hb dX7_odds_5 rfl (lv_at hl 0 rfl) ?_
  refine lv_aload_n hx hb dX7_odds_6 rfl (lv_at hl 0 rfl) ?_
  refine lv_iload_n hx hb dX7_odds_7 rfl (lv_at hl 1 rfl) ?_
  obtain ⟨v39, S40, h41, h⟩ := bd_some h
  refine u_callV (n := 1) C w hw (hP _ _ (isn_f rfl rfl (by decide))) rfl rfl rfl (c_X7_isHand l D K b0 sa _ L _ ad P hP S38 hw hn p1 v39 S40 h41) gw_1574 gw_1571 gw_1573 gs_58 gw_8 ⟨by decide, by decide, by decide +kernel⟩ rfl rfl ⟨by decide, by decide⟩ rfl hl.1 rfl (Nat.le_of_ble_eq_true rfl) dX7_odds_8 ⟨Nat.le_of_ble_eq_true rfl, Nat.le_of_ble_eq_true rfl⟩ (fun v9 u H locs hp w => ?_)
  obtain ⟨f2, rfl, rfl, hw, hn, hk1⟩ := hp
  have hk := hk.tr hk1
  generalize f2 = f at w hw hk
  refine lv_if_ne (tgt := 18) hx hb dX7_odds_11 (by decide) (fun c42 => ?_) (fun c42 => ?_)
  · have h := bb_f h c42
    refine lv_iconst (v := 0) hx hb dX7_odds_18 (by decide) ?_
    exact J19  p1 p2 p3 0 S40 h f H locs w hw hn hk ls (lv_sub hl [0, 1, 2, 3] rfl)
  · have h := bb_t h c42
    refine lv_iconst (v := 1) hx hb dX7_odds_14 (by decide) ?_
    refine lv_goto (tgt := 19) hx hb dX7_odds_15 (by decide) ?_
    exact J19  p1 p2 p3 1 S40 h f H locs w hw hn hk ls (lv_sub hl [0, 1, 2, 3] rfl)
theorem dX7_when_0 : decode cX7_when 0 = .ok (.aload_n 0, 1) := by decide +kernel
theorem dX7_when_1 : decode cX7_when 1 = .ok (.iconst 0, 1) := by decide +kernel
theorem dX7_when_2 : decode cX7_when 2 = .ok (.putfield 97, 3) := by decide +kernel
theorem dX7_when_5 : decode cX7_when 5 = .ok (.aload_n 0, 1) := by decide +kernel
theorem dX7_when_6 : decode cX7_when 6 = .ok (.iload_n 1, 1) := by decide +kernel
theorem dX7_when_7 : decode cX7_when 7 = .ok (.invokestatic 253, 3) := by decide +kernel
theorem dX7_when_10 : decode cX7_when 10 = .ok (.ifCond .ne 7, 3) := by decide +kernel
theorem dX7_when_13 : decode cX7_when 13 = .ok (.iconst 1, 1) := by decide +kernel
theorem dX7_when_14 : decode cX7_when 14 = .ok (.goto 4, 3) := by decide +kernel
theorem dX7_when_17 : decode cX7_when 17 = .ok (.iconst 0, 1) := by decide +kernel
theorem dX7_when_18 : decode cX7_when 18 = .ok (.iconst 1, 1) := by decide +kernel
theorem dX7_when_19 : decode cX7_when 19 = .ok (.invokevirtual 206, 3) := by decide +kernel
theorem dX7_when_22 : decode cX7_when 22 = .ok (.ifCond .ne 30, 3) := by decide +kernel
theorem dX7_when_25 : decode cX7_when 25 = .ok (.aload_n 0, 1) := by decide +kernel
theorem dX7_when_26 : decode cX7_when 26 = .ok (.iload_n 2, 1) := by decide +kernel
theorem dX7_when_27 : decode cX7_when 27 = .ok (.iconst 0, 1) := by decide +kernel
theorem dX7_when_28 : decode cX7_when 28 = .ok (.aload_n 0, 1) := by decide +kernel
theorem dX7_when_29 : decode cX7_when 29 = .ok (.getfield 213, 3) := by decide +kernel
theorem dX7_when_32 : decode cX7_when 32 = .ok (.iconst 1, 1) := by decide +kernel
theorem dX7_when_33 : decode cX7_when 33 = .ok (.isub, 1) := by decide +kernel
theorem dX7_when_34 : decode cX7_when 34 = .ok (.invokestatic 100, 3) := by decide +kernel
theorem dX7_when_37 : decode cX7_when 37 = .ok (.ifCond .ne 7, 3) := by decide +kernel
theorem dX7_when_40 : decode cX7_when 40 = .ok (.iconst 1, 1) := by decide +kernel
theorem dX7_when_41 : decode cX7_when 41 = .ok (.goto 4, 3) := by decide +kernel
theorem dX7_when_44 : decode cX7_when 44 = .ok (.iconst 0, 1) := by decide +kernel
theorem dX7_when_45 : decode cX7_when 45 = .ok (.iconst 2, 1) := by decide +kernel
theorem dX7_when_46 : decode cX7_when 46 = .ok (.invokevirtual 206, 3) := by decide +kernel
theorem dX7_when_49 : decode cX7_when 49 = .ok (.ifCond .eq 5, 3) := by decide +kernel
theorem dX7_when_52 : decode cX7_when 52 = .ok (.iconst 0, 1) := by decide +kernel
theorem dX7_when_53 : decode cX7_when 53 = .ok (.ireturn, 1) := by decide +kernel
theorem dX7_when_54 : decode cX7_when 54 = .ok (.iconst 1, 1) := by decide +kernel
theorem dX7_when_55 : decode cX7_when 55 = .ok (.istore_n 3, 1) := by decide +kernel
theorem dX7_when_56 : decode cX7_when 56 = .ok (.iload_n 3, 1) := by decide +kernel
theorem dX7_when_57 : decode cX7_when 57 = .ok (.bipush 60, 2) := by decide +kernel
theorem dX7_when_59 : decode cX7_when 59 = .ok (.if_icmp .gt 26, 3) := by decide +kernel
theorem dX7_when_62 : decode cX7_when 62 = .ok (.aload_n 0, 1) := by decide +kernel
theorem dX7_when_63 : decode cX7_when 63 = .ok (.iload_n 3, 1) := by decide +kernel
theorem dX7_when_64 : decode cX7_when 64 = .ok (.invokevirtual 247, 3) := by decide +kernel
theorem dX7_when_67 : decode cX7_when 67 = .ok (.aload_n 0, 1) := by decide +kernel
theorem dX7_when_68 : decode cX7_when 68 = .ok (.iload_n 1, 1) := by decide +kernel
theorem dX7_when_69 : decode cX7_when 69 = .ok (.iload_n 2, 1) := by decide +kernel
theorem dX7_when_70 : decode cX7_when 70 = .ok (.iconst 0, 1) := by decide +kernel
theorem dX7_when_71 : decode cX7_when 71 = .ok (.invokevirtual 342, 3) := by decide +kernel
theorem dX7_when_74 : decode cX7_when 74 = .ok (.ifCond .eq 5, 3) := by decide +kernel
theorem dX7_when_77 : decode cX7_when 77 = .ok (.iload_n 3, 1) := by decide +kernel
theorem dX7_when_78 : decode cX7_when 78 = .ok (.ireturn, 1) := by decide +kernel
theorem dX7_when_79 : decode cX7_when 79 = .ok (.iinc 3 1, 3) := by decide +kernel
theorem dX7_when_82 : decode cX7_when 82 = .ok (.goto (-26), 3) := by decide +kernel
theorem dX7_when_85 : decode cX7_when 85 = .ok (.iconst (-1), 1) := by decide +kernel
theorem dX7_when_86 : decode cX7_when 86 = .ok (.ireturn, 1) := by decide +kernel
noncomputable def B_X7_when_56 (k56 : (Int32 × Int32 × Int32) → fS → Option (Int32 × fS)) : (Int32 × Int32 × Int32) → fS → Option (Int32 × fS) := fun ⟨a1, a2, a3⟩ S => bb ((60 : Int32) < a3) (some ((-1), S)) (bd (F_X7_namesOf a3 S) (fun v2 S3 => bd (F_X7_isPaidBy a1 a2 0 S3) (fun v5 S6 => bb (v5 = (0 : Int32)) (iv (a3 + Int32.ofInt 1) (fun x9 => k56 (a1, a2, x9) S6)) (some (a3, S6)))))
noncomputable def B_X7_when_45 (a1 : Int32) (a2 : Int32) (t0 : Int32) (S : fS) : Option (Int32 × fS) := bd (F_X7_bad t0 2 S) (fun v10 S11 => bb (v10 = (0 : Int32)) (lp (B_X7_when_56 ) fuel (a1, a2, 1) S11) (some (0, S11)))
noncomputable def B_X7_when_18 (a1 : Int32) (a2 : Int32) (t0 : Int32) (S : fS) : Option (Int32 × fS) := bd (F_X7_bad t0 1 S) (fun v14 S15 => bb (v14 = (0 : Int32)) (iv (ge S15 40 0 13) (fun x18 => iv (x18 - (1 : Int32)) (fun x19 => bd (F_X7_in a2 0 x19 S15) (fun v20 S21 => bb (v20 = (0 : Int32)) (B_X7_when_45  a1 a2 1 S21) (B_X7_when_45  a1 a2 0 S21))))) (some (0, S15)))
noncomputable def F_X7_when (p1 : Int32) (p2 : Int32) (S0 : fS) : Option (Int32 × fS) := sv (pu S0 40 0 0 0) (fun S24 => bd (F_X7_isCell p1 S24) (fun v25 S26 => bb (v25 = (0 : Int32)) (B_X7_when_18  p1 p2 1 S26) (B_X7_when_18  p1 p2 0 S26)))
set_option maxHeartbeats 4000000 in
set_option maxRecDepth 100000 in
theorem c_X7_when (l : Launch) (D : va_G) (K : Nat → ClassId) (b0 : Nat) (sa : sT) (sz : Nat) (L : List Nat) (f0 : Nat → va_E) (ad : Nat → Nat → Nat) (P : Nat → Nat → Prop) {n : Nat × Nat} (hP : ∀ a i : Nat, isn n a i → P a i) (S0 : fS) (hw : PW K ad P S0 L f0) (hn : S0.2.2.1 = n) (p1 : Int32) (p2 : Int32) (v : Int32) (S1 : fS) (h : F_X7_when p1 p2 S0 = some (v, S1)) : Met l yX7_when (.code yX7_when cX7_when 4 (some .int) :: gt) { frames := 75, cells := 0, slots := 0, locals := 2781 } (va_Pc [.ref (ad 40 0), .int p1, .int p2] (hPre D K b0 sa sz L f0)) (hQ D K b0 (fun v9 u9 => ∃ f2 : Nat → va_E, v9 = some (.int v) ∧ u9 = lU L f2 ∧ PW K ad P S1 L f2 ∧ S1.2.2.1 = n ∧ Kp ad P L f0 f2)) 0 0 (fun q => b0 ≤ q) := by
  refine t_of (own := RX7) (by decide) rfl ?_ (Nat.le_of_ble_eq_true rfl)
  intro p e s m below meth c ls C w hsz hr hlk hnm hl
  have hx := C.1
  have hb := C.2.1
  have hl : lv_has ls 4 [(0, .ref (ad 40 0)), (1, .int p1), (2, .int p2)] := hl
  have J56 : ∀ (fu : Nat) (a1 : Int32) (a2 : Int32) (a3 : Int32) (S : fS), lp (B_X7_when_56 ) fu (a1, a2, a3) S = some (v, S1) → Gw D K b0 sa ad P n L f0 p l e { frames := 75, cells := 0, slots := 0, locals := 2781 } s m [.ref (ad 40 0), .int p1, .int p2].toArray below meth c 4 (MQ below (hQ D K b0 (fun v9 u9 => ∃ f2 : Nat → va_E, v9 = some (.int v) ∧ u9 = lU L f2 ∧ PW K ad P S1 L f2 ∧ S1.2.2.1 = n ∧ Kp ad P L f0 f2)) [.ref (ad 40 0), .int p1, .int p2].toArray s 0 0 (fun q => b0 ≤ q)) 0 0 56 [(0, .ref (ad 40 0)), (1, .int a1), (2, .int a2), (3, .int a3)] [] S := by
    intro fu a1 a2 a3 S h
    refine lp_some (G := (fun q S => Gw D K b0 sa ad P n L f0 p l e { frames := 75, cells := 0, slots := 0, locals := 2781 } s m [.ref (ad 40 0), .int p1, .int p2].toArray below meth c 4 (MQ below (hQ D K b0 (fun v9 u9 => ∃ f2 : Nat → va_E, v9 = some (.int v) ∧ u9 = lU L f2 ∧ PW K ad P S1 L f2 ∧ S1.2.2.1 = n ∧ Kp ad P L f0 f2)) [.ref (ad 40 0), .int p1, .int p2].toArray s 0 0 (fun q => b0 ≤ q)) 0 0 56 [(0, .ref (ad 40 0)), (1, .int q.1), (2, .int q.2.1), (3, .int q.2.2)] [] S)) (fun k56 hk56 q S h => ?_) fu (a1, a2, a3) S h
    obtain ⟨a1, a2, a3⟩ := q
    have hk56 : ∀ (a1 : Int32) (a2 : Int32) (a3 : Int32) (S : fS), k56 (a1, a2, a3) S = some (v, S1) → Gw D K b0 sa ad P n L f0 p l e { frames := 75, cells := 0, slots := 0, locals := 2781 } s m [.ref (ad 40 0), .int p1, .int p2].toArray below meth c 4 (MQ below (hQ D K b0 (fun v9 u9 => ∃ f2 : Nat → va_E, v9 = some (.int v) ∧ u9 = lU L f2 ∧ PW K ad P S1 L f2 ∧ S1.2.2.1 = n ∧ Kp ad P L f0 f2)) [.ref (ad 40 0), .int p1, .int p2].toArray s 0 0 (fun q => b0 ≤ q)) 0 0 56 [(0, .ref (ad 40 0)), (1, .int a1), (2, .int a2), (3, .int a3)] [] S := fun a1 a2 a3 S h => hk56 (a1, a2, a3) S h
    dsimp only [B_X7_when_56] at h
    intro f H locs w hw hn hk ls hl
    refine lv_iload_n hx hb dX7_when_56 rfl (lv_at hl 3 rfl) ?_
    refine lv_bipush (v := 60) hx hb dX7_when_57 (by decide) ?_
    refine lv_icmp_gt (tgt := 85) hx hb dX7_when_59 (by decide) (fun c1 => ?_) (fun c1 => ?_)
    · have h := bb_t h c1
      refine lv_iconst (v := (-1)) hx hb dX7_when_85 (by decide) ?_
      exact t_iret C hr hlk w ⟨_, so_v h, rfl, so_w h hw, so_n h hn, hk⟩ (by decide) (by decide) dX7_when_86
    · have h := bb_f h c1
      refine lv_aload_n hx hb dX7_when_62 rfl (lv_at hl 0 rfl) ?_
      refine lv_iload_n hx hb dX7_when_63 rfl (lv_at hl 3 rfl) ?_
      obtain ⟨v2, S3, h4, h⟩ := bd_some h
      refine u_callV (n := 1) C w hw (hP _ _ (isn_f rfl rfl (by decide))) rfl rfl rfl (c_X7_namesOf l D K b0 sa _ L _ ad P hP S hw hn a3 v2 S3 h4) gw_1445 gw_1442 gw_1444 gs_42 gw_8 ⟨by decide, by decide, by decide +kernel⟩ rfl rfl ⟨by decide, by decide⟩ rfl hl.1 rfl (Nat.le_of_ble_eq_true rfl) dX7_when_64 ⟨Nat.le_of_ble_eq_true rfl, Nat.le_of_ble_eq_true rfl⟩ (fun v9 u H locs hp w => ?_)
      obtain ⟨f2, rfl, rfl, hw, hn, hk1⟩ := hp
      have hk := hk.tr hk1
      generalize f2 = f at w hw hk
      refine lv_aload_n hx hb dX7_when_67 rfl (lv_at hl 0 rfl) ?_
      refine lv_iload_n hx hb dX7_when_68 rfl (lv_at hl 1 rfl) ?_
      refine lv_iload_n hx hb dX7_when_69 rfl (lv_at hl 2 rfl) ?_
      refine lv_iconst (v := 0) hx hb dX7_when_70 (by decide) ?_
      obtain ⟨v5, S6, h7, h⟩ := bd_some h
      refine u_callV (n := 3) C w hw (hP _ _ (isn_f rfl rfl (by decide))) rfl rfl rfl (c_X7_isPaidBy l D K b0 sa _ L _ ad P hP S3 hw hn a1 a2 0 v5 S6 h7) gw_1593 gw_1590 gw_1592 gs_60 gw_8 ⟨by decide, by decide, by decide +kernel⟩ rfl rfl ⟨by decide, by decide⟩ rfl hl.1 rfl (Nat.le_of_ble_eq_true rfl) dX7_when_71 ⟨Nat.le_of_ble_eq_true rfl, Nat.le_of_ble_eq_true rfl⟩ (fun v9 u H locs hp w => ?_)
      obtain ⟨f2, rfl, rfl, hw, hn, hk1⟩ := hp
      have hk := hk.tr hk1
      generalize f2 = f at w hw hk
      refine lv_if_eq (tgt := 79) hx hb dX7_when_74 (by decide) (fun c8 => ?_) (fun c8 => ?_)
      · have h := bb_t h c8
        obtain ⟨x9, ex9, h⟩ := iv_some h
        refine lv_iinc (v := x9) (lv' := [(3, .int x9), (0, .ref (ad 40 0)), (1, .int a1), (2, .int a2)]) hx hb dX7_when_79 hl (k := 3) rfl ex9.symm (by decide) rfl (fun ls hl => ?_)
        refine lv_goto (tgt := 56) hx hb dX7_when_82 (by decide) ?_
        exact hk56 a1 a2 x9 S6 h f H locs w hw hn hk ls (lv_sub hl [1, 2, 3, 0] rfl)
      · have h := bb_f h c8
        refine lv_iload_n hx hb dX7_when_77 rfl (lv_at hl 3 rfl) ?_
        exact t_iret C hr hlk w ⟨_, so_v h, rfl, so_w h hw, so_n h hn, hk⟩ (by decide) (by decide) dX7_when_78
  have J45 : ∀ (a1 : Int32) (a2 : Int32) (t0 : Int32) (S : fS), B_X7_when_45  a1 a2 t0 S = some (v, S1) → Gw D K b0 sa ad P n L f0 p l e { frames := 75, cells := 0, slots := 0, locals := 2781 } s m [.ref (ad 40 0), .int p1, .int p2].toArray below meth c 4 (MQ below (hQ D K b0 (fun v9 u9 => ∃ f2 : Nat → va_E, v9 = some (.int v) ∧ u9 = lU L f2 ∧ PW K ad P S1 L f2 ∧ S1.2.2.1 = n ∧ Kp ad P L f0 f2)) [.ref (ad 40 0), .int p1, .int p2].toArray s 0 0 (fun q => b0 ≤ q)) 0 0 45 [(0, .ref (ad 40 0)), (1, .int a1), (2, .int a2)] [.int t0, .ref (ad 40 0)] S := by
    intro a1 a2 t0 S h
    dsimp only [B_X7_when_45] at h
    intro f H locs w hw hn hk ls hl
    refine lv_iconst (v := 2) hx hb dX7_when_45 (by decide) ?_
    obtain ⟨v10, S11, h12, h⟩ := bd_some h
    refine u_callV (n := 2) C w hw (hP _ _ (isn_f rfl rfl (by decide))) rfl rfl rfl (c_X7_bad l D K b0 sa _ L _ ad P hP S hw hn t0 2 v10 S11 h12) gw_1347 gw_1344 gw_1346 gs_22 gw_8 ⟨by decide, by decide, by decide +kernel⟩ rfl rfl ⟨by decide, by decide⟩ rfl hl.1 rfl (Nat.le_of_ble_eq_true rfl) dX7_when_46 ⟨Nat.le_of_ble_eq_true rfl, Nat.le_of_ble_eq_true rfl⟩ (fun v9 u H locs hp w => ?_)
    obtain ⟨f2, rfl, rfl, hw, hn, hk1⟩ := hp
    have hk := hk.tr hk1
    generalize f2 = f at w hw hk
    refine lv_if_eq (tgt := 54) hx hb dX7_when_49 (by decide) (fun c13 => ?_) (fun c13 => ?_)
    · have h := bb_t h c13
      refine lv_iconst (v := 1) hx hb dX7_when_54 (by decide) ?_
      refine lv_istore_n (lv' := [(3, .int 1), (0, .ref (ad 40 0)), (1, .int a1), (2, .int a2)]) hx hb dX7_when_55 rfl hl (by decide) rfl (fun ls hl => ?_)
      exact J56  fuel a1 a2 1 S11 h f H locs w hw hn hk ls (lv_sub hl [1, 2, 3, 0] rfl)
    · have h := bb_f h c13
      refine lv_iconst (v := 0) hx hb dX7_when_52 (by decide) ?_
      exact t_iret C hr hlk w ⟨_, so_v h, rfl, so_w h hw, so_n h hn, hk⟩ (by decide) (by decide) dX7_when_53
  have J18 : ∀ (a1 : Int32) (a2 : Int32) (t0 : Int32) (S : fS), B_X7_when_18  a1 a2 t0 S = some (v, S1) → Gw D K b0 sa ad P n L f0 p l e { frames := 75, cells := 0, slots := 0, locals := 2781 } s m [.ref (ad 40 0), .int p1, .int p2].toArray below meth c 4 (MQ below (hQ D K b0 (fun v9 u9 => ∃ f2 : Nat → va_E, v9 = some (.int v) ∧ u9 = lU L f2 ∧ PW K ad P S1 L f2 ∧ S1.2.2.1 = n ∧ Kp ad P L f0 f2)) [.ref (ad 40 0), .int p1, .int p2].toArray s 0 0 (fun q => b0 ≤ q)) 0 0 18 [(0, .ref (ad 40 0)), (1, .int a1), (2, .int a2)] [.int t0, .ref (ad 40 0)] S := by
    intro a1 a2 t0 S h
    dsimp only [B_X7_when_18] at h
    intro f H locs w hw hn hk ls hl
    refine lv_iconst (v := 1) hx hb dX7_when_18 (by decide) ?_
    obtain ⟨v14, S15, h16, h⟩ := bd_some h
    refine u_callV (n := 2) C w hw (hP _ _ (isn_f rfl rfl (by decide))) rfl rfl rfl (c_X7_bad l D K b0 sa _ L _ ad P hP S hw hn t0 1 v14 S15 h16) gw_1347 gw_1344 gw_1346 gs_22 gw_8 ⟨by decide, by decide, by decide +kernel⟩ rfl rfl ⟨by decide, by decide⟩ rfl hl.1 rfl (Nat.le_of_ble_eq_true rfl) dX7_when_19 ⟨Nat.le_of_ble_eq_true rfl, Nat.le_of_ble_eq_true rfl⟩ (fun v9 u H locs hp w => ?_)
    obtain ⟨f2, rfl, rfl, hw, hn, hk1⟩ := hp
    have hk := hk.tr hk1
    generalize f2 = f at w hw hk
    refine lv_if_ne (tgt := 52) hx hb dX7_when_22 (by decide) (fun c17 => ?_) (fun c17 => ?_)
    · have h := bb_f h c17
      refine lv_iconst (v := 0) hx hb dX7_when_52 (by decide) ?_
      exact t_iret C hr hlk w ⟨_, so_v h, rfl, so_w h hw, so_n h hn, hk⟩ (by decide) (by decide) dX7_when_53
    · have h := bb_t h c17
      refine lv_aload_n hx hb dX7_when_25 rfl (lv_at hl 0 rfl) ?_
      refine lv_iload_n hx hb dX7_when_26 rfl (lv_at hl 2 rfl) ?_
      refine lv_iconst (v := 0) hx hb dX7_when_27 (by decide) ?_
      refine lv_aload_n hx hb dX7_when_28 rfl (lv_at hl 0 rfl) ?_
      refine u_geti C w hw (hP _ _ (isn_f rfl rfl (by decide))) rfl (N := 57) rfl rfl cin_7 13 (by decide) rfl gw_1169 dX7_when_29 ?_
      refine u_iv h (fun x18 h => ?_)
      refine lv_iconst (v := 1) hx hb dX7_when_32 (by decide) ?_
      refine lv_isub hx hb dX7_when_33 ?_
      refine u_iv h (fun x19 h => ?_)
      obtain ⟨v20, S21, h22, h⟩ := bd_some h
      refine t_callS (n := 3) C w (c_X7_in l D K b0 sa _ L _ ad P hP S15 hw hn a2 0 x19 v20 S21 h22) gw_1343 gw_1341 gw_1342 gw_8 ⟨by decide, by decide, by decide +kernel⟩ rfl rfl ⟨by decide, by decide⟩ rfl hl.1 rfl (Nat.le_of_ble_eq_true rfl) dX7_when_34 ⟨Nat.le_of_ble_eq_true rfl, Nat.le_of_ble_eq_true rfl⟩ (fun v9 u H locs hp w => ?_)
      obtain ⟨f2, rfl, rfl, hw, hn, hk1⟩ := hp
      have hk := hk.tr hk1
      generalize f2 = f at w hw hk
      refine lv_if_ne (tgt := 44) hx hb dX7_when_37 (by decide) (fun c23 => ?_) (fun c23 => ?_)
      · have h := bb_f h c23
        refine lv_iconst (v := 0) hx hb dX7_when_44 (by decide) ?_
        exact J45  a1 a2 0 S21 h f H locs w hw hn hk ls (lv_sub hl [0, 1, 2] rfl)
      · have h := bb_t h c23
        refine lv_iconst (v := 1) hx hb dX7_when_40 (by decide) ?_
        refine lv_goto (tgt := 45) hx hb dX7_when_41 (by decide) ?_
        exact J45  a1 a2 1 S21 h f H locs w hw hn hk ls (lv_sub hl [0, 1, 2] rfl)
  dsimp only [F_X7_when] at h
  obtain ⟨f, ef⟩ : ∃ z, z = f0 := ⟨_, rfl⟩
  rw [← ef] at w hw
  have hk : Kp ad P L f0 f := by rw [ef]; exact Kp.rf
  obtain ⟨H, eH⟩ : ∃ z, z = s.heap := ⟨_, rfl⟩
  obtain ⟨locs, el⟩ : ∃ z : List Loc, z = [] := ⟨_, rfl⟩
  rw [← eH, ← el] at w ⊢
  refine lv_aload_n hx hb dX7_when_0 rfl (lv_at hl 0 rfl) ?_
  refine lv_iconst (v := 0) hx hb dX7_when_1 (by decide) ?_
  refine u_puti C w hw (hP _ _ (isn_f rfl rfl (by decide))) rfl (N := 57) rfl rfl cin_7 tyX7 tyX7_ok nmX7 0 (by decide) rfl rfl rfl rfl gw_1156 dX7_when_2 (fun f H locs w hw hk1 => ?_)
  have hk := hk.tr hk1
  refine u_sv h hw hn (fun S24 h hw hn => ?_)
  refine lv_aload_n hx hb dX7_when_5 rfl (lv_at hl 0 rfl) ?_
  refine lv_iload_n hx hb dX7_when_6 rfl (lv_at hl 1 rfl) ?_
  obtain ⟨v25, S26, h27, h⟩ := bd_some h
  refine t_callS (n := 1) C w (c_X7_isCell l D K b0 sa _ L _ ad P hP S24 hw hn p1 v25 S26 h27) gw_1467 gw_1465 gw_1466 gw_8 ⟨by decide, by decide, by decide +kernel⟩ rfl rfl ⟨by decide, by decide⟩ rfl hl.1 rfl (Nat.le_of_ble_eq_true rfl) dX7_when_7 ⟨Nat.le_of_ble_eq_true rfl, Nat.le_of_ble_eq_true rfl⟩ (fun v9 u H locs hp w => ?_)
  obtain ⟨f2, rfl, rfl, hw, hn, hk1⟩ := hp
  have hk := hk.tr hk1
  generalize f2 = f at w hw hk
  refine lv_if_ne (tgt := 17) hx hb dX7_when_10 (by decide) (fun c28 => ?_) (fun c28 => ?_)
  · have h := bb_f h c28
    refine lv_iconst (v := 0) hx hb dX7_when_17 (by decide) ?_
    exact J18  p1 p2 0 S26 h f H locs w hw hn hk ls (lv_sub hl [0, 1, 2] rfl)
  · have h := bb_t h c28
    refine lv_iconst (v := 1) hx hb dX7_when_13 (by decide) ?_
    refine lv_goto (tgt := 18) hx hb dX7_when_14 (by decide) ?_
    exact J18  p1 p2 1 S26 h f H locs w hw hn hk ls (lv_sub hl [0, 1, 2] rfl)
