theorem dX7_onWay_0 : decode cX7_onWay 0 = .ok (.iload_n 0, 1) := by decide +kernel
theorem dX7_onWay_1 : decode cX7_onWay 1 = .ok (.bipush 8, 2) := by decide +kernel
theorem dX7_onWay_3 : decode cX7_onWay 3 = .ok (.irem, 1) := by decide +kernel
theorem dX7_onWay_4 : decode cX7_onWay 4 = .ok (.istore_n 3, 1) := by decide +kernel
theorem dX7_onWay_5 : decode cX7_onWay 5 = .ok (.iload_n 0, 1) := by decide +kernel
theorem dX7_onWay_6 : decode cX7_onWay 6 = .ok (.bipush 8, 2) := by decide +kernel
theorem dX7_onWay_8 : decode cX7_onWay 8 = .ok (.idiv, 1) := by decide +kernel
theorem dX7_onWay_9 : decode cX7_onWay 9 = .ok (.istore 4, 2) := by decide +kernel
theorem dX7_onWay_11 : decode cX7_onWay 11 = .ok (.iload_n 2, 1) := by decide +kernel
theorem dX7_onWay_12 : decode cX7_onWay 12 = .ok (.istore 5, 2) := by decide +kernel
theorem dX7_onWay_14 : decode cX7_onWay 14 = .ok (.iload 5, 2) := by decide +kernel
theorem dX7_onWay_16 : decode cX7_onWay 16 = .ok (.ifCond .le 33, 3) := by decide +kernel
theorem dX7_onWay_19 : decode cX7_onWay 19 = .ok (.iload_n 3, 1) := by decide +kernel
theorem dX7_onWay_20 : decode cX7_onWay 20 = .ok (.iload_n 1, 1) := by decide +kernel
theorem dX7_onWay_21 : decode cX7_onWay 21 = .ok (.bipush 8, 2) := by decide +kernel
theorem dX7_onWay_23 : decode cX7_onWay 23 = .ok (.irem, 1) := by decide +kernel
theorem dX7_onWay_24 : decode cX7_onWay 24 = .ok (.if_icmp .eq 25, 3) := by decide +kernel
theorem dX7_onWay_27 : decode cX7_onWay 27 = .ok (.iload_n 3, 1) := by decide +kernel
theorem dX7_onWay_28 : decode cX7_onWay 28 = .ok (.iload_n 1, 1) := by decide +kernel
theorem dX7_onWay_29 : decode cX7_onWay 29 = .ok (.bipush 8, 2) := by decide +kernel
theorem dX7_onWay_31 : decode cX7_onWay 31 = .ok (.irem, 1) := by decide +kernel
theorem dX7_onWay_32 : decode cX7_onWay 32 = .ok (.iload_n 3, 1) := by decide +kernel
theorem dX7_onWay_33 : decode cX7_onWay 33 = .ok (.if_icmp .le 7, 3) := by decide +kernel
theorem dX7_onWay_36 : decode cX7_onWay 36 = .ok (.iconst 1, 1) := by decide +kernel
theorem dX7_onWay_37 : decode cX7_onWay 37 = .ok (.goto 4, 3) := by decide +kernel
theorem dX7_onWay_40 : decode cX7_onWay 40 = .ok (.iconst (-1), 1) := by decide +kernel
theorem dX7_onWay_41 : decode cX7_onWay 41 = .ok (.iadd, 1) := by decide +kernel
theorem dX7_onWay_42 : decode cX7_onWay 42 = .ok (.istore_n 3, 1) := by decide +kernel
theorem dX7_onWay_43 : decode cX7_onWay 43 = .ok (.iinc 5 (-1), 3) := by decide +kernel
theorem dX7_onWay_46 : decode cX7_onWay 46 = .ok (.goto (-32), 3) := by decide +kernel
theorem dX7_onWay_49 : decode cX7_onWay 49 = .ok (.iload 5, 2) := by decide +kernel
theorem dX7_onWay_51 : decode cX7_onWay 51 = .ok (.ifCond .le 37, 3) := by decide +kernel
theorem dX7_onWay_54 : decode cX7_onWay 54 = .ok (.iload 4, 2) := by decide +kernel
theorem dX7_onWay_56 : decode cX7_onWay 56 = .ok (.iload_n 1, 1) := by decide +kernel
theorem dX7_onWay_57 : decode cX7_onWay 57 = .ok (.bipush 8, 2) := by decide +kernel
theorem dX7_onWay_59 : decode cX7_onWay 59 = .ok (.idiv, 1) := by decide +kernel
theorem dX7_onWay_60 : decode cX7_onWay 60 = .ok (.if_icmp .eq 28, 3) := by decide +kernel
theorem dX7_onWay_63 : decode cX7_onWay 63 = .ok (.iload 4, 2) := by decide +kernel
theorem dX7_onWay_65 : decode cX7_onWay 65 = .ok (.iload_n 1, 1) := by decide +kernel
theorem dX7_onWay_66 : decode cX7_onWay 66 = .ok (.bipush 8, 2) := by decide +kernel
theorem dX7_onWay_68 : decode cX7_onWay 68 = .ok (.idiv, 1) := by decide +kernel
theorem dX7_onWay_69 : decode cX7_onWay 69 = .ok (.iload 4, 2) := by decide +kernel
theorem dX7_onWay_71 : decode cX7_onWay 71 = .ok (.if_icmp .le 7, 3) := by decide +kernel
theorem dX7_onWay_74 : decode cX7_onWay 74 = .ok (.iconst 1, 1) := by decide +kernel
theorem dX7_onWay_75 : decode cX7_onWay 75 = .ok (.goto 4, 3) := by decide +kernel
theorem dX7_onWay_78 : decode cX7_onWay 78 = .ok (.iconst (-1), 1) := by decide +kernel
theorem dX7_onWay_79 : decode cX7_onWay 79 = .ok (.iadd, 1) := by decide +kernel
theorem dX7_onWay_80 : decode cX7_onWay 80 = .ok (.istore 4, 2) := by decide +kernel
theorem dX7_onWay_82 : decode cX7_onWay 82 = .ok (.iinc 5 (-1), 3) := by decide +kernel
theorem dX7_onWay_85 : decode cX7_onWay 85 = .ok (.goto (-36), 3) := by decide +kernel
theorem dX7_onWay_88 : decode cX7_onWay 88 = .ok (.bipush 8, 2) := by decide +kernel
theorem dX7_onWay_90 : decode cX7_onWay 90 = .ok (.iload 4, 2) := by decide +kernel
theorem dX7_onWay_92 : decode cX7_onWay 92 = .ok (.imul, 1) := by decide +kernel
theorem dX7_onWay_93 : decode cX7_onWay 93 = .ok (.iload_n 3, 1) := by decide +kernel
theorem dX7_onWay_94 : decode cX7_onWay 94 = .ok (.iadd, 1) := by decide +kernel
theorem dX7_onWay_95 : decode cX7_onWay 95 = .ok (.ireturn, 1) := by decide +kernel
noncomputable def B_X7_onWay_41 (k14 : (Int32 × Int32 × Int32 × Int32) → fS → Option (Int32 × fS)) (a1 : Int32) (a4 : Int32) (a5 : Int32) (t0 : Int32) (t1 : Int32) (S : fS) : Option (Int32 × fS) := iv (t1 + t0) (fun x1 => iv (a5 + Int32.ofInt (-1)) (fun x2 => k14 (a1, x1, a4, x2) S))
noncomputable def B_X7_onWay_79 (k49 : (Int32 × Int32 × Int32 × Int32) → fS → Option (Int32 × fS)) (a1 : Int32) (a3 : Int32) (a5 : Int32) (t0 : Int32) (t1 : Int32) (S : fS) : Option (Int32 × fS) := iv (t1 + t0) (fun x3 => iv (a5 + Int32.ofInt (-1)) (fun x4 => k49 (a1, a3, x3, x4) S))
noncomputable def B_X7_onWay_88 (a3 : Int32) (a4 : Int32) (S : fS) : Option (Int32 × fS) := iv ((8 : Int32) * a4) (fun x5 => iv (x5 + a3) (fun x6 => some (x6, S)))
noncomputable def B_X7_onWay_49 (k49 : (Int32 × Int32 × Int32 × Int32) → fS → Option (Int32 × fS)) : (Int32 × Int32 × Int32 × Int32) → fS → Option (Int32 × fS) := fun ⟨a1, a3, a4, a5⟩ S => bb (a5 ≤ (0 : Int32)) (B_X7_onWay_88  a3 a4 S) (iv (a1 / (8 : Int32)) (fun x8 => bb (a4 = x8) (B_X7_onWay_88  a3 a4 S) (iv (a1 / (8 : Int32)) (fun x10 => bb (x10 ≤ a4) (B_X7_onWay_79 k49 a1 a3 a5 (-1) a4 S) (B_X7_onWay_79 k49 a1 a3 a5 1 a4 S)))))
noncomputable def B_X7_onWay_14 (k14 : (Int32 × Int32 × Int32 × Int32) → fS → Option (Int32 × fS)) : (Int32 × Int32 × Int32 × Int32) → fS → Option (Int32 × fS) := fun ⟨a1, a3, a4, a5⟩ S => bb (a5 ≤ (0 : Int32)) (lp (B_X7_onWay_49 ) fuel (a1, a3, a4, a5) S) (iv (a1 - a1 / (8 : Int32) * (8 : Int32)) (fun x13 => bb (a3 = x13) (lp (B_X7_onWay_49 ) fuel (a1, a3, a4, a5) S) (iv (a1 - a1 / (8 : Int32) * (8 : Int32)) (fun x15 => bb (x15 ≤ a3) (B_X7_onWay_41 k14 a1 a4 a5 (-1) a3 S) (B_X7_onWay_41 k14 a1 a4 a5 1 a3 S)))))
noncomputable def F_X7_onWay (p0 : Int32) (p1 : Int32) (p2 : Int32) (S0 : fS) : Option (Int32 × fS) := iv (p0 - p0 / (8 : Int32) * (8 : Int32)) (fun x17 => iv (p0 / (8 : Int32)) (fun x18 => lp (B_X7_onWay_14 ) fuel (p1, x17, x18, p2) S0))
set_option maxHeartbeats 4000000 in
set_option maxRecDepth 100000 in
theorem c_X7_onWay (l : Launch) (D : va_G) (K : Nat → ClassId) (b0 : Nat) (sa : sT) (sz : Nat) (L : List Nat) (f0 : Nat → va_E) (ad : Nat → Nat → Nat) (P : Nat → Nat → Prop) {n : Nat × Nat} (hP : ∀ a i : Nat, isn n a i → P a i) (S0 : fS) (hw : PW K ad P S0 L f0) (hn : S0.2.2.1 = n) (p0 : Int32) (p1 : Int32) (p2 : Int32) (v : Int32) (S1 : fS) (h : F_X7_onWay p0 p1 p2 S0 = some (v, S1)) : Met l yX7_onWay (.code yX7_onWay cX7_onWay 6 (some .int) :: gt) { frames := 0, cells := 0, slots := 0, locals := 0 } (va_Pc [.int p0, .int p1, .int p2] (hPre D K b0 sa sz L f0)) (hQ D K b0 (fun v9 u9 => ∃ f2 : Nat → va_E, v9 = some (.int v) ∧ u9 = lU L f2 ∧ PW K ad P S1 L f2 ∧ S1.2.2.1 = n ∧ Kp ad P L f0 f2)) 0 0 (fun q => b0 ≤ q) := by
  refine t_of (own := RX7) (by decide) rfl ?_ (Nat.le_of_ble_eq_true rfl)
  intro p e s m below meth c ls C w hsz hr hlk hnm hl
  have hx := C.1
  have hb := C.2.1
  have hl : lv_has ls 6 [(0, .int p0), (1, .int p1), (2, .int p2)] := hl
  have J41 : ∀ (k14 : (Int32 × Int32 × Int32 × Int32) → fS → Option (Int32 × fS)) (hk14 : ∀ (a1 : Int32) (a3 : Int32) (a4 : Int32) (a5 : Int32) (S : fS), k14 (a1, a3, a4, a5) S = some (v, S1) → Gw D K b0 sa ad P n L f0 p l e { frames := 0, cells := 0, slots := 0, locals := 0 } s m [.int p0, .int p1, .int p2].toArray below meth c 6 (MQ below (hQ D K b0 (fun v9 u9 => ∃ f2 : Nat → va_E, v9 = some (.int v) ∧ u9 = lU L f2 ∧ PW K ad P S1 L f2 ∧ S1.2.2.1 = n ∧ Kp ad P L f0 f2)) [.int p0, .int p1, .int p2].toArray s 0 0 (fun q => b0 ≤ q)) 0 0 14 [(1, .int a1), (3, .int a3), (4, .int a4), (5, .int a5)] [] S) (a1 : Int32) (a4 : Int32) (a5 : Int32) (t0 : Int32) (t1 : Int32) (S : fS), B_X7_onWay_41 k14 a1 a4 a5 t0 t1 S = some (v, S1) → Gw D K b0 sa ad P n L f0 p l e { frames := 0, cells := 0, slots := 0, locals := 0 } s m [.int p0, .int p1, .int p2].toArray below meth c 6 (MQ below (hQ D K b0 (fun v9 u9 => ∃ f2 : Nat → va_E, v9 = some (.int v) ∧ u9 = lU L f2 ∧ PW K ad P S1 L f2 ∧ S1.2.2.1 = n ∧ Kp ad P L f0 f2)) [.int p0, .int p1, .int p2].toArray s 0 0 (fun q => b0 ≤ q)) 0 0 41 [(1, .int a1), (4, .int a4), (5, .int a5)] [.int t0, .int t1] S := by
    intro k14 hk14 a1 a4 a5 t0 t1 S h
    dsimp only [B_X7_onWay_41] at h
    intro f H locs w hw hn hk ls hl
    refine lv_iadd hx hb dX7_onWay_41 ?_
    refine u_iv h (fun x1 h => ?_)
    refine lv_istore_n (lv' := [(3, .int x1), (1, .int a1), (4, .int a4), (5, .int a5)]) hx hb dX7_onWay_42 rfl hl (by decide) rfl (fun ls hl => ?_)
    obtain ⟨x2, ex2, h⟩ := iv_some h
    refine lv_iinc (v := x2) (lv' := [(5, .int x2), (3, .int x1), (1, .int a1), (4, .int a4)]) hx hb dX7_onWay_43 hl (k := 3) rfl ex2.symm (by decide) rfl (fun ls hl => ?_)
    refine lv_goto (tgt := 14) hx hb dX7_onWay_46 (by decide) ?_
    exact hk14 a1 x1 a4 x2 S h f H locs w hw hn hk ls (lv_sub hl [2, 1, 3, 0] rfl)
  have J79 : ∀ (k49 : (Int32 × Int32 × Int32 × Int32) → fS → Option (Int32 × fS)) (hk49 : ∀ (a1 : Int32) (a3 : Int32) (a4 : Int32) (a5 : Int32) (S : fS), k49 (a1, a3, a4, a5) S = some (v, S1) → Gw D K b0 sa ad P n L f0 p l e { frames := 0, cells := 0, slots := 0, locals := 0 } s m [.int p0, .int p1, .int p2].toArray below meth c 6 (MQ below (hQ D K b0 (fun v9 u9 => ∃ f2 : Nat → va_E, v9 = some (.int v) ∧ u9 = lU L f2 ∧ PW K ad P S1 L f2 ∧ S1.2.2.1 = n ∧ Kp ad P L f0 f2)) [.int p0, .int p1, .int p2].toArray s 0 0 (fun q => b0 ≤ q)) 0 0 49 [(1, .int a1), (3, .int a3), (4, .int a4), (5, .int a5)] [] S) (a1 : Int32) (a3 : Int32) (a5 : Int32) (t0 : Int32) (t1 : Int32) (S : fS), B_X7_onWay_79 k49 a1 a3 a5 t0 t1 S = some (v, S1) → Gw D K b0 sa ad P n L f0 p l e { frames := 0, cells := 0, slots := 0, locals := 0 } s m [.int p0, .int p1, .int p2].toArray below meth c 6 (MQ below (hQ D K b0 (fun v9 u9 => ∃ f2 : Nat → va_E, v9 = some (.int v) ∧ u9 = lU L f2 ∧ PW K ad P S1 L f2 ∧ S1.2.2.1 = n ∧ Kp ad P L f0 f2)) [.int p0, .int p1, .int p2].toArray s 0 0 (fun q => b0 ≤ q)) 0 0 79 [(1, .int a1), (3, .int a3), (5, .int a5)] [.int t0, .int t1] S := by
    intro k49 hk49 a1 a3 a5 t0 t1 S h
    dsimp only [B_X7_onWay_79] at h
    intro f H locs w hw hn hk ls hl
    refine lv_iadd hx hb dX7_onWay_79 ?_
    refine u_iv h (fun x3 h => ?_)
    refine lv_istore (lv' := [(4, .int x3), (1, .int a1), (3, .int a3), (5, .int a5)]) hx hb dX7_onWay_80 hl (by decide) rfl (fun ls hl => ?_)
    obtain ⟨x4, ex4, h⟩ := iv_some h
    refine lv_iinc (v := x4) (lv' := [(5, .int x4), (4, .int x3), (1, .int a1), (3, .int a3)]) hx hb dX7_onWay_82 hl (k := 3) rfl ex4.symm (by decide) rfl (fun ls hl => ?_)
    refine lv_goto (tgt := 49) hx hb dX7_onWay_85 (by decide) ?_
    exact hk49 a1 a3 x3 x4 S h f H locs w hw hn hk ls (lv_sub hl [2, 3, 1, 0] rfl)
  have J88 : ∀ (a3 : Int32) (a4 : Int32) (S : fS), B_X7_onWay_88  a3 a4 S = some (v, S1) → Gw D K b0 sa ad P n L f0 p l e { frames := 0, cells := 0, slots := 0, locals := 0 } s m [.int p0, .int p1, .int p2].toArray below meth c 6 (MQ below (hQ D K b0 (fun v9 u9 => ∃ f2 : Nat → va_E, v9 = some (.int v) ∧ u9 = lU L f2 ∧ PW K ad P S1 L f2 ∧ S1.2.2.1 = n ∧ Kp ad P L f0 f2)) [.int p0, .int p1, .int p2].toArray s 0 0 (fun q => b0 ≤ q)) 0 0 88 [(3, .int a3), (4, .int a4)] [] S := by
    intro a3 a4 S h
    dsimp only [B_X7_onWay_88] at h
    intro f H locs w hw hn hk ls hl
    refine lv_bipush (v := 8) hx hb dX7_onWay_88 (by decide) ?_
    refine lv_iload hx hb dX7_onWay_90 (lv_at hl 1 rfl) ?_
    refine lv_imul hx hb dX7_onWay_92 ?_
    refine u_iv h (fun x5 h => ?_)
    refine lv_iload_n hx hb dX7_onWay_93 rfl (lv_at hl 0 rfl) ?_
    refine lv_iadd hx hb dX7_onWay_94 ?_
    refine u_iv h (fun x6 h => ?_)
    exact t_iret C hr hlk w ⟨_, so_v h, rfl, so_w h hw, so_n h hn, hk⟩ (by decide) (by decide) dX7_onWay_95
  have J49 : ∀ (fu : Nat) (a1 : Int32) (a3 : Int32) (a4 : Int32) (a5 : Int32) (S : fS), lp (B_X7_onWay_49 ) fu (a1, a3, a4, a5) S = some (v, S1) → Gw D K b0 sa ad P n L f0 p l e { frames := 0, cells := 0, slots := 0, locals := 0 } s m [.int p0, .int p1, .int p2].toArray below meth c 6 (MQ below (hQ D K b0 (fun v9 u9 => ∃ f2 : Nat → va_E, v9 = some (.int v) ∧ u9 = lU L f2 ∧ PW K ad P S1 L f2 ∧ S1.2.2.1 = n ∧ Kp ad P L f0 f2)) [.int p0, .int p1, .int p2].toArray s 0 0 (fun q => b0 ≤ q)) 0 0 49 [(1, .int a1), (3, .int a3), (4, .int a4), (5, .int a5)] [] S := by
    intro fu a1 a3 a4 a5 S h
    refine lp_some (G := (fun q S => Gw D K b0 sa ad P n L f0 p l e { frames := 0, cells := 0, slots := 0, locals := 0 } s m [.int p0, .int p1, .int p2].toArray below meth c 6 (MQ below (hQ D K b0 (fun v9 u9 => ∃ f2 : Nat → va_E, v9 = some (.int v) ∧ u9 = lU L f2 ∧ PW K ad P S1 L f2 ∧ S1.2.2.1 = n ∧ Kp ad P L f0 f2)) [.int p0, .int p1, .int p2].toArray s 0 0 (fun q => b0 ≤ q)) 0 0 49 [(1, .int q.1), (3, .int q.2.1), (4, .int q.2.2.1), (5, .int q.2.2.2)] [] S)) (fun k49 hk49 q S h => ?_) fu (a1, a3, a4, a5) S h
    obtain ⟨a1, a3, a4, a5⟩ := q
    have hk49 : ∀ (a1 : Int32) (a3 : Int32) (a4 : Int32) (a5 : Int32) (S : fS), k49 (a1, a3, a4, a5) S = some (v, S1) → Gw D K b0 sa ad P n L f0 p l e { frames := 0, cells := 0, slots := 0, locals := 0 } s m [.int p0, .int p1, .int p2].toArray below meth c 6 (MQ below (hQ D K b0 (fun v9 u9 => ∃ f2 : Nat → va_E, v9 = some (.int v) ∧ u9 = lU L f2 ∧ PW K ad P S1 L f2 ∧ S1.2.2.1 = n ∧ Kp ad P L f0 f2)) [.int p0, .int p1, .int p2].toArray s 0 0 (fun q => b0 ≤ q)) 0 0 49 [(1, .int a1), (3, .int a3), (4, .int a4), (5, .int a5)] [] S := fun a1 a3 a4 a5 S h => hk49 (a1, a3, a4, a5) S h
    dsimp only [B_X7_onWay_49] at h
    intro f H locs w hw hn hk ls hl
    refine lv_iload hx hb dX7_onWay_49 (lv_at hl 3 rfl) ?_
    refine lv_if_le (tgt := 88) hx hb dX7_onWay_51 (by decide) (fun c7 => ?_) (fun c7 => ?_)
    · have h := bb_t h c7
      exact J88  a3 a4 S h f H locs w hw hn hk ls (lv_sub hl [1, 2] rfl)
    · have h := bb_f h c7
      refine lv_iload hx hb dX7_onWay_54 (lv_at hl 2 rfl) ?_
      refine lv_iload_n hx hb dX7_onWay_56 rfl (lv_at hl 0 rfl) ?_
      refine lv_bipush (v := 8) hx hb dX7_onWay_57 (by decide) ?_
      refine lv_idiv hx hb dX7_onWay_59 (by decide) ?_
      refine u_iv h (fun x8 h => ?_)
      refine lv_icmp_eq (tgt := 88) hx hb dX7_onWay_60 (by decide) (fun c9 => ?_) (fun c9 => ?_)
      · have h := bb_t h c9
        exact J88  a3 a4 S h f H locs w hw hn hk ls (lv_sub hl [1, 2] rfl)
      · have h := bb_f h c9
        refine lv_iload hx hb dX7_onWay_63 (lv_at hl 2 rfl) ?_
        refine lv_iload_n hx hb dX7_onWay_65 rfl (lv_at hl 0 rfl) ?_
        refine lv_bipush (v := 8) hx hb dX7_onWay_66 (by decide) ?_
        refine lv_idiv hx hb dX7_onWay_68 (by decide) ?_
        refine u_iv h (fun x10 h => ?_)
        refine lv_iload hx hb dX7_onWay_69 (lv_at hl 2 rfl) ?_
        refine lv_icmp_le (tgt := 78) hx hb dX7_onWay_71 (by decide) (fun c11 => ?_) (fun c11 => ?_)
        · have h := bb_t h c11
          refine lv_iconst (v := (-1)) hx hb dX7_onWay_78 (by decide) ?_
          exact J79 k49 hk49 a1 a3 a5 (-1) a4 S h f H locs w hw hn hk ls (lv_sub hl [0, 1, 3] rfl)
        · have h := bb_f h c11
          refine lv_iconst (v := 1) hx hb dX7_onWay_74 (by decide) ?_
          refine lv_goto (tgt := 79) hx hb dX7_onWay_75 (by decide) ?_
          exact J79 k49 hk49 a1 a3 a5 1 a4 S h f H locs w hw hn hk ls (lv_sub hl [0, 1, 3] rfl)
  have J14 : ∀ (fu : Nat) (a1 : Int32) (a3 : Int32) (a4 : Int32) (a5 : Int32) (S : fS), lp (B_X7_onWay_14 ) fu (a1, a3, a4, a5) S = some (v, S1) → Gw D K b0 sa ad P n L f0 p l e { frames := 0, cells := 0, slots := 0, locals := 0 } s m [.int p0, .int p1, .int p2].toArray below meth c 6 (MQ below (hQ D K b0 (fun v9 u9 => ∃ f2 : Nat → va_E, v9 = some (.int v) ∧ u9 = lU L f2 ∧ PW K ad P S1 L f2 ∧ S1.2.2.1 = n ∧ Kp ad P L f0 f2)) [.int p0, .int p1, .int p2].toArray s 0 0 (fun q => b0 ≤ q)) 0 0 14 [(1, .int a1), (3, .int a3), (4, .int a4), (5, .int a5)] [] S := by
    intro fu a1 a3 a4 a5 S h
    refine lp_some (G := (fun q S => Gw D K b0 sa ad P n L f0 p l e { frames := 0, cells := 0, slots := 0, locals := 0 } s m [.int p0, .int p1, .int p2].toArray below meth c 6 (MQ below (hQ D K b0 (fun v9 u9 => ∃ f2 : Nat → va_E, v9 = some (.int v) ∧ u9 = lU L f2 ∧ PW K ad P S1 L f2 ∧ S1.2.2.1 = n ∧ Kp ad P L f0 f2)) [.int p0, .int p1, .int p2].toArray s 0 0 (fun q => b0 ≤ q)) 0 0 14 [(1, .int q.1), (3, .int q.2.1), (4, .int q.2.2.1), (5, .int q.2.2.2)] [] S)) (fun k14 hk14 q S h => ?_) fu (a1, a3, a4, a5) S h
    obtain ⟨a1, a3, a4, a5⟩ := q
    have hk14 : ∀ (a1 : Int32) (a3 : Int32) (a4 : Int32) (a5 : Int32) (S : fS), k14 (a1, a3, a4, a5) S = some (v, S1) → Gw D K b0 sa ad P n L f0 p l e { frames := 0, cells := 0, slots := 0, locals := 0 } s m [.int p0, .int p1, .int p2].toArray below meth c 6 (MQ below (hQ D K b0 (fun v9 u9 => ∃ f2 : Nat → va_E, v9 = some (.int v) ∧ u9 = lU L f2 ∧ PW K ad P S1 L f2 ∧ S1.2.2.1 = n ∧ Kp ad P L f0 f2)) [.int p0, .int p1, .int p2].toArray s 0 0 (fun q => b0 ≤ q)) 0 0 14 [(1, .int a1), (3, .int a3), (4, .int a4), (5, .int a5)] [] S := fun a1 a3 a4 a5 S h => hk14 (a1, a3, a4, a5) S h
    dsimp only [B_X7_onWay_14] at h
    intro f H locs w hw hn hk ls hl
    refine lv_iload hx hb dX7_onWay_14 (lv_at hl 3 rfl) ?_
    refine lv_if_le (tgt := 49) hx hb dX7_onWay_16 (by decide) (fun c12 => ?_) (fun c12 => ?_)
    · have h := bb_t h c12
      exact J49  fuel a1 a3 a4 a5 S h f H locs w hw hn hk ls (lv_sub hl [0, 1, 2, 3] rfl)
    · have h := bb_f h c12
      refine lv_iload_n hx hb dX7_onWay_19 rfl (lv_at hl 1 rfl) ?_
      refine lv_iload_n hx hb dX7_onWay_20 rfl (lv_at hl 0 rfl) ?_
      refine lv_bipush (v := 8) hx hb dX7_onWay_21 (by decide) ?_
      refine lv_irem hx hb dX7_onWay_23 (by decide) ?_
      refine u_iv h (fun x13 h => ?_)
      refine lv_icmp_eq (tgt := 49) hx hb dX7_onWay_24 (by decide) (fun c14 => ?_) (fun c14 => ?_)
      · have h := bb_t h c14
        exact J49  fuel a1 a3 a4 a5 S h f H locs w hw hn hk ls (lv_sub hl [0, 1, 2, 3] rfl)
      · have h := bb_f h c14
        refine lv_iload_n hx hb dX7_onWay_27 rfl (lv_at hl 1 rfl) ?_
        refine lv_iload_n hx hb dX7_onWay_28 rfl (lv_at hl 0 rfl) ?_
        refine lv_bipush (v := 8) hx hb dX7_onWay_29 (by decide) ?_
        refine lv_irem hx hb dX7_onWay_31 (by decide) ?_
        refine u_iv h (fun x15 h => ?_)
        refine lv_iload_n hx hb dX7_onWay_32 rfl (lv_at hl 1 rfl) ?_
        refine lv_icmp_le (tgt := 40) hx hb dX7_onWay_33 (by decide) (fun c16 => ?_) (fun c16 => ?_)
        · have h := bb_t h c16
          refine lv_iconst (v := (-1)) hx hb dX7_onWay_40 (by decide) ?_
          exact J41 k14 hk14 a1 a4 a5 (-1) a3 S h f H locs w hw hn hk ls (lv_sub hl [0, 2, 3] rfl)
        · have h := bb_f h c16
          refine lv_iconst (v := 1) hx hb dX7_onWay_36 (by decide) ?_
          refine lv_goto (tgt := 41) hx hb dX7_onWay_37 (by decide) ?_
          exact J41 k14 hk14 a1 a4 a5 1 a3 S h f H locs w hw hn hk ls (lv_sub hl [0, 2, 3] rfl)
  dsimp only [F_X7_onWay] at h
  obtain ⟨f, ef⟩ : ∃ z, z = f0 := ⟨_, rfl⟩
  rw [← ef] at w hw
  have hk : Kp ad P L f0 f := by rw [ef]; exact Kp.rf
  obtain ⟨H, eH⟩ : ∃ z, z = s.heap := ⟨_, rfl⟩
  obtain ⟨locs, el⟩ : ∃ z : List Loc, z = [] := ⟨_, rfl⟩
  rw [← eH, ← el] at w ⊢
  refine lv_iload_n hx hb dX7_onWay_0 rfl (lv_at hl 0 rfl) ?_
  refine lv_bipush (v := 8) hx hb dX7_onWay_1 (by decide) ?_
  refine lv_irem hx hb dX7_onWay_3 (by decide) ?_
  refine u_iv h (fun x17 h => ?_)
  refine lv_istore_n (lv' := [(3, .int x17), (0, .int p0), (1, .int p1), (2, .int p2)]) hx hb dX7_onWay_4 rfl hl (by decide) rfl (fun ls hl => ?_)
  refine lv_iload_n hx hb dX7_onWay_5 rfl (lv_at hl 1 rfl) ?_
  refine lv_bipush (v := 8) hx hb dX7_onWay_6 (by decide) ?_
  refine lv_idiv hx hb dX7_onWay_8 (by decide) ?_
  refine u_iv h (fun x18 h => ?_)
  refine lv_istore (lv' := [(4, .int x18), (3, .int x17), (0, .int p0), (1, .int p1), (2, .int p2)]) hx hb dX7_onWay_9 hl (by decide) rfl (fun ls hl => ?_)
  refine lv_iload_n hx hb dX7_onWay_11 rfl (lv_at hl 4 rfl) ?_
  refine lv_istore (lv' := [(5, .int p2), (4, .int x18), (3, .int x17), (0, .int p0), (1, .int p1), (2, .int p2)]) hx hb dX7_onWay_12 hl (by decide) rfl (fun ls hl => ?_)
  exact J14  fuel p1 x17 x18 p2 S0 h f H locs w hw hn hk ls (lv_sub hl [4, 2, 1, 0] rfl)
theorem dX7_judged_0 : decode cX7_judged 0 = .ok (.iload_n 2, 1) := by decide +kernel
theorem dX7_judged_1 : decode cX7_judged 1 = .ok (.iload_n 3, 1) := by decide +kernel
theorem dX7_judged_2 : decode cX7_judged 2 = .ok (.bipush 8, 2) := by decide +kernel
theorem dX7_judged_4 : decode cX7_judged 4 = .ok (.irem, 1) := by decide +kernel
theorem dX7_judged_5 : decode cX7_judged 5 = .ok (.iload 4, 2) := by decide +kernel
theorem dX7_judged_7 : decode cX7_judged 7 = .ok (.bipush 8, 2) := by decide +kernel
theorem dX7_judged_9 : decode cX7_judged 9 = .ok (.irem, 1) := by decide +kernel
theorem dX7_judged_10 : decode cX7_judged 10 = .ok (.invokestatic 294, 3) := by decide +kernel
theorem dX7_judged_13 : decode cX7_judged 13 = .ok (.iadd, 1) := by decide +kernel
theorem dX7_judged_14 : decode cX7_judged 14 = .ok (.iload_n 3, 1) := by decide +kernel
theorem dX7_judged_15 : decode cX7_judged 15 = .ok (.bipush 8, 2) := by decide +kernel
theorem dX7_judged_17 : decode cX7_judged 17 = .ok (.idiv, 1) := by decide +kernel
theorem dX7_judged_18 : decode cX7_judged 18 = .ok (.iload 4, 2) := by decide +kernel
theorem dX7_judged_20 : decode cX7_judged 20 = .ok (.bipush 8, 2) := by decide +kernel
theorem dX7_judged_22 : decode cX7_judged 22 = .ok (.idiv, 1) := by decide +kernel
theorem dX7_judged_23 : decode cX7_judged 23 = .ok (.invokestatic 294, 3) := by decide +kernel
theorem dX7_judged_26 : decode cX7_judged 26 = .ok (.iadd, 1) := by decide +kernel
theorem dX7_judged_27 : decode cX7_judged 27 = .ok (.istore 7, 2) := by decide +kernel
theorem dX7_judged_29 : decode cX7_judged 29 = .ok (.aload_n 0, 1) := by decide +kernel
theorem dX7_judged_30 : decode cX7_judged 30 = .ok (.iconst (-1), 1) := by decide +kernel
theorem dX7_judged_31 : decode cX7_judged 31 = .ok (.putfield 281, 3) := by decide +kernel
theorem dX7_judged_34 : decode cX7_judged 34 = .ok (.iconst 0, 1) := by decide +kernel
theorem dX7_judged_35 : decode cX7_judged 35 = .ok (.istore 8, 2) := by decide +kernel
theorem dX7_judged_37 : decode cX7_judged 37 = .ok (.iload 8, 2) := by decide +kernel
theorem dX7_judged_39 : decode cX7_judged 39 = .ok (.iload 7, 2) := by decide +kernel
theorem dX7_judged_41 : decode cX7_judged 41 = .ok (.if_icmp .lt 8, 3) := by decide +kernel
theorem dX7_judged_44 : decode cX7_judged 44 = .ok (.iload 8, 2) := by decide +kernel
theorem dX7_judged_46 : decode cX7_judged 46 = .ok (.ifCond .ne 58, 3) := by decide +kernel
theorem dX7_judged_49 : decode cX7_judged 49 = .ok (.iload 5, 2) := by decide +kernel
theorem dX7_judged_51 : decode cX7_judged 51 = .ok (.iload 6, 2) := by decide +kernel
theorem dX7_judged_53 : decode cX7_judged 53 = .ok (.iload 8, 2) := by decide +kernel
theorem dX7_judged_55 : decode cX7_judged 55 = .ok (.imul, 1) := by decide +kernel
theorem dX7_judged_56 : decode cX7_judged 56 = .ok (.bipush 10, 2) := by decide +kernel
theorem dX7_judged_58 : decode cX7_judged 58 = .ok (.idiv, 1) := by decide +kernel
theorem dX7_judged_59 : decode cX7_judged 59 = .ok (.isub, 1) := by decide +kernel
theorem dX7_judged_60 : decode cX7_judged 60 = .ok (.iload_n 1, 1) := by decide +kernel
theorem dX7_judged_61 : decode cX7_judged 61 = .ok (.if_icmp .lt 6, 3) := by decide +kernel
theorem dX7_judged_64 : decode cX7_judged 64 = .ok (.goto 34, 3) := by decide +kernel
theorem dX7_judged_67 : decode cX7_judged 67 = .ok (.iload 8, 2) := by decide +kernel
theorem dX7_judged_69 : decode cX7_judged 69 = .ok (.ifCond .ne 5, 3) := by decide +kernel
theorem dX7_judged_72 : decode cX7_judged 72 = .ok (.iconst 1, 1) := by decide +kernel
theorem dX7_judged_73 : decode cX7_judged 73 = .ok (.ireturn, 1) := by decide +kernel
theorem dX7_judged_74 : decode cX7_judged 74 = .ok (.iload 8, 2) := by decide +kernel
theorem dX7_judged_76 : decode cX7_judged 76 = .ok (.iload_n 2, 1) := by decide +kernel
theorem dX7_judged_77 : decode cX7_judged 77 = .ok (.if_icmp .gt 5, 3) := by decide +kernel
theorem dX7_judged_80 : decode cX7_judged 80 = .ok (.iconst 2, 1) := by decide +kernel
theorem dX7_judged_81 : decode cX7_judged 81 = .ok (.ireturn, 1) := by decide +kernel
theorem dX7_judged_82 : decode cX7_judged 82 = .ok (.aload_n 0, 1) := by decide +kernel
theorem dX7_judged_83 : decode cX7_judged 83 = .ok (.iload_n 3, 1) := by decide +kernel
theorem dX7_judged_84 : decode cX7_judged 84 = .ok (.iload 4, 2) := by decide +kernel
theorem dX7_judged_86 : decode cX7_judged 86 = .ok (.iload 8, 2) := by decide +kernel
theorem dX7_judged_88 : decode cX7_judged 88 = .ok (.iload_n 2, 1) := by decide +kernel
theorem dX7_judged_89 : decode cX7_judged 89 = .ok (.isub, 1) := by decide +kernel
theorem dX7_judged_90 : decode cX7_judged 90 = .ok (.invokestatic 297, 3) := by decide +kernel
theorem dX7_judged_93 : decode cX7_judged 93 = .ok (.putfield 281, 3) := by decide +kernel
theorem dX7_judged_96 : decode cX7_judged 96 = .ok (.iconst 3, 1) := by decide +kernel
theorem dX7_judged_97 : decode cX7_judged 97 = .ok (.ireturn, 1) := by decide +kernel
theorem dX7_judged_98 : decode cX7_judged 98 = .ok (.iinc 8 1, 3) := by decide +kernel
theorem dX7_judged_101 : decode cX7_judged 101 = .ok (.goto (-64), 3) := by decide +kernel
theorem dX7_judged_104 : decode cX7_judged 104 = .ok (.iconst 5, 1) := by decide +kernel
theorem dX7_judged_105 : decode cX7_judged 105 = .ok (.ireturn, 1) := by decide +kernel
noncomputable def B_X7_judged_49 (k37 : (Int32 × Int32 × Int32 × Int32 × Int32 × Int32 × Int32 × Int32) → fS → Option (Int32 × fS)) (a1 : Int32) (a2 : Int32) (a3 : Int32) (a4 : Int32) (a5 : Int32) (a6 : Int32) (a7 : Int32) (a8 : Int32) (S : fS) : Option (Int32 × fS) := iv (a6 * a8) (fun x1 => iv (x1 / (10 : Int32)) (fun x2 => iv (a5 - x2) (fun x3 => bb (x3 < a1) (bb (a8 = (0 : Int32)) (some (1, S)) (bb (a2 < a8) (iv (a8 - a2) (fun x7 => bd (F_X7_onWay a3 a4 x7 S) (fun v8 S9 => sv (pu S9 40 0 42 v8) (fun S11 => some (3, S11))))) (some (2, S)))) (iv (a8 + Int32.ofInt 1) (fun x12 => k37 (a1, a2, a3, a4, a5, a6, a7, x12) S)))))
noncomputable def B_X7_judged_37 (k37 : (Int32 × Int32 × Int32 × Int32 × Int32 × Int32 × Int32 × Int32) → fS → Option (Int32 × fS)) : (Int32 × Int32 × Int32 × Int32 × Int32 × Int32 × Int32 × Int32) → fS → Option (Int32 × fS) := fun ⟨a1, a2, a3, a4, a5, a6, a7, a8⟩ S => bb (a8 < a7) (B_X7_judged_49 k37 a1 a2 a3 a4 a5 a6 a7 a8 S) (bb (a8 = (0 : Int32)) (B_X7_judged_49 k37 a1 a2 a3 a4 a5 a6 a7 a8 S) (some (5, S)))
noncomputable def F_X7_judged (p1 : Int32) (p2 : Int32) (p3 : Int32) (p4 : Int32) (p5 : Int32) (p6 : Int32) (S0 : fS) : Option (Int32 × fS) := iv (p3 - p3 / (8 : Int32) * (8 : Int32)) (fun x15 => iv (p4 - p4 / (8 : Int32) * (8 : Int32)) (fun x16 => bd (F_X7_apart x15 x16 S0) (fun v17 S18 => iv (p2 + v17) (fun x20 => iv (p3 / (8 : Int32)) (fun x21 => iv (p4 / (8 : Int32)) (fun x22 => bd (F_X7_apart x21 x22 S18) (fun v23 S24 => iv (x20 + v23) (fun x26 => sv (pu S24 40 0 42 (-1)) (fun S27 => lp (B_X7_judged_37 ) fuel (p1, p2, p3, p4, p5, p6, x26, 0) S27)))))))))
set_option maxHeartbeats 4000000 in
set_option maxRecDepth 100000 in
theorem c_X7_judged (l : Launch) (D : va_G) (K : Nat → ClassId) (b0 : Nat) (sa : sT) (sz : Nat) (L : List Nat) (f0 : Nat → va_E) (ad : Nat → Nat → Nat) (P : Nat → Nat → Prop) {n : Nat × Nat} (hP : ∀ a i : Nat, isn n a i → P a i) (S0 : fS) (hw : PW K ad P S0 L f0) (hn : S0.2.2.1 = n) (p1 : Int32) (p2 : Int32) (p3 : Int32) (p4 : Int32) (p5 : Int32) (p6 : Int32) (v : Int32) (S1 : fS) (h : F_X7_judged p1 p2 p3 p4 p5 p6 S0 = some (v, S1)) : Met l yX7_judged (.code yX7_judged cX7_judged 9 (some .int) :: gt) { frames := 1, cells := 0, slots := 0, locals := 25 } (va_Pc [.ref (ad 40 0), .int p1, .int p2, .int p3, .int p4, .int p5, .int p6] (hPre D K b0 sa sz L f0)) (hQ D K b0 (fun v9 u9 => ∃ f2 : Nat → va_E, v9 = some (.int v) ∧ u9 = lU L f2 ∧ PW K ad P S1 L f2 ∧ S1.2.2.1 = n ∧ Kp ad P L f0 f2)) 0 0 (fun q => b0 ≤ q) := by
  refine t_of (own := RX7) (by decide) rfl ?_ (Nat.le_of_ble_eq_true rfl)
  intro p e s m below meth c ls C w hsz hr hlk hnm hl
  have hx := C.1
  have hb := C.2.1
  have hl : lv_has ls 9 [(0, .ref (ad 40 0)), (1, .int p1), (2, .int p2), (3, .int p3), (4, .int p4), (5, .int p5), (6, .int p6)] := hl
  have J49 : ∀ (k37 : (Int32 × Int32 × Int32 × Int32 × Int32 × Int32 × Int32 × Int32) → fS → Option (Int32 × fS)) (hk37 : ∀ (a1 : Int32) (a2 : Int32) (a3 : Int32) (a4 : Int32) (a5 : Int32) (a6 : Int32) (a7 : Int32) (a8 : Int32) (S : fS), k37 (a1, a2, a3, a4, a5, a6, a7, a8) S = some (v, S1) → Gw D K b0 sa ad P n L f0 p l e { frames := 1, cells := 0, slots := 0, locals := 25 } s m [.ref (ad 40 0), .int p1, .int p2, .int p3, .int p4, .int p5, .int p6].toArray below meth c 9 (MQ below (hQ D K b0 (fun v9 u9 => ∃ f2 : Nat → va_E, v9 = some (.int v) ∧ u9 = lU L f2 ∧ PW K ad P S1 L f2 ∧ S1.2.2.1 = n ∧ Kp ad P L f0 f2)) [.ref (ad 40 0), .int p1, .int p2, .int p3, .int p4, .int p5, .int p6].toArray s 0 0 (fun q => b0 ≤ q)) 0 0 37 [(0, .ref (ad 40 0)), (1, .int a1), (2, .int a2), (3, .int a3), (4, .int a4), (5, .int a5), (6, .int a6), (7, .int a7), (8, .int a8)] [] S) (a1 : Int32) (a2 : Int32) (a3 : Int32) (a4 : Int32) (a5 : Int32) (a6 : Int32) (a7 : Int32) (a8 : Int32) (S : fS), B_X7_judged_49 k37 a1 a2 a3 a4 a5 a6 a7 a8 S = some (v, S1) → Gw D K b0 sa ad P n L f0 p l e { frames := 1, cells := 0, slots := 0, locals := 25 } s m [.ref (ad 40 0), .int p1, .int p2, .int p3, .int p4, .int p5, .int p6].toArray below meth c 9 (MQ below (hQ D K b0 (fun v9 u9 => ∃ f2 : Nat → va_E, v9 = some (.int v) ∧ u9 = lU L f2 ∧ PW K ad P S1 L f2 ∧ S1.2.2.1 = n ∧ Kp ad P L f0 f2)) [.ref (ad 40 0), .int p1, .int p2, .int p3, .int p4, .int p5, .int p6].toArray s 0 0 (fun q => b0 ≤ q)) 0 0 49 [(0, .ref (ad 40 0)), (1, .int a1), (2, .int a2), (3, .int a3), (4, .int a4), (5, .int a5), (6, .int a6), (7, .int a7), (8, .int a8)] [] S := by
    intro k37 hk37 a1 a2 a3 a4 a5 a6 a7 a8 S h
    dsimp only [B_X7_judged_49] at h
    intro f H locs w hw hn hk ls hl
    refine lv_iload hx hb dX7_judged_49 (lv_at hl 5 rfl) ?_
    refine lv_iload hx hb dX7_judged_51 (lv_at hl 6 rfl) ?_
    refine lv_iload hx hb dX7_judged_53 (lv_at hl 8 rfl) ?_
    refine lv_imul hx hb dX7_judged_55 ?_
    refine u_iv h (fun x1 h => ?_)
    refine lv_bipush (v := 10) hx hb dX7_judged_56 (by decide) ?_
    refine lv_idiv hx hb dX7_judged_58 (by decide) ?_
    refine u_iv h (fun x2 h => ?_)
    refine lv_isub hx hb dX7_judged_59 ?_
    refine u_iv h (fun x3 h => ?_)
    refine lv_iload_n hx hb dX7_judged_60 rfl (lv_at hl 1 rfl) ?_
    refine lv_icmp_lt (tgt := 67) hx hb dX7_judged_61 (by decide) (fun c4 => ?_) (fun c4 => ?_)
    · have h := bb_t h c4
      refine lv_iload hx hb dX7_judged_67 (lv_at hl 8 rfl) ?_
      refine lv_if_ne (tgt := 74) hx hb dX7_judged_69 (by decide) (fun c5 => ?_) (fun c5 => ?_)
      · have h := bb_f h c5
        refine lv_iload hx hb dX7_judged_74 (lv_at hl 8 rfl) ?_
        refine lv_iload_n hx hb dX7_judged_76 rfl (lv_at hl 2 rfl) ?_
        refine lv_icmp_gt (tgt := 82) hx hb dX7_judged_77 (by decide) (fun c6 => ?_) (fun c6 => ?_)
        · have h := bb_t h c6
          refine lv_aload_n hx hb dX7_judged_82 rfl (lv_at hl 0 rfl) ?_
          refine lv_iload_n hx hb dX7_judged_83 rfl (lv_at hl 3 rfl) ?_
          refine lv_iload hx hb dX7_judged_84 (lv_at hl 4 rfl) ?_
          refine lv_iload hx hb dX7_judged_86 (lv_at hl 8 rfl) ?_
          refine lv_iload_n hx hb dX7_judged_88 rfl (lv_at hl 2 rfl) ?_
          refine lv_isub hx hb dX7_judged_89 ?_
          refine u_iv h (fun x7 h => ?_)
          obtain ⟨v8, S9, h10, h⟩ := bd_some h
          refine t_callS (n := 3) C w (c_X7_onWay l D K b0 sa _ L _ ad P hP S hw hn a3 a4 x7 v8 S9 h10) gw_1548 gw_1546 gw_1547 gw_8 ⟨by decide, by decide, by decide +kernel⟩ rfl rfl ⟨by decide, by decide⟩ rfl hl.1 rfl (Nat.le_of_ble_eq_true rfl) dX7_judged_90 ⟨Nat.le_of_ble_eq_true rfl, Nat.le_of_ble_eq_true rfl⟩ (fun v9 u H locs hp w => ?_)
          obtain ⟨f2, rfl, rfl, hw, hn, hk1⟩ := hp
          have hk := hk.tr hk1
          generalize f2 = f at w hw hk
          refine u_puti C w hw (hP _ _ (isn_f rfl rfl (by decide))) rfl (N := 57) rfl rfl cin_7 tyX7 tyX7_ok nmX7 42 (by decide) rfl rfl rfl rfl gw_1198 dX7_judged_93 (fun f H locs w hw hk1 => ?_)
          have hk := hk.tr hk1
          refine u_sv h hw hn (fun S11 h hw hn => ?_)
          refine lv_iconst (v := 3) hx hb dX7_judged_96 (by decide) ?_
          exact t_iret C hr hlk w ⟨_, so_v h, rfl, so_w h hw, so_n h hn, hk⟩ (by decide) (by decide) dX7_judged_97
        · have h := bb_f h c6
          refine lv_iconst (v := 2) hx hb dX7_judged_80 (by decide) ?_
          exact t_iret C hr hlk w ⟨_, so_v h, rfl, so_w h hw, so_n h hn, hk⟩ (by decide) (by decide) dX7_judged_81
      · have h := bb_t h c5
        refine lv_iconst (v := 1) hx hb dX7_judged_72 (by decide) ?_
        exact t_iret C hr hlk w ⟨_, so_v h, rfl, so_w h hw, so_n h hn, hk⟩ (by decide) (by decide) dX7_judged_73
    · have h := bb_f h c4
      refine lv_goto (tgt := 98) hx hb dX7_judged_64 (by decide) ?_
      obtain ⟨x12, ex12, h⟩ := iv_some h
      refine lv_iinc (v := x12) (lv' := [(8, .int x12), (0, .ref (ad 40 0)), (1, .int a1), (2, .int a2), (3, .int a3), (4, .int a4), (5, .int a5), (6, .int a6), (7, .int a7)]) hx hb dX7_judged_98 hl (k := 8) rfl ex12.symm (by decide) rfl (fun ls hl => ?_)
      refine lv_goto (tgt := 37) hx hb dX7_judged_101 (by decide) ?_
      exact hk37 a1 a2 a3 a4 a5 a6 a7 x12 S h f H locs w hw hn hk ls (lv_sub hl [1, 2, 3, 4, 5, 6, 7, 8, 0] rfl)
  have J37 : ∀ (fu : Nat) (a1 : Int32) (a2 : Int32) (a3 : Int32) (a4 : Int32) (a5 : Int32) (a6 : Int32) (a7 : Int32) (a8 : Int32) (S : fS), lp (B_X7_judged_37 ) fu (a1, a2, a3, a4, a5, a6, a7, a8) S = some (v, S1) → Gw D K b0 sa ad P n L f0 p l e { frames := 1, cells := 0, slots := 0, locals := 25 } s m [.ref (ad 40 0), .int p1, .int p2, .int p3, .int p4, .int p5, .int p6].toArray below meth c 9 (MQ below (hQ D K b0 (fun v9 u9 => ∃ f2 : Nat → va_E, v9 = some (.int v) ∧ u9 = lU L f2 ∧ PW K ad P S1 L f2 ∧ S1.2.2.1 = n ∧ Kp ad P L f0 f2)) [.ref (ad 40 0), .int p1, .int p2, .int p3, .int p4, .int p5, .int p6].toArray s 0 0 (fun q => b0 ≤ q)) 0 0 37 [(0, .ref (ad 40 0)), (1, .int a1), (2, .int a2), (3, .int a3), (4, .int a4), (5, .int a5), (6, .int a6), (7, .int a7), (8, .int a8)] [] S := by
    intro fu a1 a2 a3 a4 a5 a6 a7 a8 S h
    refine lp_some (G := (fun q S => Gw D K b0 sa ad P n L f0 p l e { frames := 1, cells := 0, slots := 0, locals := 25 } s m [.ref (ad 40 0), .int p1, .int p2, .int p3, .int p4, .int p5, .int p6].toArray below meth c 9 (MQ below (hQ D K b0 (fun v9 u9 => ∃ f2 : Nat → va_E, v9 = some (.int v) ∧ u9 = lU L f2 ∧ PW K ad P S1 L f2 ∧ S1.2.2.1 = n ∧ Kp ad P L f0 f2)) [.ref (ad 40 0), .int p1, .int p2, .int p3, .int p4, .int p5, .int p6].toArray s 0 0 (fun q => b0 ≤ q)) 0 0 37 [(0, .ref (ad 40 0)), (1, .int q.1), (2, .int q.2.1), (3, .int q.2.2.1), (4, .int q.2.2.2.1), (5, .int q.2.2.2.2.1), (6, .int q.2.2.2.2.2.1), (7, .int q.2.2.2.2.2.2.1), (8, .int q.2.2.2.2.2.2.2)] [] S)) (fun k37 hk37 q S h => ?_) fu (a1, a2, a3, a4, a5, a6, a7, a8) S h
    obtain ⟨a1, a2, a3, a4, a5, a6, a7, a8⟩ := q
    have hk37 : ∀ (a1 : Int32) (a2 : Int32) (a3 : Int32) (a4 : Int32) (a5 : Int32) (a6 : Int32) (a7 : Int32) (a8 : Int32) (S : fS), k37 (a1, a2, a3, a4, a5, a6, a7, a8) S = some (v, S1) → Gw D K b0 sa ad P n L f0 p l e { frames := 1, cells := 0, slots := 0, locals := 25 } s m [.ref (ad 40 0), .int p1, .int p2, .int p3, .int p4, .int p5, .int p6].toArray below meth c 9 (MQ below (hQ D K b0 (fun v9 u9 => ∃ f2 : Nat → va_E, v9 = some (.int v) ∧ u9 = lU L f2 ∧ PW K ad P S1 L f2 ∧ S1.2.2.1 = n ∧ Kp ad P L f0 f2)) [.ref (ad 40 0), .int p1, .int p2, .int p3, .int p4, .int p5, .int p6].toArray s 0 0 (fun q => b0 ≤ q)) 0 0 37 [(0, .ref (ad 40 0)), (1, .int a1), (2, .int a2), (3, .int a3), (4, .int a4), (5, .int a5), (6, .int a6), (7, .int a7), (8, .int a8)] [] S := fun a1 a2 a3 a4 a5 a6 a7 a8 S h => hk37 (a1, a2, a3, a4, a5, a6, a7, a8) S h
    dsimp only [B_X7_judged_37] at h
    intro f H locs w hw hn hk ls hl
    refine lv_iload hx hb dX7_judged_37 (lv_at hl 8 rfl) ?_
    refine lv_iload hx hb dX7_judged_39 (lv_at hl 7 rfl) ?_
    refine lv_icmp_lt (tgt := 49) hx hb dX7_judged_41 (by decide) (fun c13 => ?_) (fun c13 => ?_)
    · have h := bb_t h c13
      exact J49 k37 hk37 a1 a2 a3 a4 a5 a6 a7 a8 S h f H locs w hw hn hk ls (lv_sub hl [0, 1, 2, 3, 4, 5, 6, 7, 8] rfl)
    · have h := bb_f h c13
      refine lv_iload hx hb dX7_judged_44 (lv_at hl 8 rfl) ?_
      refine lv_if_ne (tgt := 104) hx hb dX7_judged_46 (by decide) (fun c14 => ?_) (fun c14 => ?_)
      · have h := bb_f h c14
        refine lv_iconst (v := 5) hx hb dX7_judged_104 (by decide) ?_
        exact t_iret C hr hlk w ⟨_, so_v h, rfl, so_w h hw, so_n h hn, hk⟩ (by decide) (by decide) dX7_judged_105
      · have h := bb_t h c14
        exact J49 k37 hk37 a1 a2 a3 a4 a5 a6 a7 a8 S h f H locs w hw hn hk ls (lv_sub hl [0, 1, 2, 3, 4, 5, 6, 7, 8] rfl)
  dsimp only [F_X7_judged] at h
  obtain ⟨f, ef⟩ : ∃ z, z = f0 := ⟨_, rfl⟩
  rw [← ef] at w hw
  have hk : Kp ad P L f0 f := by rw [ef]; exact Kp.rf
  obtain ⟨H, eH⟩ : ∃ z, z = s.heap := ⟨_, rfl⟩
  obtain ⟨locs, el⟩ : ∃ z : List Loc, z = [] := ⟨_, rfl⟩
  rw [← eH, ← el] at w ⊢
  refine lv_iload_n hx hb dX7_judged_0 rfl (lv_at hl 2 rfl) ?_
  refine lv_iload_n hx hb dX7_judged_1 rfl (lv_at hl 3 rfl) ?_
  refine lv_bipush (v := 8) hx hb dX7_judged_2 (by decide) ?_
  refine lv_irem hx hb dX7_judged_4 (by decide) ?_
  refine u_iv h (fun x15 h => ?_)
  refine lv_iload hx hb dX7_judged_5 (lv_at hl 4 rfl) ?_
  refine lv_bipush (v := 8) hx hb dX7_judged_7 (by decide) ?_
  refine lv_irem hx hb dX7_judged_9 (by decide) ?_
  refine u_iv h (fun x16 h => ?_)
  obtain ⟨v17, S18, h19, h⟩ := bd_some h
  refine t_callS (n := 2) C w (c_X7_apart l D K b0 sa _ L _ ad P hP S0 hw hn x15 x16 v17 S18 h19) gw_1545 gw_1543 gw_1544 gw_8 ⟨by decide, by decide, by decide +kernel⟩ rfl rfl ⟨by decide, by decide⟩ rfl hl.1 rfl (Nat.le_of_ble_eq_true rfl) dX7_judged_10 ⟨Nat.le_of_ble_eq_true rfl, Nat.le_of_ble_eq_true rfl⟩ (fun v9 u H locs hp w => ?_)
  obtain ⟨f2, rfl, rfl, hw, hn, hk1⟩ := hp
  have hk := hk.tr hk1
  generalize f2 = f at w hw hk
  refine lv_iadd hx hb dX7_judged_13 ?_
  refine u_iv h (fun x20 h => ?_)
  refine lv_iload_n hx hb dX7_judged_14 rfl (lv_at hl 3 rfl) ?_
  refine lv_bipush (v := 8) hx hb dX7_judged_15 (by decide) ?_
  refine lv_idiv hx hb dX7_judged_17 (by decide) ?_
  refine u_iv h (fun x21 h => ?_)
  refine lv_iload hx hb dX7_judged_18 (lv_at hl 4 rfl) ?_
  refine lv_bipush (v := 8) hx hb dX7_judged_20 (by decide) ?_
  refine lv_idiv hx hb dX7_judged_22 (by decide) ?_
  refine u_iv h (fun x22 h => ?_)
  obtain ⟨v23, S24, h25, h⟩ := bd_some h
  refine t_callS (n := 2) C w (c_X7_apart l D K b0 sa _ L _ ad P hP S18 hw hn x21 x22 v23 S24 h25) gw_1545 gw_1543 gw_1544 gw_8 ⟨by decide, by decide, by decide +kernel⟩ rfl rfl ⟨by decide, by decide⟩ rfl hl.1 rfl (Nat.le_of_ble_eq_true rfl) dX7_judged_23 ⟨Nat.le_of_ble_eq_true rfl, Nat.le_of_ble_eq_true rfl⟩ (fun v9 u H locs hp w => ?_)
  obtain ⟨f2, rfl, rfl, hw, hn, hk1⟩ := hp
  have hk := hk.tr hk1
  generalize f2 = f at w hw hk
  refine lv_iadd hx hb dX7_judged_26 ?_
  refine u_iv h (fun x26 h => ?_)
  refine lv_istore (lv' := [(7, .int x26), (0, .ref (ad 40 0)), (1, .int p1), (2, .int p2), (3, .int p3), (4, .int p4), (5, .int p5), (6, .int p6)]) hx hb dX7_judged_27 hl (by decide) rfl (fun ls hl => ?_)
  refine lv_aload_n hx hb dX7_judged_29 rfl (lv_at hl 1 rfl) ?_
  refine lv_iconst (v := (-1)) hx hb dX7_judged_30 (by decide) ?_
  refine u_puti C w hw (hP _ _ (isn_f rfl rfl (by decide))) rfl (N := 57) rfl rfl cin_7 tyX7 tyX7_ok nmX7 42 (by decide) rfl rfl rfl rfl gw_1198 dX7_judged_31 (fun f H locs w hw hk1 => ?_)
  have hk := hk.tr hk1
  refine u_sv h hw hn (fun S27 h hw hn => ?_)
  refine lv_iconst (v := 0) hx hb dX7_judged_34 (by decide) ?_
  refine lv_istore (lv' := [(8, .int 0), (7, .int x26), (0, .ref (ad 40 0)), (1, .int p1), (2, .int p2), (3, .int p3), (4, .int p4), (5, .int p5), (6, .int p6)]) hx hb dX7_judged_35 hl (by decide) rfl (fun ls hl => ?_)
  exact J37  fuel p1 p2 p3 p4 p5 p6 x26 0 S27 h f H locs w hw hn hk ls (lv_sub hl [2, 3, 4, 5, 6, 7, 8, 1, 0] rfl)
theorem dX7_wouldBe_0 : decode cX7_wouldBe 0 = .ok (.aload_n 0, 1) := by decide +kernel
theorem dX7_wouldBe_1 : decode cX7_wouldBe 1 = .ok (.iload_n 1, 1) := by decide +kernel
theorem dX7_wouldBe_2 : decode cX7_wouldBe 2 = .ok (.invokevirtual 300, 3) := by decide +kernel
theorem dX7_wouldBe_5 : decode cX7_wouldBe 5 = .ok (.aload_n 0, 1) := by decide +kernel
theorem dX7_wouldBe_6 : decode cX7_wouldBe 6 = .ok (.getfield 284, 3) := by decide +kernel
theorem dX7_wouldBe_9 : decode cX7_wouldBe 9 = .ok (.iconst 5, 1) := by decide +kernel
theorem dX7_wouldBe_10 : decode cX7_wouldBe 10 = .ok (.if_icmp .ne 25, 3) := by decide +kernel
theorem dX7_wouldBe_13 : decode cX7_wouldBe 13 = .ok (.aload_n 0, 1) := by decide +kernel
theorem dX7_wouldBe_14 : decode cX7_wouldBe 14 = .ok (.aload_n 0, 1) := by decide +kernel
theorem dX7_wouldBe_15 : decode cX7_wouldBe 15 = .ok (.getfield 275, 3) := by decide +kernel
theorem dX7_wouldBe_18 : decode cX7_wouldBe 18 = .ok (.aload_n 0, 1) := by decide +kernel
theorem dX7_wouldBe_19 : decode cX7_wouldBe 19 = .ok (.getfield 278, 3) := by decide +kernel
theorem dX7_wouldBe_22 : decode cX7_wouldBe 22 = .ok (.iload_n 1, 1) := by decide +kernel
theorem dX7_wouldBe_23 : decode cX7_wouldBe 23 = .ok (.aload_n 0, 1) := by decide +kernel
theorem dX7_wouldBe_24 : decode cX7_wouldBe 24 = .ok (.getfield 58, 3) := by decide +kernel
theorem dX7_wouldBe_27 : decode cX7_wouldBe 27 = .ok (.iload_n 2, 1) := by decide +kernel
theorem dX7_wouldBe_28 : decode cX7_wouldBe 28 = .ok (.iload_n 3, 1) := by decide +kernel
theorem dX7_wouldBe_29 : decode cX7_wouldBe 29 = .ok (.invokevirtual 303, 3) := by decide +kernel
theorem dX7_wouldBe_32 : decode cX7_wouldBe 32 = .ok (.goto 7, 3) := by decide +kernel
theorem dX7_wouldBe_35 : decode cX7_wouldBe 35 = .ok (.aload_n 0, 1) := by decide +kernel
theorem dX7_wouldBe_36 : decode cX7_wouldBe 36 = .ok (.getfield 284, 3) := by decide +kernel
theorem dX7_wouldBe_39 : decode cX7_wouldBe 39 = .ok (.ireturn, 1) := by decide +kernel
noncomputable def F_X7_wouldBe (p1 : Int32) (p2 : Int32) (p3 : Int32) (S0 : fS) : Option (Int32 × fS) := bd (F_X7_grips p1 S0) (fun v1 S2 => iv (ge S2 40 0 41) (fun x4 => bb (x4 = (5 : Int32)) (iv (ge S2 40 0 44) (fun x7 => iv (ge S2 40 0 45) (fun x8 => iv (ge S2 40 0 30) (fun x9 => bd (F_X7_judged x7 x8 p1 x9 p2 p3 S2) (fun v10 S11 => some (v10, S11)))))) (iv (ge S2 40 0 41) (fun x6 => some (x6, S2)))))
set_option maxHeartbeats 4000000 in
set_option maxRecDepth 100000 in
theorem c_X7_wouldBe (l : Launch) (D : va_G) (K : Nat → ClassId) (b0 : Nat) (sa : sT) (sz : Nat) (L : List Nat) (f0 : Nat → va_E) (ad : Nat → Nat → Nat) (P : Nat → Nat → Prop) {n : Nat × Nat} (hP : ∀ a i : Nat, isn n a i → P a i) (S0 : fS) (hw : PW K ad P S0 L f0) (hn : S0.2.2.1 = n) (p1 : Int32) (p2 : Int32) (p3 : Int32) (v : Int32) (S1 : fS) (h : F_X7_wouldBe p1 p2 p3 S0 = some (v, S1)) : Met l yX7_wouldBe (.code yX7_wouldBe cX7_wouldBe 4 (some .int) :: gt) { frames := 2, cells := 0, slots := 0, locals := 53 } (va_Pc [.ref (ad 40 0), .int p1, .int p2, .int p3] (hPre D K b0 sa sz L f0)) (hQ D K b0 (fun v9 u9 => ∃ f2 : Nat → va_E, v9 = some (.int v) ∧ u9 = lU L f2 ∧ PW K ad P S1 L f2 ∧ S1.2.2.1 = n ∧ Kp ad P L f0 f2)) 0 0 (fun q => b0 ≤ q) := by
  refine t_of (own := RX7) (by decide) rfl ?_ (Nat.le_of_ble_eq_true rfl)
  intro p e s m below meth c ls C w hsz hr hlk hnm hl
  have hx := C.1
  have hb := C.2.1
  have hl : lv_has ls 4 [(0, .ref (ad 40 0)), (1, .int p1), (2, .int p2), (3, .int p3)] := hl
  dsimp only [F_X7_wouldBe] at h
  obtain ⟨f, ef⟩ : ∃ z, z = f0 := ⟨_, rfl⟩
  rw [← ef] at w hw
  have hk : Kp ad P L f0 f := by rw [ef]; exact Kp.rf
  obtain ⟨H, eH⟩ : ∃ z, z = s.heap := ⟨_, rfl⟩
  obtain ⟨locs, el⟩ : ∃ z : List Loc, z = [] := ⟨_, rfl⟩
  rw [← eH, ← el] at w ⊢
  refine lv_aload_n hx hb dX7_wouldBe_0 rfl (lv_at hl 0 rfl) ?_
  refine lv_iload_n hx hb dX7_wouldBe_1 rfl (lv_at hl 1 rfl) ?_
  obtain ⟨v1, S2, h3, h⟩ := bd_some h
  refine u_callV (n := 1) C w hw (hP _ _ (isn_f rfl rfl (by decide))) rfl rfl rfl (c_X7_grips l D K b0 sa _ L _ ad P hP S0 hw hn p1 v1 S2 h3) gw_1531 gw_1528 gw_1530 gs_53 gw_8 ⟨by decide, by decide, by decide +kernel⟩ rfl rfl ⟨by decide, by decide⟩ rfl hl.1 rfl (Nat.le_of_ble_eq_true rfl) dX7_wouldBe_2 ⟨Nat.le_of_ble_eq_true rfl, Nat.le_of_ble_eq_true rfl⟩ (fun v9 u H locs hp w => ?_)
  obtain ⟨f2, rfl, rfl, hw, hn, hk1⟩ := hp
  have hk := hk.tr hk1
  generalize f2 = f at w hw hk
  refine lv_aload_n hx hb dX7_wouldBe_5 rfl (lv_at hl 0 rfl) ?_
  refine u_geti C w hw (hP _ _ (isn_f rfl rfl (by decide))) rfl (N := 57) rfl rfl cin_7 41 (by decide) rfl gw_1197 dX7_wouldBe_6 ?_
  refine u_iv h (fun x4 h => ?_)
  refine lv_iconst (v := 5) hx hb dX7_wouldBe_9 (by decide) ?_
  refine lv_icmp_ne (tgt := 35) hx hb dX7_wouldBe_10 (by decide) (fun c5 => ?_) (fun c5 => ?_)
  · have h := bb_f h c5
    refine lv_aload_n hx hb dX7_wouldBe_35 rfl (lv_at hl 0 rfl) ?_
    refine u_geti C w hw (hP _ _ (isn_f rfl rfl (by decide))) rfl (N := 57) rfl rfl cin_7 41 (by decide) rfl gw_1197 dX7_wouldBe_36 ?_
    refine u_iv h (fun x6 h => ?_)
    exact t_iret C hr hlk w ⟨_, so_v h, rfl, so_w h hw, so_n h hn, hk⟩ (by decide) (by decide) dX7_wouldBe_39
  · have h := bb_t h c5
    refine lv_aload_n hx hb dX7_wouldBe_13 rfl (lv_at hl 0 rfl) ?_
    refine lv_aload_n hx hb dX7_wouldBe_14 rfl (lv_at hl 0 rfl) ?_
    refine u_geti C w hw (hP _ _ (isn_f rfl rfl (by decide))) rfl (N := 57) rfl rfl cin_7 44 (by decide) rfl gw_1200 dX7_wouldBe_15 ?_
    refine u_iv h (fun x7 h => ?_)
    refine lv_aload_n hx hb dX7_wouldBe_18 rfl (lv_at hl 0 rfl) ?_
    refine u_geti C w hw (hP _ _ (isn_f rfl rfl (by decide))) rfl (N := 57) rfl rfl cin_7 45 (by decide) rfl gw_1201 dX7_wouldBe_19 ?_
    refine u_iv h (fun x8 h => ?_)
    refine lv_iload_n hx hb dX7_wouldBe_22 rfl (lv_at hl 1 rfl) ?_
    refine lv_aload_n hx hb dX7_wouldBe_23 rfl (lv_at hl 0 rfl) ?_
    refine u_geti C w hw (hP _ _ (isn_f rfl rfl (by decide))) rfl (N := 57) rfl rfl cin_7 30 (by decide) rfl gw_1186 dX7_wouldBe_24 ?_
    refine u_iv h (fun x9 h => ?_)
    refine lv_iload_n hx hb dX7_wouldBe_27 rfl (lv_at hl 2 rfl) ?_
    refine lv_iload_n hx hb dX7_wouldBe_28 rfl (lv_at hl 3 rfl) ?_
    obtain ⟨v10, S11, h12, h⟩ := bd_some h
    refine u_callV (n := 6) C w hw (hP _ _ (isn_f rfl rfl (by decide))) rfl rfl rfl (c_X7_judged l D K b0 sa _ L _ ad P hP S2 hw hn x7 x8 p1 x9 p2 p3 v10 S11 h12) gw_1542 gw_1539 gw_1541 gs_55 gw_8 ⟨by decide, by decide, by decide +kernel⟩ rfl rfl ⟨by decide, by decide⟩ rfl hl.1 rfl (Nat.le_of_ble_eq_true rfl) dX7_wouldBe_29 ⟨Nat.le_of_ble_eq_true rfl, Nat.le_of_ble_eq_true rfl⟩ (fun v9 u H locs hp w => ?_)
    obtain ⟨f2, rfl, rfl, hw, hn, hk1⟩ := hp
    have hk := hk.tr hk1
    generalize f2 = f at w hw hk
    refine lv_goto (tgt := 39) hx hb dX7_wouldBe_32 (by decide) ?_
    exact t_iret C hr hlk w ⟨_, so_v h, rfl, so_w h hw, so_n h hn, hk⟩ (by decide) (by decide) dX7_wouldBe_39
theorem dX7_record_0 : decode cX7_record 0 = .ok (.aload_n 0, 1) := by decide +kernel
theorem dX7_record_1 : decode cX7_record 1 = .ok (.iconst 0, 1) := by decide +kernel
theorem dX7_record_2 : decode cX7_record 2 = .ok (.putfield 97, 3) := by decide +kernel
theorem dX7_record_5 : decode cX7_record 5 = .ok (.aload_n 0, 1) := by decide +kernel
theorem dX7_record_6 : decode cX7_record 6 = .ok (.iload_n 1, 1) := by decide +kernel
theorem dX7_record_7 : decode cX7_record 7 = .ok (.iconst 0, 1) := by decide +kernel
theorem dX7_record_8 : decode cX7_record 8 = .ok (.aload_n 0, 1) := by decide +kernel
theorem dX7_record_9 : decode cX7_record 9 = .ok (.getfield 313, 3) := by decide +kernel
theorem dX7_record_12 : decode cX7_record 12 = .ok (.iconst 1, 1) := by decide +kernel
theorem dX7_record_13 : decode cX7_record 13 = .ok (.isub, 1) := by decide +kernel
theorem dX7_record_14 : decode cX7_record 14 = .ok (.invokestatic 100, 3) := by decide +kernel
theorem dX7_record_17 : decode cX7_record 17 = .ok (.ifCond .ne 7, 3) := by decide +kernel
theorem dX7_record_20 : decode cX7_record 20 = .ok (.iconst 1, 1) := by decide +kernel
theorem dX7_record_21 : decode cX7_record 21 = .ok (.goto 4, 3) := by decide +kernel
theorem dX7_record_24 : decode cX7_record 24 = .ok (.iconst 0, 1) := by decide +kernel
theorem dX7_record_25 : decode cX7_record 25 = .ok (.iconst 1, 1) := by decide +kernel
theorem dX7_record_26 : decode cX7_record 26 = .ok (.invokevirtual 206, 3) := by decide +kernel
theorem dX7_record_29 : decode cX7_record 29 = .ok (.ifCond .ne 26, 3) := by decide +kernel
theorem dX7_record_32 : decode cX7_record 32 = .ok (.aload_n 0, 1) := by decide +kernel
theorem dX7_record_33 : decode cX7_record 33 = .ok (.iload_n 2, 1) := by decide +kernel
theorem dX7_record_34 : decode cX7_record 34 = .ok (.iconst 0, 1) := by decide +kernel
theorem dX7_record_35 : decode cX7_record 35 = .ok (.bipush 9, 2) := by decide +kernel
theorem dX7_record_37 : decode cX7_record 37 = .ok (.invokestatic 100, 3) := by decide +kernel
theorem dX7_record_40 : decode cX7_record 40 = .ok (.ifCond .ne 7, 3) := by decide +kernel
theorem dX7_record_43 : decode cX7_record 43 = .ok (.iconst 1, 1) := by decide +kernel
theorem dX7_record_44 : decode cX7_record 44 = .ok (.goto 4, 3) := by decide +kernel
theorem dX7_record_47 : decode cX7_record 47 = .ok (.iconst 0, 1) := by decide +kernel
theorem dX7_record_48 : decode cX7_record 48 = .ok (.iconst 2, 1) := by decide +kernel
theorem dX7_record_49 : decode cX7_record 49 = .ok (.invokevirtual 206, 3) := by decide +kernel
theorem dX7_record_52 : decode cX7_record 52 = .ok (.ifCond .eq 5, 3) := by decide +kernel
theorem dX7_record_55 : decode cX7_record 55 = .ok (.iconst 0, 1) := by decide +kernel
theorem dX7_record_56 : decode cX7_record 56 = .ok (.ireturn, 1) := by decide +kernel
theorem dX7_record_57 : decode cX7_record 57 = .ok (.aload_n 0, 1) := by decide +kernel
theorem dX7_record_58 : decode cX7_record 58 = .ok (.getfield 73, 3) := by decide +kernel
theorem dX7_record_61 : decode cX7_record 61 = .ok (.iload_n 1, 1) := by decide +kernel
theorem dX7_record_62 : decode cX7_record 62 = .ok (.aaload, 1) := by decide +kernel
theorem dX7_record_63 : decode cX7_record 63 = .ok (.iload_n 2, 1) := by decide +kernel
theorem dX7_record_64 : decode cX7_record 64 = .ok (.iaload, 1) := by decide +kernel
theorem dX7_record_65 : decode cX7_record 65 = .ok (.ireturn, 1) := by decide +kernel
noncomputable def B_X7_record_48 (a1 : Int32) (a2 : Int32) (t0 : Int32) (S : fS) : Option (Int32 × fS) := bd (F_X7_bad t0 2 S) (fun v1 S2 => bb (v1 = (0 : Int32)) (gd (ib a1 200) (gd (ib a2 14) (iv (ge S2 57 (a1.toNatClampNeg) (a2 : Int32).toNatClampNeg) (fun x7 => some (x7, S2))))) (some (0, S2)))
noncomputable def B_X7_record_25 (a1 : Int32) (a2 : Int32) (t0 : Int32) (S : fS) : Option (Int32 × fS) := bd (F_X7_bad t0 1 S) (fun v8 S9 => bb (v8 = (0 : Int32)) (bd (F_X7_in a2 0 9 S9) (fun v12 S13 => bb (v12 = (0 : Int32)) (B_X7_record_48  a1 a2 1 S13) (B_X7_record_48  a1 a2 0 S13))) (some (0, S9)))
noncomputable def F_X7_record (p1 : Int32) (p2 : Int32) (S0 : fS) : Option (Int32 × fS) := sv (pu S0 40 0 0 0) (fun S16 => iv (ge S16 40 0 46) (fun x17 => iv (x17 - (1 : Int32)) (fun x18 => bd (F_X7_in p1 0 x18 S16) (fun v19 S20 => bb (v19 = (0 : Int32)) (B_X7_record_25  p1 p2 1 S20) (B_X7_record_25  p1 p2 0 S20)))))
set_option maxHeartbeats 4000000 in
set_option maxRecDepth 100000 in
theorem c_X7_record (l : Launch) (D : va_G) (K : Nat → ClassId) (b0 : Nat) (sa : sT) (sz : Nat) (L : List Nat) (f0 : Nat → va_E) (ad : Nat → Nat → Nat) (P : Nat → Nat → Prop) {n : Nat × Nat} (hP : ∀ a i : Nat, isn n a i → P a i) (S0 : fS) (hw : PW K ad P S0 L f0) (hn : S0.2.2.1 = n) (p1 : Int32) (p2 : Int32) (v : Int32) (S1 : fS) (h : F_X7_record p1 p2 S0 = some (v, S1)) : Met l yX7_record (.code yX7_record cX7_record 3 (some .int) :: gt) { frames := 1, cells := 0, slots := 0, locals := 22 } (va_Pc [.ref (ad 40 0), .int p1, .int p2] (hPre D K b0 sa sz L f0)) (hQ D K b0 (fun v9 u9 => ∃ f2 : Nat → va_E, v9 = some (.int v) ∧ u9 = lU L f2 ∧ PW K ad P S1 L f2 ∧ S1.2.2.1 = n ∧ Kp ad P L f0 f2)) 0 0 (fun q => b0 ≤ q) := by
  refine t_of (own := RX7) (by decide) rfl ?_ (Nat.le_of_ble_eq_true rfl)
  intro p e s m below meth c ls C w hsz hr hlk hnm hl
  have hx := C.1
  have hb := C.2.1
  have hl : lv_has ls 3 [(0, .ref (ad 40 0)), (1, .int p1), (2, .int p2)] := hl
  have J48 : ∀ (a1 : Int32) (a2 : Int32) (t0 : Int32) (S : fS), B_X7_record_48  a1 a2 t0 S = some (v, S1) → Gw D K b0 sa ad P n L f0 p l e { frames := 1, cells := 0, slots := 0, locals := 22 } s m [.ref (ad 40 0), .int p1, .int p2].toArray below meth c 3 (MQ below (hQ D K b0 (fun v9 u9 => ∃ f2 : Nat → va_E, v9 = some (.int v) ∧ u9 = lU L f2 ∧ PW K ad P S1 L f2 ∧ S1.2.2.1 = n ∧ Kp ad P L f0 f2)) [.ref (ad 40 0), .int p1, .int p2].toArray s 0 0 (fun q => b0 ≤ q)) 0 0 48 [(0, .ref (ad 40 0)), (1, .int a1), (2, .int a2)] [.int t0, .ref (ad 40 0)] S := by
    intro a1 a2 t0 S h
    dsimp only [B_X7_record_48] at h
    intro f H locs w hw hn hk ls hl
    refine lv_iconst (v := 2) hx hb dX7_record_48 (by decide) ?_
    obtain ⟨v1, S2, h3, h⟩ := bd_some h
    refine u_callV (n := 2) C w hw (hP _ _ (isn_f rfl rfl (by decide))) rfl rfl rfl (c_X7_bad l D K b0 sa _ L _ ad P hP S hw hn t0 2 v1 S2 h3) gw_1347 gw_1344 gw_1346 gs_22 gw_8 ⟨by decide, by decide, by decide +kernel⟩ rfl rfl ⟨by decide, by decide⟩ rfl hl.1 rfl (Nat.le_of_ble_eq_true rfl) dX7_record_49 ⟨Nat.le_of_ble_eq_true rfl, Nat.le_of_ble_eq_true rfl⟩ (fun v9 u H locs hp w => ?_)
    obtain ⟨f2, rfl, rfl, hw, hn, hk1⟩ := hp
    have hk := hk.tr hk1
    generalize f2 = f at w hw hk
    refine lv_if_eq (tgt := 57) hx hb dX7_record_52 (by decide) (fun c4 => ?_) (fun c4 => ?_)
    · have h := bb_t h c4
      refine lv_aload_n hx hb dX7_record_57 rfl (lv_at hl 0 rfl) ?_
      refine u_getr C w hw (hP _ _ (isn_f rfl rfl (by decide))) rfl (N := 57) rfl rfl cin_7 47 (by decide) (by decide) (a2 := 56) (i2 := 0) rfl gw_1203 dX7_record_58 ?_
      refine lv_iload_n hx hb dX7_record_61 rfl (lv_at hl 1 rfl) ?_
      obtain ⟨g5, h⟩ := gd_some h
      refine u_aald C w hw (hP _ _ (isn_f rfl rfl (by decide))) rfl rfl rfl (n := 200) rfl (vp_in_iff.mpr g5) (a2 := 57) (i2 := (a1.toNatClampNeg)) (by exact congrArg (Prod.mk _) (Nat.zero_add _)) dX7_record_62 ?_
      refine lv_iload_n hx hb dX7_record_63 rfl (lv_at hl 2 rfl) ?_
      obtain ⟨g6, h⟩ := gd_some h
      refine u_iald C w hw (hP _ _ (isn_f rfl rfl (ib_lt g5))) rfl rfl (n := 14) rfl (vp_in_iff.mpr g6) dX7_record_64 ?_
      refine u_iv h (fun x7 h => ?_)
      exact t_iret C hr hlk w ⟨_, so_v h, rfl, so_w h hw, so_n h hn, hk⟩ (by decide) (by decide) dX7_record_65
    · have h := bb_f h c4
      refine lv_iconst (v := 0) hx hb dX7_record_55 (by decide) ?_
      exact t_iret C hr hlk w ⟨_, so_v h, rfl, so_w h hw, so_n h hn, hk⟩ (by decide) (by decide) dX7_record_56
  have J25 : ∀ (a1 : Int32) (a2 : Int32) (t0 : Int32) (S : fS), B_X7_record_25  a1 a2 t0 S = some (v, S1) → Gw D K b0 sa ad P n L f0 p l e { frames := 1, cells := 0, slots := 0, locals := 22 } s m [.ref (ad 40 0), .int p1, .int p2].toArray below meth c 3 (MQ below (hQ D K b0 (fun v9 u9 => ∃ f2 : Nat → va_E, v9 = some (.int v) ∧ u9 = lU L f2 ∧ PW K ad P S1 L f2 ∧ S1.2.2.1 = n ∧ Kp ad P L f0 f2)) [.ref (ad 40 0), .int p1, .int p2].toArray s 0 0 (fun q => b0 ≤ q)) 0 0 25 [(0, .ref (ad 40 0)), (1, .int a1), (2, .int a2)] [.int t0, .ref (ad 40 0)] S := by
    intro a1 a2 t0 S h
    dsimp only [B_X7_record_25] at h
    intro f H locs w hw hn hk ls hl
    refine lv_iconst (v := 1) hx hb dX7_record_25 (by decide) ?_
    obtain ⟨v8, S9, h10, h⟩ := bd_some h
    refine u_callV (n := 2) C w hw (hP _ _ (isn_f rfl rfl (by decide))) rfl rfl rfl (c_X7_bad l D K b0 sa _ L _ ad P hP S hw hn t0 1 v8 S9 h10) gw_1347 gw_1344 gw_1346 gs_22 gw_8 ⟨by decide, by decide, by decide +kernel⟩ rfl rfl ⟨by decide, by decide⟩ rfl hl.1 rfl (Nat.le_of_ble_eq_true rfl) dX7_record_26 ⟨Nat.le_of_ble_eq_true rfl, Nat.le_of_ble_eq_true rfl⟩ (fun v9 u H locs hp w => ?_)
    obtain ⟨f2, rfl, rfl, hw, hn, hk1⟩ := hp
    have hk := hk.tr hk1
    generalize f2 = f at w hw hk
    refine lv_if_ne (tgt := 55) hx hb dX7_record_29 (by decide) (fun c11 => ?_) (fun c11 => ?_)
    · have h := bb_f h c11
      refine lv_iconst (v := 0) hx hb dX7_record_55 (by decide) ?_
      exact t_iret C hr hlk w ⟨_, so_v h, rfl, so_w h hw, so_n h hn, hk⟩ (by decide) (by decide) dX7_record_56
    · have h := bb_t h c11
      refine lv_aload_n hx hb dX7_record_32 rfl (lv_at hl 0 rfl) ?_
      refine lv_iload_n hx hb dX7_record_33 rfl (lv_at hl 2 rfl) ?_
      refine lv_iconst (v := 0) hx hb dX7_record_34 (by decide) ?_
      refine lv_bipush (v := 9) hx hb dX7_record_35 (by decide) ?_
      obtain ⟨v12, S13, h14, h⟩ := bd_some h
      refine t_callS (n := 3) C w (c_X7_in l D K b0 sa _ L _ ad P hP S9 hw hn a2 0 9 v12 S13 h14) gw_1343 gw_1341 gw_1342 gw_8 ⟨by decide, by decide, by decide +kernel⟩ rfl rfl ⟨by decide, by decide⟩ rfl hl.1 rfl (Nat.le_of_ble_eq_true rfl) dX7_record_37 ⟨Nat.le_of_ble_eq_true rfl, Nat.le_of_ble_eq_true rfl⟩ (fun v9 u H locs hp w => ?_)
      obtain ⟨f2, rfl, rfl, hw, hn, hk1⟩ := hp
      have hk := hk.tr hk1
      generalize f2 = f at w hw hk
      refine lv_if_ne (tgt := 47) hx hb dX7_record_40 (by decide) (fun c15 => ?_) (fun c15 => ?_)
      · have h := bb_f h c15
        refine lv_iconst (v := 0) hx hb dX7_record_47 (by decide) ?_
        exact J48  a1 a2 0 S13 h f H locs w hw hn hk ls (lv_sub hl [0, 1, 2] rfl)
      · have h := bb_t h c15
        refine lv_iconst (v := 1) hx hb dX7_record_43 (by decide) ?_
        refine lv_goto (tgt := 48) hx hb dX7_record_44 (by decide) ?_
        exact J48  a1 a2 1 S13 h f H locs w hw hn hk ls (lv_sub hl [0, 1, 2] rfl)
  dsimp only [F_X7_record] at h
  obtain ⟨f, ef⟩ : ∃ z, z = f0 := ⟨_, rfl⟩
  rw [← ef] at w hw
  have hk : Kp ad P L f0 f := by rw [ef]; exact Kp.rf
  obtain ⟨H, eH⟩ : ∃ z, z = s.heap := ⟨_, rfl⟩
  obtain ⟨locs, el⟩ : ∃ z : List Loc, z = [] := ⟨_, rfl⟩
  rw [← eH, ← el] at w ⊢
  refine lv_aload_n hx hb dX7_record_0 rfl (lv_at hl 0 rfl) ?_
  refine lv_iconst (v := 0) hx hb dX7_record_1 (by decide) ?_
  refine u_puti C w hw (hP _ _ (isn_f rfl rfl (by decide))) rfl (N := 57) rfl rfl cin_7 tyX7 tyX7_ok nmX7 0 (by decide) rfl rfl rfl rfl gw_1156 dX7_record_2 (fun f H locs w hw hk1 => ?_)
  have hk := hk.tr hk1
  refine u_sv h hw hn (fun S16 h hw hn => ?_)
  refine lv_aload_n hx hb dX7_record_5 rfl (lv_at hl 0 rfl) ?_
  refine lv_iload_n hx hb dX7_record_6 rfl (lv_at hl 1 rfl) ?_
  refine lv_iconst (v := 0) hx hb dX7_record_7 (by decide) ?_
  refine lv_aload_n hx hb dX7_record_8 rfl (lv_at hl 0 rfl) ?_
  refine u_geti C w hw (hP _ _ (isn_f rfl rfl (by decide))) rfl (N := 57) rfl rfl cin_7 46 (by decide) rfl gw_1202 dX7_record_9 ?_
  refine u_iv h (fun x17 h => ?_)
  refine lv_iconst (v := 1) hx hb dX7_record_12 (by decide) ?_
  refine lv_isub hx hb dX7_record_13 ?_
  refine u_iv h (fun x18 h => ?_)
  obtain ⟨v19, S20, h21, h⟩ := bd_some h
  refine t_callS (n := 3) C w (c_X7_in l D K b0 sa _ L _ ad P hP S16 hw hn p1 0 x18 v19 S20 h21) gw_1343 gw_1341 gw_1342 gw_8 ⟨by decide, by decide, by decide +kernel⟩ rfl rfl ⟨by decide, by decide⟩ rfl hl.1 rfl (Nat.le_of_ble_eq_true rfl) dX7_record_14 ⟨Nat.le_of_ble_eq_true rfl, Nat.le_of_ble_eq_true rfl⟩ (fun v9 u H locs hp w => ?_)
  obtain ⟨f2, rfl, rfl, hw, hn, hk1⟩ := hp
  have hk := hk.tr hk1
  generalize f2 = f at w hw hk
  refine lv_if_ne (tgt := 24) hx hb dX7_record_17 (by decide) (fun c22 => ?_) (fun c22 => ?_)
  · have h := bb_f h c22
    refine lv_iconst (v := 0) hx hb dX7_record_24 (by decide) ?_
    exact J25  p1 p2 0 S20 h f H locs w hw hn hk ls (lv_sub hl [0, 1, 2] rfl)
  · have h := bb_t h c22
    refine lv_iconst (v := 1) hx hb dX7_record_20 (by decide) ?_
    refine lv_goto (tgt := 25) hx hb dX7_record_21 (by decide) ?_
    exact J25  p1 p2 1 S20 h f H locs w hw hn hk ls (lv_sub hl [0, 1, 2] rfl)
theorem dX7_hand_0 : decode cX7_hand 0 = .ok (.aload_n 0, 1) := by decide +kernel
theorem dX7_hand_1 : decode cX7_hand 1 = .ok (.iconst 0, 1) := by decide +kernel
theorem dX7_hand_2 : decode cX7_hand 2 = .ok (.putfield 97, 3) := by decide +kernel
theorem dX7_hand_5 : decode cX7_hand 5 = .ok (.aload_n 0, 1) := by decide +kernel
theorem dX7_hand_6 : decode cX7_hand 6 = .ok (.iload_n 1, 1) := by decide +kernel
theorem dX7_hand_7 : decode cX7_hand 7 = .ok (.iconst 1, 1) := by decide +kernel
theorem dX7_hand_8 : decode cX7_hand 8 = .ok (.ldc_w 329, 3) := by decide +kernel
theorem dX7_hand_11 : decode cX7_hand 11 = .ok (.invokestatic 100, 3) := by decide +kernel
theorem dX7_hand_14 : decode cX7_hand 14 = .ok (.ifCond .ne 7, 3) := by decide +kernel
theorem dX7_hand_17 : decode cX7_hand 17 = .ok (.iconst 1, 1) := by decide +kernel
theorem dX7_hand_18 : decode cX7_hand 18 = .ok (.goto 4, 3) := by decide +kernel
theorem dX7_hand_21 : decode cX7_hand 21 = .ok (.iconst 0, 1) := by decide +kernel
theorem dX7_hand_22 : decode cX7_hand 22 = .ok (.iconst 1, 1) := by decide +kernel
theorem dX7_hand_23 : decode cX7_hand 23 = .ok (.invokevirtual 206, 3) := by decide +kernel
theorem dX7_hand_26 : decode cX7_hand 26 = .ok (.ifCond .eq 5, 3) := by decide +kernel
theorem dX7_hand_29 : decode cX7_hand 29 = .ok (.iconst 0, 1) := by decide +kernel
theorem dX7_hand_30 : decode cX7_hand 30 = .ok (.ireturn, 1) := by decide +kernel
theorem dX7_hand_31 : decode cX7_hand 31 = .ok (.aload_n 0, 1) := by decide +kernel
theorem dX7_hand_32 : decode cX7_hand 32 = .ok (.getfield 330, 3) := by decide +kernel
theorem dX7_hand_35 : decode cX7_hand 35 = .ok (.bipush 6, 2) := by decide +kernel
theorem dX7_hand_37 : decode cX7_hand 37 = .ok (.if_icmp .ne 5, 3) := by decide +kernel
theorem dX7_hand_40 : decode cX7_hand 40 = .ok (.iconst (-1), 1) := by decide +kernel
theorem dX7_hand_41 : decode cX7_hand 41 = .ok (.ireturn, 1) := by decide +kernel
theorem dX7_hand_42 : decode cX7_hand 42 = .ok (.iconst 0, 1) := by decide +kernel
theorem dX7_hand_43 : decode cX7_hand 43 = .ok (.istore_n 2, 1) := by decide +kernel
theorem dX7_hand_44 : decode cX7_hand 44 = .ok (.iload_n 2, 1) := by decide +kernel
theorem dX7_hand_45 : decode cX7_hand 45 = .ok (.bipush 9, 2) := by decide +kernel
theorem dX7_hand_47 : decode cX7_hand 47 = .ok (.if_icmp .ge 31, 3) := by decide +kernel
theorem dX7_hand_50 : decode cX7_hand 50 = .ok (.aload_n 0, 1) := by decide +kernel
theorem dX7_hand_51 : decode cX7_hand 51 = .ok (.getfield 76, 3) := by decide +kernel
theorem dX7_hand_54 : decode cX7_hand 54 = .ok (.aload_n 0, 1) := by decide +kernel
theorem dX7_hand_55 : decode cX7_hand 55 = .ok (.getfield 330, 3) := by decide +kernel
theorem dX7_hand_58 : decode cX7_hand 58 = .ok (.aaload, 1) := by decide +kernel
theorem dX7_hand_59 : decode cX7_hand 59 = .ok (.iload_n 2, 1) := by decide +kernel
theorem dX7_hand_60 : decode cX7_hand 60 = .ok (.iload_n 1, 1) := by decide +kernel
theorem dX7_hand_61 : decode cX7_hand 61 = .ok (.iconst 3, 1) := by decide +kernel
theorem dX7_hand_62 : decode cX7_hand 62 = .ok (.bipush 8, 2) := by decide +kernel
theorem dX7_hand_64 : decode cX7_hand 64 = .ok (.iload_n 2, 1) := by decide +kernel
theorem dX7_hand_65 : decode cX7_hand 65 = .ok (.isub, 1) := by decide +kernel
theorem dX7_hand_66 : decode cX7_hand 66 = .ok (.imul, 1) := by decide +kernel
theorem dX7_hand_67 : decode cX7_hand 67 = .ok (.ishr, 1) := by decide +kernel
theorem dX7_hand_68 : decode cX7_hand 68 = .ok (.bipush 7, 2) := by decide +kernel
theorem dX7_hand_70 : decode cX7_hand 70 = .ok (.iand, 1) := by decide +kernel
theorem dX7_hand_71 : decode cX7_hand 71 = .ok (.iastore, 1) := by decide +kernel
theorem dX7_hand_72 : decode cX7_hand 72 = .ok (.iinc 2 1, 3) := by decide +kernel
theorem dX7_hand_75 : decode cX7_hand 75 = .ok (.goto (-31), 3) := by decide +kernel
theorem dX7_hand_78 : decode cX7_hand 78 = .ok (.aload_n 0, 1) := by decide +kernel
theorem dX7_hand_79 : decode cX7_hand 79 = .ok (.dup, 1) := by decide +kernel
theorem dX7_hand_80 : decode cX7_hand 80 = .ok (.getfield 330, 3) := by decide +kernel
theorem dX7_hand_83 : decode cX7_hand 83 = .ok (.iconst 1, 1) := by decide +kernel
theorem dX7_hand_84 : decode cX7_hand 84 = .ok (.iadd, 1) := by decide +kernel
theorem dX7_hand_85 : decode cX7_hand 85 = .ok (.putfield 330, 3) := by decide +kernel
theorem dX7_hand_88 : decode cX7_hand 88 = .ok (.aload_n 0, 1) := by decide +kernel
theorem dX7_hand_89 : decode cX7_hand 89 = .ok (.getfield 330, 3) := by decide +kernel
theorem dX7_hand_92 : decode cX7_hand 92 = .ok (.iconst 1, 1) := by decide +kernel
theorem dX7_hand_93 : decode cX7_hand 93 = .ok (.isub, 1) := by decide +kernel
theorem dX7_hand_94 : decode cX7_hand 94 = .ok (.ireturn, 1) := by decide +kernel
noncomputable def B_X7_hand_44 (k44 : (Int32 × Int32) → fS → Option (Int32 × fS)) : (Int32 × Int32) → fS → Option (Int32 × fS) := fun ⟨a1, a2⟩ S => bb ((9 : Int32) ≤ a2) (iv (ge S 40 0 48) (fun x2 => iv (x2 + (1 : Int32)) (fun x3 => sv (pu S 40 0 48 x3) (fun S4 => iv (ge S4 40 0 48) (fun x5 => iv (x5 - (1 : Int32)) (fun x6 => some (x6, S4))))))) (iv (ge S 40 0 48) (fun x7 => gd (ib x7 6) (iv ((8 : Int32) - a2) (fun x9 => iv ((3 : Int32) * x9) (fun x10 => iv (a1 >>> (x10 &&& 31)) (fun x11 => iv (x11 &&& (7 : Int32)) (fun x12 => gd (ib a2 9) (sv (pu S 59 (x7.toNatClampNeg) (a2 : Int32).toNatClampNeg x12) (fun S14 => iv (a2 + Int32.ofInt 1) (fun x15 => k44 (a1, x15) S14))))))))))
noncomputable def B_X7_hand_22 (a1 : Int32) (t0 : Int32) (S : fS) : Option (Int32 × fS) := bd (F_X7_bad t0 1 S) (fun v16 S17 => bb (v16 = (0 : Int32)) (iv (ge S17 40 0 48) (fun x20 => bb (x20 = (6 : Int32)) (some ((-1), S17)) (lp (B_X7_hand_44 ) fuel (a1, 0) S17))) (some (0, S17)))
noncomputable def F_X7_hand (p1 : Int32) (S0 : fS) : Option (Int32 × fS) := sv (pu S0 40 0 0 0) (fun S22 => bd (F_X7_in p1 1 134217727 S22) (fun v23 S24 => bb (v23 = (0 : Int32)) (B_X7_hand_22  p1 1 S24) (B_X7_hand_22  p1 0 S24)))
set_option maxHeartbeats 4000000 in
set_option maxRecDepth 100000 in
theorem c_X7_hand (l : Launch) (D : va_G) (K : Nat → ClassId) (b0 : Nat) (sa : sT) (sz : Nat) (L : List Nat) (f0 : Nat → va_E) (ad : Nat → Nat → Nat) (P : Nat → Nat → Prop) {n : Nat × Nat} (hP : ∀ a i : Nat, isn n a i → P a i) (S0 : fS) (hw : PW K ad P S0 L f0) (hn : S0.2.2.1 = n) (p1 : Int32) (v : Int32) (S1 : fS) (h : F_X7_hand p1 S0 = some (v, S1)) : Met l yX7_hand (.code yX7_hand cX7_hand 3 (some .int) :: gt) { frames := 1, cells := 0, slots := 0, locals := 22 } (va_Pc [.ref (ad 40 0), .int p1] (hPre D K b0 sa sz L f0)) (hQ D K b0 (fun v9 u9 => ∃ f2 : Nat → va_E, v9 = some (.int v) ∧ u9 = lU L f2 ∧ PW K ad P S1 L f2 ∧ S1.2.2.1 = n ∧ Kp ad P L f0 f2)) 0 0 (fun q => b0 ≤ q) := by
  refine t_of (own := RX7) (by decide) rfl ?_ (Nat.le_of_ble_eq_true rfl)
  intro p e s m below meth c ls C w hsz hr hlk hnm hl
  have hx := C.1
  have hb := C.2.1
  have hl : lv_has ls 3 [(0, .ref (ad 40 0)), (1, .int p1)] := hl
  have J44 : ∀ (fu : Nat) (a1 : Int32) (a2 : Int32) (S : fS), lp (B_X7_hand_44 ) fu (a1, a2) S = some (v, S1) → Gw D K b0 sa ad P n L f0 p l e { frames := 1, cells := 0, slots := 0, locals := 22 } s m [.ref (ad 40 0), .int p1].toArray below meth c 3 (MQ below (hQ D K b0 (fun v9 u9 => ∃ f2 : Nat → va_E, v9 = some (.int v) ∧ u9 = lU L f2 ∧ PW K ad P S1 L f2 ∧ S1.2.2.1 = n ∧ Kp ad P L f0 f2)) [.ref (ad 40 0), .int p1].toArray s 0 0 (fun q => b0 ≤ q)) 0 0 44 [(0, .ref (ad 40 0)), (1, .int a1), (2, .int a2)] [] S := by
    intro fu a1 a2 S h
    refine lp_some (G := (fun q S => Gw D K b0 sa ad P n L f0 p l e { frames := 1, cells := 0, slots := 0, locals := 22 } s m [.ref (ad 40 0), .int p1].toArray below meth c 3 (MQ below (hQ D K b0 (fun v9 u9 => ∃ f2 : Nat → va_E, v9 = some (.int v) ∧ u9 = lU L f2 ∧ PW K ad P S1 L f2 ∧ S1.2.2.1 = n ∧ Kp ad P L f0 f2)) [.ref (ad 40 0), .int p1].toArray s 0 0 (fun q => b0 ≤ q)) 0 0 44 [(0, .ref (ad 40 0)), (1, .int q.1), (2, .int q.2)] [] S)) (fun k44 hk44 q S h => ?_) fu (a1, a2) S h
    obtain ⟨a1, a2⟩ := q
    have hk44 : ∀ (a1 : Int32) (a2 : Int32) (S : fS), k44 (a1, a2) S = some (v, S1) → Gw D K b0 sa ad P n L f0 p l e { frames := 1, cells := 0, slots := 0, locals := 22 } s m [.ref (ad 40 0), .int p1].toArray below meth c 3 (MQ below (hQ D K b0 (fun v9 u9 => ∃ f2 : Nat → va_E, v9 = some (.int v) ∧ u9 = lU L f2 ∧ PW K ad P S1 L f2 ∧ S1.2.2.1 = n ∧ Kp ad P L f0 f2)) [.ref (ad 40 0), .int p1].toArray s 0 0 (fun q => b0 ≤ q)) 0 0 44 [(0, .ref (ad 40 0)), (1, .int a1), (2, .int a2)] [] S := fun a1 a2 S h => hk44 (a1, a2) S h
    dsimp only [B_X7_hand_44] at h
    intro f H locs w hw hn hk ls hl
    refine lv_iload_n hx hb dX7_hand_44 rfl (lv_at hl 2 rfl) ?_
    refine lv_bipush (v := 9) hx hb dX7_hand_45 (by decide) ?_
    refine lv_icmp_ge (tgt := 78) hx hb dX7_hand_47 (by decide) (fun c1 => ?_) (fun c1 => ?_)
    · have h := bb_t h c1
      refine lv_aload_n hx hb dX7_hand_78 rfl (lv_at hl 0 rfl) ?_
      refine lv_dup hx hb dX7_hand_79 rfl ?_
      refine u_geti C w hw (hP _ _ (isn_f rfl rfl (by decide))) rfl (N := 57) rfl rfl cin_7 48 (by decide) rfl gw_1204 dX7_hand_80 ?_
      refine u_iv h (fun x2 h => ?_)
      refine lv_iconst (v := 1) hx hb dX7_hand_83 (by decide) ?_
      refine lv_iadd hx hb dX7_hand_84 ?_
      refine u_iv h (fun x3 h => ?_)
      refine u_puti C w hw (hP _ _ (isn_f rfl rfl (by decide))) rfl (N := 57) rfl rfl cin_7 tyX7 tyX7_ok nmX7 48 (by decide) rfl rfl rfl rfl gw_1204 dX7_hand_85 (fun f H locs w hw hk1 => ?_)
      have hk := hk.tr hk1
      refine u_sv h hw hn (fun S4 h hw hn => ?_)
      refine lv_aload_n hx hb dX7_hand_88 rfl (lv_at hl 0 rfl) ?_
      refine u_geti C w hw (hP _ _ (isn_f rfl rfl (by decide))) rfl (N := 57) rfl rfl cin_7 48 (by decide) rfl gw_1204 dX7_hand_89 ?_
      refine u_iv h (fun x5 h => ?_)
      refine lv_iconst (v := 1) hx hb dX7_hand_92 (by decide) ?_
      refine lv_isub hx hb dX7_hand_93 ?_
      refine u_iv h (fun x6 h => ?_)
      exact t_iret C hr hlk w ⟨_, so_v h, rfl, so_w h hw, so_n h hn, hk⟩ (by decide) (by decide) dX7_hand_94
    · have h := bb_f h c1
      refine lv_aload_n hx hb dX7_hand_50 rfl (lv_at hl 0 rfl) ?_
      refine u_getr C w hw (hP _ _ (isn_f rfl rfl (by decide))) rfl (N := 57) rfl rfl cin_7 49 (by decide) (by decide) (a2 := 58) (i2 := 0) rfl gw_1205 dX7_hand_51 ?_
      refine lv_aload_n hx hb dX7_hand_54 rfl (lv_at hl 0 rfl) ?_
      refine u_geti C w hw (hP _ _ (isn_f rfl rfl (by decide))) rfl (N := 57) rfl rfl cin_7 48 (by decide) rfl gw_1204 dX7_hand_55 ?_
      refine u_iv h (fun x7 h => ?_)
      obtain ⟨g8, h⟩ := gd_some h
      refine u_aald C w hw (hP _ _ (isn_f rfl rfl (by decide))) rfl rfl rfl (n := 6) rfl (vp_in_iff.mpr g8) (a2 := 59) (i2 := (x7.toNatClampNeg)) (by exact congrArg (Prod.mk _) (Nat.zero_add _)) dX7_hand_58 ?_
      refine lv_iload_n hx hb dX7_hand_59 rfl (lv_at hl 2 rfl) ?_
      refine lv_iload_n hx hb dX7_hand_60 rfl (lv_at hl 1 rfl) ?_
      refine lv_iconst (v := 3) hx hb dX7_hand_61 (by decide) ?_
      refine lv_bipush (v := 8) hx hb dX7_hand_62 (by decide) ?_
      refine lv_iload_n hx hb dX7_hand_64 rfl (lv_at hl 2 rfl) ?_
      refine lv_isub hx hb dX7_hand_65 ?_
      refine u_iv h (fun x9 h => ?_)
      refine lv_imul hx hb dX7_hand_66 ?_
      refine u_iv h (fun x10 h => ?_)
      refine lv_ishr hx hb dX7_hand_67 ?_
      refine u_iv h (fun x11 h => ?_)
      refine lv_bipush (v := 7) hx hb dX7_hand_68 (by decide) ?_
      refine lv_iand hx hb dX7_hand_70 ?_
      refine u_iv h (fun x12 h => ?_)
      obtain ⟨g13, h⟩ := gd_some h
      refine u_iast C w hw (hP _ _ (isn_f rfl rfl (ib_lt g8))) rfl rfl (n := 9) rfl (vp_in_iff.mpr g13) dX7_hand_71 (fun f H locs w hw hk1 => ?_)
      have hk := hk.tr hk1
      refine u_sv h hw hn (fun S14 h hw hn => ?_)
      obtain ⟨x15, ex15, h⟩ := iv_some h
      refine lv_iinc (v := x15) (lv' := [(2, .int x15), (0, .ref (ad 40 0)), (1, .int a1)]) hx hb dX7_hand_72 hl (k := 2) rfl ex15.symm (by decide) rfl (fun ls hl => ?_)
      refine lv_goto (tgt := 44) hx hb dX7_hand_75 (by decide) ?_
      exact hk44 a1 x15 S14 h f H locs w hw hn hk ls (lv_sub hl [1, 2, 0] rfl)
  have J22 : ∀ (a1 : Int32) (t0 : Int32) (S : fS), B_X7_hand_22  a1 t0 S = some (v, S1) → Gw D K b0 sa ad P n L f0 p l e { frames := 1, cells := 0, slots := 0, locals := 22 } s m [.ref (ad 40 0), .int p1].toArray below meth c 3 (MQ below (hQ D K b0 (fun v9 u9 => ∃ f2 : Nat → va_E, v9 = some (.int v) ∧ u9 = lU L f2 ∧ PW K ad P S1 L f2 ∧ S1.2.2.1 = n ∧ Kp ad P L f0 f2)) [.ref (ad 40 0), .int p1].toArray s 0 0 (fun q => b0 ≤ q)) 0 0 22 [(0, .ref (ad 40 0)), (1, .int a1)] [.int t0, .ref (ad 40 0)] S := by
    intro a1 t0 S h
    dsimp only [B_X7_hand_22] at h
    intro f H locs w hw hn hk ls hl
    refine lv_iconst (v := 1) hx hb dX7_hand_22 (by decide) ?_
    obtain ⟨v16, S17, h18, h⟩ := bd_some h
    refine u_callV (n := 2) C w hw (hP _ _ (isn_f rfl rfl (by decide))) rfl rfl rfl (c_X7_bad l D K b0 sa _ L _ ad P hP S hw hn t0 1 v16 S17 h18) gw_1347 gw_1344 gw_1346 gs_22 gw_8 ⟨by decide, by decide, by decide +kernel⟩ rfl rfl ⟨by decide, by decide⟩ rfl hl.1 rfl (Nat.le_of_ble_eq_true rfl) dX7_hand_23 ⟨Nat.le_of_ble_eq_true rfl, Nat.le_of_ble_eq_true rfl⟩ (fun v9 u H locs hp w => ?_)
    obtain ⟨f2, rfl, rfl, hw, hn, hk1⟩ := hp
    have hk := hk.tr hk1
    generalize f2 = f at w hw hk
    refine lv_if_eq (tgt := 31) hx hb dX7_hand_26 (by decide) (fun c19 => ?_) (fun c19 => ?_)
    · have h := bb_t h c19
      refine lv_aload_n hx hb dX7_hand_31 rfl (lv_at hl 0 rfl) ?_
      refine u_geti C w hw (hP _ _ (isn_f rfl rfl (by decide))) rfl (N := 57) rfl rfl cin_7 48 (by decide) rfl gw_1204 dX7_hand_32 ?_
      refine u_iv h (fun x20 h => ?_)
      refine lv_bipush (v := 6) hx hb dX7_hand_35 (by decide) ?_
      refine lv_icmp_ne (tgt := 42) hx hb dX7_hand_37 (by decide) (fun c21 => ?_) (fun c21 => ?_)
      · have h := bb_f h c21
        refine lv_iconst (v := 0) hx hb dX7_hand_42 (by decide) ?_
        refine lv_istore_n (lv' := [(2, .int 0), (0, .ref (ad 40 0)), (1, .int a1)]) hx hb dX7_hand_43 rfl hl (by decide) rfl (fun ls hl => ?_)
        exact J44  fuel a1 0 S17 h f H locs w hw hn hk ls (lv_sub hl [1, 2, 0] rfl)
      · have h := bb_t h c21
        refine lv_iconst (v := (-1)) hx hb dX7_hand_40 (by decide) ?_
        exact t_iret C hr hlk w ⟨_, so_v h, rfl, so_w h hw, so_n h hn, hk⟩ (by decide) (by decide) dX7_hand_41
    · have h := bb_f h c19
      refine lv_iconst (v := 0) hx hb dX7_hand_29 (by decide) ?_
      exact t_iret C hr hlk w ⟨_, so_v h, rfl, so_w h hw, so_n h hn, hk⟩ (by decide) (by decide) dX7_hand_30
  dsimp only [F_X7_hand] at h
  obtain ⟨f, ef⟩ : ∃ z, z = f0 := ⟨_, rfl⟩
  rw [← ef] at w hw
  have hk : Kp ad P L f0 f := by rw [ef]; exact Kp.rf
  obtain ⟨H, eH⟩ : ∃ z, z = s.heap := ⟨_, rfl⟩
  obtain ⟨locs, el⟩ : ∃ z : List Loc, z = [] := ⟨_, rfl⟩
  rw [← eH, ← el] at w ⊢
  refine lv_aload_n hx hb dX7_hand_0 rfl (lv_at hl 0 rfl) ?_
  refine lv_iconst (v := 0) hx hb dX7_hand_1 (by decide) ?_
  refine u_puti C w hw (hP _ _ (isn_f rfl rfl (by decide))) rfl (N := 57) rfl rfl cin_7 tyX7 tyX7_ok nmX7 0 (by decide) rfl rfl rfl rfl gw_1156 dX7_hand_2 (fun f H locs w hw hk1 => ?_)
  have hk := hk.tr hk1
  refine u_sv h hw hn (fun S22 h hw hn => ?_)
  refine lv_aload_n hx hb dX7_hand_5 rfl (lv_at hl 0 rfl) ?_
  refine lv_iload_n hx hb dX7_hand_6 rfl (lv_at hl 1 rfl) ?_
  refine lv_iconst (v := 1) hx hb dX7_hand_7 (by decide) ?_
  refine lv_ldcw hx hb C.2.2.2.1 (C.2.2.2.2 _ gw_1566) dX7_hand_8 ?_
  obtain ⟨v23, S24, h25, h⟩ := bd_some h
  refine t_callS (n := 3) C w (c_X7_in l D K b0 sa _ L _ ad P hP S22 hw hn p1 1 134217727 v23 S24 h25) gw_1343 gw_1341 gw_1342 gw_8 ⟨by decide, by decide, by decide +kernel⟩ rfl rfl ⟨by decide, by decide⟩ rfl hl.1 rfl (Nat.le_of_ble_eq_true rfl) dX7_hand_11 ⟨Nat.le_of_ble_eq_true rfl, Nat.le_of_ble_eq_true rfl⟩ (fun v9 u H locs hp w => ?_)
  obtain ⟨f2, rfl, rfl, hw, hn, hk1⟩ := hp
  have hk := hk.tr hk1
  generalize f2 = f at w hw hk
  refine lv_if_ne (tgt := 21) hx hb dX7_hand_14 (by decide) (fun c26 => ?_) (fun c26 => ?_)
  · have h := bb_f h c26
    refine lv_iconst (v := 0) hx hb dX7_hand_21 (by decide) ?_
    exact J22  p1 0 S24 h f H locs w hw hn hk ls (lv_sub hl [0, 1] rfl)
  · have h := bb_t h c26
    refine lv_iconst (v := 1) hx hb dX7_hand_17 (by decide) ?_
    refine lv_goto (tgt := 22) hx hb dX7_hand_18 (by decide) ?_
    exact J22  p1 1 S24 h f H locs w hw hn hk ls (lv_sub hl [0, 1] rfl)
theorem dX7_weightsOf_0 : decode cX7_weightsOf 0 = .ok (.iconst 0, 1) := by decide +kernel
theorem dX7_weightsOf_1 : decode cX7_weightsOf 1 = .ok (.istore_n 2, 1) := by decide +kernel
theorem dX7_weightsOf_2 : decode cX7_weightsOf 2 = .ok (.iconst 0, 1) := by decide +kernel
theorem dX7_weightsOf_3 : decode cX7_weightsOf 3 = .ok (.istore_n 3, 1) := by decide +kernel
theorem dX7_weightsOf_4 : decode cX7_weightsOf 4 = .ok (.iload_n 3, 1) := by decide +kernel
theorem dX7_weightsOf_5 : decode cX7_weightsOf 5 = .ok (.bipush 9, 2) := by decide +kernel
theorem dX7_weightsOf_7 : decode cX7_weightsOf 7 = .ok (.if_icmp .ge 20, 3) := by decide +kernel
theorem dX7_weightsOf_10 : decode cX7_weightsOf 10 = .ok (.iload_n 2, 1) := by decide +kernel
theorem dX7_weightsOf_11 : decode cX7_weightsOf 11 = .ok (.aload_n 0, 1) := by decide +kernel
theorem dX7_weightsOf_12 : decode cX7_weightsOf 12 = .ok (.getfield 76, 3) := by decide +kernel
theorem dX7_weightsOf_15 : decode cX7_weightsOf 15 = .ok (.iload_n 1, 1) := by decide +kernel
theorem dX7_weightsOf_16 : decode cX7_weightsOf 16 = .ok (.aaload, 1) := by decide +kernel
theorem dX7_weightsOf_17 : decode cX7_weightsOf 17 = .ok (.iload_n 3, 1) := by decide +kernel
theorem dX7_weightsOf_18 : decode cX7_weightsOf 18 = .ok (.iaload, 1) := by decide +kernel
theorem dX7_weightsOf_19 : decode cX7_weightsOf 19 = .ok (.iadd, 1) := by decide +kernel
theorem dX7_weightsOf_20 : decode cX7_weightsOf 20 = .ok (.istore_n 2, 1) := by decide +kernel
theorem dX7_weightsOf_21 : decode cX7_weightsOf 21 = .ok (.iinc 3 1, 3) := by decide +kernel
theorem dX7_weightsOf_24 : decode cX7_weightsOf 24 = .ok (.goto (-20), 3) := by decide +kernel
theorem dX7_weightsOf_27 : decode cX7_weightsOf 27 = .ok (.iload_n 2, 1) := by decide +kernel
theorem dX7_weightsOf_28 : decode cX7_weightsOf 28 = .ok (.ireturn, 1) := by decide +kernel
noncomputable def B_X7_weightsOf_4 (k4 : (Int32 × Int32 × Int32) → fS → Option (Int32 × fS)) : (Int32 × Int32 × Int32) → fS → Option (Int32 × fS) := fun ⟨a1, a2, a3⟩ S => bb ((9 : Int32) ≤ a3) (some (a2, S)) (gd (ib a1 6) (gd (ib a3 9) (iv (ge S 59 (a1.toNatClampNeg) (a3 : Int32).toNatClampNeg) (fun x4 => iv (a2 + x4) (fun x5 => iv (a3 + Int32.ofInt 1) (fun x6 => k4 (a1, x5, x6) S))))))
noncomputable def F_X7_weightsOf (p1 : Int32) (S0 : fS) : Option (Int32 × fS) := lp (B_X7_weightsOf_4 ) fuel (p1, 0, 0) S0
set_option maxHeartbeats 4000000 in
set_option maxRecDepth 100000 in
theorem c_X7_weightsOf (l : Launch) (D : va_G) (K : Nat → ClassId) (b0 : Nat) (sa : sT) (sz : Nat) (L : List Nat) (f0 : Nat → va_E) (ad : Nat → Nat → Nat) (P : Nat → Nat → Prop) {n : Nat × Nat} (hP : ∀ a i : Nat, isn n a i → P a i) (S0 : fS) (hw : PW K ad P S0 L f0) (hn : S0.2.2.1 = n) (p1 : Int32) (v : Int32) (S1 : fS) (h : F_X7_weightsOf p1 S0 = some (v, S1)) : Met l yX7_weightsOf (.code yX7_weightsOf cX7_weightsOf 4 (some .int) :: gt) { frames := 0, cells := 0, slots := 0, locals := 0 } (va_Pc [.ref (ad 40 0), .int p1] (hPre D K b0 sa sz L f0)) (hQ D K b0 (fun v9 u9 => ∃ f2 : Nat → va_E, v9 = some (.int v) ∧ u9 = lU L f2 ∧ PW K ad P S1 L f2 ∧ S1.2.2.1 = n ∧ Kp ad P L f0 f2)) 0 0 (fun q => b0 ≤ q) := by
  refine t_of (own := RX7) (by decide) rfl ?_ (Nat.le_of_ble_eq_true rfl)
  intro p e s m below meth c ls C w hsz hr hlk hnm hl
  have hx := C.1
  have hb := C.2.1
  have hl : lv_has ls 4 [(0, .ref (ad 40 0)), (1, .int p1)] := hl
  have J4 : ∀ (fu : Nat) (a1 : Int32) (a2 : Int32) (a3 : Int32) (S : fS), lp (B_X7_weightsOf_4 ) fu (a1, a2, a3) S = some (v, S1) → Gw D K b0 sa ad P n L f0 p l e { frames := 0, cells := 0, slots := 0, locals := 0 } s m [.ref (ad 40 0), .int p1].toArray below meth c 4 (MQ below (hQ D K b0 (fun v9 u9 => ∃ f2 : Nat → va_E, v9 = some (.int v) ∧ u9 = lU L f2 ∧ PW K ad P S1 L f2 ∧ S1.2.2.1 = n ∧ Kp ad P L f0 f2)) [.ref (ad 40 0), .int p1].toArray s 0 0 (fun q => b0 ≤ q)) 0 0 4 [(0, .ref (ad 40 0)), (1, .int a1), (2, .int a2), (3, .int a3)] [] S := by
    intro fu a1 a2 a3 S h
    refine lp_some (G := (fun q S => Gw D K b0 sa ad P n L f0 p l e { frames := 0, cells := 0, slots := 0, locals := 0 } s m [.ref (ad 40 0), .int p1].toArray below meth c 4 (MQ below (hQ D K b0 (fun v9 u9 => ∃ f2 : Nat → va_E, v9 = some (.int v) ∧ u9 = lU L f2 ∧ PW K ad P S1 L f2 ∧ S1.2.2.1 = n ∧ Kp ad P L f0 f2)) [.ref (ad 40 0), .int p1].toArray s 0 0 (fun q => b0 ≤ q)) 0 0 4 [(0, .ref (ad 40 0)), (1, .int q.1), (2, .int q.2.1), (3, .int q.2.2)] [] S)) (fun k4 hk4 q S h => ?_) fu (a1, a2, a3) S h
    obtain ⟨a1, a2, a3⟩ := q
    have hk4 : ∀ (a1 : Int32) (a2 : Int32) (a3 : Int32) (S : fS), k4 (a1, a2, a3) S = some (v, S1) → Gw D K b0 sa ad P n L f0 p l e { frames := 0, cells := 0, slots := 0, locals := 0 } s m [.ref (ad 40 0), .int p1].toArray below meth c 4 (MQ below (hQ D K b0 (fun v9 u9 => ∃ f2 : Nat → va_E, v9 = some (.int v) ∧ u9 = lU L f2 ∧ PW K ad P S1 L f2 ∧ S1.2.2.1 = n ∧ Kp ad P L f0 f2)) [.ref (ad 40 0), .int p1].toArray s 0 0 (fun q => b0 ≤ q)) 0 0 4 [(0, .ref (ad 40 0)), (1, .int a1), (2, .int a2), (3, .int a3)] [] S := fun a1 a2 a3 S h => hk4 (a1, a2, a3) S h
    dsimp only [B_X7_weightsOf_4] at h
    intro f H locs w hw hn hk ls hl
    refine lv_iload_n hx hb dX7_weightsOf_4 rfl (lv_at hl 3 rfl) ?_
    refine lv_bipush (v := 9) hx hb dX7_weightsOf_5 (by decide) ?_
    refine lv_icmp_ge (tgt := 27) hx hb dX7_weightsOf_7 (by decide) (fun c1 => ?_) (fun c1 => ?_)
    · have h := bb_t h c1
      refine lv_iload_n hx hb dX7_weightsOf_27 rfl (lv_at hl 2 rfl) ?_
      exact t_iret C hr hlk w ⟨_, so_v h, rfl, so_w h hw, so_n h hn, hk⟩ (by decide) (by decide) dX7_weightsOf_28
    · have h := bb_f h c1
      refine lv_iload_n hx hb dX7_weightsOf_10 rfl (lv_at hl 2 rfl) ?_
      refine lv_aload_n hx hb dX7_weightsOf_11 rfl (lv_at hl 0 rfl) ?_
      refine u_getr C w hw (hP _ _ (isn_f rfl rfl (by decide))) rfl (N := 57) rfl rfl cin_7 49 (by decide) (by decide) (a2 := 58) (i2 := 0) rfl gw_1205 dX7_weightsOf_12 ?_
      refine lv_iload_n hx hb dX7_weightsOf_15 rfl (lv_at hl 1 rfl) ?_
      obtain ⟨g2, h⟩ := gd_some h
      refine u_aald C w hw (hP _ _ (isn_f rfl rfl (by decide))) rfl rfl rfl (n := 6) rfl (vp_in_iff.mpr g2) (a2 := 59) (i2 := (a1.toNatClampNeg)) (by exact congrArg (Prod.mk _) (Nat.zero_add _)) dX7_weightsOf_16 ?_
      refine lv_iload_n hx hb dX7_weightsOf_17 rfl (lv_at hl 3 rfl) ?_
      obtain ⟨g3, h⟩ := gd_some h
      refine u_iald C w hw (hP _ _ (isn_f rfl rfl (ib_lt g2))) rfl rfl (n := 9) rfl (vp_in_iff.mpr g3) dX7_weightsOf_18 ?_
      refine u_iv h (fun x4 h => ?_)
      refine lv_iadd hx hb dX7_weightsOf_19 ?_
      refine u_iv h (fun x5 h => ?_)
      refine lv_istore_n (lv' := [(2, .int x5), (0, .ref (ad 40 0)), (1, .int a1), (3, .int a3)]) hx hb dX7_weightsOf_20 rfl hl (by decide) rfl (fun ls hl => ?_)
      obtain ⟨x6, ex6, h⟩ := iv_some h
      refine lv_iinc (v := x6) (lv' := [(3, .int x6), (2, .int x5), (0, .ref (ad 40 0)), (1, .int a1)]) hx hb dX7_weightsOf_21 hl (k := 3) rfl ex6.symm (by decide) rfl (fun ls hl => ?_)
      refine lv_goto (tgt := 4) hx hb dX7_weightsOf_24 (by decide) ?_
      exact hk4 a1 x5 x6 S h f H locs w hw hn hk ls (lv_sub hl [2, 3, 1, 0] rfl)
  dsimp only [F_X7_weightsOf] at h
  obtain ⟨f, ef⟩ : ∃ z, z = f0 := ⟨_, rfl⟩
  rw [← ef] at w hw
  have hk : Kp ad P L f0 f := by rw [ef]; exact Kp.rf
  obtain ⟨H, eH⟩ : ∃ z, z = s.heap := ⟨_, rfl⟩
  obtain ⟨locs, el⟩ : ∃ z : List Loc, z = [] := ⟨_, rfl⟩
  rw [← eH, ← el] at w ⊢
  refine lv_iconst (v := 0) hx hb dX7_weightsOf_0 (by decide) ?_
  refine lv_istore_n (lv' := [(2, .int 0), (0, .ref (ad 40 0)), (1, .int p1)]) hx hb dX7_weightsOf_1 rfl hl (by decide) rfl (fun ls hl => ?_)
  refine lv_iconst (v := 0) hx hb dX7_weightsOf_2 (by decide) ?_
  refine lv_istore_n (lv' := [(3, .int 0), (2, .int 0), (0, .ref (ad 40 0)), (1, .int p1)]) hx hb dX7_weightsOf_3 rfl hl (by decide) rfl (fun ls hl => ?_)
  exact J4  fuel p1 0 0 S0 h f H locs w hw hn hk ls (lv_sub hl [2, 3, 1, 0] rfl)
theorem dX7_comesTo_0 : decode cX7_comesTo 0 = .ok (.bipush 8, 2) := by decide +kernel
theorem dX7_comesTo_2 : decode cX7_comesTo 2 = .ok (.iload_n 0, 1) := by decide +kernel
theorem dX7_comesTo_3 : decode cX7_comesTo 3 = .ok (.bipush 8, 2) := by decide +kernel
theorem dX7_comesTo_5 : decode cX7_comesTo 5 = .ok (.idiv, 1) := by decide +kernel
theorem dX7_comesTo_6 : decode cX7_comesTo 6 = .ok (.iload_n 1, 1) := by decide +kernel
theorem dX7_comesTo_7 : decode cX7_comesTo 7 = .ok (.iconst 3, 1) := by decide +kernel
theorem dX7_comesTo_8 : decode cX7_comesTo 8 = .ok (.idiv, 1) := by decide +kernel
theorem dX7_comesTo_9 : decode cX7_comesTo 9 = .ok (.iadd, 1) := by decide +kernel
theorem dX7_comesTo_10 : decode cX7_comesTo 10 = .ok (.iconst 1, 1) := by decide +kernel
theorem dX7_comesTo_11 : decode cX7_comesTo 11 = .ok (.isub, 1) := by decide +kernel
theorem dX7_comesTo_12 : decode cX7_comesTo 12 = .ok (.iconst 0, 1) := by decide +kernel
theorem dX7_comesTo_13 : decode cX7_comesTo 13 = .ok (.bipush 7, 2) := by decide +kernel
theorem dX7_comesTo_15 : decode cX7_comesTo 15 = .ok (.invokestatic 240, 3) := by decide +kernel
theorem dX7_comesTo_18 : decode cX7_comesTo 18 = .ok (.imul, 1) := by decide +kernel
theorem dX7_comesTo_19 : decode cX7_comesTo 19 = .ok (.iload_n 0, 1) := by decide +kernel
theorem dX7_comesTo_20 : decode cX7_comesTo 20 = .ok (.bipush 8, 2) := by decide +kernel
theorem dX7_comesTo_22 : decode cX7_comesTo 22 = .ok (.irem, 1) := by decide +kernel
theorem dX7_comesTo_23 : decode cX7_comesTo 23 = .ok (.iload_n 1, 1) := by decide +kernel
theorem dX7_comesTo_24 : decode cX7_comesTo 24 = .ok (.iconst 3, 1) := by decide +kernel
theorem dX7_comesTo_25 : decode cX7_comesTo 25 = .ok (.irem, 1) := by decide +kernel
theorem dX7_comesTo_26 : decode cX7_comesTo 26 = .ok (.iadd, 1) := by decide +kernel
theorem dX7_comesTo_27 : decode cX7_comesTo 27 = .ok (.iconst 1, 1) := by decide +kernel
theorem dX7_comesTo_28 : decode cX7_comesTo 28 = .ok (.isub, 1) := by decide +kernel
theorem dX7_comesTo_29 : decode cX7_comesTo 29 = .ok (.iconst 0, 1) := by decide +kernel
theorem dX7_comesTo_30 : decode cX7_comesTo 30 = .ok (.bipush 7, 2) := by decide +kernel
theorem dX7_comesTo_32 : decode cX7_comesTo 32 = .ok (.invokestatic 240, 3) := by decide +kernel
theorem dX7_comesTo_35 : decode cX7_comesTo 35 = .ok (.iadd, 1) := by decide +kernel
theorem dX7_comesTo_36 : decode cX7_comesTo 36 = .ok (.ireturn, 1) := by decide +kernel
noncomputable def F_X7_comesTo (p0 : Int32) (p1 : Int32) (S0 : fS) : Option (Int32 × fS) := iv (p0 / (8 : Int32)) (fun x1 => iv (p1 / (3 : Int32)) (fun x2 => iv (x1 + x2) (fun x3 => iv (x3 - (1 : Int32)) (fun x4 => bd (F_X7_within x4 0 7 S0) (fun v5 S6 => iv ((8 : Int32) * v5) (fun x8 => iv (p0 - p0 / (8 : Int32) * (8 : Int32)) (fun x9 => iv (p1 - p1 / (3 : Int32) * (3 : Int32)) (fun x10 => iv (x9 + x10) (fun x11 => iv (x11 - (1 : Int32)) (fun x12 => bd (F_X7_within x12 0 7 S6) (fun v13 S14 => iv (x8 + v13) (fun x16 => some (x16, S14)))))))))))))
set_option maxHeartbeats 4000000 in
set_option maxRecDepth 100000 in
theorem c_X7_comesTo (l : Launch) (D : va_G) (K : Nat → ClassId) (b0 : Nat) (sa : sT) (sz : Nat) (L : List Nat) (f0 : Nat → va_E) (ad : Nat → Nat → Nat) (P : Nat → Nat → Prop) {n : Nat × Nat} (hP : ∀ a i : Nat, isn n a i → P a i) (S0 : fS) (hw : PW K ad P S0 L f0) (hn : S0.2.2.1 = n) (p0 : Int32) (p1 : Int32) (v : Int32) (S1 : fS) (h : F_X7_comesTo p0 p1 S0 = some (v, S1)) : Met l yX7_comesTo (.code yX7_comesTo cX7_comesTo 2 (some .int) :: gt) { frames := 1, cells := 0, slots := 0, locals := 22 } (va_Pc [.int p0, .int p1] (hPre D K b0 sa sz L f0)) (hQ D K b0 (fun v9 u9 => ∃ f2 : Nat → va_E, v9 = some (.int v) ∧ u9 = lU L f2 ∧ PW K ad P S1 L f2 ∧ S1.2.2.1 = n ∧ Kp ad P L f0 f2)) 0 0 (fun q => b0 ≤ q) := by
  refine t_of (own := RX7) (by decide) rfl ?_ (Nat.le_of_ble_eq_true rfl)
  intro p e s m below meth c ls C w hsz hr hlk hnm hl
  have hx := C.1
  have hb := C.2.1
  have hl : lv_has ls 2 [(0, .int p0), (1, .int p1)] := hl
  dsimp only [F_X7_comesTo] at h
  obtain ⟨f, ef⟩ : ∃ z, z = f0 := ⟨_, rfl⟩
  rw [← ef] at w hw
  have hk : Kp ad P L f0 f := by rw [ef]; exact Kp.rf
  obtain ⟨H, eH⟩ : ∃ z, z = s.heap := ⟨_, rfl⟩
  obtain ⟨locs, el⟩ : ∃ z : List Loc, z = [] := ⟨_, rfl⟩
  rw [← eH, ← el] at w ⊢
  refine lv_bipush (v := 8) hx hb dX7_comesTo_0 (by decide) ?_
  refine lv_iload_n hx hb dX7_comesTo_2 rfl (lv_at hl 0 rfl) ?_
  refine lv_bipush (v := 8) hx hb dX7_comesTo_3 (by decide) ?_
  refine lv_idiv hx hb dX7_comesTo_5 (by decide) ?_
  refine u_iv h (fun x1 h => ?_)
  refine lv_iload_n hx hb dX7_comesTo_6 rfl (lv_at hl 1 rfl) ?_
  refine lv_iconst (v := 3) hx hb dX7_comesTo_7 (by decide) ?_
  refine lv_idiv hx hb dX7_comesTo_8 (by decide) ?_
  refine u_iv h (fun x2 h => ?_)
  refine lv_iadd hx hb dX7_comesTo_9 ?_
  refine u_iv h (fun x3 h => ?_)
  refine lv_iconst (v := 1) hx hb dX7_comesTo_10 (by decide) ?_
  refine lv_isub hx hb dX7_comesTo_11 ?_
  refine u_iv h (fun x4 h => ?_)
  refine lv_iconst (v := 0) hx hb dX7_comesTo_12 (by decide) ?_
  refine lv_bipush (v := 7) hx hb dX7_comesTo_13 (by decide) ?_
  obtain ⟨v5, S6, h7, h⟩ := bd_some h
  refine t_callS (n := 3) C w (c_X7_within l D K b0 sa _ L _ ad P hP S0 hw hn x4 0 7 v5 S6 h7) gw_1460 gw_1458 gw_1459 gw_8 ⟨by decide, by decide, by decide +kernel⟩ rfl rfl ⟨by decide, by decide⟩ rfl hl.1 rfl (Nat.le_of_ble_eq_true rfl) dX7_comesTo_15 ⟨Nat.le_of_ble_eq_true rfl, Nat.le_of_ble_eq_true rfl⟩ (fun v9 u H locs hp w => ?_)
  obtain ⟨f2, rfl, rfl, hw, hn, hk1⟩ := hp
  have hk := hk.tr hk1
  generalize f2 = f at w hw hk
  refine lv_imul hx hb dX7_comesTo_18 ?_
  refine u_iv h (fun x8 h => ?_)
  refine lv_iload_n hx hb dX7_comesTo_19 rfl (lv_at hl 0 rfl) ?_
  refine lv_bipush (v := 8) hx hb dX7_comesTo_20 (by decide) ?_
  refine lv_irem hx hb dX7_comesTo_22 (by decide) ?_
  refine u_iv h (fun x9 h => ?_)
  refine lv_iload_n hx hb dX7_comesTo_23 rfl (lv_at hl 1 rfl) ?_
  refine lv_iconst (v := 3) hx hb dX7_comesTo_24 (by decide) ?_
  refine lv_irem hx hb dX7_comesTo_25 (by decide) ?_
  refine u_iv h (fun x10 h => ?_)
  refine lv_iadd hx hb dX7_comesTo_26 ?_
  refine u_iv h (fun x11 h => ?_)
  refine lv_iconst (v := 1) hx hb dX7_comesTo_27 (by decide) ?_
  refine lv_isub hx hb dX7_comesTo_28 ?_
  refine u_iv h (fun x12 h => ?_)
  refine lv_iconst (v := 0) hx hb dX7_comesTo_29 (by decide) ?_
  refine lv_bipush (v := 7) hx hb dX7_comesTo_30 (by decide) ?_
  obtain ⟨v13, S14, h15, h⟩ := bd_some h
  refine t_callS (n := 3) C w (c_X7_within l D K b0 sa _ L _ ad P hP S6 hw hn x12 0 7 v13 S14 h15) gw_1460 gw_1458 gw_1459 gw_8 ⟨by decide, by decide, by decide +kernel⟩ rfl rfl ⟨by decide, by decide⟩ rfl hl.1 rfl (Nat.le_of_ble_eq_true rfl) dX7_comesTo_32 ⟨Nat.le_of_ble_eq_true rfl, Nat.le_of_ble_eq_true rfl⟩ (fun v9 u H locs hp w => ?_)
  obtain ⟨f2, rfl, rfl, hw, hn, hk1⟩ := hp
  have hk := hk.tr hk1
  generalize f2 = f at w hw hk
  refine lv_iadd hx hb dX7_comesTo_35 ?_
  refine u_iv h (fun x16 h => ?_)
  exact t_iret C hr hlk w ⟨_, so_v h, rfl, so_w h hw, so_n h hn, hk⟩ (by decide) (by decide) dX7_comesTo_36
theorem dX7_isHand_0 : decode cX7_isHand 0 = .ok (.iload_n 1, 1) := by decide +kernel
theorem dX7_isHand_1 : decode cX7_isHand 1 = .ok (.iconst 0, 1) := by decide +kernel
theorem dX7_isHand_2 : decode cX7_isHand 2 = .ok (.aload_n 0, 1) := by decide +kernel
theorem dX7_isHand_3 : decode cX7_isHand 3 = .ok (.getfield 330, 3) := by decide +kernel
theorem dX7_isHand_6 : decode cX7_isHand 6 = .ok (.iconst 1, 1) := by decide +kernel
theorem dX7_isHand_7 : decode cX7_isHand 7 = .ok (.isub, 1) := by decide +kernel
theorem dX7_isHand_8 : decode cX7_isHand 8 = .ok (.invokestatic 100, 3) := by decide +kernel
theorem dX7_isHand_11 : decode cX7_isHand 11 = .ok (.ireturn, 1) := by decide +kernel
noncomputable def F_X7_isHand (p1 : Int32) (S0 : fS) : Option (Int32 × fS) := iv (ge S0 40 0 48) (fun x1 => iv (x1 - (1 : Int32)) (fun x2 => bd (F_X7_in p1 0 x2 S0) (fun v3 S4 => gd (v3 = 0 ∨ v3 = 1) (some (v3, S4)))))
set_option maxHeartbeats 4000000 in
set_option maxRecDepth 100000 in
theorem c_X7_isHand (l : Launch) (D : va_G) (K : Nat → ClassId) (b0 : Nat) (sa : sT) (sz : Nat) (L : List Nat) (f0 : Nat → va_E) (ad : Nat → Nat → Nat) (P : Nat → Nat → Prop) {n : Nat × Nat} (hP : ∀ a i : Nat, isn n a i → P a i) (S0 : fS) (hw : PW K ad P S0 L f0) (hn : S0.2.2.1 = n) (p1 : Int32) (v : Int32) (S1 : fS) (h : F_X7_isHand p1 S0 = some (v, S1)) : Met l yX7_isHand (.code yX7_isHand cX7_isHand 2 (some .boolean) :: gt) { frames := 1, cells := 0, slots := 0, locals := 22 } (va_Pc [.ref (ad 40 0), .int p1] (hPre D K b0 sa sz L f0)) (hQ D K b0 (fun v9 u9 => ∃ f2 : Nat → va_E, v9 = some (.int v) ∧ u9 = lU L f2 ∧ PW K ad P S1 L f2 ∧ S1.2.2.1 = n ∧ Kp ad P L f0 f2)) 0 0 (fun q => b0 ≤ q) := by
  refine t_of (own := RX7) (by decide) rfl ?_ (Nat.le_of_ble_eq_true rfl)
  intro p e s m below meth c ls C w hsz hr hlk hnm hl
  have hx := C.1
  have hb := C.2.1
  have hl : lv_has ls 2 [(0, .ref (ad 40 0)), (1, .int p1)] := hl
  dsimp only [F_X7_isHand] at h
  obtain ⟨f, ef⟩ : ∃ z, z = f0 := ⟨_, rfl⟩
  rw [← ef] at w hw
  have hk : Kp ad P L f0 f := by rw [ef]; exact Kp.rf
  obtain ⟨H, eH⟩ : ∃ z, z = s.heap := ⟨_, rfl⟩
  obtain ⟨locs, el⟩ : ∃ z : List Loc, z = [] := ⟨_, rfl⟩
  rw [← eH, ← el] at w ⊢
  refine lv_iload_n hx hb dX7_isHand_0 rfl (lv_at hl 1 rfl) ?_
  refine lv_iconst (v := 0) hx hb dX7_isHand_1 (by decide) ?_
  refine lv_aload_n hx hb dX7_isHand_2 rfl (lv_at hl 0 rfl) ?_
  refine u_geti C w hw (hP _ _ (isn_f rfl rfl (by decide))) rfl (N := 57) rfl rfl cin_7 48 (by decide) rfl gw_1204 dX7_isHand_3 ?_
  refine u_iv h (fun x1 h => ?_)
  refine lv_iconst (v := 1) hx hb dX7_isHand_6 (by decide) ?_
  refine lv_isub hx hb dX7_isHand_7 ?_
  refine u_iv h (fun x2 h => ?_)
  obtain ⟨v3, S4, h5, h⟩ := bd_some h
  refine t_callS (n := 3) C w (c_X7_in l D K b0 sa _ L _ ad P hP S0 hw hn p1 0 x2 v3 S4 h5) gw_1343 gw_1341 gw_1342 gw_8 ⟨by decide, by decide, by decide +kernel⟩ rfl rfl ⟨by decide, by decide⟩ rfl hl.1 rfl (Nat.le_of_ble_eq_true rfl) dX7_isHand_8 ⟨Nat.le_of_ble_eq_true rfl, Nat.le_of_ble_eq_true rfl⟩ (fun v9 u H locs hp w => ?_)
  obtain ⟨f2, rfl, rfl, hw, hn, hk1⟩ := hp
  have hk := hk.tr hk1
  generalize f2 = f at w hw hk
  obtain ⟨g6, h⟩ := gd_some h
  exact t_zret C hr hlk w (narb g6) ⟨_, so_v h, rfl, so_w h hw, so_n h hn, hk⟩ (by decide) (by decide) dX7_isHand_11
theorem dX7_weights_0 : decode cX7_weights 0 = .ok (.aload_n 0, 1) := by decide +kernel
theorem dX7_weights_1 : decode cX7_weights 1 = .ok (.iconst 0, 1) := by decide +kernel
theorem dX7_weights_2 : decode cX7_weights 2 = .ok (.putfield 97, 3) := by decide +kernel
theorem dX7_weights_5 : decode cX7_weights 5 = .ok (.aload_n 0, 1) := by decide +kernel
theorem dX7_weights_6 : decode cX7_weights 6 = .ok (.aload_n 0, 1) := by decide +kernel
theorem dX7_weights_7 : decode cX7_weights 7 = .ok (.iload_n 1, 1) := by decide +kernel
theorem dX7_weights_8 : decode cX7_weights 8 = .ok (.invokevirtual 333, 3) := by decide +kernel
theorem dX7_weights_11 : decode cX7_weights 11 = .ok (.ifCond .ne 7, 3) := by decide +kernel
theorem dX7_weights_14 : decode cX7_weights 14 = .ok (.iconst 1, 1) := by decide +kernel
theorem dX7_weights_15 : decode cX7_weights 15 = .ok (.goto 4, 3) := by decide +kernel
theorem dX7_weights_18 : decode cX7_weights 18 = .ok (.iconst 0, 1) := by decide +kernel
theorem dX7_weights_19 : decode cX7_weights 19 = .ok (.iconst 1, 1) := by decide +kernel
theorem dX7_weights_20 : decode cX7_weights 20 = .ok (.invokevirtual 206, 3) := by decide +kernel
theorem dX7_weights_23 : decode cX7_weights 23 = .ok (.ifCond .eq 5, 3) := by decide +kernel
theorem dX7_weights_26 : decode cX7_weights 26 = .ok (.iconst 0, 1) := by decide +kernel
theorem dX7_weights_27 : decode cX7_weights 27 = .ok (.ireturn, 1) := by decide +kernel
theorem dX7_weights_28 : decode cX7_weights 28 = .ok (.aload_n 0, 1) := by decide +kernel
theorem dX7_weights_29 : decode cX7_weights 29 = .ok (.iload_n 1, 1) := by decide +kernel
theorem dX7_weights_30 : decode cX7_weights 30 = .ok (.invokevirtual 336, 3) := by decide +kernel
theorem dX7_weights_33 : decode cX7_weights 33 = .ok (.ireturn, 1) := by decide +kernel
noncomputable def B_X7_weights_19 (a1 : Int32) (t0 : Int32) (S : fS) : Option (Int32 × fS) := bd (F_X7_bad t0 1 S) (fun v1 S2 => bb (v1 = (0 : Int32)) (bd (F_X7_weightsOf a1 S2) (fun v5 S6 => some (v5, S6))) (some (0, S2)))
noncomputable def F_X7_weights (p1 : Int32) (S0 : fS) : Option (Int32 × fS) := sv (pu S0 40 0 0 0) (fun S8 => bd (F_X7_isHand p1 S8) (fun v9 S10 => bb (v9 = (0 : Int32)) (B_X7_weights_19  p1 1 S10) (B_X7_weights_19  p1 0 S10)))
set_option maxHeartbeats 4000000 in
set_option maxRecDepth 100000 in
theorem c_X7_weights (l : Launch) (D : va_G) (K : Nat → ClassId) (b0 : Nat) (sa : sT) (sz : Nat) (L : List Nat) (f0 : Nat → va_E) (ad : Nat → Nat → Nat) (P : Nat → Nat → Prop) {n : Nat × Nat} (hP : ∀ a i : Nat, isn n a i → P a i) (S0 : fS) (hw : PW K ad P S0 L f0) (hn : S0.2.2.1 = n) (p1 : Int32) (v : Int32) (S1 : fS) (h : F_X7_weights p1 S0 = some (v, S1)) : Met l yX7_weights (.code yX7_weights cX7_weights 2 (some .int) :: gt) { frames := 2, cells := 0, slots := 0, locals := 43 } (va_Pc [.ref (ad 40 0), .int p1] (hPre D K b0 sa sz L f0)) (hQ D K b0 (fun v9 u9 => ∃ f2 : Nat → va_E, v9 = some (.int v) ∧ u9 = lU L f2 ∧ PW K ad P S1 L f2 ∧ S1.2.2.1 = n ∧ Kp ad P L f0 f2)) 0 0 (fun q => b0 ≤ q) := by
  refine t_of (own := RX7) (by decide) rfl ?_ (Nat.le_of_ble_eq_true rfl)
  intro p e s m below meth c ls C w hsz hr hlk hnm hl
  have hx := C.1
  have hb := C.2.1
  have hl : lv_has ls 2 [(0, .ref (ad 40 0)), (1, .int p1)] := hl
  have J19 : ∀ (a1 : Int32) (t0 : Int32) (S : fS), B_X7_weights_19  a1 t0 S = some (v, S1) → Gw D K b0 sa ad P n L f0 p l e { frames := 2, cells := 0, slots := 0, locals := 43 } s m [.ref (ad 40 0), .int p1].toArray below meth c 2 (MQ below (hQ D K b0 (fun v9 u9 => ∃ f2 : Nat → va_E, v9 = some (.int v) ∧ u9 = lU L f2 ∧ PW K ad P S1 L f2 ∧ S1.2.2.1 = n ∧ Kp ad P L f0 f2)) [.ref (ad 40 0), .int p1].toArray s 0 0 (fun q => b0 ≤ q)) 0 0 19 [(0, .ref (ad 40 0)), (1, .int a1)] [.int t0, .ref (ad 40 0)] S := by
    intro a1 t0 S h
    dsimp only [B_X7_weights_19] at h
    intro f H locs w hw hn hk ls hl
    refine lv_iconst (v := 1) hx hb dX7_weights_19 (by decide) ?_
    obtain ⟨v1, S2, h3, h⟩ := bd_some h
    refine u_callV (n := 2) C w hw (hP _ _ (isn_f rfl rfl (by decide))) rfl rfl rfl (c_X7_bad l D K b0 sa _ L _ ad P hP S hw hn t0 1 v1 S2 h3) gw_1347 gw_1344 gw_1346 gs_22 gw_8 ⟨by decide, by decide, by decide +kernel⟩ rfl rfl ⟨by decide, by decide⟩ rfl hl.1 rfl (Nat.le_of_ble_eq_true rfl) dX7_weights_20 ⟨Nat.le_of_ble_eq_true rfl, Nat.le_of_ble_eq_true rfl⟩ (fun v9 u H locs hp w => ?_)
    obtain ⟨f2, rfl, rfl, hw, hn, hk1⟩ := hp
    have hk := hk.tr hk1
    generalize f2 = f at w hw hk
    refine lv_if_eq (tgt := 28) hx hb dX7_weights_23 (by decide) (fun c4 => ?_) (fun c4 => ?_)
    · have h := bb_t h c4
      refine lv_aload_n hx hb dX7_weights_28 rfl (lv_at hl 0 rfl) ?_
      refine lv_iload_n hx hb dX7_weights_29 rfl (lv_at hl 1 rfl) ?_
      obtain ⟨v5, S6, h7, h⟩ := bd_some h
      refine u_callV (n := 1) C w hw (hP _ _ (isn_f rfl rfl (by decide))) rfl rfl rfl (c_X7_weightsOf l D K b0 sa _ L _ ad P hP S2 hw hn a1 v5 S6 h7) gw_1578 gw_1575 gw_1577 gs_59 gw_8 ⟨by decide, by decide, by decide +kernel⟩ rfl rfl ⟨by decide, by decide⟩ rfl hl.1 rfl (Nat.le_of_ble_eq_true rfl) dX7_weights_30 ⟨Nat.le_of_ble_eq_true rfl, Nat.le_of_ble_eq_true rfl⟩ (fun v9 u H locs hp w => ?_)
      obtain ⟨f2, rfl, rfl, hw, hn, hk1⟩ := hp
      have hk := hk.tr hk1
      generalize f2 = f at w hw hk
      exact t_iret C hr hlk w ⟨_, so_v h, rfl, so_w h hw, so_n h hn, hk⟩ (by decide) (by decide) dX7_weights_33
    · have h := bb_f h c4
      refine lv_iconst (v := 0) hx hb dX7_weights_26 (by decide) ?_
      exact t_iret C hr hlk w ⟨_, so_v h, rfl, so_w h hw, so_n h hn, hk⟩ (by decide) (by decide) dX7_weights_27
  dsimp only [F_X7_weights] at h
  obtain ⟨f, ef⟩ : ∃ z, z = f0 := ⟨_, rfl⟩
  rw [← ef] at w hw
  have hk : Kp ad P L f0 f := by rw [ef]; exact Kp.rf
  obtain ⟨H, eH⟩ : ∃ z, z = s.heap := ⟨_, rfl⟩
  obtain ⟨locs, el⟩ : ∃ z : List Loc, z = [] := ⟨_, rfl⟩
  rw [← eH, ← el] at w ⊢
  refine lv_aload_n hx hb dX7_weights_0 rfl (lv_at hl 0 rfl) ?_
  refine lv_iconst (v := 0) hx hb dX7_weights_1 (by decide) ?_
  refine u_puti C w hw (hP _ _ (isn_f rfl rfl (by decide))) rfl (N := 57) rfl rfl cin_7 tyX7 tyX7_ok nmX7 0 (by decide) rfl rfl rfl rfl gw_1156 dX7_weights_2 (fun f H locs w hw hk1 => ?_)
  have hk := hk.tr hk1
  refine u_sv h hw hn (fun S8 h hw hn => ?_)
  refine lv_aload_n hx hb dX7_weights_5 rfl (lv_at hl 0 rfl) ?_
  refine lv_aload_n hx hb dX7_weights_6 rfl (lv_at hl 0 rfl) ?_
  refine lv_iload_n hx hb dX7_weights_7 rfl (lv_at hl 1 rfl) ?_
  obtain ⟨v9, S10, h11, h⟩ := bd_some h
  refine u_callV (n := 1) C w hw (hP _ _ (isn_f rfl rfl (by decide))) rfl rfl rfl (c_X7_isHand l D K b0 sa _ L _ ad P hP S8 hw hn p1 v9 S10 h11) gw_1574 gw_1571 gw_1573 gs_58 gw_8 ⟨by decide, by decide, by decide +kernel⟩ rfl rfl ⟨by decide, by decide⟩ rfl hl.1 rfl (Nat.le_of_ble_eq_true rfl) dX7_weights_8 ⟨Nat.le_of_ble_eq_true rfl, Nat.le_of_ble_eq_true rfl⟩ (fun v9 u H locs hp w => ?_)
  obtain ⟨f2, rfl, rfl, hw, hn, hk1⟩ := hp
  have hk := hk.tr hk1
  generalize f2 = f at w hw hk
  refine lv_if_ne (tgt := 18) hx hb dX7_weights_11 (by decide) (fun c12 => ?_) (fun c12 => ?_)
  · have h := bb_f h c12
    refine lv_iconst (v := 0) hx hb dX7_weights_18 (by decide) ?_
    exact J19  p1 0 S10 h f H locs w hw hn hk ls (lv_sub hl [0, 1] rfl)
  · have h := bb_t h c12
    refine lv_iconst (v := 1) hx hb dX7_weights_14 (by decide) ?_
    refine lv_goto (tgt := 19) hx hb dX7_weights_15 (by decide) ?_
    exact J19  p1 1 S10 h f H locs w hw hn hk ls (lv_sub hl [0, 1] rfl)
theorem dX7_refill_0 : decode cX7_refill 0 = .ok (.aload_n 0, 1) := by decide +kernel
theorem dX7_refill_1 : decode cX7_refill 1 = .ok (.iconst 0, 1) := by decide +kernel
theorem dX7_refill_2 : decode cX7_refill 2 = .ok (.putfield 97, 3) := by decide +kernel
theorem dX7_refill_5 : decode cX7_refill 5 = .ok (.iconst 0, 1) := by decide +kernel
theorem dX7_refill_6 : decode cX7_refill 6 = .ok (.istore_n 1, 1) := by decide +kernel
theorem dX7_refill_7 : decode cX7_refill 7 = .ok (.iconst 0, 1) := by decide +kernel
theorem dX7_refill_8 : decode cX7_refill 8 = .ok (.istore_n 2, 1) := by decide +kernel
theorem dX7_refill_9 : decode cX7_refill 9 = .ok (.iload_n 2, 1) := by decide +kernel
theorem dX7_refill_10 : decode cX7_refill 10 = .ok (.bipush 64, 2) := by decide +kernel
theorem dX7_refill_12 : decode cX7_refill 12 = .ok (.if_icmp .ge 16, 3) := by decide +kernel
theorem dX7_refill_15 : decode cX7_refill 15 = .ok (.aload_n 0, 1) := by decide +kernel
theorem dX7_refill_16 : decode cX7_refill 16 = .ok (.getfield 55, 3) := by decide +kernel
theorem dX7_refill_19 : decode cX7_refill 19 = .ok (.iload_n 2, 1) := by decide +kernel
theorem dX7_refill_20 : decode cX7_refill 20 = .ok (.iconst 0, 1) := by decide +kernel
theorem dX7_refill_21 : decode cX7_refill 21 = .ok (.iastore, 1) := by decide +kernel
theorem dX7_refill_22 : decode cX7_refill 22 = .ok (.iinc 2 1, 3) := by decide +kernel
theorem dX7_refill_25 : decode cX7_refill 25 = .ok (.goto (-16), 3) := by decide +kernel
theorem dX7_refill_28 : decode cX7_refill 28 = .ok (.iconst 0, 1) := by decide +kernel
theorem dX7_refill_29 : decode cX7_refill 29 = .ok (.istore_n 2, 1) := by decide +kernel
theorem dX7_refill_30 : decode cX7_refill 30 = .ok (.iload_n 2, 1) := by decide +kernel
theorem dX7_refill_31 : decode cX7_refill 31 = .ok (.aload_n 0, 1) := by decide +kernel
theorem dX7_refill_32 : decode cX7_refill 32 = .ok (.getfield 256, 3) := by decide +kernel
theorem dX7_refill_35 : decode cX7_refill 35 = .ok (.if_icmp .ge 68, 3) := by decide +kernel
theorem dX7_refill_38 : decode cX7_refill 38 = .ok (.aload_n 0, 1) := by decide +kernel
theorem dX7_refill_39 : decode cX7_refill 39 = .ok (.getfield 45, 3) := by decide +kernel
theorem dX7_refill_42 : decode cX7_refill 42 = .ok (.iload_n 2, 1) := by decide +kernel
theorem dX7_refill_43 : decode cX7_refill 43 = .ok (.iaload, 1) := by decide +kernel
theorem dX7_refill_44 : decode cX7_refill 44 = .ok (.istore_n 3, 1) := by decide +kernel
theorem dX7_refill_45 : decode cX7_refill 45 = .ok (.aload_n 0, 1) := by decide +kernel
theorem dX7_refill_46 : decode cX7_refill 46 = .ok (.getfield 42, 3) := by decide +kernel
theorem dX7_refill_49 : decode cX7_refill 49 = .ok (.iload_n 2, 1) := by decide +kernel
theorem dX7_refill_50 : decode cX7_refill 50 = .ok (.iaload, 1) := by decide +kernel
theorem dX7_refill_51 : decode cX7_refill 51 = .ok (.aload_n 0, 1) := by decide +kernel
theorem dX7_refill_52 : decode cX7_refill 52 = .ok (.getfield 58, 3) := by decide +kernel
theorem dX7_refill_55 : decode cX7_refill 55 = .ok (.if_icmp .ne 13, 3) := by decide +kernel
theorem dX7_refill_58 : decode cX7_refill 58 = .ok (.aload_n 0, 1) := by decide +kernel
theorem dX7_refill_59 : decode cX7_refill 59 = .ok (.getfield 45, 3) := by decide +kernel
theorem dX7_refill_62 : decode cX7_refill 62 = .ok (.iload_n 2, 1) := by decide +kernel
theorem dX7_refill_63 : decode cX7_refill 63 = .ok (.iconst (-1), 1) := by decide +kernel
theorem dX7_refill_64 : decode cX7_refill 64 = .ok (.iastore, 1) := by decide +kernel
theorem dX7_refill_65 : decode cX7_refill 65 = .ok (.goto 14, 3) := by decide +kernel
theorem dX7_refill_68 : decode cX7_refill 68 = .ok (.aload_n 0, 1) := by decide +kernel
theorem dX7_refill_69 : decode cX7_refill 69 = .ok (.iload_n 2, 1) := by decide +kernel
theorem dX7_refill_70 : decode cX7_refill 70 = .ok (.aload_n 0, 1) := by decide +kernel
theorem dX7_refill_71 : decode cX7_refill 71 = .ok (.getfield 42, 3) := by decide +kernel
theorem dX7_refill_74 : decode cX7_refill 74 = .ok (.iload_n 2, 1) := by decide +kernel
theorem dX7_refill_75 : decode cX7_refill 75 = .ok (.iaload, 1) := by decide +kernel
theorem dX7_refill_76 : decode cX7_refill 76 = .ok (.invokevirtual 259, 3) := by decide +kernel
theorem dX7_refill_79 : decode cX7_refill 79 = .ok (.iload_n 1, 1) := by decide +kernel
theorem dX7_refill_80 : decode cX7_refill 80 = .ok (.aload_n 0, 1) := by decide +kernel
theorem dX7_refill_81 : decode cX7_refill 81 = .ok (.getfield 45, 3) := by decide +kernel
theorem dX7_refill_84 : decode cX7_refill 84 = .ok (.iload_n 2, 1) := by decide +kernel
theorem dX7_refill_85 : decode cX7_refill 85 = .ok (.iaload, 1) := by decide +kernel
theorem dX7_refill_86 : decode cX7_refill 86 = .ok (.iload_n 3, 1) := by decide +kernel
theorem dX7_refill_87 : decode cX7_refill 87 = .ok (.if_icmp .ne 7, 3) := by decide +kernel
theorem dX7_refill_90 : decode cX7_refill 90 = .ok (.iconst 0, 1) := by decide +kernel
theorem dX7_refill_91 : decode cX7_refill 91 = .ok (.goto 4, 3) := by decide +kernel
theorem dX7_refill_94 : decode cX7_refill 94 = .ok (.iconst 1, 1) := by decide +kernel
theorem dX7_refill_95 : decode cX7_refill 95 = .ok (.iadd, 1) := by decide +kernel
theorem dX7_refill_96 : decode cX7_refill 96 = .ok (.istore_n 1, 1) := by decide +kernel
theorem dX7_refill_97 : decode cX7_refill 97 = .ok (.iinc 2 1, 3) := by decide +kernel
theorem dX7_refill_100 : decode cX7_refill 100 = .ok (.goto (-70), 3) := by decide +kernel
theorem dX7_refill_103 : decode cX7_refill 103 = .ok (.aload_n 0, 1) := by decide +kernel
theorem dX7_refill_104 : decode cX7_refill 104 = .ok (.iconst 0, 1) := by decide +kernel
theorem dX7_refill_105 : decode cX7_refill 105 = .ok (.putfield 222, 3) := by decide +kernel
theorem dX7_refill_108 : decode cX7_refill 108 = .ok (.aload_n 0, 1) := by decide +kernel
theorem dX7_refill_109 : decode cX7_refill 109 = .ok (.iconst 0, 1) := by decide +kernel
theorem dX7_refill_110 : decode cX7_refill 110 = .ok (.putfield 225, 3) := by decide +kernel
theorem dX7_refill_113 : decode cX7_refill 113 = .ok (.aload_n 0, 1) := by decide +kernel
theorem dX7_refill_114 : decode cX7_refill 114 = .ok (.iconst 0, 1) := by decide +kernel
theorem dX7_refill_115 : decode cX7_refill 115 = .ok (.putfield 228, 3) := by decide +kernel
theorem dX7_refill_118 : decode cX7_refill 118 = .ok (.aload_n 0, 1) := by decide +kernel
theorem dX7_refill_119 : decode cX7_refill 119 = .ok (.iconst 0, 1) := by decide +kernel
theorem dX7_refill_120 : decode cX7_refill 120 = .ok (.putfield 231, 3) := by decide +kernel
theorem dX7_refill_123 : decode cX7_refill 123 = .ok (.aload_n 0, 1) := by decide +kernel
theorem dX7_refill_124 : decode cX7_refill 124 = .ok (.iconst 0, 1) := by decide +kernel
theorem dX7_refill_125 : decode cX7_refill 125 = .ok (.putfield 313, 3) := by decide +kernel
theorem dX7_refill_128 : decode cX7_refill 128 = .ok (.iload_n 1, 1) := by decide +kernel
theorem dX7_refill_129 : decode cX7_refill 129 = .ok (.ireturn, 1) := by decide +kernel
noncomputable def B_X7_refill_95 (k30 : (Int32 × Int32) → fS → Option (Int32 × fS)) (a2 : Int32) (t0 : Int32) (t1 : Int32) (S : fS) : Option (Int32 × fS) := iv (t1 + t0) (fun x1 => iv (a2 + Int32.ofInt 1) (fun x2 => k30 (x1, x2) S))
noncomputable def B_X7_refill_79 (k30 : (Int32 × Int32) → fS → Option (Int32 × fS)) (a1 : Int32) (a2 : Int32) (a3 : Int32) (S : fS) : Option (Int32 × fS) := gd (ib a2 24) (iv (ge S 50 0 (a2 : Int32).toNatClampNeg) (fun x4 => bb (x4 = a3) (B_X7_refill_95 k30 a2 0 a1 S) (B_X7_refill_95 k30 a2 1 a1 S)))
noncomputable def B_X7_refill_30 (k30 : (Int32 × Int32) → fS → Option (Int32 × fS)) : (Int32 × Int32) → fS → Option (Int32 × fS) := fun ⟨a1, a2⟩ S => iv (ge S 40 0 21) (fun x6 => bb (x6 ≤ a2) (sv (pu S 40 0 35 0) (fun S8 => sv (pu S8 40 0 36 0) (fun S9 => sv (pu S9 40 0 37 0) (fun S10 => sv (pu S10 40 0 38 0) (fun S11 => sv (pu S11 40 0 46 0) (fun S12 => some (a1, S12))))))) (gd (ib a2 24) (iv (ge S 50 0 (a2 : Int32).toNatClampNeg) (fun x14 => gd (ib a2 24) (iv (ge S 49 0 (a2 : Int32).toNatClampNeg) (fun x16 => iv (ge S 40 0 30) (fun x17 => bb (x16 = x17) (gd (ib a2 24) (sv (pu S 50 0 (a2 : Int32).toNatClampNeg (-1)) (fun S25 => B_X7_refill_79 k30 a1 a2 x14 S25))) (gd (ib a2 24) (iv (ge S 49 0 (a2 : Int32).toNatClampNeg) (fun x20 => bd (F_X7_puts a2 x20 S) (fun v21 S22 => B_X7_refill_79 k30 a1 a2 x14 S22)))))))))))
noncomputable def B_X7_refill_9 (k9 : (Int32 × Int32) → fS → Option (Int32 × fS)) : (Int32 × Int32) → fS → Option (Int32 × fS) := fun ⟨a1, a2⟩ S => bb ((64 : Int32) ≤ a2) (lp (B_X7_refill_30 ) fuel (a1, 0) S) (gd (ib a2 64) (sv (pu S 54 0 (a2 : Int32).toNatClampNeg 0) (fun S28 => iv (a2 + Int32.ofInt 1) (fun x29 => k9 (a1, x29) S28))))
noncomputable def F_X7_refill  (S0 : fS) : Option (Int32 × fS) := sv (pu S0 40 0 0 0) (fun S30 => lp (B_X7_refill_9 ) fuel (0, 0) S30)
set_option maxHeartbeats 4000000 in
set_option maxRecDepth 100000 in
theorem c_X7_refill (l : Launch) (D : va_G) (K : Nat → ClassId) (b0 : Nat) (sa : sT) (sz : Nat) (L : List Nat) (f0 : Nat → va_E) (ad : Nat → Nat → Nat) (P : Nat → Nat → Prop) {n : Nat × Nat} (hP : ∀ a i : Nat, isn n a i → P a i) (S0 : fS) (hw : PW K ad P S0 L f0) (hn : S0.2.2.1 = n)  (v : Int32) (S1 : fS) (h : F_X7_refill  S0 = some (v, S1)) : Met l yX7_refill (.code yX7_refill cX7_refill 4 (some .int) :: gt) { frames := 1, cells := 0, slots := 0, locals := 22 } (va_Pc [.ref (ad 40 0)] (hPre D K b0 sa sz L f0)) (hQ D K b0 (fun v9 u9 => ∃ f2 : Nat → va_E, v9 = some (.int v) ∧ u9 = lU L f2 ∧ PW K ad P S1 L f2 ∧ S1.2.2.1 = n ∧ Kp ad P L f0 f2)) 0 0 (fun q => b0 ≤ q) := by
  refine t_of (own := RX7) (by decide) rfl ?_ (Nat.le_of_ble_eq_true rfl)
  intro p e s m below meth c ls C w hsz hr hlk hnm hl
  have hx := C.1
  have hb := C.2.1
  have hl : lv_has ls 4 [(0, .ref (ad 40 0))] := hl
  have J95 : ∀ (k30 : (Int32 × Int32) → fS → Option (Int32 × fS)) (hk30 : ∀ (a1 : Int32) (a2 : Int32) (S : fS), k30 (a1, a2) S = some (v, S1) → Gw D K b0 sa ad P n L f0 p l e { frames := 1, cells := 0, slots := 0, locals := 22 } s m [.ref (ad 40 0)].toArray below meth c 4 (MQ below (hQ D K b0 (fun v9 u9 => ∃ f2 : Nat → va_E, v9 = some (.int v) ∧ u9 = lU L f2 ∧ PW K ad P S1 L f2 ∧ S1.2.2.1 = n ∧ Kp ad P L f0 f2)) [.ref (ad 40 0)].toArray s 0 0 (fun q => b0 ≤ q)) 0 0 30 [(0, .ref (ad 40 0)), (1, .int a1), (2, .int a2)] [] S) (a2 : Int32) (t0 : Int32) (t1 : Int32) (S : fS), B_X7_refill_95 k30 a2 t0 t1 S = some (v, S1) → Gw D K b0 sa ad P n L f0 p l e { frames := 1, cells := 0, slots := 0, locals := 22 } s m [.ref (ad 40 0)].toArray below meth c 4 (MQ below (hQ D K b0 (fun v9 u9 => ∃ f2 : Nat → va_E, v9 = some (.int v) ∧ u9 = lU L f2 ∧ PW K ad P S1 L f2 ∧ S1.2.2.1 = n ∧ Kp ad P L f0 f2)) [.ref (ad 40 0)].toArray s 0 0 (fun q => b0 ≤ q)) 0 0 95 [(0, .ref (ad 40 0)), (2, .int a2)] [.int t0, .int t1] S := by
    intro k30 hk30 a2 t0 t1 S h
    dsimp only [B_X7_refill_95] at h
    intro f H locs w hw hn hk ls hl
    refine lv_iadd hx hb dX7_refill_95 ?_
    refine u_iv h (fun x1 h => ?_)
    refine lv_istore_n (lv' := [(1, .int x1), (0, .ref (ad 40 0)), (2, .int a2)]) hx hb dX7_refill_96 rfl hl (by decide) rfl (fun ls hl => ?_)
    obtain ⟨x2, ex2, h⟩ := iv_some h
    refine lv_iinc (v := x2) (lv' := [(2, .int x2), (1, .int x1), (0, .ref (ad 40 0))]) hx hb dX7_refill_97 hl (k := 2) rfl ex2.symm (by decide) rfl (fun ls hl => ?_)
    refine lv_goto (tgt := 30) hx hb dX7_refill_100 (by decide) ?_
    exact hk30 x1 x2 S h f H locs w hw hn hk ls (lv_sub hl [2, 1, 0] rfl)
  have J79 : ∀ (k30 : (Int32 × Int32) → fS → Option (Int32 × fS)) (hk30 : ∀ (a1 : Int32) (a2 : Int32) (S : fS), k30 (a1, a2) S = some (v, S1) → Gw D K b0 sa ad P n L f0 p l e { frames := 1, cells := 0, slots := 0, locals := 22 } s m [.ref (ad 40 0)].toArray below meth c 4 (MQ below (hQ D K b0 (fun v9 u9 => ∃ f2 : Nat → va_E, v9 = some (.int v) ∧ u9 = lU L f2 ∧ PW K ad P S1 L f2 ∧ S1.2.2.1 = n ∧ Kp ad P L f0 f2)) [.ref (ad 40 0)].toArray s 0 0 (fun q => b0 ≤ q)) 0 0 30 [(0, .ref (ad 40 0)), (1, .int a1), (2, .int a2)] [] S) (a1 : Int32) (a2 : Int32) (a3 : Int32) (S : fS), B_X7_refill_79 k30 a1 a2 a3 S = some (v, S1) → Gw D K b0 sa ad P n L f0 p l e { frames := 1, cells := 0, slots := 0, locals := 22 } s m [.ref (ad 40 0)].toArray below meth c 4 (MQ below (hQ D K b0 (fun v9 u9 => ∃ f2 : Nat → va_E, v9 = some (.int v) ∧ u9 = lU L f2 ∧ PW K ad P S1 L f2 ∧ S1.2.2.1 = n ∧ Kp ad P L f0 f2)) [.ref (ad 40 0)].toArray s 0 0 (fun q => b0 ≤ q)) 0 0 79 [(0, .ref (ad 40 0)), (1, .int a1), (2, .int a2), (3, .int a3)] [] S := by
    intro k30 hk30 a1 a2 a3 S h
    dsimp only [B_X7_refill_79] at h
    intro f H locs w hw hn hk ls hl
    refine lv_iload_n hx hb dX7_refill_79 rfl (lv_at hl 1 rfl) ?_
    refine lv_aload_n hx hb dX7_refill_80 rfl (lv_at hl 0 rfl) ?_
    refine u_getr C w hw (hP _ _ (isn_f rfl rfl (by decide))) rfl (N := 57) rfl rfl cin_7 26 (by decide) (by decide) (a2 := 50) (i2 := 0) rfl gw_1182 dX7_refill_81 ?_
    refine lv_iload_n hx hb dX7_refill_84 rfl (lv_at hl 2 rfl) ?_
    obtain ⟨g3, h⟩ := gd_some h
    refine u_iald C w hw (hP _ _ (isn_f rfl rfl (by decide))) rfl rfl (n := 24) rfl (vp_in_iff.mpr g3) dX7_refill_85 ?_
    refine u_iv h (fun x4 h => ?_)
    refine lv_iload_n hx hb dX7_refill_86 rfl (lv_at hl 3 rfl) ?_
    refine lv_icmp_ne (tgt := 94) hx hb dX7_refill_87 (by decide) (fun c5 => ?_) (fun c5 => ?_)
    · have h := bb_f h c5
      refine lv_iconst (v := 1) hx hb dX7_refill_94 (by decide) ?_
      exact J95 k30 hk30 a2 1 a1 S h f H locs w hw hn hk ls (lv_sub hl [0, 2] rfl)
    · have h := bb_t h c5
      refine lv_iconst (v := 0) hx hb dX7_refill_90 (by decide) ?_
      refine lv_goto (tgt := 95) hx hb dX7_refill_91 (by decide) ?_
      exact J95 k30 hk30 a2 0 a1 S h f H locs w hw hn hk ls (lv_sub hl [0, 2] rfl)
  have J30 : ∀ (fu : Nat) (a1 : Int32) (a2 : Int32) (S : fS), lp (B_X7_refill_30 ) fu (a1, a2) S = some (v, S1) → Gw D K b0 sa ad P n L f0 p l e { frames := 1, cells := 0, slots := 0, locals := 22 } s m [.ref (ad 40 0)].toArray below meth c 4 (MQ below (hQ D K b0 (fun v9 u9 => ∃ f2 : Nat → va_E, v9 = some (.int v) ∧ u9 = lU L f2 ∧ PW K ad P S1 L f2 ∧ S1.2.2.1 = n ∧ Kp ad P L f0 f2)) [.ref (ad 40 0)].toArray s 0 0 (fun q => b0 ≤ q)) 0 0 30 [(0, .ref (ad 40 0)), (1, .int a1), (2, .int a2)] [] S := by
    intro fu a1 a2 S h
    refine lp_some (G := (fun q S => Gw D K b0 sa ad P n L f0 p l e { frames := 1, cells := 0, slots := 0, locals := 22 } s m [.ref (ad 40 0)].toArray below meth c 4 (MQ below (hQ D K b0 (fun v9 u9 => ∃ f2 : Nat → va_E, v9 = some (.int v) ∧ u9 = lU L f2 ∧ PW K ad P S1 L f2 ∧ S1.2.2.1 = n ∧ Kp ad P L f0 f2)) [.ref (ad 40 0)].toArray s 0 0 (fun q => b0 ≤ q)) 0 0 30 [(0, .ref (ad 40 0)), (1, .int q.1), (2, .int q.2)] [] S)) (fun k30 hk30 q S h => ?_) fu (a1, a2) S h
    obtain ⟨a1, a2⟩ := q
    have hk30 : ∀ (a1 : Int32) (a2 : Int32) (S : fS), k30 (a1, a2) S = some (v, S1) → Gw D K b0 sa ad P n L f0 p l e { frames := 1, cells := 0, slots := 0, locals := 22 } s m [.ref (ad 40 0)].toArray below meth c 4 (MQ below (hQ D K b0 (fun v9 u9 => ∃ f2 : Nat → va_E, v9 = some (.int v) ∧ u9 = lU L f2 ∧ PW K ad P S1 L f2 ∧ S1.2.2.1 = n ∧ Kp ad P L f0 f2)) [.ref (ad 40 0)].toArray s 0 0 (fun q => b0 ≤ q)) 0 0 30 [(0, .ref (ad 40 0)), (1, .int a1), (2, .int a2)] [] S := fun a1 a2 S h => hk30 (a1, a2) S h
    dsimp only [B_X7_refill_30] at h
    intro f H locs w hw hn hk ls hl
    refine lv_iload_n hx hb dX7_refill_30 rfl (lv_at hl 2 rfl) ?_
    refine lv_aload_n hx hb dX7_refill_31 rfl (lv_at hl 0 rfl) ?_
    refine u_geti C w hw (hP _ _ (isn_f rfl rfl (by decide))) rfl (N := 57) rfl rfl cin_7 21 (by decide) rfl gw_1177 dX7_refill_32 ?_
    refine u_iv h (fun x6 h => ?_)
    refine lv_icmp_ge (tgt := 103) hx hb dX7_refill_35 (by decide) (fun c7 => ?_) (fun c7 => ?_)
    · have h := bb_t h c7
      refine lv_aload_n hx hb dX7_refill_103 rfl (lv_at hl 0 rfl) ?_
      refine lv_iconst (v := 0) hx hb dX7_refill_104 (by decide) ?_
      refine u_puti C w hw (hP _ _ (isn_f rfl rfl (by decide))) rfl (N := 57) rfl rfl cin_7 tyX7 tyX7_ok nmX7 35 (by decide) rfl rfl rfl rfl gw_1191 dX7_refill_105 (fun f H locs w hw hk1 => ?_)
      have hk := hk.tr hk1
      refine u_sv h hw hn (fun S8 h hw hn => ?_)
      refine lv_aload_n hx hb dX7_refill_108 rfl (lv_at hl 0 rfl) ?_
      refine lv_iconst (v := 0) hx hb dX7_refill_109 (by decide) ?_
      refine u_puti C w hw (hP _ _ (isn_f rfl rfl (by decide))) rfl (N := 57) rfl rfl cin_7 tyX7 tyX7_ok nmX7 36 (by decide) rfl rfl rfl rfl gw_1192 dX7_refill_110 (fun f H locs w hw hk1 => ?_)
      have hk := hk.tr hk1
      refine u_sv h hw hn (fun S9 h hw hn => ?_)
      refine lv_aload_n hx hb dX7_refill_113 rfl (lv_at hl 0 rfl) ?_
      refine lv_iconst (v := 0) hx hb dX7_refill_114 (by decide) ?_
      refine u_puti C w hw (hP _ _ (isn_f rfl rfl (by decide))) rfl (N := 57) rfl rfl cin_7 tyX7 tyX7_ok nmX7 37 (by decide) rfl rfl rfl rfl gw_1193 dX7_refill_115 (fun f H locs w hw hk1 => ?_)
      have hk := hk.tr hk1
      refine u_sv h hw hn (fun S10 h hw hn => ?_)
      refine lv_aload_n hx hb dX7_refill_118 rfl (lv_at hl 0 rfl) ?_
      refine lv_iconst (v := 0) hx hb dX7_refill_119 (by decide) ?_
      refine u_puti C w hw (hP _ _ (isn_f rfl rfl (by decide))) rfl (N := 57) rfl rfl cin_7 tyX7 tyX7_ok nmX7 38 (by decide) rfl rfl rfl rfl gw_1194 dX7_refill_120 (fun f H locs w hw hk1 => ?_)
      have hk := hk.tr hk1
      refine u_sv h hw hn (fun S11 h hw hn => ?_)
      refine lv_aload_n hx hb dX7_refill_123 rfl (lv_at hl 0 rfl) ?_
      refine lv_iconst (v := 0) hx hb dX7_refill_124 (by decide) ?_
      refine u_puti C w hw (hP _ _ (isn_f rfl rfl (by decide))) rfl (N := 57) rfl rfl cin_7 tyX7 tyX7_ok nmX7 46 (by decide) rfl rfl rfl rfl gw_1202 dX7_refill_125 (fun f H locs w hw hk1 => ?_)
      have hk := hk.tr hk1
      refine u_sv h hw hn (fun S12 h hw hn => ?_)
      refine lv_iload_n hx hb dX7_refill_128 rfl (lv_at hl 1 rfl) ?_
      exact t_iret C hr hlk w ⟨_, so_v h, rfl, so_w h hw, so_n h hn, hk⟩ (by decide) (by decide) dX7_refill_129
    · have h := bb_f h c7
      refine lv_aload_n hx hb dX7_refill_38 rfl (lv_at hl 0 rfl) ?_
      refine u_getr C w hw (hP _ _ (isn_f rfl rfl (by decide))) rfl (N := 57) rfl rfl cin_7 26 (by decide) (by decide) (a2 := 50) (i2 := 0) rfl gw_1182 dX7_refill_39 ?_
      refine lv_iload_n hx hb dX7_refill_42 rfl (lv_at hl 2 rfl) ?_
      obtain ⟨g13, h⟩ := gd_some h
      refine u_iald C w hw (hP _ _ (isn_f rfl rfl (by decide))) rfl rfl (n := 24) rfl (vp_in_iff.mpr g13) dX7_refill_43 ?_
      refine u_iv h (fun x14 h => ?_)
      refine lv_istore_n (lv' := [(3, .int x14), (0, .ref (ad 40 0)), (1, .int a1), (2, .int a2)]) hx hb dX7_refill_44 rfl hl (by decide) rfl (fun ls hl => ?_)
      refine lv_aload_n hx hb dX7_refill_45 rfl (lv_at hl 1 rfl) ?_
      refine u_getr C w hw (hP _ _ (isn_f rfl rfl (by decide))) rfl (N := 57) rfl rfl cin_7 25 (by decide) (by decide) (a2 := 49) (i2 := 0) rfl gw_1181 dX7_refill_46 ?_
      refine lv_iload_n hx hb dX7_refill_49 rfl (lv_at hl 3 rfl) ?_
      obtain ⟨g15, h⟩ := gd_some h
      refine u_iald C w hw (hP _ _ (isn_f rfl rfl (by decide))) rfl rfl (n := 24) rfl (vp_in_iff.mpr g15) dX7_refill_50 ?_
      refine u_iv h (fun x16 h => ?_)
      refine lv_aload_n hx hb dX7_refill_51 rfl (lv_at hl 1 rfl) ?_
      refine u_geti C w hw (hP _ _ (isn_f rfl rfl (by decide))) rfl (N := 57) rfl rfl cin_7 30 (by decide) rfl gw_1186 dX7_refill_52 ?_
      refine u_iv h (fun x17 h => ?_)
      refine lv_icmp_ne (tgt := 68) hx hb dX7_refill_55 (by decide) (fun c18 => ?_) (fun c18 => ?_)
      · have h := bb_f h c18
        refine lv_aload_n hx hb dX7_refill_68 rfl (lv_at hl 1 rfl) ?_
        refine lv_iload_n hx hb dX7_refill_69 rfl (lv_at hl 3 rfl) ?_
        refine lv_aload_n hx hb dX7_refill_70 rfl (lv_at hl 1 rfl) ?_
        refine u_getr C w hw (hP _ _ (isn_f rfl rfl (by decide))) rfl (N := 57) rfl rfl cin_7 25 (by decide) (by decide) (a2 := 49) (i2 := 0) rfl gw_1181 dX7_refill_71 ?_
        refine lv_iload_n hx hb dX7_refill_74 rfl (lv_at hl 3 rfl) ?_
        obtain ⟨g19, h⟩ := gd_some h
        refine u_iald C w hw (hP _ _ (isn_f rfl rfl (by decide))) rfl rfl (n := 24) rfl (vp_in_iff.mpr g19) dX7_refill_75 ?_
        refine u_iv h (fun x20 h => ?_)
        obtain ⟨v21, S22, h23, h⟩ := bd_some h
        refine u_callV (n := 2) C w hw (hP _ _ (isn_f rfl rfl (by decide))) rfl rfl rfl (c_X7_puts l D K b0 sa _ L _ ad P hP S hw hn a2 x20 v21 S22 h23) gw_1471 gw_1468 gw_1470 gs_46 gw_8 ⟨by decide, by decide, by decide +kernel⟩ rfl rfl ⟨by decide, by decide⟩ rfl hl.1 rfl (Nat.le_of_ble_eq_true rfl) dX7_refill_76 ⟨Nat.le_of_ble_eq_true rfl, Nat.le_of_ble_eq_true rfl⟩ (fun v9 u H locs hp w => ?_)
        obtain ⟨f2, rfl, rfl, hw, hn, hk1⟩ := hp
        have hk := hk.tr hk1
        generalize f2 = f at w hw hk
        exact J79 k30 hk30 a1 a2 x14 S22 h f H locs w hw hn hk ls (lv_sub hl [1, 2, 3, 0] rfl)
      · have h := bb_t h c18
        refine lv_aload_n hx hb dX7_refill_58 rfl (lv_at hl 1 rfl) ?_
        refine u_getr C w hw (hP _ _ (isn_f rfl rfl (by decide))) rfl (N := 57) rfl rfl cin_7 26 (by decide) (by decide) (a2 := 50) (i2 := 0) rfl gw_1182 dX7_refill_59 ?_
        refine lv_iload_n hx hb dX7_refill_62 rfl (lv_at hl 3 rfl) ?_
        refine lv_iconst (v := (-1)) hx hb dX7_refill_63 (by decide) ?_
        obtain ⟨g24, h⟩ := gd_some h
        refine u_iast C w hw (hP _ _ (isn_f rfl rfl (by decide))) rfl rfl (n := 24) rfl (vp_in_iff.mpr g24) dX7_refill_64 (fun f H locs w hw hk1 => ?_)
        have hk := hk.tr hk1
        refine u_sv h hw hn (fun S25 h hw hn => ?_)
        refine lv_goto (tgt := 79) hx hb dX7_refill_65 (by decide) ?_
        exact J79 k30 hk30 a1 a2 x14 S25 h f H locs w hw hn hk ls (lv_sub hl [1, 2, 3, 0] rfl)
  have J9 : ∀ (fu : Nat) (a1 : Int32) (a2 : Int32) (S : fS), lp (B_X7_refill_9 ) fu (a1, a2) S = some (v, S1) → Gw D K b0 sa ad P n L f0 p l e { frames := 1, cells := 0, slots := 0, locals := 22 } s m [.ref (ad 40 0)].toArray below meth c 4 (MQ below (hQ D K b0 (fun v9 u9 => ∃ f2 : Nat → va_E, v9 = some (.int v) ∧ u9 = lU L f2 ∧ PW K ad P S1 L f2 ∧ S1.2.2.1 = n ∧ Kp ad P L f0 f2)) [.ref (ad 40 0)].toArray s 0 0 (fun q => b0 ≤ q)) 0 0 9 [(0, .ref (ad 40 0)), (1, .int a1), (2, .int a2)] [] S := by
    intro fu a1 a2 S h
    refine lp_some (G := (fun q S => Gw D K b0 sa ad P n L f0 p l e { frames := 1, cells := 0, slots := 0, locals := 22 } s m [.ref (ad 40 0)].toArray below meth c 4 (MQ below (hQ D K b0 (fun v9 u9 => ∃ f2 : Nat → va_E, v9 = some (.int v) ∧ u9 = lU L f2 ∧ PW K ad P S1 L f2 ∧ S1.2.2.1 = n ∧ Kp ad P L f0 f2)) [.ref (ad 40 0)].toArray s 0 0 (fun q => b0 ≤ q)) 0 0 9 [(0, .ref (ad 40 0)), (1, .int q.1), (2, .int q.2)] [] S)) (fun k9 hk9 q S h => ?_) fu (a1, a2) S h
    obtain ⟨a1, a2⟩ := q
    have hk9 : ∀ (a1 : Int32) (a2 : Int32) (S : fS), k9 (a1, a2) S = some (v, S1) → Gw D K b0 sa ad P n L f0 p l e { frames := 1, cells := 0, slots := 0, locals := 22 } s m [.ref (ad 40 0)].toArray below meth c 4 (MQ below (hQ D K b0 (fun v9 u9 => ∃ f2 : Nat → va_E, v9 = some (.int v) ∧ u9 = lU L f2 ∧ PW K ad P S1 L f2 ∧ S1.2.2.1 = n ∧ Kp ad P L f0 f2)) [.ref (ad 40 0)].toArray s 0 0 (fun q => b0 ≤ q)) 0 0 9 [(0, .ref (ad 40 0)), (1, .int a1), (2, .int a2)] [] S := fun a1 a2 S h => hk9 (a1, a2) S h
    dsimp only [B_X7_refill_9] at h
    intro f H locs w hw hn hk ls hl
    refine lv_iload_n hx hb dX7_refill_9 rfl (lv_at hl 2 rfl) ?_
    refine lv_bipush (v := 64) hx hb dX7_refill_10 (by decide) ?_
    refine lv_icmp_ge (tgt := 28) hx hb dX7_refill_12 (by decide) (fun c26 => ?_) (fun c26 => ?_)
    · have h := bb_t h c26
      refine lv_iconst (v := 0) hx hb dX7_refill_28 (by decide) ?_
      refine lv_istore_n (lv' := [(2, .int 0), (0, .ref (ad 40 0)), (1, .int a1)]) hx hb dX7_refill_29 rfl hl (by decide) rfl (fun ls hl => ?_)
      exact J30  fuel a1 0 S h f H locs w hw hn hk ls (lv_sub hl [1, 2, 0] rfl)
    · have h := bb_f h c26
      refine lv_aload_n hx hb dX7_refill_15 rfl (lv_at hl 0 rfl) ?_
      refine u_getr C w hw (hP _ _ (isn_f rfl rfl (by decide))) rfl (N := 57) rfl rfl cin_7 29 (by decide) (by decide) (a2 := 54) (i2 := 0) rfl gw_1185 dX7_refill_16 ?_
      refine lv_iload_n hx hb dX7_refill_19 rfl (lv_at hl 2 rfl) ?_
      refine lv_iconst (v := 0) hx hb dX7_refill_20 (by decide) ?_
      obtain ⟨g27, h⟩ := gd_some h
      refine u_iast C w hw (hP _ _ (isn_f rfl rfl (by decide))) rfl rfl (n := 64) rfl (vp_in_iff.mpr g27) dX7_refill_21 (fun f H locs w hw hk1 => ?_)
      have hk := hk.tr hk1
      refine u_sv h hw hn (fun S28 h hw hn => ?_)
      obtain ⟨x29, ex29, h⟩ := iv_some h
      refine lv_iinc (v := x29) (lv' := [(2, .int x29), (0, .ref (ad 40 0)), (1, .int a1)]) hx hb dX7_refill_22 hl (k := 2) rfl ex29.symm (by decide) rfl (fun ls hl => ?_)
      refine lv_goto (tgt := 9) hx hb dX7_refill_25 (by decide) ?_
      exact hk9 a1 x29 S28 h f H locs w hw hn hk ls (lv_sub hl [1, 2, 0] rfl)
  dsimp only [F_X7_refill] at h
  obtain ⟨f, ef⟩ : ∃ z, z = f0 := ⟨_, rfl⟩
  rw [← ef] at w hw
  have hk : Kp ad P L f0 f := by rw [ef]; exact Kp.rf
  obtain ⟨H, eH⟩ : ∃ z, z = s.heap := ⟨_, rfl⟩
  obtain ⟨locs, el⟩ : ∃ z : List Loc, z = [] := ⟨_, rfl⟩
  rw [← eH, ← el] at w ⊢
  refine lv_aload_n hx hb dX7_refill_0 rfl (lv_at hl 0 rfl) ?_
  refine lv_iconst (v := 0) hx hb dX7_refill_1 (by decide) ?_
  refine u_puti C w hw (hP _ _ (isn_f rfl rfl (by decide))) rfl (N := 57) rfl rfl cin_7 tyX7 tyX7_ok nmX7 0 (by decide) rfl rfl rfl rfl gw_1156 dX7_refill_2 (fun f H locs w hw hk1 => ?_)
  have hk := hk.tr hk1
  refine u_sv h hw hn (fun S30 h hw hn => ?_)
  refine lv_iconst (v := 0) hx hb dX7_refill_5 (by decide) ?_
  refine lv_istore_n (lv' := [(1, .int 0), (0, .ref (ad 40 0))]) hx hb dX7_refill_6 rfl hl (by decide) rfl (fun ls hl => ?_)
  refine lv_iconst (v := 0) hx hb dX7_refill_7 (by decide) ?_
  refine lv_istore_n (lv' := [(2, .int 0), (1, .int 0), (0, .ref (ad 40 0))]) hx hb dX7_refill_8 rfl hl (by decide) rfl (fun ls hl => ?_)
  exact J9  fuel 0 0 S30 h f H locs w hw hn hk ls (lv_sub hl [2, 1, 0] rfl)
