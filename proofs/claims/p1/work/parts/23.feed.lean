theorem dX6_writeBytes_0 : decode cX6_writeBytes 0 = .ok (.bipush 24, 2) := by decide +kernel
theorem dX6_writeBytes_2 : decode cX6_writeBytes 2 = .ok (.istore_n 2, 1) := by decide +kernel
theorem dX6_writeBytes_3 : decode cX6_writeBytes 3 = .ok (.iload_n 2, 1) := by decide +kernel
theorem dX6_writeBytes_4 : decode cX6_writeBytes 4 = .ok (.ifCond .lt 45, 3) := by decide +kernel
theorem dX6_writeBytes_7 : decode cX6_writeBytes 7 = .ok (.aload_n 0, 1) := by decide +kernel
theorem dX6_writeBytes_8 : decode cX6_writeBytes 8 = .ok (.getfield 52, 3) := by decide +kernel
theorem dX6_writeBytes_11 : decode cX6_writeBytes 11 = .ok (.sipush 300, 3) := by decide +kernel
theorem dX6_writeBytes_14 : decode cX6_writeBytes 14 = .ok (.if_icmp .ge 29, 3) := by decide +kernel
theorem dX6_writeBytes_17 : decode cX6_writeBytes 17 = .ok (.aload_n 0, 1) := by decide +kernel
theorem dX6_writeBytes_18 : decode cX6_writeBytes 18 = .ok (.getfield 49, 3) := by decide +kernel
theorem dX6_writeBytes_21 : decode cX6_writeBytes 21 = .ok (.aload_n 0, 1) := by decide +kernel
theorem dX6_writeBytes_22 : decode cX6_writeBytes 22 = .ok (.getfield 52, 3) := by decide +kernel
theorem dX6_writeBytes_25 : decode cX6_writeBytes 25 = .ok (.iload_n 1, 1) := by decide +kernel
theorem dX6_writeBytes_26 : decode cX6_writeBytes 26 = .ok (.iload_n 2, 1) := by decide +kernel
theorem dX6_writeBytes_27 : decode cX6_writeBytes 27 = .ok (.iushr, 1) := by decide +kernel
theorem dX6_writeBytes_28 : decode cX6_writeBytes 28 = .ok (.sipush 255, 3) := by decide +kernel
theorem dX6_writeBytes_31 : decode cX6_writeBytes 31 = .ok (.iand, 1) := by decide +kernel
theorem dX6_writeBytes_32 : decode cX6_writeBytes 32 = .ok (.iastore, 1) := by decide +kernel
theorem dX6_writeBytes_33 : decode cX6_writeBytes 33 = .ok (.aload_n 0, 1) := by decide +kernel
theorem dX6_writeBytes_34 : decode cX6_writeBytes 34 = .ok (.dup, 1) := by decide +kernel
theorem dX6_writeBytes_35 : decode cX6_writeBytes 35 = .ok (.getfield 52, 3) := by decide +kernel
theorem dX6_writeBytes_38 : decode cX6_writeBytes 38 = .ok (.iconst 1, 1) := by decide +kernel
theorem dX6_writeBytes_39 : decode cX6_writeBytes 39 = .ok (.iadd, 1) := by decide +kernel
theorem dX6_writeBytes_40 : decode cX6_writeBytes 40 = .ok (.putfield 52, 3) := by decide +kernel
theorem dX6_writeBytes_43 : decode cX6_writeBytes 43 = .ok (.iinc 2 (-8), 3) := by decide +kernel
theorem dX6_writeBytes_46 : decode cX6_writeBytes 46 = .ok (.goto (-43), 3) := by decide +kernel
theorem dX6_writeBytes_49 : decode cX6_writeBytes 49 = .ok (.return_, 1) := by decide +kernel
theorem dX6_feed_0 : decode cX6_feed 0 = .ok (.aload_n 0, 1) := by decide +kernel
theorem dX6_feed_1 : decode cX6_feed 1 = .ok (.getfield 52, 3) := by decide +kernel
theorem dX6_feed_4 : decode cX6_feed 4 = .ok (.bipush 20, 2) := by decide +kernel
theorem dX6_feed_6 : decode cX6_feed 6 = .ok (.iadd, 1) := by decide +kernel
theorem dX6_feed_7 : decode cX6_feed 7 = .ok (.sipush 300, 3) := by decide +kernel
theorem dX6_feed_10 : decode cX6_feed 10 = .ok (.if_icmp .le 5, 3) := by decide +kernel
theorem dX6_feed_13 : decode cX6_feed 13 = .ok (.iconst (-1), 1) := by decide +kernel
theorem dX6_feed_14 : decode cX6_feed 14 = .ok (.ireturn, 1) := by decide +kernel
theorem dX6_feed_15 : decode cX6_feed 15 = .ok (.aload_n 0, 1) := by decide +kernel
theorem dX6_feed_16 : decode cX6_feed 16 = .ok (.iload_n 1, 1) := by decide +kernel
theorem dX6_feed_17 : decode cX6_feed 17 = .ok (.invokevirtual 154, 3) := by decide +kernel
theorem dX6_feed_20 : decode cX6_feed 20 = .ok (.aload_n 0, 1) := by decide +kernel
theorem dX6_feed_21 : decode cX6_feed 21 = .ok (.iload_n 2, 1) := by decide +kernel
theorem dX6_feed_22 : decode cX6_feed 22 = .ok (.invokevirtual 154, 3) := by decide +kernel
theorem dX6_feed_25 : decode cX6_feed 25 = .ok (.aload_n 0, 1) := by decide +kernel
theorem dX6_feed_26 : decode cX6_feed 26 = .ok (.iload_n 3, 1) := by decide +kernel
theorem dX6_feed_27 : decode cX6_feed 27 = .ok (.invokevirtual 154, 3) := by decide +kernel
theorem dX6_feed_30 : decode cX6_feed 30 = .ok (.aload_n 0, 1) := by decide +kernel
theorem dX6_feed_31 : decode cX6_feed 31 = .ok (.iload 4, 2) := by decide +kernel
theorem dX6_feed_33 : decode cX6_feed 33 = .ok (.invokevirtual 154, 3) := by decide +kernel
theorem dX6_feed_36 : decode cX6_feed 36 = .ok (.aload_n 0, 1) := by decide +kernel
theorem dX6_feed_37 : decode cX6_feed 37 = .ok (.iload 5, 2) := by decide +kernel
theorem dX6_feed_39 : decode cX6_feed 39 = .ok (.invokevirtual 154, 3) := by decide +kernel
theorem dX6_feed_42 : decode cX6_feed 42 = .ok (.aload_n 0, 1) := by decide +kernel
theorem dX6_feed_43 : decode cX6_feed 43 = .ok (.getfield 52, 3) := by decide +kernel
theorem dX6_feed_46 : decode cX6_feed 46 = .ok (.ireturn, 1) := by decide +kernel
theorem dX6_hand_0 : decode cX6_hand 0 = .ok (.iload_n 1, 1) := by decide +kernel
theorem dX6_hand_1 : decode cX6_hand 1 = .ok (.iconst 1, 1) := by decide +kernel
theorem dX6_hand_2 : decode cX6_hand 2 = .ok (.ldc 212, 2) := by decide +kernel
theorem dX6_hand_4 : decode cX6_hand 4 = .ok (.invokestatic 92, 3) := by decide +kernel
theorem dX6_hand_7 : decode cX6_hand 7 = .ok (.invokestatic 96, 3) := by decide +kernel
theorem dX6_hand_10 : decode cX6_hand 10 = .ok (.aload_n 0, 1) := by decide +kernel
theorem dX6_hand_11 : decode cX6_hand 11 = .ok (.getfield 46, 3) := by decide +kernel
theorem dX6_hand_14 : decode cX6_hand 14 = .ok (.bipush 6, 2) := by decide +kernel
theorem dX6_hand_16 : decode cX6_hand 16 = .ok (.if_icmp .lt 5, 3) := by decide +kernel
theorem dX6_hand_19 : decode cX6_hand 19 = .ok (.iconst (-1), 1) := by decide +kernel
theorem dX6_hand_20 : decode cX6_hand 20 = .ok (.ireturn, 1) := by decide +kernel
theorem dX6_hand_21 : decode cX6_hand 21 = .ok (.aload_n 0, 1) := by decide +kernel
theorem dX6_hand_22 : decode cX6_hand 22 = .ok (.getfield 42, 3) := by decide +kernel
theorem dX6_hand_25 : decode cX6_hand 25 = .ok (.aload_n 0, 1) := by decide +kernel
theorem dX6_hand_26 : decode cX6_hand 26 = .ok (.getfield 46, 3) := by decide +kernel
theorem dX6_hand_29 : decode cX6_hand 29 = .ok (.iload_n 1, 1) := by decide +kernel
theorem dX6_hand_30 : decode cX6_hand 30 = .ok (.iastore, 1) := by decide +kernel
theorem dX6_hand_31 : decode cX6_hand 31 = .ok (.aload_n 0, 1) := by decide +kernel
theorem dX6_hand_32 : decode cX6_hand 32 = .ok (.dup, 1) := by decide +kernel
theorem dX6_hand_33 : decode cX6_hand 33 = .ok (.getfield 46, 3) := by decide +kernel
theorem dX6_hand_36 : decode cX6_hand 36 = .ok (.iconst 1, 1) := by decide +kernel
theorem dX6_hand_37 : decode cX6_hand 37 = .ok (.iadd, 1) := by decide +kernel
theorem dX6_hand_38 : decode cX6_hand 38 = .ok (.putfield 46, 3) := by decide +kernel
theorem dX6_hand_41 : decode cX6_hand 41 = .ok (.aload_n 0, 1) := by decide +kernel
theorem dX6_hand_42 : decode cX6_hand 42 = .ok (.getfield 46, 3) := by decide +kernel
theorem dX6_hand_45 : decode cX6_hand 45 = .ok (.iconst 1, 1) := by decide +kernel
theorem dX6_hand_46 : decode cX6_hand 46 = .ok (.isub, 1) := by decide +kernel
theorem dX6_hand_47 : decode cX6_hand 47 = .ok (.ireturn, 1) := by decide +kernel
theorem dX6_image_0 : decode cX6_image 0 = .ok (.aload_n 0, 1) := by decide +kernel
theorem dX6_image_1 : decode cX6_image 1 = .ok (.getfield 23, 3) := by decide +kernel
theorem dX6_image_4 : decode cX6_image 4 = .ok (.iconst 3, 1) := by decide +kernel
theorem dX6_image_5 : decode cX6_image 5 = .ok (.if_icmp .lt 5, 3) := by decide +kernel
theorem dX6_image_8 : decode cX6_image 8 = .ok (.iconst (-1), 1) := by decide +kernel
theorem dX6_image_9 : decode cX6_image 9 = .ok (.ireturn, 1) := by decide +kernel
theorem dX6_image_10 : decode cX6_image 10 = .ok (.aload_n 0, 1) := by decide +kernel
theorem dX6_image_11 : decode cX6_image 11 = .ok (.getfield 19, 3) := by decide +kernel
theorem dX6_image_14 : decode cX6_image 14 = .ok (.aload_n 0, 1) := by decide +kernel
theorem dX6_image_15 : decode cX6_image 15 = .ok (.getfield 23, 3) := by decide +kernel
theorem dX6_image_18 : decode cX6_image 18 = .ok (.aaload, 1) := by decide +kernel
theorem dX6_image_19 : decode cX6_image 19 = .ok (.aload_n 0, 1) := by decide +kernel
theorem dX6_image_20 : decode cX6_image 20 = .ok (.getfield 10, 3) := by decide +kernel
theorem dX6_image_23 : decode cX6_image 23 = .ok (.invokevirtual 266, 3) := by decide +kernel
theorem dX6_image_26 : decode cX6_image 26 = .ok (.aload_n 0, 1) := by decide +kernel
theorem dX6_image_27 : decode cX6_image 27 = .ok (.dup, 1) := by decide +kernel
theorem dX6_image_28 : decode cX6_image 28 = .ok (.getfield 23, 3) := by decide +kernel
theorem dX6_image_31 : decode cX6_image 31 = .ok (.iconst 1, 1) := by decide +kernel
theorem dX6_image_32 : decode cX6_image 32 = .ok (.iadd, 1) := by decide +kernel
theorem dX6_image_33 : decode cX6_image 33 = .ok (.putfield 23, 3) := by decide +kernel
theorem dX6_image_36 : decode cX6_image 36 = .ok (.aload_n 0, 1) := by decide +kernel
theorem dX6_image_37 : decode cX6_image 37 = .ok (.getfield 23, 3) := by decide +kernel
theorem dX6_image_40 : decode cX6_image 40 = .ok (.ireturn, 1) := by decide +kernel
theorem dX2_layAgain_0 : decode cX2_layAgain 0 = .ok (.iconst 0, 1) := by decide +kernel
theorem dX2_layAgain_1 : decode cX2_layAgain 1 = .ok (.istore_n 2, 1) := by decide +kernel
theorem dX2_layAgain_2 : decode cX2_layAgain 2 = .ok (.aload_n 0, 1) := by decide +kernel
theorem dX2_layAgain_3 : decode cX2_layAgain 3 = .ok (.getfield 37, 3) := by decide +kernel
theorem dX2_layAgain_6 : decode cX2_layAgain 6 = .ok (.iconst (-1), 1) := by decide +kernel
theorem dX2_layAgain_7 : decode cX2_layAgain 7 = .ok (.invokestatic 40, 3) := by decide +kernel
theorem dX2_layAgain_10 : decode cX2_layAgain 10 = .ok (.iconst 0, 1) := by decide +kernel
theorem dX2_layAgain_11 : decode cX2_layAgain 11 = .ok (.istore_n 3, 1) := by decide +kernel
theorem dX2_layAgain_12 : decode cX2_layAgain 12 = .ok (.iload_n 3, 1) := by decide +kernel
theorem dX2_layAgain_13 : decode cX2_layAgain 13 = .ok (.aload_n 0, 1) := by decide +kernel
theorem dX2_layAgain_14 : decode cX2_layAgain 14 = .ok (.getfield 9, 3) := by decide +kernel
theorem dX2_layAgain_17 : decode cX2_layAgain 17 = .ok (.if_icmp .ge 74, 3) := by decide +kernel
theorem dX2_layAgain_20 : decode cX2_layAgain 20 = .ok (.aload_n 0, 1) := by decide +kernel
theorem dX2_layAgain_21 : decode cX2_layAgain 21 = .ok (.getfield 31, 3) := by decide +kernel
theorem dX2_layAgain_24 : decode cX2_layAgain 24 = .ok (.iload_n 3, 1) := by decide +kernel
theorem dX2_layAgain_25 : decode cX2_layAgain 25 = .ok (.iaload, 1) := by decide +kernel
theorem dX2_layAgain_26 : decode cX2_layAgain 26 = .ok (.istore 4, 2) := by decide +kernel
theorem dX2_layAgain_28 : decode cX2_layAgain 28 = .ok (.aload_n 0, 1) := by decide +kernel
theorem dX2_layAgain_29 : decode cX2_layAgain 29 = .ok (.getfield 28, 3) := by decide +kernel
theorem dX2_layAgain_32 : decode cX2_layAgain 32 = .ok (.iload_n 3, 1) := by decide +kernel
theorem dX2_layAgain_33 : decode cX2_layAgain 33 = .ok (.iaload, 1) := by decide +kernel
theorem dX2_layAgain_34 : decode cX2_layAgain 34 = .ok (.iload_n 1, 1) := by decide +kernel
theorem dX2_layAgain_35 : decode cX2_layAgain 35 = .ok (.if_icmp .ne 20, 3) := by decide +kernel
theorem dX2_layAgain_38 : decode cX2_layAgain 38 = .ok (.aload_n 0, 1) := by decide +kernel
theorem dX2_layAgain_39 : decode cX2_layAgain 39 = .ok (.getfield 31, 3) := by decide +kernel
theorem dX2_layAgain_42 : decode cX2_layAgain 42 = .ok (.iload_n 3, 1) := by decide +kernel
theorem dX2_layAgain_43 : decode cX2_layAgain 43 = .ok (.iconst (-1), 1) := by decide +kernel
theorem dX2_layAgain_44 : decode cX2_layAgain 44 = .ok (.iastore, 1) := by decide +kernel
theorem dX2_layAgain_45 : decode cX2_layAgain 45 = .ok (.aload_n 0, 1) := by decide +kernel
theorem dX2_layAgain_46 : decode cX2_layAgain 46 = .ok (.getfield 34, 3) := by decide +kernel
theorem dX2_layAgain_49 : decode cX2_layAgain 49 = .ok (.iload_n 3, 1) := by decide +kernel
theorem dX2_layAgain_50 : decode cX2_layAgain 50 = .ok (.iconst (-1), 1) := by decide +kernel
theorem dX2_layAgain_51 : decode cX2_layAgain 51 = .ok (.iastore, 1) := by decide +kernel
theorem dX2_layAgain_52 : decode cX2_layAgain 52 = .ok (.goto 14, 3) := by decide +kernel
theorem dX2_layAgain_55 : decode cX2_layAgain 55 = .ok (.aload_n 0, 1) := by decide +kernel
theorem dX2_layAgain_56 : decode cX2_layAgain 56 = .ok (.iload_n 3, 1) := by decide +kernel
theorem dX2_layAgain_57 : decode cX2_layAgain 57 = .ok (.aload_n 0, 1) := by decide +kernel
theorem dX2_layAgain_58 : decode cX2_layAgain 58 = .ok (.getfield 28, 3) := by decide +kernel
theorem dX2_layAgain_61 : decode cX2_layAgain 61 = .ok (.iload_n 3, 1) := by decide +kernel
theorem dX2_layAgain_62 : decode cX2_layAgain 62 = .ok (.iaload, 1) := by decide +kernel
theorem dX2_layAgain_63 : decode cX2_layAgain 63 = .ok (.invokevirtual 46, 3) := by decide +kernel
theorem dX2_layAgain_66 : decode cX2_layAgain 66 = .ok (.iload_n 2, 1) := by decide +kernel
theorem dX2_layAgain_67 : decode cX2_layAgain 67 = .ok (.aload_n 0, 1) := by decide +kernel
theorem dX2_layAgain_68 : decode cX2_layAgain 68 = .ok (.getfield 31, 3) := by decide +kernel
theorem dX2_layAgain_71 : decode cX2_layAgain 71 = .ok (.iload_n 3, 1) := by decide +kernel
theorem dX2_layAgain_72 : decode cX2_layAgain 72 = .ok (.iaload, 1) := by decide +kernel
theorem dX2_layAgain_73 : decode cX2_layAgain 73 = .ok (.iload 4, 2) := by decide +kernel
theorem dX2_layAgain_75 : decode cX2_layAgain 75 = .ok (.if_icmp .ne 7, 3) := by decide +kernel
theorem dX2_layAgain_78 : decode cX2_layAgain 78 = .ok (.iconst 0, 1) := by decide +kernel
theorem dX2_layAgain_79 : decode cX2_layAgain 79 = .ok (.goto 4, 3) := by decide +kernel
theorem dX2_layAgain_82 : decode cX2_layAgain 82 = .ok (.iconst 1, 1) := by decide +kernel
theorem dX2_layAgain_83 : decode cX2_layAgain 83 = .ok (.iadd, 1) := by decide +kernel
theorem dX2_layAgain_84 : decode cX2_layAgain 84 = .ok (.istore_n 2, 1) := by decide +kernel
theorem dX2_layAgain_85 : decode cX2_layAgain 85 = .ok (.iinc 3 1, 3) := by decide +kernel
theorem dX2_layAgain_88 : decode cX2_layAgain 88 = .ok (.goto (-76), 3) := by decide +kernel
theorem dX2_layAgain_91 : decode cX2_layAgain 91 = .ok (.iload_n 2, 1) := by decide +kernel
theorem dX2_layAgain_92 : decode cX2_layAgain 92 = .ok (.ireturn, 1) := by decide +kernel
theorem dX6_refill_0 : decode cX6_refill 0 = .ok (.aload_n 0, 1) := by decide +kernel
theorem dX6_refill_1 : decode cX6_refill 1 = .ok (.getfield 10, 3) := by decide +kernel
theorem dX6_refill_4 : decode cX6_refill 4 = .ok (.getfield 100, 3) := by decide +kernel
theorem dX6_refill_7 : decode cX6_refill 7 = .ok (.aload_n 0, 1) := by decide +kernel
theorem dX6_refill_8 : decode cX6_refill 8 = .ok (.getfield 10, 3) := by decide +kernel
theorem dX6_refill_11 : decode cX6_refill 11 = .ok (.getfield 89, 3) := by decide +kernel
theorem dX6_refill_14 : decode cX6_refill 14 = .ok (.invokevirtual 257, 3) := by decide +kernel
theorem dX6_refill_17 : decode cX6_refill 17 = .ok (.istore_n 1, 1) := by decide +kernel
theorem dX6_refill_18 : decode cX6_refill 18 = .ok (.aload_n 0, 1) := by decide +kernel
theorem dX6_refill_19 : decode cX6_refill 19 = .ok (.getfield 10, 3) := by decide +kernel
theorem dX6_refill_22 : decode cX6_refill 22 = .ok (.iconst 0, 1) := by decide +kernel
theorem dX6_refill_23 : decode cX6_refill 23 = .ok (.putfield 260, 3) := by decide +kernel
theorem dX6_refill_26 : decode cX6_refill 26 = .ok (.aload_n 0, 1) := by decide +kernel
theorem dX6_refill_27 : decode cX6_refill 27 = .ok (.getfield 10, 3) := by decide +kernel
theorem dX6_refill_30 : decode cX6_refill 30 = .ok (.iconst 0, 1) := by decide +kernel
theorem dX6_refill_31 : decode cX6_refill 31 = .ok (.putfield 261, 3) := by decide +kernel
theorem dX6_refill_34 : decode cX6_refill 34 = .ok (.aload_n 0, 1) := by decide +kernel
theorem dX6_refill_35 : decode cX6_refill 35 = .ok (.getfield 10, 3) := by decide +kernel
theorem dX6_refill_38 : decode cX6_refill 38 = .ok (.iconst 0, 1) := by decide +kernel
theorem dX6_refill_39 : decode cX6_refill 39 = .ok (.putfield 262, 3) := by decide +kernel
theorem dX6_refill_42 : decode cX6_refill 42 = .ok (.aload_n 0, 1) := by decide +kernel
theorem dX6_refill_43 : decode cX6_refill 43 = .ok (.getfield 10, 3) := by decide +kernel
theorem dX6_refill_46 : decode cX6_refill 46 = .ok (.iconst 0, 1) := by decide +kernel
theorem dX6_refill_47 : decode cX6_refill 47 = .ok (.putfield 263, 3) := by decide +kernel
theorem dX6_refill_50 : decode cX6_refill 50 = .ok (.aload_n 0, 1) := by decide +kernel
theorem dX6_refill_51 : decode cX6_refill 51 = .ok (.getfield 10, 3) := by decide +kernel
theorem dX6_refill_54 : decode cX6_refill 54 = .ok (.iconst 0, 1) := by decide +kernel
theorem dX6_refill_55 : decode cX6_refill 55 = .ok (.putfield 199, 3) := by decide +kernel
theorem dX6_refill_58 : decode cX6_refill 58 = .ok (.iload_n 1, 1) := by decide +kernel
theorem dX6_refill_59 : decode cX6_refill 59 = .ok (.ireturn, 1) := by decide +kernel
set_option maxHeartbeats 4000000 in
set_option maxRecDepth 100000 in
theorem c_X6_writeBytes0 (l : Launch) (D : va_G) (K : Nat → ClassId) (b0 : Nat) (sa : Nat × Nat × Nat) (sz : Nat) (L : List Nat) (f0 : Nat → va_E) (Ψ : Nat → Nat) (hT : TW K (gof gX1) Ψ L f0) (x : Nat) (hm_x : x ∈ L) (ht_x : Ψ x = 6) (fo : Int32) (hu_6 : ∀ b c : Nat, b ∈ L → c ∈ L → Ψ b = 6 → Ψ c = 6 → b = c) : Met l yX6_writeBytes (.code yX6_writeBytes cX6_writeBytes 3 none :: gt) { frames := 0, cells := 0, slots := 0, locals := 0 } (va_Pc [.ref x, .int fo] (hPre D K b0 sa sz L f0)) (hQ D K b0 (fun v9 u9 => ∃ f2 : Nat → va_E, v9 = none ∧ u9 = ((gof ((611, 4) :: gX1)), Ψ, L, f2) ∧ TW K (gof ((611, 4) :: gX1)) Ψ L f2 ∧ rawk Ψ L f0 f2)) 0 0 (fun q => b0 ≤ q) := by
  refine t_of (own := RX6) (by decide) rfl ?_ (Nat.le_of_ble_eq_true rfl)
  intro p e s m below meth c ls C w hsz hr hlk hnm hl
  have hx := C.1
  have hb := C.2.1
  have hl : lv_has ls 3 [(0, .ref x), (1, .int fo)] := hl
  have hb_fo := ti_bd fo
  have hR : rawk Ψ L f0 f0 := rawk.rf
  refine lv_bipush (v := 24) hx hb dX6_writeBytes_0 (by decide) ?_
  refine lv_istore_n (lv' := [(2, .int 24), (0, .ref x), (1, .int fo)]) hx hb dX6_writeBytes_2 rfl hl (by decide) rfl (fun ls hl => ?_)
  refine lv_iload_n hx hb dX6_writeBytes_3 rfl (lv_at hl 0 rfl) ?_
  refine lv_if_lt (tgt := 49) hx hb dX6_writeBytes_4 (by decide) (fun c0 => absurd c0 (by decide)) (fun _ => ?_)
  refine lv_aload_n hx hb dX6_writeBytes_7 rfl (lv_at hl 1 rfl) ?_
  refine t_geti C w hT hm_x ht_x (by decide) rfl cin_6 11 (by decide) rfl rfl gw_298 dX6_writeBytes_8 (fun x1 hg => ?_)
  obtain rfl : x1 = 0 := gof_at rfl hg
  refine lv_sipush (v := 300) hx hb dX6_writeBytes_11 (by decide) ?_
  refine lv_icmp_ge (tgt := 43) hx hb dX6_writeBytes_14 (by decide) (fun c0 => absurd c0 (by decide)) (fun _ => ?_)
  refine lv_aload_n hx hb dX6_writeBytes_17 rfl (lv_at hl 1 rfl) ?_
  refine t_getr C w hT hm_x ht_x (by decide) rfl cin_6 10 (by decide) rfl gw_297 dX6_writeBytes_18 (fun q2 hm_q2 ht_q2 => ?_)
  refine lv_aload_n hx hb dX6_writeBytes_21 rfl (lv_at hl 1 rfl) ?_
  refine t_geti C w hT hm_x ht_x (by decide) rfl cin_6 11 (by decide) rfl rfl gw_298 dX6_writeBytes_22 (fun x3 hg => ?_)
  obtain rfl : x3 = 0 := gof_at rfl hg
  refine lv_iload_n hx hb dX6_writeBytes_25 rfl (lv_at hl 2 rfl) ?_
  refine lv_iload_n hx hb dX6_writeBytes_26 rfl (lv_at hl 0 rfl) ?_
  refine lv_iushr hx hb dX6_writeBytes_27 rfl ?_
  refine lv_topi (fun y4 ey4 => ?_)
  refine lv_sipush (v := 255) hx hb dX6_writeBytes_28 (by decide) ?_
  refine lv_iand hx hb dX6_writeBytes_31 ?_
  refine lv_topi (fun y5 ey5 => ?_)
  refine t_iast C w hT hm_q2 ht_q2 (by decide) (by decide) rfl (vp_in_iff.mpr ⟨by decide, by decide⟩) (gof_no rfl) dX6_writeBytes_32 (fun f H locs w hT hR1 => ?_)
  have hR := hR.tr hR1
  refine lv_aload_n hx hb dX6_writeBytes_33 rfl (lv_at hl 1 rfl) ?_
  refine lv_dup hx hb dX6_writeBytes_34 rfl ?_
  refine t_geti C w hT hm_x ht_x (by decide) rfl cin_6 11 (by decide) rfl rfl gw_298 dX6_writeBytes_35 (fun x6 hg => ?_)
  obtain rfl : x6 = 0 := gof_at rfl hg
  refine lv_iconst (v := 1) hx hb dX6_writeBytes_38 (by decide) ?_
  refine lv_iadd hx hb dX6_writeBytes_39 ?_
  refine lv_topi (fun y7 ey7 => ?_)
  obtain rfl : y7 = 1 := ey7.trans (by decide)
  refine t_putS C w hT hm_x ht_x (fun b h1 h2 => hu_6 b x h1 hm_x h2 ht_x) (by decide) rfl cin_6 tyX6 tyX6_ok nmX6 11 (by decide) rfl rfl rfl rfl rfl gw_298 dX6_writeBytes_40 (fun f H locs w hT hR1 => ?_)
  have hT := hT.mono gof_set
  have hR := hR.tr hR1
  refine lv_iinc (v := 16) (lv' := [(2, .int 16), (0, .ref x), (1, .int fo)]) hx hb dX6_writeBytes_43 hl (k := 0) rfl (by decide) (by decide) rfl (fun ls hl => ?_)
  refine lv_goto (tgt := 3) hx hb dX6_writeBytes_46 (by decide) ?_
  refine lv_iload_n hx hb dX6_writeBytes_3 rfl (lv_at hl 0 rfl) ?_
  refine lv_if_lt (tgt := 49) hx hb dX6_writeBytes_4 (by decide) (fun c0 => absurd c0 (by decide)) (fun _ => ?_)
  refine lv_aload_n hx hb dX6_writeBytes_7 rfl (lv_at hl 1 rfl) ?_
  refine t_geti C w hT hm_x ht_x (by decide) rfl cin_6 11 (by decide) rfl rfl gw_298 dX6_writeBytes_8 (fun x8 hg => ?_)
  obtain rfl : x8 = 1 := gof_at rfl hg
  refine lv_sipush (v := 300) hx hb dX6_writeBytes_11 (by decide) ?_
  refine lv_icmp_ge (tgt := 43) hx hb dX6_writeBytes_14 (by decide) (fun c0 => absurd c0 (by decide)) (fun _ => ?_)
  refine lv_aload_n hx hb dX6_writeBytes_17 rfl (lv_at hl 1 rfl) ?_
  refine t_getr C w hT hm_x ht_x (by decide) rfl cin_6 10 (by decide) rfl gw_297 dX6_writeBytes_18 (fun q9 hm_q9 ht_q9 => ?_)
  refine lv_aload_n hx hb dX6_writeBytes_21 rfl (lv_at hl 1 rfl) ?_
  refine t_geti C w hT hm_x ht_x (by decide) rfl cin_6 11 (by decide) rfl rfl gw_298 dX6_writeBytes_22 (fun x10 hg => ?_)
  obtain rfl : x10 = 1 := gof_at rfl hg
  refine lv_iload_n hx hb dX6_writeBytes_25 rfl (lv_at hl 2 rfl) ?_
  refine lv_iload_n hx hb dX6_writeBytes_26 rfl (lv_at hl 0 rfl) ?_
  refine lv_iushr hx hb dX6_writeBytes_27 rfl ?_
  refine lv_topi (fun y11 ey11 => ?_)
  refine lv_sipush (v := 255) hx hb dX6_writeBytes_28 (by decide) ?_
  refine lv_iand hx hb dX6_writeBytes_31 ?_
  refine lv_topi (fun y12 ey12 => ?_)
  refine t_iast C w hT hm_q9 ht_q9 (by decide) (by decide) rfl (vp_in_iff.mpr ⟨by decide, by decide⟩) (gof_no rfl) dX6_writeBytes_32 (fun f H locs w hT hR1 => ?_)
  have hR := hR.tr hR1
  refine lv_aload_n hx hb dX6_writeBytes_33 rfl (lv_at hl 1 rfl) ?_
  refine lv_dup hx hb dX6_writeBytes_34 rfl ?_
  refine t_geti C w hT hm_x ht_x (by decide) rfl cin_6 11 (by decide) rfl rfl gw_298 dX6_writeBytes_35 (fun x13 hg => ?_)
  obtain rfl : x13 = 1 := gof_at rfl hg
  refine lv_iconst (v := 1) hx hb dX6_writeBytes_38 (by decide) ?_
  refine lv_iadd hx hb dX6_writeBytes_39 ?_
  refine lv_topi (fun y14 ey14 => ?_)
  obtain rfl : y14 = 2 := ey14.trans (by decide)
  refine t_putS C w hT hm_x ht_x (fun b h1 h2 => hu_6 b x h1 hm_x h2 ht_x) (by decide) rfl cin_6 tyX6 tyX6_ok nmX6 11 (by decide) rfl rfl rfl rfl rfl gw_298 dX6_writeBytes_40 (fun f H locs w hT hR1 => ?_)
  have hT := hT.mono gof_set
  have hR := hR.tr hR1
  refine lv_iinc (v := 8) (lv' := [(2, .int 8), (0, .ref x), (1, .int fo)]) hx hb dX6_writeBytes_43 hl (k := 0) rfl (by decide) (by decide) rfl (fun ls hl => ?_)
  refine lv_goto (tgt := 3) hx hb dX6_writeBytes_46 (by decide) ?_
  refine lv_iload_n hx hb dX6_writeBytes_3 rfl (lv_at hl 0 rfl) ?_
  refine lv_if_lt (tgt := 49) hx hb dX6_writeBytes_4 (by decide) (fun c0 => absurd c0 (by decide)) (fun _ => ?_)
  refine lv_aload_n hx hb dX6_writeBytes_7 rfl (lv_at hl 1 rfl) ?_
  refine t_geti C w hT hm_x ht_x (by decide) rfl cin_6 11 (by decide) rfl rfl gw_298 dX6_writeBytes_8 (fun x15 hg => ?_)
  obtain rfl : x15 = 2 := gof_at rfl hg
  refine lv_sipush (v := 300) hx hb dX6_writeBytes_11 (by decide) ?_
  refine lv_icmp_ge (tgt := 43) hx hb dX6_writeBytes_14 (by decide) (fun c0 => absurd c0 (by decide)) (fun _ => ?_)
  refine lv_aload_n hx hb dX6_writeBytes_17 rfl (lv_at hl 1 rfl) ?_
  refine t_getr C w hT hm_x ht_x (by decide) rfl cin_6 10 (by decide) rfl gw_297 dX6_writeBytes_18 (fun q16 hm_q16 ht_q16 => ?_)
  refine lv_aload_n hx hb dX6_writeBytes_21 rfl (lv_at hl 1 rfl) ?_
  refine t_geti C w hT hm_x ht_x (by decide) rfl cin_6 11 (by decide) rfl rfl gw_298 dX6_writeBytes_22 (fun x17 hg => ?_)
  obtain rfl : x17 = 2 := gof_at rfl hg
  refine lv_iload_n hx hb dX6_writeBytes_25 rfl (lv_at hl 2 rfl) ?_
  refine lv_iload_n hx hb dX6_writeBytes_26 rfl (lv_at hl 0 rfl) ?_
  refine lv_iushr hx hb dX6_writeBytes_27 rfl ?_
  refine lv_topi (fun y18 ey18 => ?_)
  refine lv_sipush (v := 255) hx hb dX6_writeBytes_28 (by decide) ?_
  refine lv_iand hx hb dX6_writeBytes_31 ?_
  refine lv_topi (fun y19 ey19 => ?_)
  refine t_iast C w hT hm_q16 ht_q16 (by decide) (by decide) rfl (vp_in_iff.mpr ⟨by decide, by decide⟩) (gof_no rfl) dX6_writeBytes_32 (fun f H locs w hT hR1 => ?_)
  have hR := hR.tr hR1
  refine lv_aload_n hx hb dX6_writeBytes_33 rfl (lv_at hl 1 rfl) ?_
  refine lv_dup hx hb dX6_writeBytes_34 rfl ?_
  refine t_geti C w hT hm_x ht_x (by decide) rfl cin_6 11 (by decide) rfl rfl gw_298 dX6_writeBytes_35 (fun x20 hg => ?_)
  obtain rfl : x20 = 2 := gof_at rfl hg
  refine lv_iconst (v := 1) hx hb dX6_writeBytes_38 (by decide) ?_
  refine lv_iadd hx hb dX6_writeBytes_39 ?_
  refine lv_topi (fun y21 ey21 => ?_)
  obtain rfl : y21 = 3 := ey21.trans (by decide)
  refine t_putS C w hT hm_x ht_x (fun b h1 h2 => hu_6 b x h1 hm_x h2 ht_x) (by decide) rfl cin_6 tyX6 tyX6_ok nmX6 11 (by decide) rfl rfl rfl rfl rfl gw_298 dX6_writeBytes_40 (fun f H locs w hT hR1 => ?_)
  have hT := hT.mono gof_set
  have hR := hR.tr hR1
  refine lv_iinc (v := 0) (lv' := [(2, .int 0), (0, .ref x), (1, .int fo)]) hx hb dX6_writeBytes_43 hl (k := 0) rfl (by decide) (by decide) rfl (fun ls hl => ?_)
  refine lv_goto (tgt := 3) hx hb dX6_writeBytes_46 (by decide) ?_
  refine lv_iload_n hx hb dX6_writeBytes_3 rfl (lv_at hl 0 rfl) ?_
  refine lv_if_lt (tgt := 49) hx hb dX6_writeBytes_4 (by decide) (fun c0 => absurd c0 (by decide)) (fun _ => ?_)
  refine lv_aload_n hx hb dX6_writeBytes_7 rfl (lv_at hl 1 rfl) ?_
  refine t_geti C w hT hm_x ht_x (by decide) rfl cin_6 11 (by decide) rfl rfl gw_298 dX6_writeBytes_8 (fun x22 hg => ?_)
  obtain rfl : x22 = 3 := gof_at rfl hg
  refine lv_sipush (v := 300) hx hb dX6_writeBytes_11 (by decide) ?_
  refine lv_icmp_ge (tgt := 43) hx hb dX6_writeBytes_14 (by decide) (fun c0 => absurd c0 (by decide)) (fun _ => ?_)
  refine lv_aload_n hx hb dX6_writeBytes_17 rfl (lv_at hl 1 rfl) ?_
  refine t_getr C w hT hm_x ht_x (by decide) rfl cin_6 10 (by decide) rfl gw_297 dX6_writeBytes_18 (fun q23 hm_q23 ht_q23 => ?_)
  refine lv_aload_n hx hb dX6_writeBytes_21 rfl (lv_at hl 1 rfl) ?_
  refine t_geti C w hT hm_x ht_x (by decide) rfl cin_6 11 (by decide) rfl rfl gw_298 dX6_writeBytes_22 (fun x24 hg => ?_)
  obtain rfl : x24 = 3 := gof_at rfl hg
  refine lv_iload_n hx hb dX6_writeBytes_25 rfl (lv_at hl 2 rfl) ?_
  refine lv_iload_n hx hb dX6_writeBytes_26 rfl (lv_at hl 0 rfl) ?_
  refine lv_iushr hx hb dX6_writeBytes_27 rfl ?_
  refine lv_topi (fun y25 ey25 => ?_)
  refine lv_sipush (v := 255) hx hb dX6_writeBytes_28 (by decide) ?_
  refine lv_iand hx hb dX6_writeBytes_31 ?_
  refine lv_topi (fun y26 ey26 => ?_)
  refine t_iast C w hT hm_q23 ht_q23 (by decide) (by decide) rfl (vp_in_iff.mpr ⟨by decide, by decide⟩) (gof_no rfl) dX6_writeBytes_32 (fun f H locs w hT hR1 => ?_)
  have hR := hR.tr hR1
  refine lv_aload_n hx hb dX6_writeBytes_33 rfl (lv_at hl 1 rfl) ?_
  refine lv_dup hx hb dX6_writeBytes_34 rfl ?_
  refine t_geti C w hT hm_x ht_x (by decide) rfl cin_6 11 (by decide) rfl rfl gw_298 dX6_writeBytes_35 (fun x27 hg => ?_)
  obtain rfl : x27 = 3 := gof_at rfl hg
  refine lv_iconst (v := 1) hx hb dX6_writeBytes_38 (by decide) ?_
  refine lv_iadd hx hb dX6_writeBytes_39 ?_
  refine lv_topi (fun y28 ey28 => ?_)
  obtain rfl : y28 = 4 := ey28.trans (by decide)
  refine t_putS C w hT hm_x ht_x (fun b h1 h2 => hu_6 b x h1 hm_x h2 ht_x) (by decide) rfl cin_6 tyX6 tyX6_ok nmX6 11 (by decide) rfl rfl rfl rfl rfl gw_298 dX6_writeBytes_40 (fun f H locs w hT hR1 => ?_)
  have hT := hT.mono gof_set
  have hR := hR.tr hR1
  refine lv_iinc (v := (-8)) (lv' := [(2, .int (-8)), (0, .ref x), (1, .int fo)]) hx hb dX6_writeBytes_43 hl (k := 0) rfl (by decide) (by decide) rfl (fun ls hl => ?_)
  refine lv_goto (tgt := 3) hx hb dX6_writeBytes_46 (by decide) ?_
  refine lv_iload_n hx hb dX6_writeBytes_3 rfl (lv_at hl 0 rfl) ?_
  refine lv_if_lt (tgt := 49) hx hb dX6_writeBytes_4 (by decide) (fun _ => ?_) (fun c0 => absurd c0 (by decide))
  exact t_vret C hr hlk w ⟨_, rfl, rfl, (hT.mono (gof_sub rfl)), hR⟩ (by decide) (by decide) dX6_writeBytes_49
set_option maxHeartbeats 4000000 in
set_option maxRecDepth 100000 in
theorem c_X6_writeBytes4 (l : Launch) (D : va_G) (K : Nat → ClassId) (b0 : Nat) (sa : Nat × Nat × Nat) (sz : Nat) (L : List Nat) (f0 : Nat → va_E) (Ψ : Nat → Nat) (hT : TW K (gof ((611, 4) :: gX1)) Ψ L f0) (x : Nat) (hm_x : x ∈ L) (ht_x : Ψ x = 6) (fo : Int32) (hu_6 : ∀ b c : Nat, b ∈ L → c ∈ L → Ψ b = 6 → Ψ c = 6 → b = c) : Met l yX6_writeBytes (.code yX6_writeBytes cX6_writeBytes 3 none :: gt) { frames := 0, cells := 0, slots := 0, locals := 0 } (va_Pc [.ref x, .int fo] (hPre D K b0 sa sz L f0)) (hQ D K b0 (fun v9 u9 => ∃ f2 : Nat → va_E, v9 = none ∧ u9 = ((gof ((611, 8) :: gX1)), Ψ, L, f2) ∧ TW K (gof ((611, 8) :: gX1)) Ψ L f2 ∧ rawk Ψ L f0 f2)) 0 0 (fun q => b0 ≤ q) := by
  refine t_of (own := RX6) (by decide) rfl ?_ (Nat.le_of_ble_eq_true rfl)
  intro p e s m below meth c ls C w hsz hr hlk hnm hl
  have hx := C.1
  have hb := C.2.1
  have hl : lv_has ls 3 [(0, .ref x), (1, .int fo)] := hl
  have hb_fo := ti_bd fo
  have hR : rawk Ψ L f0 f0 := rawk.rf
  refine lv_bipush (v := 24) hx hb dX6_writeBytes_0 (by decide) ?_
  refine lv_istore_n (lv' := [(2, .int 24), (0, .ref x), (1, .int fo)]) hx hb dX6_writeBytes_2 rfl hl (by decide) rfl (fun ls hl => ?_)
  refine lv_iload_n hx hb dX6_writeBytes_3 rfl (lv_at hl 0 rfl) ?_
  refine lv_if_lt (tgt := 49) hx hb dX6_writeBytes_4 (by decide) (fun c0 => absurd c0 (by decide)) (fun _ => ?_)
  refine lv_aload_n hx hb dX6_writeBytes_7 rfl (lv_at hl 1 rfl) ?_
  refine t_geti C w hT hm_x ht_x (by decide) rfl cin_6 11 (by decide) rfl rfl gw_298 dX6_writeBytes_8 (fun x1 hg => ?_)
  obtain rfl : x1 = 4 := gof_at rfl hg
  refine lv_sipush (v := 300) hx hb dX6_writeBytes_11 (by decide) ?_
  refine lv_icmp_ge (tgt := 43) hx hb dX6_writeBytes_14 (by decide) (fun c0 => absurd c0 (by decide)) (fun _ => ?_)
  refine lv_aload_n hx hb dX6_writeBytes_17 rfl (lv_at hl 1 rfl) ?_
  refine t_getr C w hT hm_x ht_x (by decide) rfl cin_6 10 (by decide) rfl gw_297 dX6_writeBytes_18 (fun q2 hm_q2 ht_q2 => ?_)
  refine lv_aload_n hx hb dX6_writeBytes_21 rfl (lv_at hl 1 rfl) ?_
  refine t_geti C w hT hm_x ht_x (by decide) rfl cin_6 11 (by decide) rfl rfl gw_298 dX6_writeBytes_22 (fun x3 hg => ?_)
  obtain rfl : x3 = 4 := gof_at rfl hg
  refine lv_iload_n hx hb dX6_writeBytes_25 rfl (lv_at hl 2 rfl) ?_
  refine lv_iload_n hx hb dX6_writeBytes_26 rfl (lv_at hl 0 rfl) ?_
  refine lv_iushr hx hb dX6_writeBytes_27 rfl ?_
  refine lv_topi (fun y4 ey4 => ?_)
  refine lv_sipush (v := 255) hx hb dX6_writeBytes_28 (by decide) ?_
  refine lv_iand hx hb dX6_writeBytes_31 ?_
  refine lv_topi (fun y5 ey5 => ?_)
  refine t_iast C w hT hm_q2 ht_q2 (by decide) (by decide) rfl (vp_in_iff.mpr ⟨by decide, by decide⟩) (gof_no rfl) dX6_writeBytes_32 (fun f H locs w hT hR1 => ?_)
  have hR := hR.tr hR1
  refine lv_aload_n hx hb dX6_writeBytes_33 rfl (lv_at hl 1 rfl) ?_
  refine lv_dup hx hb dX6_writeBytes_34 rfl ?_
  refine t_geti C w hT hm_x ht_x (by decide) rfl cin_6 11 (by decide) rfl rfl gw_298 dX6_writeBytes_35 (fun x6 hg => ?_)
  obtain rfl : x6 = 4 := gof_at rfl hg
  refine lv_iconst (v := 1) hx hb dX6_writeBytes_38 (by decide) ?_
  refine lv_iadd hx hb dX6_writeBytes_39 ?_
  refine lv_topi (fun y7 ey7 => ?_)
  obtain rfl : y7 = 5 := ey7.trans (by decide)
  refine t_putS C w hT hm_x ht_x (fun b h1 h2 => hu_6 b x h1 hm_x h2 ht_x) (by decide) rfl cin_6 tyX6 tyX6_ok nmX6 11 (by decide) rfl rfl rfl rfl rfl gw_298 dX6_writeBytes_40 (fun f H locs w hT hR1 => ?_)
  have hT := hT.mono gof_set
  have hR := hR.tr hR1
  refine lv_iinc (v := 16) (lv' := [(2, .int 16), (0, .ref x), (1, .int fo)]) hx hb dX6_writeBytes_43 hl (k := 0) rfl (by decide) (by decide) rfl (fun ls hl => ?_)
  refine lv_goto (tgt := 3) hx hb dX6_writeBytes_46 (by decide) ?_
  refine lv_iload_n hx hb dX6_writeBytes_3 rfl (lv_at hl 0 rfl) ?_
  refine lv_if_lt (tgt := 49) hx hb dX6_writeBytes_4 (by decide) (fun c0 => absurd c0 (by decide)) (fun _ => ?_)
  refine lv_aload_n hx hb dX6_writeBytes_7 rfl (lv_at hl 1 rfl) ?_
  refine t_geti C w hT hm_x ht_x (by decide) rfl cin_6 11 (by decide) rfl rfl gw_298 dX6_writeBytes_8 (fun x8 hg => ?_)
  obtain rfl : x8 = 5 := gof_at rfl hg
  refine lv_sipush (v := 300) hx hb dX6_writeBytes_11 (by decide) ?_
  refine lv_icmp_ge (tgt := 43) hx hb dX6_writeBytes_14 (by decide) (fun c0 => absurd c0 (by decide)) (fun _ => ?_)
  refine lv_aload_n hx hb dX6_writeBytes_17 rfl (lv_at hl 1 rfl) ?_
  refine t_getr C w hT hm_x ht_x (by decide) rfl cin_6 10 (by decide) rfl gw_297 dX6_writeBytes_18 (fun q9 hm_q9 ht_q9 => ?_)
  refine lv_aload_n hx hb dX6_writeBytes_21 rfl (lv_at hl 1 rfl) ?_
  refine t_geti C w hT hm_x ht_x (by decide) rfl cin_6 11 (by decide) rfl rfl gw_298 dX6_writeBytes_22 (fun x10 hg => ?_)
  obtain rfl : x10 = 5 := gof_at rfl hg
  refine lv_iload_n hx hb dX6_writeBytes_25 rfl (lv_at hl 2 rfl) ?_
  refine lv_iload_n hx hb dX6_writeBytes_26 rfl (lv_at hl 0 rfl) ?_
  refine lv_iushr hx hb dX6_writeBytes_27 rfl ?_
  refine lv_topi (fun y11 ey11 => ?_)
  refine lv_sipush (v := 255) hx hb dX6_writeBytes_28 (by decide) ?_
  refine lv_iand hx hb dX6_writeBytes_31 ?_
  refine lv_topi (fun y12 ey12 => ?_)
  refine t_iast C w hT hm_q9 ht_q9 (by decide) (by decide) rfl (vp_in_iff.mpr ⟨by decide, by decide⟩) (gof_no rfl) dX6_writeBytes_32 (fun f H locs w hT hR1 => ?_)
  have hR := hR.tr hR1
  refine lv_aload_n hx hb dX6_writeBytes_33 rfl (lv_at hl 1 rfl) ?_
  refine lv_dup hx hb dX6_writeBytes_34 rfl ?_
  refine t_geti C w hT hm_x ht_x (by decide) rfl cin_6 11 (by decide) rfl rfl gw_298 dX6_writeBytes_35 (fun x13 hg => ?_)
  obtain rfl : x13 = 5 := gof_at rfl hg
  refine lv_iconst (v := 1) hx hb dX6_writeBytes_38 (by decide) ?_
  refine lv_iadd hx hb dX6_writeBytes_39 ?_
  refine lv_topi (fun y14 ey14 => ?_)
  obtain rfl : y14 = 6 := ey14.trans (by decide)
  refine t_putS C w hT hm_x ht_x (fun b h1 h2 => hu_6 b x h1 hm_x h2 ht_x) (by decide) rfl cin_6 tyX6 tyX6_ok nmX6 11 (by decide) rfl rfl rfl rfl rfl gw_298 dX6_writeBytes_40 (fun f H locs w hT hR1 => ?_)
  have hT := hT.mono gof_set
  have hR := hR.tr hR1
  refine lv_iinc (v := 8) (lv' := [(2, .int 8), (0, .ref x), (1, .int fo)]) hx hb dX6_writeBytes_43 hl (k := 0) rfl (by decide) (by decide) rfl (fun ls hl => ?_)
  refine lv_goto (tgt := 3) hx hb dX6_writeBytes_46 (by decide) ?_
  refine lv_iload_n hx hb dX6_writeBytes_3 rfl (lv_at hl 0 rfl) ?_
  refine lv_if_lt (tgt := 49) hx hb dX6_writeBytes_4 (by decide) (fun c0 => absurd c0 (by decide)) (fun _ => ?_)
  refine lv_aload_n hx hb dX6_writeBytes_7 rfl (lv_at hl 1 rfl) ?_
  refine t_geti C w hT hm_x ht_x (by decide) rfl cin_6 11 (by decide) rfl rfl gw_298 dX6_writeBytes_8 (fun x15 hg => ?_)
  obtain rfl : x15 = 6 := gof_at rfl hg
  refine lv_sipush (v := 300) hx hb dX6_writeBytes_11 (by decide) ?_
  refine lv_icmp_ge (tgt := 43) hx hb dX6_writeBytes_14 (by decide) (fun c0 => absurd c0 (by decide)) (fun _ => ?_)
  refine lv_aload_n hx hb dX6_writeBytes_17 rfl (lv_at hl 1 rfl) ?_
  refine t_getr C w hT hm_x ht_x (by decide) rfl cin_6 10 (by decide) rfl gw_297 dX6_writeBytes_18 (fun q16 hm_q16 ht_q16 => ?_)
  refine lv_aload_n hx hb dX6_writeBytes_21 rfl (lv_at hl 1 rfl) ?_
  refine t_geti C w hT hm_x ht_x (by decide) rfl cin_6 11 (by decide) rfl rfl gw_298 dX6_writeBytes_22 (fun x17 hg => ?_)
  obtain rfl : x17 = 6 := gof_at rfl hg
  refine lv_iload_n hx hb dX6_writeBytes_25 rfl (lv_at hl 2 rfl) ?_
  refine lv_iload_n hx hb dX6_writeBytes_26 rfl (lv_at hl 0 rfl) ?_
  refine lv_iushr hx hb dX6_writeBytes_27 rfl ?_
  refine lv_topi (fun y18 ey18 => ?_)
  refine lv_sipush (v := 255) hx hb dX6_writeBytes_28 (by decide) ?_
  refine lv_iand hx hb dX6_writeBytes_31 ?_
  refine lv_topi (fun y19 ey19 => ?_)
  refine t_iast C w hT hm_q16 ht_q16 (by decide) (by decide) rfl (vp_in_iff.mpr ⟨by decide, by decide⟩) (gof_no rfl) dX6_writeBytes_32 (fun f H locs w hT hR1 => ?_)
  have hR := hR.tr hR1
  refine lv_aload_n hx hb dX6_writeBytes_33 rfl (lv_at hl 1 rfl) ?_
  refine lv_dup hx hb dX6_writeBytes_34 rfl ?_
  refine t_geti C w hT hm_x ht_x (by decide) rfl cin_6 11 (by decide) rfl rfl gw_298 dX6_writeBytes_35 (fun x20 hg => ?_)
  obtain rfl : x20 = 6 := gof_at rfl hg
  refine lv_iconst (v := 1) hx hb dX6_writeBytes_38 (by decide) ?_
  refine lv_iadd hx hb dX6_writeBytes_39 ?_
  refine lv_topi (fun y21 ey21 => ?_)
  obtain rfl : y21 = 7 := ey21.trans (by decide)
  refine t_putS C w hT hm_x ht_x (fun b h1 h2 => hu_6 b x h1 hm_x h2 ht_x) (by decide) rfl cin_6 tyX6 tyX6_ok nmX6 11 (by decide) rfl rfl rfl rfl rfl gw_298 dX6_writeBytes_40 (fun f H locs w hT hR1 => ?_)
  have hT := hT.mono gof_set
  have hR := hR.tr hR1
  refine lv_iinc (v := 0) (lv' := [(2, .int 0), (0, .ref x), (1, .int fo)]) hx hb dX6_writeBytes_43 hl (k := 0) rfl (by decide) (by decide) rfl (fun ls hl => ?_)
  refine lv_goto (tgt := 3) hx hb dX6_writeBytes_46 (by decide) ?_
  refine lv_iload_n hx hb dX6_writeBytes_3 rfl (lv_at hl 0 rfl) ?_
  refine lv_if_lt (tgt := 49) hx hb dX6_writeBytes_4 (by decide) (fun c0 => absurd c0 (by decide)) (fun _ => ?_)
  refine lv_aload_n hx hb dX6_writeBytes_7 rfl (lv_at hl 1 rfl) ?_
  refine t_geti C w hT hm_x ht_x (by decide) rfl cin_6 11 (by decide) rfl rfl gw_298 dX6_writeBytes_8 (fun x22 hg => ?_)
  obtain rfl : x22 = 7 := gof_at rfl hg
  refine lv_sipush (v := 300) hx hb dX6_writeBytes_11 (by decide) ?_
  refine lv_icmp_ge (tgt := 43) hx hb dX6_writeBytes_14 (by decide) (fun c0 => absurd c0 (by decide)) (fun _ => ?_)
  refine lv_aload_n hx hb dX6_writeBytes_17 rfl (lv_at hl 1 rfl) ?_
  refine t_getr C w hT hm_x ht_x (by decide) rfl cin_6 10 (by decide) rfl gw_297 dX6_writeBytes_18 (fun q23 hm_q23 ht_q23 => ?_)
  refine lv_aload_n hx hb dX6_writeBytes_21 rfl (lv_at hl 1 rfl) ?_
  refine t_geti C w hT hm_x ht_x (by decide) rfl cin_6 11 (by decide) rfl rfl gw_298 dX6_writeBytes_22 (fun x24 hg => ?_)
  obtain rfl : x24 = 7 := gof_at rfl hg
  refine lv_iload_n hx hb dX6_writeBytes_25 rfl (lv_at hl 2 rfl) ?_
  refine lv_iload_n hx hb dX6_writeBytes_26 rfl (lv_at hl 0 rfl) ?_
  refine lv_iushr hx hb dX6_writeBytes_27 rfl ?_
  refine lv_topi (fun y25 ey25 => ?_)
  refine lv_sipush (v := 255) hx hb dX6_writeBytes_28 (by decide) ?_
  refine lv_iand hx hb dX6_writeBytes_31 ?_
  refine lv_topi (fun y26 ey26 => ?_)
  refine t_iast C w hT hm_q23 ht_q23 (by decide) (by decide) rfl (vp_in_iff.mpr ⟨by decide, by decide⟩) (gof_no rfl) dX6_writeBytes_32 (fun f H locs w hT hR1 => ?_)
  have hR := hR.tr hR1
  refine lv_aload_n hx hb dX6_writeBytes_33 rfl (lv_at hl 1 rfl) ?_
  refine lv_dup hx hb dX6_writeBytes_34 rfl ?_
  refine t_geti C w hT hm_x ht_x (by decide) rfl cin_6 11 (by decide) rfl rfl gw_298 dX6_writeBytes_35 (fun x27 hg => ?_)
  obtain rfl : x27 = 7 := gof_at rfl hg
  refine lv_iconst (v := 1) hx hb dX6_writeBytes_38 (by decide) ?_
  refine lv_iadd hx hb dX6_writeBytes_39 ?_
  refine lv_topi (fun y28 ey28 => ?_)
  obtain rfl : y28 = 8 := ey28.trans (by decide)
  refine t_putS C w hT hm_x ht_x (fun b h1 h2 => hu_6 b x h1 hm_x h2 ht_x) (by decide) rfl cin_6 tyX6 tyX6_ok nmX6 11 (by decide) rfl rfl rfl rfl rfl gw_298 dX6_writeBytes_40 (fun f H locs w hT hR1 => ?_)
  have hT := hT.mono gof_set
  have hR := hR.tr hR1
  refine lv_iinc (v := (-8)) (lv' := [(2, .int (-8)), (0, .ref x), (1, .int fo)]) hx hb dX6_writeBytes_43 hl (k := 0) rfl (by decide) (by decide) rfl (fun ls hl => ?_)
  refine lv_goto (tgt := 3) hx hb dX6_writeBytes_46 (by decide) ?_
  refine lv_iload_n hx hb dX6_writeBytes_3 rfl (lv_at hl 0 rfl) ?_
  refine lv_if_lt (tgt := 49) hx hb dX6_writeBytes_4 (by decide) (fun _ => ?_) (fun c0 => absurd c0 (by decide))
  exact t_vret C hr hlk w ⟨_, rfl, rfl, (hT.mono (gof_sub rfl)), hR⟩ (by decide) (by decide) dX6_writeBytes_49
set_option maxHeartbeats 4000000 in
set_option maxRecDepth 100000 in
theorem c_X6_writeBytes8 (l : Launch) (D : va_G) (K : Nat → ClassId) (b0 : Nat) (sa : Nat × Nat × Nat) (sz : Nat) (L : List Nat) (f0 : Nat → va_E) (Ψ : Nat → Nat) (hT : TW K (gof ((611, 8) :: gX1)) Ψ L f0) (x : Nat) (hm_x : x ∈ L) (ht_x : Ψ x = 6) (fo : Int32) (hu_6 : ∀ b c : Nat, b ∈ L → c ∈ L → Ψ b = 6 → Ψ c = 6 → b = c) : Met l yX6_writeBytes (.code yX6_writeBytes cX6_writeBytes 3 none :: gt) { frames := 0, cells := 0, slots := 0, locals := 0 } (va_Pc [.ref x, .int fo] (hPre D K b0 sa sz L f0)) (hQ D K b0 (fun v9 u9 => ∃ f2 : Nat → va_E, v9 = none ∧ u9 = ((gof ((611, 12) :: gX1)), Ψ, L, f2) ∧ TW K (gof ((611, 12) :: gX1)) Ψ L f2 ∧ rawk Ψ L f0 f2)) 0 0 (fun q => b0 ≤ q) := by
  refine t_of (own := RX6) (by decide) rfl ?_ (Nat.le_of_ble_eq_true rfl)
  intro p e s m below meth c ls C w hsz hr hlk hnm hl
  have hx := C.1
  have hb := C.2.1
  have hl : lv_has ls 3 [(0, .ref x), (1, .int fo)] := hl
  have hb_fo := ti_bd fo
  have hR : rawk Ψ L f0 f0 := rawk.rf
  refine lv_bipush (v := 24) hx hb dX6_writeBytes_0 (by decide) ?_
  refine lv_istore_n (lv' := [(2, .int 24), (0, .ref x), (1, .int fo)]) hx hb dX6_writeBytes_2 rfl hl (by decide) rfl (fun ls hl => ?_)
  refine lv_iload_n hx hb dX6_writeBytes_3 rfl (lv_at hl 0 rfl) ?_
  refine lv_if_lt (tgt := 49) hx hb dX6_writeBytes_4 (by decide) (fun c0 => absurd c0 (by decide)) (fun _ => ?_)
  refine lv_aload_n hx hb dX6_writeBytes_7 rfl (lv_at hl 1 rfl) ?_
  refine t_geti C w hT hm_x ht_x (by decide) rfl cin_6 11 (by decide) rfl rfl gw_298 dX6_writeBytes_8 (fun x1 hg => ?_)
  obtain rfl : x1 = 8 := gof_at rfl hg
  refine lv_sipush (v := 300) hx hb dX6_writeBytes_11 (by decide) ?_
  refine lv_icmp_ge (tgt := 43) hx hb dX6_writeBytes_14 (by decide) (fun c0 => absurd c0 (by decide)) (fun _ => ?_)
  refine lv_aload_n hx hb dX6_writeBytes_17 rfl (lv_at hl 1 rfl) ?_
  refine t_getr C w hT hm_x ht_x (by decide) rfl cin_6 10 (by decide) rfl gw_297 dX6_writeBytes_18 (fun q2 hm_q2 ht_q2 => ?_)
  refine lv_aload_n hx hb dX6_writeBytes_21 rfl (lv_at hl 1 rfl) ?_
  refine t_geti C w hT hm_x ht_x (by decide) rfl cin_6 11 (by decide) rfl rfl gw_298 dX6_writeBytes_22 (fun x3 hg => ?_)
  obtain rfl : x3 = 8 := gof_at rfl hg
  refine lv_iload_n hx hb dX6_writeBytes_25 rfl (lv_at hl 2 rfl) ?_
  refine lv_iload_n hx hb dX6_writeBytes_26 rfl (lv_at hl 0 rfl) ?_
  refine lv_iushr hx hb dX6_writeBytes_27 rfl ?_
  refine lv_topi (fun y4 ey4 => ?_)
  refine lv_sipush (v := 255) hx hb dX6_writeBytes_28 (by decide) ?_
  refine lv_iand hx hb dX6_writeBytes_31 ?_
  refine lv_topi (fun y5 ey5 => ?_)
  refine t_iast C w hT hm_q2 ht_q2 (by decide) (by decide) rfl (vp_in_iff.mpr ⟨by decide, by decide⟩) (gof_no rfl) dX6_writeBytes_32 (fun f H locs w hT hR1 => ?_)
  have hR := hR.tr hR1
  refine lv_aload_n hx hb dX6_writeBytes_33 rfl (lv_at hl 1 rfl) ?_
  refine lv_dup hx hb dX6_writeBytes_34 rfl ?_
  refine t_geti C w hT hm_x ht_x (by decide) rfl cin_6 11 (by decide) rfl rfl gw_298 dX6_writeBytes_35 (fun x6 hg => ?_)
  obtain rfl : x6 = 8 := gof_at rfl hg
  refine lv_iconst (v := 1) hx hb dX6_writeBytes_38 (by decide) ?_
  refine lv_iadd hx hb dX6_writeBytes_39 ?_
  refine lv_topi (fun y7 ey7 => ?_)
  obtain rfl : y7 = 9 := ey7.trans (by decide)
  refine t_putS C w hT hm_x ht_x (fun b h1 h2 => hu_6 b x h1 hm_x h2 ht_x) (by decide) rfl cin_6 tyX6 tyX6_ok nmX6 11 (by decide) rfl rfl rfl rfl rfl gw_298 dX6_writeBytes_40 (fun f H locs w hT hR1 => ?_)
  have hT := hT.mono gof_set
  have hR := hR.tr hR1
  refine lv_iinc (v := 16) (lv' := [(2, .int 16), (0, .ref x), (1, .int fo)]) hx hb dX6_writeBytes_43 hl (k := 0) rfl (by decide) (by decide) rfl (fun ls hl => ?_)
  refine lv_goto (tgt := 3) hx hb dX6_writeBytes_46 (by decide) ?_
  refine lv_iload_n hx hb dX6_writeBytes_3 rfl (lv_at hl 0 rfl) ?_
  refine lv_if_lt (tgt := 49) hx hb dX6_writeBytes_4 (by decide) (fun c0 => absurd c0 (by decide)) (fun _ => ?_)
  refine lv_aload_n hx hb dX6_writeBytes_7 rfl (lv_at hl 1 rfl) ?_
  refine t_geti C w hT hm_x ht_x (by decide) rfl cin_6 11 (by decide) rfl rfl gw_298 dX6_writeBytes_8 (fun x8 hg => ?_)
  obtain rfl : x8 = 9 := gof_at rfl hg
  refine lv_sipush (v := 300) hx hb dX6_writeBytes_11 (by decide) ?_
  refine lv_icmp_ge (tgt := 43) hx hb dX6_writeBytes_14 (by decide) (fun c0 => absurd c0 (by decide)) (fun _ => ?_)
  refine lv_aload_n hx hb dX6_writeBytes_17 rfl (lv_at hl 1 rfl) ?_
  refine t_getr C w hT hm_x ht_x (by decide) rfl cin_6 10 (by decide) rfl gw_297 dX6_writeBytes_18 (fun q9 hm_q9 ht_q9 => ?_)
  refine lv_aload_n hx hb dX6_writeBytes_21 rfl (lv_at hl 1 rfl) ?_
  refine t_geti C w hT hm_x ht_x (by decide) rfl cin_6 11 (by decide) rfl rfl gw_298 dX6_writeBytes_22 (fun x10 hg => ?_)
  obtain rfl : x10 = 9 := gof_at rfl hg
  refine lv_iload_n hx hb dX6_writeBytes_25 rfl (lv_at hl 2 rfl) ?_
  refine lv_iload_n hx hb dX6_writeBytes_26 rfl (lv_at hl 0 rfl) ?_
  refine lv_iushr hx hb dX6_writeBytes_27 rfl ?_
  refine lv_topi (fun y11 ey11 => ?_)
  refine lv_sipush (v := 255) hx hb dX6_writeBytes_28 (by decide) ?_
  refine lv_iand hx hb dX6_writeBytes_31 ?_
  refine lv_topi (fun y12 ey12 => ?_)
  refine t_iast C w hT hm_q9 ht_q9 (by decide) (by decide) rfl (vp_in_iff.mpr ⟨by decide, by decide⟩) (gof_no rfl) dX6_writeBytes_32 (fun f H locs w hT hR1 => ?_)
  have hR := hR.tr hR1
  refine lv_aload_n hx hb dX6_writeBytes_33 rfl (lv_at hl 1 rfl) ?_
  refine lv_dup hx hb dX6_writeBytes_34 rfl ?_
  refine t_geti C w hT hm_x ht_x (by decide) rfl cin_6 11 (by decide) rfl rfl gw_298 dX6_writeBytes_35 (fun x13 hg => ?_)
  obtain rfl : x13 = 9 := gof_at rfl hg
  refine lv_iconst (v := 1) hx hb dX6_writeBytes_38 (by decide) ?_
  refine lv_iadd hx hb dX6_writeBytes_39 ?_
  refine lv_topi (fun y14 ey14 => ?_)
  obtain rfl : y14 = 10 := ey14.trans (by decide)
  refine t_putS C w hT hm_x ht_x (fun b h1 h2 => hu_6 b x h1 hm_x h2 ht_x) (by decide) rfl cin_6 tyX6 tyX6_ok nmX6 11 (by decide) rfl rfl rfl rfl rfl gw_298 dX6_writeBytes_40 (fun f H locs w hT hR1 => ?_)
  have hT := hT.mono gof_set
  have hR := hR.tr hR1
  refine lv_iinc (v := 8) (lv' := [(2, .int 8), (0, .ref x), (1, .int fo)]) hx hb dX6_writeBytes_43 hl (k := 0) rfl (by decide) (by decide) rfl (fun ls hl => ?_)
  refine lv_goto (tgt := 3) hx hb dX6_writeBytes_46 (by decide) ?_
  refine lv_iload_n hx hb dX6_writeBytes_3 rfl (lv_at hl 0 rfl) ?_
  refine lv_if_lt (tgt := 49) hx hb dX6_writeBytes_4 (by decide) (fun c0 => absurd c0 (by decide)) (fun _ => ?_)
  refine lv_aload_n hx hb dX6_writeBytes_7 rfl (lv_at hl 1 rfl) ?_
  refine t_geti C w hT hm_x ht_x (by decide) rfl cin_6 11 (by decide) rfl rfl gw_298 dX6_writeBytes_8 (fun x15 hg => ?_)
  obtain rfl : x15 = 10 := gof_at rfl hg
  refine lv_sipush (v := 300) hx hb dX6_writeBytes_11 (by decide) ?_
  refine lv_icmp_ge (tgt := 43) hx hb dX6_writeBytes_14 (by decide) (fun c0 => absurd c0 (by decide)) (fun _ => ?_)
  refine lv_aload_n hx hb dX6_writeBytes_17 rfl (lv_at hl 1 rfl) ?_
  refine t_getr C w hT hm_x ht_x (by decide) rfl cin_6 10 (by decide) rfl gw_297 dX6_writeBytes_18 (fun q16 hm_q16 ht_q16 => ?_)
  refine lv_aload_n hx hb dX6_writeBytes_21 rfl (lv_at hl 1 rfl) ?_
  refine t_geti C w hT hm_x ht_x (by decide) rfl cin_6 11 (by decide) rfl rfl gw_298 dX6_writeBytes_22 (fun x17 hg => ?_)
  obtain rfl : x17 = 10 := gof_at rfl hg
  refine lv_iload_n hx hb dX6_writeBytes_25 rfl (lv_at hl 2 rfl) ?_
  refine lv_iload_n hx hb dX6_writeBytes_26 rfl (lv_at hl 0 rfl) ?_
  refine lv_iushr hx hb dX6_writeBytes_27 rfl ?_
  refine lv_topi (fun y18 ey18 => ?_)
  refine lv_sipush (v := 255) hx hb dX6_writeBytes_28 (by decide) ?_
  refine lv_iand hx hb dX6_writeBytes_31 ?_
  refine lv_topi (fun y19 ey19 => ?_)
  refine t_iast C w hT hm_q16 ht_q16 (by decide) (by decide) rfl (vp_in_iff.mpr ⟨by decide, by decide⟩) (gof_no rfl) dX6_writeBytes_32 (fun f H locs w hT hR1 => ?_)
  have hR := hR.tr hR1
  refine lv_aload_n hx hb dX6_writeBytes_33 rfl (lv_at hl 1 rfl) ?_
  refine lv_dup hx hb dX6_writeBytes_34 rfl ?_
  refine t_geti C w hT hm_x ht_x (by decide) rfl cin_6 11 (by decide) rfl rfl gw_298 dX6_writeBytes_35 (fun x20 hg => ?_)
  obtain rfl : x20 = 10 := gof_at rfl hg
  refine lv_iconst (v := 1) hx hb dX6_writeBytes_38 (by decide) ?_
  refine lv_iadd hx hb dX6_writeBytes_39 ?_
  refine lv_topi (fun y21 ey21 => ?_)
  obtain rfl : y21 = 11 := ey21.trans (by decide)
  refine t_putS C w hT hm_x ht_x (fun b h1 h2 => hu_6 b x h1 hm_x h2 ht_x) (by decide) rfl cin_6 tyX6 tyX6_ok nmX6 11 (by decide) rfl rfl rfl rfl rfl gw_298 dX6_writeBytes_40 (fun f H locs w hT hR1 => ?_)
  have hT := hT.mono gof_set
  have hR := hR.tr hR1
  refine lv_iinc (v := 0) (lv' := [(2, .int 0), (0, .ref x), (1, .int fo)]) hx hb dX6_writeBytes_43 hl (k := 0) rfl (by decide) (by decide) rfl (fun ls hl => ?_)
  refine lv_goto (tgt := 3) hx hb dX6_writeBytes_46 (by decide) ?_
  refine lv_iload_n hx hb dX6_writeBytes_3 rfl (lv_at hl 0 rfl) ?_
  refine lv_if_lt (tgt := 49) hx hb dX6_writeBytes_4 (by decide) (fun c0 => absurd c0 (by decide)) (fun _ => ?_)
  refine lv_aload_n hx hb dX6_writeBytes_7 rfl (lv_at hl 1 rfl) ?_
  refine t_geti C w hT hm_x ht_x (by decide) rfl cin_6 11 (by decide) rfl rfl gw_298 dX6_writeBytes_8 (fun x22 hg => ?_)
  obtain rfl : x22 = 11 := gof_at rfl hg
  refine lv_sipush (v := 300) hx hb dX6_writeBytes_11 (by decide) ?_
  refine lv_icmp_ge (tgt := 43) hx hb dX6_writeBytes_14 (by decide) (fun c0 => absurd c0 (by decide)) (fun _ => ?_)
  refine lv_aload_n hx hb dX6_writeBytes_17 rfl (lv_at hl 1 rfl) ?_
  refine t_getr C w hT hm_x ht_x (by decide) rfl cin_6 10 (by decide) rfl gw_297 dX6_writeBytes_18 (fun q23 hm_q23 ht_q23 => ?_)
  refine lv_aload_n hx hb dX6_writeBytes_21 rfl (lv_at hl 1 rfl) ?_
  refine t_geti C w hT hm_x ht_x (by decide) rfl cin_6 11 (by decide) rfl rfl gw_298 dX6_writeBytes_22 (fun x24 hg => ?_)
  obtain rfl : x24 = 11 := gof_at rfl hg
  refine lv_iload_n hx hb dX6_writeBytes_25 rfl (lv_at hl 2 rfl) ?_
  refine lv_iload_n hx hb dX6_writeBytes_26 rfl (lv_at hl 0 rfl) ?_
  refine lv_iushr hx hb dX6_writeBytes_27 rfl ?_
  refine lv_topi (fun y25 ey25 => ?_)
  refine lv_sipush (v := 255) hx hb dX6_writeBytes_28 (by decide) ?_
  refine lv_iand hx hb dX6_writeBytes_31 ?_
  refine lv_topi (fun y26 ey26 => ?_)
  refine t_iast C w hT hm_q23 ht_q23 (by decide) (by decide) rfl (vp_in_iff.mpr ⟨by decide, by decide⟩) (gof_no rfl) dX6_writeBytes_32 (fun f H locs w hT hR1 => ?_)
  have hR := hR.tr hR1
  refine lv_aload_n hx hb dX6_writeBytes_33 rfl (lv_at hl 1 rfl) ?_
  refine lv_dup hx hb dX6_writeBytes_34 rfl ?_
  refine t_geti C w hT hm_x ht_x (by decide) rfl cin_6 11 (by decide) rfl rfl gw_298 dX6_writeBytes_35 (fun x27 hg => ?_)
  obtain rfl : x27 = 11 := gof_at rfl hg
  refine lv_iconst (v := 1) hx hb dX6_writeBytes_38 (by decide) ?_
  refine lv_iadd hx hb dX6_writeBytes_39 ?_
  refine lv_topi (fun y28 ey28 => ?_)
  obtain rfl : y28 = 12 := ey28.trans (by decide)
  refine t_putS C w hT hm_x ht_x (fun b h1 h2 => hu_6 b x h1 hm_x h2 ht_x) (by decide) rfl cin_6 tyX6 tyX6_ok nmX6 11 (by decide) rfl rfl rfl rfl rfl gw_298 dX6_writeBytes_40 (fun f H locs w hT hR1 => ?_)
  have hT := hT.mono gof_set
  have hR := hR.tr hR1
  refine lv_iinc (v := (-8)) (lv' := [(2, .int (-8)), (0, .ref x), (1, .int fo)]) hx hb dX6_writeBytes_43 hl (k := 0) rfl (by decide) (by decide) rfl (fun ls hl => ?_)
  refine lv_goto (tgt := 3) hx hb dX6_writeBytes_46 (by decide) ?_
  refine lv_iload_n hx hb dX6_writeBytes_3 rfl (lv_at hl 0 rfl) ?_
  refine lv_if_lt (tgt := 49) hx hb dX6_writeBytes_4 (by decide) (fun _ => ?_) (fun c0 => absurd c0 (by decide))
  exact t_vret C hr hlk w ⟨_, rfl, rfl, (hT.mono (gof_sub rfl)), hR⟩ (by decide) (by decide) dX6_writeBytes_49
set_option maxHeartbeats 4000000 in
set_option maxRecDepth 100000 in
theorem c_X6_writeBytes12 (l : Launch) (D : va_G) (K : Nat → ClassId) (b0 : Nat) (sa : Nat × Nat × Nat) (sz : Nat) (L : List Nat) (f0 : Nat → va_E) (Ψ : Nat → Nat) (hT : TW K (gof ((611, 12) :: gX1)) Ψ L f0) (x : Nat) (hm_x : x ∈ L) (ht_x : Ψ x = 6) (fo : Int32) (hu_6 : ∀ b c : Nat, b ∈ L → c ∈ L → Ψ b = 6 → Ψ c = 6 → b = c) : Met l yX6_writeBytes (.code yX6_writeBytes cX6_writeBytes 3 none :: gt) { frames := 0, cells := 0, slots := 0, locals := 0 } (va_Pc [.ref x, .int fo] (hPre D K b0 sa sz L f0)) (hQ D K b0 (fun v9 u9 => ∃ f2 : Nat → va_E, v9 = none ∧ u9 = ((gof ((611, 16) :: gX1)), Ψ, L, f2) ∧ TW K (gof ((611, 16) :: gX1)) Ψ L f2 ∧ rawk Ψ L f0 f2)) 0 0 (fun q => b0 ≤ q) := by
  refine t_of (own := RX6) (by decide) rfl ?_ (Nat.le_of_ble_eq_true rfl)
  intro p e s m below meth c ls C w hsz hr hlk hnm hl
  have hx := C.1
  have hb := C.2.1
  have hl : lv_has ls 3 [(0, .ref x), (1, .int fo)] := hl
  have hb_fo := ti_bd fo
  have hR : rawk Ψ L f0 f0 := rawk.rf
  refine lv_bipush (v := 24) hx hb dX6_writeBytes_0 (by decide) ?_
  refine lv_istore_n (lv' := [(2, .int 24), (0, .ref x), (1, .int fo)]) hx hb dX6_writeBytes_2 rfl hl (by decide) rfl (fun ls hl => ?_)
  refine lv_iload_n hx hb dX6_writeBytes_3 rfl (lv_at hl 0 rfl) ?_
  refine lv_if_lt (tgt := 49) hx hb dX6_writeBytes_4 (by decide) (fun c0 => absurd c0 (by decide)) (fun _ => ?_)
  refine lv_aload_n hx hb dX6_writeBytes_7 rfl (lv_at hl 1 rfl) ?_
  refine t_geti C w hT hm_x ht_x (by decide) rfl cin_6 11 (by decide) rfl rfl gw_298 dX6_writeBytes_8 (fun x1 hg => ?_)
  obtain rfl : x1 = 12 := gof_at rfl hg
  refine lv_sipush (v := 300) hx hb dX6_writeBytes_11 (by decide) ?_
  refine lv_icmp_ge (tgt := 43) hx hb dX6_writeBytes_14 (by decide) (fun c0 => absurd c0 (by decide)) (fun _ => ?_)
  refine lv_aload_n hx hb dX6_writeBytes_17 rfl (lv_at hl 1 rfl) ?_
  refine t_getr C w hT hm_x ht_x (by decide) rfl cin_6 10 (by decide) rfl gw_297 dX6_writeBytes_18 (fun q2 hm_q2 ht_q2 => ?_)
  refine lv_aload_n hx hb dX6_writeBytes_21 rfl (lv_at hl 1 rfl) ?_
  refine t_geti C w hT hm_x ht_x (by decide) rfl cin_6 11 (by decide) rfl rfl gw_298 dX6_writeBytes_22 (fun x3 hg => ?_)
  obtain rfl : x3 = 12 := gof_at rfl hg
  refine lv_iload_n hx hb dX6_writeBytes_25 rfl (lv_at hl 2 rfl) ?_
  refine lv_iload_n hx hb dX6_writeBytes_26 rfl (lv_at hl 0 rfl) ?_
  refine lv_iushr hx hb dX6_writeBytes_27 rfl ?_
  refine lv_topi (fun y4 ey4 => ?_)
  refine lv_sipush (v := 255) hx hb dX6_writeBytes_28 (by decide) ?_
  refine lv_iand hx hb dX6_writeBytes_31 ?_
  refine lv_topi (fun y5 ey5 => ?_)
  refine t_iast C w hT hm_q2 ht_q2 (by decide) (by decide) rfl (vp_in_iff.mpr ⟨by decide, by decide⟩) (gof_no rfl) dX6_writeBytes_32 (fun f H locs w hT hR1 => ?_)
  have hR := hR.tr hR1
  refine lv_aload_n hx hb dX6_writeBytes_33 rfl (lv_at hl 1 rfl) ?_
  refine lv_dup hx hb dX6_writeBytes_34 rfl ?_
  refine t_geti C w hT hm_x ht_x (by decide) rfl cin_6 11 (by decide) rfl rfl gw_298 dX6_writeBytes_35 (fun x6 hg => ?_)
  obtain rfl : x6 = 12 := gof_at rfl hg
  refine lv_iconst (v := 1) hx hb dX6_writeBytes_38 (by decide) ?_
  refine lv_iadd hx hb dX6_writeBytes_39 ?_
  refine lv_topi (fun y7 ey7 => ?_)
  obtain rfl : y7 = 13 := ey7.trans (by decide)
  refine t_putS C w hT hm_x ht_x (fun b h1 h2 => hu_6 b x h1 hm_x h2 ht_x) (by decide) rfl cin_6 tyX6 tyX6_ok nmX6 11 (by decide) rfl rfl rfl rfl rfl gw_298 dX6_writeBytes_40 (fun f H locs w hT hR1 => ?_)
  have hT := hT.mono gof_set
  have hR := hR.tr hR1
  refine lv_iinc (v := 16) (lv' := [(2, .int 16), (0, .ref x), (1, .int fo)]) hx hb dX6_writeBytes_43 hl (k := 0) rfl (by decide) (by decide) rfl (fun ls hl => ?_)
  refine lv_goto (tgt := 3) hx hb dX6_writeBytes_46 (by decide) ?_
  refine lv_iload_n hx hb dX6_writeBytes_3 rfl (lv_at hl 0 rfl) ?_
  refine lv_if_lt (tgt := 49) hx hb dX6_writeBytes_4 (by decide) (fun c0 => absurd c0 (by decide)) (fun _ => ?_)
  refine lv_aload_n hx hb dX6_writeBytes_7 rfl (lv_at hl 1 rfl) ?_
  refine t_geti C w hT hm_x ht_x (by decide) rfl cin_6 11 (by decide) rfl rfl gw_298 dX6_writeBytes_8 (fun x8 hg => ?_)
  obtain rfl : x8 = 13 := gof_at rfl hg
  refine lv_sipush (v := 300) hx hb dX6_writeBytes_11 (by decide) ?_
  refine lv_icmp_ge (tgt := 43) hx hb dX6_writeBytes_14 (by decide) (fun c0 => absurd c0 (by decide)) (fun _ => ?_)
  refine lv_aload_n hx hb dX6_writeBytes_17 rfl (lv_at hl 1 rfl) ?_
  refine t_getr C w hT hm_x ht_x (by decide) rfl cin_6 10 (by decide) rfl gw_297 dX6_writeBytes_18 (fun q9 hm_q9 ht_q9 => ?_)
  refine lv_aload_n hx hb dX6_writeBytes_21 rfl (lv_at hl 1 rfl) ?_
  refine t_geti C w hT hm_x ht_x (by decide) rfl cin_6 11 (by decide) rfl rfl gw_298 dX6_writeBytes_22 (fun x10 hg => ?_)
  obtain rfl : x10 = 13 := gof_at rfl hg
  refine lv_iload_n hx hb dX6_writeBytes_25 rfl (lv_at hl 2 rfl) ?_
  refine lv_iload_n hx hb dX6_writeBytes_26 rfl (lv_at hl 0 rfl) ?_
  refine lv_iushr hx hb dX6_writeBytes_27 rfl ?_
  refine lv_topi (fun y11 ey11 => ?_)
  refine lv_sipush (v := 255) hx hb dX6_writeBytes_28 (by decide) ?_
  refine lv_iand hx hb dX6_writeBytes_31 ?_
  refine lv_topi (fun y12 ey12 => ?_)
  refine t_iast C w hT hm_q9 ht_q9 (by decide) (by decide) rfl (vp_in_iff.mpr ⟨by decide, by decide⟩) (gof_no rfl) dX6_writeBytes_32 (fun f H locs w hT hR1 => ?_)
  have hR := hR.tr hR1
  refine lv_aload_n hx hb dX6_writeBytes_33 rfl (lv_at hl 1 rfl) ?_
  refine lv_dup hx hb dX6_writeBytes_34 rfl ?_
  refine t_geti C w hT hm_x ht_x (by decide) rfl cin_6 11 (by decide) rfl rfl gw_298 dX6_writeBytes_35 (fun x13 hg => ?_)
  obtain rfl : x13 = 13 := gof_at rfl hg
  refine lv_iconst (v := 1) hx hb dX6_writeBytes_38 (by decide) ?_
  refine lv_iadd hx hb dX6_writeBytes_39 ?_
  refine lv_topi (fun y14 ey14 => ?_)
  obtain rfl : y14 = 14 := ey14.trans (by decide)
  refine t_putS C w hT hm_x ht_x (fun b h1 h2 => hu_6 b x h1 hm_x h2 ht_x) (by decide) rfl cin_6 tyX6 tyX6_ok nmX6 11 (by decide) rfl rfl rfl rfl rfl gw_298 dX6_writeBytes_40 (fun f H locs w hT hR1 => ?_)
  have hT := hT.mono gof_set
  have hR := hR.tr hR1
  refine lv_iinc (v := 8) (lv' := [(2, .int 8), (0, .ref x), (1, .int fo)]) hx hb dX6_writeBytes_43 hl (k := 0) rfl (by decide) (by decide) rfl (fun ls hl => ?_)
  refine lv_goto (tgt := 3) hx hb dX6_writeBytes_46 (by decide) ?_
  refine lv_iload_n hx hb dX6_writeBytes_3 rfl (lv_at hl 0 rfl) ?_
  refine lv_if_lt (tgt := 49) hx hb dX6_writeBytes_4 (by decide) (fun c0 => absurd c0 (by decide)) (fun _ => ?_)
  refine lv_aload_n hx hb dX6_writeBytes_7 rfl (lv_at hl 1 rfl) ?_
  refine t_geti C w hT hm_x ht_x (by decide) rfl cin_6 11 (by decide) rfl rfl gw_298 dX6_writeBytes_8 (fun x15 hg => ?_)
  obtain rfl : x15 = 14 := gof_at rfl hg
  refine lv_sipush (v := 300) hx hb dX6_writeBytes_11 (by decide) ?_
  refine lv_icmp_ge (tgt := 43) hx hb dX6_writeBytes_14 (by decide) (fun c0 => absurd c0 (by decide)) (fun _ => ?_)
  refine lv_aload_n hx hb dX6_writeBytes_17 rfl (lv_at hl 1 rfl) ?_
  refine t_getr C w hT hm_x ht_x (by decide) rfl cin_6 10 (by decide) rfl gw_297 dX6_writeBytes_18 (fun q16 hm_q16 ht_q16 => ?_)
  refine lv_aload_n hx hb dX6_writeBytes_21 rfl (lv_at hl 1 rfl) ?_
  refine t_geti C w hT hm_x ht_x (by decide) rfl cin_6 11 (by decide) rfl rfl gw_298 dX6_writeBytes_22 (fun x17 hg => ?_)
  obtain rfl : x17 = 14 := gof_at rfl hg
  refine lv_iload_n hx hb dX6_writeBytes_25 rfl (lv_at hl 2 rfl) ?_
  refine lv_iload_n hx hb dX6_writeBytes_26 rfl (lv_at hl 0 rfl) ?_
  refine lv_iushr hx hb dX6_writeBytes_27 rfl ?_
  refine lv_topi (fun y18 ey18 => ?_)
  refine lv_sipush (v := 255) hx hb dX6_writeBytes_28 (by decide) ?_
  refine lv_iand hx hb dX6_writeBytes_31 ?_
  refine lv_topi (fun y19 ey19 => ?_)
  refine t_iast C w hT hm_q16 ht_q16 (by decide) (by decide) rfl (vp_in_iff.mpr ⟨by decide, by decide⟩) (gof_no rfl) dX6_writeBytes_32 (fun f H locs w hT hR1 => ?_)
  have hR := hR.tr hR1
  refine lv_aload_n hx hb dX6_writeBytes_33 rfl (lv_at hl 1 rfl) ?_
  refine lv_dup hx hb dX6_writeBytes_34 rfl ?_
  refine t_geti C w hT hm_x ht_x (by decide) rfl cin_6 11 (by decide) rfl rfl gw_298 dX6_writeBytes_35 (fun x20 hg => ?_)
  obtain rfl : x20 = 14 := gof_at rfl hg
  refine lv_iconst (v := 1) hx hb dX6_writeBytes_38 (by decide) ?_
  refine lv_iadd hx hb dX6_writeBytes_39 ?_
  refine lv_topi (fun y21 ey21 => ?_)
  obtain rfl : y21 = 15 := ey21.trans (by decide)
  refine t_putS C w hT hm_x ht_x (fun b h1 h2 => hu_6 b x h1 hm_x h2 ht_x) (by decide) rfl cin_6 tyX6 tyX6_ok nmX6 11 (by decide) rfl rfl rfl rfl rfl gw_298 dX6_writeBytes_40 (fun f H locs w hT hR1 => ?_)
  have hT := hT.mono gof_set
  have hR := hR.tr hR1
  refine lv_iinc (v := 0) (lv' := [(2, .int 0), (0, .ref x), (1, .int fo)]) hx hb dX6_writeBytes_43 hl (k := 0) rfl (by decide) (by decide) rfl (fun ls hl => ?_)
  refine lv_goto (tgt := 3) hx hb dX6_writeBytes_46 (by decide) ?_
  refine lv_iload_n hx hb dX6_writeBytes_3 rfl (lv_at hl 0 rfl) ?_
  refine lv_if_lt (tgt := 49) hx hb dX6_writeBytes_4 (by decide) (fun c0 => absurd c0 (by decide)) (fun _ => ?_)
  refine lv_aload_n hx hb dX6_writeBytes_7 rfl (lv_at hl 1 rfl) ?_
  refine t_geti C w hT hm_x ht_x (by decide) rfl cin_6 11 (by decide) rfl rfl gw_298 dX6_writeBytes_8 (fun x22 hg => ?_)
  obtain rfl : x22 = 15 := gof_at rfl hg
  refine lv_sipush (v := 300) hx hb dX6_writeBytes_11 (by decide) ?_
  refine lv_icmp_ge (tgt := 43) hx hb dX6_writeBytes_14 (by decide) (fun c0 => absurd c0 (by decide)) (fun _ => ?_)
  refine lv_aload_n hx hb dX6_writeBytes_17 rfl (lv_at hl 1 rfl) ?_
  refine t_getr C w hT hm_x ht_x (by decide) rfl cin_6 10 (by decide) rfl gw_297 dX6_writeBytes_18 (fun q23 hm_q23 ht_q23 => ?_)
  refine lv_aload_n hx hb dX6_writeBytes_21 rfl (lv_at hl 1 rfl) ?_
  refine t_geti C w hT hm_x ht_x (by decide) rfl cin_6 11 (by decide) rfl rfl gw_298 dX6_writeBytes_22 (fun x24 hg => ?_)
  obtain rfl : x24 = 15 := gof_at rfl hg
  refine lv_iload_n hx hb dX6_writeBytes_25 rfl (lv_at hl 2 rfl) ?_
  refine lv_iload_n hx hb dX6_writeBytes_26 rfl (lv_at hl 0 rfl) ?_
  refine lv_iushr hx hb dX6_writeBytes_27 rfl ?_
  refine lv_topi (fun y25 ey25 => ?_)
  refine lv_sipush (v := 255) hx hb dX6_writeBytes_28 (by decide) ?_
  refine lv_iand hx hb dX6_writeBytes_31 ?_
  refine lv_topi (fun y26 ey26 => ?_)
  refine t_iast C w hT hm_q23 ht_q23 (by decide) (by decide) rfl (vp_in_iff.mpr ⟨by decide, by decide⟩) (gof_no rfl) dX6_writeBytes_32 (fun f H locs w hT hR1 => ?_)
  have hR := hR.tr hR1
  refine lv_aload_n hx hb dX6_writeBytes_33 rfl (lv_at hl 1 rfl) ?_
  refine lv_dup hx hb dX6_writeBytes_34 rfl ?_
  refine t_geti C w hT hm_x ht_x (by decide) rfl cin_6 11 (by decide) rfl rfl gw_298 dX6_writeBytes_35 (fun x27 hg => ?_)
  obtain rfl : x27 = 15 := gof_at rfl hg
  refine lv_iconst (v := 1) hx hb dX6_writeBytes_38 (by decide) ?_
  refine lv_iadd hx hb dX6_writeBytes_39 ?_
  refine lv_topi (fun y28 ey28 => ?_)
  obtain rfl : y28 = 16 := ey28.trans (by decide)
  refine t_putS C w hT hm_x ht_x (fun b h1 h2 => hu_6 b x h1 hm_x h2 ht_x) (by decide) rfl cin_6 tyX6 tyX6_ok nmX6 11 (by decide) rfl rfl rfl rfl rfl gw_298 dX6_writeBytes_40 (fun f H locs w hT hR1 => ?_)
  have hT := hT.mono gof_set
  have hR := hR.tr hR1
  refine lv_iinc (v := (-8)) (lv' := [(2, .int (-8)), (0, .ref x), (1, .int fo)]) hx hb dX6_writeBytes_43 hl (k := 0) rfl (by decide) (by decide) rfl (fun ls hl => ?_)
  refine lv_goto (tgt := 3) hx hb dX6_writeBytes_46 (by decide) ?_
  refine lv_iload_n hx hb dX6_writeBytes_3 rfl (lv_at hl 0 rfl) ?_
  refine lv_if_lt (tgt := 49) hx hb dX6_writeBytes_4 (by decide) (fun _ => ?_) (fun c0 => absurd c0 (by decide))
  exact t_vret C hr hlk w ⟨_, rfl, rfl, (hT.mono (gof_sub rfl)), hR⟩ (by decide) (by decide) dX6_writeBytes_49
set_option maxHeartbeats 4000000 in
set_option maxRecDepth 100000 in
theorem c_X6_writeBytes16 (l : Launch) (D : va_G) (K : Nat → ClassId) (b0 : Nat) (sa : Nat × Nat × Nat) (sz : Nat) (L : List Nat) (f0 : Nat → va_E) (Ψ : Nat → Nat) (hT : TW K (gof ((611, 16) :: gX1)) Ψ L f0) (x : Nat) (hm_x : x ∈ L) (ht_x : Ψ x = 6) (fo : Int32) (hu_6 : ∀ b c : Nat, b ∈ L → c ∈ L → Ψ b = 6 → Ψ c = 6 → b = c) : Met l yX6_writeBytes (.code yX6_writeBytes cX6_writeBytes 3 none :: gt) { frames := 0, cells := 0, slots := 0, locals := 0 } (va_Pc [.ref x, .int fo] (hPre D K b0 sa sz L f0)) (hQ D K b0 (fun v9 u9 => ∃ f2 : Nat → va_E, v9 = none ∧ u9 = ((gof ((611, 20) :: gX1)), Ψ, L, f2) ∧ TW K (gof ((611, 20) :: gX1)) Ψ L f2 ∧ rawk Ψ L f0 f2)) 0 0 (fun q => b0 ≤ q) := by
  refine t_of (own := RX6) (by decide) rfl ?_ (Nat.le_of_ble_eq_true rfl)
  intro p e s m below meth c ls C w hsz hr hlk hnm hl
  have hx := C.1
  have hb := C.2.1
  have hl : lv_has ls 3 [(0, .ref x), (1, .int fo)] := hl
  have hb_fo := ti_bd fo
  have hR : rawk Ψ L f0 f0 := rawk.rf
  refine lv_bipush (v := 24) hx hb dX6_writeBytes_0 (by decide) ?_
  refine lv_istore_n (lv' := [(2, .int 24), (0, .ref x), (1, .int fo)]) hx hb dX6_writeBytes_2 rfl hl (by decide) rfl (fun ls hl => ?_)
  refine lv_iload_n hx hb dX6_writeBytes_3 rfl (lv_at hl 0 rfl) ?_
  refine lv_if_lt (tgt := 49) hx hb dX6_writeBytes_4 (by decide) (fun c0 => absurd c0 (by decide)) (fun _ => ?_)
  refine lv_aload_n hx hb dX6_writeBytes_7 rfl (lv_at hl 1 rfl) ?_
  refine t_geti C w hT hm_x ht_x (by decide) rfl cin_6 11 (by decide) rfl rfl gw_298 dX6_writeBytes_8 (fun x1 hg => ?_)
  obtain rfl : x1 = 16 := gof_at rfl hg
  refine lv_sipush (v := 300) hx hb dX6_writeBytes_11 (by decide) ?_
  refine lv_icmp_ge (tgt := 43) hx hb dX6_writeBytes_14 (by decide) (fun c0 => absurd c0 (by decide)) (fun _ => ?_)
  refine lv_aload_n hx hb dX6_writeBytes_17 rfl (lv_at hl 1 rfl) ?_
  refine t_getr C w hT hm_x ht_x (by decide) rfl cin_6 10 (by decide) rfl gw_297 dX6_writeBytes_18 (fun q2 hm_q2 ht_q2 => ?_)
  refine lv_aload_n hx hb dX6_writeBytes_21 rfl (lv_at hl 1 rfl) ?_
  refine t_geti C w hT hm_x ht_x (by decide) rfl cin_6 11 (by decide) rfl rfl gw_298 dX6_writeBytes_22 (fun x3 hg => ?_)
  obtain rfl : x3 = 16 := gof_at rfl hg
  refine lv_iload_n hx hb dX6_writeBytes_25 rfl (lv_at hl 2 rfl) ?_
  refine lv_iload_n hx hb dX6_writeBytes_26 rfl (lv_at hl 0 rfl) ?_
  refine lv_iushr hx hb dX6_writeBytes_27 rfl ?_
  refine lv_topi (fun y4 ey4 => ?_)
  refine lv_sipush (v := 255) hx hb dX6_writeBytes_28 (by decide) ?_
  refine lv_iand hx hb dX6_writeBytes_31 ?_
  refine lv_topi (fun y5 ey5 => ?_)
  refine t_iast C w hT hm_q2 ht_q2 (by decide) (by decide) rfl (vp_in_iff.mpr ⟨by decide, by decide⟩) (gof_no rfl) dX6_writeBytes_32 (fun f H locs w hT hR1 => ?_)
  have hR := hR.tr hR1
  refine lv_aload_n hx hb dX6_writeBytes_33 rfl (lv_at hl 1 rfl) ?_
  refine lv_dup hx hb dX6_writeBytes_34 rfl ?_
  refine t_geti C w hT hm_x ht_x (by decide) rfl cin_6 11 (by decide) rfl rfl gw_298 dX6_writeBytes_35 (fun x6 hg => ?_)
  obtain rfl : x6 = 16 := gof_at rfl hg
  refine lv_iconst (v := 1) hx hb dX6_writeBytes_38 (by decide) ?_
  refine lv_iadd hx hb dX6_writeBytes_39 ?_
  refine lv_topi (fun y7 ey7 => ?_)
  obtain rfl : y7 = 17 := ey7.trans (by decide)
  refine t_putS C w hT hm_x ht_x (fun b h1 h2 => hu_6 b x h1 hm_x h2 ht_x) (by decide) rfl cin_6 tyX6 tyX6_ok nmX6 11 (by decide) rfl rfl rfl rfl rfl gw_298 dX6_writeBytes_40 (fun f H locs w hT hR1 => ?_)
  have hT := hT.mono gof_set
  have hR := hR.tr hR1
  refine lv_iinc (v := 16) (lv' := [(2, .int 16), (0, .ref x), (1, .int fo)]) hx hb dX6_writeBytes_43 hl (k := 0) rfl (by decide) (by decide) rfl (fun ls hl => ?_)
  refine lv_goto (tgt := 3) hx hb dX6_writeBytes_46 (by decide) ?_
  refine lv_iload_n hx hb dX6_writeBytes_3 rfl (lv_at hl 0 rfl) ?_
  refine lv_if_lt (tgt := 49) hx hb dX6_writeBytes_4 (by decide) (fun c0 => absurd c0 (by decide)) (fun _ => ?_)
  refine lv_aload_n hx hb dX6_writeBytes_7 rfl (lv_at hl 1 rfl) ?_
  refine t_geti C w hT hm_x ht_x (by decide) rfl cin_6 11 (by decide) rfl rfl gw_298 dX6_writeBytes_8 (fun x8 hg => ?_)
  obtain rfl : x8 = 17 := gof_at rfl hg
  refine lv_sipush (v := 300) hx hb dX6_writeBytes_11 (by decide) ?_
  refine lv_icmp_ge (tgt := 43) hx hb dX6_writeBytes_14 (by decide) (fun c0 => absurd c0 (by decide)) (fun _ => ?_)
  refine lv_aload_n hx hb dX6_writeBytes_17 rfl (lv_at hl 1 rfl) ?_
  refine t_getr C w hT hm_x ht_x (by decide) rfl cin_6 10 (by decide) rfl gw_297 dX6_writeBytes_18 (fun q9 hm_q9 ht_q9 => ?_)
  refine lv_aload_n hx hb dX6_writeBytes_21 rfl (lv_at hl 1 rfl) ?_
  refine t_geti C w hT hm_x ht_x (by decide) rfl cin_6 11 (by decide) rfl rfl gw_298 dX6_writeBytes_22 (fun x10 hg => ?_)
  obtain rfl : x10 = 17 := gof_at rfl hg
  refine lv_iload_n hx hb dX6_writeBytes_25 rfl (lv_at hl 2 rfl) ?_
  refine lv_iload_n hx hb dX6_writeBytes_26 rfl (lv_at hl 0 rfl) ?_
  refine lv_iushr hx hb dX6_writeBytes_27 rfl ?_
  refine lv_topi (fun y11 ey11 => ?_)
  refine lv_sipush (v := 255) hx hb dX6_writeBytes_28 (by decide) ?_
  refine lv_iand hx hb dX6_writeBytes_31 ?_
  refine lv_topi (fun y12 ey12 => ?_)
  refine t_iast C w hT hm_q9 ht_q9 (by decide) (by decide) rfl (vp_in_iff.mpr ⟨by decide, by decide⟩) (gof_no rfl) dX6_writeBytes_32 (fun f H locs w hT hR1 => ?_)
  have hR := hR.tr hR1
  refine lv_aload_n hx hb dX6_writeBytes_33 rfl (lv_at hl 1 rfl) ?_
  refine lv_dup hx hb dX6_writeBytes_34 rfl ?_
  refine t_geti C w hT hm_x ht_x (by decide) rfl cin_6 11 (by decide) rfl rfl gw_298 dX6_writeBytes_35 (fun x13 hg => ?_)
  obtain rfl : x13 = 17 := gof_at rfl hg
  refine lv_iconst (v := 1) hx hb dX6_writeBytes_38 (by decide) ?_
  refine lv_iadd hx hb dX6_writeBytes_39 ?_
  refine lv_topi (fun y14 ey14 => ?_)
  obtain rfl : y14 = 18 := ey14.trans (by decide)
  refine t_putS C w hT hm_x ht_x (fun b h1 h2 => hu_6 b x h1 hm_x h2 ht_x) (by decide) rfl cin_6 tyX6 tyX6_ok nmX6 11 (by decide) rfl rfl rfl rfl rfl gw_298 dX6_writeBytes_40 (fun f H locs w hT hR1 => ?_)
  have hT := hT.mono gof_set
  have hR := hR.tr hR1
  refine lv_iinc (v := 8) (lv' := [(2, .int 8), (0, .ref x), (1, .int fo)]) hx hb dX6_writeBytes_43 hl (k := 0) rfl (by decide) (by decide) rfl (fun ls hl => ?_)
  refine lv_goto (tgt := 3) hx hb dX6_writeBytes_46 (by decide) ?_
  refine lv_iload_n hx hb dX6_writeBytes_3 rfl (lv_at hl 0 rfl) ?_
  refine lv_if_lt (tgt := 49) hx hb dX6_writeBytes_4 (by decide) (fun c0 => absurd c0 (by decide)) (fun _ => ?_)
  refine lv_aload_n hx hb dX6_writeBytes_7 rfl (lv_at hl 1 rfl) ?_
  refine t_geti C w hT hm_x ht_x (by decide) rfl cin_6 11 (by decide) rfl rfl gw_298 dX6_writeBytes_8 (fun x15 hg => ?_)
  obtain rfl : x15 = 18 := gof_at rfl hg
  refine lv_sipush (v := 300) hx hb dX6_writeBytes_11 (by decide) ?_
  refine lv_icmp_ge (tgt := 43) hx hb dX6_writeBytes_14 (by decide) (fun c0 => absurd c0 (by decide)) (fun _ => ?_)
  refine lv_aload_n hx hb dX6_writeBytes_17 rfl (lv_at hl 1 rfl) ?_
  refine t_getr C w hT hm_x ht_x (by decide) rfl cin_6 10 (by decide) rfl gw_297 dX6_writeBytes_18 (fun q16 hm_q16 ht_q16 => ?_)
  refine lv_aload_n hx hb dX6_writeBytes_21 rfl (lv_at hl 1 rfl) ?_
  refine t_geti C w hT hm_x ht_x (by decide) rfl cin_6 11 (by decide) rfl rfl gw_298 dX6_writeBytes_22 (fun x17 hg => ?_)
  obtain rfl : x17 = 18 := gof_at rfl hg
  refine lv_iload_n hx hb dX6_writeBytes_25 rfl (lv_at hl 2 rfl) ?_
  refine lv_iload_n hx hb dX6_writeBytes_26 rfl (lv_at hl 0 rfl) ?_
  refine lv_iushr hx hb dX6_writeBytes_27 rfl ?_
  refine lv_topi (fun y18 ey18 => ?_)
  refine lv_sipush (v := 255) hx hb dX6_writeBytes_28 (by decide) ?_
  refine lv_iand hx hb dX6_writeBytes_31 ?_
  refine lv_topi (fun y19 ey19 => ?_)
  refine t_iast C w hT hm_q16 ht_q16 (by decide) (by decide) rfl (vp_in_iff.mpr ⟨by decide, by decide⟩) (gof_no rfl) dX6_writeBytes_32 (fun f H locs w hT hR1 => ?_)
  have hR := hR.tr hR1
  refine lv_aload_n hx hb dX6_writeBytes_33 rfl (lv_at hl 1 rfl) ?_
  refine lv_dup hx hb dX6_writeBytes_34 rfl ?_
  refine t_geti C w hT hm_x ht_x (by decide) rfl cin_6 11 (by decide) rfl rfl gw_298 dX6_writeBytes_35 (fun x20 hg => ?_)
  obtain rfl : x20 = 18 := gof_at rfl hg
  refine lv_iconst (v := 1) hx hb dX6_writeBytes_38 (by decide) ?_
  refine lv_iadd hx hb dX6_writeBytes_39 ?_
  refine lv_topi (fun y21 ey21 => ?_)
  obtain rfl : y21 = 19 := ey21.trans (by decide)
  refine t_putS C w hT hm_x ht_x (fun b h1 h2 => hu_6 b x h1 hm_x h2 ht_x) (by decide) rfl cin_6 tyX6 tyX6_ok nmX6 11 (by decide) rfl rfl rfl rfl rfl gw_298 dX6_writeBytes_40 (fun f H locs w hT hR1 => ?_)
  have hT := hT.mono gof_set
  have hR := hR.tr hR1
  refine lv_iinc (v := 0) (lv' := [(2, .int 0), (0, .ref x), (1, .int fo)]) hx hb dX6_writeBytes_43 hl (k := 0) rfl (by decide) (by decide) rfl (fun ls hl => ?_)
  refine lv_goto (tgt := 3) hx hb dX6_writeBytes_46 (by decide) ?_
  refine lv_iload_n hx hb dX6_writeBytes_3 rfl (lv_at hl 0 rfl) ?_
  refine lv_if_lt (tgt := 49) hx hb dX6_writeBytes_4 (by decide) (fun c0 => absurd c0 (by decide)) (fun _ => ?_)
  refine lv_aload_n hx hb dX6_writeBytes_7 rfl (lv_at hl 1 rfl) ?_
  refine t_geti C w hT hm_x ht_x (by decide) rfl cin_6 11 (by decide) rfl rfl gw_298 dX6_writeBytes_8 (fun x22 hg => ?_)
  obtain rfl : x22 = 19 := gof_at rfl hg
  refine lv_sipush (v := 300) hx hb dX6_writeBytes_11 (by decide) ?_
  refine lv_icmp_ge (tgt := 43) hx hb dX6_writeBytes_14 (by decide) (fun c0 => absurd c0 (by decide)) (fun _ => ?_)
  refine lv_aload_n hx hb dX6_writeBytes_17 rfl (lv_at hl 1 rfl) ?_
  refine t_getr C w hT hm_x ht_x (by decide) rfl cin_6 10 (by decide) rfl gw_297 dX6_writeBytes_18 (fun q23 hm_q23 ht_q23 => ?_)
  refine lv_aload_n hx hb dX6_writeBytes_21 rfl (lv_at hl 1 rfl) ?_
  refine t_geti C w hT hm_x ht_x (by decide) rfl cin_6 11 (by decide) rfl rfl gw_298 dX6_writeBytes_22 (fun x24 hg => ?_)
  obtain rfl : x24 = 19 := gof_at rfl hg
  refine lv_iload_n hx hb dX6_writeBytes_25 rfl (lv_at hl 2 rfl) ?_
  refine lv_iload_n hx hb dX6_writeBytes_26 rfl (lv_at hl 0 rfl) ?_
  refine lv_iushr hx hb dX6_writeBytes_27 rfl ?_
  refine lv_topi (fun y25 ey25 => ?_)
  refine lv_sipush (v := 255) hx hb dX6_writeBytes_28 (by decide) ?_
  refine lv_iand hx hb dX6_writeBytes_31 ?_
  refine lv_topi (fun y26 ey26 => ?_)
  refine t_iast C w hT hm_q23 ht_q23 (by decide) (by decide) rfl (vp_in_iff.mpr ⟨by decide, by decide⟩) (gof_no rfl) dX6_writeBytes_32 (fun f H locs w hT hR1 => ?_)
  have hR := hR.tr hR1
  refine lv_aload_n hx hb dX6_writeBytes_33 rfl (lv_at hl 1 rfl) ?_
  refine lv_dup hx hb dX6_writeBytes_34 rfl ?_
  refine t_geti C w hT hm_x ht_x (by decide) rfl cin_6 11 (by decide) rfl rfl gw_298 dX6_writeBytes_35 (fun x27 hg => ?_)
  obtain rfl : x27 = 19 := gof_at rfl hg
  refine lv_iconst (v := 1) hx hb dX6_writeBytes_38 (by decide) ?_
  refine lv_iadd hx hb dX6_writeBytes_39 ?_
  refine lv_topi (fun y28 ey28 => ?_)
  obtain rfl : y28 = 20 := ey28.trans (by decide)
  refine t_putS C w hT hm_x ht_x (fun b h1 h2 => hu_6 b x h1 hm_x h2 ht_x) (by decide) rfl cin_6 tyX6 tyX6_ok nmX6 11 (by decide) rfl rfl rfl rfl rfl gw_298 dX6_writeBytes_40 (fun f H locs w hT hR1 => ?_)
  have hT := hT.mono gof_set
  have hR := hR.tr hR1
  refine lv_iinc (v := (-8)) (lv' := [(2, .int (-8)), (0, .ref x), (1, .int fo)]) hx hb dX6_writeBytes_43 hl (k := 0) rfl (by decide) (by decide) rfl (fun ls hl => ?_)
  refine lv_goto (tgt := 3) hx hb dX6_writeBytes_46 (by decide) ?_
  refine lv_iload_n hx hb dX6_writeBytes_3 rfl (lv_at hl 0 rfl) ?_
  refine lv_if_lt (tgt := 49) hx hb dX6_writeBytes_4 (by decide) (fun _ => ?_) (fun c0 => absurd c0 (by decide))
  exact t_vret C hr hlk w ⟨_, rfl, rfl, (hT.mono (gof_sub rfl)), hR⟩ (by decide) (by decide) dX6_writeBytes_49
set_option maxHeartbeats 4000000 in
set_option maxRecDepth 100000 in
theorem c_X6_feed (l : Launch) (D : va_G) (K : Nat → ClassId) (b0 : Nat) (sa : Nat × Nat × Nat) (sz : Nat) (L : List Nat) (f0 : Nat → va_E) (Ψ : Nat → Nat) (hT : TW K (gof gX1) Ψ L f0) (x : Nat) (hm_x : x ∈ L) (ht_x : Ψ x = 6) (a1 : Int32) (a2 : Int32) (a3 : Int32) (a4 : Int32) (a5 : Int32) (hu_6 : ∀ b c : Nat, b ∈ L → c ∈ L → Ψ b = 6 → Ψ c = 6 → b = c) : Met l yX6_feed (.code yX6_feed cX6_feed 6 (some .int) :: gt) { frames := 1, cells := 0, slots := 0, locals := 22 } (va_Pc [.ref x, .int a1, .int a2, .int a3, .int a4, .int a5] (hPre D K b0 sa sz L f0)) (hQ D K b0 (fun v9 u9 => ∃ (r : Int32) (f2 : Nat → va_E), v9 = some (.int r) ∧ u9 = ((gof gM0), Ψ, L, f2) ∧ TW K (gof gM0) Ψ L f2 ∧ rawk Ψ L f0 f2 ∧ (r = 20))) 0 0 (fun q => b0 ≤ q) := by
  refine t_of (own := RX6) (by decide) rfl ?_ (Nat.le_of_ble_eq_true rfl)
  intro p e s m below meth c ls C w hsz hr hlk hnm hl
  have hx := C.1
  have hb := C.2.1
  have hl : lv_has ls 6 [(0, .ref x), (1, .int a1), (2, .int a2), (3, .int a3), (4, .int a4), (5, .int a5)] := hl
  have hb_a1 := ti_bd a1
  have hb_a2 := ti_bd a2
  have hb_a3 := ti_bd a3
  have hb_a4 := ti_bd a4
  have hb_a5 := ti_bd a5
  have hR : rawk Ψ L f0 f0 := rawk.rf
  refine lv_aload_n hx hb dX6_feed_0 rfl (lv_at hl 0 rfl) ?_
  refine t_geti C w hT hm_x ht_x (by decide) rfl cin_6 11 (by decide) rfl rfl gw_298 dX6_feed_1 (fun x1 hg => ?_)
  obtain rfl : x1 = 0 := gof_at rfl hg
  refine lv_bipush (v := 20) hx hb dX6_feed_4 (by decide) ?_
  refine lv_iadd hx hb dX6_feed_6 ?_
  refine lv_topi (fun y2 ey2 => ?_)
  obtain rfl : y2 = 20 := ey2.trans (by decide)
  refine lv_sipush (v := 300) hx hb dX6_feed_7 (by decide) ?_
  refine lv_icmp_le (tgt := 15) hx hb dX6_feed_10 (by decide) (fun _ => ?_) (fun c0 => absurd c0 (by decide))
  refine lv_aload_n hx hb dX6_feed_15 rfl (lv_at hl 0 rfl) ?_
  refine lv_iload_n hx hb dX6_feed_16 rfl (lv_at hl 1 rfl) ?_
  refine t_callV (n := 1) C w hT hm_x ht_x (by decide) rfl rfl (c_X6_writeBytes0 l D K b0 sa _ L _ Ψ hT x hm_x ht_x a1 hu_6) gw_353 gw_350 gw_352 gs_0 gw_1 ⟨by decide, by decide, by decide +kernel⟩ rfl rfl ⟨by decide, by decide⟩ rfl hl.1 rfl (Nat.le_of_ble_eq_true rfl) dX6_feed_17 ⟨by decide, by decide⟩ (fun v u H locs hp w => ?_)
  obtain ⟨f2, rfl, rfl, hT2, hR1⟩ := hp
  have hR := hR.tr hR1
  clear hT
  have hT := hT2
  clear hT2
  generalize f2 = f at w hT hR
  refine lv_aload_n hx hb dX6_feed_20 rfl (lv_at hl 0 rfl) ?_
  refine lv_iload_n hx hb dX6_feed_21 rfl (lv_at hl 2 rfl) ?_
  refine t_callV (n := 1) C w hT hm_x ht_x (by decide) rfl rfl (c_X6_writeBytes4 l D K b0 sa _ L _ Ψ hT x hm_x ht_x a2 hu_6) gw_353 gw_350 gw_352 gs_0 gw_1 ⟨by decide, by decide, by decide +kernel⟩ rfl rfl ⟨by decide, by decide⟩ rfl hl.1 rfl (Nat.le_of_ble_eq_true rfl) dX6_feed_22 ⟨by decide, by decide⟩ (fun v u H locs hp w => ?_)
  obtain ⟨f2, rfl, rfl, hT2, hR1⟩ := hp
  have hR := hR.tr hR1
  clear hT
  have hT := hT2
  clear hT2
  generalize f2 = f at w hT hR
  refine lv_aload_n hx hb dX6_feed_25 rfl (lv_at hl 0 rfl) ?_
  refine lv_iload_n hx hb dX6_feed_26 rfl (lv_at hl 3 rfl) ?_
  refine t_callV (n := 1) C w hT hm_x ht_x (by decide) rfl rfl (c_X6_writeBytes8 l D K b0 sa _ L _ Ψ hT x hm_x ht_x a3 hu_6) gw_353 gw_350 gw_352 gs_0 gw_1 ⟨by decide, by decide, by decide +kernel⟩ rfl rfl ⟨by decide, by decide⟩ rfl hl.1 rfl (Nat.le_of_ble_eq_true rfl) dX6_feed_27 ⟨by decide, by decide⟩ (fun v u H locs hp w => ?_)
  obtain ⟨f2, rfl, rfl, hT2, hR1⟩ := hp
  have hR := hR.tr hR1
  clear hT
  have hT := hT2
  clear hT2
  generalize f2 = f at w hT hR
  refine lv_aload_n hx hb dX6_feed_30 rfl (lv_at hl 0 rfl) ?_
  refine lv_iload hx hb dX6_feed_31 (lv_at hl 4 rfl) ?_
  refine t_callV (n := 1) C w hT hm_x ht_x (by decide) rfl rfl (c_X6_writeBytes12 l D K b0 sa _ L _ Ψ hT x hm_x ht_x a4 hu_6) gw_353 gw_350 gw_352 gs_0 gw_1 ⟨by decide, by decide, by decide +kernel⟩ rfl rfl ⟨by decide, by decide⟩ rfl hl.1 rfl (Nat.le_of_ble_eq_true rfl) dX6_feed_33 ⟨by decide, by decide⟩ (fun v u H locs hp w => ?_)
  obtain ⟨f2, rfl, rfl, hT2, hR1⟩ := hp
  have hR := hR.tr hR1
  clear hT
  have hT := hT2
  clear hT2
  generalize f2 = f at w hT hR
  refine lv_aload_n hx hb dX6_feed_36 rfl (lv_at hl 0 rfl) ?_
  refine lv_iload hx hb dX6_feed_37 (lv_at hl 5 rfl) ?_
  refine t_callV (n := 1) C w hT hm_x ht_x (by decide) rfl rfl (c_X6_writeBytes16 l D K b0 sa _ L _ Ψ hT x hm_x ht_x a5 hu_6) gw_353 gw_350 gw_352 gs_0 gw_1 ⟨by decide, by decide, by decide +kernel⟩ rfl rfl ⟨by decide, by decide⟩ rfl hl.1 rfl (Nat.le_of_ble_eq_true rfl) dX6_feed_39 ⟨by decide, by decide⟩ (fun v u H locs hp w => ?_)
  obtain ⟨f2, rfl, rfl, hT2, hR1⟩ := hp
  have hR := hR.tr hR1
  clear hT
  have hT := hT2
  clear hT2
  generalize f2 = f at w hT hR
  refine lv_aload_n hx hb dX6_feed_42 rfl (lv_at hl 0 rfl) ?_
  refine t_geti C w hT hm_x ht_x (by decide) rfl cin_6 11 (by decide) rfl rfl gw_298 dX6_feed_43 (fun x3 hg => ?_)
  obtain rfl : x3 = 20 := gof_at rfl hg
  have n20 : (20 : Int32).toInt = 20 := by decide
  exact t_iret C hr hlk w ⟨_, _, rfl, rfl, (hT.mono (gof_sub rfl)), hR, rfl⟩ (by decide) (by decide) dX6_feed_46
set_option maxHeartbeats 4000000 in
set_option maxRecDepth 100000 in
theorem c_X6_hand (l : Launch) (hls : l.stackTraces = false) (D : va_G) (K : Nat → ClassId) (b0 : Nat) (sa : Nat × Nat × Nat) (sz : Nat) (L : List Nat) (f0 : Nat → va_E) (Ψ : Nat → Nat) (hT : TW K (gof gX1) Ψ L f0) (x : Nat) (hm_x : x ∈ L) (ht_x : Ψ x = 6) (di : Int32) (hu_6 : ∀ b c : Nat, b ∈ L → c ∈ L → Ψ b = 6 → Ψ c = 6 → b = c) : vx_Met l yX6_hand (.code yX6_hand cX6_hand 2 (some .int) :: gt) { frames := 7, cells := 1, slots := 6, locals := 102 } (va_Pc [.ref x, .int di] (hPre D K b0 sa sz L f0)) (hQ D K b0 (fun v9 u9 => ∃ (r : Int32) (f2 : Nat → va_E), v9 = some (.int r) ∧ u9 = ((gof gM0), Ψ, L, f2) ∧ TW K (gof gM0) Ψ L f2 ∧ rawk Ψ L f0 f2 ∧ (r = 0 ∧ (1 ≤ di.toInt ∧ di.toInt ≤ 134217727)))) (hX D K b0 (fun E u9 => ∃ f2 : Nat → va_E, u9 = ((gof gM0), Ψ, L, f2) ∧ TW K (gof gM0) Ψ L f2 ∧ rawk Ψ L f0 f2 ∧ (E = "java/lang/IllegalArgumentException" ∧ (¬ (1 ≤ di.toInt ∧ di.toInt ≤ 134217727))))) 1 6 (fun q => b0 ≤ q) := by
  refine t_xof (own := RX6) (by decide) rfl ?_ (Nat.le_of_ble_eq_true rfl)
  intro p e s m below meth c ls C w hsz hr hlk htb hl
  have hx := C.1
  have hb := C.2.1
  have hl : lv_has ls 2 [(0, .ref x), (1, .int di)] := hl
  have hb_di := ti_bd di
  have hR : rawk Ψ L f0 f0 := rawk.rf
  refine lv_iload_n hx hb dX6_hand_0 rfl (lv_at hl 1 rfl) ?_
  refine lv_iconst (v := 1) hx hb dX6_hand_1 (by decide) ?_
  refine lv_ldc hx hb C.2.2.2.1 (C.2.2.2.2 _ gw_998) dX6_hand_2 ?_
  have n1 : (1 : Int32).toInt = 1 := by decide
  have n134217727 : (134217727 : Int32).toInt = 134217727 := by decide
  refine t_callS (n := 3) C w (c_X6_within l D K b0 sa _ L _ Ψ (gof gX1) hT di 1 134217727) gw_376 gw_374 gw_375 gw_1 ⟨by decide, by decide, by decide +kernel⟩ rfl rfl ⟨by decide, by decide⟩ rfl hl.1 rfl (Nat.le_of_ble_eq_true rfl) dX6_hand_4 ⟨by decide, by decide⟩ (fun v u H locs hp w => ?_)
  obtain ⟨r1, rfl, rfl, hrr1⟩ := hp
  rcases hrr1 with ⟨rfl, hf0_r1, hf1_r1⟩ | ⟨rfl, hf0_r1⟩
  ·
    refine t_xcallS (n := 1) C w (c_X6_need l hls D K b0 sa _ L _ Ψ (gof gX1) hT 1) gw_625 gw_623 gw_624 gw_1 ⟨by decide, by decide, by decide +kernel⟩ rfl rfl ⟨by decide, by decide⟩ rfl hl.1 rfl (Nat.le_of_ble_eq_true rfl) dX6_hand_7 ⟨by decide, by decide⟩ (fun E ce q9 u H locs hp w hcell hv0 hcl => ?_) (fun v u H locs hp w => ?_)
    · obtain ⟨f2, rfl, hT2, hR1, hpx⟩ := hp
      have hR := hR.tr hR1
      obtain ⟨rfl, hx0⟩ := hpx
      exfalso; omega
    ·
      obtain ⟨rfl, rfl, hpv0⟩ := hp
      refine lv_aload_n hx hb dX6_hand_10 rfl (lv_at hl 0 rfl) ?_
      refine t_geti C w hT hm_x ht_x (by decide) rfl cin_6 9 (by decide) rfl rfl gw_296 dX6_hand_11 (fun x2 hg => ?_)
      obtain rfl : x2 = 0 := gof_at rfl hg
      refine lv_bipush (v := 6) hx hb dX6_hand_14 (by decide) ?_
      refine lv_icmp_lt (tgt := 21) hx hb dX6_hand_16 (by decide) (fun _ => ?_) (fun c0 => absurd c0 (by decide))
      refine lv_aload_n hx hb dX6_hand_21 rfl (lv_at hl 0 rfl) ?_
      refine t_getr C w hT hm_x ht_x (by decide) rfl cin_6 8 (by decide) rfl gw_295 dX6_hand_22 (fun q3 hm_q3 ht_q3 => ?_)
      refine lv_aload_n hx hb dX6_hand_25 rfl (lv_at hl 0 rfl) ?_
      refine t_geti C w hT hm_x ht_x (by decide) rfl cin_6 9 (by decide) rfl rfl gw_296 dX6_hand_26 (fun x4 hg => ?_)
      obtain rfl : x4 = 0 := gof_at rfl hg
      refine lv_iload_n hx hb dX6_hand_29 rfl (lv_at hl 1 rfl) ?_
      refine t_iast C w hT hm_q3 ht_q3 (by decide) (by decide) rfl (vp_in_iff.mpr ⟨by decide, by decide⟩) (gof_no rfl) dX6_hand_30 (fun f H locs w hT hR1 => ?_)
      have hR := hR.tr hR1
      refine lv_aload_n hx hb dX6_hand_31 rfl (lv_at hl 0 rfl) ?_
      refine lv_dup hx hb dX6_hand_32 rfl ?_
      refine t_geti C w hT hm_x ht_x (by decide) rfl cin_6 9 (by decide) rfl rfl gw_296 dX6_hand_33 (fun x5 hg => ?_)
      obtain rfl : x5 = 0 := gof_at rfl hg
      refine lv_iconst (v := 1) hx hb dX6_hand_36 (by decide) ?_
      refine lv_iadd hx hb dX6_hand_37 ?_
      refine lv_topi (fun y6 ey6 => ?_)
      obtain rfl : y6 = 1 := ey6.trans (by decide)
      refine t_putS C w hT hm_x ht_x (fun b h1 h2 => hu_6 b x h1 hm_x h2 ht_x) (by decide) rfl cin_6 tyX6 tyX6_ok nmX6 9 (by decide) rfl rfl rfl rfl rfl gw_296 dX6_hand_38 (fun f H locs w hT hR1 => ?_)
      have hT := hT.mono gof_set
      have hR := hR.tr hR1
      refine lv_aload_n hx hb dX6_hand_41 rfl (lv_at hl 0 rfl) ?_
      refine t_geti C w hT hm_x ht_x (by decide) rfl cin_6 9 (by decide) rfl rfl gw_296 dX6_hand_42 (fun x7 hg => ?_)
      obtain rfl : x7 = 1 := gof_at rfl hg
      refine lv_iconst (v := 1) hx hb dX6_hand_45 (by decide) ?_
      refine lv_isub hx hb dX6_hand_46 ?_
      refine lv_topi (fun y8 ey8 => ?_)
      obtain rfl : y8 = 0 := ey8.trans (by decide)
      have n0 : (0 : Int32).toInt = 0 := by decide
      refine vx_ret ?_
      exact t_iret C hr hlk w ⟨_, _, rfl, rfl, (hT.mono (gof_sub rfl)), hR, ⟨rfl, (by omega)⟩⟩ (by decide) (by decide) dX6_hand_47
  ·
    have n0 : (0 : Int32).toInt = 0 := by decide
    refine t_xcallS (n := 1) C w (c_X6_need l hls D K b0 sa _ L _ Ψ (gof gX1) hT 0) gw_625 gw_623 gw_624 gw_1 ⟨by decide, by decide, by decide +kernel⟩ rfl rfl ⟨by decide, by decide⟩ rfl hl.1 rfl (Nat.le_of_ble_eq_true rfl) dX6_hand_7 ⟨by decide, by decide⟩ (fun E ce q9 u H locs hp w hcell hv0 hcl => ?_) (fun v u H locs hp w => ?_)
    · obtain ⟨f2, rfl, hT2, hR1, hpx⟩ := hp
      have hR := hR.tr hR1
      obtain ⟨rfl, hx0⟩ := hpx
      exact t_xout w htb hlk hcell hv0 hcl ⟨_, rfl, (hT2.mono (gof_sub rfl)), hR, ⟨rfl, (by omega)⟩⟩ (by decide) (by decide)
    ·
      obtain ⟨rfl, rfl, hpv0⟩ := hp
      exfalso; omega
set_option maxHeartbeats 4000000 in
set_option maxRecDepth 100000 in
theorem c_X6_image (l : Launch) (D : va_G) (K : Nat → ClassId) (b0 : Nat) (sa : Nat × Nat × Nat) (sz : Nat) (L : List Nat) (f0 : Nat → va_E) (Ψ : Nat → Nat) (hT : TW K (gof gX1) Ψ L f0) (x : Nat) (hm_x : x ∈ L) (ht_x : Ψ x = 6) (hu_6 : ∀ b c : Nat, b ∈ L → c ∈ L → Ψ b = 6 → Ψ c = 6 → b = c) : Met l yX6_image (.code yX6_image cX6_image 1 (some .int) :: gt) { frames := 3, cells := 0, slots := 0, locals := 103 } (va_Pc [.ref x] (hPre D K b0 sa sz L f0)) (hQ D K b0 (fun v9 u9 => ∃ (r : Int32) (f2 : Nat → va_E), v9 = some (.int r) ∧ u9 = ((gof gM0), Ψ, L, f2) ∧ TW K (gof gM0) Ψ L f2 ∧ rawk Ψ L f0 f2 ∧ (r = 1))) 0 0 (fun q => b0 ≤ q) := by
  refine t_of (own := RX6) (by decide) rfl ?_ (Nat.le_of_ble_eq_true rfl)
  intro p e s m below meth c ls C w hsz hr hlk hnm hl
  have hx := C.1
  have hb := C.2.1
  have hl : lv_has ls 1 [(0, .ref x)] := hl
  have hR : rawk Ψ L f0 f0 := rawk.rf
  refine lv_aload_n hx hb dX6_image_0 rfl (lv_at hl 0 rfl) ?_
  refine t_geti C w hT hm_x ht_x (by decide) rfl cin_6 3 (by decide) rfl rfl gw_290 dX6_image_1 (fun x1 hg => ?_)
  obtain rfl : x1 = 0 := gof_at rfl hg
  refine lv_iconst (v := 3) hx hb dX6_image_4 (by decide) ?_
  refine lv_icmp_lt (tgt := 10) hx hb dX6_image_5 (by decide) (fun _ => ?_) (fun c0 => absurd c0 (by decide))
  refine lv_aload_n hx hb dX6_image_10 rfl (lv_at hl 0 rfl) ?_
  refine t_getr C w hT hm_x ht_x (by decide) rfl cin_6 2 (by decide) rfl gw_289 dX6_image_11 (fun q2 hm_q2 ht_q2 => ?_)
  refine lv_aload_n hx hb dX6_image_14 rfl (lv_at hl 0 rfl) ?_
  refine t_geti C w hT hm_x ht_x (by decide) rfl cin_6 3 (by decide) rfl rfl gw_290 dX6_image_15 (fun x3 hg => ?_)
  obtain rfl : x3 = 0 := gof_at rfl hg
  refine t_aald C w hT hm_q2 ht_q2 (by decide) rfl rfl (vp_in_iff.mpr ⟨by decide, by decide⟩) rfl dX6_image_18 (fun q4 hm_q4 ht_q4 => ?_)
  refine lv_aload_n hx hb dX6_image_19 rfl (lv_at hl 0 rfl) ?_
  refine t_getr C w hT hm_x ht_x (by decide) rfl cin_6 0 (by decide) rfl gw_287 dX6_image_20 (fun q5 hm_q5 ht_q5 => ?_)
  refine t_callV (n := 1) C w hT hm_q4 ht_q4 (by decide) rfl rfl (c_X0_copyFrom l D K b0 sa _ L _ Ψ hT q4 hm_q4 ht_q4 q5 hm_q5 ht_q5) gw_523 gw_520 gw_521 gw_522 gw_2 ⟨by decide, by decide, by decide +kernel⟩ rfl rfl ⟨by decide, by decide⟩ rfl hl.1 rfl (Nat.le_of_ble_eq_true rfl) dX6_image_23 ⟨by decide, by decide⟩ (fun v u H locs hp w => ?_)
  obtain ⟨f2, rfl, rfl, hT2, hR1⟩ := hp
  have hR := hR.tr hR1
  clear hT
  have hT := hT2
  clear hT2
  generalize f2 = f at w hT hR
  refine lv_aload_n hx hb dX6_image_26 rfl (lv_at hl 0 rfl) ?_
  refine lv_dup hx hb dX6_image_27 rfl ?_
  refine t_geti C w hT hm_x ht_x (by decide) rfl cin_6 3 (by decide) rfl rfl gw_290 dX6_image_28 (fun x6 hg => ?_)
  obtain rfl : x6 = 0 := gof_at rfl hg
  refine lv_iconst (v := 1) hx hb dX6_image_31 (by decide) ?_
  refine lv_iadd hx hb dX6_image_32 ?_
  refine lv_topi (fun y7 ey7 => ?_)
  obtain rfl : y7 = 1 := ey7.trans (by decide)
  refine t_putS C w hT hm_x ht_x (fun b h1 h2 => hu_6 b x h1 hm_x h2 ht_x) (by decide) rfl cin_6 tyX6 tyX6_ok nmX6 3 (by decide) rfl rfl rfl rfl rfl gw_290 dX6_image_33 (fun f H locs w hT hR1 => ?_)
  have hT := hT.mono gof_set
  have hR := hR.tr hR1
  refine lv_aload_n hx hb dX6_image_36 rfl (lv_at hl 0 rfl) ?_
  refine t_geti C w hT hm_x ht_x (by decide) rfl cin_6 3 (by decide) rfl rfl gw_290 dX6_image_37 (fun x8 hg => ?_)
  obtain rfl : x8 = 1 := gof_at rfl hg
  have n1 : (1 : Int32).toInt = 1 := by decide
  exact t_iret C hr hlk w ⟨_, _, rfl, rfl, (hT.mono (gof_sub rfl)), hR, rfl⟩ (by decide) (by decide) dX6_image_40
set_option maxHeartbeats 4000000 in
set_option maxRecDepth 100000 in
theorem c_X2_layAgain (l : Launch) (D : va_G) (K : Nat → ClassId) (b0 : Nat) (sa : Nat × Nat × Nat) (sz : Nat) (L : List Nat) (f0 : Nat → va_E) (Ψ : Nat → Nat) (hT : TW K (gof gX1) Ψ L f0) (h : Nat) (hm_h : h ∈ L) (ht_h : Ψ h = 2) (ho : Int32) : Met l yX2_layAgain (.code yX2_layAgain cX2_layAgain 5 (some .int) :: gt) { frames := 1, cells := 0, slots := 0, locals := 23 } (va_Pc [.ref h, .int ho] (hPre D K b0 sa sz L f0)) (hQ D K b0 (fun v9 u9 => ∃ (r : Int32) (f2 : Nat → va_E), v9 = some (.int r) ∧ u9 = ((gof gX1), Ψ, L, f2) ∧ TW K (gof gX1) Ψ L f2 ∧ rawk Ψ L f0 f2 ∧ (r = 0))) 0 0 (fun q => b0 ≤ q) := by
  refine t_of (own := RX2) (by decide) rfl ?_ (Nat.le_of_ble_eq_true rfl)
  intro p e s m below meth c ls C w hsz hr hlk hnm hl
  have hx := C.1
  have hb := C.2.1
  have hl : lv_has ls 5 [(0, .ref h), (1, .int ho)] := hl
  have hb_ho := ti_bd ho
  have hR : rawk Ψ L f0 f0 := rawk.rf
  refine lv_iconst (v := 0) hx hb dX2_layAgain_0 (by decide) ?_
  refine lv_istore_n (lv' := [(2, .int 0), (0, .ref h), (1, .int ho)]) hx hb dX2_layAgain_1 rfl hl (by decide) rfl (fun ls hl => ?_)
  refine lv_aload_n hx hb dX2_layAgain_2 rfl (lv_at hl 1 rfl) ?_
  refine t_getr C w hT hm_h ht_h (by decide) rfl cin_2 8 (by decide) rfl gw_63 dX2_layAgain_3 (fun q1 hm_q1 ht_q1 => ?_)
  refine lv_iconst (v := (-1)) hx hb dX2_layAgain_6 (by decide) ?_
  refine t_callS (n := 2) C w (c_fill64 l D K b0 sa _ L _ Ψ hT q1 hm_q1 ht_q1) gw_45 gw_43 gw_44 gw_4 ⟨by decide, by decide, by decide +kernel⟩ rfl rfl ⟨by decide, by decide⟩ rfl hl.1 rfl (Nat.le_of_ble_eq_true rfl) dX2_layAgain_7 ⟨by decide, by decide⟩ (fun v u H locs hp w => ?_)
  obtain ⟨f2, rfl, rfl, hT2, hR1⟩ := hp
  have hR := hR.tr hR1
  clear hT
  have hT := hT2
  clear hT2
  generalize f2 = f at w hT hR
  refine lv_iconst (v := 0) hx hb dX2_layAgain_10 (by decide) ?_
  refine lv_istore_n (lv' := [(3, .int 0), (2, .int 0), (0, .ref h), (1, .int ho)]) hx hb dX2_layAgain_11 rfl hl (by decide) rfl (fun ls hl => ?_)
  refine lv_iload_n hx hb dX2_layAgain_12 rfl (lv_at hl 0 rfl) ?_
  refine lv_aload_n hx hb dX2_layAgain_13 rfl (lv_at hl 2 rfl) ?_
  refine t_geti C w hT hm_h ht_h (by decide) rfl cin_2 0 (by decide) rfl rfl gw_46 dX2_layAgain_14 (fun x2 hg => ?_)
  obtain rfl : x2 = 0 := gof_at rfl hg
  refine lv_icmp_ge (tgt := 91) hx hb dX2_layAgain_17 (by decide) (fun _ => ?_) (fun c0 => absurd c0 (by decide))
  refine lv_iload_n hx hb dX2_layAgain_91 rfl (lv_at hl 1 rfl) ?_
  have n0 : (0 : Int32).toInt = 0 := by decide
  exact t_iret C hr hlk w ⟨_, _, rfl, rfl, hT, hR, rfl⟩ (by decide) (by decide) dX2_layAgain_92
set_option maxHeartbeats 4000000 in
set_option maxRecDepth 100000 in
theorem c_X6_refill (l : Launch) (D : va_G) (K : Nat → ClassId) (b0 : Nat) (sa : Nat × Nat × Nat) (sz : Nat) (L : List Nat) (f0 : Nat → va_E) (Ψ : Nat → Nat) (hT : TW K (gof gX1) Ψ L f0) (x : Nat) (hm_x : x ∈ L) (ht_x : Ψ x = 6) : Met l yX6_refill (.code yX6_refill cX6_refill 2 (some .int) :: gt) { frames := 2, cells := 0, slots := 0, locals := 47 } (va_Pc [.ref x] (hPre D K b0 sa sz L f0)) (hQ D K b0 (fun v9 u9 => ∃ (r : Int32) (f2 : Nat → va_E), v9 = some (.int r) ∧ u9 = ((gof gX1), Ψ, L, f2) ∧ TW K (gof gX1) Ψ L f2 ∧ rawk Ψ L f0 f2 ∧ (r = 0))) 0 0 (fun q => b0 ≤ q) := by
  refine t_of (own := RX6) (by decide) rfl ?_ (Nat.le_of_ble_eq_true rfl)
  intro p e s m below meth c ls C w hsz hr hlk hnm hl
  have hx := C.1
  have hb := C.2.1
  have hl : lv_has ls 2 [(0, .ref x)] := hl
  have hR : rawk Ψ L f0 f0 := rawk.rf
  refine lv_aload_n hx hb dX6_refill_0 rfl (lv_at hl 0 rfl) ?_
  refine t_getr C w hT hm_x ht_x (by decide) rfl cin_6 0 (by decide) rfl gw_287 dX6_refill_1 (fun q1 hm_q1 ht_q1 => ?_)
  refine t_getr C w hT hm_q1 ht_q1 (by decide) rfl cin_0 0 (by decide) rfl gw_89 dX6_refill_4 (fun q2 hm_q2 ht_q2 => ?_)
  refine lv_aload_n hx hb dX6_refill_7 rfl (lv_at hl 0 rfl) ?_
  refine t_getr C w hT hm_x ht_x (by decide) rfl cin_6 0 (by decide) rfl gw_287 dX6_refill_8 (fun q3 hm_q3 ht_q3 => ?_)
  refine t_geti C w hT hm_q3 ht_q3 (by decide) rfl cin_0 1 (by decide) rfl rfl gw_92 dX6_refill_11 (fun x4 hg => ?_)
  obtain rfl : x4 = 63 := gof_at rfl hg
  have n63 : (63 : Int32).toInt = 63 := by decide
  refine t_callV (n := 1) C w hT hm_q2 ht_q2 (by decide) rfl rfl (c_X2_layAgain l D K b0 sa _ L _ Ψ hT q2 hm_q2 ht_q2 63) gw_510 gw_507 gw_508 gw_509 gw_3 ⟨by decide, by decide, by decide +kernel⟩ rfl rfl ⟨by decide, by decide⟩ rfl hl.1 rfl (Nat.le_of_ble_eq_true rfl) dX6_refill_14 ⟨by decide, by decide⟩ (fun v u H locs hp w => ?_)
  obtain ⟨r5, f2, rfl, rfl, hT2, hR1, hrr5⟩ := hp
  have hR := hR.tr hR1
  clear hT
  have hT := hT2
  clear hT2
  generalize f2 = f at w hT hR
  obtain rfl := hrr5
  refine lv_istore_n (lv' := [(1, .int 0), (0, .ref x)]) hx hb dX6_refill_17 rfl hl (by decide) rfl (fun ls hl => ?_)
  refine lv_aload_n hx hb dX6_refill_18 rfl (lv_at hl 1 rfl) ?_
  refine t_getr C w hT hm_x ht_x (by decide) rfl cin_6 0 (by decide) rfl gw_287 dX6_refill_19 (fun q6 hm_q6 ht_q6 => ?_)
  refine lv_iconst (v := 0) hx hb dX6_refill_22 (by decide) ?_
  refine t_puti C w hT hm_q6 ht_q6 (by decide) rfl cin_0 tyX0 tyX0_ok nmX0 7 (by decide) rfl rfl rfl rfl rfl (gof_no rfl) gw_109 dX6_refill_23 (fun f H locs w hT hR1 => ?_)
  have hR := hR.tr hR1
  refine lv_aload_n hx hb dX6_refill_26 rfl (lv_at hl 1 rfl) ?_
  refine t_getr C w hT hm_x ht_x (by decide) rfl cin_6 0 (by decide) rfl gw_287 dX6_refill_27 (fun q7 hm_q7 ht_q7 => ?_)
  refine lv_iconst (v := 0) hx hb dX6_refill_30 (by decide) ?_
  refine t_puti C w hT hm_q7 ht_q7 (by decide) rfl cin_0 tyX0 tyX0_ok nmX0 8 (by decide) rfl rfl rfl rfl rfl (gof_no rfl) gw_112 dX6_refill_31 (fun f H locs w hT hR1 => ?_)
  have hR := hR.tr hR1
  refine lv_aload_n hx hb dX6_refill_34 rfl (lv_at hl 1 rfl) ?_
  refine t_getr C w hT hm_x ht_x (by decide) rfl cin_6 0 (by decide) rfl gw_287 dX6_refill_35 (fun q8 hm_q8 ht_q8 => ?_)
  refine lv_iconst (v := 0) hx hb dX6_refill_38 (by decide) ?_
  refine t_puti C w hT hm_q8 ht_q8 (by decide) rfl cin_0 tyX0 tyX0_ok nmX0 9 (by decide) rfl rfl rfl rfl rfl (gof_no rfl) gw_115 dX6_refill_39 (fun f H locs w hT hR1 => ?_)
  have hR := hR.tr hR1
  refine lv_aload_n hx hb dX6_refill_42 rfl (lv_at hl 1 rfl) ?_
  refine t_getr C w hT hm_x ht_x (by decide) rfl cin_6 0 (by decide) rfl gw_287 dX6_refill_43 (fun q9 hm_q9 ht_q9 => ?_)
  refine lv_iconst (v := 0) hx hb dX6_refill_46 (by decide) ?_
  refine t_puti C w hT hm_q9 ht_q9 (by decide) rfl cin_0 tyX0 tyX0_ok nmX0 10 (by decide) rfl rfl rfl rfl rfl (gof_no rfl) gw_118 dX6_refill_47 (fun f H locs w hT hR1 => ?_)
  have hR := hR.tr hR1
  refine lv_aload_n hx hb dX6_refill_50 rfl (lv_at hl 1 rfl) ?_
  refine t_getr C w hT hm_x ht_x (by decide) rfl cin_6 0 (by decide) rfl gw_287 dX6_refill_51 (fun q10 hm_q10 ht_q10 => ?_)
  refine lv_iconst (v := 0) hx hb dX6_refill_54 (by decide) ?_
  refine t_puti C w hT hm_q10 ht_q10 (by decide) rfl cin_0 tyX0 tyX0_ok nmX0 12 (by decide) rfl rfl rfl rfl rfl (gof_is rfl) gw_121 dX6_refill_55 (fun f H locs w hT hR1 => ?_)
  have hR := hR.tr hR1
  refine lv_iload_n hx hb dX6_refill_58 rfl (lv_at hl 0 rfl) ?_
  have n0 : (0 : Int32).toInt = 0 := by decide
  exact t_iret C hr hlk w ⟨_, _, rfl, rfl, hT, hR, rfl⟩ (by decide) (by decide) dX6_refill_59
