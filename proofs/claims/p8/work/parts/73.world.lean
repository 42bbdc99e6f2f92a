theorem ta_149 : Cond.arrayOver (.object RX0) ∈ tables_1 := List.mem_of_getElem? (i := 149) (by decide +kernel)
theorem ta_151 : Cond.arrayOver (.object RX1) ∈ tables_1 := List.mem_of_getElem? (i := 151) (by decide +kernel)
theorem ta_87 : Cond.arrayOver (.object RX5) ∈ tables_1 := List.mem_of_getElem? (i := 87) (by decide +kernel)
theorem ta_1155 : Cond.arrayOver (.array .int) ∈ tables_1 := List.mem_of_getElem? (i := 1155) (by decide +kernel)
theorem ta_635 : Cond.stringRef RX6 314 "outside its range" ∈ tables_1 := List.mem_of_getElem? (i := 635) (by decide +kernel)
theorem ta_596 : Cond.stringRef RX6 321 "no such cell" ∈ tables_1 := List.mem_of_getElem? (i := 596) (by decide +kernel)
theorem ta_666 : Cond.stringRef RX6 326 "no such number" ∈ tables_1 := List.mem_of_getElem? (i := 666) (by decide +kernel)
theorem ta_582 : Cond.laysStatic Bundle.tN "UNASSIGNED_STACK" Bundle.steD ∈ tables_1 := List.mem_of_getElem? (i := 582) (by decide +kernel)
theorem ta_584 : Cond.laysStatic Bundle.tN "SUPPRESSED_SENTINEL" Bundle.listD ∈ tables_1 := List.mem_of_getElem? (i := 584) (by decide +kernel)
theorem ta_9 : Cond.initialized Bundle.tN ∈ tables_1 := List.mem_of_getElem? (i := 9) (by decide +kernel)
theorem nwl_in : ∀ w ∈ nwl, w ∈ tables_1 := by decide +kernel
theorem nwl_ot : (nwl.all fun w => w.onTables) = true := by decide +kernel
theorem nw3_in : ∀ w ∈ nw3, w ∈ tables_1 := by decide +kernel
theorem hg_u : Cond.isRef (.static Bundle.tN "UNASSIGNED_STACK" Bundle.steD) ∈ flatC (Jvm.Cond.and given_1 narrow_1) := by decide +kernel
theorem hg_s : Cond.isRef (.static Bundle.tN "SUPPRESSED_SENTINEL" Bundle.listD) ∈ flatC (Jvm.Cond.and given_1 narrow_1) := by decide +kernel
theorem hg_c : Cond.not (.castable "java/lang/IllegalArgumentException" "java/lang/IndexOutOfBoundsException") ∈ flatC (Jvm.Cond.and given_1 narrow_1) := by decide +kernel
theorem ao_arr {args : Array Value} {s : State} (h : (Cond.arrayOver (.array .int)).before args s = true) : ∃ (comp c : ClassId) (k : Class), s.vm.findClass "[I" = some comp ∧ s.vm.classes[c]? = some k ∧ k.kind = .array comp (.array .int) ∧ s.vm.findClass "[[I" = some c := by
  have e1 : (FieldType.array .int).toString = "[I" := by first | rfl | decide
  have e2 : "[" ++ (FieldType.array .int).toString = "[[I" := by first | rfl | decide
  replace h : (Cond.arrayOver (.array .int)).holds args s none s [] = true := h
  simp only [Cond.holds, Cond.value, beq_iff_eq] at h
  cases hc : s.vm.findClass (FieldType.array .int).toString with
  | none => simp [hc] at h
  | some comp =>
    simp only [hc, Option.bind_some, Option.bind_eq_some_iff, Option.map_eq_some_iff] at h
    obtain ⟨c, hi, k, hk, hb⟩ := h
    obtain ⟨hlt, hp, -⟩ := Array.findIdx?_eq_some_iff_getElem.mp hi
    have hkk : s.vm.classes[c] = k := (Array.getElem?_eq_some_iff.mp hk).2
    rw [hkk] at hp
    cases hkind : k.kind with
    | array component ty =>
      rw [hkind] at hb hp
      simp at hb hp
      exact ⟨comp, c, k, by rw [← e1]; exact hc, hk, by rw [hkind, hp, hb.1], by rw [← e2]; exact hb.2⟩
    | _ => rw [hkind] at hb; simp at hb
theorem hg_c2 : Cond.not (.castable "java/lang/IndexOutOfBoundsException" "java/util/NoSuchElementException") ∈ flatC (Jvm.Cond.and given_1 narrow_1) := by decide +kernel
theorem hg_c3 : Cond.not (.castable "java/lang/IllegalArgumentException" "java/util/NoSuchElementException") ∈ flatC (Jvm.Cond.and given_1 narrow_1) := by decide +kernel
theorem hg_k : Cond.eq (.static RJ0 "COMPACT_STRINGS" "Z") (.int 1) ∈ flatC (Jvm.Cond.and given_1 narrow_1) := by decide +kernel
theorem hg_f : Cond.isRef (.static RJ3 "SIOOBE_FORMATTER" "Ljava/util/function/BiFunction;") ∈ flatC (Jvm.Cond.and given_1 narrow_1) := by decide +kernel
theorem tz_x : Cond.laysStatic RX6 "BESIDE_X" "[I" ∈ tables_1 := List.mem_of_getElem? (i := 457) (by decide +kernel)
theorem tz_y : Cond.laysStatic RX6 "BESIDE_Y" "[I" ∈ tables_1 := List.mem_of_getElem? (i := 459) (by decide +kernel)
theorem tz_6 : Cond.initialized RX6 ∈ tables_1 := List.mem_of_getElem? (i := 1) (by decide +kernel)
theorem tz_c : Cond.laysStatic RJ0 "COMPACT_STRINGS" "Z" ∈ tables_1 := List.mem_of_getElem? (i := 766) (by decide +kernel)
theorem tz_0 : Cond.initialized RJ0 ∈ tables_1 := List.mem_of_getElem? (i := 16) (by decide +kernel)
theorem tz_f : Cond.laysStatic RJ3 "SIOOBE_FORMATTER" "Ljava/util/function/BiFunction;" ∈ tables_1 := List.mem_of_getElem? (i := 782) (by decide +kernel)
theorem tz_3 : Cond.initialized RJ3 ∈ tables_1 := List.mem_of_getElem? (i := 18) (by decide +kernel)
def tsm (i : Nat) : Term := .string RX4 ((rsL.getD i (0, "")).1)
theorem tz_sl : ∀ q ∈ rsL, Cond.stringRef RX4 q.1 q.2 ∈ tables_1 := by decide +kernel
theorem tz_s : ∀ (i : Nat) (q : Nat × String), rsL[i]? = some q → Cond.stringRef RX4 q.1 q.2 ∈ tables_1 := fun i q h => tz_sl q (List.mem_of_getElem? h)
theorem hs_ex : ∀ i : Nat, i < 16 → Cond.exactly (tsm i) "java/lang/String" ∈ flatC (Jvm.Cond.and given_1 narrow_1) := by decide +kernel
theorem hs_co : ∀ i : Nat, i < 16 → Cond.eq (.field (tsm i) "java/lang/String" "coder" "B") (.int 0) ∈ flatC (Jvm.Cond.and given_1 narrow_1) := by decide +kernel
theorem hs_ar : ∀ i : Nat, i < 16 → Cond.arrayOf (.field (tsm i) "java/lang/String" "value" "[B") .byte ∈ flatC (Jvm.Cond.and given_1 narrow_1) := by decide +kernel
theorem hs_le : ∀ i : Nat, i < 16 → Cond.eq (.length (.field (tsm i) "java/lang/String" "value" "[B")) (.int (Int32.ofNat (rsN.getD i 0))) ∈ flatC (Jvm.Cond.and given_1 narrow_1) := by decide +kernel
theorem hs_el : ∀ i : Nat, i < 16 → ∀ j : Nat, j < rsN.getD i 0 → Cond.eq (.elem (.field (tsm i) "java/lang/String" "value" "[B") (.int (Int32.ofNat j))) (.int ((rsB.getD i []).getD j 0)) ∈ flatC (Jvm.Cond.and given_1 narrow_1) := by decide +kernel
theorem hs_0_1 : Cond.not (.eq (tsm 0) (tsm 1)) ∈ flatC (Jvm.Cond.and given_1 narrow_1) := List.mem_of_getElem? (i := 135) (by decide +kernel)
theorem hs_0_2 : Cond.not (.eq (tsm 0) (tsm 2)) ∈ flatC (Jvm.Cond.and given_1 narrow_1) := List.mem_of_getElem? (i := 147) (by decide +kernel)
theorem hs_0_3 : Cond.not (.eq (tsm 0) (tsm 3)) ∈ flatC (Jvm.Cond.and given_1 narrow_1) := List.mem_of_getElem? (i := 158) (by decide +kernel)
theorem hs_0_4 : Cond.not (.eq (tsm 0) (tsm 4)) ∈ flatC (Jvm.Cond.and given_1 narrow_1) := List.mem_of_getElem? (i := 170) (by decide +kernel)
theorem hs_0_5 : Cond.not (.eq (tsm 0) (tsm 5)) ∈ flatC (Jvm.Cond.and given_1 narrow_1) := List.mem_of_getElem? (i := 184) (by decide +kernel)
theorem hs_0_6 : Cond.not (.eq (tsm 0) (tsm 6)) ∈ flatC (Jvm.Cond.and given_1 narrow_1) := List.mem_of_getElem? (i := 199) (by decide +kernel)
theorem hs_0_7 : Cond.not (.eq (tsm 0) (tsm 7)) ∈ flatC (Jvm.Cond.and given_1 narrow_1) := List.mem_of_getElem? (i := 217) (by decide +kernel)
theorem hs_0_8 : Cond.not (.eq (tsm 0) (tsm 8)) ∈ flatC (Jvm.Cond.and given_1 narrow_1) := List.mem_of_getElem? (i := 235) (by decide +kernel)
theorem hs_0_9 : Cond.not (.eq (tsm 0) (tsm 9)) ∈ flatC (Jvm.Cond.and given_1 narrow_1) := List.mem_of_getElem? (i := 255) (by decide +kernel)
theorem hs_0_10 : Cond.not (.eq (tsm 0) (tsm 10)) ∈ flatC (Jvm.Cond.and given_1 narrow_1) := List.mem_of_getElem? (i := 276) (by decide +kernel)
theorem hs_0_11 : Cond.not (.eq (tsm 0) (tsm 11)) ∈ flatC (Jvm.Cond.and given_1 narrow_1) := List.mem_of_getElem? (i := 298) (by decide +kernel)
theorem hs_0_12 : Cond.not (.eq (tsm 0) (tsm 12)) ∈ flatC (Jvm.Cond.and given_1 narrow_1) := List.mem_of_getElem? (i := 320) (by decide +kernel)
theorem hs_0_13 : Cond.not (.eq (tsm 0) (tsm 13)) ∈ flatC (Jvm.Cond.and given_1 narrow_1) := List.mem_of_getElem? (i := 343) (by decide +kernel)
theorem hs_0_14 : Cond.not (.eq (tsm 0) (tsm 14)) ∈ flatC (Jvm.Cond.and given_1 narrow_1) := List.mem_of_getElem? (i := 366) (by decide +kernel)
theorem hs_0_15 : Cond.not (.eq (tsm 0) (tsm 15)) ∈ flatC (Jvm.Cond.and given_1 narrow_1) := List.mem_of_getElem? (i := 390) (by decide +kernel)
theorem hs_1_2 : Cond.not (.eq (tsm 1) (tsm 2)) ∈ flatC (Jvm.Cond.and given_1 narrow_1) := List.mem_of_getElem? (i := 148) (by decide +kernel)
theorem hs_1_3 : Cond.not (.eq (tsm 1) (tsm 3)) ∈ flatC (Jvm.Cond.and given_1 narrow_1) := List.mem_of_getElem? (i := 159) (by decide +kernel)
theorem hs_1_4 : Cond.not (.eq (tsm 1) (tsm 4)) ∈ flatC (Jvm.Cond.and given_1 narrow_1) := List.mem_of_getElem? (i := 171) (by decide +kernel)
theorem hs_1_5 : Cond.not (.eq (tsm 1) (tsm 5)) ∈ flatC (Jvm.Cond.and given_1 narrow_1) := List.mem_of_getElem? (i := 185) (by decide +kernel)
theorem hs_1_6 : Cond.not (.eq (tsm 1) (tsm 6)) ∈ flatC (Jvm.Cond.and given_1 narrow_1) := List.mem_of_getElem? (i := 200) (by decide +kernel)
theorem hs_1_7 : Cond.not (.eq (tsm 1) (tsm 7)) ∈ flatC (Jvm.Cond.and given_1 narrow_1) := List.mem_of_getElem? (i := 218) (by decide +kernel)
theorem hs_1_8 : Cond.not (.eq (tsm 1) (tsm 8)) ∈ flatC (Jvm.Cond.and given_1 narrow_1) := List.mem_of_getElem? (i := 236) (by decide +kernel)
theorem hs_1_9 : Cond.not (.eq (tsm 1) (tsm 9)) ∈ flatC (Jvm.Cond.and given_1 narrow_1) := List.mem_of_getElem? (i := 256) (by decide +kernel)
theorem hs_1_10 : Cond.not (.eq (tsm 1) (tsm 10)) ∈ flatC (Jvm.Cond.and given_1 narrow_1) := List.mem_of_getElem? (i := 277) (by decide +kernel)
theorem hs_1_11 : Cond.not (.eq (tsm 1) (tsm 11)) ∈ flatC (Jvm.Cond.and given_1 narrow_1) := List.mem_of_getElem? (i := 299) (by decide +kernel)
theorem hs_1_12 : Cond.not (.eq (tsm 1) (tsm 12)) ∈ flatC (Jvm.Cond.and given_1 narrow_1) := List.mem_of_getElem? (i := 321) (by decide +kernel)
theorem hs_1_13 : Cond.not (.eq (tsm 1) (tsm 13)) ∈ flatC (Jvm.Cond.and given_1 narrow_1) := List.mem_of_getElem? (i := 344) (by decide +kernel)
theorem hs_1_14 : Cond.not (.eq (tsm 1) (tsm 14)) ∈ flatC (Jvm.Cond.and given_1 narrow_1) := List.mem_of_getElem? (i := 367) (by decide +kernel)
theorem hs_1_15 : Cond.not (.eq (tsm 1) (tsm 15)) ∈ flatC (Jvm.Cond.and given_1 narrow_1) := List.mem_of_getElem? (i := 391) (by decide +kernel)
theorem hs_2_3 : Cond.not (.eq (tsm 2) (tsm 3)) ∈ flatC (Jvm.Cond.and given_1 narrow_1) := List.mem_of_getElem? (i := 160) (by decide +kernel)
theorem hs_2_4 : Cond.not (.eq (tsm 2) (tsm 4)) ∈ flatC (Jvm.Cond.and given_1 narrow_1) := List.mem_of_getElem? (i := 172) (by decide +kernel)
theorem hs_2_5 : Cond.not (.eq (tsm 2) (tsm 5)) ∈ flatC (Jvm.Cond.and given_1 narrow_1) := List.mem_of_getElem? (i := 186) (by decide +kernel)
theorem hs_2_6 : Cond.not (.eq (tsm 2) (tsm 6)) ∈ flatC (Jvm.Cond.and given_1 narrow_1) := List.mem_of_getElem? (i := 201) (by decide +kernel)
theorem hs_2_7 : Cond.not (.eq (tsm 2) (tsm 7)) ∈ flatC (Jvm.Cond.and given_1 narrow_1) := List.mem_of_getElem? (i := 219) (by decide +kernel)
theorem hs_2_8 : Cond.not (.eq (tsm 2) (tsm 8)) ∈ flatC (Jvm.Cond.and given_1 narrow_1) := List.mem_of_getElem? (i := 237) (by decide +kernel)
theorem hs_2_9 : Cond.not (.eq (tsm 2) (tsm 9)) ∈ flatC (Jvm.Cond.and given_1 narrow_1) := List.mem_of_getElem? (i := 257) (by decide +kernel)
theorem hs_2_10 : Cond.not (.eq (tsm 2) (tsm 10)) ∈ flatC (Jvm.Cond.and given_1 narrow_1) := List.mem_of_getElem? (i := 278) (by decide +kernel)
theorem hs_2_11 : Cond.not (.eq (tsm 2) (tsm 11)) ∈ flatC (Jvm.Cond.and given_1 narrow_1) := List.mem_of_getElem? (i := 300) (by decide +kernel)
theorem hs_2_12 : Cond.not (.eq (tsm 2) (tsm 12)) ∈ flatC (Jvm.Cond.and given_1 narrow_1) := List.mem_of_getElem? (i := 322) (by decide +kernel)
theorem hs_2_13 : Cond.not (.eq (tsm 2) (tsm 13)) ∈ flatC (Jvm.Cond.and given_1 narrow_1) := List.mem_of_getElem? (i := 345) (by decide +kernel)
theorem hs_2_14 : Cond.not (.eq (tsm 2) (tsm 14)) ∈ flatC (Jvm.Cond.and given_1 narrow_1) := List.mem_of_getElem? (i := 368) (by decide +kernel)
theorem hs_2_15 : Cond.not (.eq (tsm 2) (tsm 15)) ∈ flatC (Jvm.Cond.and given_1 narrow_1) := List.mem_of_getElem? (i := 392) (by decide +kernel)
theorem hs_3_4 : Cond.not (.eq (tsm 3) (tsm 4)) ∈ flatC (Jvm.Cond.and given_1 narrow_1) := List.mem_of_getElem? (i := 173) (by decide +kernel)
theorem hs_3_5 : Cond.not (.eq (tsm 3) (tsm 5)) ∈ flatC (Jvm.Cond.and given_1 narrow_1) := List.mem_of_getElem? (i := 187) (by decide +kernel)
theorem hs_3_6 : Cond.not (.eq (tsm 3) (tsm 6)) ∈ flatC (Jvm.Cond.and given_1 narrow_1) := List.mem_of_getElem? (i := 202) (by decide +kernel)
theorem hs_3_7 : Cond.not (.eq (tsm 3) (tsm 7)) ∈ flatC (Jvm.Cond.and given_1 narrow_1) := List.mem_of_getElem? (i := 220) (by decide +kernel)
theorem hs_3_8 : Cond.not (.eq (tsm 3) (tsm 8)) ∈ flatC (Jvm.Cond.and given_1 narrow_1) := List.mem_of_getElem? (i := 238) (by decide +kernel)
theorem hs_3_9 : Cond.not (.eq (tsm 3) (tsm 9)) ∈ flatC (Jvm.Cond.and given_1 narrow_1) := List.mem_of_getElem? (i := 258) (by decide +kernel)
theorem hs_3_10 : Cond.not (.eq (tsm 3) (tsm 10)) ∈ flatC (Jvm.Cond.and given_1 narrow_1) := List.mem_of_getElem? (i := 279) (by decide +kernel)
theorem hs_3_11 : Cond.not (.eq (tsm 3) (tsm 11)) ∈ flatC (Jvm.Cond.and given_1 narrow_1) := List.mem_of_getElem? (i := 301) (by decide +kernel)
theorem hs_3_12 : Cond.not (.eq (tsm 3) (tsm 12)) ∈ flatC (Jvm.Cond.and given_1 narrow_1) := List.mem_of_getElem? (i := 323) (by decide +kernel)
theorem hs_3_13 : Cond.not (.eq (tsm 3) (tsm 13)) ∈ flatC (Jvm.Cond.and given_1 narrow_1) := List.mem_of_getElem? (i := 346) (by decide +kernel)
theorem hs_3_14 : Cond.not (.eq (tsm 3) (tsm 14)) ∈ flatC (Jvm.Cond.and given_1 narrow_1) := List.mem_of_getElem? (i := 369) (by decide +kernel)
theorem hs_3_15 : Cond.not (.eq (tsm 3) (tsm 15)) ∈ flatC (Jvm.Cond.and given_1 narrow_1) := List.mem_of_getElem? (i := 393) (by decide +kernel)
theorem hs_4_5 : Cond.not (.eq (tsm 4) (tsm 5)) ∈ flatC (Jvm.Cond.and given_1 narrow_1) := List.mem_of_getElem? (i := 188) (by decide +kernel)
theorem hs_4_6 : Cond.not (.eq (tsm 4) (tsm 6)) ∈ flatC (Jvm.Cond.and given_1 narrow_1) := List.mem_of_getElem? (i := 203) (by decide +kernel)
theorem hs_4_7 : Cond.not (.eq (tsm 4) (tsm 7)) ∈ flatC (Jvm.Cond.and given_1 narrow_1) := List.mem_of_getElem? (i := 221) (by decide +kernel)
theorem hs_4_8 : Cond.not (.eq (tsm 4) (tsm 8)) ∈ flatC (Jvm.Cond.and given_1 narrow_1) := List.mem_of_getElem? (i := 239) (by decide +kernel)
theorem hs_4_9 : Cond.not (.eq (tsm 4) (tsm 9)) ∈ flatC (Jvm.Cond.and given_1 narrow_1) := List.mem_of_getElem? (i := 259) (by decide +kernel)
theorem hs_4_10 : Cond.not (.eq (tsm 4) (tsm 10)) ∈ flatC (Jvm.Cond.and given_1 narrow_1) := List.mem_of_getElem? (i := 280) (by decide +kernel)
theorem hs_4_11 : Cond.not (.eq (tsm 4) (tsm 11)) ∈ flatC (Jvm.Cond.and given_1 narrow_1) := List.mem_of_getElem? (i := 302) (by decide +kernel)
theorem hs_4_12 : Cond.not (.eq (tsm 4) (tsm 12)) ∈ flatC (Jvm.Cond.and given_1 narrow_1) := List.mem_of_getElem? (i := 324) (by decide +kernel)
theorem hs_4_13 : Cond.not (.eq (tsm 4) (tsm 13)) ∈ flatC (Jvm.Cond.and given_1 narrow_1) := List.mem_of_getElem? (i := 347) (by decide +kernel)
theorem hs_4_14 : Cond.not (.eq (tsm 4) (tsm 14)) ∈ flatC (Jvm.Cond.and given_1 narrow_1) := List.mem_of_getElem? (i := 370) (by decide +kernel)
theorem hs_4_15 : Cond.not (.eq (tsm 4) (tsm 15)) ∈ flatC (Jvm.Cond.and given_1 narrow_1) := List.mem_of_getElem? (i := 394) (by decide +kernel)
theorem hs_5_6 : Cond.not (.eq (tsm 5) (tsm 6)) ∈ flatC (Jvm.Cond.and given_1 narrow_1) := List.mem_of_getElem? (i := 204) (by decide +kernel)
theorem hs_5_7 : Cond.not (.eq (tsm 5) (tsm 7)) ∈ flatC (Jvm.Cond.and given_1 narrow_1) := List.mem_of_getElem? (i := 222) (by decide +kernel)
theorem hs_5_8 : Cond.not (.eq (tsm 5) (tsm 8)) ∈ flatC (Jvm.Cond.and given_1 narrow_1) := List.mem_of_getElem? (i := 240) (by decide +kernel)
theorem hs_5_9 : Cond.not (.eq (tsm 5) (tsm 9)) ∈ flatC (Jvm.Cond.and given_1 narrow_1) := List.mem_of_getElem? (i := 260) (by decide +kernel)
theorem hs_5_10 : Cond.not (.eq (tsm 5) (tsm 10)) ∈ flatC (Jvm.Cond.and given_1 narrow_1) := List.mem_of_getElem? (i := 281) (by decide +kernel)
theorem hs_5_11 : Cond.not (.eq (tsm 5) (tsm 11)) ∈ flatC (Jvm.Cond.and given_1 narrow_1) := List.mem_of_getElem? (i := 303) (by decide +kernel)
theorem hs_5_12 : Cond.not (.eq (tsm 5) (tsm 12)) ∈ flatC (Jvm.Cond.and given_1 narrow_1) := List.mem_of_getElem? (i := 325) (by decide +kernel)
theorem hs_5_13 : Cond.not (.eq (tsm 5) (tsm 13)) ∈ flatC (Jvm.Cond.and given_1 narrow_1) := List.mem_of_getElem? (i := 348) (by decide +kernel)
theorem hs_5_14 : Cond.not (.eq (tsm 5) (tsm 14)) ∈ flatC (Jvm.Cond.and given_1 narrow_1) := List.mem_of_getElem? (i := 371) (by decide +kernel)
theorem hs_5_15 : Cond.not (.eq (tsm 5) (tsm 15)) ∈ flatC (Jvm.Cond.and given_1 narrow_1) := List.mem_of_getElem? (i := 395) (by decide +kernel)
theorem hs_6_7 : Cond.not (.eq (tsm 6) (tsm 7)) ∈ flatC (Jvm.Cond.and given_1 narrow_1) := List.mem_of_getElem? (i := 223) (by decide +kernel)
theorem hs_6_8 : Cond.not (.eq (tsm 6) (tsm 8)) ∈ flatC (Jvm.Cond.and given_1 narrow_1) := List.mem_of_getElem? (i := 241) (by decide +kernel)
theorem hs_6_9 : Cond.not (.eq (tsm 6) (tsm 9)) ∈ flatC (Jvm.Cond.and given_1 narrow_1) := List.mem_of_getElem? (i := 261) (by decide +kernel)
theorem hs_6_10 : Cond.not (.eq (tsm 6) (tsm 10)) ∈ flatC (Jvm.Cond.and given_1 narrow_1) := List.mem_of_getElem? (i := 282) (by decide +kernel)
theorem hs_6_11 : Cond.not (.eq (tsm 6) (tsm 11)) ∈ flatC (Jvm.Cond.and given_1 narrow_1) := List.mem_of_getElem? (i := 304) (by decide +kernel)
theorem hs_6_12 : Cond.not (.eq (tsm 6) (tsm 12)) ∈ flatC (Jvm.Cond.and given_1 narrow_1) := List.mem_of_getElem? (i := 326) (by decide +kernel)
theorem hs_6_13 : Cond.not (.eq (tsm 6) (tsm 13)) ∈ flatC (Jvm.Cond.and given_1 narrow_1) := List.mem_of_getElem? (i := 349) (by decide +kernel)
theorem hs_6_14 : Cond.not (.eq (tsm 6) (tsm 14)) ∈ flatC (Jvm.Cond.and given_1 narrow_1) := List.mem_of_getElem? (i := 372) (by decide +kernel)
theorem hs_6_15 : Cond.not (.eq (tsm 6) (tsm 15)) ∈ flatC (Jvm.Cond.and given_1 narrow_1) := List.mem_of_getElem? (i := 396) (by decide +kernel)
theorem hs_7_8 : Cond.not (.eq (tsm 7) (tsm 8)) ∈ flatC (Jvm.Cond.and given_1 narrow_1) := List.mem_of_getElem? (i := 242) (by decide +kernel)
theorem hs_7_9 : Cond.not (.eq (tsm 7) (tsm 9)) ∈ flatC (Jvm.Cond.and given_1 narrow_1) := List.mem_of_getElem? (i := 262) (by decide +kernel)
theorem hs_7_10 : Cond.not (.eq (tsm 7) (tsm 10)) ∈ flatC (Jvm.Cond.and given_1 narrow_1) := List.mem_of_getElem? (i := 283) (by decide +kernel)
theorem hs_7_11 : Cond.not (.eq (tsm 7) (tsm 11)) ∈ flatC (Jvm.Cond.and given_1 narrow_1) := List.mem_of_getElem? (i := 305) (by decide +kernel)
theorem hs_7_12 : Cond.not (.eq (tsm 7) (tsm 12)) ∈ flatC (Jvm.Cond.and given_1 narrow_1) := List.mem_of_getElem? (i := 327) (by decide +kernel)
theorem hs_7_13 : Cond.not (.eq (tsm 7) (tsm 13)) ∈ flatC (Jvm.Cond.and given_1 narrow_1) := List.mem_of_getElem? (i := 350) (by decide +kernel)
theorem hs_7_14 : Cond.not (.eq (tsm 7) (tsm 14)) ∈ flatC (Jvm.Cond.and given_1 narrow_1) := List.mem_of_getElem? (i := 373) (by decide +kernel)
theorem hs_7_15 : Cond.not (.eq (tsm 7) (tsm 15)) ∈ flatC (Jvm.Cond.and given_1 narrow_1) := List.mem_of_getElem? (i := 397) (by decide +kernel)
theorem hs_8_9 : Cond.not (.eq (tsm 8) (tsm 9)) ∈ flatC (Jvm.Cond.and given_1 narrow_1) := List.mem_of_getElem? (i := 263) (by decide +kernel)
theorem hs_8_10 : Cond.not (.eq (tsm 8) (tsm 10)) ∈ flatC (Jvm.Cond.and given_1 narrow_1) := List.mem_of_getElem? (i := 284) (by decide +kernel)
theorem hs_8_11 : Cond.not (.eq (tsm 8) (tsm 11)) ∈ flatC (Jvm.Cond.and given_1 narrow_1) := List.mem_of_getElem? (i := 306) (by decide +kernel)
theorem hs_8_12 : Cond.not (.eq (tsm 8) (tsm 12)) ∈ flatC (Jvm.Cond.and given_1 narrow_1) := List.mem_of_getElem? (i := 328) (by decide +kernel)
theorem hs_8_13 : Cond.not (.eq (tsm 8) (tsm 13)) ∈ flatC (Jvm.Cond.and given_1 narrow_1) := List.mem_of_getElem? (i := 351) (by decide +kernel)
theorem hs_8_14 : Cond.not (.eq (tsm 8) (tsm 14)) ∈ flatC (Jvm.Cond.and given_1 narrow_1) := List.mem_of_getElem? (i := 374) (by decide +kernel)
theorem hs_8_15 : Cond.not (.eq (tsm 8) (tsm 15)) ∈ flatC (Jvm.Cond.and given_1 narrow_1) := List.mem_of_getElem? (i := 398) (by decide +kernel)
theorem hs_9_10 : Cond.not (.eq (tsm 9) (tsm 10)) ∈ flatC (Jvm.Cond.and given_1 narrow_1) := List.mem_of_getElem? (i := 285) (by decide +kernel)
theorem hs_9_11 : Cond.not (.eq (tsm 9) (tsm 11)) ∈ flatC (Jvm.Cond.and given_1 narrow_1) := List.mem_of_getElem? (i := 307) (by decide +kernel)
theorem hs_9_12 : Cond.not (.eq (tsm 9) (tsm 12)) ∈ flatC (Jvm.Cond.and given_1 narrow_1) := List.mem_of_getElem? (i := 329) (by decide +kernel)
theorem hs_9_13 : Cond.not (.eq (tsm 9) (tsm 13)) ∈ flatC (Jvm.Cond.and given_1 narrow_1) := List.mem_of_getElem? (i := 352) (by decide +kernel)
theorem hs_9_14 : Cond.not (.eq (tsm 9) (tsm 14)) ∈ flatC (Jvm.Cond.and given_1 narrow_1) := List.mem_of_getElem? (i := 375) (by decide +kernel)
theorem hs_9_15 : Cond.not (.eq (tsm 9) (tsm 15)) ∈ flatC (Jvm.Cond.and given_1 narrow_1) := List.mem_of_getElem? (i := 399) (by decide +kernel)
theorem hs_10_11 : Cond.not (.eq (tsm 10) (tsm 11)) ∈ flatC (Jvm.Cond.and given_1 narrow_1) := List.mem_of_getElem? (i := 308) (by decide +kernel)
theorem hs_10_12 : Cond.not (.eq (tsm 10) (tsm 12)) ∈ flatC (Jvm.Cond.and given_1 narrow_1) := List.mem_of_getElem? (i := 330) (by decide +kernel)
theorem hs_10_13 : Cond.not (.eq (tsm 10) (tsm 13)) ∈ flatC (Jvm.Cond.and given_1 narrow_1) := List.mem_of_getElem? (i := 353) (by decide +kernel)
theorem hs_10_14 : Cond.not (.eq (tsm 10) (tsm 14)) ∈ flatC (Jvm.Cond.and given_1 narrow_1) := List.mem_of_getElem? (i := 376) (by decide +kernel)
theorem hs_10_15 : Cond.not (.eq (tsm 10) (tsm 15)) ∈ flatC (Jvm.Cond.and given_1 narrow_1) := List.mem_of_getElem? (i := 400) (by decide +kernel)
theorem hs_11_12 : Cond.not (.eq (tsm 11) (tsm 12)) ∈ flatC (Jvm.Cond.and given_1 narrow_1) := List.mem_of_getElem? (i := 331) (by decide +kernel)
theorem hs_11_13 : Cond.not (.eq (tsm 11) (tsm 13)) ∈ flatC (Jvm.Cond.and given_1 narrow_1) := List.mem_of_getElem? (i := 354) (by decide +kernel)
theorem hs_11_14 : Cond.not (.eq (tsm 11) (tsm 14)) ∈ flatC (Jvm.Cond.and given_1 narrow_1) := List.mem_of_getElem? (i := 377) (by decide +kernel)
theorem hs_11_15 : Cond.not (.eq (tsm 11) (tsm 15)) ∈ flatC (Jvm.Cond.and given_1 narrow_1) := List.mem_of_getElem? (i := 401) (by decide +kernel)
theorem hs_12_13 : Cond.not (.eq (tsm 12) (tsm 13)) ∈ flatC (Jvm.Cond.and given_1 narrow_1) := List.mem_of_getElem? (i := 355) (by decide +kernel)
theorem hs_12_14 : Cond.not (.eq (tsm 12) (tsm 14)) ∈ flatC (Jvm.Cond.and given_1 narrow_1) := List.mem_of_getElem? (i := 378) (by decide +kernel)
theorem hs_12_15 : Cond.not (.eq (tsm 12) (tsm 15)) ∈ flatC (Jvm.Cond.and given_1 narrow_1) := List.mem_of_getElem? (i := 402) (by decide +kernel)
theorem hs_13_14 : Cond.not (.eq (tsm 13) (tsm 14)) ∈ flatC (Jvm.Cond.and given_1 narrow_1) := List.mem_of_getElem? (i := 379) (by decide +kernel)
theorem hs_13_15 : Cond.not (.eq (tsm 13) (tsm 15)) ∈ flatC (Jvm.Cond.and given_1 narrow_1) := List.mem_of_getElem? (i := 403) (by decide +kernel)
theorem hs_14_15 : Cond.not (.eq (tsm 14) (tsm 15)) ∈ flatC (Jvm.Cond.and given_1 narrow_1) := List.mem_of_getElem? (i := 404) (by decide +kernel)
def prs : List (Nat × Nat) := [(0, 1), (0, 2), (0, 3), (0, 4), (0, 5), (0, 6), (0, 7), (0, 8), (0, 9), (0, 10), (0, 11), (0, 12), (0, 13), (0, 14), (0, 15), (1, 2), (1, 3), (1, 4), (1, 5), (1, 6), (1, 7), (1, 8), (1, 9), (1, 10), (1, 11), (1, 12), (1, 13), (1, 14), (1, 15), (2, 3), (2, 4), (2, 5), (2, 6), (2, 7), (2, 8), (2, 9), (2, 10), (2, 11), (2, 12), (2, 13), (2, 14), (2, 15), (3, 4), (3, 5), (3, 6), (3, 7), (3, 8), (3, 9), (3, 10), (3, 11), (3, 12), (3, 13), (3, 14), (3, 15), (4, 5), (4, 6), (4, 7), (4, 8), (4, 9), (4, 10), (4, 11), (4, 12), (4, 13), (4, 14), (4, 15), (5, 6), (5, 7), (5, 8), (5, 9), (5, 10), (5, 11), (5, 12), (5, 13), (5, 14), (5, 15), (6, 7), (6, 8), (6, 9), (6, 10), (6, 11), (6, 12), (6, 13), (6, 14), (6, 15), (7, 8), (7, 9), (7, 10), (7, 11), (7, 12), (7, 13), (7, 14), (7, 15), (8, 9), (8, 10), (8, 11), (8, 12), (8, 13), (8, 14), (8, 15), (9, 10), (9, 11), (9, 12), (9, 13), (9, 14), (9, 15), (10, 11), (10, 12), (10, 13), (10, 14), (10, 15), (11, 12), (11, 13), (11, 14), (11, 15), (12, 13), (12, 14), (12, 15), (13, 14), (13, 15), (14, 15)]
theorem hs_pr : ∀ q ∈ prs, Cond.not (.eq (tsm q.1) (tsm q.2)) ∈ flatC (Jvm.Cond.and given_1 narrow_1) ∨ Cond.not (.eq (tsm q.2) (tsm q.1)) ∈ flatC (Jvm.Cond.and given_1 narrow_1) := by
  intro q hq
  simp only [prs, List.mem_cons, List.not_mem_nil, or_false] at hq
  rcases hq with rfl | rfl | rfl | rfl | rfl | rfl | rfl | rfl | rfl | rfl | rfl | rfl | rfl | rfl | rfl | rfl | rfl | rfl | rfl | rfl | rfl | rfl | rfl | rfl | rfl | rfl | rfl | rfl | rfl | rfl | rfl | rfl | rfl | rfl | rfl | rfl | rfl | rfl | rfl | rfl | rfl | rfl | rfl | rfl | rfl | rfl | rfl | rfl | rfl | rfl | rfl | rfl | rfl | rfl | rfl | rfl | rfl | rfl | rfl | rfl | rfl | rfl | rfl | rfl | rfl | rfl | rfl | rfl | rfl | rfl | rfl | rfl | rfl | rfl | rfl | rfl | rfl | rfl | rfl | rfl | rfl | rfl | rfl | rfl | rfl | rfl | rfl | rfl | rfl | rfl | rfl | rfl | rfl | rfl | rfl | rfl | rfl | rfl | rfl | rfl | rfl | rfl | rfl | rfl | rfl | rfl | rfl | rfl | rfl | rfl | rfl | rfl | rfl | rfl | rfl | rfl | rfl | rfl | rfl | rfl
  · exact Or.inl hs_0_1
  · exact Or.inl hs_0_2
  · exact Or.inl hs_0_3
  · exact Or.inl hs_0_4
  · exact Or.inl hs_0_5
  · exact Or.inl hs_0_6
  · exact Or.inl hs_0_7
  · exact Or.inl hs_0_8
  · exact Or.inl hs_0_9
  · exact Or.inl hs_0_10
  · exact Or.inl hs_0_11
  · exact Or.inl hs_0_12
  · exact Or.inl hs_0_13
  · exact Or.inl hs_0_14
  · exact Or.inl hs_0_15
  · exact Or.inl hs_1_2
  · exact Or.inl hs_1_3
  · exact Or.inl hs_1_4
  · exact Or.inl hs_1_5
  · exact Or.inl hs_1_6
  · exact Or.inl hs_1_7
  · exact Or.inl hs_1_8
  · exact Or.inl hs_1_9
  · exact Or.inl hs_1_10
  · exact Or.inl hs_1_11
  · exact Or.inl hs_1_12
  · exact Or.inl hs_1_13
  · exact Or.inl hs_1_14
  · exact Or.inl hs_1_15
  · exact Or.inl hs_2_3
  · exact Or.inl hs_2_4
  · exact Or.inl hs_2_5
  · exact Or.inl hs_2_6
  · exact Or.inl hs_2_7
  · exact Or.inl hs_2_8
  · exact Or.inl hs_2_9
  · exact Or.inl hs_2_10
  · exact Or.inl hs_2_11
  · exact Or.inl hs_2_12
  · exact Or.inl hs_2_13
  · exact Or.inl hs_2_14
  · exact Or.inl hs_2_15
  · exact Or.inl hs_3_4
  · exact Or.inl hs_3_5
  · exact Or.inl hs_3_6
  · exact Or.inl hs_3_7
  · exact Or.inl hs_3_8
  · exact Or.inl hs_3_9
  · exact Or.inl hs_3_10
  · exact Or.inl hs_3_11
  · exact Or.inl hs_3_12
  · exact Or.inl hs_3_13
  · exact Or.inl hs_3_14
  · exact Or.inl hs_3_15
  · exact Or.inl hs_4_5
  · exact Or.inl hs_4_6
  · exact Or.inl hs_4_7
  · exact Or.inl hs_4_8
  · exact Or.inl hs_4_9
  · exact Or.inl hs_4_10
  · exact Or.inl hs_4_11
  · exact Or.inl hs_4_12
  · exact Or.inl hs_4_13
  · exact Or.inl hs_4_14
  · exact Or.inl hs_4_15
  · exact Or.inl hs_5_6
  · exact Or.inl hs_5_7
  · exact Or.inl hs_5_8
  · exact Or.inl hs_5_9
  · exact Or.inl hs_5_10
  · exact Or.inl hs_5_11
  · exact Or.inl hs_5_12
  · exact Or.inl hs_5_13
  · exact Or.inl hs_5_14
  · exact Or.inl hs_5_15
  · exact Or.inl hs_6_7
  · exact Or.inl hs_6_8
  · exact Or.inl hs_6_9
  · exact Or.inl hs_6_10
  · exact Or.inl hs_6_11
  · exact Or.inl hs_6_12
  · exact Or.inl hs_6_13
  · exact Or.inl hs_6_14
  · exact Or.inl hs_6_15
  · exact Or.inl hs_7_8
  · exact Or.inl hs_7_9
  · exact Or.inl hs_7_10
  · exact Or.inl hs_7_11
  · exact Or.inl hs_7_12
  · exact Or.inl hs_7_13
  · exact Or.inl hs_7_14
  · exact Or.inl hs_7_15
  · exact Or.inl hs_8_9
  · exact Or.inl hs_8_10
  · exact Or.inl hs_8_11
  · exact Or.inl hs_8_12
  · exact Or.inl hs_8_13
  · exact Or.inl hs_8_14
  · exact Or.inl hs_8_15
  · exact Or.inl hs_9_10
  · exact Or.inl hs_9_11
  · exact Or.inl hs_9_12
  · exact Or.inl hs_9_13
  · exact Or.inl hs_9_14
  · exact Or.inl hs_9_15
  · exact Or.inl hs_10_11
  · exact Or.inl hs_10_12
  · exact Or.inl hs_10_13
  · exact Or.inl hs_10_14
  · exact Or.inl hs_10_15
  · exact Or.inl hs_11_12
  · exact Or.inl hs_11_13
  · exact Or.inl hs_11_14
  · exact Or.inl hs_11_15
  · exact Or.inl hs_12_13
  · exact Or.inl hs_12_14
  · exact Or.inl hs_12_15
  · exact Or.inl hs_13_14
  · exact Or.inl hs_13_15
  · exact Or.inl hs_14_15
theorem hs_inb : ((List.range 16).all fun i => (List.range 16).all fun j => (Nat.ble j i) || (prs.any fun q => q.1 == i && q.2 == j)) = true := by decide +kernel
theorem hs_in (i : Nat) (hi : i < 16) (j : Nat) (hj : j < 16) (h : i < j) : (i, j) ∈ prs := by
  have h1 := List.all_eq_true.mp (List.all_eq_true.mp hs_inb i (List.mem_range.mpr hi)) j (List.mem_range.mpr hj)
  have h2 : Nat.ble j i = false := by
    cases e : Nat.ble j i
    · rfl
    · exact absurd (Nat.le_of_ble_eq_true e) (by omega)
  rw [h2, Bool.false_or] at h1
  obtain ⟨q, hq, e⟩ := List.any_eq_true.mp h1
  rw [Bool.and_eq_true, beq_iff_eq, beq_iff_eq] at e
  have e9 : (i, j) = q := by rw [← e.1, ← e.2]
  rw [e9]
  exact hq
theorem hs_ne : ∀ i : Nat, i < 16 → ∀ j : Nat, j < 16 → i ≠ j → Cond.not (.eq (tsm i) (tsm j)) ∈ flatC (Jvm.Cond.and given_1 narrow_1) ∨ Cond.not (.eq (tsm j) (tsm i)) ∈ flatC (Jvm.Cond.and given_1 narrow_1) := fun i hi j hj h => (Nat.lt_or_gt_of_ne h).elim (fun z => hs_pr _ (hs_in i hi j hj z)) (fun z => (hs_pr _ (hs_in j hj i hi z)).symm)
theorem hb_ax : Cond.arrayOf (.static RX6 "BESIDE_X" "[I") .int ∈ flatC (Jvm.Cond.and given_1 narrow_1) := by decide +kernel
theorem hb_ay : Cond.arrayOf (.static RX6 "BESIDE_Y" "[I") .int ∈ flatC (Jvm.Cond.and given_1 narrow_1) := by decide +kernel
theorem hb_lx : Cond.eq (.length (.static RX6 "BESIDE_X" "[I")) (.int 4) ∈ flatC (Jvm.Cond.and given_1 narrow_1) := by decide +kernel
theorem hb_ly : Cond.eq (.length (.static RX6 "BESIDE_Y" "[I")) (.int 4) ∈ flatC (Jvm.Cond.and given_1 narrow_1) := by decide +kernel
theorem hb_ex : ∀ j : Nat, j < 4 → Cond.eq (.elem (.static RX6 "BESIDE_X" "[I") (.int (Int32.ofNat j))) (.int (([1, 0, -1, 0] : List Int32).getD j 0)) ∈ flatC (Jvm.Cond.and given_1 narrow_1) := by decide +kernel
theorem hb_ey : ∀ j : Nat, j < 4 → Cond.eq (.elem (.static RX6 "BESIDE_Y" "[I") (.int (Int32.ofNat j))) (.int (([0, 1, 0, -1] : List Int32).getD j 0)) ∈ flatC (Jvm.Cond.and given_1 narrow_1) := by decide +kernel
set_option maxHeartbeats 4000000 in
set_option maxRecDepth 100000 in
theorem law_world {s : State} {args : Array Value} (hts : ∀ w ∈ lw_tbl, w.before args s = true) (hgv : (Jvm.Cond.and given_1 narrow_1).before args s = true) : ∃ (D : va_G) (K : Nat → ClassId) (sa : sT), Wh D K s.heap.size sa s s.heap [] [] (fun _ => .inr (0, [])) := by
  have hgt : ∀ w ∈ gt, w.before args s = true := fun w hw => hts w (gt_tbl w hw)
  have htb : ∀ w ∈ tables_1, w.before args s = true := fun w hw => hts w (List.mem_append_right _ hw)
  have hg := flat_of_before _ hgv
  obtain ⟨c0, i0, k0⟩ := u_known (C := RX0) (T := TX0) (N := 13) (n := 13) hgt cin_0 (hgt _ gw_32)
  obtain ⟨c1, i1, k1⟩ := u_known (C := RX1) (T := TX1) (N := 1) (n := 1) hgt cin_1 (hgt _ gw_896)
  obtain ⟨c2, i2, k2⟩ := u_known (C := RX2) (T := TX2) (N := 9) (n := 9) hgt cin_2 (hgt _ gw_38)
  obtain ⟨c3, i3, k3⟩ := u_known (C := RX3) (T := TX3) (N := 3) (n := 3) hgt cin_3 (hgt _ gw_198)
  obtain ⟨c4, i4, k4⟩ := u_known (C := RX4) (T := TX4) (N := 12) (n := 12) hgt cin_4 (hgt _ gw_153)
  obtain ⟨c5, i5, k5⟩ := u_known (C := RX5) (T := TX5) (N := 17) (n := 17) hgt cin_5 (hgt _ gw_214)
  obtain ⟨c6, i6, k6⟩ := u_known (C := RX6) (T := TX6) (N := 18) (n := 18) hgt cin_6 (hgt _ gw_24)
  obtain ⟨c7, i7, k7⟩ := u_known (C := RX7) (T := TX7) (N := 57) (n := 57) hgt cin_7 (hgt _ gw_1149)
  obtain ⟨a0, ka0, cm0, p0, q0, r0⟩ := Cond.arrayClass_spec (hgt _ gw_85)
  obtain ⟨a1, ka1, cm1, p1, q1, r1⟩ := Cond.arrayClass_spec (hgt _ gw_1328)
  obtain ⟨a6, ka6, cm6, p6, q6, r6⟩ := Cond.arrayClass_spec (hgt _ gw_1691)
  obtain ⟨cm2, a2, ka2, o2, -, q2, r2, p2⟩ := Cond.arrayOver_spec (htb _ ta_149)
  obtain ⟨cm3, a3, ka3, o3, -, q3, r3, p3⟩ := Cond.arrayOver_spec (htb _ ta_151)
  obtain ⟨cm4, a4, ka4, o4, -, q4, r4, p4⟩ := Cond.arrayOver_spec (htb _ ta_87)
  obtain ⟨cm5, a5, ka5, o5, q5, r5, p5⟩ := ao_arr (htb _ ta_1155)
  obtain ⟨-, -, -, s1, -, -, -, -, -, t1⟩ := Cond.stringRef_spec k6.2.1 (htb _ ta_635)
  obtain ⟨-, -, -, s2, -, -, -, -, -, t2⟩ := Cond.stringRef_spec k6.2.1 (htb _ ta_596)
  obtain ⟨-, -, -, s3, -, -, -, -, -, t3⟩ := Cond.stringRef_spec k6.2.1 (htb _ ta_666)
  obtain ⟨tx, htx, hTx⟩ := va_Tof (args := args) (s := s) (tm := .static RX6 "BESIDE_X" "[I") (ty := .int) (N := 4) (f := bsx) (A := fun q => s.heap.size ≤ q) (by decide) (hg _ hb_ax) (va_eqt (hg _ hb_lx)) (fun j hj => va_eqt (hg _ (hb_ex j hj))) (fun a h => Nat.not_le.mpr h)
  obtain ⟨ty, hty, hTy⟩ := va_Tof (args := args) (s := s) (tm := .static RX6 "BESIDE_Y" "[I") (ty := .int) (N := 4) (f := bsy) (A := fun q => s.heap.size ≤ q) (by decide) (hg _ hb_ay) (va_eqt (hg _ hb_ly)) (fun j hj => va_eqt (hg _ (hb_ey j hj))) (fun a h => Nat.not_le.mpr h)
  obtain ⟨adK, adV, hSk, hSe⟩ := vk_Sof (args := args) (s := s) (N := 16) (tm := tsm) (len := rsN) (byt := rsB) (A := fun q => s.heap.size ≤ q) (by decide) (fun i hi => hg _ (hs_ex i hi)) (fun i hi => hg _ (hs_co i hi)) (fun i hi => hg _ (hs_ar i hi)) (fun i hi => hg _ (hs_le i hi)) (fun i hi j hj => hg _ (hs_el i hi j hj)) (fun i j hi hj hij => (hs_ne i hi j hj hij).elim (fun z => Or.inl (hg _ z)) (fun z => Or.inr (hg _ z))) (fun a h => Nat.not_le.mpr h)
  have hKe : ∀ (i : Nat) (q : Nat × String), rsL[i]? = some q → (Term.string RX4 q.1).eval args s none [] s = some (.ref (adK i)) := by
    intro i q hq
    have hi : i < 16 := (List.getElem?_eq_some_iff.mp hq).1
    have h1 := hSe i hi
    unfold tsm at h1
    rw [List.getD_eq_getElem?_getD, hq] at h1
    exact h1
  refine ⟨(fun k => [c0, c1, c2, c3, c4, c5, c6, c7].getD k c0, fun k => [i0, i1, i2, i3, i4, i5, i6, i7].getD k i0), fun k => [a0, a1, a2, a3, a4, a5, a6].getD k a0, (s1, s2, s3, adK, adV), Nat.le_refl _, ⟨fun k q hq => ?_, fun k q hq => ?_⟩, fun k q h => by simp [va_pl] at h, ⟨fun i j p q h => by simp [va_pl] at h, fun k q h => by simp [va_pl] at h⟩, va_S.rf, ⟨fun w hw => va_tabs (List.all_eq_true.mp nwl_ot w hw) rfl (htb w (nwl_in w hw)), va_AO.of (htb _ ta_149), va_AO.of (htb _ ta_151), ⟨va_AO.of (htb _ ta_87), ⟨cm5, a5, ka5, o5, p5, q5, r5⟩, va_Nc.of (hg _ hg_c), va_Nc.of (hg _ hg_c2), va_Nc.of (hg _ hg_c3)⟩, fun w hw => ?_⟩, vk_R.of (htb _ ta_635) t1, vk_R.of (htb _ ta_596) t2, vk_R.of (htb _ ta_666) t3, vx_Zqof (htb _ ta_582) (htb _ ta_9) (hg _ hg_u) (fun a h => Nat.not_le.mpr h), vx_Zqof (htb _ ta_584) (htb _ ta_9) (hg _ hg_s) (fun a h => Nat.not_le.mpr h), ⟨⟨tx, ty, ⟨va_Zref (htb _ tz_x) (htb _ tz_6) htx (fun a h => Nat.not_le.mpr h), hTx⟩, va_Zref (htb _ tz_y) (htb _ tz_6) hty (fun a h => Nat.not_le.mpr h), hTy⟩, ⟨hSk, fun i q hq => vk_R.of (htb _ (tz_s i q hq)) (hKe i q hq)⟩, va_Zof (htb _ tz_c) (htb _ tz_0) (va_eqi (hg _ hg_k)) (fun a h => Nat.not_le.mpr h), va_Zqof (htb _ tz_f) (htb _ tz_3) (hg _ hg_f) (fun a h => Nat.not_le.mpr h)⟩⟩
  · match k, hq with
    | 0, hq => cases hq; exact k0
    | 1, hq => cases hq; exact k1
    | 2, hq => cases hq; exact k2
    | 3, hq => cases hq; exact k3
    | 4, hq => cases hq; exact k4
    | 5, hq => cases hq; exact k5
    | 6, hq => cases hq; exact k6
    | 7, hq => cases hq; exact k7
    | (n + 8), hq => simp at hq
  · match k, hq with
    | 0, hq => cases hq; exact ⟨fun n z => ⟨fun k h => (by cases h), ka0, q0, cm0, r0⟩, p0⟩
    | 1, hq => cases hq; exact ⟨fun n z => ⟨fun k h => (by cases h), ka1, q1, cm1, r1⟩, p1⟩
    | 2, hq => cases hq; exact ⟨fun n z => ⟨fun k h => (by cases h), ka2, q2, cm2, r2⟩, ⟨ka2, cm2, q2, r2, o2, p2⟩⟩
    | 3, hq => cases hq; exact ⟨fun n z => ⟨fun k h => (by cases h), ka3, q3, cm3, r3⟩, ⟨ka3, cm3, q3, r3, o3, p3⟩⟩
    | 4, hq => cases hq; exact ⟨fun n z => ⟨fun k h => (by cases h), ka4, q4, cm4, r4⟩, ⟨ka4, cm4, q4, r4, o4, p4⟩⟩
    | 5, hq => cases hq; exact ⟨fun n z => ⟨fun k h => (by cases h), ka5, q5, cm5, r5⟩, p5⟩
    | 6, hq => cases hq; exact ⟨fun n z => ⟨fun k h => (by cases h), ka6, q6, cm6, r6⟩, p6⟩
    | (n + 7), hq => simp at hq
  · have h1 := List.all_eq_true.mp nw3_ok w hw
    rw [Bool.and_eq_true] at h1
    exact va_tabs h1.2 rfl (htb w (nw3_in w hw))
