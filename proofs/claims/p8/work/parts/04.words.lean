/-- the words that stay: what every method of ours may ask of the tables -/
def gt : List Cond := lw_tbl.filter goodWord
theorem gt_of {w : Cond} (h : w ∈ lw_tbl) (hg : goodWord w = true) : w ∈ gt := List.mem_filter.mpr ⟨h, hg⟩
theorem gt_tb {w : Cond} (i : Nat) (h : tables_1[i]? = some w) (hg : goodWord w = true) : w ∈ gt := gt_of (List.mem_append_right _ (List.mem_of_getElem? h)) hg
theorem gt_sel {w : Cond} (i : Nat) (h : (k2_sels lw_privs)[i]? = some w) (hg : goodWord w = true) : w ∈ gt := gt_of (List.mem_append_left _ (List.mem_of_getElem? h)) hg
theorem gt_good : ∀ w ∈ gt, goodWord w = true := fun _ h => (List.mem_filter.mp h).2
theorem gt_tbl : ∀ w ∈ gt, w ∈ lw_tbl := fun _ h => (List.mem_filter.mp h).1
theorem gt_in {w : Cond} (h : w ∈ gt) : GoodIn gt (w :: gt) := fun x hx => (List.mem_cons.mp hx).elim (fun e => by rw [e]; exact ⟨h, good_of_word (gt_good _ h)⟩) (fun h => ⟨h, good_of_word (gt_good _ h)⟩)
theorem cin_0 : ∀ w ∈ u_ws RX0 TX0 13, w ∈ gt := by
  have h1 : ∀ w ∈ u_ws RX0 TX0 13, w ∈ tables_1 := by decide +kernel
  have h2 : ∀ w ∈ u_ws RX0 TX0 13, goodWord w = true := by decide +kernel
  exact fun w h => gt_of (List.mem_append_right _ (h1 w h)) (h2 w h)
theorem cin_1 : ∀ w ∈ u_ws RX1 TX1 1, w ∈ gt := by
  have h1 : ∀ w ∈ u_ws RX1 TX1 1, w ∈ tables_1 := by decide +kernel
  have h2 : ∀ w ∈ u_ws RX1 TX1 1, goodWord w = true := by decide +kernel
  exact fun w h => gt_of (List.mem_append_right _ (h1 w h)) (h2 w h)
theorem cin_2 : ∀ w ∈ u_ws RX2 TX2 9, w ∈ gt := by
  have h1 : ∀ w ∈ u_ws RX2 TX2 9, w ∈ tables_1 := by decide +kernel
  have h2 : ∀ w ∈ u_ws RX2 TX2 9, goodWord w = true := by decide +kernel
  exact fun w h => gt_of (List.mem_append_right _ (h1 w h)) (h2 w h)
theorem cin_3 : ∀ w ∈ u_ws RX3 TX3 3, w ∈ gt := by
  have h1 : ∀ w ∈ u_ws RX3 TX3 3, w ∈ tables_1 := by decide +kernel
  have h2 : ∀ w ∈ u_ws RX3 TX3 3, goodWord w = true := by decide +kernel
  exact fun w h => gt_of (List.mem_append_right _ (h1 w h)) (h2 w h)
theorem cin_4 : ∀ w ∈ u_ws RX4 TX4 12, w ∈ gt := by
  have h1 : ∀ w ∈ u_ws RX4 TX4 12, w ∈ tables_1 := by decide +kernel
  have h2 : ∀ w ∈ u_ws RX4 TX4 12, goodWord w = true := by decide +kernel
  exact fun w h => gt_of (List.mem_append_right _ (h1 w h)) (h2 w h)
theorem cin_5 : ∀ w ∈ u_ws RX5 TX5 17, w ∈ gt := by
  have h1 : ∀ w ∈ u_ws RX5 TX5 17, w ∈ tables_1 := by decide +kernel
  have h2 : ∀ w ∈ u_ws RX5 TX5 17, goodWord w = true := by decide +kernel
  exact fun w h => gt_of (List.mem_append_right _ (h1 w h)) (h2 w h)
theorem cin_6 : ∀ w ∈ u_ws RX6 TX6 18, w ∈ gt := by
  have h1 : ∀ w ∈ u_ws RX6 TX6 18, w ∈ tables_1 := by decide +kernel
  have h2 : ∀ w ∈ u_ws RX6 TX6 18, goodWord w = true := by decide +kernel
  exact fun w h => gt_of (List.mem_append_right _ (h1 w h)) (h2 w h)
theorem cin_7 : ∀ w ∈ u_ws RX7 TX7 57, w ∈ gt := by
  have h1 : ∀ w ∈ u_ws RX7 TX7 57, w ∈ tables_1 := by decide +kernel
  have h2 : ∀ w ∈ u_ws RX7 TX7 57, goodWord w = true := by decide +kernel
  exact fun w h => gt_of (List.mem_append_right _ (h1 w h)) (h2 w h)
theorem tc_1 {w : Cond} (h : w ∈ tables_1_1) : w ∈ tables_1 := List.mem_append_left _ h
theorem gt_c1 {w : Cond} (j : Nat) (h : tables_1_1[j]? = some w) (hg : goodWord w = true) : w ∈ gt := gt_of (List.mem_append_right _ (tc_1 (List.mem_of_getElem? h))) hg
theorem tc_2 {w : Cond} (h : w ∈ tables_1_2) : w ∈ tables_1 := List.mem_append_right _ (List.mem_append_left _ h)
theorem gt_c2 {w : Cond} (j : Nat) (h : tables_1_2[j]? = some w) (hg : goodWord w = true) : w ∈ gt := gt_of (List.mem_append_right _ (tc_2 (List.mem_of_getElem? h))) hg
theorem tc_3 {w : Cond} (h : w ∈ tables_1_3) : w ∈ tables_1 := List.mem_append_right _ (List.mem_append_right _ (List.mem_append_left _ h))
theorem gt_c3 {w : Cond} (j : Nat) (h : tables_1_3[j]? = some w) (hg : goodWord w = true) : w ∈ gt := gt_of (List.mem_append_right _ (tc_3 (List.mem_of_getElem? h))) hg
theorem tc_4 {w : Cond} (h : w ∈ tables_1_4) : w ∈ tables_1 := List.mem_append_right _ (List.mem_append_right _ (List.mem_append_right _ (List.mem_append_left _ h)))
theorem gt_c4 {w : Cond} (j : Nat) (h : tables_1_4[j]? = some w) (hg : goodWord w = true) : w ∈ gt := gt_of (List.mem_append_right _ (tc_4 (List.mem_of_getElem? h))) hg
theorem tc_5 {w : Cond} (h : w ∈ tables_1_5) : w ∈ tables_1 := List.mem_append_right _ (List.mem_append_right _ (List.mem_append_right _ (List.mem_append_right _ (List.mem_append_left _ h))))
theorem gt_c5 {w : Cond} (j : Nat) (h : tables_1_5[j]? = some w) (hg : goodWord w = true) : w ∈ gt := gt_of (List.mem_append_right _ (tc_5 (List.mem_of_getElem? h))) hg
theorem tc_6 {w : Cond} (h : w ∈ tables_1_6) : w ∈ tables_1 := List.mem_append_right _ (List.mem_append_right _ (List.mem_append_right _ (List.mem_append_right _ (List.mem_append_right _ (List.mem_append_left _ h)))))
theorem gt_c6 {w : Cond} (j : Nat) (h : tables_1_6[j]? = some w) (hg : goodWord w = true) : w ∈ gt := gt_of (List.mem_append_right _ (tc_6 (List.mem_of_getElem? h))) hg
theorem tc_7 {w : Cond} (h : w ∈ tables_1_7) : w ∈ tables_1 := List.mem_append_right _ (List.mem_append_right _ (List.mem_append_right _ (List.mem_append_right _ (List.mem_append_right _ (List.mem_append_right _ (List.mem_append_left _ h))))))
theorem gt_c7 {w : Cond} (j : Nat) (h : tables_1_7[j]? = some w) (hg : goodWord w = true) : w ∈ gt := gt_of (List.mem_append_right _ (tc_7 (List.mem_of_getElem? h))) hg
theorem tc_8 {w : Cond} (h : w ∈ tables_1_8) : w ∈ tables_1 := List.mem_append_right _ (List.mem_append_right _ (List.mem_append_right _ (List.mem_append_right _ (List.mem_append_right _ (List.mem_append_right _ (List.mem_append_right _ (h)))))))
theorem gt_c8 {w : Cond} (j : Nat) (h : tables_1_8[j]? = some w) (hg : goodWord w = true) : w ∈ gt := gt_of (List.mem_append_right _ (tc_8 (List.mem_of_getElem? h))) hg
theorem gw_0 : (Jvm.Cond.initialized "ClawBoxesLaw") ∈ gt := gt_c1 0 rfl rfl
theorem gw_1 : (Jvm.Cond.initialized "ClawBoxes") ∈ gt := gt_c1 1 rfl rfl
theorem gw_2 : (Jvm.Cond.initialized "ClawBoxes$Box") ∈ gt := gt_c1 2 rfl rfl
theorem gw_3 : (Jvm.Cond.initialized "ClawBoxes$Heaps") ∈ gt := gt_c1 3 rfl rfl
theorem gw_4 : (Jvm.Cond.initialized "java/util/Arrays") ∈ gt := gt_c1 4 rfl rfl
theorem gw_5 : (Jvm.Cond.initialized "ClawBoxes$Reader") ∈ gt := gt_c1 5 rfl rfl
theorem gw_6 : (Jvm.Cond.initialized "ClawBoxes$Machine") ∈ gt := gt_c1 6 rfl rfl
theorem gw_7 : (Jvm.Cond.initialized "ClawBoxes$Try") ∈ gt := gt_c1 7 rfl rfl
theorem gw_8 : (Jvm.Cond.initialized "ClawBoxesModel") ∈ gt := gt_c1 8 rfl rfl
theorem gw_9 : (Jvm.Cond.initialized "java/lang/Throwable") ∈ gt := gt_c1 9 rfl rfl
theorem gw_10 : (Jvm.Cond.initialized "java/lang/Exception") ∈ gt := gt_c1 10 rfl rfl
theorem gw_11 : (Jvm.Cond.initialized "java/lang/RuntimeException") ∈ gt := gt_c1 11 rfl rfl
theorem gw_12 : (Jvm.Cond.initialized "java/lang/IndexOutOfBoundsException") ∈ gt := gt_c1 12 rfl rfl
theorem gw_13 : (Jvm.Cond.initialized "java/lang/IllegalArgumentException") ∈ gt := gt_c1 13 rfl rfl
theorem gw_14 : (Jvm.Cond.initialized "java/util/NoSuchElementException") ∈ gt := gt_c1 14 rfl rfl
theorem gw_15 : (Jvm.Cond.initialized "java/lang/Math") ∈ gt := gt_c1 15 rfl rfl
theorem gw_16 : (Jvm.Cond.initialized "java/lang/String") ∈ gt := gt_c1 16 rfl rfl
theorem gw_17 : (Jvm.Cond.initialized "java/lang/StringLatin1") ∈ gt := gt_c1 17 rfl rfl
theorem gw_18 : (Jvm.Cond.initialized "jdk/internal/util/Preconditions") ∈ gt := gt_c1 18 rfl rfl
theorem gw_19 : (Jvm.Cond.initialized "java/lang/StringUTF16") ∈ gt := gt_c1 19 rfl rfl
theorem gw_20 : (Jvm.Cond.initialized "ClawBoxes$Code") ∈ gt := gt_c1 20 rfl rfl
theorem gw_21 : (Jvm.Cond.initialized "java/lang/System") ∈ gt := gt_c1 21 rfl rfl
theorem gw_22 : (Jvm.Cond.initialized "java/lang/Integer") ∈ gt := gt_c1 22 rfl rfl
theorem gw_23 : (Jvm.Cond.classLink "ClawBoxesLaw" (8 : Nat) "ClawBoxes") ∈ gt := gt_c1 23 rfl rfl
theorem gw_24 : (Jvm.Cond.instantiable "ClawBoxes" (18 : Nat)) ∈ gt := gt_c1 24 rfl rfl
theorem gw_25 : (Jvm.Cond.methodLink "ClawBoxesLaw" (103 : Nat) ({ cls := "ClawBoxes", name := "<init>", desc := "()V" } : Jvm.MethodName)) ∈ gt := gt_c1 25 rfl rfl
theorem gw_26 : (Jvm.Cond.instanceMethod ({ cls := "ClawBoxes", name := "<init>", desc := "()V" } : Jvm.MethodName)) ∈ gt := gt_c1 26 rfl rfl
theorem gw_27 : (Jvm.Cond.code ({ cls := "ClawBoxes", name := "<init>", desc := "()V" } : Jvm.MethodName) prog_1_method_1_code (1 : Nat) (Option.none : Option Jvm.ClassFile.FieldType)) ∈ gt := gt_c1 27 rfl rfl
theorem gw_28 : (Jvm.Cond.methodLink "ClawBoxes" (1 : Nat) ({ cls := "java/lang/Object", name := "<init>", desc := "()V" } : Jvm.MethodName)) ∈ gt := gt_c1 28 rfl rfl
theorem gw_29 : (Jvm.Cond.instanceMethod ({ cls := "java/lang/Object", name := "<init>", desc := "()V" } : Jvm.MethodName)) ∈ gt := gt_c1 29 rfl rfl
theorem gw_30 : (Jvm.Cond.code ({ cls := "java/lang/Object", name := "<init>", desc := "()V" } : Jvm.MethodName) object_method_1_code (1 : Nat) (Option.none : Option Jvm.ClassFile.FieldType)) ∈ gt := gt_c1 30 rfl rfl
theorem gw_31 : (Jvm.Cond.classLink "ClawBoxes" (7 : Nat) "ClawBoxes$Box") ∈ gt := gt_c1 31 rfl rfl
theorem gw_32 : (Jvm.Cond.instantiable "ClawBoxes$Box" (13 : Nat)) ∈ gt := gt_c1 32 rfl rfl
theorem gw_34 : (Jvm.Cond.instanceMethod ({ cls := "ClawBoxes$Box", name := "<init>", desc := "()V" } : Jvm.MethodName)) ∈ gt := gt_c1 34 rfl rfl
theorem gw_35 : (Jvm.Cond.code ({ cls := "ClawBoxes$Box", name := "<init>", desc := "()V" } : Jvm.MethodName) prog_2_method_1_code (1 : Nat) (Option.none : Option Jvm.ClassFile.FieldType)) ∈ gt := gt_c1 35 rfl rfl
theorem gw_36 : (Jvm.Cond.methodLink "ClawBoxes$Box" (3 : Nat) ({ cls := "java/lang/Object", name := "<init>", desc := "()V" } : Jvm.MethodName)) ∈ gt := gt_c1 36 rfl rfl
theorem gw_37 : (Jvm.Cond.classLink "ClawBoxes$Box" (9 : Nat) "ClawBoxes$Heaps") ∈ gt := gt_c1 37 rfl rfl
theorem gw_38 : (Jvm.Cond.instantiable "ClawBoxes$Heaps" (9 : Nat)) ∈ gt := gt_c1 38 rfl rfl
theorem gw_39 : (Jvm.Cond.methodLink "ClawBoxes$Box" (11 : Nat) ({ cls := "ClawBoxes$Heaps", name := "<init>", desc := "()V" } : Jvm.MethodName)) ∈ gt := gt_c1 39 rfl rfl
theorem gw_40 : (Jvm.Cond.instanceMethod ({ cls := "ClawBoxes$Heaps", name := "<init>", desc := "()V" } : Jvm.MethodName)) ∈ gt := gt_c1 40 rfl rfl
theorem gw_41 : (Jvm.Cond.code ({ cls := "ClawBoxes$Heaps", name := "<init>", desc := "()V" } : Jvm.MethodName) prog_4_method_1_code (1 : Nat) (Option.none : Option Jvm.ClassFile.FieldType)) ∈ gt := gt_c1 41 rfl rfl
theorem gw_42 : (Jvm.Cond.methodLink "ClawBoxes$Heaps" (3 : Nat) ({ cls := "java/lang/Object", name := "<init>", desc := "()V" } : Jvm.MethodName)) ∈ gt := gt_c1 42 rfl rfl
theorem gw_43 : (Jvm.Cond.methodLink "ClawBoxes$Heaps" (40 : Nat) ({ cls := "java/util/Arrays", name := "fill", desc := "([II)V" } : Jvm.MethodName)) ∈ gt := gt_c1 43 rfl rfl
theorem gw_44 : (Jvm.Cond.static ({ cls := "java/util/Arrays", name := "fill", desc := "([II)V" } : Jvm.MethodName)) ∈ gt := gt_c1 44 rfl rfl
theorem gw_45 : (Jvm.Cond.code ({ cls := "java/util/Arrays", name := "fill", desc := "([II)V" } : Jvm.MethodName) prog_22_method_103_code (4 : Nat) (Option.none : Option Jvm.ClassFile.FieldType)) ∈ gt := gt_c1 45 rfl rfl
theorem gw_46 : (Jvm.Cond.fieldLink "ClawBoxes$Heaps" (9 : Nat) "ClawBoxes$Heaps" "size" "I") ∈ gt := gt_c1 46 rfl rfl
theorem gw_47 : (Jvm.Cond.fieldLink "ClawBoxes" (110 : Nat) "ClawBoxes$Heaps" "size" "I") ∈ gt := gt_c1 47 rfl rfl
theorem gw_48 : (Jvm.Cond.fieldLink "ClawBoxes$Heaps" (15 : Nat) "ClawBoxes$Heaps" "weights" "[I") ∈ gt := gt_c1 48 rfl rfl
theorem gw_49 : (Jvm.Cond.fieldLink "ClawBoxes" (130 : Nat) "ClawBoxes$Heaps" "weights" "[I") ∈ gt := gt_c1 49 rfl rfl
theorem gw_50 : (Jvm.Cond.fieldLink "ClawBoxes$Try" (122 : Nat) "ClawBoxes$Heaps" "weights" "[I") ∈ gt := gt_c1 50 rfl rfl
theorem gw_51 : (Jvm.Cond.fieldLink "ClawBoxes$Heaps" (19 : Nat) "ClawBoxes$Heaps" "locks" "[I") ∈ gt := gt_c1 51 rfl rfl
theorem gw_52 : (Jvm.Cond.fieldLink "ClawBoxes$Try" (109 : Nat) "ClawBoxes$Heaps" "locks" "[I") ∈ gt := gt_c1 52 rfl rfl
theorem gw_53 : (Jvm.Cond.fieldLink "ClawBoxes" (133 : Nat) "ClawBoxes$Heaps" "locks" "[I") ∈ gt := gt_c1 53 rfl rfl
theorem gw_54 : (Jvm.Cond.fieldLink "ClawBoxes$Heaps" (22 : Nat) "ClawBoxes$Heaps" "values" "[I") ∈ gt := gt_c1 54 rfl rfl
theorem gw_55 : (Jvm.Cond.fieldLink "ClawBoxes" (136 : Nat) "ClawBoxes$Heaps" "values" "[I") ∈ gt := gt_c1 55 rfl rfl
theorem gw_56 : (Jvm.Cond.fieldLink "ClawBoxes$Heaps" (25 : Nat) "ClawBoxes$Heaps" "wires" "[I") ∈ gt := gt_c1 56 rfl rfl
theorem gw_57 : (Jvm.Cond.fieldLink "ClawBoxes" (117 : Nat) "ClawBoxes$Heaps" "wires" "[I") ∈ gt := gt_c1 57 rfl rfl
theorem gw_58 : (Jvm.Cond.fieldLink "ClawBoxes$Try" (125 : Nat) "ClawBoxes$Heaps" "wires" "[I") ∈ gt := gt_c1 58 rfl rfl
theorem gw_59 : (Jvm.Cond.fieldLink "ClawBoxes$Heaps" (28 : Nat) "ClawBoxes$Heaps" "laidOn" "[I") ∈ gt := gt_c1 59 rfl rfl
theorem gw_60 : (Jvm.Cond.fieldLink "ClawBoxes$Heaps" (31 : Nat) "ClawBoxes$Heaps" "places" "[I") ∈ gt := gt_c1 60 rfl rfl
theorem gw_61 : (Jvm.Cond.fieldLink "ClawBoxes" (120 : Nat) "ClawBoxes$Heaps" "places" "[I") ∈ gt := gt_c1 61 rfl rfl
theorem gw_62 : (Jvm.Cond.fieldLink "ClawBoxes$Heaps" (34 : Nat) "ClawBoxes$Heaps" "beneath" "[I") ∈ gt := gt_c1 62 rfl rfl
theorem gw_63 : (Jvm.Cond.fieldLink "ClawBoxes$Heaps" (37 : Nat) "ClawBoxes$Heaps" "tops" "[I") ∈ gt := gt_c1 63 rfl rfl
theorem gw_64 : (Jvm.Cond.fieldLink "ClawBoxes$Try" (88 : Nat) "ClawBoxes$Heaps" "tops" "[I") ∈ gt := gt_c1 64 rfl rfl
theorem gw_65 : (Jvm.Cond.fieldLink "ClawBoxes" (139 : Nat) "ClawBoxes$Heaps" "tops" "[I") ∈ gt := gt_c1 65 rfl rfl
theorem gw_85 : (Jvm.Cond.arrayClass Jvm.ClassFile.FieldType.int) ∈ gt := gt_c1 85 rfl rfl
theorem gw_86 : (Jvm.Cond.classLink "ClawBoxes$Box" (49 : Nat) "ClawBoxes$Try") ∈ gt := gt_c1 86 rfl rfl
theorem gw_88 : (Jvm.Cond.fieldLink "ClawBoxes$Box" (12 : Nat) "ClawBoxes$Box" "heaps" "LClawBoxes$Heaps;") ∈ gt := gt_c1 88 rfl rfl
theorem gw_89 : (Jvm.Cond.fieldLink "ClawBoxes" (100 : Nat) "ClawBoxes$Box" "heaps" "LClawBoxes$Heaps;") ∈ gt := gt_c1 89 rfl rfl
theorem gw_90 : (Jvm.Cond.fieldLink "ClawBoxes$Try" (84 : Nat) "ClawBoxes$Box" "heaps" "LClawBoxes$Heaps;") ∈ gt := gt_c1 90 rfl rfl
theorem gw_91 : (Jvm.Cond.fieldLink "ClawBoxes$Box" (18 : Nat) "ClawBoxes$Box" "hole" "I") ∈ gt := gt_c1 91 rfl rfl
theorem gw_92 : (Jvm.Cond.fieldLink "ClawBoxes" (89 : Nat) "ClawBoxes$Box" "hole" "I") ∈ gt := gt_c1 92 rfl rfl
theorem gw_93 : (Jvm.Cond.fieldLink "ClawBoxes$Try" (76 : Nat) "ClawBoxes$Box" "hole" "I") ∈ gt := gt_c1 93 rfl rfl
theorem gw_94 : (Jvm.Cond.fieldLink "ClawBoxes$Box" (22 : Nat) "ClawBoxes$Box" "time" "I") ∈ gt := gt_c1 94 rfl rfl
theorem gw_95 : (Jvm.Cond.fieldLink "ClawBoxes$Try" (77 : Nat) "ClawBoxes$Box" "time" "I") ∈ gt := gt_c1 95 rfl rfl
theorem gw_96 : (Jvm.Cond.fieldLink "ClawBoxes" (142 : Nat) "ClawBoxes$Box" "time" "I") ∈ gt := gt_c1 96 rfl rfl
theorem gw_97 : (Jvm.Cond.fieldLink "ClawBoxes$Box" (25 : Nat) "ClawBoxes$Box" "price" "I") ∈ gt := gt_c1 97 rfl rfl
theorem gw_98 : (Jvm.Cond.fieldLink "ClawBoxes$Try" (69 : Nat) "ClawBoxes$Box" "price" "I") ∈ gt := gt_c1 98 rfl rfl
theorem gw_99 : (Jvm.Cond.fieldLink "ClawBoxes" (145 : Nat) "ClawBoxes$Box" "price" "I") ∈ gt := gt_c1 99 rfl rfl
theorem gw_100 : (Jvm.Cond.fieldLink "ClawBoxes$Box" (28 : Nat) "ClawBoxes$Box" "hour" "I") ∈ gt := gt_c1 100 rfl rfl
theorem gw_101 : (Jvm.Cond.fieldLink "ClawBoxes$Try" (75 : Nat) "ClawBoxes$Box" "hour" "I") ∈ gt := gt_c1 101 rfl rfl
theorem gw_102 : (Jvm.Cond.fieldLink "ClawBoxes" (148 : Nat) "ClawBoxes$Box" "hour" "I") ∈ gt := gt_c1 102 rfl rfl
theorem gw_103 : (Jvm.Cond.fieldLink "ClawBoxes$Box" (31 : Nat) "ClawBoxes$Box" "sown" "I") ∈ gt := gt_c1 103 rfl rfl
theorem gw_104 : (Jvm.Cond.fieldLink "ClawBoxes" (151 : Nat) "ClawBoxes$Box" "sown" "I") ∈ gt := gt_c1 104 rfl rfl
theorem gw_105 : (Jvm.Cond.fieldLink "ClawBoxes$Box" (34 : Nat) "ClawBoxes$Box" "inForce" "I") ∈ gt := gt_c1 105 rfl rfl
theorem gw_106 : (Jvm.Cond.fieldLink "ClawBoxes" (175 : Nat) "ClawBoxes$Box" "inForce" "I") ∈ gt := gt_c1 106 rfl rfl
theorem gw_107 : (Jvm.Cond.fieldLink "ClawBoxes$Box" (37 : Nat) "ClawBoxes$Box" "tries" "I") ∈ gt := gt_c1 107 rfl rfl
theorem gw_108 : (Jvm.Cond.fieldLink "ClawBoxes$Try" (64 : Nat) "ClawBoxes$Box" "tries" "I") ∈ gt := gt_c1 108 rfl rfl
theorem gw_109 : (Jvm.Cond.fieldLink "ClawBoxes" (260 : Nat) "ClawBoxes$Box" "tries" "I") ∈ gt := gt_c1 109 rfl rfl
theorem gw_110 : (Jvm.Cond.fieldLink "ClawBoxes$Box" (40 : Nat) "ClawBoxes$Box" "since" "I") ∈ gt := gt_c1 110 rfl rfl
theorem gw_111 : (Jvm.Cond.fieldLink "ClawBoxes$Try" (67 : Nat) "ClawBoxes$Box" "since" "I") ∈ gt := gt_c1 111 rfl rfl
theorem gw_112 : (Jvm.Cond.fieldLink "ClawBoxes" (261 : Nat) "ClawBoxes$Box" "since" "I") ∈ gt := gt_c1 112 rfl rfl
theorem gw_113 : (Jvm.Cond.fieldLink "ClawBoxes$Box" (43 : Nat) "ClawBoxes$Box" "coins" "I") ∈ gt := gt_c1 113 rfl rfl
theorem gw_114 : (Jvm.Cond.fieldLink "ClawBoxes$Try" (68 : Nat) "ClawBoxes$Box" "coins" "I") ∈ gt := gt_c1 114 rfl rfl
theorem gw_115 : (Jvm.Cond.fieldLink "ClawBoxes" (262 : Nat) "ClawBoxes$Box" "coins" "I") ∈ gt := gt_c1 115 rfl rfl
theorem gw_116 : (Jvm.Cond.fieldLink "ClawBoxes$Box" (46 : Nat) "ClawBoxes$Box" "paidOut" "I") ∈ gt := gt_c1 116 rfl rfl
theorem gw_117 : (Jvm.Cond.fieldLink "ClawBoxes$Try" (72 : Nat) "ClawBoxes$Box" "paidOut" "I") ∈ gt := gt_c1 117 rfl rfl
theorem gw_118 : (Jvm.Cond.fieldLink "ClawBoxes" (263 : Nat) "ClawBoxes$Box" "paidOut" "I") ∈ gt := gt_c1 118 rfl rfl
theorem gw_119 : (Jvm.Cond.fieldLink "ClawBoxes$Box" (51 : Nat) "ClawBoxes$Box" "kept" "[LClawBoxes$Try;") ∈ gt := gt_c1 119 rfl rfl
theorem gw_120 : (Jvm.Cond.fieldLink "ClawBoxes$Box" (55 : Nat) "ClawBoxes$Box" "recorded" "I") ∈ gt := gt_c1 120 rfl rfl
theorem gw_121 : (Jvm.Cond.fieldLink "ClawBoxes" (199 : Nat) "ClawBoxes$Box" "recorded" "I") ∈ gt := gt_c1 121 rfl rfl
theorem gw_150 : (Jvm.Cond.classLink "ClawBoxes" (27 : Nat) "ClawBoxes$Code") ∈ gt := gt_c1 150 rfl rfl
theorem gw_152 : (Jvm.Cond.classLink "ClawBoxes" (58 : Nat) "ClawBoxes$Reader") ∈ gt := gt_c1 152 rfl rfl
theorem gw_153 : (Jvm.Cond.instantiable "ClawBoxes$Reader" (12 : Nat)) ∈ gt := gt_c1 153 rfl rfl
theorem gw_155 : (Jvm.Cond.instanceMethod ({ cls := "ClawBoxes$Reader", name := "<init>", desc := "()V" } : Jvm.MethodName)) ∈ gt := gt_c1 155 rfl rfl
theorem gw_156 : (Jvm.Cond.code ({ cls := "ClawBoxes$Reader", name := "<init>", desc := "()V" } : Jvm.MethodName) prog_6_method_1_code (1 : Nat) (Option.none : Option Jvm.ClassFile.FieldType)) ∈ gt := gt_c1 156 rfl rfl
theorem gw_157 : (Jvm.Cond.methodLink "ClawBoxes$Reader" (3 : Nat) ({ cls := "java/lang/Object", name := "<init>", desc := "()V" } : Jvm.MethodName)) ∈ gt := gt_c1 157 rfl rfl
theorem gw_158 : (Jvm.Cond.fieldLink "ClawBoxes$Reader" (9 : Nat) "ClawBoxes$Reader" "kinds" "[I") ∈ gt := gt_c1 158 rfl rfl
theorem gw_159 : (Jvm.Cond.fieldLink "ClawBoxes$Reader" (15 : Nat) "ClawBoxes$Reader" "spots" "[I") ∈ gt := gt_c1 159 rfl rfl
theorem gw_160 : (Jvm.Cond.fieldLink "ClawBoxes$Reader" (18 : Nat) "ClawBoxes$Reader" "numbers" "[I") ∈ gt := gt_c1 160 rfl rfl
theorem gw_161 : (Jvm.Cond.fieldLink "ClawBoxes$Reader" (21 : Nat) "ClawBoxes$Reader" "tokens" "I") ∈ gt := gt_c1 161 rfl rfl
theorem gw_162 : (Jvm.Cond.fieldLink "ClawBoxes$Reader" (25 : Nat) "ClawBoxes$Reader" "at" "I") ∈ gt := gt_c1 162 rfl rfl
theorem gw_163 : (Jvm.Cond.fieldLink "ClawBoxes$Reader" (28 : Nat) "ClawBoxes$Reader" "length" "I") ∈ gt := gt_c1 163 rfl rfl
theorem gw_164 : (Jvm.Cond.fieldLink "ClawBoxes$Reader" (31 : Nat) "ClawBoxes$Reader" "code" "[I") ∈ gt := gt_c1 164 rfl rfl
theorem gw_165 : (Jvm.Cond.fieldLink "ClawBoxes$Reader" (34 : Nat) "ClawBoxes$Reader" "codeLength" "I") ∈ gt := gt_c1 165 rfl rfl
theorem gw_166 : (Jvm.Cond.fieldLink "ClawBoxes$Reader" (37 : Nat) "ClawBoxes$Reader" "open" "I") ∈ gt := gt_c1 166 rfl rfl
theorem gw_167 : (Jvm.Cond.fieldLink "ClawBoxes$Reader" (40 : Nat) "ClawBoxes$Reader" "isLaw" "Z") ∈ gt := gt_c1 167 rfl rfl
theorem gw_168 : (Jvm.Cond.fieldLink "ClawBoxes$Reader" (44 : Nat) "ClawBoxes$Reader" "faultKind" "I") ∈ gt := gt_c1 168 rfl rfl
theorem gw_169 : (Jvm.Cond.fieldLink "ClawBoxes" (165 : Nat) "ClawBoxes$Reader" "faultKind" "I") ∈ gt := gt_c1 169 rfl rfl
theorem gw_170 : (Jvm.Cond.fieldLink "ClawBoxes$Reader" (47 : Nat) "ClawBoxes$Reader" "faultPlace" "I") ∈ gt := gt_c1 170 rfl rfl
theorem gw_171 : (Jvm.Cond.fieldLink "ClawBoxes" (164 : Nat) "ClawBoxes$Reader" "faultPlace" "I") ∈ gt := gt_c1 171 rfl rfl
theorem gw_197 : (Jvm.Cond.classLink "ClawBoxes" (65 : Nat) "ClawBoxes$Machine") ∈ gt := gt_c1 197 rfl rfl
theorem gw_198 : (Jvm.Cond.instantiable "ClawBoxes$Machine" (3 : Nat)) ∈ gt := gt_c1 198 rfl rfl
theorem gw_200 : (Jvm.Cond.instanceMethod ({ cls := "ClawBoxes$Machine", name := "<init>", desc := "()V" } : Jvm.MethodName)) ∈ gt := gt_c1 200 rfl rfl
theorem gw_201 : (Jvm.Cond.code ({ cls := "ClawBoxes$Machine", name := "<init>", desc := "()V" } : Jvm.MethodName) prog_5_method_1_code (1 : Nat) (Option.none : Option Jvm.ClassFile.FieldType)) ∈ gt := gt_c1 201 rfl rfl
theorem gw_202 : (Jvm.Cond.methodLink "ClawBoxes$Machine" (3 : Nat) ({ cls := "java/lang/Object", name := "<init>", desc := "()V" } : Jvm.MethodName)) ∈ gt := gt_c1 202 rfl rfl
theorem gw_203 : (Jvm.Cond.fieldLink "ClawBoxes$Machine" (9 : Nat) "ClawBoxes$Machine" "stack" "[I") ∈ gt := gt_c1 203 rfl rfl
theorem gw_204 : (Jvm.Cond.fieldLink "ClawBoxes$Machine" (15 : Nat) "ClawBoxes$Machine" "depth" "I") ∈ gt := gt_c1 204 rfl rfl
theorem gw_205 : (Jvm.Cond.fieldLink "ClawBoxes$Machine" (19 : Nat) "ClawBoxes$Machine" "told" "[I") ∈ gt := gt_c1 205 rfl rfl
theorem gw_213 : (Jvm.Cond.classLink "ClawBoxes" (72 : Nat) "ClawBoxes$Try") ∈ gt := gt_c1 213 rfl rfl
theorem gw_214 : (Jvm.Cond.instantiable "ClawBoxes$Try" (17 : Nat)) ∈ gt := gt_c1 214 rfl rfl
theorem gw_216 : (Jvm.Cond.instanceMethod ({ cls := "ClawBoxes$Try", name := "<init>", desc := "()V" } : Jvm.MethodName)) ∈ gt := gt_c1 216 rfl rfl
theorem gw_217 : (Jvm.Cond.code ({ cls := "ClawBoxes$Try", name := "<init>", desc := "()V" } : Jvm.MethodName) prog_7_method_1_code (1 : Nat) (Option.none : Option Jvm.ClassFile.FieldType)) ∈ gt := gt_c1 217 rfl rfl
theorem gw_218 : (Jvm.Cond.methodLink "ClawBoxes$Try" (3 : Nat) ({ cls := "java/lang/Object", name := "<init>", desc := "()V" } : Jvm.MethodName)) ∈ gt := gt_c1 218 rfl rfl
theorem gw_219 : (Jvm.Cond.fieldLink "ClawBoxes$Try" (9 : Nat) "ClawBoxes$Try" "cell" "I") ∈ gt := gt_c1 219 rfl rfl
theorem gw_220 : (Jvm.Cond.fieldLink "ClawBoxes$Try" (15 : Nat) "ClawBoxes$Try" "outcome" "I") ∈ gt := gt_c1 220 rfl rfl
theorem gw_221 : (Jvm.Cond.fieldLink "ClawBoxes$Box" (59 : Nat) "ClawBoxes$Try" "outcome" "I") ∈ gt := gt_c1 221 rfl rfl
theorem gw_222 : (Jvm.Cond.fieldLink "ClawBoxes" (345 : Nat) "ClawBoxes$Try" "outcome" "I") ∈ gt := gt_c1 222 rfl rfl
theorem gw_223 : (Jvm.Cond.fieldLink "ClawBoxes$Try" (18 : Nat) "ClawBoxes$Try" "letGo" "I") ∈ gt := gt_c1 223 rfl rfl
theorem gw_224 : (Jvm.Cond.fieldLink "ClawBoxes$Box" (77 : Nat) "ClawBoxes$Try" "letGo" "I") ∈ gt := gt_c1 224 rfl rfl
theorem gw_225 : (Jvm.Cond.fieldLink "ClawBoxes$Try" (21 : Nat) "ClawBoxes$Try" "lot" "I") ∈ gt := gt_c1 225 rfl rfl
theorem gw_226 : (Jvm.Cond.fieldLink "ClawBoxes" (332 : Nat) "ClawBoxes$Try" "lot" "I") ∈ gt := gt_c1 226 rfl rfl
theorem gw_227 : (Jvm.Cond.fieldLink "ClawBoxes$Try" (24 : Nat) "ClawBoxes$Try" "tries" "I") ∈ gt := gt_c1 227 rfl rfl
theorem gw_228 : (Jvm.Cond.fieldLink "ClawBoxes$Machine" (61 : Nat) "ClawBoxes$Try" "tries" "I") ∈ gt := gt_c1 228 rfl rfl
theorem gw_229 : (Jvm.Cond.fieldLink "ClawBoxes" (244 : Nat) "ClawBoxes$Try" "tries" "I") ∈ gt := gt_c1 229 rfl rfl
theorem gw_230 : (Jvm.Cond.fieldLink "ClawBoxes$Try" (27 : Nat) "ClawBoxes$Try" "since" "I") ∈ gt := gt_c1 230 rfl rfl
theorem gw_231 : (Jvm.Cond.fieldLink "ClawBoxes$Machine" (66 : Nat) "ClawBoxes$Try" "since" "I") ∈ gt := gt_c1 231 rfl rfl
theorem gw_232 : (Jvm.Cond.fieldLink "ClawBoxes" (247 : Nat) "ClawBoxes$Try" "since" "I") ∈ gt := gt_c1 232 rfl rfl
theorem gw_233 : (Jvm.Cond.fieldLink "ClawBoxes$Try" (30 : Nat) "ClawBoxes$Try" "coins" "I") ∈ gt := gt_c1 233 rfl rfl
theorem gw_234 : (Jvm.Cond.fieldLink "ClawBoxes$Machine" (69 : Nat) "ClawBoxes$Try" "coins" "I") ∈ gt := gt_c1 234 rfl rfl
theorem gw_235 : (Jvm.Cond.fieldLink "ClawBoxes" (250 : Nat) "ClawBoxes$Try" "coins" "I") ∈ gt := gt_c1 235 rfl rfl
theorem gw_236 : (Jvm.Cond.fieldLink "ClawBoxes$Try" (33 : Nat) "ClawBoxes$Try" "paid" "I") ∈ gt := gt_c1 236 rfl rfl
theorem gw_237 : (Jvm.Cond.fieldLink "ClawBoxes$Machine" (72 : Nat) "ClawBoxes$Try" "paid" "I") ∈ gt := gt_c1 237 rfl rfl
theorem gw_238 : (Jvm.Cond.fieldLink "ClawBoxes$Try" (36 : Nat) "ClawBoxes$Try" "hour" "I") ∈ gt := gt_c1 238 rfl rfl
theorem gw_239 : (Jvm.Cond.fieldLink "ClawBoxes$Machine" (75 : Nat) "ClawBoxes$Try" "hour" "I") ∈ gt := gt_c1 239 rfl rfl
theorem gw_240 : (Jvm.Cond.fieldLink "ClawBoxes$Try" (39 : Nat) "ClawBoxes$Try" "possible" "I") ∈ gt := gt_c2 0 rfl rfl
theorem gw_241 : (Jvm.Cond.fieldLink "ClawBoxes$Machine" (78 : Nat) "ClawBoxes$Try" "possible" "I") ∈ gt := gt_c2 1 rfl rfl
theorem gw_242 : (Jvm.Cond.fieldLink "ClawBoxes" (291 : Nat) "ClawBoxes$Try" "possible" "I") ∈ gt := gt_c2 2 rfl rfl
theorem gw_243 : (Jvm.Cond.fieldLink "ClawBoxes$Try" (42 : Nat) "ClawBoxes$Try" "hole" "I") ∈ gt := gt_c2 3 rfl rfl
theorem gw_244 : (Jvm.Cond.fieldLink "ClawBoxes$Try" (45 : Nat) "ClawBoxes$Try" "rising" "I") ∈ gt := gt_c2 4 rfl rfl
theorem gw_245 : (Jvm.Cond.fieldLink "ClawBoxes$Try" (48 : Nat) "ClawBoxes$Try" "across" "I") ∈ gt := gt_c2 5 rfl rfl
theorem gw_246 : (Jvm.Cond.fieldLink "ClawBoxes$Try" (51 : Nat) "ClawBoxes$Try" "last" "I") ∈ gt := gt_c2 6 rfl rfl
theorem gw_247 : (Jvm.Cond.fieldLink "ClawBoxes$Try" (54 : Nat) "ClawBoxes$Try" "weight" "I") ∈ gt := gt_c2 7 rfl rfl
theorem gw_248 : (Jvm.Cond.fieldLink "ClawBoxes$Try" (57 : Nat) "ClawBoxes$Try" "gripped" "[I") ∈ gt := gt_c2 8 rfl rfl
theorem gw_249 : (Jvm.Cond.fieldLink "ClawBoxes$Try" (61 : Nat) "ClawBoxes$Try" "grippedCount" "I") ∈ gt := gt_c2 9 rfl rfl
theorem gw_250 : (Jvm.Cond.fieldLink "ClawBoxes$Box" (62 : Nat) "ClawBoxes$Try" "grippedCount" "I") ∈ gt := gt_c2 10 rfl rfl
theorem gw_251 : (Jvm.Cond.fieldLink "ClawBoxes$Heaps" (61 : Nat) "ClawBoxes$Try" "grippedCount" "I") ∈ gt := gt_c2 11 rfl rfl
theorem gw_287 : (Jvm.Cond.fieldLink "ClawBoxes" (10 : Nat) "ClawBoxes" "box" "LClawBoxes$Box;") ∈ gt := gt_c2 47 rfl rfl
theorem gw_288 : (Jvm.Cond.fieldLink "ClawBoxes" (16 : Nat) "ClawBoxes" "copy" "LClawBoxes$Box;") ∈ gt := gt_c2 48 rfl rfl
theorem gw_289 : (Jvm.Cond.fieldLink "ClawBoxes" (19 : Nat) "ClawBoxes" "images" "[LClawBoxes$Box;") ∈ gt := gt_c2 49 rfl rfl
theorem gw_290 : (Jvm.Cond.fieldLink "ClawBoxes" (23 : Nat) "ClawBoxes" "imageCount" "I") ∈ gt := gt_c2 50 rfl rfl
theorem gw_291 : (Jvm.Cond.fieldLink "ClawBoxes" (29 : Nat) "ClawBoxes" "programs" "[LClawBoxes$Code;") ∈ gt := gt_c2 51 rfl rfl
theorem gw_292 : (Jvm.Cond.fieldLink "ClawBoxes" (33 : Nat) "ClawBoxes" "programCount" "I") ∈ gt := gt_c2 52 rfl rfl
theorem gw_293 : (Jvm.Cond.fieldLink "ClawBoxes" (36 : Nat) "ClawBoxes" "laws" "[LClawBoxes$Code;") ∈ gt := gt_c2 53 rfl rfl
theorem gw_294 : (Jvm.Cond.fieldLink "ClawBoxes" (39 : Nat) "ClawBoxes" "lawCount" "I") ∈ gt := gt_c2 54 rfl rfl
theorem gw_295 : (Jvm.Cond.fieldLink "ClawBoxes" (42 : Nat) "ClawBoxes" "hands" "[I") ∈ gt := gt_c2 55 rfl rfl
theorem gw_296 : (Jvm.Cond.fieldLink "ClawBoxes" (46 : Nat) "ClawBoxes" "handCount" "I") ∈ gt := gt_c2 56 rfl rfl
theorem gw_297 : (Jvm.Cond.fieldLink "ClawBoxes" (49 : Nat) "ClawBoxes" "tape" "[I") ∈ gt := gt_c2 57 rfl rfl
theorem gw_298 : (Jvm.Cond.fieldLink "ClawBoxes" (52 : Nat) "ClawBoxes" "tapeLength" "I") ∈ gt := gt_c2 58 rfl rfl
theorem gw_299 : (Jvm.Cond.fieldLink "ClawBoxes" (55 : Nat) "ClawBoxes" "faultPlace" "I") ∈ gt := gt_c2 59 rfl rfl
theorem gw_300 : (Jvm.Cond.fieldLink "ClawBoxes" (61 : Nat) "ClawBoxes" "reader" "LClawBoxes$Reader;") ∈ gt := gt_c2 60 rfl rfl
theorem gw_301 : (Jvm.Cond.fieldLink "ClawBoxes" (68 : Nat) "ClawBoxes" "machine" "LClawBoxes$Machine;") ∈ gt := gt_c2 61 rfl rfl
theorem gw_302 : (Jvm.Cond.fieldLink "ClawBoxes" (75 : Nat) "ClawBoxes" "probe" "LClawBoxes$Try;") ∈ gt := gt_c2 62 rfl rfl
theorem gw_303 : (Jvm.Cond.fieldLink "ClawBoxes" (79 : Nat) "ClawBoxes" "gripByLot" "[I") ∈ gt := gt_c2 63 rfl rfl
theorem gw_304 : (Jvm.Cond.fieldLink "ClawBoxes" (82 : Nat) "ClawBoxes" "slipByLot" "[I") ∈ gt := gt_c2 64 rfl rfl
theorem gw_342 : (Jvm.Cond.methodLink "ClawBoxesLaw" (138 : Nat) ({ cls := "ClawBoxes", name := "seed", desc := "(I)I" } : Jvm.MethodName)) ∈ gt := gt_c2 102 rfl rfl
theorem gw_343 : (Jvm.Cond.instanceMethod ({ cls := "ClawBoxes", name := "seed", desc := "(I)I" } : Jvm.MethodName)) ∈ gt := gt_c2 103 rfl rfl
theorem gw_344 : (Jvm.Cond.selects "ClawBoxes" ({ cls := "ClawBoxes", name := "seed", desc := "(I)I" } : Jvm.MethodName) ({ cls := "ClawBoxes", name := "seed", desc := "(I)I" } : Jvm.MethodName)) ∈ gt := gt_c2 104 rfl rfl
theorem gw_345 : (Jvm.Cond.code ({ cls := "ClawBoxes", name := "seed", desc := "(I)I" } : Jvm.MethodName) prog_1_method_9_code (3 : Nat) (Option.some Jvm.ClassFile.FieldType.int)) ∈ gt := gt_c2 105 rfl rfl
theorem gw_346 : (Jvm.Cond.methodLink "ClawBoxesLaw" (142 : Nat) ({ cls := "ClawBoxes", name := "feed", desc := "(IIIII)I" } : Jvm.MethodName)) ∈ gt := gt_c2 106 rfl rfl
theorem gw_347 : (Jvm.Cond.instanceMethod ({ cls := "ClawBoxes", name := "feed", desc := "(IIIII)I" } : Jvm.MethodName)) ∈ gt := gt_c2 107 rfl rfl
theorem gw_348 : (Jvm.Cond.selects "ClawBoxes" ({ cls := "ClawBoxes", name := "feed", desc := "(IIIII)I" } : Jvm.MethodName) ({ cls := "ClawBoxes", name := "feed", desc := "(IIIII)I" } : Jvm.MethodName)) ∈ gt := gt_c2 108 rfl rfl
theorem gw_349 : (Jvm.Cond.code ({ cls := "ClawBoxes", name := "feed", desc := "(IIIII)I" } : Jvm.MethodName) prog_1_method_10_code (6 : Nat) (Option.some Jvm.ClassFile.FieldType.int)) ∈ gt := gt_c2 109 rfl rfl
theorem gw_350 : (Jvm.Cond.methodLink "ClawBoxes" (154 : Nat) ({ cls := "ClawBoxes", name := "writeBytes", desc := "(I)V" } : Jvm.MethodName)) ∈ gt := gt_c2 110 rfl rfl
theorem gw_352 : (Jvm.Cond.instanceMethod ({ cls := "ClawBoxes", name := "writeBytes", desc := "(I)V" } : Jvm.MethodName)) ∈ gt := gt_c2 112 rfl rfl
theorem gw_353 : (Jvm.Cond.code ({ cls := "ClawBoxes", name := "writeBytes", desc := "(I)V" } : Jvm.MethodName) prog_1_method_42_code (3 : Nat) (Option.none : Option Jvm.ClassFile.FieldType)) ∈ gt := gt_c2 113 rfl rfl
theorem gw_354 : (Jvm.Cond.methodLink "ClawBoxesLaw" (149 : Nat) ({ cls := "ClawBoxes", name := "fault", desc := "()I" } : Jvm.MethodName)) ∈ gt := gt_c2 114 rfl rfl
theorem gw_355 : (Jvm.Cond.instanceMethod ({ cls := "ClawBoxes", name := "fault", desc := "()I" } : Jvm.MethodName)) ∈ gt := gt_c2 115 rfl rfl
theorem gw_356 : (Jvm.Cond.selects "ClawBoxes" ({ cls := "ClawBoxes", name := "fault", desc := "()I" } : Jvm.MethodName) ({ cls := "ClawBoxes", name := "fault", desc := "()I" } : Jvm.MethodName)) ∈ gt := gt_c2 116 rfl rfl
theorem gw_357 : (Jvm.Cond.code ({ cls := "ClawBoxes", name := "fault", desc := "()I" } : Jvm.MethodName) prog_1_method_12_code (1 : Nat) (Option.some Jvm.ClassFile.FieldType.int)) ∈ gt := gt_c2 117 rfl rfl
theorem gw_358 : (Jvm.Cond.methodLink "ClawBoxesLaw" (171 : Nat) ({ cls := "ClawBoxes", name := "can", desc := "(Z)I" } : Jvm.MethodName)) ∈ gt := gt_c2 118 rfl rfl
theorem gw_359 : (Jvm.Cond.instanceMethod ({ cls := "ClawBoxes", name := "can", desc := "(Z)I" } : Jvm.MethodName)) ∈ gt := gt_c2 119 rfl rfl
theorem gw_360 : (Jvm.Cond.selects "ClawBoxes" ({ cls := "ClawBoxes", name := "can", desc := "(Z)I" } : Jvm.MethodName) ({ cls := "ClawBoxes", name := "can", desc := "(Z)I" } : Jvm.MethodName)) ∈ gt := gt_c2 120 rfl rfl
theorem gw_361 : (Jvm.Cond.code ({ cls := "ClawBoxes", name := "can", desc := "(Z)I" } : Jvm.MethodName) prog_1_method_19_code (2 : Nat) (Option.some Jvm.ClassFile.FieldType.int)) ∈ gt := gt_c2 121 rfl rfl
theorem gw_362 : (Jvm.Cond.methodLink "ClawBoxes" (226 : Nat) ({ cls := "ClawBoxes", name := "leastPaying", desc := "(Z)I" } : Jvm.MethodName)) ∈ gt := gt_c2 122 rfl rfl
theorem gw_364 : (Jvm.Cond.instanceMethod ({ cls := "ClawBoxes", name := "leastPaying", desc := "(Z)I" } : Jvm.MethodName)) ∈ gt := gt_c2 124 rfl rfl
theorem gw_365 : (Jvm.Cond.code ({ cls := "ClawBoxes", name := "leastPaying", desc := "(Z)I" } : Jvm.MethodName) prog_1_method_52_code (4 : Nat) (Option.some Jvm.ClassFile.FieldType.int)) ∈ gt := gt_c2 125 rfl rfl
theorem gw_366 : (Jvm.Cond.methodLink "ClawBoxes" (355 : Nat) ({ cls := "ClawBoxes", name := "tellLots", desc := "()I" } : Jvm.MethodName)) ∈ gt := gt_c2 126 rfl rfl
theorem gw_368 : (Jvm.Cond.instanceMethod ({ cls := "ClawBoxes", name := "tellLots", desc := "()I" } : Jvm.MethodName)) ∈ gt := gt_c2 128 rfl rfl
theorem gw_369 : (Jvm.Cond.code ({ cls := "ClawBoxes", name := "tellLots", desc := "()I" } : Jvm.MethodName) prog_1_method_53_code (4 : Nat) (Option.some Jvm.ClassFile.FieldType.int)) ∈ gt := gt_c2 129 rfl rfl
theorem gw_370 : (Jvm.Cond.methodLink "ClawBoxes" (182 : Nat) ({ cls := "ClawBoxes", name := "codeInForce", desc := "()LClawBoxes$Code;" } : Jvm.MethodName)) ∈ gt := gt_c2 130 rfl rfl
theorem gw_372 : (Jvm.Cond.instanceMethod ({ cls := "ClawBoxes", name := "codeInForce", desc := "()LClawBoxes$Code;" } : Jvm.MethodName)) ∈ gt := gt_c2 132 rfl rfl
theorem gw_373 : (Jvm.Cond.code ({ cls := "ClawBoxes", name := "codeInForce", desc := "()LClawBoxes$Code;" } : Jvm.MethodName) prog_1_method_45_code (1 : Nat) (Option.some (Jvm.ClassFile.FieldType.object "ClawBoxes$Code"))) ∈ gt := gt_c2 133 rfl rfl
theorem gw_374 : (Jvm.Cond.methodLink "ClawBoxes" (92 : Nat) ({ cls := "ClawBoxes", name := "within", desc := "(III)Z" } : Jvm.MethodName)) ∈ gt := gt_c2 134 rfl rfl
theorem gw_375 : (Jvm.Cond.static ({ cls := "ClawBoxes", name := "within", desc := "(III)Z" } : Jvm.MethodName)) ∈ gt := gt_c2 135 rfl rfl
theorem gw_376 : (Jvm.Cond.code ({ cls := "ClawBoxes", name := "within", desc := "(III)Z" } : Jvm.MethodName) prog_1_method_38_code (3 : Nat) (Option.some Jvm.ClassFile.FieldType.boolean)) ∈ gt := gt_c2 136 rfl rfl
theorem gw_377 : (Jvm.Cond.methodLink "ClawBoxes" (178 : Nat) ({ cls := "ClawBoxes$Try", name := "nameNext", desc := "(LClawBoxes$Box;)V" } : Jvm.MethodName)) ∈ gt := gt_c2 137 rfl rfl
theorem gw_378 : (Jvm.Cond.instanceMethod ({ cls := "ClawBoxes$Try", name := "nameNext", desc := "(LClawBoxes$Box;)V" } : Jvm.MethodName)) ∈ gt := gt_c2 138 rfl rfl
theorem gw_379 : (Jvm.Cond.selects "ClawBoxes$Try" ({ cls := "ClawBoxes$Try", name := "nameNext", desc := "(LClawBoxes$Box;)V" } : Jvm.MethodName) ({ cls := "ClawBoxes$Try", name := "nameNext", desc := "(LClawBoxes$Box;)V" } : Jvm.MethodName)) ∈ gt := gt_c2 139 rfl rfl
theorem gw_380 : (Jvm.Cond.code ({ cls := "ClawBoxes$Try", name := "nameNext", desc := "(LClawBoxes$Box;)V" } : Jvm.MethodName) prog_7_method_2_code (2 : Nat) (Option.none : Option Jvm.ClassFile.FieldType)) ∈ gt := gt_c2 140 rfl rfl
theorem gw_381 : (Jvm.Cond.methodLink "ClawBoxes" (186 : Nat) ({ cls := "ClawBoxes$Machine", name := "run", desc := "(LClawBoxes$Code;LClawBoxes$Try;I)V" } : Jvm.MethodName)) ∈ gt := gt_c2 141 rfl rfl
theorem gw_382 : (Jvm.Cond.instanceMethod ({ cls := "ClawBoxes$Machine", name := "run", desc := "(LClawBoxes$Code;LClawBoxes$Try;I)V" } : Jvm.MethodName)) ∈ gt := gt_c2 142 rfl rfl
theorem gw_383 : (Jvm.Cond.selects "ClawBoxes$Machine" ({ cls := "ClawBoxes$Machine", name := "run", desc := "(LClawBoxes$Code;LClawBoxes$Try;I)V" } : Jvm.MethodName) ({ cls := "ClawBoxes$Machine", name := "run", desc := "(LClawBoxes$Code;LClawBoxes$Try;I)V" } : Jvm.MethodName)) ∈ gt := gt_c2 143 rfl rfl
theorem gw_384 : (Jvm.Cond.code ({ cls := "ClawBoxes$Machine", name := "run", desc := "(LClawBoxes$Code;LClawBoxes$Try;I)V" } : Jvm.MethodName) prog_5_method_6_code (6 : Nat) (Option.none : Option Jvm.ClassFile.FieldType)) ∈ gt := gt_c2 144 rfl rfl
theorem gw_385 : (Jvm.Cond.methodLink "ClawBoxes$Machine" (39 : Nat) ({ cls := "java/util/Arrays", name := "fill", desc := "([II)V" } : Jvm.MethodName)) ∈ gt := gt_c2 145 rfl rfl
theorem gw_386 : (Jvm.Cond.methodLink "ClawBoxes$Machine" (50 : Nat) ({ cls := "ClawBoxes$Machine", name := "push", desc := "(I)V" } : Jvm.MethodName)) ∈ gt := gt_c2 146 rfl rfl
theorem gw_387 : (Jvm.Cond.instanceMethod ({ cls := "ClawBoxes$Machine", name := "push", desc := "(I)V" } : Jvm.MethodName)) ∈ gt := gt_c2 147 rfl rfl
theorem gw_388 : (Jvm.Cond.selects "ClawBoxes$Machine" ({ cls := "ClawBoxes$Machine", name := "push", desc := "(I)V" } : Jvm.MethodName) ({ cls := "ClawBoxes$Machine", name := "push", desc := "(I)V" } : Jvm.MethodName)) ∈ gt := gt_c2 148 rfl rfl
theorem gw_389 : (Jvm.Cond.code ({ cls := "ClawBoxes$Machine", name := "push", desc := "(I)V" } : Jvm.MethodName) prog_5_method_7_code (2 : Nat) (Option.none : Option Jvm.ClassFile.FieldType)) ∈ gt := gt_c2 149 rfl rfl
theorem gw_390 : (Jvm.Cond.methodLink "ClawBoxes$Machine" (54 : Nat) ({ cls := "ClawBoxes$Machine", name := "named", desc := "(ILClawBoxes$Try;I)I" } : Jvm.MethodName)) ∈ gt := gt_c2 150 rfl rfl
theorem gw_391 : (Jvm.Cond.static ({ cls := "ClawBoxes$Machine", name := "named", desc := "(ILClawBoxes$Try;I)I" } : Jvm.MethodName)) ∈ gt := gt_c2 151 rfl rfl
theorem gw_392 : (Jvm.Cond.code ({ cls := "ClawBoxes$Machine", name := "named", desc := "(ILClawBoxes$Try;I)I" } : Jvm.MethodName) prog_5_method_9_code (3 : Nat) (Option.some Jvm.ClassFile.FieldType.int)) ∈ gt := gt_c2 152 rfl rfl
theorem gw_393 : (Jvm.Cond.methodLink "ClawBoxes$Machine" (58 : Nat) ({ cls := "ClawBoxes$Machine", name := "work", desc := "(I)V" } : Jvm.MethodName)) ∈ gt := gt_c2 153 rfl rfl
theorem gw_394 : (Jvm.Cond.instanceMethod ({ cls := "ClawBoxes$Machine", name := "work", desc := "(I)V" } : Jvm.MethodName)) ∈ gt := gt_c2 154 rfl rfl
theorem gw_395 : (Jvm.Cond.selects "ClawBoxes$Machine" ({ cls := "ClawBoxes$Machine", name := "work", desc := "(I)V" } : Jvm.MethodName) ({ cls := "ClawBoxes$Machine", name := "work", desc := "(I)V" } : Jvm.MethodName)) ∈ gt := gt_c2 155 rfl rfl
theorem gw_396 : (Jvm.Cond.code ({ cls := "ClawBoxes$Machine", name := "work", desc := "(I)V" } : Jvm.MethodName) prog_5_method_10_code (4 : Nat) (Option.none : Option Jvm.ClassFile.FieldType)) ∈ gt := gt_c2 156 rfl rfl
theorem gw_397 : (Jvm.Cond.methodLink "ClawBoxes$Machine" (35 : Nat) ({ cls := "ClawBoxes$Machine", name := "pop", desc := "()I" } : Jvm.MethodName)) ∈ gt := gt_c2 157 rfl rfl
theorem gw_398 : (Jvm.Cond.instanceMethod ({ cls := "ClawBoxes$Machine", name := "pop", desc := "()I" } : Jvm.MethodName)) ∈ gt := gt_c2 158 rfl rfl
theorem gw_399 : (Jvm.Cond.selects "ClawBoxes$Machine" ({ cls := "ClawBoxes$Machine", name := "pop", desc := "()I" } : Jvm.MethodName) ({ cls := "ClawBoxes$Machine", name := "pop", desc := "()I" } : Jvm.MethodName)) ∈ gt := gt_c2 159 rfl rfl
theorem gw_400 : (Jvm.Cond.code ({ cls := "ClawBoxes$Machine", name := "pop", desc := "()I" } : Jvm.MethodName) prog_5_method_8_code (1 : Nat) (Option.some Jvm.ClassFile.FieldType.int)) ∈ gt := gt_c2 160 rfl rfl
theorem gw_401 : (Jvm.Cond.methodLink "ClawBoxes$Machine" (81 : Nat) ({ cls := "ClawBoxes$Machine", name := "tell", desc := "(IIZ)V" } : Jvm.MethodName)) ∈ gt := gt_c2 161 rfl rfl
theorem gw_402 : (Jvm.Cond.instanceMethod ({ cls := "ClawBoxes$Machine", name := "tell", desc := "(IIZ)V" } : Jvm.MethodName)) ∈ gt := gt_c2 162 rfl rfl
theorem gw_403 : (Jvm.Cond.selects "ClawBoxes$Machine" ({ cls := "ClawBoxes$Machine", name := "tell", desc := "(IIZ)V" } : Jvm.MethodName) ({ cls := "ClawBoxes$Machine", name := "tell", desc := "(IIZ)V" } : Jvm.MethodName)) ∈ gt := gt_c2 163 rfl rfl
theorem gw_404 : (Jvm.Cond.code ({ cls := "ClawBoxes$Machine", name := "tell", desc := "(IIZ)V" } : Jvm.MethodName) prog_5_method_11_code (4 : Nat) (Option.none : Option Jvm.ClassFile.FieldType)) ∈ gt := gt_c2 164 rfl rfl
theorem gw_405 : (Jvm.Cond.methodLink "ClawBoxes$Machine" (85 : Nat) ({ cls := "ClawBoxes$Machine", name := "joined", desc := "(III)I" } : Jvm.MethodName)) ∈ gt := gt_c2 165 rfl rfl
theorem gw_406 : (Jvm.Cond.static ({ cls := "ClawBoxes$Machine", name := "joined", desc := "(III)I" } : Jvm.MethodName)) ∈ gt := gt_c2 166 rfl rfl
theorem gw_407 : (Jvm.Cond.code ({ cls := "ClawBoxes$Machine", name := "joined", desc := "(III)I" } : Jvm.MethodName) prog_5_method_12_code (3 : Nat) (Option.some Jvm.ClassFile.FieldType.int)) ∈ gt := gt_c2 167 rfl rfl
theorem gw_408 : (Jvm.Cond.methodLink "ClawBoxes$Machine" (22 : Nat) ({ cls := "java/lang/Math", name := "min", desc := "(II)I" } : Jvm.MethodName)) ∈ gt := gt_c2 168 rfl rfl
theorem gw_409 : (Jvm.Cond.static ({ cls := "java/lang/Math", name := "min", desc := "(II)I" } : Jvm.MethodName)) ∈ gt := gt_c2 169 rfl rfl
theorem gw_410 : (Jvm.Cond.code ({ cls := "java/lang/Math", name := "min", desc := "(II)I" } : Jvm.MethodName) prog_15_method_69_code (2 : Nat) (Option.some Jvm.ClassFile.FieldType.int)) ∈ gt := gt_c2 170 rfl rfl
theorem gw_411 : (Jvm.Cond.methodLink "ClawBoxes$Machine" (28 : Nat) ({ cls := "java/lang/Math", name := "max", desc := "(II)I" } : Jvm.MethodName)) ∈ gt := gt_c2 171 rfl rfl
theorem gw_412 : (Jvm.Cond.static ({ cls := "java/lang/Math", name := "max", desc := "(II)I" } : Jvm.MethodName)) ∈ gt := gt_c2 172 rfl rfl
theorem gw_413 : (Jvm.Cond.code ({ cls := "java/lang/Math", name := "max", desc := "(II)I" } : Jvm.MethodName) prog_15_method_65_code (2 : Nat) (Option.some Jvm.ClassFile.FieldType.int)) ∈ gt := gt_c2 173 rfl rfl
theorem gw_414 : (Jvm.Cond.methodLink "ClawBoxes" (196 : Nat) ({ cls := "ClawBoxes$Machine", name := "lots", desc := "()I" } : Jvm.MethodName)) ∈ gt := gt_c2 174 rfl rfl
theorem gw_415 : (Jvm.Cond.instanceMethod ({ cls := "ClawBoxes$Machine", name := "lots", desc := "()I" } : Jvm.MethodName)) ∈ gt := gt_c2 175 rfl rfl
theorem gw_416 : (Jvm.Cond.selects "ClawBoxes$Machine" ({ cls := "ClawBoxes$Machine", name := "lots", desc := "()I" } : Jvm.MethodName) ({ cls := "ClawBoxes$Machine", name := "lots", desc := "()I" } : Jvm.MethodName)) ∈ gt := gt_c2 176 rfl rfl
theorem gw_417 : (Jvm.Cond.code ({ cls := "ClawBoxes$Machine", name := "lots", desc := "()I" } : Jvm.MethodName) prog_5_method_4_code (1 : Nat) (Option.some Jvm.ClassFile.FieldType.int)) ∈ gt := gt_c2 177 rfl rfl
theorem gw_418 : (Jvm.Cond.methodLink "ClawBoxes" (190 : Nat) ({ cls := "ClawBoxes$Machine", name := "grip", desc := "()I" } : Jvm.MethodName)) ∈ gt := gt_c2 178 rfl rfl
theorem gw_419 : (Jvm.Cond.instanceMethod ({ cls := "ClawBoxes$Machine", name := "grip", desc := "()I" } : Jvm.MethodName)) ∈ gt := gt_c2 179 rfl rfl
theorem gw_420 : (Jvm.Cond.selects "ClawBoxes$Machine" ({ cls := "ClawBoxes$Machine", name := "grip", desc := "()I" } : Jvm.MethodName) ({ cls := "ClawBoxes$Machine", name := "grip", desc := "()I" } : Jvm.MethodName)) ∈ gt := gt_c2 180 rfl rfl
theorem gw_421 : (Jvm.Cond.code ({ cls := "ClawBoxes$Machine", name := "grip", desc := "()I" } : Jvm.MethodName) prog_5_method_2_code (1 : Nat) (Option.some Jvm.ClassFile.FieldType.int)) ∈ gt := gt_c2 181 rfl rfl
theorem gw_422 : (Jvm.Cond.methodLink "ClawBoxes" (193 : Nat) ({ cls := "ClawBoxes$Machine", name := "slip", desc := "()I" } : Jvm.MethodName)) ∈ gt := gt_c2 182 rfl rfl
theorem gw_423 : (Jvm.Cond.instanceMethod ({ cls := "ClawBoxes$Machine", name := "slip", desc := "()I" } : Jvm.MethodName)) ∈ gt := gt_c2 183 rfl rfl
theorem gw_424 : (Jvm.Cond.selects "ClawBoxes$Machine" ({ cls := "ClawBoxes$Machine", name := "slip", desc := "()I" } : Jvm.MethodName) ({ cls := "ClawBoxes$Machine", name := "slip", desc := "()I" } : Jvm.MethodName)) ∈ gt := gt_c2 184 rfl rfl
theorem gw_425 : (Jvm.Cond.code ({ cls := "ClawBoxes$Machine", name := "slip", desc := "()I" } : Jvm.MethodName) prog_5_method_3_code (1 : Nat) (Option.some Jvm.ClassFile.FieldType.int)) ∈ gt := gt_c2 185 rfl rfl
theorem gw_426 : (Jvm.Cond.methodLink "ClawBoxes" (234 : Nat) ({ cls := "ClawBoxes$Try", name := "look", desc := "(LClawBoxes$Box;I)V" } : Jvm.MethodName)) ∈ gt := gt_c2 186 rfl rfl
theorem gw_427 : (Jvm.Cond.instanceMethod ({ cls := "ClawBoxes$Try", name := "look", desc := "(LClawBoxes$Box;I)V" } : Jvm.MethodName)) ∈ gt := gt_c2 187 rfl rfl
theorem gw_428 : (Jvm.Cond.selects "ClawBoxes$Try" ({ cls := "ClawBoxes$Try", name := "look", desc := "(LClawBoxes$Box;I)V" } : Jvm.MethodName) ({ cls := "ClawBoxes$Try", name := "look", desc := "(LClawBoxes$Box;I)V" } : Jvm.MethodName)) ∈ gt := gt_c2 188 rfl rfl
theorem gw_429 : (Jvm.Cond.code ({ cls := "ClawBoxes$Try", name := "look", desc := "(LClawBoxes$Box;I)V" } : Jvm.MethodName) prog_7_method_4_code (7 : Nat) (Option.none : Option Jvm.ClassFile.FieldType)) ∈ gt := gt_c2 189 rfl rfl
theorem gw_431 : (Jvm.Cond.methodLink "ClawBoxes$Try" (93 : Nat) ({ cls := "ClawBoxes$Heaps", name := "known", desc := "(I)Z" } : Jvm.MethodName)) ∈ gt := gt_c2 191 rfl rfl
theorem gw_432 : (Jvm.Cond.instanceMethod ({ cls := "ClawBoxes$Heaps", name := "known", desc := "(I)Z" } : Jvm.MethodName)) ∈ gt := gt_c2 192 rfl rfl
theorem gw_433 : (Jvm.Cond.selects "ClawBoxes$Heaps" ({ cls := "ClawBoxes$Heaps", name := "known", desc := "(I)Z" } : Jvm.MethodName) ({ cls := "ClawBoxes$Heaps", name := "known", desc := "(I)Z" } : Jvm.MethodName)) ∈ gt := gt_c2 193 rfl rfl
theorem gw_434 : (Jvm.Cond.code ({ cls := "ClawBoxes$Heaps", name := "known", desc := "(I)Z" } : Jvm.MethodName) prog_4_method_3_code (2 : Nat) (Option.some Jvm.ClassFile.FieldType.boolean)) ∈ gt := gt_c2 194 rfl rfl
theorem gw_435 : (Jvm.Cond.methodLink "ClawBoxes$Try" (97 : Nat) ({ cls := "ClawBoxes$Heaps", name := "levelOf", desc := "(I)I" } : Jvm.MethodName)) ∈ gt := gt_c2 195 rfl rfl
theorem gw_436 : (Jvm.Cond.instanceMethod ({ cls := "ClawBoxes$Heaps", name := "levelOf", desc := "(I)I" } : Jvm.MethodName)) ∈ gt := gt_c2 196 rfl rfl
theorem gw_437 : (Jvm.Cond.selects "ClawBoxes$Heaps" ({ cls := "ClawBoxes$Heaps", name := "levelOf", desc := "(I)I" } : Jvm.MethodName) ({ cls := "ClawBoxes$Heaps", name := "levelOf", desc := "(I)I" } : Jvm.MethodName)) ∈ gt := gt_c2 197 rfl rfl
theorem gw_438 : (Jvm.Cond.code ({ cls := "ClawBoxes$Heaps", name := "levelOf", desc := "(I)I" } : Jvm.MethodName) prog_4_method_7_code (5 : Nat) (Option.some Jvm.ClassFile.FieldType.int)) ∈ gt := gt_c2 198 rfl rfl
theorem gw_439 : (Jvm.Cond.methodLink "ClawBoxes$Heaps" (50 : Nat) ({ cls := "ClawBoxes$Heaps", name := "known", desc := "(I)Z" } : Jvm.MethodName)) ∈ gt := gt_c2 199 rfl rfl
theorem gw_440 : (Jvm.Cond.methodLink "ClawBoxes$Try" (101 : Nat) ({ cls := "ClawBoxes$Try", name := "measure", desc := "(I)V" } : Jvm.MethodName)) ∈ gt := gt_c2 200 rfl rfl
theorem gw_441 : (Jvm.Cond.instanceMethod ({ cls := "ClawBoxes$Try", name := "measure", desc := "(I)V" } : Jvm.MethodName)) ∈ gt := gt_c2 201 rfl rfl
theorem gw_442 : (Jvm.Cond.selects "ClawBoxes$Try" ({ cls := "ClawBoxes$Try", name := "measure", desc := "(I)V" } : Jvm.MethodName) ({ cls := "ClawBoxes$Try", name := "measure", desc := "(I)V" } : Jvm.MethodName)) ∈ gt := gt_c2 202 rfl rfl
theorem gw_443 : (Jvm.Cond.code ({ cls := "ClawBoxes$Try", name := "measure", desc := "(I)V" } : Jvm.MethodName) prog_7_method_9_code (2 : Nat) (Option.none : Option Jvm.ClassFile.FieldType)) ∈ gt := gt_c2 203 rfl rfl
theorem gw_444 : (Jvm.Cond.methodLink "ClawBoxes$Try" (138 : Nat) ({ cls := "java/lang/Math", name := "max", desc := "(II)I" } : Jvm.MethodName)) ∈ gt := gt_c2 204 rfl rfl
theorem gw_445 : (Jvm.Cond.methodLink "ClawBoxes$Try" (143 : Nat) ({ cls := "java/lang/Math", name := "abs", desc := "(I)I" } : Jvm.MethodName)) ∈ gt := gt_c2 205 rfl rfl
theorem gw_446 : (Jvm.Cond.static ({ cls := "java/lang/Math", name := "abs", desc := "(I)I" } : Jvm.MethodName)) ∈ gt := gt_c2 206 rfl rfl
theorem gw_447 : (Jvm.Cond.code ({ cls := "java/lang/Math", name := "abs", desc := "(I)I" } : Jvm.MethodName) prog_15_method_59_code (1 : Nat) (Option.some Jvm.ClassFile.FieldType.int)) ∈ gt := gt_c2 207 rfl rfl
theorem gw_448 : (Jvm.Cond.methodLink "ClawBoxes$Try" (105 : Nat) ({ cls := "ClawBoxes$Try", name := "take", desc := "(LClawBoxes$Heaps;I)V" } : Jvm.MethodName)) ∈ gt := gt_c2 208 rfl rfl
theorem gw_449 : (Jvm.Cond.instanceMethod ({ cls := "ClawBoxes$Try", name := "take", desc := "(LClawBoxes$Heaps;I)V" } : Jvm.MethodName)) ∈ gt := gt_c2 209 rfl rfl
theorem gw_450 : (Jvm.Cond.selects "ClawBoxes$Try" ({ cls := "ClawBoxes$Try", name := "take", desc := "(LClawBoxes$Heaps;I)V" } : Jvm.MethodName) ({ cls := "ClawBoxes$Try", name := "take", desc := "(LClawBoxes$Heaps;I)V" } : Jvm.MethodName)) ∈ gt := gt_c2 210 rfl rfl
theorem gw_451 : (Jvm.Cond.code ({ cls := "ClawBoxes$Try", name := "take", desc := "(LClawBoxes$Heaps;I)V" } : Jvm.MethodName) prog_7_method_6_code (3 : Nat) (Option.none : Option Jvm.ClassFile.FieldType)) ∈ gt := gt_c2 211 rfl rfl
theorem gw_452 : (Jvm.Cond.methodLink "ClawBoxes$Try" (112 : Nat) ({ cls := "ClawBoxes$Try", name := "lookBeside", desc := "(LClawBoxes$Heaps;III)V" } : Jvm.MethodName)) ∈ gt := gt_c2 212 rfl rfl
theorem gw_453 : (Jvm.Cond.instanceMethod ({ cls := "ClawBoxes$Try", name := "lookBeside", desc := "(LClawBoxes$Heaps;III)V" } : Jvm.MethodName)) ∈ gt := gt_c2 213 rfl rfl
theorem gw_454 : (Jvm.Cond.selects "ClawBoxes$Try" ({ cls := "ClawBoxes$Try", name := "lookBeside", desc := "(LClawBoxes$Heaps;III)V" } : Jvm.MethodName) ({ cls := "ClawBoxes$Try", name := "lookBeside", desc := "(LClawBoxes$Heaps;III)V" } : Jvm.MethodName)) ∈ gt := gt_c2 214 rfl rfl
theorem gw_455 : (Jvm.Cond.code ({ cls := "ClawBoxes$Try", name := "lookBeside", desc := "(LClawBoxes$Heaps;III)V" } : Jvm.MethodName) prog_7_method_5_code (8 : Nat) (Option.none : Option Jvm.ClassFile.FieldType)) ∈ gt := gt_c2 215 rfl rfl
theorem gw_460 : (Jvm.Cond.methodLink "ClawBoxes" (358 : Nat) ({ cls := "ClawBoxes", name := "paysByLots", desc := "(IZ)Z" } : Jvm.MethodName)) ∈ gt := gt_c2 220 rfl rfl
theorem gw_462 : (Jvm.Cond.instanceMethod ({ cls := "ClawBoxes", name := "paysByLots", desc := "(IZ)Z" } : Jvm.MethodName)) ∈ gt := gt_c2 222 rfl rfl
theorem gw_463 : (Jvm.Cond.code ({ cls := "ClawBoxes", name := "paysByLots", desc := "(IZ)Z" } : Jvm.MethodName) prog_1_method_54_code (5 : Nat) (Option.some Jvm.ClassFile.FieldType.boolean)) ∈ gt := gt_c2 223 rfl rfl
theorem gw_464 : (Jvm.Cond.methodLink "ClawBoxes" (238 : Nat) ({ cls := "ClawBoxes$Try", name := "failingStep", desc := "(II)I" } : Jvm.MethodName)) ∈ gt := gt_c2 224 rfl rfl
theorem gw_465 : (Jvm.Cond.instanceMethod ({ cls := "ClawBoxes$Try", name := "failingStep", desc := "(II)I" } : Jvm.MethodName)) ∈ gt := gt_c2 225 rfl rfl
theorem gw_466 : (Jvm.Cond.selects "ClawBoxes$Try" ({ cls := "ClawBoxes$Try", name := "failingStep", desc := "(II)I" } : Jvm.MethodName) ({ cls := "ClawBoxes$Try", name := "failingStep", desc := "(II)I" } : Jvm.MethodName)) ∈ gt := gt_c2 226 rfl rfl
theorem gw_467 : (Jvm.Cond.code ({ cls := "ClawBoxes$Try", name := "failingStep", desc := "(II)I" } : Jvm.MethodName) prog_7_method_10_code (4 : Nat) (Option.some Jvm.ClassFile.FieldType.int)) ∈ gt := gt_c2 227 rfl rfl
theorem gw_468 : (Jvm.Cond.methodLink "ClawBoxes" (241 : Nat) ({ cls := "ClawBoxes$Try", name := "outcomeAt", desc := "(I)I" } : Jvm.MethodName)) ∈ gt := gt_c2 228 rfl rfl
theorem gw_469 : (Jvm.Cond.instanceMethod ({ cls := "ClawBoxes$Try", name := "outcomeAt", desc := "(I)I" } : Jvm.MethodName)) ∈ gt := gt_c2 229 rfl rfl
theorem gw_470 : (Jvm.Cond.selects "ClawBoxes$Try" ({ cls := "ClawBoxes$Try", name := "outcomeAt", desc := "(I)I" } : Jvm.MethodName) ({ cls := "ClawBoxes$Try", name := "outcomeAt", desc := "(I)I" } : Jvm.MethodName)) ∈ gt := gt_c2 230 rfl rfl
theorem gw_471 : (Jvm.Cond.code ({ cls := "ClawBoxes$Try", name := "outcomeAt", desc := "(I)I" } : Jvm.MethodName) prog_7_method_11_code (2 : Nat) (Option.some Jvm.ClassFile.FieldType.int)) ∈ gt := gt_c2 231 rfl rfl
theorem gw_472 : (Jvm.Cond.methodLink "ClawBoxesLaw" (186 : Nat) ({ cls := "ClawBoxes", name := "fitting", desc := "()I" } : Jvm.MethodName)) ∈ gt := gt_c2 232 rfl rfl
theorem gw_473 : (Jvm.Cond.instanceMethod ({ cls := "ClawBoxes", name := "fitting", desc := "()I" } : Jvm.MethodName)) ∈ gt := gt_c2 233 rfl rfl
theorem gw_474 : (Jvm.Cond.selects "ClawBoxes" ({ cls := "ClawBoxes", name := "fitting", desc := "()I" } : Jvm.MethodName) ({ cls := "ClawBoxes", name := "fitting", desc := "()I" } : Jvm.MethodName)) ∈ gt := gt_c2 234 rfl rfl
theorem gw_475 : (Jvm.Cond.code ({ cls := "ClawBoxes", name := "fitting", desc := "()I" } : Jvm.MethodName) prog_1_method_23_code (3 : Nat) (Option.some Jvm.ClassFile.FieldType.int)) ∈ gt := gt_c2 235 rfl rfl
theorem gw_476 : (Jvm.Cond.methodLink "ClawBoxes" (253 : Nat) ({ cls := "ClawBoxes", name := "firstStrange", desc := "(LClawBoxes$Code;)I" } : Jvm.MethodName)) ∈ gt := gt_c2 236 rfl rfl
theorem gw_478 : (Jvm.Cond.instanceMethod ({ cls := "ClawBoxes", name := "firstStrange", desc := "(LClawBoxes$Code;)I" } : Jvm.MethodName)) ∈ gt := gt_c2 238 rfl rfl
theorem gw_479 : (Jvm.Cond.code ({ cls := "ClawBoxes", name := "firstStrange", desc := "(LClawBoxes$Code;)I" } : Jvm.MethodName) prog_1_method_55_code (3 : Nat) (Option.some Jvm.ClassFile.FieldType.int)) ∈ gt := gt_c2 239 rfl rfl
theorem gw_480 : (Jvm.Cond.methodLink "ClawBoxes" (205 : Nat) ({ cls := "ClawBoxes$Box", name := "recordAt", desc := "(I)LClawBoxes$Try;" } : Jvm.MethodName)) ∈ gt := gt_c3 0 rfl rfl
theorem gw_481 : (Jvm.Cond.instanceMethod ({ cls := "ClawBoxes$Box", name := "recordAt", desc := "(I)LClawBoxes$Try;" } : Jvm.MethodName)) ∈ gt := gt_c3 1 rfl rfl
theorem gw_482 : (Jvm.Cond.selects "ClawBoxes$Box" ({ cls := "ClawBoxes$Box", name := "recordAt", desc := "(I)LClawBoxes$Try;" } : Jvm.MethodName) ({ cls := "ClawBoxes$Box", name := "recordAt", desc := "(I)LClawBoxes$Try;" } : Jvm.MethodName)) ∈ gt := gt_c3 2 rfl rfl
theorem gw_483 : (Jvm.Cond.code ({ cls := "ClawBoxes$Box", name := "recordAt", desc := "(I)LClawBoxes$Try;" } : Jvm.MethodName) prog_2_method_5_code (3 : Nat) (Option.some (Jvm.ClassFile.FieldType.object "ClawBoxes$Try"))) ∈ gt := gt_c3 3 rfl rfl
theorem gw_485 : (Jvm.Cond.methodLink "ClawBoxes" (362 : Nat) ({ cls := "ClawBoxes", name := "couldCome", desc := "(LClawBoxes$Code;LClawBoxes$Try;)Z" } : Jvm.MethodName)) ∈ gt := gt_c3 5 rfl rfl
theorem gw_487 : (Jvm.Cond.instanceMethod ({ cls := "ClawBoxes", name := "couldCome", desc := "(LClawBoxes$Code;LClawBoxes$Try;)Z" } : Jvm.MethodName)) ∈ gt := gt_c3 7 rfl rfl
theorem gw_488 : (Jvm.Cond.code ({ cls := "ClawBoxes", name := "couldCome", desc := "(LClawBoxes$Code;LClawBoxes$Try;)Z" } : Jvm.MethodName) prog_1_method_56_code (5 : Nat) (Option.some Jvm.ClassFile.FieldType.boolean)) ∈ gt := gt_c3 8 rfl rfl
theorem gw_489 : (Jvm.Cond.methodLink "ClawBoxes" (365 : Nat) ({ cls := "ClawBoxes$Try", name := "cameBy", desc := "(II)Z" } : Jvm.MethodName)) ∈ gt := gt_c3 9 rfl rfl
theorem gw_490 : (Jvm.Cond.instanceMethod ({ cls := "ClawBoxes$Try", name := "cameBy", desc := "(II)Z" } : Jvm.MethodName)) ∈ gt := gt_c3 10 rfl rfl
theorem gw_491 : (Jvm.Cond.selects "ClawBoxes$Try" ({ cls := "ClawBoxes$Try", name := "cameBy", desc := "(II)Z" } : Jvm.MethodName) ({ cls := "ClawBoxes$Try", name := "cameBy", desc := "(II)Z" } : Jvm.MethodName)) ∈ gt := gt_c3 11 rfl rfl
theorem gw_492 : (Jvm.Cond.code ({ cls := "ClawBoxes$Try", name := "cameBy", desc := "(II)Z" } : Jvm.MethodName) prog_7_method_8_code (4 : Nat) (Option.some Jvm.ClassFile.FieldType.boolean)) ∈ gt := gt_c3 12 rfl rfl
theorem gw_493 : (Jvm.Cond.methodLink "ClawBoxes$Try" (128 : Nat) ({ cls := "ClawBoxes$Try", name := "failingStep", desc := "(II)I" } : Jvm.MethodName)) ∈ gt := gt_c3 13 rfl rfl
theorem gw_494 : (Jvm.Cond.methodLink "ClawBoxes$Try" (135 : Nat) ({ cls := "ClawBoxes$Try", name := "outcomeAt", desc := "(I)I" } : Jvm.MethodName)) ∈ gt := gt_c3 14 rfl rfl
theorem gw_495 : (Jvm.Cond.methodLink "ClawBoxes$Try" (132 : Nat) ({ cls := "ClawBoxes$Try", name := "letGoAt", desc := "(I)I" } : Jvm.MethodName)) ∈ gt := gt_c3 15 rfl rfl
theorem gw_496 : (Jvm.Cond.instanceMethod ({ cls := "ClawBoxes$Try", name := "letGoAt", desc := "(I)I" } : Jvm.MethodName)) ∈ gt := gt_c3 16 rfl rfl
theorem gw_497 : (Jvm.Cond.selects "ClawBoxes$Try" ({ cls := "ClawBoxes$Try", name := "letGoAt", desc := "(I)I" } : Jvm.MethodName) ({ cls := "ClawBoxes$Try", name := "letGoAt", desc := "(I)I" } : Jvm.MethodName)) ∈ gt := gt_c3 17 rfl rfl
theorem gw_498 : (Jvm.Cond.code ({ cls := "ClawBoxes$Try", name := "letGoAt", desc := "(I)I" } : Jvm.MethodName) prog_7_method_12_code (6 : Nat) (Option.some Jvm.ClassFile.FieldType.int)) ∈ gt := gt_c3 18 rfl rfl
theorem gw_499 : (Jvm.Cond.methodLink "ClawBoxes$Try" (146 : Nat) ({ cls := "java/lang/Math", name := "min", desc := "(II)I" } : Jvm.MethodName)) ∈ gt := gt_c3 19 rfl rfl
theorem gw_500 : (Jvm.Cond.methodLink "ClawBoxes$Try" (149 : Nat) ({ cls := "java/lang/Integer", name := "signum", desc := "(I)I" } : Jvm.MethodName)) ∈ gt := gt_c3 20 rfl rfl
theorem gw_501 : (Jvm.Cond.static ({ cls := "java/lang/Integer", name := "signum", desc := "(I)I" } : Jvm.MethodName)) ∈ gt := gt_c3 21 rfl rfl
theorem gw_502 : (Jvm.Cond.code ({ cls := "java/lang/Integer", name := "signum", desc := "(I)I" } : Jvm.MethodName) prog_14_method_56_code (1 : Nat) (Option.some Jvm.ClassFile.FieldType.int)) ∈ gt := gt_c3 22 rfl rfl
theorem gw_503 : (Jvm.Cond.methodLink "ClawBoxesLaw" (196 : Nat) ({ cls := "ClawBoxes", name := "refill", desc := "()I" } : Jvm.MethodName)) ∈ gt := gt_c3 23 rfl rfl
theorem gw_504 : (Jvm.Cond.instanceMethod ({ cls := "ClawBoxes", name := "refill", desc := "()I" } : Jvm.MethodName)) ∈ gt := gt_c3 24 rfl rfl
theorem gw_505 : (Jvm.Cond.selects "ClawBoxes" ({ cls := "ClawBoxes", name := "refill", desc := "()I" } : Jvm.MethodName) ({ cls := "ClawBoxes", name := "refill", desc := "()I" } : Jvm.MethodName)) ∈ gt := gt_c3 25 rfl rfl
theorem gw_506 : (Jvm.Cond.code ({ cls := "ClawBoxes", name := "refill", desc := "()I" } : Jvm.MethodName) prog_1_method_26_code (2 : Nat) (Option.some Jvm.ClassFile.FieldType.int)) ∈ gt := gt_c3 26 rfl rfl
theorem gw_507 : (Jvm.Cond.methodLink "ClawBoxes" (257 : Nat) ({ cls := "ClawBoxes$Heaps", name := "layAgain", desc := "(I)I" } : Jvm.MethodName)) ∈ gt := gt_c3 27 rfl rfl
theorem gw_508 : (Jvm.Cond.instanceMethod ({ cls := "ClawBoxes$Heaps", name := "layAgain", desc := "(I)I" } : Jvm.MethodName)) ∈ gt := gt_c3 28 rfl rfl
theorem gw_509 : (Jvm.Cond.selects "ClawBoxes$Heaps" ({ cls := "ClawBoxes$Heaps", name := "layAgain", desc := "(I)I" } : Jvm.MethodName) ({ cls := "ClawBoxes$Heaps", name := "layAgain", desc := "(I)I" } : Jvm.MethodName)) ∈ gt := gt_c3 29 rfl rfl
theorem gw_510 : (Jvm.Cond.code ({ cls := "ClawBoxes$Heaps", name := "layAgain", desc := "(I)I" } : Jvm.MethodName) prog_4_method_11_code (5 : Nat) (Option.some Jvm.ClassFile.FieldType.int)) ∈ gt := gt_c3 30 rfl rfl
theorem gw_511 : (Jvm.Cond.methodLink "ClawBoxes$Heaps" (46 : Nat) ({ cls := "ClawBoxes$Heaps", name := "put", desc := "(II)V" } : Jvm.MethodName)) ∈ gt := gt_c3 31 rfl rfl
theorem gw_512 : (Jvm.Cond.instanceMethod ({ cls := "ClawBoxes$Heaps", name := "put", desc := "(II)V" } : Jvm.MethodName)) ∈ gt := gt_c3 32 rfl rfl
theorem gw_513 : (Jvm.Cond.selects "ClawBoxes$Heaps" ({ cls := "ClawBoxes$Heaps", name := "put", desc := "(II)V" } : Jvm.MethodName) ({ cls := "ClawBoxes$Heaps", name := "put", desc := "(II)V" } : Jvm.MethodName)) ∈ gt := gt_c3 33 rfl rfl
theorem gw_514 : (Jvm.Cond.code ({ cls := "ClawBoxes$Heaps", name := "put", desc := "(II)V" } : Jvm.MethodName) prog_4_method_4_code (3 : Nat) (Option.none : Option Jvm.ClassFile.FieldType)) ∈ gt := gt_c3 34 rfl rfl
theorem gw_516 : (Jvm.Cond.methodLink "ClawBoxesLaw" (225 : Nat) ({ cls := "ClawBoxes", name := "image", desc := "()I" } : Jvm.MethodName)) ∈ gt := gt_c3 36 rfl rfl
theorem gw_517 : (Jvm.Cond.instanceMethod ({ cls := "ClawBoxes", name := "image", desc := "()I" } : Jvm.MethodName)) ∈ gt := gt_c3 37 rfl rfl
theorem gw_518 : (Jvm.Cond.selects "ClawBoxes" ({ cls := "ClawBoxes", name := "image", desc := "()I" } : Jvm.MethodName) ({ cls := "ClawBoxes", name := "image", desc := "()I" } : Jvm.MethodName)) ∈ gt := gt_c3 38 rfl rfl
theorem gw_519 : (Jvm.Cond.code ({ cls := "ClawBoxes", name := "image", desc := "()I" } : Jvm.MethodName) prog_1_method_35_code (1 : Nat) (Option.some Jvm.ClassFile.FieldType.int)) ∈ gt := gt_c3 39 rfl rfl
theorem gw_520 : (Jvm.Cond.methodLink "ClawBoxes" (266 : Nat) ({ cls := "ClawBoxes$Box", name := "copyFrom", desc := "(LClawBoxes$Box;)V" } : Jvm.MethodName)) ∈ gt := gt_c3 40 rfl rfl
theorem gw_521 : (Jvm.Cond.instanceMethod ({ cls := "ClawBoxes$Box", name := "copyFrom", desc := "(LClawBoxes$Box;)V" } : Jvm.MethodName)) ∈ gt := gt_c3 41 rfl rfl
theorem gw_522 : (Jvm.Cond.selects "ClawBoxes$Box" ({ cls := "ClawBoxes$Box", name := "copyFrom", desc := "(LClawBoxes$Box;)V" } : Jvm.MethodName) ({ cls := "ClawBoxes$Box", name := "copyFrom", desc := "(LClawBoxes$Box;)V" } : Jvm.MethodName)) ∈ gt := gt_c3 42 rfl rfl
theorem gw_523 : (Jvm.Cond.code ({ cls := "ClawBoxes$Box", name := "copyFrom", desc := "(LClawBoxes$Box;)V" } : Jvm.MethodName) prog_2_method_6_code (3 : Nat) (Option.none : Option Jvm.ClassFile.FieldType)) ∈ gt := gt_c3 43 rfl rfl
theorem gw_524 : (Jvm.Cond.methodLink "ClawBoxes$Box" (84 : Nat) ({ cls := "ClawBoxes$Heaps", name := "copyFrom", desc := "(LClawBoxes$Heaps;)V" } : Jvm.MethodName)) ∈ gt := gt_c3 44 rfl rfl
theorem gw_525 : (Jvm.Cond.instanceMethod ({ cls := "ClawBoxes$Heaps", name := "copyFrom", desc := "(LClawBoxes$Heaps;)V" } : Jvm.MethodName)) ∈ gt := gt_c3 45 rfl rfl
theorem gw_526 : (Jvm.Cond.selects "ClawBoxes$Heaps" ({ cls := "ClawBoxes$Heaps", name := "copyFrom", desc := "(LClawBoxes$Heaps;)V" } : Jvm.MethodName) ({ cls := "ClawBoxes$Heaps", name := "copyFrom", desc := "(LClawBoxes$Heaps;)V" } : Jvm.MethodName)) ∈ gt := gt_c3 46 rfl rfl
theorem gw_527 : (Jvm.Cond.code ({ cls := "ClawBoxes$Heaps", name := "copyFrom", desc := "(LClawBoxes$Heaps;)V" } : Jvm.MethodName) prog_4_method_12_code (2 : Nat) (Option.none : Option Jvm.ClassFile.FieldType)) ∈ gt := gt_c3 47 rfl rfl
theorem gw_528 : (Jvm.Cond.methodLink "ClawBoxes$Heaps" (73 : Nat) ({ cls := "java/lang/System", name := "arraycopy", desc := "(Ljava/lang/Object;ILjava/lang/Object;II)V" } : Jvm.MethodName)) ∈ gt := gt_c3 48 rfl rfl
theorem gw_529 : (Jvm.Cond.static ({ cls := "java/lang/System", name := "arraycopy", desc := "(Ljava/lang/Object;ILjava/lang/Object;II)V" } : Jvm.MethodName)) ∈ gt := gt_c3 49 rfl rfl
theorem gw_530 : (Jvm.Cond.native ({ cls := "java/lang/System", name := "arraycopy", desc := "(Ljava/lang/Object;ILjava/lang/Object;II)V" } : Jvm.MethodName)) ∈ gt := gt_c3 50 rfl rfl
theorem gw_531 : (Jvm.Cond.methodLink "ClawBoxesLaw" (229 : Nat) ({ cls := "ClawBoxes", name := "restore", desc := "()I" } : Jvm.MethodName)) ∈ gt := gt_c3 51 rfl rfl
theorem gw_532 : (Jvm.Cond.instanceMethod ({ cls := "ClawBoxes", name := "restore", desc := "()I" } : Jvm.MethodName)) ∈ gt := gt_c3 52 rfl rfl
theorem gw_533 : (Jvm.Cond.selects "ClawBoxes" ({ cls := "ClawBoxes", name := "restore", desc := "()I" } : Jvm.MethodName) ({ cls := "ClawBoxes", name := "restore", desc := "()I" } : Jvm.MethodName)) ∈ gt := gt_c3 53 rfl rfl
theorem gw_534 : (Jvm.Cond.code ({ cls := "ClawBoxes", name := "restore", desc := "()I" } : Jvm.MethodName) prog_1_method_36_code (1 : Nat) (Option.some Jvm.ClassFile.FieldType.int)) ∈ gt := gt_c3 54 rfl rfl
theorem gw_535 : (Jvm.Cond.methodLink "ClawBoxesLaw" (233 : Nat) ({ cls := "ClawBoxes", name := "count", desc := "(I)I" } : Jvm.MethodName)) ∈ gt := gt_c3 55 rfl rfl
theorem gw_536 : (Jvm.Cond.instanceMethod ({ cls := "ClawBoxes", name := "count", desc := "(I)I" } : Jvm.MethodName)) ∈ gt := gt_c3 56 rfl rfl
theorem gw_537 : (Jvm.Cond.selects "ClawBoxes" ({ cls := "ClawBoxes", name := "count", desc := "(I)I" } : Jvm.MethodName) ({ cls := "ClawBoxes", name := "count", desc := "(I)I" } : Jvm.MethodName)) ∈ gt := gt_c3 57 rfl rfl
theorem gw_538 : (Jvm.Cond.code ({ cls := "ClawBoxes", name := "count", desc := "(I)I" } : Jvm.MethodName) prog_1_method_37_code (2 : Nat) (Option.some Jvm.ClassFile.FieldType.int)) ∈ gt := gt_c3 58 rfl rfl
theorem gw_539 : (Jvm.Cond.methodLink "ClawBoxes" (309 : Nat) ({ cls := "ClawBoxes$Heaps", name := "countAt", desc := "(I)I" } : Jvm.MethodName)) ∈ gt := gt_c3 59 rfl rfl
theorem gw_540 : (Jvm.Cond.instanceMethod ({ cls := "ClawBoxes$Heaps", name := "countAt", desc := "(I)I" } : Jvm.MethodName)) ∈ gt := gt_c3 60 rfl rfl
theorem gw_541 : (Jvm.Cond.selects "ClawBoxes$Heaps" ({ cls := "ClawBoxes$Heaps", name := "countAt", desc := "(I)I" } : Jvm.MethodName) ({ cls := "ClawBoxes$Heaps", name := "countAt", desc := "(I)I" } : Jvm.MethodName)) ∈ gt := gt_c3 61 rfl rfl
theorem gw_542 : (Jvm.Cond.code ({ cls := "ClawBoxes$Heaps", name := "countAt", desc := "(I)I" } : Jvm.MethodName) prog_4_method_10_code (4 : Nat) (Option.some Jvm.ClassFile.FieldType.int)) ∈ gt := gt_c3 62 rfl rfl
theorem gw_543 : (Jvm.Cond.methodLink "ClawBoxesLaw" (107 : Nat) ({ cls := "ClawBoxesLaw", name := "lay", desc := "(LClawBoxes;IIII[J)I" } : Jvm.MethodName)) ∈ gt := gt_c3 63 rfl rfl
theorem gw_544 : (Jvm.Cond.static ({ cls := "ClawBoxesLaw", name := "lay", desc := "(LClawBoxes;IIII[J)I" } : Jvm.MethodName)) ∈ gt := gt_c3 64 rfl rfl
theorem gw_545 : (Jvm.Cond.codeWith ({ cls := "ClawBoxesLaw", name := "lay", desc := "(LClawBoxes;IIII[J)I" } : Jvm.MethodName) method_3_code (7 : Nat) (Option.some Jvm.ClassFile.FieldType.int) [((0 : Nat), (14 : Nat), (17 : Nat), (13 : Nat)), ((0 : Nat), (14 : Nat), (21 : Nat), (15 : Nat))]) ∈ gt := gt_c3 65 rfl rfl
theorem gw_546 : (Jvm.Cond.classLink "ClawBoxesLaw" (13 : Nat) "java/lang/IndexOutOfBoundsException") ∈ gt := gt_c3 66 rfl rfl
theorem gw_547 : (Jvm.Cond.classLink "ClawBoxesLaw" (15 : Nat) "java/lang/IllegalArgumentException") ∈ gt := gt_c3 67 rfl rfl
theorem gw_548 : (Jvm.Cond.methodLink "ClawBoxesLaw" (7 : Nat) ({ cls := "ClawBoxes", name := "lay", desc := "(IIII)I" } : Jvm.MethodName)) ∈ gt := gt_c3 68 rfl rfl
theorem gw_549 : (Jvm.Cond.instanceMethod ({ cls := "ClawBoxes", name := "lay", desc := "(IIII)I" } : Jvm.MethodName)) ∈ gt := gt_c3 69 rfl rfl
theorem gw_550 : (Jvm.Cond.selects "ClawBoxes" ({ cls := "ClawBoxes", name := "lay", desc := "(IIII)I" } : Jvm.MethodName) ({ cls := "ClawBoxes", name := "lay", desc := "(IIII)I" } : Jvm.MethodName)) ∈ gt := gt_c3 70 rfl rfl
theorem gw_551 : (Jvm.Cond.code ({ cls := "ClawBoxes", name := "lay", desc := "(IIII)I" } : Jvm.MethodName) prog_1_method_2_code (5 : Nat) (Option.some Jvm.ClassFile.FieldType.int)) ∈ gt := gt_c3 71 rfl rfl
theorem gw_552 : (Jvm.Cond.methodLink "ClawBoxes" (85 : Nat) ({ cls := "ClawBoxes", name := "needCell", desc := "(I)V" } : Jvm.MethodName)) ∈ gt := gt_c3 72 rfl rfl
theorem gw_553 : (Jvm.Cond.static ({ cls := "ClawBoxes", name := "needCell", desc := "(I)V" } : Jvm.MethodName)) ∈ gt := gt_c3 73 rfl rfl
theorem gw_554 : (Jvm.Cond.code ({ cls := "ClawBoxes", name := "needCell", desc := "(I)V" } : Jvm.MethodName) prog_1_method_40_code (1 : Nat) (Option.none : Option Jvm.ClassFile.FieldType)) ∈ gt := gt_c3 74 rfl rfl
theorem gw_555 : (Jvm.Cond.classLink "ClawBoxes" (319 : Nat) "java/lang/IndexOutOfBoundsException") ∈ gt := gt_c3 75 rfl rfl
theorem gw_556 : (Jvm.Cond.instantiable "java/lang/IndexOutOfBoundsException" (6 : Nat)) ∈ gt := gt_c3 76 rfl rfl
theorem gw_564 : (Jvm.Cond.selects "java/lang/IndexOutOfBoundsException" ({ cls := "java/lang/Throwable", name := "fillInStackTrace", desc := "(I)Ljava/lang/Throwable;" } : Jvm.MethodName) ({ cls := "java/lang/Throwable", name := "fillInStackTrace", desc := "(I)Ljava/lang/Throwable;" } : Jvm.MethodName)) ∈ gt := gt_c3 84 rfl rfl
theorem gw_565 : (Jvm.Cond.selects "java/lang/IndexOutOfBoundsException" ({ cls := "java/lang/Throwable", name := "fillInStackTrace", desc := "()Ljava/lang/Throwable;" } : Jvm.MethodName) ({ cls := "java/lang/Throwable", name := "fillInStackTrace", desc := "()Ljava/lang/Throwable;" } : Jvm.MethodName)) ∈ gt := gt_c3 85 rfl rfl
theorem gw_576 : (Jvm.Cond.fieldLink "java/lang/Throwable" (198 : Nat) "java/lang/Throwable" "backtrace" "Ljava/lang/Object;") ∈ gt := gt_c3 96 rfl rfl
theorem gw_578 : (Jvm.Cond.instanceMethod ({ cls := "java/lang/Throwable", name := "<init>", desc := "()V" } : Jvm.MethodName)) ∈ gt := gt_c3 98 rfl rfl
theorem gw_579 : (Jvm.Cond.code ({ cls := "java/lang/Throwable", name := "<init>", desc := "()V" } : Jvm.MethodName) prog_21_method_1_code (1 : Nat) (Option.none : Option Jvm.ClassFile.FieldType)) ∈ gt := gt_c3 99 rfl rfl
theorem gw_580 : (Jvm.Cond.methodLink "java/lang/Throwable" (1 : Nat) ({ cls := "java/lang/Object", name := "<init>", desc := "()V" } : Jvm.MethodName)) ∈ gt := gt_c3 100 rfl rfl
theorem gw_581 : (Jvm.Cond.fieldLink "java/lang/Throwable" (13 : Nat) "java/lang/Throwable" "UNASSIGNED_STACK" "[Ljava/lang/StackTraceElement;") ∈ gt := gt_c3 101 rfl rfl
theorem gw_583 : (Jvm.Cond.fieldLink "java/lang/Throwable" (20 : Nat) "java/lang/Throwable" "SUPPRESSED_SENTINEL" "Ljava/util/List;") ∈ gt := gt_c3 103 rfl rfl
theorem gw_585 : (Jvm.Cond.methodLink "java/lang/Throwable" (27 : Nat) ({ cls := "java/lang/Throwable", name := "fillInStackTrace", desc := "()Ljava/lang/Throwable;" } : Jvm.MethodName)) ∈ gt := gt_c3 105 rfl rfl
theorem gw_586 : (Jvm.Cond.instanceMethod ({ cls := "java/lang/Throwable", name := "fillInStackTrace", desc := "()Ljava/lang/Throwable;" } : Jvm.MethodName)) ∈ gt := gt_c3 106 rfl rfl
theorem gw_587 : (Jvm.Cond.sameMethod "java/lang/Throwable" "java/lang/Throwable" "fillInStackTrace" "()Ljava/lang/Throwable;") ∈ gt := gt_c3 107 rfl rfl
theorem gw_588 : (Jvm.Cond.selects "java/lang/IllegalArgumentException" ({ cls := "java/lang/Throwable", name := "fillInStackTrace", desc := "()Ljava/lang/Throwable;" } : Jvm.MethodName) ({ cls := "java/lang/Throwable", name := "fillInStackTrace", desc := "()Ljava/lang/Throwable;" } : Jvm.MethodName)) ∈ gt := gt_c3 108 rfl rfl
theorem gw_589 : (Jvm.Cond.selects "java/util/NoSuchElementException" ({ cls := "java/lang/Throwable", name := "fillInStackTrace", desc := "()Ljava/lang/Throwable;" } : Jvm.MethodName) ({ cls := "java/lang/Throwable", name := "fillInStackTrace", desc := "()Ljava/lang/Throwable;" } : Jvm.MethodName)) ∈ gt := gt_c3 109 rfl rfl
theorem gw_591 : (Jvm.Cond.methodLink "java/lang/Throwable" (202 : Nat) ({ cls := "java/lang/Throwable", name := "fillInStackTrace", desc := "(I)Ljava/lang/Throwable;" } : Jvm.MethodName)) ∈ gt := gt_c3 111 rfl rfl
theorem gw_593 : (Jvm.Cond.instanceMethod ({ cls := "java/lang/Throwable", name := "fillInStackTrace", desc := "(I)Ljava/lang/Throwable;" } : Jvm.MethodName)) ∈ gt := gt_c3 113 rfl rfl
theorem gw_594 : (Jvm.Cond.instantiable "java/lang/Throwable" (6 : Nat)) ∈ gt := gt_c3 114 rfl rfl
theorem gw_595 : (Jvm.Cond.native ({ cls := "java/lang/Throwable", name := "fillInStackTrace", desc := "(I)Ljava/lang/Throwable;" } : Jvm.MethodName)) ∈ gt := gt_c3 115 rfl rfl
theorem gw_597 : (Jvm.Cond.methodLink "ClawBoxes" (323 : Nat) ({ cls := "java/lang/IndexOutOfBoundsException", name := "<init>", desc := "(Ljava/lang/String;)V" } : Jvm.MethodName)) ∈ gt := gt_c3 117 rfl rfl
theorem gw_598 : (Jvm.Cond.instanceMethod ({ cls := "java/lang/IndexOutOfBoundsException", name := "<init>", desc := "(Ljava/lang/String;)V" } : Jvm.MethodName)) ∈ gt := gt_c3 118 rfl rfl
theorem gw_599 : (Jvm.Cond.code ({ cls := "java/lang/IndexOutOfBoundsException", name := "<init>", desc := "(Ljava/lang/String;)V" } : Jvm.MethodName) prog_13_method_2_code (2 : Nat) (Option.none : Option Jvm.ClassFile.FieldType)) ∈ gt := gt_c3 119 rfl rfl
theorem gw_600 : (Jvm.Cond.methodLink "java/lang/IndexOutOfBoundsException" (7 : Nat) ({ cls := "java/lang/RuntimeException", name := "<init>", desc := "(Ljava/lang/String;)V" } : Jvm.MethodName)) ∈ gt := gt_c3 120 rfl rfl
theorem gw_601 : (Jvm.Cond.instanceMethod ({ cls := "java/lang/RuntimeException", name := "<init>", desc := "(Ljava/lang/String;)V" } : Jvm.MethodName)) ∈ gt := gt_c3 121 rfl rfl
theorem gw_602 : (Jvm.Cond.code ({ cls := "java/lang/RuntimeException", name := "<init>", desc := "(Ljava/lang/String;)V" } : Jvm.MethodName) prog_16_method_2_code (2 : Nat) (Option.none : Option Jvm.ClassFile.FieldType)) ∈ gt := gt_c3 122 rfl rfl
theorem gw_603 : (Jvm.Cond.methodLink "java/lang/RuntimeException" (7 : Nat) ({ cls := "java/lang/Exception", name := "<init>", desc := "(Ljava/lang/String;)V" } : Jvm.MethodName)) ∈ gt := gt_c3 123 rfl rfl
theorem gw_604 : (Jvm.Cond.instanceMethod ({ cls := "java/lang/Exception", name := "<init>", desc := "(Ljava/lang/String;)V" } : Jvm.MethodName)) ∈ gt := gt_c3 124 rfl rfl
theorem gw_605 : (Jvm.Cond.code ({ cls := "java/lang/Exception", name := "<init>", desc := "(Ljava/lang/String;)V" } : Jvm.MethodName) prog_11_method_2_code (2 : Nat) (Option.none : Option Jvm.ClassFile.FieldType)) ∈ gt := gt_c3 125 rfl rfl
theorem gw_606 : (Jvm.Cond.methodLink "java/lang/Exception" (7 : Nat) ({ cls := "java/lang/Throwable", name := "<init>", desc := "(Ljava/lang/String;)V" } : Jvm.MethodName)) ∈ gt := gt_c3 126 rfl rfl
theorem gw_607 : (Jvm.Cond.instanceMethod ({ cls := "java/lang/Throwable", name := "<init>", desc := "(Ljava/lang/String;)V" } : Jvm.MethodName)) ∈ gt := gt_c3 127 rfl rfl
theorem gw_608 : (Jvm.Cond.code ({ cls := "java/lang/Throwable", name := "<init>", desc := "(Ljava/lang/String;)V" } : Jvm.MethodName) prog_21_method_2_code (2 : Nat) (Option.none : Option Jvm.ClassFile.FieldType)) ∈ gt := gt_c3 128 rfl rfl
theorem gw_609 : (Jvm.Cond.fieldLink "java/lang/Throwable" (198 : Nat) "java/lang/Throwable" "backtrace" "Ljava/lang/Object;") ∈ gt := gt_c3 129 rfl rfl
theorem gw_610 : (Jvm.Cond.fieldLink "java/lang/Throwable" (31 : Nat) "java/lang/Throwable" "detailMessage" "Ljava/lang/String;") ∈ gt := gt_c3 130 rfl rfl
theorem gw_611 : (Jvm.Cond.fieldLink "java/lang/Throwable" (7 : Nat) "java/lang/Throwable" "cause" "Ljava/lang/Throwable;") ∈ gt := gt_c3 131 rfl rfl
theorem gw_612 : (Jvm.Cond.fieldLink "java/lang/Throwable" (17 : Nat) "java/lang/Throwable" "stackTrace" "[Ljava/lang/StackTraceElement;") ∈ gt := gt_c3 132 rfl rfl
theorem gw_613 : (Jvm.Cond.fieldLink "java/lang/Throwable" (24 : Nat) "java/lang/Throwable" "suppressedExceptions" "Ljava/util/List;") ∈ gt := gt_c3 133 rfl rfl
theorem gw_622 : (Jvm.Cond.arrayClass Jvm.ClassFile.FieldType.byte) ∈ gt := gt_c3 142 rfl rfl
theorem gw_623 : (Jvm.Cond.methodLink "ClawBoxes" (96 : Nat) ({ cls := "ClawBoxes", name := "need", desc := "(Z)V" } : Jvm.MethodName)) ∈ gt := gt_c3 143 rfl rfl
theorem gw_624 : (Jvm.Cond.static ({ cls := "ClawBoxes", name := "need", desc := "(Z)V" } : Jvm.MethodName)) ∈ gt := gt_c3 144 rfl rfl
theorem gw_625 : (Jvm.Cond.code ({ cls := "ClawBoxes", name := "need", desc := "(Z)V" } : Jvm.MethodName) prog_1_method_39_code (1 : Nat) (Option.none : Option Jvm.ClassFile.FieldType)) ∈ gt := gt_c3 145 rfl rfl
theorem gw_626 : (Jvm.Cond.classLink "ClawBoxes" (312 : Nat) "java/lang/IllegalArgumentException") ∈ gt := gt_c3 146 rfl rfl
theorem gw_627 : (Jvm.Cond.instantiable "java/lang/IllegalArgumentException" (6 : Nat)) ∈ gt := gt_c3 147 rfl rfl
theorem gw_629 : (Jvm.Cond.selects "java/lang/IllegalArgumentException" ({ cls := "java/lang/Throwable", name := "fillInStackTrace", desc := "(I)Ljava/lang/Throwable;" } : Jvm.MethodName) ({ cls := "java/lang/Throwable", name := "fillInStackTrace", desc := "(I)Ljava/lang/Throwable;" } : Jvm.MethodName)) ∈ gt := gt_c3 149 rfl rfl
theorem gw_636 : (Jvm.Cond.methodLink "ClawBoxes" (316 : Nat) ({ cls := "java/lang/IllegalArgumentException", name := "<init>", desc := "(Ljava/lang/String;)V" } : Jvm.MethodName)) ∈ gt := gt_c3 156 rfl rfl
theorem gw_637 : (Jvm.Cond.instanceMethod ({ cls := "java/lang/IllegalArgumentException", name := "<init>", desc := "(Ljava/lang/String;)V" } : Jvm.MethodName)) ∈ gt := gt_c3 157 rfl rfl
theorem gw_638 : (Jvm.Cond.code ({ cls := "java/lang/IllegalArgumentException", name := "<init>", desc := "(Ljava/lang/String;)V" } : Jvm.MethodName) prog_12_method_2_code (2 : Nat) (Option.none : Option Jvm.ClassFile.FieldType)) ∈ gt := gt_c3 158 rfl rfl
theorem gw_639 : (Jvm.Cond.methodLink "java/lang/IllegalArgumentException" (7 : Nat) ({ cls := "java/lang/RuntimeException", name := "<init>", desc := "(Ljava/lang/String;)V" } : Jvm.MethodName)) ∈ gt := gt_c3 159 rfl rfl
theorem gw_642 : (Jvm.Cond.methodLink "ClawBoxes" (104 : Nat) ({ cls := "ClawBoxes$Heaps", name := "add", desc := "(IIII)I" } : Jvm.MethodName)) ∈ gt := gt_c3 162 rfl rfl
theorem gw_643 : (Jvm.Cond.instanceMethod ({ cls := "ClawBoxes$Heaps", name := "add", desc := "(IIII)I" } : Jvm.MethodName)) ∈ gt := gt_c3 163 rfl rfl
theorem gw_644 : (Jvm.Cond.selects "ClawBoxes$Heaps" ({ cls := "ClawBoxes$Heaps", name := "add", desc := "(IIII)I" } : Jvm.MethodName) ({ cls := "ClawBoxes$Heaps", name := "add", desc := "(IIII)I" } : Jvm.MethodName)) ∈ gt := gt_c3 164 rfl rfl
theorem gw_645 : (Jvm.Cond.code ({ cls := "ClawBoxes$Heaps", name := "add", desc := "(IIII)I" } : Jvm.MethodName) prog_4_method_2_code (6 : Nat) (Option.some Jvm.ClassFile.FieldType.int)) ∈ gt := gt_c3 165 rfl rfl
theorem gw_646 : (Jvm.Cond.methodLink "ClawBoxesLaw" (113 : Nat) ({ cls := "ClawBoxesLaw", name := "wire", desc := "(LClawBoxes;IZ[J)I" } : Jvm.MethodName)) ∈ gt := gt_c3 166 rfl rfl
theorem gw_647 : (Jvm.Cond.static ({ cls := "ClawBoxesLaw", name := "wire", desc := "(LClawBoxes;IZ[J)I" } : Jvm.MethodName)) ∈ gt := gt_c3 167 rfl rfl
theorem gw_648 : (Jvm.Cond.codeWith ({ cls := "ClawBoxesLaw", name := "wire", desc := "(LClawBoxes;IZ[J)I" } : Jvm.MethodName) method_4_code (5 : Nat) (Option.some Jvm.ClassFile.FieldType.int) [((0 : Nat), (17 : Nat), (20 : Nat), (21 : Nat))]) ∈ gt := gt_c3 168 rfl rfl
theorem gw_649 : (Jvm.Cond.classLink "ClawBoxesLaw" (21 : Nat) "java/util/NoSuchElementException") ∈ gt := gt_c3 169 rfl rfl
theorem gw_650 : (Jvm.Cond.methodLink "ClawBoxesLaw" (17 : Nat) ({ cls := "ClawBoxes", name := "wire", desc := "(IZ)Z" } : Jvm.MethodName)) ∈ gt := gt_c3 170 rfl rfl
theorem gw_651 : (Jvm.Cond.instanceMethod ({ cls := "ClawBoxes", name := "wire", desc := "(IZ)Z" } : Jvm.MethodName)) ∈ gt := gt_c3 171 rfl rfl
theorem gw_652 : (Jvm.Cond.selects "ClawBoxes" ({ cls := "ClawBoxes", name := "wire", desc := "(IZ)Z" } : Jvm.MethodName) ({ cls := "ClawBoxes", name := "wire", desc := "(IZ)Z" } : Jvm.MethodName)) ∈ gt := gt_c3 172 rfl rfl
theorem gw_653 : (Jvm.Cond.code ({ cls := "ClawBoxes", name := "wire", desc := "(IZ)Z" } : Jvm.MethodName) prog_1_method_3_code (4 : Nat) (Option.some Jvm.ClassFile.FieldType.boolean)) ∈ gt := gt_c3 173 rfl rfl
theorem gw_654 : (Jvm.Cond.methodLink "ClawBoxes" (113 : Nat) ({ cls := "ClawBoxes", name := "needElement", desc := "(II)V" } : Jvm.MethodName)) ∈ gt := gt_c3 174 rfl rfl
theorem gw_655 : (Jvm.Cond.static ({ cls := "ClawBoxes", name := "needElement", desc := "(II)V" } : Jvm.MethodName)) ∈ gt := gt_c3 175 rfl rfl
theorem gw_656 : (Jvm.Cond.code ({ cls := "ClawBoxes", name := "needElement", desc := "(II)V" } : Jvm.MethodName) prog_1_method_41_code (2 : Nat) (Option.none : Option Jvm.ClassFile.FieldType)) ∈ gt := gt_c3 176 rfl rfl
theorem gw_657 : (Jvm.Cond.classLink "ClawBoxes" (324 : Nat) "java/util/NoSuchElementException") ∈ gt := gt_c3 177 rfl rfl
theorem gw_658 : (Jvm.Cond.instantiable "java/util/NoSuchElementException" (6 : Nat)) ∈ gt := gt_c3 178 rfl rfl
theorem gw_660 : (Jvm.Cond.selects "java/util/NoSuchElementException" ({ cls := "java/lang/Throwable", name := "fillInStackTrace", desc := "(I)Ljava/lang/Throwable;" } : Jvm.MethodName) ({ cls := "java/lang/Throwable", name := "fillInStackTrace", desc := "(I)Ljava/lang/Throwable;" } : Jvm.MethodName)) ∈ gt := gt_c3 180 rfl rfl
theorem gw_667 : (Jvm.Cond.methodLink "ClawBoxes" (328 : Nat) ({ cls := "java/util/NoSuchElementException", name := "<init>", desc := "(Ljava/lang/String;)V" } : Jvm.MethodName)) ∈ gt := gt_c3 187 rfl rfl
theorem gw_668 : (Jvm.Cond.instanceMethod ({ cls := "java/util/NoSuchElementException", name := "<init>", desc := "(Ljava/lang/String;)V" } : Jvm.MethodName)) ∈ gt := gt_c3 188 rfl rfl
theorem gw_669 : (Jvm.Cond.code ({ cls := "java/util/NoSuchElementException", name := "<init>", desc := "(Ljava/lang/String;)V" } : Jvm.MethodName) prog_23_method_4_code (2 : Nat) (Option.none : Option Jvm.ClassFile.FieldType)) ∈ gt := gt_c3 189 rfl rfl
theorem gw_670 : (Jvm.Cond.methodLink "java/util/NoSuchElementException" (13 : Nat) ({ cls := "java/lang/RuntimeException", name := "<init>", desc := "(Ljava/lang/String;)V" } : Jvm.MethodName)) ∈ gt := gt_c3 190 rfl rfl
theorem gw_673 : (Jvm.Cond.methodLink "ClawBoxesLaw" (117 : Nat) ({ cls := "ClawBoxesLaw", name := "key", desc := "(LClawBoxes;I[J)I" } : Jvm.MethodName)) ∈ gt := gt_c3 193 rfl rfl
theorem gw_674 : (Jvm.Cond.static ({ cls := "ClawBoxesLaw", name := "key", desc := "(LClawBoxes;I[J)I" } : Jvm.MethodName)) ∈ gt := gt_c3 194 rfl rfl
theorem gw_675 : (Jvm.Cond.codeWith ({ cls := "ClawBoxesLaw", name := "key", desc := "(LClawBoxes;I[J)I" } : Jvm.MethodName) method_5_code (4 : Nat) (Option.some Jvm.ClassFile.FieldType.int) [((0 : Nat), (9 : Nat), (12 : Nat), (21 : Nat))]) ∈ gt := gt_c3 195 rfl rfl
theorem gw_676 : (Jvm.Cond.methodLink "ClawBoxesLaw" (23 : Nat) ({ cls := "ClawBoxes", name := "key", desc := "(I)I" } : Jvm.MethodName)) ∈ gt := gt_c3 196 rfl rfl
theorem gw_677 : (Jvm.Cond.instanceMethod ({ cls := "ClawBoxes", name := "key", desc := "(I)I" } : Jvm.MethodName)) ∈ gt := gt_c3 197 rfl rfl
theorem gw_678 : (Jvm.Cond.selects "ClawBoxes" ({ cls := "ClawBoxes", name := "key", desc := "(I)I" } : Jvm.MethodName) ({ cls := "ClawBoxes", name := "key", desc := "(I)I" } : Jvm.MethodName)) ∈ gt := gt_c3 198 rfl rfl
theorem gw_679 : (Jvm.Cond.code ({ cls := "ClawBoxes", name := "key", desc := "(I)I" } : Jvm.MethodName) prog_1_method_4_code (2 : Nat) (Option.some Jvm.ClassFile.FieldType.int)) ∈ gt := gt_c3 199 rfl rfl
theorem gw_680 : (Jvm.Cond.methodLink "ClawBoxes" (123 : Nat) ({ cls := "ClawBoxes$Heaps", name := "takeOut", desc := "(II)V" } : Jvm.MethodName)) ∈ gt := gt_c3 200 rfl rfl
theorem gw_681 : (Jvm.Cond.instanceMethod ({ cls := "ClawBoxes$Heaps", name := "takeOut", desc := "(II)V" } : Jvm.MethodName)) ∈ gt := gt_c3 201 rfl rfl
theorem gw_682 : (Jvm.Cond.selects "ClawBoxes$Heaps" ({ cls := "ClawBoxes$Heaps", name := "takeOut", desc := "(II)V" } : Jvm.MethodName) ({ cls := "ClawBoxes$Heaps", name := "takeOut", desc := "(II)V" } : Jvm.MethodName)) ∈ gt := gt_c3 202 rfl rfl
theorem gw_683 : (Jvm.Cond.code ({ cls := "ClawBoxes$Heaps", name := "takeOut", desc := "(II)V" } : Jvm.MethodName) prog_4_method_5_code (4 : Nat) (Option.none : Option Jvm.ClassFile.FieldType)) ∈ gt := gt_c3 203 rfl rfl
theorem gw_684 : (Jvm.Cond.methodLink "ClawBoxes$Heaps" (58 : Nat) ({ cls := "ClawBoxes$Heaps", name := "unhook", desc := "(II)V" } : Jvm.MethodName)) ∈ gt := gt_c3 204 rfl rfl
theorem gw_685 : (Jvm.Cond.instanceMethod ({ cls := "ClawBoxes$Heaps", name := "unhook", desc := "(II)V" } : Jvm.MethodName)) ∈ gt := gt_c3 205 rfl rfl
theorem gw_686 : (Jvm.Cond.selects "ClawBoxes$Heaps" ({ cls := "ClawBoxes$Heaps", name := "unhook", desc := "(II)V" } : Jvm.MethodName) ({ cls := "ClawBoxes$Heaps", name := "unhook", desc := "(II)V" } : Jvm.MethodName)) ∈ gt := gt_c3 206 rfl rfl
theorem gw_687 : (Jvm.Cond.code ({ cls := "ClawBoxes$Heaps", name := "unhook", desc := "(II)V" } : Jvm.MethodName) prog_4_method_6_code (5 : Nat) (Option.none : Option Jvm.ClassFile.FieldType)) ∈ gt := gt_c3 207 rfl rfl
theorem gw_688 : (Jvm.Cond.methodLink "ClawBoxesLaw" (121 : Nat) ({ cls := "ClawBoxesLaw", name := "thing", desc := "(LClawBoxes;II[J)I" } : Jvm.MethodName)) ∈ gt := gt_c3 208 rfl rfl
theorem gw_689 : (Jvm.Cond.static ({ cls := "ClawBoxesLaw", name := "thing", desc := "(LClawBoxes;II[J)I" } : Jvm.MethodName)) ∈ gt := gt_c3 209 rfl rfl
theorem gw_690 : (Jvm.Cond.codeWith ({ cls := "ClawBoxesLaw", name := "thing", desc := "(LClawBoxes;II[J)I" } : Jvm.MethodName) method_6_code (5 : Nat) (Option.some Jvm.ClassFile.FieldType.int) [((0 : Nat), (10 : Nat), (13 : Nat), (21 : Nat)), ((0 : Nat), (10 : Nat), (17 : Nat), (15 : Nat))]) ∈ gt := gt_c3 210 rfl rfl
theorem gw_691 : (Jvm.Cond.methodLink "ClawBoxesLaw" (27 : Nat) ({ cls := "ClawBoxes", name := "thing", desc := "(II)I" } : Jvm.MethodName)) ∈ gt := gt_c3 211 rfl rfl
theorem gw_692 : (Jvm.Cond.instanceMethod ({ cls := "ClawBoxes", name := "thing", desc := "(II)I" } : Jvm.MethodName)) ∈ gt := gt_c3 212 rfl rfl
theorem gw_693 : (Jvm.Cond.selects "ClawBoxes" ({ cls := "ClawBoxes", name := "thing", desc := "(II)I" } : Jvm.MethodName) ({ cls := "ClawBoxes", name := "thing", desc := "(II)I" } : Jvm.MethodName)) ∈ gt := gt_c3 213 rfl rfl
theorem gw_694 : (Jvm.Cond.code ({ cls := "ClawBoxes", name := "thing", desc := "(II)I" } : Jvm.MethodName) prog_1_method_5_code (3 : Nat) (Option.some Jvm.ClassFile.FieldType.int)) ∈ gt := gt_c3 214 rfl rfl
theorem gw_695 : (Jvm.Cond.methodLink "ClawBoxes" (126 : Nat) ({ cls := "ClawBoxes$Heaps", name := "levelOf", desc := "(I)I" } : Jvm.MethodName)) ∈ gt := gt_c3 215 rfl rfl
theorem gw_696 : (Jvm.Cond.methodLink "ClawBoxesLaw" (125 : Nat) ({ cls := "ClawBoxesLaw", name := "top", desc := "(LClawBoxes;IZ[J)I" } : Jvm.MethodName)) ∈ gt := gt_c3 216 rfl rfl
theorem gw_697 : (Jvm.Cond.static ({ cls := "ClawBoxesLaw", name := "top", desc := "(LClawBoxes;IZ[J)I" } : Jvm.MethodName)) ∈ gt := gt_c3 217 rfl rfl
theorem gw_698 : (Jvm.Cond.codeWith ({ cls := "ClawBoxesLaw", name := "top", desc := "(LClawBoxes;IZ[J)I" } : Jvm.MethodName) method_7_code (5 : Nat) (Option.some Jvm.ClassFile.FieldType.int) [((0 : Nat), (10 : Nat), (13 : Nat), (13 : Nat))]) ∈ gt := gt_c3 218 rfl rfl
theorem gw_699 : (Jvm.Cond.methodLink "ClawBoxesLaw" (31 : Nat) ({ cls := "ClawBoxes", name := "top", desc := "(IZ)I" } : Jvm.MethodName)) ∈ gt := gt_c3 219 rfl rfl
theorem gw_700 : (Jvm.Cond.instanceMethod ({ cls := "ClawBoxes", name := "top", desc := "(IZ)I" } : Jvm.MethodName)) ∈ gt := gt_c3 220 rfl rfl
theorem gw_701 : (Jvm.Cond.selects "ClawBoxes" ({ cls := "ClawBoxes", name := "top", desc := "(IZ)I" } : Jvm.MethodName) ({ cls := "ClawBoxes", name := "top", desc := "(IZ)I" } : Jvm.MethodName)) ∈ gt := gt_c3 221 rfl rfl
theorem gw_702 : (Jvm.Cond.code ({ cls := "ClawBoxes", name := "top", desc := "(IZ)I" } : Jvm.MethodName) prog_1_method_6_code (4 : Nat) (Option.some Jvm.ClassFile.FieldType.int)) ∈ gt := gt_c3 222 rfl rfl
theorem gw_703 : (Jvm.Cond.methodLink "ClawBoxesLaw" (128 : Nat) ({ cls := "ClawBoxesLaw", name := "hole", desc := "(LClawBoxes;I[J)I" } : Jvm.MethodName)) ∈ gt := gt_c3 223 rfl rfl
theorem gw_704 : (Jvm.Cond.static ({ cls := "ClawBoxesLaw", name := "hole", desc := "(LClawBoxes;I[J)I" } : Jvm.MethodName)) ∈ gt := gt_c3 224 rfl rfl
theorem gw_705 : (Jvm.Cond.codeWith ({ cls := "ClawBoxesLaw", name := "hole", desc := "(LClawBoxes;I[J)I" } : Jvm.MethodName) method_8_code (4 : Nat) (Option.some Jvm.ClassFile.FieldType.int) [((0 : Nat), (9 : Nat), (12 : Nat), (13 : Nat)), ((0 : Nat), (9 : Nat), (15 : Nat), (15 : Nat))]) ∈ gt := gt_c3 225 rfl rfl
theorem gw_706 : (Jvm.Cond.methodLink "ClawBoxesLaw" (35 : Nat) ({ cls := "ClawBoxes", name := "hole", desc := "(I)I" } : Jvm.MethodName)) ∈ gt := gt_c3 226 rfl rfl
theorem gw_707 : (Jvm.Cond.instanceMethod ({ cls := "ClawBoxes", name := "hole", desc := "(I)I" } : Jvm.MethodName)) ∈ gt := gt_c3 227 rfl rfl
theorem gw_708 : (Jvm.Cond.selects "ClawBoxes" ({ cls := "ClawBoxes", name := "hole", desc := "(I)I" } : Jvm.MethodName) ({ cls := "ClawBoxes", name := "hole", desc := "(I)I" } : Jvm.MethodName)) ∈ gt := gt_c3 228 rfl rfl
theorem gw_709 : (Jvm.Cond.code ({ cls := "ClawBoxes", name := "hole", desc := "(I)I" } : Jvm.MethodName) prog_1_method_7_code (3 : Nat) (Option.some Jvm.ClassFile.FieldType.int)) ∈ gt := gt_c3 229 rfl rfl
theorem gw_710 : (Jvm.Cond.methodLink "ClawBoxesLaw" (131 : Nat) ({ cls := "ClawBoxesLaw", name := "set", desc := "(LClawBoxes;II[J)I" } : Jvm.MethodName)) ∈ gt := gt_c3 230 rfl rfl
theorem gw_711 : (Jvm.Cond.static ({ cls := "ClawBoxesLaw", name := "set", desc := "(LClawBoxes;II[J)I" } : Jvm.MethodName)) ∈ gt := gt_c3 231 rfl rfl
theorem gw_712 : (Jvm.Cond.codeWith ({ cls := "ClawBoxesLaw", name := "set", desc := "(LClawBoxes;II[J)I" } : Jvm.MethodName) method_9_code (5 : Nat) (Option.some Jvm.ClassFile.FieldType.int) [((0 : Nat), (10 : Nat), (13 : Nat), (15 : Nat))]) ∈ gt := gt_c3 232 rfl rfl
theorem gw_713 : (Jvm.Cond.methodLink "ClawBoxesLaw" (38 : Nat) ({ cls := "ClawBoxes", name := "set", desc := "(II)I" } : Jvm.MethodName)) ∈ gt := gt_c3 233 rfl rfl
theorem gw_714 : (Jvm.Cond.instanceMethod ({ cls := "ClawBoxes", name := "set", desc := "(II)I" } : Jvm.MethodName)) ∈ gt := gt_c3 234 rfl rfl
theorem gw_715 : (Jvm.Cond.selects "ClawBoxes" ({ cls := "ClawBoxes", name := "set", desc := "(II)I" } : Jvm.MethodName) ({ cls := "ClawBoxes", name := "set", desc := "(II)I" } : Jvm.MethodName)) ∈ gt := gt_c3 235 rfl rfl
theorem gw_716 : (Jvm.Cond.code ({ cls := "ClawBoxes", name := "set", desc := "(II)I" } : Jvm.MethodName) prog_1_method_8_code (4 : Nat) (Option.some Jvm.ClassFile.FieldType.int)) ∈ gt := gt_c3 236 rfl rfl
theorem gw_717 : (Jvm.Cond.methodLink "ClawBoxesLaw" (146 : Nat) ({ cls := "ClawBoxesLaw", name := "program", desc := "(LClawBoxes;IZ[J)I" } : Jvm.MethodName)) ∈ gt := gt_c3 237 rfl rfl
theorem gw_718 : (Jvm.Cond.static ({ cls := "ClawBoxesLaw", name := "program", desc := "(LClawBoxes;IZ[J)I" } : Jvm.MethodName)) ∈ gt := gt_c3 238 rfl rfl
theorem gw_719 : (Jvm.Cond.codeWith ({ cls := "ClawBoxesLaw", name := "program", desc := "(LClawBoxes;IZ[J)I" } : Jvm.MethodName) method_10_code (5 : Nat) (Option.some Jvm.ClassFile.FieldType.int) [((0 : Nat), (10 : Nat), (13 : Nat), (15 : Nat))]) ∈ gt := gt_c3 239 rfl rfl
theorem gw_720 : (Jvm.Cond.methodLink "ClawBoxesLaw" (41 : Nat) ({ cls := "ClawBoxes", name := "program", desc := "(IZ)I" } : Jvm.MethodName)) ∈ gt := gt_c4 0 rfl rfl
theorem gw_721 : (Jvm.Cond.instanceMethod ({ cls := "ClawBoxes", name := "program", desc := "(IZ)I" } : Jvm.MethodName)) ∈ gt := gt_c4 1 rfl rfl
theorem gw_722 : (Jvm.Cond.selects "ClawBoxes" ({ cls := "ClawBoxes", name := "program", desc := "(IZ)I" } : Jvm.MethodName) ({ cls := "ClawBoxes", name := "program", desc := "(IZ)I" } : Jvm.MethodName)) ∈ gt := gt_c4 2 rfl rfl
theorem gw_723 : (Jvm.Cond.code ({ cls := "ClawBoxes", name := "program", desc := "(IZ)I" } : Jvm.MethodName) prog_1_method_11_code (4 : Nat) (Option.some Jvm.ClassFile.FieldType.int)) ∈ gt := gt_c4 3 rfl rfl
theorem gw_724 : (Jvm.Cond.methodLink "ClawBoxes" (157 : Nat) ({ cls := "ClawBoxes$Reader", name := "readLaw", desc := "([II)Z" } : Jvm.MethodName)) ∈ gt := gt_c4 4 rfl rfl
theorem gw_725 : (Jvm.Cond.instanceMethod ({ cls := "ClawBoxes$Reader", name := "readLaw", desc := "([II)Z" } : Jvm.MethodName)) ∈ gt := gt_c4 5 rfl rfl
theorem gw_726 : (Jvm.Cond.selects "ClawBoxes$Reader" ({ cls := "ClawBoxes$Reader", name := "readLaw", desc := "([II)Z" } : Jvm.MethodName) ({ cls := "ClawBoxes$Reader", name := "readLaw", desc := "([II)Z" } : Jvm.MethodName)) ∈ gt := gt_c4 6 rfl rfl
theorem gw_727 : (Jvm.Cond.code ({ cls := "ClawBoxes$Reader", name := "readLaw", desc := "([II)Z" } : Jvm.MethodName) prog_6_method_3_code (3 : Nat) (Option.some Jvm.ClassFile.FieldType.boolean)) ∈ gt := gt_c4 7 rfl rfl
theorem gw_728 : (Jvm.Cond.methodLink "ClawBoxes$Reader" (50 : Nat) ({ cls := "ClawBoxes$Reader", name := "begin", desc := "([IIZ)V" } : Jvm.MethodName)) ∈ gt := gt_c4 8 rfl rfl
theorem gw_729 : (Jvm.Cond.instanceMethod ({ cls := "ClawBoxes$Reader", name := "begin", desc := "([IIZ)V" } : Jvm.MethodName)) ∈ gt := gt_c4 9 rfl rfl
theorem gw_730 : (Jvm.Cond.selects "ClawBoxes$Reader" ({ cls := "ClawBoxes$Reader", name := "begin", desc := "([IIZ)V" } : Jvm.MethodName) ({ cls := "ClawBoxes$Reader", name := "begin", desc := "([IIZ)V" } : Jvm.MethodName)) ∈ gt := gt_c4 10 rfl rfl
theorem gw_731 : (Jvm.Cond.code ({ cls := "ClawBoxes$Reader", name := "begin", desc := "([IIZ)V" } : Jvm.MethodName) prog_6_method_5_code (6 : Nat) (Option.none : Option Jvm.ClassFile.FieldType)) ∈ gt := gt_c4 11 rfl rfl
theorem gw_732 : (Jvm.Cond.methodLink "ClawBoxes$Reader" (77 : Nat) ({ cls := "java/lang/Math", name := "min", desc := "(II)I" } : Jvm.MethodName)) ∈ gt := gt_c4 12 rfl rfl
theorem gw_733 : (Jvm.Cond.methodLink "ClawBoxes$Reader" (83 : Nat) ({ cls := "java/lang/Math", name := "max", desc := "(II)I" } : Jvm.MethodName)) ∈ gt := gt_c4 13 rfl rfl
theorem gw_734 : (Jvm.Cond.methodLink "ClawBoxes$Reader" (86 : Nat) ({ cls := "ClawBoxes$Reader", name := "addToken", desc := "([II)I" } : Jvm.MethodName)) ∈ gt := gt_c4 14 rfl rfl
theorem gw_735 : (Jvm.Cond.instanceMethod ({ cls := "ClawBoxes$Reader", name := "addToken", desc := "([II)I" } : Jvm.MethodName)) ∈ gt := gt_c4 15 rfl rfl
theorem gw_736 : (Jvm.Cond.selects "ClawBoxes$Reader" ({ cls := "ClawBoxes$Reader", name := "addToken", desc := "([II)I" } : Jvm.MethodName) ({ cls := "ClawBoxes$Reader", name := "addToken", desc := "([II)I" } : Jvm.MethodName)) ∈ gt := gt_c4 16 rfl rfl
theorem gw_737 : (Jvm.Cond.code ({ cls := "ClawBoxes$Reader", name := "addToken", desc := "([II)I" } : Jvm.MethodName) prog_6_method_6_code (5 : Nat) (Option.some Jvm.ClassFile.FieldType.int)) ∈ gt := gt_c4 17 rfl rfl
theorem gw_739 : (Jvm.Cond.methodLink "ClawBoxes$Reader" (94 : Nat) ({ cls := "ClawBoxes$Reader", name := "runEnd", desc := "([IIII)I" } : Jvm.MethodName)) ∈ gt := gt_c4 19 rfl rfl
theorem gw_740 : (Jvm.Cond.instanceMethod ({ cls := "ClawBoxes$Reader", name := "runEnd", desc := "([IIII)I" } : Jvm.MethodName)) ∈ gt := gt_c4 20 rfl rfl
theorem gw_741 : (Jvm.Cond.selects "ClawBoxes$Reader" ({ cls := "ClawBoxes$Reader", name := "runEnd", desc := "([IIII)I" } : Jvm.MethodName) ({ cls := "ClawBoxes$Reader", name := "runEnd", desc := "([IIII)I" } : Jvm.MethodName)) ∈ gt := gt_c4 21 rfl rfl
theorem gw_742 : (Jvm.Cond.code ({ cls := "ClawBoxes$Reader", name := "runEnd", desc := "([IIII)I" } : Jvm.MethodName) prog_6_method_7_code (6 : Nat) (Option.some Jvm.ClassFile.FieldType.int)) ∈ gt := gt_c4 22 rfl rfl
theorem gw_743 : (Jvm.Cond.methodLink "ClawBoxes$Reader" (98 : Nat) ({ cls := "ClawBoxes$Reader", name := "numberIn", desc := "([III)I" } : Jvm.MethodName)) ∈ gt := gt_c4 23 rfl rfl
theorem gw_744 : (Jvm.Cond.static ({ cls := "ClawBoxes$Reader", name := "numberIn", desc := "([III)I" } : Jvm.MethodName)) ∈ gt := gt_c4 24 rfl rfl
theorem gw_745 : (Jvm.Cond.code ({ cls := "ClawBoxes$Reader", name := "numberIn", desc := "([III)I" } : Jvm.MethodName) prog_6_method_9_code (5 : Nat) (Option.some Jvm.ClassFile.FieldType.int)) ∈ gt := gt_c4 25 rfl rfl
theorem gw_746 : (Jvm.Cond.methodLink "ClawBoxes$Reader" (102 : Nat) ({ cls := "ClawBoxes$Reader", name := "keepToken", desc := "(III)V" } : Jvm.MethodName)) ∈ gt := gt_c4 26 rfl rfl
theorem gw_747 : (Jvm.Cond.instanceMethod ({ cls := "ClawBoxes$Reader", name := "keepToken", desc := "(III)V" } : Jvm.MethodName)) ∈ gt := gt_c4 27 rfl rfl
theorem gw_748 : (Jvm.Cond.selects "ClawBoxes$Reader" ({ cls := "ClawBoxes$Reader", name := "keepToken", desc := "(III)V" } : Jvm.MethodName) ({ cls := "ClawBoxes$Reader", name := "keepToken", desc := "(III)V" } : Jvm.MethodName)) ∈ gt := gt_c4 28 rfl rfl
theorem gw_749 : (Jvm.Cond.code ({ cls := "ClawBoxes$Reader", name := "keepToken", desc := "(III)V" } : Jvm.MethodName) prog_6_method_8_code (4 : Nat) (Option.none : Option Jvm.ClassFile.FieldType)) ∈ gt := gt_c4 29 rfl rfl
theorem gw_750 : (Jvm.Cond.methodLink "ClawBoxes$Reader" (106 : Nat) ({ cls := "ClawBoxes$Reader", name := "wordIn", desc := "([III)I" } : Jvm.MethodName)) ∈ gt := gt_c4 30 rfl rfl
theorem gw_751 : (Jvm.Cond.static ({ cls := "ClawBoxes$Reader", name := "wordIn", desc := "([III)I" } : Jvm.MethodName)) ∈ gt := gt_c4 31 rfl rfl
theorem gw_752 : (Jvm.Cond.code ({ cls := "ClawBoxes$Reader", name := "wordIn", desc := "([III)I" } : Jvm.MethodName) prog_6_method_11_code (3 : Nat) (Option.some Jvm.ClassFile.FieldType.int)) ∈ gt := gt_c4 32 rfl rfl
theorem gw_754 : (Jvm.Cond.methodLink "ClawBoxes$Reader" (119 : Nat) ({ cls := "ClawBoxes$Reader", name := "spells", desc := "([IIILjava/lang/String;)Z" } : Jvm.MethodName)) ∈ gt := gt_c4 34 rfl rfl
theorem gw_755 : (Jvm.Cond.static ({ cls := "ClawBoxes$Reader", name := "spells", desc := "([IIILjava/lang/String;)Z" } : Jvm.MethodName)) ∈ gt := gt_c4 35 rfl rfl
theorem gw_756 : (Jvm.Cond.code ({ cls := "ClawBoxes$Reader", name := "spells", desc := "([IIILjava/lang/String;)Z" } : Jvm.MethodName) prog_6_method_10_code (5 : Nat) (Option.some Jvm.ClassFile.FieldType.boolean)) ∈ gt := gt_c4 36 rfl rfl
theorem gw_757 : (Jvm.Cond.methodLink "ClawBoxes$Reader" (109 : Nat) ({ cls := "java/lang/String", name := "length", desc := "()I" } : Jvm.MethodName)) ∈ gt := gt_c4 37 rfl rfl
theorem gw_758 : (Jvm.Cond.instanceMethod ({ cls := "java/lang/String", name := "length", desc := "()I" } : Jvm.MethodName)) ∈ gt := gt_c4 38 rfl rfl
theorem gw_759 : (Jvm.Cond.selects "java/lang/String" ({ cls := "java/lang/String", name := "length", desc := "()I" } : Jvm.MethodName) ({ cls := "java/lang/String", name := "length", desc := "()I" } : Jvm.MethodName)) ∈ gt := gt_c4 39 rfl rfl
theorem gw_760 : (Jvm.Cond.code ({ cls := "java/lang/String", name := "length", desc := "()I" } : Jvm.MethodName) prog_17_method_54_code (1 : Nat) (Option.some Jvm.ClassFile.FieldType.int)) ∈ gt := gt_c4 40 rfl rfl
theorem gw_761 : (Jvm.Cond.methodLink "java/lang/String" (335 : Nat) ({ cls := "java/lang/String", name := "coder", desc := "()B" } : Jvm.MethodName)) ∈ gt := gt_c4 41 rfl rfl
theorem gw_762 : (Jvm.Cond.instanceMethod ({ cls := "java/lang/String", name := "coder", desc := "()B" } : Jvm.MethodName)) ∈ gt := gt_c4 42 rfl rfl
theorem gw_763 : (Jvm.Cond.selects "java/lang/String" ({ cls := "java/lang/String", name := "coder", desc := "()B" } : Jvm.MethodName) ({ cls := "java/lang/String", name := "coder", desc := "()B" } : Jvm.MethodName)) ∈ gt := gt_c4 43 rfl rfl
theorem gw_764 : (Jvm.Cond.code ({ cls := "java/lang/String", name := "coder", desc := "()B" } : Jvm.MethodName) prog_17_method_152_code (1 : Nat) (Option.some Jvm.ClassFile.FieldType.byte)) ∈ gt := gt_c4 44 rfl rfl
theorem gw_765 : (Jvm.Cond.fieldLink "java/lang/String" (38 : Nat) "java/lang/String" "COMPACT_STRINGS" "Z") ∈ gt := gt_c4 45 rfl rfl
theorem gw_767 : (Jvm.Cond.methodLink "ClawBoxes$Reader" (113 : Nat) ({ cls := "java/lang/String", name := "charAt", desc := "(I)C" } : Jvm.MethodName)) ∈ gt := gt_c4 47 rfl rfl
theorem gw_768 : (Jvm.Cond.instanceMethod ({ cls := "java/lang/String", name := "charAt", desc := "(I)C" } : Jvm.MethodName)) ∈ gt := gt_c4 48 rfl rfl
theorem gw_769 : (Jvm.Cond.selects "java/lang/String" ({ cls := "java/lang/String", name := "charAt", desc := "(I)C" } : Jvm.MethodName) ({ cls := "java/lang/String", name := "charAt", desc := "(I)C" } : Jvm.MethodName)) ∈ gt := gt_c4 49 rfl rfl
theorem gw_770 : (Jvm.Cond.code ({ cls := "java/lang/String", name := "charAt", desc := "(I)C" } : Jvm.MethodName) prog_17_method_56_code (2 : Nat) (Option.some Jvm.ClassFile.FieldType.char)) ∈ gt := gt_c4 50 rfl rfl
theorem gw_771 : (Jvm.Cond.methodLink "java/lang/String" (492 : Nat) ({ cls := "java/lang/String", name := "isLatin1", desc := "()Z" } : Jvm.MethodName)) ∈ gt := gt_c4 51 rfl rfl
theorem gw_772 : (Jvm.Cond.instanceMethod ({ cls := "java/lang/String", name := "isLatin1", desc := "()Z" } : Jvm.MethodName)) ∈ gt := gt_c4 52 rfl rfl
theorem gw_773 : (Jvm.Cond.selects "java/lang/String" ({ cls := "java/lang/String", name := "isLatin1", desc := "()Z" } : Jvm.MethodName) ({ cls := "java/lang/String", name := "isLatin1", desc := "()Z" } : Jvm.MethodName)) ∈ gt := gt_c4 53 rfl rfl
theorem gw_774 : (Jvm.Cond.code ({ cls := "java/lang/String", name := "isLatin1", desc := "()Z" } : Jvm.MethodName) prog_17_method_154_code (1 : Nat) (Option.some Jvm.ClassFile.FieldType.boolean)) ∈ gt := gt_c4 54 rfl rfl
theorem gw_775 : (Jvm.Cond.methodLink "java/lang/String" (495 : Nat) ({ cls := "java/lang/StringLatin1", name := "charAt", desc := "([BI)C" } : Jvm.MethodName)) ∈ gt := gt_c4 55 rfl rfl
theorem gw_776 : (Jvm.Cond.static ({ cls := "java/lang/StringLatin1", name := "charAt", desc := "([BI)C" } : Jvm.MethodName)) ∈ gt := gt_c4 56 rfl rfl
theorem gw_777 : (Jvm.Cond.code ({ cls := "java/lang/StringLatin1", name := "charAt", desc := "([BI)C" } : Jvm.MethodName) prog_18_method_2_code (2 : Nat) (Option.some Jvm.ClassFile.FieldType.char)) ∈ gt := gt_c4 57 rfl rfl
theorem gw_778 : (Jvm.Cond.methodLink "java/lang/StringLatin1" (9 : Nat) ({ cls := "java/lang/String", name := "checkIndex", desc := "(II)V" } : Jvm.MethodName)) ∈ gt := gt_c4 58 rfl rfl
theorem gw_779 : (Jvm.Cond.static ({ cls := "java/lang/String", name := "checkIndex", desc := "(II)V" } : Jvm.MethodName)) ∈ gt := gt_c4 59 rfl rfl
theorem gw_780 : (Jvm.Cond.code ({ cls := "java/lang/String", name := "checkIndex", desc := "(II)V" } : Jvm.MethodName) prog_17_method_155_code (2 : Nat) (Option.none : Option Jvm.ClassFile.FieldType)) ∈ gt := gt_c4 60 rfl rfl
theorem gw_781 : (Jvm.Cond.fieldLink "java/lang/String" (1053 : Nat) "jdk/internal/util/Preconditions" "SIOOBE_FORMATTER" "Ljava/util/function/BiFunction;") ∈ gt := gt_c4 61 rfl rfl
theorem gw_783 : (Jvm.Cond.methodLink "java/lang/String" (1059 : Nat) ({ cls := "jdk/internal/util/Preconditions", name := "checkIndex", desc := "(IILjava/util/function/BiFunction;)I" } : Jvm.MethodName)) ∈ gt := gt_c4 63 rfl rfl
theorem gw_784 : (Jvm.Cond.static ({ cls := "jdk/internal/util/Preconditions", name := "checkIndex", desc := "(IILjava/util/function/BiFunction;)I" } : Jvm.MethodName)) ∈ gt := gt_c4 64 rfl rfl
theorem gw_785 : (Jvm.Cond.code ({ cls := "jdk/internal/util/Preconditions", name := "checkIndex", desc := "(IILjava/util/function/BiFunction;)I" } : Jvm.MethodName) prog_24_method_11_code (3 : Nat) (Option.some Jvm.ClassFile.FieldType.int)) ∈ gt := gt_c4 65 rfl rfl
theorem gw_786 : (Jvm.Cond.methodLink "java/lang/String" (498 : Nat) ({ cls := "java/lang/StringUTF16", name := "charAt", desc := "([BI)C" } : Jvm.MethodName)) ∈ gt := gt_c4 66 rfl rfl
theorem gw_787 : (Jvm.Cond.static ({ cls := "java/lang/StringUTF16", name := "charAt", desc := "([BI)C" } : Jvm.MethodName)) ∈ gt := gt_c4 67 rfl rfl
theorem gw_788 : (Jvm.Cond.code ({ cls := "java/lang/StringUTF16", name := "charAt", desc := "([BI)C" } : Jvm.MethodName) prog_19_method_83_code (2 : Nat) (Option.some Jvm.ClassFile.FieldType.char)) ∈ gt := gt_c4 68 rfl rfl
theorem gw_789 : (Jvm.Cond.methodLink "java/lang/StringUTF16" (67 : Nat) ({ cls := "java/lang/StringUTF16", name := "checkIndex", desc := "(I[B)V" } : Jvm.MethodName)) ∈ gt := gt_c4 69 rfl rfl
theorem gw_790 : (Jvm.Cond.static ({ cls := "java/lang/StringUTF16", name := "checkIndex", desc := "(I[B)V" } : Jvm.MethodName)) ∈ gt := gt_c4 70 rfl rfl
theorem gw_791 : (Jvm.Cond.code ({ cls := "java/lang/StringUTF16", name := "checkIndex", desc := "(I[B)V" } : Jvm.MethodName) prog_19_method_91_code (2 : Nat) (Option.none : Option Jvm.ClassFile.FieldType)) ∈ gt := gt_c4 71 rfl rfl
theorem gw_792 : (Jvm.Cond.methodLink "java/lang/StringUTF16" (48 : Nat) ({ cls := "java/lang/StringUTF16", name := "length", desc := "([B)I" } : Jvm.MethodName)) ∈ gt := gt_c4 72 rfl rfl
theorem gw_793 : (Jvm.Cond.static ({ cls := "java/lang/StringUTF16", name := "length", desc := "([B)I" } : Jvm.MethodName)) ∈ gt := gt_c4 73 rfl rfl
theorem gw_794 : (Jvm.Cond.code ({ cls := "java/lang/StringUTF16", name := "length", desc := "([B)I" } : Jvm.MethodName) prog_19_method_6_code (1 : Nat) (Option.some Jvm.ClassFile.FieldType.int)) ∈ gt := gt_c4 74 rfl rfl
theorem gw_795 : (Jvm.Cond.methodLink "java/lang/StringUTF16" (414 : Nat) ({ cls := "java/lang/String", name := "checkIndex", desc := "(II)V" } : Jvm.MethodName)) ∈ gt := gt_c4 75 rfl rfl
theorem gw_796 : (Jvm.Cond.methodLink "java/lang/StringUTF16" (71 : Nat) ({ cls := "java/lang/StringUTF16", name := "getChar", desc := "([BI)C" } : Jvm.MethodName)) ∈ gt := gt_c4 76 rfl rfl
theorem gw_797 : (Jvm.Cond.static ({ cls := "java/lang/StringUTF16", name := "getChar", desc := "([BI)C" } : Jvm.MethodName)) ∈ gt := gt_c4 77 rfl rfl
theorem gw_798 : (Jvm.Cond.code ({ cls := "java/lang/StringUTF16", name := "getChar", desc := "([BI)C" } : Jvm.MethodName) prog_19_method_5_code (2 : Nat) (Option.some Jvm.ClassFile.FieldType.char)) ∈ gt := gt_c4 78 rfl rfl
theorem gw_799 : (Jvm.Cond.fieldLink "java/lang/StringUTF16" (44 : Nat) "java/lang/StringUTF16" "$assertionsDisabled" "Z") ∈ gt := gt_c4 79 rfl rfl
theorem gw_801 : (Jvm.Cond.fieldLink "java/lang/StringUTF16" (59 : Nat) "java/lang/StringUTF16" "HI_BYTE_SHIFT" "I") ∈ gt := gt_c4 81 rfl rfl
theorem gw_803 : (Jvm.Cond.fieldLink "java/lang/StringUTF16" (63 : Nat) "java/lang/StringUTF16" "LO_BYTE_SHIFT" "I") ∈ gt := gt_c4 83 rfl rfl
theorem gw_813 : (Jvm.Cond.methodLink "ClawBoxes$Reader" (139 : Nat) ({ cls := "ClawBoxes$Reader", name := "nameIn", desc := "([III)I" } : Jvm.MethodName)) ∈ gt := gt_c4 93 rfl rfl
theorem gw_814 : (Jvm.Cond.static ({ cls := "ClawBoxes$Reader", name := "nameIn", desc := "([III)I" } : Jvm.MethodName)) ∈ gt := gt_c4 94 rfl rfl
theorem gw_815 : (Jvm.Cond.code ({ cls := "ClawBoxes$Reader", name := "nameIn", desc := "([III)I" } : Jvm.MethodName) prog_6_method_12_code (3 : Nat) (Option.some Jvm.ClassFile.FieldType.int)) ∈ gt := gt_c4 95 rfl rfl
theorem gw_823 : (Jvm.Cond.methodLink "ClawBoxes$Reader" (62 : Nat) ({ cls := "ClawBoxes$Reader", name := "condition", desc := "()Z" } : Jvm.MethodName)) ∈ gt := gt_c4 103 rfl rfl
theorem gw_825 : (Jvm.Cond.instanceMethod ({ cls := "ClawBoxes$Reader", name := "condition", desc := "()Z" } : Jvm.MethodName)) ∈ gt := gt_c4 105 rfl rfl
theorem gw_826 : (Jvm.Cond.code ({ cls := "ClawBoxes$Reader", name := "condition", desc := "()Z" } : Jvm.MethodName) prog_6_method_20_code (4 : Nat) (Option.some Jvm.ClassFile.FieldType.boolean)) ∈ gt := gt_c4 106 rfl rfl
theorem gw_827 : (Jvm.Cond.methodLink "ClawBoxes$Reader" (163 : Nat) ({ cls := "ClawBoxes$Reader", name := "claim", desc := "()Z" } : Jvm.MethodName)) ∈ gt := gt_c4 107 rfl rfl
theorem gw_829 : (Jvm.Cond.instanceMethod ({ cls := "ClawBoxes$Reader", name := "claim", desc := "()Z" } : Jvm.MethodName)) ∈ gt := gt_c4 109 rfl rfl
theorem gw_830 : (Jvm.Cond.code ({ cls := "ClawBoxes$Reader", name := "claim", desc := "()Z" } : Jvm.MethodName) prog_6_method_21_code (2 : Nat) (Option.some Jvm.ClassFile.FieldType.boolean)) ∈ gt := gt_c4 110 rfl rfl
theorem gw_831 : (Jvm.Cond.methodLink "ClawBoxes$Reader" (54 : Nat) ({ cls := "ClawBoxes$Reader", name := "here", desc := "()I" } : Jvm.MethodName)) ∈ gt := gt_c4 111 rfl rfl
theorem gw_832 : (Jvm.Cond.instanceMethod ({ cls := "ClawBoxes$Reader", name := "here", desc := "()I" } : Jvm.MethodName)) ∈ gt := gt_c4 112 rfl rfl
theorem gw_833 : (Jvm.Cond.selects "ClawBoxes$Reader" ({ cls := "ClawBoxes$Reader", name := "here", desc := "()I" } : Jvm.MethodName) ({ cls := "ClawBoxes$Reader", name := "here", desc := "()I" } : Jvm.MethodName)) ∈ gt := gt_c4 113 rfl rfl
theorem gw_834 : (Jvm.Cond.code ({ cls := "ClawBoxes$Reader", name := "here", desc := "()I" } : Jvm.MethodName) prog_6_method_13_code (1 : Nat) (Option.some Jvm.ClassFile.FieldType.int)) ∈ gt := gt_c4 114 rfl rfl
theorem gw_835 : (Jvm.Cond.methodLink "ClawBoxes$Reader" (166 : Nat) ({ cls := "ClawBoxes$Reader", name := "denial", desc := "()Z" } : Jvm.MethodName)) ∈ gt := gt_c4 115 rfl rfl
theorem gw_837 : (Jvm.Cond.instanceMethod ({ cls := "ClawBoxes$Reader", name := "denial", desc := "()Z" } : Jvm.MethodName)) ∈ gt := gt_c4 117 rfl rfl
theorem gw_838 : (Jvm.Cond.code ({ cls := "ClawBoxes$Reader", name := "denial", desc := "()Z" } : Jvm.MethodName) prog_6_method_22_code (1 : Nat) (Option.some Jvm.ClassFile.FieldType.boolean)) ∈ gt := gt_c4 118 rfl rfl
theorem gw_839 : (Jvm.Cond.methodLink "ClawBoxes$Reader" (169 : Nat) ({ cls := "ClawBoxes$Reader", name := "opened", desc := "(I)Z" } : Jvm.MethodName)) ∈ gt := gt_c4 119 rfl rfl
theorem gw_840 : (Jvm.Cond.instanceMethod ({ cls := "ClawBoxes$Reader", name := "opened", desc := "(I)Z" } : Jvm.MethodName)) ∈ gt := gt_c4 120 rfl rfl
theorem gw_841 : (Jvm.Cond.selects "ClawBoxes$Reader" ({ cls := "ClawBoxes$Reader", name := "opened", desc := "(I)Z" } : Jvm.MethodName) ({ cls := "ClawBoxes$Reader", name := "opened", desc := "(I)Z" } : Jvm.MethodName)) ∈ gt := gt_c4 121 rfl rfl
theorem gw_842 : (Jvm.Cond.code ({ cls := "ClawBoxes$Reader", name := "opened", desc := "(I)Z" } : Jvm.MethodName) prog_6_method_17_code (2 : Nat) (Option.some Jvm.ClassFile.FieldType.boolean)) ∈ gt := gt_c4 122 rfl rfl
theorem gw_843 : (Jvm.Cond.methodLink "ClawBoxes$Reader" (69 : Nat) ({ cls := "ClawBoxes$Reader", name := "fail", desc := "(I)Z" } : Jvm.MethodName)) ∈ gt := gt_c4 123 rfl rfl
theorem gw_844 : (Jvm.Cond.instanceMethod ({ cls := "ClawBoxes$Reader", name := "fail", desc := "(I)Z" } : Jvm.MethodName)) ∈ gt := gt_c4 124 rfl rfl
theorem gw_845 : (Jvm.Cond.selects "ClawBoxes$Reader" ({ cls := "ClawBoxes$Reader", name := "fail", desc := "(I)Z" } : Jvm.MethodName) ({ cls := "ClawBoxes$Reader", name := "fail", desc := "(I)Z" } : Jvm.MethodName)) ∈ gt := gt_c4 125 rfl rfl
theorem gw_846 : (Jvm.Cond.code ({ cls := "ClawBoxes$Reader", name := "fail", desc := "(I)Z" } : Jvm.MethodName) prog_6_method_15_code (2 : Nat) (Option.some Jvm.ClassFile.FieldType.boolean)) ∈ gt := gt_c4 126 rfl rfl
theorem gw_847 : (Jvm.Cond.methodLink "ClawBoxes$Reader" (159 : Nat) ({ cls := "ClawBoxes$Reader", name := "emit", desc := "(I)V" } : Jvm.MethodName)) ∈ gt := gt_c4 127 rfl rfl
theorem gw_848 : (Jvm.Cond.instanceMethod ({ cls := "ClawBoxes$Reader", name := "emit", desc := "(I)V" } : Jvm.MethodName)) ∈ gt := gt_c4 128 rfl rfl
theorem gw_849 : (Jvm.Cond.selects "ClawBoxes$Reader" ({ cls := "ClawBoxes$Reader", name := "emit", desc := "(I)V" } : Jvm.MethodName) ({ cls := "ClawBoxes$Reader", name := "emit", desc := "(I)V" } : Jvm.MethodName)) ∈ gt := gt_c4 129 rfl rfl
theorem gw_850 : (Jvm.Cond.code ({ cls := "ClawBoxes$Reader", name := "emit", desc := "(I)V" } : Jvm.MethodName) prog_6_method_16_code (2 : Nat) (Option.none : Option Jvm.ClassFile.FieldType)) ∈ gt := gt_c4 130 rfl rfl
theorem gw_851 : (Jvm.Cond.methodLink "ClawBoxes$Reader" (172 : Nat) ({ cls := "ClawBoxes$Reader", name := "closed", desc := "(I)Z" } : Jvm.MethodName)) ∈ gt := gt_c4 131 rfl rfl
theorem gw_852 : (Jvm.Cond.instanceMethod ({ cls := "ClawBoxes$Reader", name := "closed", desc := "(I)Z" } : Jvm.MethodName)) ∈ gt := gt_c4 132 rfl rfl
theorem gw_853 : (Jvm.Cond.selects "ClawBoxes$Reader" ({ cls := "ClawBoxes$Reader", name := "closed", desc := "(I)Z" } : Jvm.MethodName) ({ cls := "ClawBoxes$Reader", name := "closed", desc := "(I)Z" } : Jvm.MethodName)) ∈ gt := gt_c4 133 rfl rfl
theorem gw_854 : (Jvm.Cond.code ({ cls := "ClawBoxes$Reader", name := "closed", desc := "(I)Z" } : Jvm.MethodName) prog_6_method_18_code (2 : Nat) (Option.some Jvm.ClassFile.FieldType.boolean)) ∈ gt := gt_c4 134 rfl rfl
theorem gw_855 : (Jvm.Cond.methodLink "ClawBoxes$Reader" (66 : Nat) ({ cls := "ClawBoxes$Reader", name := "passed", desc := "(I)Z" } : Jvm.MethodName)) ∈ gt := gt_c4 135 rfl rfl
theorem gw_856 : (Jvm.Cond.instanceMethod ({ cls := "ClawBoxes$Reader", name := "passed", desc := "(I)Z" } : Jvm.MethodName)) ∈ gt := gt_c4 136 rfl rfl
theorem gw_857 : (Jvm.Cond.selects "ClawBoxes$Reader" ({ cls := "ClawBoxes$Reader", name := "passed", desc := "(I)Z" } : Jvm.MethodName) ({ cls := "ClawBoxes$Reader", name := "passed", desc := "(I)Z" } : Jvm.MethodName)) ∈ gt := gt_c4 137 rfl rfl
theorem gw_858 : (Jvm.Cond.code ({ cls := "ClawBoxes$Reader", name := "passed", desc := "(I)Z" } : Jvm.MethodName) prog_6_method_14_code (2 : Nat) (Option.some Jvm.ClassFile.FieldType.boolean)) ∈ gt := gt_c4 138 rfl rfl
theorem gw_859 : (Jvm.Cond.methodLink "ClawBoxes$Reader" (156 : Nat) ({ cls := "ClawBoxes$Reader", name := "sum", desc := "()Z" } : Jvm.MethodName)) ∈ gt := gt_c4 139 rfl rfl
theorem gw_861 : (Jvm.Cond.instanceMethod ({ cls := "ClawBoxes$Reader", name := "sum", desc := "()Z" } : Jvm.MethodName)) ∈ gt := gt_c4 141 rfl rfl
theorem gw_862 : (Jvm.Cond.code ({ cls := "ClawBoxes$Reader", name := "sum", desc := "()Z" } : Jvm.MethodName) prog_6_method_24_code (4 : Nat) (Option.some Jvm.ClassFile.FieldType.boolean)) ∈ gt := gt_c4 142 rfl rfl
theorem gw_863 : (Jvm.Cond.methodLink "ClawBoxes$Reader" (178 : Nat) ({ cls := "ClawBoxes$Reader", name := "unit", desc := "()Z" } : Jvm.MethodName)) ∈ gt := gt_c4 143 rfl rfl
theorem gw_865 : (Jvm.Cond.instanceMethod ({ cls := "ClawBoxes$Reader", name := "unit", desc := "()Z" } : Jvm.MethodName)) ∈ gt := gt_c4 145 rfl rfl
theorem gw_866 : (Jvm.Cond.code ({ cls := "ClawBoxes$Reader", name := "unit", desc := "()Z" } : Jvm.MethodName) prog_6_method_25_code (2 : Nat) (Option.some Jvm.ClassFile.FieldType.boolean)) ∈ gt := gt_c4 146 rfl rfl
theorem gw_867 : (Jvm.Cond.methodLink "ClawBoxes$Reader" (181 : Nat) ({ cls := "ClawBoxes$Reader", name := "number", desc := "()Z" } : Jvm.MethodName)) ∈ gt := gt_c4 147 rfl rfl
theorem gw_868 : (Jvm.Cond.instanceMethod ({ cls := "ClawBoxes$Reader", name := "number", desc := "()Z" } : Jvm.MethodName)) ∈ gt := gt_c4 148 rfl rfl
theorem gw_869 : (Jvm.Cond.selects "ClawBoxes$Reader" ({ cls := "ClawBoxes$Reader", name := "number", desc := "()Z" } : Jvm.MethodName) ({ cls := "ClawBoxes$Reader", name := "number", desc := "()Z" } : Jvm.MethodName)) ∈ gt := gt_c4 149 rfl rfl
theorem gw_870 : (Jvm.Cond.code ({ cls := "ClawBoxes$Reader", name := "number", desc := "()Z" } : Jvm.MethodName) prog_6_method_26_code (2 : Nat) (Option.some Jvm.ClassFile.FieldType.boolean)) ∈ gt := gt_c4 150 rfl rfl
theorem gw_871 : (Jvm.Cond.methodLink "ClawBoxes$Reader" (184 : Nat) ({ cls := "ClawBoxes$Reader", name := "choice", desc := "(I)Z" } : Jvm.MethodName)) ∈ gt := gt_c4 151 rfl rfl
theorem gw_873 : (Jvm.Cond.instanceMethod ({ cls := "ClawBoxes$Reader", name := "choice", desc := "(I)Z" } : Jvm.MethodName)) ∈ gt := gt_c4 153 rfl rfl
theorem gw_874 : (Jvm.Cond.code ({ cls := "ClawBoxes$Reader", name := "choice", desc := "(I)Z" } : Jvm.MethodName) prog_6_method_27_code (2 : Nat) (Option.some Jvm.ClassFile.FieldType.boolean)) ∈ gt := gt_c4 154 rfl rfl
theorem gw_875 : (Jvm.Cond.methodLink "ClawBoxes$Reader" (175 : Nat) ({ cls := "ClawBoxes$Reader", name := "comparison", desc := "()I" } : Jvm.MethodName)) ∈ gt := gt_c4 155 rfl rfl
theorem gw_876 : (Jvm.Cond.instanceMethod ({ cls := "ClawBoxes$Reader", name := "comparison", desc := "()I" } : Jvm.MethodName)) ∈ gt := gt_c4 156 rfl rfl
theorem gw_877 : (Jvm.Cond.selects "ClawBoxes$Reader" ({ cls := "ClawBoxes$Reader", name := "comparison", desc := "()I" } : Jvm.MethodName) ({ cls := "ClawBoxes$Reader", name := "comparison", desc := "()I" } : Jvm.MethodName)) ∈ gt := gt_c4 157 rfl rfl
theorem gw_878 : (Jvm.Cond.code ({ cls := "ClawBoxes$Reader", name := "comparison", desc := "()I" } : Jvm.MethodName) prog_6_method_23_code (1 : Nat) (Option.some Jvm.ClassFile.FieldType.int)) ∈ gt := gt_c4 158 rfl rfl
theorem gw_879 : (Jvm.Cond.methodLink "ClawBoxes" (161 : Nat) ({ cls := "ClawBoxes$Reader", name := "readProgram", desc := "([II)Z" } : Jvm.MethodName)) ∈ gt := gt_c4 159 rfl rfl
theorem gw_880 : (Jvm.Cond.instanceMethod ({ cls := "ClawBoxes$Reader", name := "readProgram", desc := "([II)Z" } : Jvm.MethodName)) ∈ gt := gt_c4 160 rfl rfl
theorem gw_881 : (Jvm.Cond.selects "ClawBoxes$Reader" ({ cls := "ClawBoxes$Reader", name := "readProgram", desc := "([II)Z" } : Jvm.MethodName) ({ cls := "ClawBoxes$Reader", name := "readProgram", desc := "([II)Z" } : Jvm.MethodName)) ∈ gt := gt_c4 161 rfl rfl
theorem gw_882 : (Jvm.Cond.code ({ cls := "ClawBoxes$Reader", name := "readProgram", desc := "([II)Z" } : Jvm.MethodName) prog_6_method_2_code (4 : Nat) (Option.some Jvm.ClassFile.FieldType.boolean)) ∈ gt := gt_c4 162 rfl rfl
theorem gw_883 : (Jvm.Cond.methodLink "ClawBoxes$Reader" (58 : Nat) ({ cls := "ClawBoxes$Reader", name := "clause", desc := "(I)Z" } : Jvm.MethodName)) ∈ gt := gt_c4 163 rfl rfl
theorem gw_884 : (Jvm.Cond.instanceMethod ({ cls := "ClawBoxes$Reader", name := "clause", desc := "(I)Z" } : Jvm.MethodName)) ∈ gt := gt_c4 164 rfl rfl
theorem gw_885 : (Jvm.Cond.selects "ClawBoxes$Reader" ({ cls := "ClawBoxes$Reader", name := "clause", desc := "(I)Z" } : Jvm.MethodName) ({ cls := "ClawBoxes$Reader", name := "clause", desc := "(I)Z" } : Jvm.MethodName)) ∈ gt := gt_c4 165 rfl rfl
theorem gw_886 : (Jvm.Cond.code ({ cls := "ClawBoxes$Reader", name := "clause", desc := "(I)Z" } : Jvm.MethodName) prog_6_method_19_code (4 : Nat) (Option.some Jvm.ClassFile.FieldType.boolean)) ∈ gt := gt_c4 166 rfl rfl
theorem gw_887 : (Jvm.Cond.methodLink "ClawBoxes" (168 : Nat) ({ cls := "ClawBoxes", name := "keepLaw", desc := "()I" } : Jvm.MethodName)) ∈ gt := gt_c4 167 rfl rfl
theorem gw_889 : (Jvm.Cond.instanceMethod ({ cls := "ClawBoxes", name := "keepLaw", desc := "()I" } : Jvm.MethodName)) ∈ gt := gt_c4 169 rfl rfl
theorem gw_890 : (Jvm.Cond.code ({ cls := "ClawBoxes", name := "keepLaw", desc := "()I" } : Jvm.MethodName) prog_1_method_44_code (1 : Nat) (Option.some Jvm.ClassFile.FieldType.int)) ∈ gt := gt_c4 170 rfl rfl
theorem gw_891 : (Jvm.Cond.methodLink "ClawBoxes" (329 : Nat) ({ cls := "ClawBoxes$Reader", name := "codeRead", desc := "()LClawBoxes$Code;" } : Jvm.MethodName)) ∈ gt := gt_c4 171 rfl rfl
theorem gw_892 : (Jvm.Cond.instanceMethod ({ cls := "ClawBoxes$Reader", name := "codeRead", desc := "()LClawBoxes$Code;" } : Jvm.MethodName)) ∈ gt := gt_c4 172 rfl rfl
theorem gw_893 : (Jvm.Cond.selects "ClawBoxes$Reader" ({ cls := "ClawBoxes$Reader", name := "codeRead", desc := "()LClawBoxes$Code;" } : Jvm.MethodName) ({ cls := "ClawBoxes$Reader", name := "codeRead", desc := "()LClawBoxes$Code;" } : Jvm.MethodName)) ∈ gt := gt_c4 173 rfl rfl
theorem gw_894 : (Jvm.Cond.code ({ cls := "ClawBoxes$Reader", name := "codeRead", desc := "()LClawBoxes$Code;" } : Jvm.MethodName) prog_6_method_4_code (1 : Nat) (Option.some (Jvm.ClassFile.FieldType.object "ClawBoxes$Code"))) ∈ gt := gt_c4 174 rfl rfl
theorem gw_895 : (Jvm.Cond.classLink "ClawBoxes$Reader" (72 : Nat) "ClawBoxes$Code") ∈ gt := gt_c4 175 rfl rfl
theorem gw_896 : (Jvm.Cond.instantiable "ClawBoxes$Code" (1 : Nat)) ∈ gt := gt_c4 176 rfl rfl
theorem gw_897 : (Jvm.Cond.methodLink "ClawBoxes$Reader" (74 : Nat) ({ cls := "ClawBoxes$Code", name := "<init>", desc := "([II)V" } : Jvm.MethodName)) ∈ gt := gt_c4 177 rfl rfl
theorem gw_898 : (Jvm.Cond.instanceMethod ({ cls := "ClawBoxes$Code", name := "<init>", desc := "([II)V" } : Jvm.MethodName)) ∈ gt := gt_c4 178 rfl rfl
theorem gw_899 : (Jvm.Cond.code ({ cls := "ClawBoxes$Code", name := "<init>", desc := "([II)V" } : Jvm.MethodName) prog_3_method_1_code (3 : Nat) (Option.none : Option Jvm.ClassFile.FieldType)) ∈ gt := gt_c4 179 rfl rfl
theorem gw_900 : (Jvm.Cond.methodLink "ClawBoxes$Code" (1 : Nat) ({ cls := "java/lang/Object", name := "<init>", desc := "()V" } : Jvm.MethodName)) ∈ gt := gt_c4 180 rfl rfl
theorem gw_901 : (Jvm.Cond.methodLink "ClawBoxes$Code" (7 : Nat) ({ cls := "java/lang/Math", name := "max", desc := "(II)I" } : Jvm.MethodName)) ∈ gt := gt_c4 181 rfl rfl
theorem gw_902 : (Jvm.Cond.methodLink "ClawBoxes$Code" (13 : Nat) ({ cls := "java/util/Arrays", name := "copyOf", desc := "([II)[I" } : Jvm.MethodName)) ∈ gt := gt_c4 182 rfl rfl
theorem gw_903 : (Jvm.Cond.static ({ cls := "java/util/Arrays", name := "copyOf", desc := "([II)[I" } : Jvm.MethodName)) ∈ gt := gt_c4 183 rfl rfl
theorem gw_904 : (Jvm.Cond.code ({ cls := "java/util/Arrays", name := "copyOf", desc := "([II)[I" } : Jvm.MethodName) prog_22_method_123_code (3 : Nat) (Option.some (Jvm.ClassFile.FieldType.array Jvm.ClassFile.FieldType.int))) ∈ gt := gt_c4 184 rfl rfl
theorem gw_905 : (Jvm.Cond.methodLink "java/util/Arrays" (316 : Nat) ({ cls := "[I", name := "clone", desc := "()Ljava/lang/Object;" } : Jvm.MethodName)) ∈ gt := gt_c4 185 rfl rfl
theorem gw_906 : (Jvm.Cond.sameMethod "[I" "java/lang/Object" "clone" "()Ljava/lang/Object;") ∈ gt := gt_c4 186 rfl rfl
theorem gw_907 : (Jvm.Cond.native ({ cls := "java/lang/Object", name := "clone", desc := "()Ljava/lang/Object;" } : Jvm.MethodName)) ∈ gt := gt_c4 187 rfl rfl
theorem gw_908 : (Jvm.Cond.instanceMethod ({ cls := "java/lang/Object", name := "clone", desc := "()Ljava/lang/Object;" } : Jvm.MethodName)) ∈ gt := gt_c4 188 rfl rfl
theorem gw_909 : (Jvm.Cond.selects "[I" ({ cls := "[I", name := "clone", desc := "()Ljava/lang/Object;" } : Jvm.MethodName) ({ cls := "java/lang/Object", name := "clone", desc := "()Ljava/lang/Object;" } : Jvm.MethodName)) ∈ gt := gt_c4 189 rfl rfl
theorem gw_911 : (Jvm.Cond.classLink "java/util/Arrays" (317 : Nat) "[I") ∈ gt := gt_c4 191 rfl rfl
theorem gw_912 : (Jvm.Cond.methodLink "java/util/Arrays" (304 : Nat) ({ cls := "java/lang/Math", name := "min", desc := "(II)I" } : Jvm.MethodName)) ∈ gt := gt_c4 192 rfl rfl
theorem gw_913 : (Jvm.Cond.methodLink "java/util/Arrays" (150 : Nat) ({ cls := "java/lang/System", name := "arraycopy", desc := "(Ljava/lang/Object;ILjava/lang/Object;II)V" } : Jvm.MethodName)) ∈ gt := gt_c4 193 rfl rfl
theorem gw_914 : (Jvm.Cond.fieldLink "ClawBoxes$Code" (19 : Nat) "ClawBoxes$Code" "parts" "[I") ∈ gt := gt_c4 194 rfl rfl
theorem gw_915 : (Jvm.Cond.fieldLink "ClawBoxes$Machine" (45 : Nat) "ClawBoxes$Code" "parts" "[I") ∈ gt := gt_c4 195 rfl rfl
theorem gw_919 : (Jvm.Cond.methodLink "ClawBoxes" (172 : Nat) ({ cls := "ClawBoxes", name := "keepProgram", desc := "()I" } : Jvm.MethodName)) ∈ gt := gt_c4 199 rfl rfl
theorem gw_921 : (Jvm.Cond.instanceMethod ({ cls := "ClawBoxes", name := "keepProgram", desc := "()I" } : Jvm.MethodName)) ∈ gt := gt_c4 201 rfl rfl
theorem gw_922 : (Jvm.Cond.code ({ cls := "ClawBoxes", name := "keepProgram", desc := "()I" } : Jvm.MethodName) prog_1_method_43_code (1 : Nat) (Option.some Jvm.ClassFile.FieldType.int)) ∈ gt := gt_c4 202 rfl rfl
theorem gw_923 : (Jvm.Cond.methodLink "ClawBoxesLaw" (153 : Nat) ({ cls := "ClawBoxesLaw", name := "force", desc := "(LClawBoxes;I[J)I" } : Jvm.MethodName)) ∈ gt := gt_c4 203 rfl rfl
theorem gw_924 : (Jvm.Cond.static ({ cls := "ClawBoxesLaw", name := "force", desc := "(LClawBoxes;I[J)I" } : Jvm.MethodName)) ∈ gt := gt_c4 204 rfl rfl
theorem gw_925 : (Jvm.Cond.codeWith ({ cls := "ClawBoxesLaw", name := "force", desc := "(LClawBoxes;I[J)I" } : Jvm.MethodName) method_11_code (4 : Nat) (Option.some Jvm.ClassFile.FieldType.int) [((0 : Nat), (9 : Nat), (12 : Nat), (15 : Nat))]) ∈ gt := gt_c4 205 rfl rfl
theorem gw_926 : (Jvm.Cond.methodLink "ClawBoxesLaw" (44 : Nat) ({ cls := "ClawBoxes", name := "force", desc := "(I)I" } : Jvm.MethodName)) ∈ gt := gt_c4 206 rfl rfl
theorem gw_927 : (Jvm.Cond.instanceMethod ({ cls := "ClawBoxes", name := "force", desc := "(I)I" } : Jvm.MethodName)) ∈ gt := gt_c4 207 rfl rfl
theorem gw_928 : (Jvm.Cond.selects "ClawBoxes" ({ cls := "ClawBoxes", name := "force", desc := "(I)I" } : Jvm.MethodName) ({ cls := "ClawBoxes", name := "force", desc := "(I)I" } : Jvm.MethodName)) ∈ gt := gt_c4 208 rfl rfl
theorem gw_929 : (Jvm.Cond.code ({ cls := "ClawBoxes", name := "force", desc := "(I)I" } : Jvm.MethodName) prog_1_method_13_code (3 : Nat) (Option.some Jvm.ClassFile.FieldType.int)) ∈ gt := gt_c4 209 rfl rfl
theorem gw_930 : (Jvm.Cond.methodLink "ClawBoxesLaw" (156 : Nat) ({ cls := "ClawBoxesLaw", name := "tells", desc := "(LClawBoxes;II[J)I" } : Jvm.MethodName)) ∈ gt := gt_c4 210 rfl rfl
theorem gw_931 : (Jvm.Cond.static ({ cls := "ClawBoxesLaw", name := "tells", desc := "(LClawBoxes;II[J)I" } : Jvm.MethodName)) ∈ gt := gt_c4 211 rfl rfl
theorem gw_932 : (Jvm.Cond.codeWith ({ cls := "ClawBoxesLaw", name := "tells", desc := "(LClawBoxes;II[J)I" } : Jvm.MethodName) method_12_code (5 : Nat) (Option.some Jvm.ClassFile.FieldType.int) [((0 : Nat), (10 : Nat), (13 : Nat), (15 : Nat))]) ∈ gt := gt_c4 212 rfl rfl
theorem gw_933 : (Jvm.Cond.methodLink "ClawBoxesLaw" (47 : Nat) ({ cls := "ClawBoxes", name := "tells", desc := "(II)I" } : Jvm.MethodName)) ∈ gt := gt_c4 213 rfl rfl
theorem gw_934 : (Jvm.Cond.instanceMethod ({ cls := "ClawBoxes", name := "tells", desc := "(II)I" } : Jvm.MethodName)) ∈ gt := gt_c4 214 rfl rfl
theorem gw_935 : (Jvm.Cond.selects "ClawBoxes" ({ cls := "ClawBoxes", name := "tells", desc := "(II)I" } : Jvm.MethodName) ({ cls := "ClawBoxes", name := "tells", desc := "(II)I" } : Jvm.MethodName)) ∈ gt := gt_c4 215 rfl rfl
theorem gw_936 : (Jvm.Cond.code ({ cls := "ClawBoxes", name := "tells", desc := "(II)I" } : Jvm.MethodName) prog_1_method_14_code (3 : Nat) (Option.some Jvm.ClassFile.FieldType.int)) ∈ gt := gt_c4 216 rfl rfl
theorem gw_937 : (Jvm.Cond.methodLink "ClawBoxesLaw" (159 : Nat) ({ cls := "ClawBoxesLaw", name := "attempt", desc := "(LClawBoxes;I[J)I" } : Jvm.MethodName)) ∈ gt := gt_c4 217 rfl rfl
theorem gw_938 : (Jvm.Cond.static ({ cls := "ClawBoxesLaw", name := "attempt", desc := "(LClawBoxes;I[J)I" } : Jvm.MethodName)) ∈ gt := gt_c4 218 rfl rfl
theorem gw_939 : (Jvm.Cond.codeWith ({ cls := "ClawBoxesLaw", name := "attempt", desc := "(LClawBoxes;I[J)I" } : Jvm.MethodName) method_13_code (4 : Nat) (Option.some Jvm.ClassFile.FieldType.int) [((0 : Nat), (9 : Nat), (12 : Nat), (13 : Nat))]) ∈ gt := gt_c4 219 rfl rfl
theorem gw_940 : (Jvm.Cond.methodLink "ClawBoxesLaw" (50 : Nat) ({ cls := "ClawBoxes", name := "attempt", desc := "(I)I" } : Jvm.MethodName)) ∈ gt := gt_c4 220 rfl rfl
theorem gw_941 : (Jvm.Cond.instanceMethod ({ cls := "ClawBoxes", name := "attempt", desc := "(I)I" } : Jvm.MethodName)) ∈ gt := gt_c4 221 rfl rfl
theorem gw_942 : (Jvm.Cond.selects "ClawBoxes" ({ cls := "ClawBoxes", name := "attempt", desc := "(I)I" } : Jvm.MethodName) ({ cls := "ClawBoxes", name := "attempt", desc := "(I)I" } : Jvm.MethodName)) ∈ gt := gt_c4 222 rfl rfl
theorem gw_943 : (Jvm.Cond.code ({ cls := "ClawBoxes", name := "attempt", desc := "(I)I" } : Jvm.MethodName) prog_1_method_15_code (2 : Nat) (Option.some Jvm.ClassFile.FieldType.int)) ∈ gt := gt_c4 223 rfl rfl
theorem gw_944 : (Jvm.Cond.methodLink "ClawBoxes" (202 : Nat) ({ cls := "ClawBoxes", name := "tryAt", desc := "(I)I" } : Jvm.MethodName)) ∈ gt := gt_c4 224 rfl rfl
theorem gw_946 : (Jvm.Cond.instanceMethod ({ cls := "ClawBoxes", name := "tryAt", desc := "(I)I" } : Jvm.MethodName)) ∈ gt := gt_c4 226 rfl rfl
theorem gw_947 : (Jvm.Cond.code ({ cls := "ClawBoxes", name := "tryAt", desc := "(I)I" } : Jvm.MethodName) prog_1_method_46_code (5 : Nat) (Option.some Jvm.ClassFile.FieldType.int)) ∈ gt := gt_c4 227 rfl rfl
theorem gw_948 : (Jvm.Cond.methodLink "ClawBoxes" (216 : Nat) ({ cls := "ClawBoxes$Box", name := "draw", desc := "(I)I" } : Jvm.MethodName)) ∈ gt := gt_c4 228 rfl rfl
theorem gw_949 : (Jvm.Cond.instanceMethod ({ cls := "ClawBoxes$Box", name := "draw", desc := "(I)I" } : Jvm.MethodName)) ∈ gt := gt_c4 229 rfl rfl
theorem gw_950 : (Jvm.Cond.selects "ClawBoxes$Box" ({ cls := "ClawBoxes$Box", name := "draw", desc := "(I)I" } : Jvm.MethodName) ({ cls := "ClawBoxes$Box", name := "draw", desc := "(I)I" } : Jvm.MethodName)) ∈ gt := gt_c4 230 rfl rfl
theorem gw_951 : (Jvm.Cond.code ({ cls := "ClawBoxes$Box", name := "draw", desc := "(I)I" } : Jvm.MethodName) prog_2_method_2_code (2 : Nat) (Option.some Jvm.ClassFile.FieldType.int)) ∈ gt := gt_c4 231 rfl rfl
theorem gw_952 : (Jvm.Cond.constant "ClawBoxes$Box" (58 : Nat) (1103515245 : Int32)) ∈ gt := gt_c4 232 rfl rfl
theorem gw_953 : (Jvm.Cond.methodLink "ClawBoxes" (335 : Nat) ({ cls := "ClawBoxes$Try", name := "carry", desc := "(II)V" } : Jvm.MethodName)) ∈ gt := gt_c4 233 rfl rfl
theorem gw_954 : (Jvm.Cond.instanceMethod ({ cls := "ClawBoxes$Try", name := "carry", desc := "(II)V" } : Jvm.MethodName)) ∈ gt := gt_c4 234 rfl rfl
theorem gw_955 : (Jvm.Cond.selects "ClawBoxes$Try" ({ cls := "ClawBoxes$Try", name := "carry", desc := "(II)V" } : Jvm.MethodName) ({ cls := "ClawBoxes$Try", name := "carry", desc := "(II)V" } : Jvm.MethodName)) ∈ gt := gt_c4 235 rfl rfl
theorem gw_956 : (Jvm.Cond.code ({ cls := "ClawBoxes$Try", name := "carry", desc := "(II)V" } : Jvm.MethodName) prog_7_method_7_code (4 : Nat) (Option.none : Option Jvm.ClassFile.FieldType)) ∈ gt := gt_c4 236 rfl rfl
theorem gw_957 : (Jvm.Cond.methodLink "ClawBoxes" (338 : Nat) ({ cls := "ClawBoxes$Box", name := "move", desc := "(LClawBoxes$Try;)V" } : Jvm.MethodName)) ∈ gt := gt_c4 237 rfl rfl
theorem gw_958 : (Jvm.Cond.instanceMethod ({ cls := "ClawBoxes$Box", name := "move", desc := "(LClawBoxes$Try;)V" } : Jvm.MethodName)) ∈ gt := gt_c4 238 rfl rfl
theorem gw_959 : (Jvm.Cond.selects "ClawBoxes$Box" ({ cls := "ClawBoxes$Box", name := "move", desc := "(LClawBoxes$Try;)V" } : Jvm.MethodName) ({ cls := "ClawBoxes$Box", name := "move", desc := "(LClawBoxes$Try;)V" } : Jvm.MethodName)) ∈ gt := gt_c4 239 rfl rfl
theorem gw_960 : (Jvm.Cond.code ({ cls := "ClawBoxes$Box", name := "move", desc := "(LClawBoxes$Try;)V" } : Jvm.MethodName) prog_2_method_3_code (3 : Nat) (Option.none : Option Jvm.ClassFile.FieldType)) ∈ gt := gt_c5 0 rfl rfl
theorem gw_961 : (Jvm.Cond.methodLink "ClawBoxes$Box" (65 : Nat) ({ cls := "ClawBoxes$Try", name := "grippedAt", desc := "(I)I" } : Jvm.MethodName)) ∈ gt := gt_c5 1 rfl rfl
theorem gw_962 : (Jvm.Cond.instanceMethod ({ cls := "ClawBoxes$Try", name := "grippedAt", desc := "(I)I" } : Jvm.MethodName)) ∈ gt := gt_c5 2 rfl rfl
theorem gw_963 : (Jvm.Cond.selects "ClawBoxes$Try" ({ cls := "ClawBoxes$Try", name := "grippedAt", desc := "(I)I" } : Jvm.MethodName) ({ cls := "ClawBoxes$Try", name := "grippedAt", desc := "(I)I" } : Jvm.MethodName)) ∈ gt := gt_c5 3 rfl rfl
theorem gw_964 : (Jvm.Cond.code ({ cls := "ClawBoxes$Try", name := "grippedAt", desc := "(I)I" } : Jvm.MethodName) prog_7_method_3_code (2 : Nat) (Option.some Jvm.ClassFile.FieldType.int)) ∈ gt := gt_c5 4 rfl rfl
theorem gw_965 : (Jvm.Cond.methodLink "ClawBoxes$Box" (69 : Nat) ({ cls := "ClawBoxes$Heaps", name := "takeOut", desc := "(II)V" } : Jvm.MethodName)) ∈ gt := gt_c5 5 rfl rfl
theorem gw_966 : (Jvm.Cond.methodLink "ClawBoxes$Box" (73 : Nat) ({ cls := "ClawBoxes$Heaps", name := "valueOfAll", desc := "(LClawBoxes$Try;)I" } : Jvm.MethodName)) ∈ gt := gt_c5 6 rfl rfl
theorem gw_967 : (Jvm.Cond.instanceMethod ({ cls := "ClawBoxes$Heaps", name := "valueOfAll", desc := "(LClawBoxes$Try;)I" } : Jvm.MethodName)) ∈ gt := gt_c5 7 rfl rfl
theorem gw_968 : (Jvm.Cond.selects "ClawBoxes$Heaps" ({ cls := "ClawBoxes$Heaps", name := "valueOfAll", desc := "(LClawBoxes$Try;)I" } : Jvm.MethodName) ({ cls := "ClawBoxes$Heaps", name := "valueOfAll", desc := "(LClawBoxes$Try;)I" } : Jvm.MethodName)) ∈ gt := gt_c5 8 rfl rfl
theorem gw_969 : (Jvm.Cond.code ({ cls := "ClawBoxes$Heaps", name := "valueOfAll", desc := "(LClawBoxes$Try;)I" } : Jvm.MethodName) prog_4_method_9_code (4 : Nat) (Option.some Jvm.ClassFile.FieldType.int)) ∈ gt := gt_c5 9 rfl rfl
theorem gw_970 : (Jvm.Cond.methodLink "ClawBoxes$Heaps" (66 : Nat) ({ cls := "ClawBoxes$Try", name := "grippedAt", desc := "(I)I" } : Jvm.MethodName)) ∈ gt := gt_c5 10 rfl rfl
theorem gw_971 : (Jvm.Cond.methodLink "ClawBoxes$Heaps" (70 : Nat) ({ cls := "ClawBoxes$Heaps", name := "valueOf", desc := "(I)I" } : Jvm.MethodName)) ∈ gt := gt_c5 11 rfl rfl
theorem gw_972 : (Jvm.Cond.instanceMethod ({ cls := "ClawBoxes$Heaps", name := "valueOf", desc := "(I)I" } : Jvm.MethodName)) ∈ gt := gt_c5 12 rfl rfl
theorem gw_973 : (Jvm.Cond.selects "ClawBoxes$Heaps" ({ cls := "ClawBoxes$Heaps", name := "valueOf", desc := "(I)I" } : Jvm.MethodName) ({ cls := "ClawBoxes$Heaps", name := "valueOf", desc := "(I)I" } : Jvm.MethodName)) ∈ gt := gt_c5 13 rfl rfl
theorem gw_974 : (Jvm.Cond.code ({ cls := "ClawBoxes$Heaps", name := "valueOf", desc := "(I)I" } : Jvm.MethodName) prog_4_method_8_code (2 : Nat) (Option.some Jvm.ClassFile.FieldType.int)) ∈ gt := gt_c5 14 rfl rfl
theorem gw_975 : (Jvm.Cond.methodLink "ClawBoxes$Box" (80 : Nat) ({ cls := "ClawBoxes$Heaps", name := "put", desc := "(II)V" } : Jvm.MethodName)) ∈ gt := gt_c5 15 rfl rfl
theorem gw_976 : (Jvm.Cond.methodLink "ClawBoxes" (342 : Nat) ({ cls := "ClawBoxes$Box", name := "keep", desc := "(LClawBoxes$Try;)V" } : Jvm.MethodName)) ∈ gt := gt_c5 16 rfl rfl
theorem gw_977 : (Jvm.Cond.instanceMethod ({ cls := "ClawBoxes$Box", name := "keep", desc := "(LClawBoxes$Try;)V" } : Jvm.MethodName)) ∈ gt := gt_c5 17 rfl rfl
theorem gw_978 : (Jvm.Cond.selects "ClawBoxes$Box" ({ cls := "ClawBoxes$Box", name := "keep", desc := "(LClawBoxes$Try;)V" } : Jvm.MethodName) ({ cls := "ClawBoxes$Box", name := "keep", desc := "(LClawBoxes$Try;)V" } : Jvm.MethodName)) ∈ gt := gt_c5 18 rfl rfl
theorem gw_979 : (Jvm.Cond.code ({ cls := "ClawBoxes$Box", name := "keep", desc := "(LClawBoxes$Try;)V" } : Jvm.MethodName) prog_2_method_4_code (2 : Nat) (Option.none : Option Jvm.ClassFile.FieldType)) ∈ gt := gt_c5 19 rfl rfl
theorem gw_980 : (Jvm.Cond.methodLink "ClawBoxesLaw" (162 : Nat) ({ cls := "ClawBoxesLaw", name := "record", desc := "(LClawBoxes;II[J)I" } : Jvm.MethodName)) ∈ gt := gt_c5 20 rfl rfl
theorem gw_981 : (Jvm.Cond.static ({ cls := "ClawBoxesLaw", name := "record", desc := "(LClawBoxes;II[J)I" } : Jvm.MethodName)) ∈ gt := gt_c5 21 rfl rfl
theorem gw_982 : (Jvm.Cond.codeWith ({ cls := "ClawBoxesLaw", name := "record", desc := "(LClawBoxes;II[J)I" } : Jvm.MethodName) method_14_code (5 : Nat) (Option.some Jvm.ClassFile.FieldType.int) [((0 : Nat), (10 : Nat), (13 : Nat), (21 : Nat)), ((0 : Nat), (10 : Nat), (17 : Nat), (15 : Nat))]) ∈ gt := gt_c5 22 rfl rfl
theorem gw_983 : (Jvm.Cond.methodLink "ClawBoxesLaw" (53 : Nat) ({ cls := "ClawBoxes", name := "record", desc := "(II)I" } : Jvm.MethodName)) ∈ gt := gt_c5 23 rfl rfl
theorem gw_984 : (Jvm.Cond.instanceMethod ({ cls := "ClawBoxes", name := "record", desc := "(II)I" } : Jvm.MethodName)) ∈ gt := gt_c5 24 rfl rfl
theorem gw_985 : (Jvm.Cond.selects "ClawBoxes" ({ cls := "ClawBoxes", name := "record", desc := "(II)I" } : Jvm.MethodName) ({ cls := "ClawBoxes", name := "record", desc := "(II)I" } : Jvm.MethodName)) ∈ gt := gt_c5 25 rfl rfl
theorem gw_986 : (Jvm.Cond.code ({ cls := "ClawBoxes", name := "record", desc := "(II)I" } : Jvm.MethodName) prog_1_method_16_code (3 : Nat) (Option.some Jvm.ClassFile.FieldType.int)) ∈ gt := gt_c5 26 rfl rfl
theorem gw_987 : (Jvm.Cond.methodLink "ClawBoxes" (209 : Nat) ({ cls := "ClawBoxes$Try", name := "told", desc := "(I)I" } : Jvm.MethodName)) ∈ gt := gt_c5 27 rfl rfl
theorem gw_988 : (Jvm.Cond.instanceMethod ({ cls := "ClawBoxes$Try", name := "told", desc := "(I)I" } : Jvm.MethodName)) ∈ gt := gt_c5 28 rfl rfl
theorem gw_989 : (Jvm.Cond.selects "ClawBoxes$Try" ({ cls := "ClawBoxes$Try", name := "told", desc := "(I)I" } : Jvm.MethodName) ({ cls := "ClawBoxes$Try", name := "told", desc := "(I)I" } : Jvm.MethodName)) ∈ gt := gt_c5 29 rfl rfl
theorem gw_990 : (Jvm.Cond.code ({ cls := "ClawBoxes$Try", name := "told", desc := "(I)I" } : Jvm.MethodName) prog_7_method_13_code (2 : Nat) (Option.some Jvm.ClassFile.FieldType.int)) ∈ gt := gt_c5 30 rfl rfl
theorem gw_991 : (Jvm.Cond.methodLink "ClawBoxesLaw" (165 : Nat) ({ cls := "ClawBoxesLaw", name := "hand", desc := "(LClawBoxes;I[J)I" } : Jvm.MethodName)) ∈ gt := gt_c5 31 rfl rfl
theorem gw_992 : (Jvm.Cond.static ({ cls := "ClawBoxesLaw", name := "hand", desc := "(LClawBoxes;I[J)I" } : Jvm.MethodName)) ∈ gt := gt_c5 32 rfl rfl
theorem gw_993 : (Jvm.Cond.codeWith ({ cls := "ClawBoxesLaw", name := "hand", desc := "(LClawBoxes;I[J)I" } : Jvm.MethodName) method_15_code (4 : Nat) (Option.some Jvm.ClassFile.FieldType.int) [((0 : Nat), (9 : Nat), (12 : Nat), (15 : Nat))]) ∈ gt := gt_c5 33 rfl rfl
theorem gw_994 : (Jvm.Cond.methodLink "ClawBoxesLaw" (56 : Nat) ({ cls := "ClawBoxes", name := "hand", desc := "(I)I" } : Jvm.MethodName)) ∈ gt := gt_c5 34 rfl rfl
theorem gw_995 : (Jvm.Cond.instanceMethod ({ cls := "ClawBoxes", name := "hand", desc := "(I)I" } : Jvm.MethodName)) ∈ gt := gt_c5 35 rfl rfl
theorem gw_996 : (Jvm.Cond.selects "ClawBoxes" ({ cls := "ClawBoxes", name := "hand", desc := "(I)I" } : Jvm.MethodName) ({ cls := "ClawBoxes", name := "hand", desc := "(I)I" } : Jvm.MethodName)) ∈ gt := gt_c5 36 rfl rfl
theorem gw_997 : (Jvm.Cond.code ({ cls := "ClawBoxes", name := "hand", desc := "(I)I" } : Jvm.MethodName) prog_1_method_17_code (2 : Nat) (Option.some Jvm.ClassFile.FieldType.int)) ∈ gt := gt_c5 37 rfl rfl
theorem gw_998 : (Jvm.Cond.constant "ClawBoxes" (212 : Nat) (134217727 : Int32)) ∈ gt := gt_c5 38 rfl rfl
theorem gw_999 : (Jvm.Cond.methodLink "ClawBoxesLaw" (168 : Nat) ({ cls := "ClawBoxesLaw", name := "play", desc := "(LClawBoxes;II[J)I" } : Jvm.MethodName)) ∈ gt := gt_c5 39 rfl rfl
theorem gw_1000 : (Jvm.Cond.static ({ cls := "ClawBoxesLaw", name := "play", desc := "(LClawBoxes;II[J)I" } : Jvm.MethodName)) ∈ gt := gt_c5 40 rfl rfl
theorem gw_1001 : (Jvm.Cond.codeWith ({ cls := "ClawBoxesLaw", name := "play", desc := "(LClawBoxes;II[J)I" } : Jvm.MethodName) method_16_code (5 : Nat) (Option.some Jvm.ClassFile.FieldType.int) [((0 : Nat), (10 : Nat), (13 : Nat), (21 : Nat)), ((0 : Nat), (10 : Nat), (17 : Nat), (13 : Nat))]) ∈ gt := gt_c5 41 rfl rfl
theorem gw_1002 : (Jvm.Cond.methodLink "ClawBoxesLaw" (59 : Nat) ({ cls := "ClawBoxes", name := "play", desc := "(II)I" } : Jvm.MethodName)) ∈ gt := gt_c5 42 rfl rfl
theorem gw_1003 : (Jvm.Cond.instanceMethod ({ cls := "ClawBoxes", name := "play", desc := "(II)I" } : Jvm.MethodName)) ∈ gt := gt_c5 43 rfl rfl
theorem gw_1004 : (Jvm.Cond.selects "ClawBoxes" ({ cls := "ClawBoxes", name := "play", desc := "(II)I" } : Jvm.MethodName) ({ cls := "ClawBoxes", name := "play", desc := "(II)I" } : Jvm.MethodName)) ∈ gt := gt_c5 44 rfl rfl
theorem gw_1005 : (Jvm.Cond.code ({ cls := "ClawBoxes", name := "play", desc := "(II)I" } : Jvm.MethodName) prog_1_method_18_code (5 : Nat) (Option.some Jvm.ClassFile.FieldType.int)) ∈ gt := gt_c5 45 rfl rfl
theorem gw_1006 : (Jvm.Cond.methodLink "ClawBoxes" (213 : Nat) ({ cls := "ClawBoxes", name := "allWeights", desc := "(I)I" } : Jvm.MethodName)) ∈ gt := gt_c5 46 rfl rfl
theorem gw_1007 : (Jvm.Cond.static ({ cls := "ClawBoxes", name := "allWeights", desc := "(I)I" } : Jvm.MethodName)) ∈ gt := gt_c5 47 rfl rfl
theorem gw_1008 : (Jvm.Cond.code ({ cls := "ClawBoxes", name := "allWeights", desc := "(I)I" } : Jvm.MethodName) prog_1_method_59_code (3 : Nat) (Option.some Jvm.ClassFile.FieldType.int)) ∈ gt := gt_c5 48 rfl rfl
theorem gw_1009 : (Jvm.Cond.methodLink "ClawBoxes" (219 : Nat) ({ cls := "ClawBoxes", name := "weightAt", desc := "(II)I" } : Jvm.MethodName)) ∈ gt := gt_c5 49 rfl rfl
theorem gw_1010 : (Jvm.Cond.static ({ cls := "ClawBoxes", name := "weightAt", desc := "(II)I" } : Jvm.MethodName)) ∈ gt := gt_c5 50 rfl rfl
theorem gw_1011 : (Jvm.Cond.code ({ cls := "ClawBoxes", name := "weightAt", desc := "(II)I" } : Jvm.MethodName) prog_1_method_58_code (2 : Nat) (Option.some Jvm.ClassFile.FieldType.int)) ∈ gt := gt_c5 51 rfl rfl
theorem gw_1012 : (Jvm.Cond.methodLink "ClawBoxes" (223 : Nat) ({ cls := "ClawBoxes", name := "cellReached", desc := "(II)I" } : Jvm.MethodName)) ∈ gt := gt_c5 52 rfl rfl
theorem gw_1013 : (Jvm.Cond.static ({ cls := "ClawBoxes", name := "cellReached", desc := "(II)I" } : Jvm.MethodName)) ∈ gt := gt_c5 53 rfl rfl
theorem gw_1014 : (Jvm.Cond.code ({ cls := "ClawBoxes", name := "cellReached", desc := "(II)I" } : Jvm.MethodName) prog_1_method_61_code (4 : Nat) (Option.some Jvm.ClassFile.FieldType.int)) ∈ gt := gt_c5 54 rfl rfl
theorem gw_1015 : (Jvm.Cond.methodLink "ClawBoxes" (300 : Nat) ({ cls := "java/lang/Math", name := "min", desc := "(II)I" } : Jvm.MethodName)) ∈ gt := gt_c5 55 rfl rfl
theorem gw_1016 : (Jvm.Cond.methodLink "ClawBoxes" (303 : Nat) ({ cls := "java/lang/Math", name := "max", desc := "(II)I" } : Jvm.MethodName)) ∈ gt := gt_c5 56 rfl rfl
theorem gw_1017 : (Jvm.Cond.methodLink "ClawBoxesLaw" (176 : Nat) ({ cls := "ClawBoxesLaw", name := "odds", desc := "(LClawBoxes;III[J)I" } : Jvm.MethodName)) ∈ gt := gt_c5 57 rfl rfl
theorem gw_1018 : (Jvm.Cond.static ({ cls := "ClawBoxesLaw", name := "odds", desc := "(LClawBoxes;III[J)I" } : Jvm.MethodName)) ∈ gt := gt_c5 58 rfl rfl
theorem gw_1019 : (Jvm.Cond.codeWith ({ cls := "ClawBoxesLaw", name := "odds", desc := "(LClawBoxes;III[J)I" } : Jvm.MethodName) method_17_code (6 : Nat) (Option.some Jvm.ClassFile.FieldType.int) [((0 : Nat), (12 : Nat), (15 : Nat), (21 : Nat)), ((0 : Nat), (12 : Nat), (19 : Nat), (13 : Nat)), ((0 : Nat), (12 : Nat), (23 : Nat), (15 : Nat))]) ∈ gt := gt_c5 59 rfl rfl
theorem gw_1020 : (Jvm.Cond.methodLink "ClawBoxesLaw" (62 : Nat) ({ cls := "ClawBoxes", name := "odds", desc := "(III)I" } : Jvm.MethodName)) ∈ gt := gt_c5 60 rfl rfl
theorem gw_1021 : (Jvm.Cond.instanceMethod ({ cls := "ClawBoxes", name := "odds", desc := "(III)I" } : Jvm.MethodName)) ∈ gt := gt_c5 61 rfl rfl
theorem gw_1022 : (Jvm.Cond.selects "ClawBoxes" ({ cls := "ClawBoxes", name := "odds", desc := "(III)I" } : Jvm.MethodName) ({ cls := "ClawBoxes", name := "odds", desc := "(III)I" } : Jvm.MethodName)) ∈ gt := gt_c5 62 rfl rfl
theorem gw_1023 : (Jvm.Cond.code ({ cls := "ClawBoxes", name := "odds", desc := "(III)I" } : Jvm.MethodName) prog_1_method_20_code (7 : Nat) (Option.some Jvm.ClassFile.FieldType.int)) ∈ gt := gt_c5 63 rfl rfl
theorem gw_1024 : (Jvm.Cond.methodLink "ClawBoxes" (230 : Nat) ({ cls := "ClawBoxes", name := "pays", desc := "(LClawBoxes$Box;III)Z" } : Jvm.MethodName)) ∈ gt := gt_c5 64 rfl rfl
theorem gw_1026 : (Jvm.Cond.instanceMethod ({ cls := "ClawBoxes", name := "pays", desc := "(LClawBoxes$Box;III)Z" } : Jvm.MethodName)) ∈ gt := gt_c5 66 rfl rfl
theorem gw_1027 : (Jvm.Cond.code ({ cls := "ClawBoxes", name := "pays", desc := "(LClawBoxes$Box;III)Z" } : Jvm.MethodName) prog_1_method_50_code (5 : Nat) (Option.some Jvm.ClassFile.FieldType.boolean)) ∈ gt := gt_c5 67 rfl rfl
theorem gw_1028 : (Jvm.Cond.methodLink "ClawBoxesLaw" (180 : Nat) ({ cls := "ClawBoxesLaw", name := "weights", desc := "(LClawBoxes;I[J)I" } : Jvm.MethodName)) ∈ gt := gt_c5 68 rfl rfl
theorem gw_1029 : (Jvm.Cond.static ({ cls := "ClawBoxesLaw", name := "weights", desc := "(LClawBoxes;I[J)I" } : Jvm.MethodName)) ∈ gt := gt_c5 69 rfl rfl
theorem gw_1030 : (Jvm.Cond.codeWith ({ cls := "ClawBoxesLaw", name := "weights", desc := "(LClawBoxes;I[J)I" } : Jvm.MethodName) method_18_code (4 : Nat) (Option.some Jvm.ClassFile.FieldType.int) [((0 : Nat), (9 : Nat), (12 : Nat), (21 : Nat))]) ∈ gt := gt_c5 70 rfl rfl
theorem gw_1031 : (Jvm.Cond.methodLink "ClawBoxesLaw" (66 : Nat) ({ cls := "ClawBoxes", name := "weights", desc := "(I)I" } : Jvm.MethodName)) ∈ gt := gt_c5 71 rfl rfl
theorem gw_1032 : (Jvm.Cond.instanceMethod ({ cls := "ClawBoxes", name := "weights", desc := "(I)I" } : Jvm.MethodName)) ∈ gt := gt_c5 72 rfl rfl
theorem gw_1033 : (Jvm.Cond.selects "ClawBoxes" ({ cls := "ClawBoxes", name := "weights", desc := "(I)I" } : Jvm.MethodName) ({ cls := "ClawBoxes", name := "weights", desc := "(I)I" } : Jvm.MethodName)) ∈ gt := gt_c5 73 rfl rfl
theorem gw_1034 : (Jvm.Cond.code ({ cls := "ClawBoxes", name := "weights", desc := "(I)I" } : Jvm.MethodName) prog_1_method_21_code (2 : Nat) (Option.some Jvm.ClassFile.FieldType.int)) ∈ gt := gt_c5 74 rfl rfl
theorem gw_1035 : (Jvm.Cond.methodLink "ClawBoxesLaw" (183 : Nat) ({ cls := "ClawBoxesLaw", name := "when", desc := "(LClawBoxes;II[J)I" } : Jvm.MethodName)) ∈ gt := gt_c5 75 rfl rfl
theorem gw_1036 : (Jvm.Cond.static ({ cls := "ClawBoxesLaw", name := "when", desc := "(LClawBoxes;II[J)I" } : Jvm.MethodName)) ∈ gt := gt_c5 76 rfl rfl
theorem gw_1037 : (Jvm.Cond.codeWith ({ cls := "ClawBoxesLaw", name := "when", desc := "(LClawBoxes;II[J)I" } : Jvm.MethodName) method_19_code (5 : Nat) (Option.some Jvm.ClassFile.FieldType.int) [((0 : Nat), (10 : Nat), (13 : Nat), (13 : Nat)), ((0 : Nat), (10 : Nat), (17 : Nat), (15 : Nat))]) ∈ gt := gt_c5 77 rfl rfl
theorem gw_1038 : (Jvm.Cond.methodLink "ClawBoxesLaw" (69 : Nat) ({ cls := "ClawBoxes", name := "when", desc := "(II)I" } : Jvm.MethodName)) ∈ gt := gt_c5 78 rfl rfl
theorem gw_1039 : (Jvm.Cond.instanceMethod ({ cls := "ClawBoxes", name := "when", desc := "(II)I" } : Jvm.MethodName)) ∈ gt := gt_c5 79 rfl rfl
theorem gw_1040 : (Jvm.Cond.selects "ClawBoxes" ({ cls := "ClawBoxes", name := "when", desc := "(II)I" } : Jvm.MethodName) ({ cls := "ClawBoxes", name := "when", desc := "(II)I" } : Jvm.MethodName)) ∈ gt := gt_c5 80 rfl rfl
theorem gw_1041 : (Jvm.Cond.code ({ cls := "ClawBoxes", name := "when", desc := "(II)I" } : Jvm.MethodName) prog_1_method_22_code (4 : Nat) (Option.some Jvm.ClassFile.FieldType.int)) ∈ gt := gt_c5 81 rfl rfl
theorem gw_1042 : (Jvm.Cond.methodLink "ClawBoxesLaw" (190 : Nat) ({ cls := "ClawBoxesLaw", name := "strange", desc := "(LClawBoxes;I[J)I" } : Jvm.MethodName)) ∈ gt := gt_c5 82 rfl rfl
theorem gw_1043 : (Jvm.Cond.static ({ cls := "ClawBoxesLaw", name := "strange", desc := "(LClawBoxes;I[J)I" } : Jvm.MethodName)) ∈ gt := gt_c5 83 rfl rfl
theorem gw_1044 : (Jvm.Cond.codeWith ({ cls := "ClawBoxesLaw", name := "strange", desc := "(LClawBoxes;I[J)I" } : Jvm.MethodName) method_20_code (4 : Nat) (Option.some Jvm.ClassFile.FieldType.int) [((0 : Nat), (9 : Nat), (12 : Nat), (15 : Nat))]) ∈ gt := gt_c5 84 rfl rfl
theorem gw_1045 : (Jvm.Cond.methodLink "ClawBoxesLaw" (72 : Nat) ({ cls := "ClawBoxes", name := "strange", desc := "(I)I" } : Jvm.MethodName)) ∈ gt := gt_c5 85 rfl rfl
theorem gw_1046 : (Jvm.Cond.instanceMethod ({ cls := "ClawBoxes", name := "strange", desc := "(I)I" } : Jvm.MethodName)) ∈ gt := gt_c5 86 rfl rfl
theorem gw_1047 : (Jvm.Cond.selects "ClawBoxes" ({ cls := "ClawBoxes", name := "strange", desc := "(I)I" } : Jvm.MethodName) ({ cls := "ClawBoxes", name := "strange", desc := "(I)I" } : Jvm.MethodName)) ∈ gt := gt_c5 87 rfl rfl
theorem gw_1048 : (Jvm.Cond.code ({ cls := "ClawBoxes", name := "strange", desc := "(I)I" } : Jvm.MethodName) prog_1_method_24_code (2 : Nat) (Option.some Jvm.ClassFile.FieldType.int)) ∈ gt := gt_c5 88 rfl rfl
theorem gw_1049 : (Jvm.Cond.methodLink "ClawBoxesLaw" (193 : Nat) ({ cls := "ClawBoxesLaw", name := "guess", desc := "(LClawBoxes;I[J)I" } : Jvm.MethodName)) ∈ gt := gt_c5 89 rfl rfl
theorem gw_1050 : (Jvm.Cond.static ({ cls := "ClawBoxesLaw", name := "guess", desc := "(LClawBoxes;I[J)I" } : Jvm.MethodName)) ∈ gt := gt_c5 90 rfl rfl
theorem gw_1051 : (Jvm.Cond.codeWith ({ cls := "ClawBoxesLaw", name := "guess", desc := "(LClawBoxes;I[J)I" } : Jvm.MethodName) method_21_code (4 : Nat) (Option.some Jvm.ClassFile.FieldType.int) [((0 : Nat), (9 : Nat), (12 : Nat), (13 : Nat))]) ∈ gt := gt_c5 91 rfl rfl
theorem gw_1052 : (Jvm.Cond.methodLink "ClawBoxesLaw" (75 : Nat) ({ cls := "ClawBoxes", name := "guess", desc := "(I)I" } : Jvm.MethodName)) ∈ gt := gt_c5 92 rfl rfl
theorem gw_1053 : (Jvm.Cond.instanceMethod ({ cls := "ClawBoxes", name := "guess", desc := "(I)I" } : Jvm.MethodName)) ∈ gt := gt_c5 93 rfl rfl
theorem gw_1054 : (Jvm.Cond.selects "ClawBoxes" ({ cls := "ClawBoxes", name := "guess", desc := "(I)I" } : Jvm.MethodName) ({ cls := "ClawBoxes", name := "guess", desc := "(I)I" } : Jvm.MethodName)) ∈ gt := gt_c5 94 rfl rfl
theorem gw_1055 : (Jvm.Cond.code ({ cls := "ClawBoxes", name := "guess", desc := "(I)I" } : Jvm.MethodName) prog_1_method_25_code (4 : Nat) (Option.some Jvm.ClassFile.FieldType.int)) ∈ gt := gt_c5 95 rfl rfl
theorem gw_1056 : (Jvm.Cond.methodLink "ClawBoxesLaw" (200 : Nat) ({ cls := "ClawBoxesLaw", name := "worth", desc := "(LClawBoxes;III[J)I" } : Jvm.MethodName)) ∈ gt := gt_c5 96 rfl rfl
theorem gw_1057 : (Jvm.Cond.static ({ cls := "ClawBoxesLaw", name := "worth", desc := "(LClawBoxes;III[J)I" } : Jvm.MethodName)) ∈ gt := gt_c5 97 rfl rfl
theorem gw_1058 : (Jvm.Cond.codeWith ({ cls := "ClawBoxesLaw", name := "worth", desc := "(LClawBoxes;III[J)I" } : Jvm.MethodName) method_22_code (6 : Nat) (Option.some Jvm.ClassFile.FieldType.int) [((0 : Nat), (12 : Nat), (15 : Nat), (13 : Nat)), ((0 : Nat), (12 : Nat), (19 : Nat), (15 : Nat))]) ∈ gt := gt_c5 98 rfl rfl
theorem gw_1059 : (Jvm.Cond.methodLink "ClawBoxesLaw" (78 : Nat) ({ cls := "ClawBoxes", name := "worth", desc := "(III)I" } : Jvm.MethodName)) ∈ gt := gt_c5 99 rfl rfl
theorem gw_1060 : (Jvm.Cond.instanceMethod ({ cls := "ClawBoxes", name := "worth", desc := "(III)I" } : Jvm.MethodName)) ∈ gt := gt_c5 100 rfl rfl
theorem gw_1061 : (Jvm.Cond.selects "ClawBoxes" ({ cls := "ClawBoxes", name := "worth", desc := "(III)I" } : Jvm.MethodName) ({ cls := "ClawBoxes", name := "worth", desc := "(III)I" } : Jvm.MethodName)) ∈ gt := gt_c5 101 rfl rfl
theorem gw_1062 : (Jvm.Cond.code ({ cls := "ClawBoxes", name := "worth", desc := "(III)I" } : Jvm.MethodName) prog_1_method_27_code (5 : Nat) (Option.some Jvm.ClassFile.FieldType.int)) ∈ gt := gt_c5 102 rfl rfl
theorem gw_1063 : (Jvm.Cond.methodLink "ClawBoxes" (269 : Nat) ({ cls := "ClawBoxes", name := "tryOnCopy", desc := "(I)I" } : Jvm.MethodName)) ∈ gt := gt_c5 103 rfl rfl
theorem gw_1065 : (Jvm.Cond.instanceMethod ({ cls := "ClawBoxes", name := "tryOnCopy", desc := "(I)I" } : Jvm.MethodName)) ∈ gt := gt_c5 105 rfl rfl
theorem gw_1066 : (Jvm.Cond.code ({ cls := "ClawBoxes", name := "tryOnCopy", desc := "(I)I" } : Jvm.MethodName) prog_1_method_47_code (2 : Nat) (Option.some Jvm.ClassFile.FieldType.int)) ∈ gt := gt_c5 106 rfl rfl
theorem gw_1067 : (Jvm.Cond.methodLink "ClawBoxes" (348 : Nat) ({ cls := "ClawBoxes", name := "probeCopy", desc := "(I)V" } : Jvm.MethodName)) ∈ gt := gt_c5 107 rfl rfl
theorem gw_1069 : (Jvm.Cond.instanceMethod ({ cls := "ClawBoxes", name := "probeCopy", desc := "(I)V" } : Jvm.MethodName)) ∈ gt := gt_c5 109 rfl rfl
theorem gw_1070 : (Jvm.Cond.code ({ cls := "ClawBoxes", name := "probeCopy", desc := "(I)V" } : Jvm.MethodName) prog_1_method_49_code (2 : Nat) (Option.none : Option Jvm.ClassFile.FieldType)) ∈ gt := gt_c5 110 rfl rfl
theorem gw_1071 : (Jvm.Cond.methodLink "ClawBoxes" (272 : Nat) ({ cls := "ClawBoxes", name := "worthOnCopy", desc := "(I)I" } : Jvm.MethodName)) ∈ gt := gt_c5 111 rfl rfl
theorem gw_1073 : (Jvm.Cond.instanceMethod ({ cls := "ClawBoxes", name := "worthOnCopy", desc := "(I)I" } : Jvm.MethodName)) ∈ gt := gt_c5 113 rfl rfl
theorem gw_1074 : (Jvm.Cond.code ({ cls := "ClawBoxes", name := "worthOnCopy", desc := "(I)I" } : Jvm.MethodName) prog_1_method_48_code (2 : Nat) (Option.some Jvm.ClassFile.FieldType.int)) ∈ gt := gt_c5 114 rfl rfl
theorem gw_1075 : (Jvm.Cond.methodLink "ClawBoxes" (351 : Nat) ({ cls := "ClawBoxes$Heaps", name := "valueOfAll", desc := "(LClawBoxes$Try;)I" } : Jvm.MethodName)) ∈ gt := gt_c5 115 rfl rfl
theorem gw_1076 : (Jvm.Cond.methodLink "ClawBoxesLaw" (203 : Nat) ({ cls := "ClawBoxesLaw", name := "bide", desc := "(LClawBoxes;II[J)I" } : Jvm.MethodName)) ∈ gt := gt_c5 116 rfl rfl
theorem gw_1077 : (Jvm.Cond.static ({ cls := "ClawBoxesLaw", name := "bide", desc := "(LClawBoxes;II[J)I" } : Jvm.MethodName)) ∈ gt := gt_c5 117 rfl rfl
theorem gw_1078 : (Jvm.Cond.codeWith ({ cls := "ClawBoxesLaw", name := "bide", desc := "(LClawBoxes;II[J)I" } : Jvm.MethodName) method_23_code (5 : Nat) (Option.some Jvm.ClassFile.FieldType.int) [((0 : Nat), (10 : Nat), (13 : Nat), (13 : Nat))]) ∈ gt := gt_c5 118 rfl rfl
theorem gw_1079 : (Jvm.Cond.methodLink "ClawBoxesLaw" (81 : Nat) ({ cls := "ClawBoxes", name := "bide", desc := "(II)I" } : Jvm.MethodName)) ∈ gt := gt_c5 119 rfl rfl
theorem gw_1080 : (Jvm.Cond.instanceMethod ({ cls := "ClawBoxes", name := "bide", desc := "(II)I" } : Jvm.MethodName)) ∈ gt := gt_c5 120 rfl rfl
theorem gw_1081 : (Jvm.Cond.selects "ClawBoxes" ({ cls := "ClawBoxes", name := "bide", desc := "(II)I" } : Jvm.MethodName) ({ cls := "ClawBoxes", name := "bide", desc := "(II)I" } : Jvm.MethodName)) ∈ gt := gt_c5 121 rfl rfl
theorem gw_1082 : (Jvm.Cond.code ({ cls := "ClawBoxes", name := "bide", desc := "(II)I" } : Jvm.MethodName) prog_1_method_28_code (7 : Nat) (Option.some Jvm.ClassFile.FieldType.int)) ∈ gt := gt_c5 122 rfl rfl
theorem gw_1083 : (Jvm.Cond.methodLink "ClawBoxesLaw" (206 : Nat) ({ cls := "ClawBoxesLaw", name := "settle", desc := "(LClawBoxes;III[J)I" } : Jvm.MethodName)) ∈ gt := gt_c5 123 rfl rfl
theorem gw_1084 : (Jvm.Cond.static ({ cls := "ClawBoxesLaw", name := "settle", desc := "(LClawBoxes;III[J)I" } : Jvm.MethodName)) ∈ gt := gt_c5 124 rfl rfl
theorem gw_1085 : (Jvm.Cond.codeWith ({ cls := "ClawBoxesLaw", name := "settle", desc := "(LClawBoxes;III[J)I" } : Jvm.MethodName) method_24_code (6 : Nat) (Option.some Jvm.ClassFile.FieldType.int) [((0 : Nat), (12 : Nat), (15 : Nat), (21 : Nat)), ((0 : Nat), (12 : Nat), (19 : Nat), (13 : Nat)), ((0 : Nat), (12 : Nat), (23 : Nat), (15 : Nat))]) ∈ gt := gt_c5 125 rfl rfl
theorem gw_1086 : (Jvm.Cond.methodLink "ClawBoxesLaw" (84 : Nat) ({ cls := "ClawBoxes", name := "settle", desc := "(III)I" } : Jvm.MethodName)) ∈ gt := gt_c5 126 rfl rfl
theorem gw_1087 : (Jvm.Cond.instanceMethod ({ cls := "ClawBoxes", name := "settle", desc := "(III)I" } : Jvm.MethodName)) ∈ gt := gt_c5 127 rfl rfl
theorem gw_1088 : (Jvm.Cond.selects "ClawBoxes" ({ cls := "ClawBoxes", name := "settle", desc := "(III)I" } : Jvm.MethodName) ({ cls := "ClawBoxes", name := "settle", desc := "(III)I" } : Jvm.MethodName)) ∈ gt := gt_c5 128 rfl rfl
theorem gw_1089 : (Jvm.Cond.code ({ cls := "ClawBoxes", name := "settle", desc := "(III)I" } : Jvm.MethodName) prog_1_method_29_code (8 : Nat) (Option.some Jvm.ClassFile.FieldType.int)) ∈ gt := gt_c5 129 rfl rfl
theorem gw_1090 : (Jvm.Cond.methodLink "ClawBoxes" (275 : Nat) ({ cls := "ClawBoxes", name := "weightsReaching", desc := "(II)I" } : Jvm.MethodName)) ∈ gt := gt_c5 130 rfl rfl
theorem gw_1091 : (Jvm.Cond.static ({ cls := "ClawBoxes", name := "weightsReaching", desc := "(II)I" } : Jvm.MethodName)) ∈ gt := gt_c5 131 rfl rfl
theorem gw_1092 : (Jvm.Cond.code ({ cls := "ClawBoxes", name := "weightsReaching", desc := "(II)I" } : Jvm.MethodName) prog_1_method_60_code (4 : Nat) (Option.some Jvm.ClassFile.FieldType.int)) ∈ gt := gt_c5 132 rfl rfl
theorem gw_1093 : (Jvm.Cond.methodLink "ClawBoxes" (278 : Nat) ({ cls := "ClawBoxes$Heaps", name := "valueOf", desc := "(I)I" } : Jvm.MethodName)) ∈ gt := gt_c5 133 rfl rfl
theorem gw_1094 : (Jvm.Cond.methodLink "ClawBoxesLaw" (209 : Nat) ({ cls := "ClawBoxesLaw", name := "back", desc := "(LClawBoxes;II[J)I" } : Jvm.MethodName)) ∈ gt := gt_c5 134 rfl rfl
theorem gw_1095 : (Jvm.Cond.static ({ cls := "ClawBoxesLaw", name := "back", desc := "(LClawBoxes;II[J)I" } : Jvm.MethodName)) ∈ gt := gt_c5 135 rfl rfl
theorem gw_1096 : (Jvm.Cond.codeWith ({ cls := "ClawBoxesLaw", name := "back", desc := "(LClawBoxes;II[J)I" } : Jvm.MethodName) method_25_code (5 : Nat) (Option.some Jvm.ClassFile.FieldType.int) [((0 : Nat), (10 : Nat), (13 : Nat), (21 : Nat)), ((0 : Nat), (10 : Nat), (17 : Nat), (13 : Nat))]) ∈ gt := gt_c5 136 rfl rfl
theorem gw_1097 : (Jvm.Cond.methodLink "ClawBoxesLaw" (87 : Nat) ({ cls := "ClawBoxes", name := "back", desc := "(II)I" } : Jvm.MethodName)) ∈ gt := gt_c5 137 rfl rfl
theorem gw_1098 : (Jvm.Cond.instanceMethod ({ cls := "ClawBoxes", name := "back", desc := "(II)I" } : Jvm.MethodName)) ∈ gt := gt_c5 138 rfl rfl
theorem gw_1099 : (Jvm.Cond.selects "ClawBoxes" ({ cls := "ClawBoxes", name := "back", desc := "(II)I" } : Jvm.MethodName) ({ cls := "ClawBoxes", name := "back", desc := "(II)I" } : Jvm.MethodName)) ∈ gt := gt_c5 139 rfl rfl
theorem gw_1100 : (Jvm.Cond.code ({ cls := "ClawBoxes", name := "back", desc := "(II)I" } : Jvm.MethodName) prog_1_method_30_code (5 : Nat) (Option.some Jvm.ClassFile.FieldType.int)) ∈ gt := gt_c5 140 rfl rfl
theorem gw_1101 : (Jvm.Cond.constant "ClawBoxes" (281 : Nat) (-2147483648 : Int32)) ∈ gt := gt_c5 141 rfl rfl
theorem gw_1102 : (Jvm.Cond.methodLink "ClawBoxes" (282 : Nat) ({ cls := "java/lang/Math", name := "floorDiv", desc := "(II)I" } : Jvm.MethodName)) ∈ gt := gt_c5 142 rfl rfl
theorem gw_1103 : (Jvm.Cond.static ({ cls := "java/lang/Math", name := "floorDiv", desc := "(II)I" } : Jvm.MethodName)) ∈ gt := gt_c5 143 rfl rfl
theorem gw_1104 : (Jvm.Cond.code ({ cls := "java/lang/Math", name := "floorDiv", desc := "(II)I" } : Jvm.MethodName) prog_15_method_47_code (3 : Nat) (Option.some Jvm.ClassFile.FieldType.int)) ∈ gt := gt_c5 144 rfl rfl
theorem gw_1105 : (Jvm.Cond.methodLink "ClawBoxesLaw" (212 : Nat) ({ cls := "ClawBoxesLaw", name := "broken", desc := "(LClawBoxes;I[J)I" } : Jvm.MethodName)) ∈ gt := gt_c5 145 rfl rfl
theorem gw_1106 : (Jvm.Cond.static ({ cls := "ClawBoxesLaw", name := "broken", desc := "(LClawBoxes;I[J)I" } : Jvm.MethodName)) ∈ gt := gt_c5 146 rfl rfl
theorem gw_1107 : (Jvm.Cond.codeWith ({ cls := "ClawBoxesLaw", name := "broken", desc := "(LClawBoxes;I[J)I" } : Jvm.MethodName) method_26_code (4 : Nat) (Option.some Jvm.ClassFile.FieldType.int) [((0 : Nat), (9 : Nat), (12 : Nat), (21 : Nat))]) ∈ gt := gt_c5 147 rfl rfl
theorem gw_1108 : (Jvm.Cond.methodLink "ClawBoxesLaw" (90 : Nat) ({ cls := "ClawBoxes", name := "broken", desc := "(I)I" } : Jvm.MethodName)) ∈ gt := gt_c5 148 rfl rfl
theorem gw_1109 : (Jvm.Cond.instanceMethod ({ cls := "ClawBoxes", name := "broken", desc := "(I)I" } : Jvm.MethodName)) ∈ gt := gt_c5 149 rfl rfl
theorem gw_1110 : (Jvm.Cond.selects "ClawBoxes" ({ cls := "ClawBoxes", name := "broken", desc := "(I)I" } : Jvm.MethodName) ({ cls := "ClawBoxes", name := "broken", desc := "(I)I" } : Jvm.MethodName)) ∈ gt := gt_c5 150 rfl rfl
theorem gw_1111 : (Jvm.Cond.code ({ cls := "ClawBoxes", name := "broken", desc := "(I)I" } : Jvm.MethodName) prog_1_method_31_code (3 : Nat) (Option.some Jvm.ClassFile.FieldType.int)) ∈ gt := gt_c5 151 rfl rfl
theorem gw_1112 : (Jvm.Cond.methodLink "ClawBoxes" (287 : Nat) ({ cls := "ClawBoxes$Machine", name := "holds", desc := "(LClawBoxes$Code;LClawBoxes$Try;)Z" } : Jvm.MethodName)) ∈ gt := gt_c5 152 rfl rfl
theorem gw_1113 : (Jvm.Cond.instanceMethod ({ cls := "ClawBoxes$Machine", name := "holds", desc := "(LClawBoxes$Code;LClawBoxes$Try;)Z" } : Jvm.MethodName)) ∈ gt := gt_c5 153 rfl rfl
theorem gw_1114 : (Jvm.Cond.selects "ClawBoxes$Machine" ({ cls := "ClawBoxes$Machine", name := "holds", desc := "(LClawBoxes$Code;LClawBoxes$Try;)Z" } : Jvm.MethodName) ({ cls := "ClawBoxes$Machine", name := "holds", desc := "(LClawBoxes$Code;LClawBoxes$Try;)Z" } : Jvm.MethodName)) ∈ gt := gt_c5 154 rfl rfl
theorem gw_1115 : (Jvm.Cond.code ({ cls := "ClawBoxes$Machine", name := "holds", desc := "(LClawBoxes$Code;LClawBoxes$Try;)Z" } : Jvm.MethodName) prog_5_method_5_code (3 : Nat) (Option.some Jvm.ClassFile.FieldType.boolean)) ∈ gt := gt_c5 155 rfl rfl
theorem gw_1116 : (Jvm.Cond.methodLink "ClawBoxes$Machine" (31 : Nat) ({ cls := "ClawBoxes$Machine", name := "run", desc := "(LClawBoxes$Code;LClawBoxes$Try;I)V" } : Jvm.MethodName)) ∈ gt := gt_c5 156 rfl rfl
theorem gw_1117 : (Jvm.Cond.methodLink "ClawBoxesLaw" (215 : Nat) ({ cls := "ClawBoxesLaw", name := "cut", desc := "(LClawBoxes;IIIII[J)I" } : Jvm.MethodName)) ∈ gt := gt_c5 157 rfl rfl
theorem gw_1118 : (Jvm.Cond.static ({ cls := "ClawBoxesLaw", name := "cut", desc := "(LClawBoxes;IIIII[J)I" } : Jvm.MethodName)) ∈ gt := gt_c5 158 rfl rfl
theorem gw_1119 : (Jvm.Cond.codeWith ({ cls := "ClawBoxesLaw", name := "cut", desc := "(LClawBoxes;IIIII[J)I" } : Jvm.MethodName) method_27_code (8 : Nat) (Option.some Jvm.ClassFile.FieldType.int) [((0 : Nat), (16 : Nat), (19 : Nat), (21 : Nat)), ((0 : Nat), (16 : Nat), (23 : Nat), (15 : Nat))]) ∈ gt := gt_c5 159 rfl rfl
theorem gw_1120 : (Jvm.Cond.methodLink "ClawBoxesLaw" (93 : Nat) ({ cls := "ClawBoxes", name := "cut", desc := "(IIIII)I" } : Jvm.MethodName)) ∈ gt := gt_c5 160 rfl rfl
theorem gw_1121 : (Jvm.Cond.instanceMethod ({ cls := "ClawBoxes", name := "cut", desc := "(IIIII)I" } : Jvm.MethodName)) ∈ gt := gt_c5 161 rfl rfl
theorem gw_1122 : (Jvm.Cond.selects "ClawBoxes" ({ cls := "ClawBoxes", name := "cut", desc := "(IIIII)I" } : Jvm.MethodName) ({ cls := "ClawBoxes", name := "cut", desc := "(IIIII)I" } : Jvm.MethodName)) ∈ gt := gt_c5 162 rfl rfl
theorem gw_1123 : (Jvm.Cond.code ({ cls := "ClawBoxes", name := "cut", desc := "(IIIII)I" } : Jvm.MethodName) prog_1_method_32_code (10 : Nat) (Option.some Jvm.ClassFile.FieldType.int)) ∈ gt := gt_c5 163 rfl rfl
theorem gw_1124 : (Jvm.Cond.methodLink "ClawBoxes" (294 : Nat) ({ cls := "java/lang/Math", name := "floorMod", desc := "(II)I" } : Jvm.MethodName)) ∈ gt := gt_c5 164 rfl rfl
theorem gw_1125 : (Jvm.Cond.static ({ cls := "java/lang/Math", name := "floorMod", desc := "(II)I" } : Jvm.MethodName)) ∈ gt := gt_c5 165 rfl rfl
theorem gw_1126 : (Jvm.Cond.code ({ cls := "java/lang/Math", name := "floorMod", desc := "(II)I" } : Jvm.MethodName) prog_15_method_50_code (3 : Nat) (Option.some Jvm.ClassFile.FieldType.int)) ∈ gt := gt_c5 166 rfl rfl
theorem gw_1127 : (Jvm.Cond.methodLink "ClawBoxesLaw" (219 : Nat) ({ cls := "ClawBoxesLaw", name := "player", desc := "(LClawBoxes;IIII[J)I" } : Jvm.MethodName)) ∈ gt := gt_c5 167 rfl rfl
theorem gw_1128 : (Jvm.Cond.static ({ cls := "ClawBoxesLaw", name := "player", desc := "(LClawBoxes;IIII[J)I" } : Jvm.MethodName)) ∈ gt := gt_c5 168 rfl rfl
theorem gw_1129 : (Jvm.Cond.codeWith ({ cls := "ClawBoxesLaw", name := "player", desc := "(LClawBoxes;IIII[J)I" } : Jvm.MethodName) method_28_code (7 : Nat) (Option.some Jvm.ClassFile.FieldType.int) [((0 : Nat), (14 : Nat), (17 : Nat), (13 : Nat)), ((0 : Nat), (14 : Nat), (21 : Nat), (15 : Nat))]) ∈ gt := gt_c5 169 rfl rfl
theorem gw_1130 : (Jvm.Cond.methodLink "ClawBoxesLaw" (97 : Nat) ({ cls := "ClawBoxes", name := "player", desc := "(IIII)I" } : Jvm.MethodName)) ∈ gt := gt_c5 170 rfl rfl
theorem gw_1131 : (Jvm.Cond.instanceMethod ({ cls := "ClawBoxes", name := "player", desc := "(IIII)I" } : Jvm.MethodName)) ∈ gt := gt_c5 171 rfl rfl
theorem gw_1132 : (Jvm.Cond.selects "ClawBoxes" ({ cls := "ClawBoxes", name := "player", desc := "(IIII)I" } : Jvm.MethodName) ({ cls := "ClawBoxes", name := "player", desc := "(IIII)I" } : Jvm.MethodName)) ∈ gt := gt_c5 172 rfl rfl
theorem gw_1133 : (Jvm.Cond.code ({ cls := "ClawBoxes", name := "player", desc := "(IIII)I" } : Jvm.MethodName) prog_1_method_33_code (10 : Nat) (Option.some Jvm.ClassFile.FieldType.int)) ∈ gt := gt_c5 173 rfl rfl
theorem gw_1134 : (Jvm.Cond.methodLink "ClawBoxes" (297 : Nat) ({ cls := "ClawBoxes", name := "faithGiven", desc := "(I)I" } : Jvm.MethodName)) ∈ gt := gt_c5 174 rfl rfl
theorem gw_1135 : (Jvm.Cond.static ({ cls := "ClawBoxes", name := "faithGiven", desc := "(I)I" } : Jvm.MethodName)) ∈ gt := gt_c5 175 rfl rfl
theorem gw_1136 : (Jvm.Cond.code ({ cls := "ClawBoxes", name := "faithGiven", desc := "(I)I" } : Jvm.MethodName) prog_1_method_57_code (1 : Nat) (Option.some Jvm.ClassFile.FieldType.int)) ∈ gt := gt_c5 176 rfl rfl
theorem gw_1137 : (Jvm.Cond.methodLink "ClawBoxesLaw" (222 : Nat) ({ cls := "ClawBoxesLaw", name := "fair", desc := "(LClawBoxes;I[J)I" } : Jvm.MethodName)) ∈ gt := gt_c5 177 rfl rfl
theorem gw_1138 : (Jvm.Cond.static ({ cls := "ClawBoxesLaw", name := "fair", desc := "(LClawBoxes;I[J)I" } : Jvm.MethodName)) ∈ gt := gt_c5 178 rfl rfl
theorem gw_1139 : (Jvm.Cond.codeWith ({ cls := "ClawBoxesLaw", name := "fair", desc := "(LClawBoxes;I[J)I" } : Jvm.MethodName) method_29_code (4 : Nat) (Option.some Jvm.ClassFile.FieldType.int) [((0 : Nat), (9 : Nat), (12 : Nat), (15 : Nat))]) ∈ gt := gt_c5 179 rfl rfl
theorem gw_1140 : (Jvm.Cond.methodLink "ClawBoxesLaw" (100 : Nat) ({ cls := "ClawBoxes", name := "fair", desc := "(I)I" } : Jvm.MethodName)) ∈ gt := gt_c5 180 rfl rfl
theorem gw_1141 : (Jvm.Cond.instanceMethod ({ cls := "ClawBoxes", name := "fair", desc := "(I)I" } : Jvm.MethodName)) ∈ gt := gt_c5 181 rfl rfl
theorem gw_1142 : (Jvm.Cond.selects "ClawBoxes" ({ cls := "ClawBoxes", name := "fair", desc := "(I)I" } : Jvm.MethodName) ({ cls := "ClawBoxes", name := "fair", desc := "(I)I" } : Jvm.MethodName)) ∈ gt := gt_c5 182 rfl rfl
theorem gw_1143 : (Jvm.Cond.code ({ cls := "ClawBoxes", name := "fair", desc := "(I)I" } : Jvm.MethodName) prog_1_method_34_code (4 : Nat) (Option.some Jvm.ClassFile.FieldType.int)) ∈ gt := gt_c5 183 rfl rfl
theorem gw_1144 : (Jvm.Cond.methodLink "ClawBoxes" (306 : Nat) ({ cls := "ClawBoxes", name := "cellsPaying", desc := "(II)I" } : Jvm.MethodName)) ∈ gt := gt_c5 184 rfl rfl
theorem gw_1146 : (Jvm.Cond.instanceMethod ({ cls := "ClawBoxes", name := "cellsPaying", desc := "(II)I" } : Jvm.MethodName)) ∈ gt := gt_c5 186 rfl rfl
theorem gw_1147 : (Jvm.Cond.code ({ cls := "ClawBoxes", name := "cellsPaying", desc := "(II)I" } : Jvm.MethodName) prog_1_method_51_code (5 : Nat) (Option.some Jvm.ClassFile.FieldType.int)) ∈ gt := gt_c5 187 rfl rfl
theorem gw_1148 : (Jvm.Cond.classLink "ClawBoxesLaw" (104 : Nat) "ClawBoxesModel") ∈ gt := gt_c5 188 rfl rfl
theorem gw_1149 : (Jvm.Cond.instantiable "ClawBoxesModel" (57 : Nat)) ∈ gt := gt_c5 189 rfl rfl
theorem gw_1150 : (Jvm.Cond.methodLink "ClawBoxesLaw" (106 : Nat) ({ cls := "ClawBoxesModel", name := "<init>", desc := "()V" } : Jvm.MethodName)) ∈ gt := gt_c5 190 rfl rfl
theorem gw_1151 : (Jvm.Cond.instanceMethod ({ cls := "ClawBoxesModel", name := "<init>", desc := "()V" } : Jvm.MethodName)) ∈ gt := gt_c5 191 rfl rfl
theorem gw_1152 : (Jvm.Cond.code ({ cls := "ClawBoxesModel", name := "<init>", desc := "()V" } : Jvm.MethodName) prog_9_method_1_code (1 : Nat) (Option.none : Option Jvm.ClassFile.FieldType)) ∈ gt := gt_c5 192 rfl rfl
theorem gw_1153 : (Jvm.Cond.methodLink "ClawBoxesModel" (3 : Nat) ({ cls := "java/lang/Object", name := "<init>", desc := "()V" } : Jvm.MethodName)) ∈ gt := gt_c5 193 rfl rfl
theorem gw_1154 : (Jvm.Cond.classLink "ClawBoxesModel" (19 : Nat) "[[I") ∈ gt := gt_c5 194 rfl rfl
theorem gw_1156 : (Jvm.Cond.fieldLink "ClawBoxesModel" (97 : Nat) "ClawBoxesModel" "thrown" "I") ∈ gt := gt_c5 196 rfl rfl
theorem gw_1157 : (Jvm.Cond.fieldLink "ClawBoxesModel" (104 : Nat) "ClawBoxesModel" "tape" "I") ∈ gt := gt_c5 197 rfl rfl
theorem gw_1158 : (Jvm.Cond.fieldLink "ClawBoxesModel" (107 : Nat) "ClawBoxesModel" "size" "I") ∈ gt := gt_c5 198 rfl rfl
theorem gw_1159 : (Jvm.Cond.fieldLink "ClawBoxesModel" (11 : Nat) "ClawBoxesModel" "place" "I") ∈ gt := gt_c5 199 rfl rfl
theorem gw_1160 : (Jvm.Cond.fieldLink "ClawBoxesModel" (113 : Nat) "ClawBoxesModel" "at" "I") ∈ gt := gt_c5 200 rfl rfl
theorem gw_1161 : (Jvm.Cond.fieldLink "ClawBoxesModel" (145 : Nat) "ClawBoxesModel" "open" "I") ∈ gt := gt_c5 201 rfl rfl
theorem gw_1162 : (Jvm.Cond.fieldLink "ClawBoxesModel" (120 : Nat) "ClawBoxesModel" "fault" "I") ∈ gt := gt_c5 202 rfl rfl
theorem gw_1163 : (Jvm.Cond.fieldLink "ClawBoxesModel" (123 : Nat) "ClawBoxesModel" "faultAt" "I") ∈ gt := gt_c5 203 rfl rfl
theorem gw_1164 : (Jvm.Cond.fieldLink "ClawBoxesModel" (110 : Nat) "ClawBoxesModel" "which" "I") ∈ gt := gt_c5 204 rfl rfl
theorem gw_1165 : (Jvm.Cond.fieldLink "ClawBoxesModel" (191 : Nat) "ClawBoxesModel" "clauses" "I") ∈ gt := gt_c5 205 rfl rfl
theorem gw_1166 : (Jvm.Cond.fieldLink "ClawBoxesModel" (15 : Nat) "ClawBoxesModel" "fed" "[I") ∈ gt := gt_c5 206 rfl rfl
theorem gw_1167 : (Jvm.Cond.fieldLink "ClawBoxesModel" (21 : Nat) "ClawBoxesModel" "text" "[[I") ∈ gt := gt_c5 207 rfl rfl
theorem gw_1168 : (Jvm.Cond.fieldLink "ClawBoxesModel" (24 : Nat) "ClawBoxesModel" "textSize" "[I") ∈ gt := gt_c5 208 rfl rfl
theorem gw_1169 : (Jvm.Cond.fieldLink "ClawBoxesModel" (213 : Nat) "ClawBoxesModel" "programs" "I") ∈ gt := gt_c5 209 rfl rfl
theorem gw_1170 : (Jvm.Cond.fieldLink "ClawBoxesModel" (210 : Nat) "ClawBoxesModel" "laws" "I") ∈ gt := gt_c5 210 rfl rfl
theorem gw_1171 : (Jvm.Cond.fieldLink "ClawBoxesModel" (27 : Nat) "ClawBoxesModel" "inForce" "I") ∈ gt := gt_c5 211 rfl rfl
theorem gw_1172 : (Jvm.Cond.fieldLink "ClawBoxesModel" (152 : Nat) "ClawBoxesModel" "isLaw" "Z") ∈ gt := gt_c5 212 rfl rfl
theorem gw_1173 : (Jvm.Cond.fieldLink "ClawBoxesModel" (30 : Nat) "ClawBoxesModel" "names" "[I") ∈ gt := gt_c5 213 rfl rfl
theorem gw_1174 : (Jvm.Cond.fieldLink "ClawBoxesModel" (194 : Nat) "ClawBoxesModel" "grip" "I") ∈ gt := gt_c5 214 rfl rfl
theorem gw_1175 : (Jvm.Cond.fieldLink "ClawBoxesModel" (197 : Nat) "ClawBoxesModel" "slip" "I") ∈ gt := gt_c5 215 rfl rfl
theorem gw_1176 : (Jvm.Cond.fieldLink "ClawBoxesModel" (200 : Nat) "ClawBoxesModel" "lots" "I") ∈ gt := gt_c5 216 rfl rfl
theorem gw_1177 : (Jvm.Cond.fieldLink "ClawBoxesModel" (256 : Nat) "ClawBoxesModel" "things" "I") ∈ gt := gt_c5 217 rfl rfl
theorem gw_1178 : (Jvm.Cond.fieldLink "ClawBoxesModel" (33 : Nat) "ClawBoxesModel" "weight" "[I") ∈ gt := gt_c5 218 rfl rfl
theorem gw_1179 : (Jvm.Cond.fieldLink "ClawBoxesModel" (36 : Nat) "ClawBoxesModel" "lock" "[I") ∈ gt := gt_c5 219 rfl rfl
theorem gw_1180 : (Jvm.Cond.fieldLink "ClawBoxesModel" (39 : Nat) "ClawBoxesModel" "value" "[I") ∈ gt := gt_c5 220 rfl rfl
theorem gw_1181 : (Jvm.Cond.fieldLink "ClawBoxesModel" (42 : Nat) "ClawBoxesModel" "first" "[I") ∈ gt := gt_c5 221 rfl rfl
theorem gw_1182 : (Jvm.Cond.fieldLink "ClawBoxesModel" (45 : Nat) "ClawBoxesModel" "where" "[I") ∈ gt := gt_c5 222 rfl rfl
theorem gw_1183 : (Jvm.Cond.fieldLink "ClawBoxesModel" (48 : Nat) "ClawBoxesModel" "isWired" "[Z") ∈ gt := gt_c5 223 rfl rfl
theorem gw_1184 : (Jvm.Cond.fieldLink "ClawBoxesModel" (52 : Nat) "ClawBoxesModel" "heap" "[[I") ∈ gt := gt_c5 224 rfl rfl
theorem gw_1185 : (Jvm.Cond.fieldLink "ClawBoxesModel" (55 : Nat) "ClawBoxesModel" "height" "[I") ∈ gt := gt_c5 225 rfl rfl
theorem gw_1186 : (Jvm.Cond.fieldLink "ClawBoxesModel" (58 : Nat) "ClawBoxesModel" "hole" "I") ∈ gt := gt_c5 226 rfl rfl
theorem gw_1187 : (Jvm.Cond.fieldLink "ClawBoxesModel" (61 : Nat) "ClawBoxesModel" "time" "I") ∈ gt := gt_c5 227 rfl rfl
theorem gw_1188 : (Jvm.Cond.fieldLink "ClawBoxesModel" (64 : Nat) "ClawBoxesModel" "price" "I") ∈ gt := gt_c5 228 rfl rfl
theorem gw_1189 : (Jvm.Cond.fieldLink "ClawBoxesModel" (234 : Nat) "ClawBoxesModel" "hour" "I") ∈ gt := gt_c5 229 rfl rfl
theorem gw_1190 : (Jvm.Cond.fieldLink "ClawBoxesModel" (67 : Nat) "ClawBoxesModel" "seed" "I") ∈ gt := gt_c5 230 rfl rfl
theorem gw_1191 : (Jvm.Cond.fieldLink "ClawBoxesModel" (222 : Nat) "ClawBoxesModel" "tries" "I") ∈ gt := gt_c5 231 rfl rfl
theorem gw_1192 : (Jvm.Cond.fieldLink "ClawBoxesModel" (225 : Nat) "ClawBoxesModel" "since" "I") ∈ gt := gt_c5 232 rfl rfl
theorem gw_1193 : (Jvm.Cond.fieldLink "ClawBoxesModel" (228 : Nat) "ClawBoxesModel" "coins" "I") ∈ gt := gt_c5 233 rfl rfl
theorem gw_1194 : (Jvm.Cond.fieldLink "ClawBoxesModel" (231 : Nat) "ClawBoxesModel" "paid" "I") ∈ gt := gt_c5 234 rfl rfl
theorem gw_1195 : (Jvm.Cond.fieldLink "ClawBoxesModel" (70 : Nat) "ClawBoxesModel" "gripped" "[I") ∈ gt := gt_c5 235 rfl rfl
theorem gw_1196 : (Jvm.Cond.fieldLink "ClawBoxesModel" (272 : Nat) "ClawBoxesModel" "grippedMany" "I") ∈ gt := gt_c5 236 rfl rfl
theorem gw_1197 : (Jvm.Cond.fieldLink "ClawBoxesModel" (284 : Nat) "ClawBoxesModel" "outcome" "I") ∈ gt := gt_c5 237 rfl rfl
theorem gw_1198 : (Jvm.Cond.fieldLink "ClawBoxesModel" (281 : Nat) "ClawBoxesModel" "letGo" "I") ∈ gt := gt_c5 238 rfl rfl
theorem gw_1199 : (Jvm.Cond.fieldLink "ClawBoxesModel" (310 : Nat) "ClawBoxesModel" "fell" "I") ∈ gt := gt_c5 239 rfl rfl
theorem gw_1200 : (Jvm.Cond.fieldLink "ClawBoxesModel" (275 : Nat) "ClawBoxesModel" "allWeight" "I") ∈ gt := gt_c6 0 rfl rfl
theorem gw_1201 : (Jvm.Cond.fieldLink "ClawBoxesModel" (278 : Nat) "ClawBoxesModel" "rises" "I") ∈ gt := gt_c6 1 rfl rfl
theorem gw_1202 : (Jvm.Cond.fieldLink "ClawBoxesModel" (313 : Nat) "ClawBoxesModel" "rows" "I") ∈ gt := gt_c6 2 rfl rfl
theorem gw_1203 : (Jvm.Cond.fieldLink "ClawBoxesModel" (73 : Nat) "ClawBoxesModel" "record" "[[I") ∈ gt := gt_c6 3 rfl rfl
theorem gw_1204 : (Jvm.Cond.fieldLink "ClawBoxesModel" (330 : Nat) "ClawBoxesModel" "hands" "I") ∈ gt := gt_c6 4 rfl rfl
theorem gw_1205 : (Jvm.Cond.fieldLink "ClawBoxesModel" (76 : Nat) "ClawBoxesModel" "hand" "[[I") ∈ gt := gt_c6 5 rfl rfl
theorem gw_1206 : (Jvm.Cond.fieldLink "ClawBoxesModel" (79 : Nat) "ClawBoxesModel" "keptHeap" "[[I") ∈ gt := gt_c6 6 rfl rfl
theorem gw_1207 : (Jvm.Cond.fieldLink "ClawBoxesModel" (82 : Nat) "ClawBoxesModel" "keptHeight" "[[I") ∈ gt := gt_c6 7 rfl rfl
theorem gw_1208 : (Jvm.Cond.fieldLink "ClawBoxesModel" (85 : Nat) "ClawBoxesModel" "keptWhere" "[[I") ∈ gt := gt_c6 8 rfl rfl
theorem gw_1209 : (Jvm.Cond.fieldLink "ClawBoxesModel" (88 : Nat) "ClawBoxesModel" "keptCount" "[[I") ∈ gt := gt_c6 9 rfl rfl
theorem gw_1210 : (Jvm.Cond.fieldLink "ClawBoxesModel" (91 : Nat) "ClawBoxesModel" "keptThings" "[[I") ∈ gt := gt_c6 10 rfl rfl
theorem gw_1211 : (Jvm.Cond.fieldLink "ClawBoxesModel" (94 : Nat) "ClawBoxesModel" "keptRecord" "[[I") ∈ gt := gt_c6 11 rfl rfl
theorem gw_1212 : (Jvm.Cond.fieldLink "ClawBoxesModel" (365 : Nat) "ClawBoxesModel" "images" "I") ∈ gt := gt_c6 12 rfl rfl
theorem gw_1328 : (Jvm.Cond.arrayClass Jvm.ClassFile.FieldType.boolean) ∈ gt := gt_c6 128 rfl rfl
theorem gw_1329 : (Jvm.Cond.methodLink "ClawBoxesLaw" (134 : Nat) ({ cls := "ClawBoxesModel", name := "thrown", desc := "()I" } : Jvm.MethodName)) ∈ gt := gt_c6 129 rfl rfl
theorem gw_1330 : (Jvm.Cond.instanceMethod ({ cls := "ClawBoxesModel", name := "thrown", desc := "()I" } : Jvm.MethodName)) ∈ gt := gt_c6 130 rfl rfl
theorem gw_1331 : (Jvm.Cond.selects "ClawBoxesModel" ({ cls := "ClawBoxesModel", name := "thrown", desc := "()I" } : Jvm.MethodName) ({ cls := "ClawBoxesModel", name := "thrown", desc := "()I" } : Jvm.MethodName)) ∈ gt := gt_c6 131 rfl rfl
theorem gw_1332 : (Jvm.Cond.code ({ cls := "ClawBoxesModel", name := "thrown", desc := "()I" } : Jvm.MethodName) prog_9_method_2_code (1 : Nat) (Option.some Jvm.ClassFile.FieldType.int)) ∈ gt := gt_c6 132 rfl rfl
theorem gw_1333 : (Jvm.Cond.methodLink "ClawBoxesLaw" (145 : Nat) ({ cls := "ClawBoxesModel", name := "feed", desc := "(IIIII)I" } : Jvm.MethodName)) ∈ gt := gt_c6 133 rfl rfl
theorem gw_1334 : (Jvm.Cond.instanceMethod ({ cls := "ClawBoxesModel", name := "feed", desc := "(IIIII)I" } : Jvm.MethodName)) ∈ gt := gt_c6 134 rfl rfl
theorem gw_1335 : (Jvm.Cond.selects "ClawBoxesModel" ({ cls := "ClawBoxesModel", name := "feed", desc := "(IIIII)I" } : Jvm.MethodName) ({ cls := "ClawBoxesModel", name := "feed", desc := "(IIIII)I" } : Jvm.MethodName)) ∈ gt := gt_c6 135 rfl rfl
theorem gw_1336 : (Jvm.Cond.code ({ cls := "ClawBoxesModel", name := "feed", desc := "(IIIII)I" } : Jvm.MethodName) prog_9_method_7_code (8 : Nat) (Option.some Jvm.ClassFile.FieldType.int)) ∈ gt := gt_c6 136 rfl rfl
theorem gw_1337 : (Jvm.Cond.methodLink "ClawBoxesLaw" (148 : Nat) ({ cls := "ClawBoxesModel", name := "program", desc := "(IZ)I" } : Jvm.MethodName)) ∈ gt := gt_c6 137 rfl rfl
theorem gw_1338 : (Jvm.Cond.instanceMethod ({ cls := "ClawBoxesModel", name := "program", desc := "(IZ)I" } : Jvm.MethodName)) ∈ gt := gt_c6 138 rfl rfl
theorem gw_1339 : (Jvm.Cond.selects "ClawBoxesModel" ({ cls := "ClawBoxesModel", name := "program", desc := "(IZ)I" } : Jvm.MethodName) ({ cls := "ClawBoxesModel", name := "program", desc := "(IZ)I" } : Jvm.MethodName)) ∈ gt := gt_c6 139 rfl rfl
theorem gw_1340 : (Jvm.Cond.code ({ cls := "ClawBoxesModel", name := "program", desc := "(IZ)I" } : Jvm.MethodName) prog_9_method_29_code (5 : Nat) (Option.some Jvm.ClassFile.FieldType.int)) ∈ gt := gt_c6 140 rfl rfl
theorem gw_1341 : (Jvm.Cond.methodLink "ClawBoxesModel" (100 : Nat) ({ cls := "ClawBoxesModel", name := "in", desc := "(III)Z" } : Jvm.MethodName)) ∈ gt := gt_c6 141 rfl rfl
theorem gw_1342 : (Jvm.Cond.static ({ cls := "ClawBoxesModel", name := "in", desc := "(III)Z" } : Jvm.MethodName)) ∈ gt := gt_c6 142 rfl rfl
theorem gw_1343 : (Jvm.Cond.code ({ cls := "ClawBoxesModel", name := "in", desc := "(III)Z" } : Jvm.MethodName) prog_9_method_4_code (3 : Nat) (Option.some Jvm.ClassFile.FieldType.boolean)) ∈ gt := gt_c6 143 rfl rfl
theorem gw_1344 : (Jvm.Cond.methodLink "ClawBoxesModel" (206 : Nat) ({ cls := "ClawBoxesModel", name := "bad", desc := "(ZI)Z" } : Jvm.MethodName)) ∈ gt := gt_c6 144 rfl rfl
theorem gw_1346 : (Jvm.Cond.instanceMethod ({ cls := "ClawBoxesModel", name := "bad", desc := "(ZI)Z" } : Jvm.MethodName)) ∈ gt := gt_c6 146 rfl rfl
theorem gw_1347 : (Jvm.Cond.code ({ cls := "ClawBoxesModel", name := "bad", desc := "(ZI)Z" } : Jvm.MethodName) prog_9_method_3_code (3 : Nat) (Option.some Jvm.ClassFile.FieldType.boolean)) ∈ gt := gt_c6 147 rfl rfl
theorem gw_1348 : (Jvm.Cond.methodLink "ClawBoxesModel" (216 : Nat) ({ cls := "ClawBoxesModel", name := "walksLaw", desc := "()Z" } : Jvm.MethodName)) ∈ gt := gt_c6 148 rfl rfl
theorem gw_1350 : (Jvm.Cond.instanceMethod ({ cls := "ClawBoxesModel", name := "walksLaw", desc := "()Z" } : Jvm.MethodName)) ∈ gt := gt_c6 150 rfl rfl
theorem gw_1351 : (Jvm.Cond.code ({ cls := "ClawBoxesModel", name := "walksLaw", desc := "()Z" } : Jvm.MethodName) prog_9_method_28_code (2 : Nat) (Option.some Jvm.ClassFile.FieldType.boolean)) ∈ gt := gt_c6 151 rfl rfl
theorem gw_1352 : (Jvm.Cond.methodLink "ClawBoxesModel" (185 : Nat) ({ cls := "ClawBoxesModel", name := "ors", desc := "()Z" } : Jvm.MethodName)) ∈ gt := gt_c6 152 rfl rfl
theorem gw_1354 : (Jvm.Cond.instanceMethod ({ cls := "ClawBoxesModel", name := "ors", desc := "()Z" } : Jvm.MethodName)) ∈ gt := gt_c6 154 rfl rfl
theorem gw_1355 : (Jvm.Cond.code ({ cls := "ClawBoxesModel", name := "ors", desc := "()Z" } : Jvm.MethodName) prog_9_method_25_code (3 : Nat) (Option.some Jvm.ClassFile.FieldType.boolean)) ∈ gt := gt_c6 155 rfl rfl
theorem gw_1356 : (Jvm.Cond.methodLink "ClawBoxesModel" (188 : Nat) ({ cls := "ClawBoxesModel", name := "ands", desc := "()Z" } : Jvm.MethodName)) ∈ gt := gt_c6 156 rfl rfl
theorem gw_1358 : (Jvm.Cond.instanceMethod ({ cls := "ClawBoxesModel", name := "ands", desc := "()Z" } : Jvm.MethodName)) ∈ gt := gt_c6 158 rfl rfl
theorem gw_1359 : (Jvm.Cond.code ({ cls := "ClawBoxesModel", name := "ands", desc := "()Z" } : Jvm.MethodName) prog_9_method_24_code (3 : Nat) (Option.some Jvm.ClassFile.FieldType.boolean)) ∈ gt := gt_c6 159 rfl rfl
theorem gw_1360 : (Jvm.Cond.methodLink "ClawBoxesModel" (181 : Nat) ({ cls := "ClawBoxesModel", name := "test", desc := "()Z" } : Jvm.MethodName)) ∈ gt := gt_c6 160 rfl rfl
theorem gw_1362 : (Jvm.Cond.instanceMethod ({ cls := "ClawBoxesModel", name := "test", desc := "()Z" } : Jvm.MethodName)) ∈ gt := gt_c6 162 rfl rfl
theorem gw_1363 : (Jvm.Cond.code ({ cls := "ClawBoxesModel", name := "test", desc := "()Z" } : Jvm.MethodName) prog_9_method_23_code (4 : Nat) (Option.some Jvm.ClassFile.FieldType.boolean)) ∈ gt := gt_c6 163 rfl rfl
theorem gw_1364 : (Jvm.Cond.methodLink "ClawBoxesModel" (148 : Nat) ({ cls := "ClawBoxesModel", name := "isWord", desc := "(IIIII)Z" } : Jvm.MethodName)) ∈ gt := gt_c6 164 rfl rfl
theorem gw_1366 : (Jvm.Cond.instanceMethod ({ cls := "ClawBoxesModel", name := "isWord", desc := "(IIIII)Z" } : Jvm.MethodName)) ∈ gt := gt_c6 166 rfl rfl
theorem gw_1367 : (Jvm.Cond.code ({ cls := "ClawBoxesModel", name := "isWord", desc := "(IIIII)Z" } : Jvm.MethodName) prog_9_method_15_code (6 : Nat) (Option.some Jvm.ClassFile.FieldType.boolean)) ∈ gt := gt_c6 167 rfl rfl
theorem gw_1368 : (Jvm.Cond.methodLink "ClawBoxesModel" (137 : Nat) ({ cls := "ClawBoxesModel", name := "wordHere", desc := "()I" } : Jvm.MethodName)) ∈ gt := gt_c6 168 rfl rfl
theorem gw_1370 : (Jvm.Cond.instanceMethod ({ cls := "ClawBoxesModel", name := "wordHere", desc := "()I" } : Jvm.MethodName)) ∈ gt := gt_c6 170 rfl rfl
theorem gw_1371 : (Jvm.Cond.code ({ cls := "ClawBoxesModel", name := "wordHere", desc := "()I" } : Jvm.MethodName) prog_9_method_13_code (3 : Nat) (Option.some Jvm.ClassFile.FieldType.int)) ∈ gt := gt_c6 171 rfl rfl
theorem gw_1372 : (Jvm.Cond.methodLink "ClawBoxesModel" (134 : Nat) ({ cls := "ClawBoxesModel", name := "blanks", desc := "()V" } : Jvm.MethodName)) ∈ gt := gt_c6 172 rfl rfl
theorem gw_1374 : (Jvm.Cond.instanceMethod ({ cls := "ClawBoxesModel", name := "blanks", desc := "()V" } : Jvm.MethodName)) ∈ gt := gt_c6 174 rfl rfl
theorem gw_1375 : (Jvm.Cond.code ({ cls := "ClawBoxesModel", name := "blanks", desc := "()V" } : Jvm.MethodName) prog_9_method_9_code (1 : Nat) (Option.none : Option Jvm.ClassFile.FieldType)) ∈ gt := gt_c6 175 rfl rfl
theorem gw_1376 : (Jvm.Cond.methodLink "ClawBoxesModel" (116 : Nat) ({ cls := "ClawBoxesModel", name := "byteAt", desc := "(I)I" } : Jvm.MethodName)) ∈ gt := gt_c6 176 rfl rfl
theorem gw_1378 : (Jvm.Cond.instanceMethod ({ cls := "ClawBoxesModel", name := "byteAt", desc := "(I)I" } : Jvm.MethodName)) ∈ gt := gt_c6 178 rfl rfl
theorem gw_1379 : (Jvm.Cond.code ({ cls := "ClawBoxesModel", name := "byteAt", desc := "(I)I" } : Jvm.MethodName) prog_9_method_8_code (2 : Nat) (Option.some Jvm.ClassFile.FieldType.int)) ∈ gt := gt_c6 179 rfl rfl
theorem gw_1380 : (Jvm.Cond.methodLink "ClawBoxesModel" (141 : Nat) ({ cls := "ClawBoxesModel", name := "word", desc := "(IIIII)I" } : Jvm.MethodName)) ∈ gt := gt_c6 180 rfl rfl
theorem gw_1381 : (Jvm.Cond.static ({ cls := "ClawBoxesModel", name := "word", desc := "(IIIII)I" } : Jvm.MethodName)) ∈ gt := gt_c6 181 rfl rfl
theorem gw_1382 : (Jvm.Cond.code ({ cls := "ClawBoxesModel", name := "word", desc := "(IIIII)I" } : Jvm.MethodName) prog_9_method_14_code (6 : Nat) (Option.some Jvm.ClassFile.FieldType.int)) ∈ gt := gt_c6 182 rfl rfl
theorem gw_1383 : (Jvm.Cond.methodLink "ClawBoxesModel" (165 : Nat) ({ cls := "ClawBoxesModel", name := "opens", desc := "(I)V" } : Jvm.MethodName)) ∈ gt := gt_c6 183 rfl rfl
theorem gw_1385 : (Jvm.Cond.instanceMethod ({ cls := "ClawBoxesModel", name := "opens", desc := "(I)V" } : Jvm.MethodName)) ∈ gt := gt_c6 185 rfl rfl
theorem gw_1386 : (Jvm.Cond.code ({ cls := "ClawBoxesModel", name := "opens", desc := "(I)V" } : Jvm.MethodName) prog_9_method_18_code (2 : Nat) (Option.none : Option Jvm.ClassFile.FieldType)) ∈ gt := gt_c6 186 rfl rfl
theorem gw_1387 : (Jvm.Cond.methodLink "ClawBoxesModel" (130 : Nat) ({ cls := "ClawBoxesModel", name := "wrong", desc := "(II)V" } : Jvm.MethodName)) ∈ gt := gt_c6 187 rfl rfl
theorem gw_1389 : (Jvm.Cond.instanceMethod ({ cls := "ClawBoxesModel", name := "wrong", desc := "(II)V" } : Jvm.MethodName)) ∈ gt := gt_c6 189 rfl rfl
theorem gw_1390 : (Jvm.Cond.code ({ cls := "ClawBoxesModel", name := "wrong", desc := "(II)V" } : Jvm.MethodName) prog_9_method_10_code (3 : Nat) (Option.none : Option Jvm.ClassFile.FieldType)) ∈ gt := gt_c6 190 rfl rfl
theorem gw_1391 : (Jvm.Cond.methodLink "ClawBoxesModel" (172 : Nat) ({ cls := "ClawBoxesModel", name := "sign", desc := "(I)V" } : Jvm.MethodName)) ∈ gt := gt_c6 191 rfl rfl
theorem gw_1393 : (Jvm.Cond.instanceMethod ({ cls := "ClawBoxesModel", name := "sign", desc := "(I)V" } : Jvm.MethodName)) ∈ gt := gt_c6 193 rfl rfl
theorem gw_1394 : (Jvm.Cond.code ({ cls := "ClawBoxesModel", name := "sign", desc := "(I)V" } : Jvm.MethodName) prog_9_method_17_code (2 : Nat) (Option.none : Option Jvm.ClassFile.FieldType)) ∈ gt := gt_c6 194 rfl rfl
theorem gw_1395 : (Jvm.Cond.methodLink "ClawBoxesModel" (169 : Nat) ({ cls := "ClawBoxesModel", name := "sum", desc := "()I" } : Jvm.MethodName)) ∈ gt := gt_c6 195 rfl rfl
theorem gw_1397 : (Jvm.Cond.instanceMethod ({ cls := "ClawBoxesModel", name := "sum", desc := "()I" } : Jvm.MethodName)) ∈ gt := gt_c6 197 rfl rfl
theorem gw_1398 : (Jvm.Cond.code ({ cls := "ClawBoxesModel", name := "sum", desc := "()I" } : Jvm.MethodName) prog_9_method_22_code (4 : Nat) (Option.some Jvm.ClassFile.FieldType.int)) ∈ gt := gt_c6 198 rfl rfl
theorem gw_1399 : (Jvm.Cond.methodLink "ClawBoxesModel" (178 : Nat) ({ cls := "ClawBoxesModel", name := "product", desc := "()I" } : Jvm.MethodName)) ∈ gt := gt_c6 199 rfl rfl
theorem gw_1401 : (Jvm.Cond.instanceMethod ({ cls := "ClawBoxesModel", name := "product", desc := "()I" } : Jvm.MethodName)) ∈ gt := gt_c6 201 rfl rfl
theorem gw_1402 : (Jvm.Cond.code ({ cls := "ClawBoxesModel", name := "product", desc := "()I" } : Jvm.MethodName) prog_9_method_21_code (4 : Nat) (Option.some Jvm.ClassFile.FieldType.int)) ∈ gt := gt_c6 202 rfl rfl
theorem gw_1403 : (Jvm.Cond.methodLink "ClawBoxesModel" (175 : Nat) ({ cls := "ClawBoxesModel", name := "unit", desc := "()I" } : Jvm.MethodName)) ∈ gt := gt_c6 203 rfl rfl
theorem gw_1405 : (Jvm.Cond.instanceMethod ({ cls := "ClawBoxesModel", name := "unit", desc := "()I" } : Jvm.MethodName)) ∈ gt := gt_c6 205 rfl rfl
theorem gw_1406 : (Jvm.Cond.code ({ cls := "ClawBoxesModel", name := "unit", desc := "()I" } : Jvm.MethodName) prog_9_method_20_code (6 : Nat) (Option.some Jvm.ClassFile.FieldType.int)) ∈ gt := gt_c6 206 rfl rfl
theorem gw_1407 : (Jvm.Cond.methodLink "ClawBoxesModel" (126 : Nat) ({ cls := "ClawBoxesModel", name := "isDigit", desc := "(I)Z" } : Jvm.MethodName)) ∈ gt := gt_c6 207 rfl rfl
theorem gw_1408 : (Jvm.Cond.static ({ cls := "ClawBoxesModel", name := "isDigit", desc := "(I)Z" } : Jvm.MethodName)) ∈ gt := gt_c6 208 rfl rfl
theorem gw_1409 : (Jvm.Cond.code ({ cls := "ClawBoxesModel", name := "isDigit", desc := "(I)Z" } : Jvm.MethodName) prog_9_method_11_code (1 : Nat) (Option.some Jvm.ClassFile.FieldType.boolean)) ∈ gt := gt_c6 209 rfl rfl
theorem gw_1410 : (Jvm.Cond.methodLink "ClawBoxesModel" (156 : Nat) ({ cls := "ClawBoxesModel", name := "number", desc := "()I" } : Jvm.MethodName)) ∈ gt := gt_c6 210 rfl rfl
theorem gw_1412 : (Jvm.Cond.instanceMethod ({ cls := "ClawBoxesModel", name := "number", desc := "()I" } : Jvm.MethodName)) ∈ gt := gt_c6 212 rfl rfl
theorem gw_1413 : (Jvm.Cond.code ({ cls := "ClawBoxesModel", name := "number", desc := "()I" } : Jvm.MethodName) prog_9_method_12_code (3 : Nat) (Option.some Jvm.ClassFile.FieldType.int)) ∈ gt := gt_c6 213 rfl rfl
theorem gw_1414 : (Jvm.Cond.methodLink "ClawBoxesModel" (159 : Nat) ({ cls := "ClawBoxesModel", name := "nameHere", desc := "()I" } : Jvm.MethodName)) ∈ gt := gt_c6 214 rfl rfl
theorem gw_1416 : (Jvm.Cond.instanceMethod ({ cls := "ClawBoxesModel", name := "nameHere", desc := "()I" } : Jvm.MethodName)) ∈ gt := gt_c6 216 rfl rfl
theorem gw_1417 : (Jvm.Cond.code ({ cls := "ClawBoxesModel", name := "nameHere", desc := "()I" } : Jvm.MethodName) prog_9_method_19_code (1 : Nat) (Option.some Jvm.ClassFile.FieldType.int)) ∈ gt := gt_c6 217 rfl rfl
theorem gw_1418 : (Jvm.Cond.methodLink "ClawBoxesModel" (162 : Nat) ({ cls := "ClawBoxesModel", name := "skipWord", desc := "()V" } : Jvm.MethodName)) ∈ gt := gt_c6 218 rfl rfl
theorem gw_1420 : (Jvm.Cond.instanceMethod ({ cls := "ClawBoxesModel", name := "skipWord", desc := "()V" } : Jvm.MethodName)) ∈ gt := gt_c6 220 rfl rfl
theorem gw_1421 : (Jvm.Cond.code ({ cls := "ClawBoxesModel", name := "skipWord", desc := "()V" } : Jvm.MethodName) prog_9_method_16_code (1 : Nat) (Option.none : Option Jvm.ClassFile.FieldType)) ∈ gt := gt_c6 221 rfl rfl
theorem gw_1422 : (Jvm.Cond.methodLink "ClawBoxesModel" (219 : Nat) ({ cls := "ClawBoxesModel", name := "walks", desc := "()V" } : Jvm.MethodName)) ∈ gt := gt_c6 222 rfl rfl
theorem gw_1424 : (Jvm.Cond.instanceMethod ({ cls := "ClawBoxesModel", name := "walks", desc := "()V" } : Jvm.MethodName)) ∈ gt := gt_c6 224 rfl rfl
theorem gw_1425 : (Jvm.Cond.code ({ cls := "ClawBoxesModel", name := "walks", desc := "()V" } : Jvm.MethodName) prog_9_method_27_code (1 : Nat) (Option.none : Option Jvm.ClassFile.FieldType)) ∈ gt := gt_c6 225 rfl rfl
theorem gw_1426 : (Jvm.Cond.methodLink "ClawBoxesModel" (203 : Nat) ({ cls := "ClawBoxesModel", name := "clause", desc := "()V" } : Jvm.MethodName)) ∈ gt := gt_c6 226 rfl rfl
theorem gw_1428 : (Jvm.Cond.instanceMethod ({ cls := "ClawBoxesModel", name := "clause", desc := "()V" } : Jvm.MethodName)) ∈ gt := gt_c6 228 rfl rfl
theorem gw_1429 : (Jvm.Cond.code ({ cls := "ClawBoxesModel", name := "clause", desc := "()V" } : Jvm.MethodName) prog_9_method_26_code (6 : Nat) (Option.none : Option Jvm.ClassFile.FieldType)) ∈ gt := gt_c6 229 rfl rfl
theorem gw_1430 : (Jvm.Cond.methodLink "ClawBoxesLaw" (152 : Nat) ({ cls := "ClawBoxesModel", name := "fault", desc := "()I" } : Jvm.MethodName)) ∈ gt := gt_c6 230 rfl rfl
theorem gw_1431 : (Jvm.Cond.instanceMethod ({ cls := "ClawBoxesModel", name := "fault", desc := "()I" } : Jvm.MethodName)) ∈ gt := gt_c6 231 rfl rfl
theorem gw_1432 : (Jvm.Cond.selects "ClawBoxesModel" ({ cls := "ClawBoxesModel", name := "fault", desc := "()I" } : Jvm.MethodName) ({ cls := "ClawBoxesModel", name := "fault", desc := "()I" } : Jvm.MethodName)) ∈ gt := gt_c6 232 rfl rfl
theorem gw_1433 : (Jvm.Cond.code ({ cls := "ClawBoxesModel", name := "fault", desc := "()I" } : Jvm.MethodName) prog_9_method_30_code (1 : Nat) (Option.some Jvm.ClassFile.FieldType.int)) ∈ gt := gt_c6 233 rfl rfl
theorem gw_1434 : (Jvm.Cond.methodLink "ClawBoxesLaw" (155 : Nat) ({ cls := "ClawBoxesModel", name := "force", desc := "(I)I" } : Jvm.MethodName)) ∈ gt := gt_c6 234 rfl rfl
theorem gw_1435 : (Jvm.Cond.instanceMethod ({ cls := "ClawBoxesModel", name := "force", desc := "(I)I" } : Jvm.MethodName)) ∈ gt := gt_c6 235 rfl rfl
theorem gw_1436 : (Jvm.Cond.selects "ClawBoxesModel" ({ cls := "ClawBoxesModel", name := "force", desc := "(I)I" } : Jvm.MethodName) ({ cls := "ClawBoxesModel", name := "force", desc := "(I)I" } : Jvm.MethodName)) ∈ gt := gt_c6 236 rfl rfl
theorem gw_1437 : (Jvm.Cond.code ({ cls := "ClawBoxesModel", name := "force", desc := "(I)I" } : Jvm.MethodName) prog_9_method_36_code (3 : Nat) (Option.some Jvm.ClassFile.FieldType.int)) ∈ gt := gt_c6 237 rfl rfl
theorem gw_1438 : (Jvm.Cond.methodLink "ClawBoxesLaw" (158 : Nat) ({ cls := "ClawBoxesModel", name := "tells", desc := "(II)I" } : Jvm.MethodName)) ∈ gt := gt_c6 238 rfl rfl
theorem gw_1439 : (Jvm.Cond.instanceMethod ({ cls := "ClawBoxesModel", name := "tells", desc := "(II)I" } : Jvm.MethodName)) ∈ gt := gt_c6 239 rfl rfl
theorem gw_1440 : (Jvm.Cond.selects "ClawBoxesModel" ({ cls := "ClawBoxesModel", name := "tells", desc := "(II)I" } : Jvm.MethodName) ({ cls := "ClawBoxesModel", name := "tells", desc := "(II)I" } : Jvm.MethodName)) ∈ gt := gt_c7 0 rfl rfl
theorem gw_1441 : (Jvm.Cond.code ({ cls := "ClawBoxesModel", name := "tells", desc := "(II)I" } : Jvm.MethodName) prog_9_method_37_code (3 : Nat) (Option.some Jvm.ClassFile.FieldType.int)) ∈ gt := gt_c7 1 rfl rfl
theorem gw_1442 : (Jvm.Cond.methodLink "ClawBoxesModel" (247 : Nat) ({ cls := "ClawBoxesModel", name := "namesOf", desc := "(I)V" } : Jvm.MethodName)) ∈ gt := gt_c7 2 rfl rfl
theorem gw_1444 : (Jvm.Cond.instanceMethod ({ cls := "ClawBoxesModel", name := "namesOf", desc := "(I)V" } : Jvm.MethodName)) ∈ gt := gt_c7 4 rfl rfl
theorem gw_1445 : (Jvm.Cond.code ({ cls := "ClawBoxesModel", name := "namesOf", desc := "(I)V" } : Jvm.MethodName) prog_9_method_32_code (2 : Nat) (Option.none : Option Jvm.ClassFile.FieldType)) ∈ gt := gt_c7 5 rfl rfl
theorem gw_1446 : (Jvm.Cond.methodLink "ClawBoxesModel" (250 : Nat) ({ cls := "ClawBoxesModel", name := "lotsBy", desc := "(I)I" } : Jvm.MethodName)) ∈ gt := gt_c7 6 rfl rfl
theorem gw_1448 : (Jvm.Cond.instanceMethod ({ cls := "ClawBoxesModel", name := "lotsBy", desc := "(I)I" } : Jvm.MethodName)) ∈ gt := gt_c7 8 rfl rfl
theorem gw_1449 : (Jvm.Cond.code ({ cls := "ClawBoxesModel", name := "lotsBy", desc := "(I)I" } : Jvm.MethodName) prog_9_method_35_code (2 : Nat) (Option.some Jvm.ClassFile.FieldType.int)) ∈ gt := gt_c7 9 rfl rfl
theorem gw_1450 : (Jvm.Cond.methodLink "ClawBoxesModel" (244 : Nat) ({ cls := "ClawBoxesModel", name := "tellsBy", desc := "(II)V" } : Jvm.MethodName)) ∈ gt := gt_c7 10 rfl rfl
theorem gw_1452 : (Jvm.Cond.instanceMethod ({ cls := "ClawBoxesModel", name := "tellsBy", desc := "(II)V" } : Jvm.MethodName)) ∈ gt := gt_c7 12 rfl rfl
theorem gw_1453 : (Jvm.Cond.code ({ cls := "ClawBoxesModel", name := "tellsBy", desc := "(II)V" } : Jvm.MethodName) prog_9_method_34_code (3 : Nat) (Option.none : Option Jvm.ClassFile.FieldType)) ∈ gt := gt_c7 13 rfl rfl
theorem gw_1454 : (Jvm.Cond.methodLink "ClawBoxesModel" (237 : Nat) ({ cls := "ClawBoxesModel", name := "reads", desc := "(I)V" } : Jvm.MethodName)) ∈ gt := gt_c7 14 rfl rfl
theorem gw_1456 : (Jvm.Cond.instanceMethod ({ cls := "ClawBoxesModel", name := "reads", desc := "(I)V" } : Jvm.MethodName)) ∈ gt := gt_c7 16 rfl rfl
theorem gw_1457 : (Jvm.Cond.code ({ cls := "ClawBoxesModel", name := "reads", desc := "(I)V" } : Jvm.MethodName) prog_9_method_31_code (2 : Nat) (Option.none : Option Jvm.ClassFile.FieldType)) ∈ gt := gt_c7 17 rfl rfl
theorem gw_1458 : (Jvm.Cond.methodLink "ClawBoxesModel" (240 : Nat) ({ cls := "ClawBoxesModel", name := "within", desc := "(III)I" } : Jvm.MethodName)) ∈ gt := gt_c7 18 rfl rfl
theorem gw_1459 : (Jvm.Cond.static ({ cls := "ClawBoxesModel", name := "within", desc := "(III)I" } : Jvm.MethodName)) ∈ gt := gt_c7 19 rfl rfl
theorem gw_1460 : (Jvm.Cond.code ({ cls := "ClawBoxesModel", name := "within", desc := "(III)I" } : Jvm.MethodName) prog_9_method_33_code (3 : Nat) (Option.some Jvm.ClassFile.FieldType.int)) ∈ gt := gt_c7 20 rfl rfl
theorem gw_1461 : (Jvm.Cond.methodLink "ClawBoxesLaw" (112 : Nat) ({ cls := "ClawBoxesModel", name := "lay", desc := "(IIII)I" } : Jvm.MethodName)) ∈ gt := gt_c7 21 rfl rfl
theorem gw_1462 : (Jvm.Cond.instanceMethod ({ cls := "ClawBoxesModel", name := "lay", desc := "(IIII)I" } : Jvm.MethodName)) ∈ gt := gt_c7 22 rfl rfl
theorem gw_1463 : (Jvm.Cond.selects "ClawBoxesModel" ({ cls := "ClawBoxesModel", name := "lay", desc := "(IIII)I" } : Jvm.MethodName) ({ cls := "ClawBoxesModel", name := "lay", desc := "(IIII)I" } : Jvm.MethodName)) ∈ gt := gt_c7 23 rfl rfl
theorem gw_1464 : (Jvm.Cond.code ({ cls := "ClawBoxesModel", name := "lay", desc := "(IIII)I" } : Jvm.MethodName) prog_9_method_38_code (5 : Nat) (Option.some Jvm.ClassFile.FieldType.int)) ∈ gt := gt_c7 24 rfl rfl
theorem gw_1465 : (Jvm.Cond.methodLink "ClawBoxesModel" (253 : Nat) ({ cls := "ClawBoxesModel", name := "isCell", desc := "(I)Z" } : Jvm.MethodName)) ∈ gt := gt_c7 25 rfl rfl
theorem gw_1466 : (Jvm.Cond.static ({ cls := "ClawBoxesModel", name := "isCell", desc := "(I)Z" } : Jvm.MethodName)) ∈ gt := gt_c7 26 rfl rfl
theorem gw_1467 : (Jvm.Cond.code ({ cls := "ClawBoxesModel", name := "isCell", desc := "(I)Z" } : Jvm.MethodName) prog_9_method_5_code (1 : Nat) (Option.some Jvm.ClassFile.FieldType.boolean)) ∈ gt := gt_c7 27 rfl rfl
theorem gw_1468 : (Jvm.Cond.methodLink "ClawBoxesModel" (259 : Nat) ({ cls := "ClawBoxesModel", name := "puts", desc := "(II)V" } : Jvm.MethodName)) ∈ gt := gt_c7 28 rfl rfl
theorem gw_1470 : (Jvm.Cond.instanceMethod ({ cls := "ClawBoxesModel", name := "puts", desc := "(II)V" } : Jvm.MethodName)) ∈ gt := gt_c7 30 rfl rfl
theorem gw_1471 : (Jvm.Cond.code ({ cls := "ClawBoxesModel", name := "puts", desc := "(II)V" } : Jvm.MethodName) prog_9_method_39_code (3 : Nat) (Option.none : Option Jvm.ClassFile.FieldType)) ∈ gt := gt_c7 31 rfl rfl
theorem gw_1472 : (Jvm.Cond.methodLink "ClawBoxesLaw" (116 : Nat) ({ cls := "ClawBoxesModel", name := "wire", desc := "(IZ)Z" } : Jvm.MethodName)) ∈ gt := gt_c7 32 rfl rfl
theorem gw_1473 : (Jvm.Cond.instanceMethod ({ cls := "ClawBoxesModel", name := "wire", desc := "(IZ)Z" } : Jvm.MethodName)) ∈ gt := gt_c7 33 rfl rfl
theorem gw_1474 : (Jvm.Cond.selects "ClawBoxesModel" ({ cls := "ClawBoxesModel", name := "wire", desc := "(IZ)Z" } : Jvm.MethodName) ({ cls := "ClawBoxesModel", name := "wire", desc := "(IZ)Z" } : Jvm.MethodName)) ∈ gt := gt_c7 34 rfl rfl
theorem gw_1475 : (Jvm.Cond.code ({ cls := "ClawBoxesModel", name := "wire", desc := "(IZ)Z" } : Jvm.MethodName) prog_9_method_42_code (4 : Nat) (Option.some Jvm.ClassFile.FieldType.boolean)) ∈ gt := gt_c7 35 rfl rfl
theorem gw_1476 : (Jvm.Cond.methodLink "ClawBoxesLaw" (120 : Nat) ({ cls := "ClawBoxesModel", name := "key", desc := "(I)I" } : Jvm.MethodName)) ∈ gt := gt_c7 36 rfl rfl
theorem gw_1477 : (Jvm.Cond.instanceMethod ({ cls := "ClawBoxesModel", name := "key", desc := "(I)I" } : Jvm.MethodName)) ∈ gt := gt_c7 37 rfl rfl
theorem gw_1478 : (Jvm.Cond.selects "ClawBoxesModel" ({ cls := "ClawBoxesModel", name := "key", desc := "(I)I" } : Jvm.MethodName) ({ cls := "ClawBoxesModel", name := "key", desc := "(I)I" } : Jvm.MethodName)) ∈ gt := gt_c7 38 rfl rfl
theorem gw_1479 : (Jvm.Cond.code ({ cls := "ClawBoxesModel", name := "key", desc := "(I)I" } : Jvm.MethodName) prog_9_method_43_code (2 : Nat) (Option.some Jvm.ClassFile.FieldType.int)) ∈ gt := gt_c7 39 rfl rfl
theorem gw_1480 : (Jvm.Cond.methodLink "ClawBoxesModel" (265 : Nat) ({ cls := "ClawBoxesModel", name := "goes", desc := "(II)V" } : Jvm.MethodName)) ∈ gt := gt_c7 40 rfl rfl
theorem gw_1482 : (Jvm.Cond.instanceMethod ({ cls := "ClawBoxesModel", name := "goes", desc := "(II)V" } : Jvm.MethodName)) ∈ gt := gt_c7 42 rfl rfl
theorem gw_1483 : (Jvm.Cond.code ({ cls := "ClawBoxesModel", name := "goes", desc := "(II)V" } : Jvm.MethodName) prog_9_method_41_code (5 : Nat) (Option.none : Option Jvm.ClassFile.FieldType)) ∈ gt := gt_c7 43 rfl rfl
theorem gw_1484 : (Jvm.Cond.methodLink "ClawBoxesModel" (262 : Nat) ({ cls := "ClawBoxesModel", name := "levelOf", desc := "(I)I" } : Jvm.MethodName)) ∈ gt := gt_c7 44 rfl rfl
theorem gw_1486 : (Jvm.Cond.instanceMethod ({ cls := "ClawBoxesModel", name := "levelOf", desc := "(I)I" } : Jvm.MethodName)) ∈ gt := gt_c7 46 rfl rfl
theorem gw_1487 : (Jvm.Cond.code ({ cls := "ClawBoxesModel", name := "levelOf", desc := "(I)I" } : Jvm.MethodName) prog_9_method_40_code (3 : Nat) (Option.some Jvm.ClassFile.FieldType.int)) ∈ gt := gt_c7 47 rfl rfl
theorem gw_1488 : (Jvm.Cond.methodLink "ClawBoxesLaw" (124 : Nat) ({ cls := "ClawBoxesModel", name := "thing", desc := "(II)I" } : Jvm.MethodName)) ∈ gt := gt_c7 48 rfl rfl
theorem gw_1489 : (Jvm.Cond.instanceMethod ({ cls := "ClawBoxesModel", name := "thing", desc := "(II)I" } : Jvm.MethodName)) ∈ gt := gt_c7 49 rfl rfl
theorem gw_1490 : (Jvm.Cond.selects "ClawBoxesModel" ({ cls := "ClawBoxesModel", name := "thing", desc := "(II)I" } : Jvm.MethodName) ({ cls := "ClawBoxesModel", name := "thing", desc := "(II)I" } : Jvm.MethodName)) ∈ gt := gt_c7 50 rfl rfl
theorem gw_1491 : (Jvm.Cond.code ({ cls := "ClawBoxesModel", name := "thing", desc := "(II)I" } : Jvm.MethodName) prog_9_method_44_code (3 : Nat) (Option.some Jvm.ClassFile.FieldType.int)) ∈ gt := gt_c7 51 rfl rfl
theorem gw_1492 : (Jvm.Cond.methodLink "ClawBoxesLaw" (127 : Nat) ({ cls := "ClawBoxesModel", name := "top", desc := "(IZ)I" } : Jvm.MethodName)) ∈ gt := gt_c7 52 rfl rfl
theorem gw_1493 : (Jvm.Cond.instanceMethod ({ cls := "ClawBoxesModel", name := "top", desc := "(IZ)I" } : Jvm.MethodName)) ∈ gt := gt_c7 53 rfl rfl
theorem gw_1494 : (Jvm.Cond.selects "ClawBoxesModel" ({ cls := "ClawBoxesModel", name := "top", desc := "(IZ)I" } : Jvm.MethodName) ({ cls := "ClawBoxesModel", name := "top", desc := "(IZ)I" } : Jvm.MethodName)) ∈ gt := gt_c7 54 rfl rfl
theorem gw_1495 : (Jvm.Cond.code ({ cls := "ClawBoxesModel", name := "top", desc := "(IZ)I" } : Jvm.MethodName) prog_9_method_46_code (3 : Nat) (Option.some Jvm.ClassFile.FieldType.int)) ∈ gt := gt_c7 55 rfl rfl
theorem gw_1496 : (Jvm.Cond.methodLink "ClawBoxesModel" (268 : Nat) ({ cls := "ClawBoxesModel", name := "topOf", desc := "(I)I" } : Jvm.MethodName)) ∈ gt := gt_c7 56 rfl rfl
theorem gw_1498 : (Jvm.Cond.instanceMethod ({ cls := "ClawBoxesModel", name := "topOf", desc := "(I)I" } : Jvm.MethodName)) ∈ gt := gt_c7 58 rfl rfl
theorem gw_1499 : (Jvm.Cond.code ({ cls := "ClawBoxesModel", name := "topOf", desc := "(I)I" } : Jvm.MethodName) prog_9_method_45_code (2 : Nat) (Option.some Jvm.ClassFile.FieldType.int)) ∈ gt := gt_c7 59 rfl rfl
theorem gw_1500 : (Jvm.Cond.methodLink "ClawBoxesLaw" (130 : Nat) ({ cls := "ClawBoxesModel", name := "hole", desc := "(I)I" } : Jvm.MethodName)) ∈ gt := gt_c7 60 rfl rfl
theorem gw_1501 : (Jvm.Cond.instanceMethod ({ cls := "ClawBoxesModel", name := "hole", desc := "(I)I" } : Jvm.MethodName)) ∈ gt := gt_c7 61 rfl rfl
theorem gw_1502 : (Jvm.Cond.selects "ClawBoxesModel" ({ cls := "ClawBoxesModel", name := "hole", desc := "(I)I" } : Jvm.MethodName) ({ cls := "ClawBoxesModel", name := "hole", desc := "(I)I" } : Jvm.MethodName)) ∈ gt := gt_c7 62 rfl rfl
theorem gw_1503 : (Jvm.Cond.code ({ cls := "ClawBoxesModel", name := "hole", desc := "(I)I" } : Jvm.MethodName) prog_9_method_47_code (3 : Nat) (Option.some Jvm.ClassFile.FieldType.int)) ∈ gt := gt_c7 63 rfl rfl
theorem gw_1504 : (Jvm.Cond.methodLink "ClawBoxesLaw" (133 : Nat) ({ cls := "ClawBoxesModel", name := "set", desc := "(II)I" } : Jvm.MethodName)) ∈ gt := gt_c7 64 rfl rfl
theorem gw_1505 : (Jvm.Cond.instanceMethod ({ cls := "ClawBoxesModel", name := "set", desc := "(II)I" } : Jvm.MethodName)) ∈ gt := gt_c7 65 rfl rfl
theorem gw_1506 : (Jvm.Cond.selects "ClawBoxesModel" ({ cls := "ClawBoxesModel", name := "set", desc := "(II)I" } : Jvm.MethodName) ({ cls := "ClawBoxesModel", name := "set", desc := "(II)I" } : Jvm.MethodName)) ∈ gt := gt_c7 66 rfl rfl
theorem gw_1507 : (Jvm.Cond.code ({ cls := "ClawBoxesModel", name := "set", desc := "(II)I" } : Jvm.MethodName) prog_9_method_48_code (4 : Nat) (Option.some Jvm.ClassFile.FieldType.int)) ∈ gt := gt_c7 67 rfl rfl
theorem gw_1508 : (Jvm.Cond.methodLink "ClawBoxesLaw" (141 : Nat) ({ cls := "ClawBoxesModel", name := "seed", desc := "(I)I" } : Jvm.MethodName)) ∈ gt := gt_c7 68 rfl rfl
theorem gw_1509 : (Jvm.Cond.instanceMethod ({ cls := "ClawBoxesModel", name := "seed", desc := "(I)I" } : Jvm.MethodName)) ∈ gt := gt_c7 69 rfl rfl
theorem gw_1510 : (Jvm.Cond.selects "ClawBoxesModel" ({ cls := "ClawBoxesModel", name := "seed", desc := "(I)I" } : Jvm.MethodName) ({ cls := "ClawBoxesModel", name := "seed", desc := "(I)I" } : Jvm.MethodName)) ∈ gt := gt_c7 70 rfl rfl
theorem gw_1511 : (Jvm.Cond.code ({ cls := "ClawBoxesModel", name := "seed", desc := "(I)I" } : Jvm.MethodName) prog_9_method_49_code (3 : Nat) (Option.some Jvm.ClassFile.FieldType.int)) ∈ gt := gt_c7 71 rfl rfl
theorem gw_1512 : (Jvm.Cond.methodLink "ClawBoxesLaw" (161 : Nat) ({ cls := "ClawBoxesModel", name := "attempt", desc := "(I)I" } : Jvm.MethodName)) ∈ gt := gt_c7 72 rfl rfl
theorem gw_1513 : (Jvm.Cond.instanceMethod ({ cls := "ClawBoxesModel", name := "attempt", desc := "(I)I" } : Jvm.MethodName)) ∈ gt := gt_c7 73 rfl rfl
theorem gw_1514 : (Jvm.Cond.selects "ClawBoxesModel" ({ cls := "ClawBoxesModel", name := "attempt", desc := "(I)I" } : Jvm.MethodName) ({ cls := "ClawBoxesModel", name := "attempt", desc := "(I)I" } : Jvm.MethodName)) ∈ gt := gt_c7 74 rfl rfl
theorem gw_1515 : (Jvm.Cond.code ({ cls := "ClawBoxesModel", name := "attempt", desc := "(I)I" } : Jvm.MethodName) prog_9_method_61_code (2 : Nat) (Option.some Jvm.ClassFile.FieldType.int)) ∈ gt := gt_c7 75 rfl rfl
theorem gw_1516 : (Jvm.Cond.methodLink "ClawBoxesModel" (326 : Nat) ({ cls := "ClawBoxesModel", name := "attemptAt", desc := "(I)I" } : Jvm.MethodName)) ∈ gt := gt_c7 76 rfl rfl
theorem gw_1518 : (Jvm.Cond.instanceMethod ({ cls := "ClawBoxesModel", name := "attemptAt", desc := "(I)I" } : Jvm.MethodName)) ∈ gt := gt_c7 78 rfl rfl
theorem gw_1519 : (Jvm.Cond.code ({ cls := "ClawBoxesModel", name := "attemptAt", desc := "(I)I" } : Jvm.MethodName) prog_9_method_60_code (6 : Nat) (Option.some Jvm.ClassFile.FieldType.int)) ∈ gt := gt_c7 79 rfl rfl
theorem gw_1520 : (Jvm.Cond.methodLink "ClawBoxesModel" (316 : Nat) ({ cls := "ClawBoxesModel", name := "canNow", desc := "(Z)I" } : Jvm.MethodName)) ∈ gt := gt_c7 80 rfl rfl
theorem gw_1522 : (Jvm.Cond.instanceMethod ({ cls := "ClawBoxesModel", name := "canNow", desc := "(Z)I" } : Jvm.MethodName)) ∈ gt := gt_c7 82 rfl rfl
theorem gw_1523 : (Jvm.Cond.code ({ cls := "ClawBoxesModel", name := "canNow", desc := "(Z)I" } : Jvm.MethodName) prog_9_method_59_code (8 : Nat) (Option.some Jvm.ClassFile.FieldType.int)) ∈ gt := gt_c7 83 rfl rfl
theorem gw_1524 : (Jvm.Cond.methodLink "ClawBoxesModel" (307 : Nat) ({ cls := "ClawBoxesModel", name := "wouldBe", desc := "(III)I" } : Jvm.MethodName)) ∈ gt := gt_c7 84 rfl rfl
theorem gw_1526 : (Jvm.Cond.instanceMethod ({ cls := "ClawBoxesModel", name := "wouldBe", desc := "(III)I" } : Jvm.MethodName)) ∈ gt := gt_c7 86 rfl rfl
theorem gw_1527 : (Jvm.Cond.code ({ cls := "ClawBoxesModel", name := "wouldBe", desc := "(III)I" } : Jvm.MethodName) prog_9_method_56_code (4 : Nat) (Option.some Jvm.ClassFile.FieldType.int)) ∈ gt := gt_c7 87 rfl rfl
theorem gw_1528 : (Jvm.Cond.methodLink "ClawBoxesModel" (300 : Nat) ({ cls := "ClawBoxesModel", name := "grips", desc := "(I)V" } : Jvm.MethodName)) ∈ gt := gt_c7 88 rfl rfl
theorem gw_1530 : (Jvm.Cond.instanceMethod ({ cls := "ClawBoxesModel", name := "grips", desc := "(I)V" } : Jvm.MethodName)) ∈ gt := gt_c7 90 rfl rfl
theorem gw_1531 : (Jvm.Cond.code ({ cls := "ClawBoxesModel", name := "grips", desc := "(I)V" } : Jvm.MethodName) prog_9_method_52_code (6 : Nat) (Option.none : Option Jvm.ClassFile.FieldType)) ∈ gt := gt_c7 91 rfl rfl
theorem gw_1532 : (Jvm.Cond.methodLink "ClawBoxesModel" (287 : Nat) ({ cls := "ClawBoxesModel", name := "takes", desc := "(I)V" } : Jvm.MethodName)) ∈ gt := gt_c7 92 rfl rfl
theorem gw_1534 : (Jvm.Cond.instanceMethod ({ cls := "ClawBoxesModel", name := "takes", desc := "(I)V" } : Jvm.MethodName)) ∈ gt := gt_c7 94 rfl rfl
theorem gw_1535 : (Jvm.Cond.code ({ cls := "ClawBoxesModel", name := "takes", desc := "(I)V" } : Jvm.MethodName) prog_9_method_53_code (2 : Nat) (Option.none : Option Jvm.ClassFile.FieldType)) ∈ gt := gt_c7 95 rfl rfl
theorem gw_1536 : (Jvm.Cond.methodLink "ClawBoxesModel" (290 : Nat) ({ cls := "ClawBoxesModel", name := "beside", desc := "(II)I" } : Jvm.MethodName)) ∈ gt := gt_c7 96 rfl rfl
theorem gw_1537 : (Jvm.Cond.static ({ cls := "ClawBoxesModel", name := "beside", desc := "(II)I" } : Jvm.MethodName)) ∈ gt := gt_c7 97 rfl rfl
theorem gw_1538 : (Jvm.Cond.code ({ cls := "ClawBoxesModel", name := "beside", desc := "(II)I" } : Jvm.MethodName) prog_9_method_51_code (4 : Nat) (Option.some Jvm.ClassFile.FieldType.int)) ∈ gt := gt_c7 98 rfl rfl
theorem gw_1539 : (Jvm.Cond.methodLink "ClawBoxesModel" (303 : Nat) ({ cls := "ClawBoxesModel", name := "judged", desc := "(IIIIII)I" } : Jvm.MethodName)) ∈ gt := gt_c7 99 rfl rfl
theorem gw_1541 : (Jvm.Cond.instanceMethod ({ cls := "ClawBoxesModel", name := "judged", desc := "(IIIIII)I" } : Jvm.MethodName)) ∈ gt := gt_c7 101 rfl rfl
theorem gw_1542 : (Jvm.Cond.code ({ cls := "ClawBoxesModel", name := "judged", desc := "(IIIIII)I" } : Jvm.MethodName) prog_9_method_54_code (9 : Nat) (Option.some Jvm.ClassFile.FieldType.int)) ∈ gt := gt_c7 102 rfl rfl
theorem gw_1543 : (Jvm.Cond.methodLink "ClawBoxesModel" (294 : Nat) ({ cls := "ClawBoxesModel", name := "apart", desc := "(II)I" } : Jvm.MethodName)) ∈ gt := gt_c7 103 rfl rfl
theorem gw_1544 : (Jvm.Cond.static ({ cls := "ClawBoxesModel", name := "apart", desc := "(II)I" } : Jvm.MethodName)) ∈ gt := gt_c7 104 rfl rfl
theorem gw_1545 : (Jvm.Cond.code ({ cls := "ClawBoxesModel", name := "apart", desc := "(II)I" } : Jvm.MethodName) prog_9_method_6_code (2 : Nat) (Option.some Jvm.ClassFile.FieldType.int)) ∈ gt := gt_c7 105 rfl rfl
theorem gw_1546 : (Jvm.Cond.methodLink "ClawBoxesModel" (297 : Nat) ({ cls := "ClawBoxesModel", name := "onWay", desc := "(III)I" } : Jvm.MethodName)) ∈ gt := gt_c7 106 rfl rfl
theorem gw_1547 : (Jvm.Cond.static ({ cls := "ClawBoxesModel", name := "onWay", desc := "(III)I" } : Jvm.MethodName)) ∈ gt := gt_c7 107 rfl rfl
theorem gw_1548 : (Jvm.Cond.code ({ cls := "ClawBoxesModel", name := "onWay", desc := "(III)I" } : Jvm.MethodName) prog_9_method_55_code (6 : Nat) (Option.some Jvm.ClassFile.FieldType.int)) ∈ gt := gt_c7 108 rfl rfl
theorem gw_1549 : (Jvm.Cond.methodLink "ClawBoxesModel" (320 : Nat) ({ cls := "ClawBoxesModel", name := "draw", desc := "(I)I" } : Jvm.MethodName)) ∈ gt := gt_c7 109 rfl rfl
theorem gw_1551 : (Jvm.Cond.instanceMethod ({ cls := "ClawBoxesModel", name := "draw", desc := "(I)I" } : Jvm.MethodName)) ∈ gt := gt_c7 111 rfl rfl
theorem gw_1552 : (Jvm.Cond.code ({ cls := "ClawBoxesModel", name := "draw", desc := "(I)I" } : Jvm.MethodName) prog_9_method_50_code (2 : Nat) (Option.some Jvm.ClassFile.FieldType.int)) ∈ gt := gt_c7 112 rfl rfl
theorem gw_1553 : (Jvm.Cond.constant "ClawBoxesModel" (271 : Nat) (1103515245 : Int32)) ∈ gt := gt_c7 113 rfl rfl
theorem gw_1554 : (Jvm.Cond.methodLink "ClawBoxesModel" (323 : Nat) ({ cls := "ClawBoxesModel", name := "triesAt", desc := "(II)V" } : Jvm.MethodName)) ∈ gt := gt_c7 114 rfl rfl
theorem gw_1556 : (Jvm.Cond.instanceMethod ({ cls := "ClawBoxesModel", name := "triesAt", desc := "(II)V" } : Jvm.MethodName)) ∈ gt := gt_c7 116 rfl rfl
theorem gw_1557 : (Jvm.Cond.code ({ cls := "ClawBoxesModel", name := "triesAt", desc := "(II)V" } : Jvm.MethodName) prog_9_method_58_code (6 : Nat) (Option.none : Option Jvm.ClassFile.FieldType)) ∈ gt := gt_c7 117 rfl rfl
theorem gw_1558 : (Jvm.Cond.methodLink "ClawBoxesLaw" (164 : Nat) ({ cls := "ClawBoxesModel", name := "record", desc := "(II)I" } : Jvm.MethodName)) ∈ gt := gt_c7 118 rfl rfl
theorem gw_1559 : (Jvm.Cond.instanceMethod ({ cls := "ClawBoxesModel", name := "record", desc := "(II)I" } : Jvm.MethodName)) ∈ gt := gt_c7 119 rfl rfl
theorem gw_1560 : (Jvm.Cond.selects "ClawBoxesModel" ({ cls := "ClawBoxesModel", name := "record", desc := "(II)I" } : Jvm.MethodName) ({ cls := "ClawBoxesModel", name := "record", desc := "(II)I" } : Jvm.MethodName)) ∈ gt := gt_c7 120 rfl rfl
theorem gw_1561 : (Jvm.Cond.code ({ cls := "ClawBoxesModel", name := "record", desc := "(II)I" } : Jvm.MethodName) prog_9_method_62_code (3 : Nat) (Option.some Jvm.ClassFile.FieldType.int)) ∈ gt := gt_c7 121 rfl rfl
theorem gw_1562 : (Jvm.Cond.methodLink "ClawBoxesLaw" (167 : Nat) ({ cls := "ClawBoxesModel", name := "hand", desc := "(I)I" } : Jvm.MethodName)) ∈ gt := gt_c7 122 rfl rfl
theorem gw_1563 : (Jvm.Cond.instanceMethod ({ cls := "ClawBoxesModel", name := "hand", desc := "(I)I" } : Jvm.MethodName)) ∈ gt := gt_c7 123 rfl rfl
theorem gw_1564 : (Jvm.Cond.selects "ClawBoxesModel" ({ cls := "ClawBoxesModel", name := "hand", desc := "(I)I" } : Jvm.MethodName) ({ cls := "ClawBoxesModel", name := "hand", desc := "(I)I" } : Jvm.MethodName)) ∈ gt := gt_c7 124 rfl rfl
theorem gw_1565 : (Jvm.Cond.code ({ cls := "ClawBoxesModel", name := "hand", desc := "(I)I" } : Jvm.MethodName) prog_9_method_63_code (3 : Nat) (Option.some Jvm.ClassFile.FieldType.int)) ∈ gt := gt_c7 125 rfl rfl
theorem gw_1566 : (Jvm.Cond.constant "ClawBoxesModel" (329 : Nat) (134217727 : Int32)) ∈ gt := gt_c7 126 rfl rfl
theorem gw_1567 : (Jvm.Cond.methodLink "ClawBoxesLaw" (170 : Nat) ({ cls := "ClawBoxesModel", name := "play", desc := "(II)I" } : Jvm.MethodName)) ∈ gt := gt_c7 127 rfl rfl
theorem gw_1568 : (Jvm.Cond.instanceMethod ({ cls := "ClawBoxesModel", name := "play", desc := "(II)I" } : Jvm.MethodName)) ∈ gt := gt_c7 128 rfl rfl
theorem gw_1569 : (Jvm.Cond.selects "ClawBoxesModel" ({ cls := "ClawBoxesModel", name := "play", desc := "(II)I" } : Jvm.MethodName) ({ cls := "ClawBoxesModel", name := "play", desc := "(II)I" } : Jvm.MethodName)) ∈ gt := gt_c7 129 rfl rfl
theorem gw_1570 : (Jvm.Cond.code ({ cls := "ClawBoxesModel", name := "play", desc := "(II)I" } : Jvm.MethodName) prog_9_method_67_code (5 : Nat) (Option.some Jvm.ClassFile.FieldType.int)) ∈ gt := gt_c7 130 rfl rfl
theorem gw_1571 : (Jvm.Cond.methodLink "ClawBoxesModel" (333 : Nat) ({ cls := "ClawBoxesModel", name := "isHand", desc := "(I)Z" } : Jvm.MethodName)) ∈ gt := gt_c7 131 rfl rfl
theorem gw_1573 : (Jvm.Cond.instanceMethod ({ cls := "ClawBoxesModel", name := "isHand", desc := "(I)Z" } : Jvm.MethodName)) ∈ gt := gt_c7 133 rfl rfl
theorem gw_1574 : (Jvm.Cond.code ({ cls := "ClawBoxesModel", name := "isHand", desc := "(I)Z" } : Jvm.MethodName) prog_9_method_66_code (2 : Nat) (Option.some Jvm.ClassFile.FieldType.boolean)) ∈ gt := gt_c7 134 rfl rfl
theorem gw_1575 : (Jvm.Cond.methodLink "ClawBoxesModel" (336 : Nat) ({ cls := "ClawBoxesModel", name := "weightsOf", desc := "(I)I" } : Jvm.MethodName)) ∈ gt := gt_c7 135 rfl rfl
theorem gw_1577 : (Jvm.Cond.instanceMethod ({ cls := "ClawBoxesModel", name := "weightsOf", desc := "(I)I" } : Jvm.MethodName)) ∈ gt := gt_c7 137 rfl rfl
theorem gw_1578 : (Jvm.Cond.code ({ cls := "ClawBoxesModel", name := "weightsOf", desc := "(I)I" } : Jvm.MethodName) prog_9_method_64_code (4 : Nat) (Option.some Jvm.ClassFile.FieldType.int)) ∈ gt := gt_c7 138 rfl rfl
theorem gw_1579 : (Jvm.Cond.methodLink "ClawBoxesModel" (339 : Nat) ({ cls := "ClawBoxesModel", name := "comesTo", desc := "(II)I" } : Jvm.MethodName)) ∈ gt := gt_c7 139 rfl rfl
theorem gw_1580 : (Jvm.Cond.static ({ cls := "ClawBoxesModel", name := "comesTo", desc := "(II)I" } : Jvm.MethodName)) ∈ gt := gt_c7 140 rfl rfl
theorem gw_1581 : (Jvm.Cond.code ({ cls := "ClawBoxesModel", name := "comesTo", desc := "(II)I" } : Jvm.MethodName) prog_9_method_65_code (2 : Nat) (Option.some Jvm.ClassFile.FieldType.int)) ∈ gt := gt_c7 141 rfl rfl
theorem gw_1582 : (Jvm.Cond.methodLink "ClawBoxesLaw" (175 : Nat) ({ cls := "ClawBoxesModel", name := "can", desc := "(Z)I" } : Jvm.MethodName)) ∈ gt := gt_c7 142 rfl rfl
theorem gw_1583 : (Jvm.Cond.instanceMethod ({ cls := "ClawBoxesModel", name := "can", desc := "(Z)I" } : Jvm.MethodName)) ∈ gt := gt_c7 143 rfl rfl
theorem gw_1584 : (Jvm.Cond.selects "ClawBoxesModel" ({ cls := "ClawBoxesModel", name := "can", desc := "(Z)I" } : Jvm.MethodName) ({ cls := "ClawBoxesModel", name := "can", desc := "(Z)I" } : Jvm.MethodName)) ∈ gt := gt_c7 144 rfl rfl
theorem gw_1585 : (Jvm.Cond.code ({ cls := "ClawBoxesModel", name := "can", desc := "(Z)I" } : Jvm.MethodName) prog_9_method_68_code (2 : Nat) (Option.some Jvm.ClassFile.FieldType.int)) ∈ gt := gt_c7 145 rfl rfl
theorem gw_1586 : (Jvm.Cond.methodLink "ClawBoxesLaw" (179 : Nat) ({ cls := "ClawBoxesModel", name := "odds", desc := "(III)I" } : Jvm.MethodName)) ∈ gt := gt_c7 146 rfl rfl
theorem gw_1587 : (Jvm.Cond.instanceMethod ({ cls := "ClawBoxesModel", name := "odds", desc := "(III)I" } : Jvm.MethodName)) ∈ gt := gt_c7 147 rfl rfl
theorem gw_1588 : (Jvm.Cond.selects "ClawBoxesModel" ({ cls := "ClawBoxesModel", name := "odds", desc := "(III)I" } : Jvm.MethodName) ({ cls := "ClawBoxesModel", name := "odds", desc := "(III)I" } : Jvm.MethodName)) ∈ gt := gt_c7 148 rfl rfl
theorem gw_1589 : (Jvm.Cond.code ({ cls := "ClawBoxesModel", name := "odds", desc := "(III)I" } : Jvm.MethodName) prog_9_method_69_code (6 : Nat) (Option.some Jvm.ClassFile.FieldType.int)) ∈ gt := gt_c7 149 rfl rfl
theorem gw_1590 : (Jvm.Cond.methodLink "ClawBoxesModel" (342 : Nat) ({ cls := "ClawBoxesModel", name := "isPaidBy", desc := "(III)Z" } : Jvm.MethodName)) ∈ gt := gt_c7 150 rfl rfl
theorem gw_1592 : (Jvm.Cond.instanceMethod ({ cls := "ClawBoxesModel", name := "isPaidBy", desc := "(III)Z" } : Jvm.MethodName)) ∈ gt := gt_c7 152 rfl rfl
theorem gw_1593 : (Jvm.Cond.code ({ cls := "ClawBoxesModel", name := "isPaidBy", desc := "(III)Z" } : Jvm.MethodName) prog_9_method_57_code (4 : Nat) (Option.some Jvm.ClassFile.FieldType.boolean)) ∈ gt := gt_c7 153 rfl rfl
theorem gw_1594 : (Jvm.Cond.methodLink "ClawBoxesLaw" (182 : Nat) ({ cls := "ClawBoxesModel", name := "weights", desc := "(I)I" } : Jvm.MethodName)) ∈ gt := gt_c7 154 rfl rfl
theorem gw_1595 : (Jvm.Cond.instanceMethod ({ cls := "ClawBoxesModel", name := "weights", desc := "(I)I" } : Jvm.MethodName)) ∈ gt := gt_c7 155 rfl rfl
theorem gw_1596 : (Jvm.Cond.selects "ClawBoxesModel" ({ cls := "ClawBoxesModel", name := "weights", desc := "(I)I" } : Jvm.MethodName) ({ cls := "ClawBoxesModel", name := "weights", desc := "(I)I" } : Jvm.MethodName)) ∈ gt := gt_c7 156 rfl rfl
theorem gw_1597 : (Jvm.Cond.code ({ cls := "ClawBoxesModel", name := "weights", desc := "(I)I" } : Jvm.MethodName) prog_9_method_70_code (2 : Nat) (Option.some Jvm.ClassFile.FieldType.int)) ∈ gt := gt_c7 157 rfl rfl
theorem gw_1598 : (Jvm.Cond.methodLink "ClawBoxesLaw" (185 : Nat) ({ cls := "ClawBoxesModel", name := "when", desc := "(II)I" } : Jvm.MethodName)) ∈ gt := gt_c7 158 rfl rfl
theorem gw_1599 : (Jvm.Cond.instanceMethod ({ cls := "ClawBoxesModel", name := "when", desc := "(II)I" } : Jvm.MethodName)) ∈ gt := gt_c7 159 rfl rfl
theorem gw_1600 : (Jvm.Cond.selects "ClawBoxesModel" ({ cls := "ClawBoxesModel", name := "when", desc := "(II)I" } : Jvm.MethodName) ({ cls := "ClawBoxesModel", name := "when", desc := "(II)I" } : Jvm.MethodName)) ∈ gt := gt_c7 160 rfl rfl
theorem gw_1601 : (Jvm.Cond.code ({ cls := "ClawBoxesModel", name := "when", desc := "(II)I" } : Jvm.MethodName) prog_9_method_71_code (4 : Nat) (Option.some Jvm.ClassFile.FieldType.int)) ∈ gt := gt_c7 161 rfl rfl
theorem gw_1602 : (Jvm.Cond.methodLink "ClawBoxesLaw" (189 : Nat) ({ cls := "ClawBoxesModel", name := "fitting", desc := "()I" } : Jvm.MethodName)) ∈ gt := gt_c7 162 rfl rfl
theorem gw_1603 : (Jvm.Cond.instanceMethod ({ cls := "ClawBoxesModel", name := "fitting", desc := "()I" } : Jvm.MethodName)) ∈ gt := gt_c7 163 rfl rfl
theorem gw_1604 : (Jvm.Cond.selects "ClawBoxesModel" ({ cls := "ClawBoxesModel", name := "fitting", desc := "()I" } : Jvm.MethodName) ({ cls := "ClawBoxesModel", name := "fitting", desc := "()I" } : Jvm.MethodName)) ∈ gt := gt_c7 164 rfl rfl
theorem gw_1605 : (Jvm.Cond.code ({ cls := "ClawBoxesModel", name := "fitting", desc := "()I" } : Jvm.MethodName) prog_9_method_74_code (3 : Nat) (Option.some Jvm.ClassFile.FieldType.int)) ∈ gt := gt_c7 165 rfl rfl
theorem gw_1606 : (Jvm.Cond.methodLink "ClawBoxesModel" (349 : Nat) ({ cls := "ClawBoxesModel", name := "strangeBy", desc := "(I)I" } : Jvm.MethodName)) ∈ gt := gt_c7 166 rfl rfl
theorem gw_1608 : (Jvm.Cond.instanceMethod ({ cls := "ClawBoxesModel", name := "strangeBy", desc := "(I)I" } : Jvm.MethodName)) ∈ gt := gt_c7 168 rfl rfl
theorem gw_1609 : (Jvm.Cond.code ({ cls := "ClawBoxesModel", name := "strangeBy", desc := "(I)I" } : Jvm.MethodName) prog_9_method_73_code (3 : Nat) (Option.some Jvm.ClassFile.FieldType.int)) ∈ gt := gt_c7 169 rfl rfl
theorem gw_1610 : (Jvm.Cond.methodLink "ClawBoxesModel" (345 : Nat) ({ cls := "ClawBoxesModel", name := "couldBe", desc := "(I[I)Z" } : Jvm.MethodName)) ∈ gt := gt_c7 170 rfl rfl
theorem gw_1612 : (Jvm.Cond.instanceMethod ({ cls := "ClawBoxesModel", name := "couldBe", desc := "(I[I)Z" } : Jvm.MethodName)) ∈ gt := gt_c7 172 rfl rfl
theorem gw_1613 : (Jvm.Cond.code ({ cls := "ClawBoxesModel", name := "couldBe", desc := "(I[I)Z" } : Jvm.MethodName) prog_9_method_72_code (5 : Nat) (Option.some Jvm.ClassFile.FieldType.boolean)) ∈ gt := gt_c7 173 rfl rfl
theorem gw_1614 : (Jvm.Cond.methodLink "ClawBoxesLaw" (192 : Nat) ({ cls := "ClawBoxesModel", name := "strange", desc := "(I)I" } : Jvm.MethodName)) ∈ gt := gt_c7 174 rfl rfl
theorem gw_1615 : (Jvm.Cond.instanceMethod ({ cls := "ClawBoxesModel", name := "strange", desc := "(I)I" } : Jvm.MethodName)) ∈ gt := gt_c7 175 rfl rfl
theorem gw_1616 : (Jvm.Cond.selects "ClawBoxesModel" ({ cls := "ClawBoxesModel", name := "strange", desc := "(I)I" } : Jvm.MethodName) ({ cls := "ClawBoxesModel", name := "strange", desc := "(I)I" } : Jvm.MethodName)) ∈ gt := gt_c7 176 rfl rfl
theorem gw_1617 : (Jvm.Cond.code ({ cls := "ClawBoxesModel", name := "strange", desc := "(I)I" } : Jvm.MethodName) prog_9_method_75_code (2 : Nat) (Option.some Jvm.ClassFile.FieldType.int)) ∈ gt := gt_c7 177 rfl rfl
theorem gw_1618 : (Jvm.Cond.methodLink "ClawBoxesLaw" (195 : Nat) ({ cls := "ClawBoxesModel", name := "guess", desc := "(I)I" } : Jvm.MethodName)) ∈ gt := gt_c7 178 rfl rfl
theorem gw_1619 : (Jvm.Cond.instanceMethod ({ cls := "ClawBoxesModel", name := "guess", desc := "(I)I" } : Jvm.MethodName)) ∈ gt := gt_c7 179 rfl rfl
theorem gw_1620 : (Jvm.Cond.selects "ClawBoxesModel" ({ cls := "ClawBoxesModel", name := "guess", desc := "(I)I" } : Jvm.MethodName) ({ cls := "ClawBoxesModel", name := "guess", desc := "(I)I" } : Jvm.MethodName)) ∈ gt := gt_c7 180 rfl rfl
theorem gw_1621 : (Jvm.Cond.code ({ cls := "ClawBoxesModel", name := "guess", desc := "(I)I" } : Jvm.MethodName) prog_9_method_76_code (4 : Nat) (Option.some Jvm.ClassFile.FieldType.int)) ∈ gt := gt_c7 181 rfl rfl
theorem gw_1622 : (Jvm.Cond.methodLink "ClawBoxesLaw" (199 : Nat) ({ cls := "ClawBoxesModel", name := "refill", desc := "()I" } : Jvm.MethodName)) ∈ gt := gt_c7 182 rfl rfl
theorem gw_1623 : (Jvm.Cond.instanceMethod ({ cls := "ClawBoxesModel", name := "refill", desc := "()I" } : Jvm.MethodName)) ∈ gt := gt_c7 183 rfl rfl
theorem gw_1624 : (Jvm.Cond.selects "ClawBoxesModel" ({ cls := "ClawBoxesModel", name := "refill", desc := "()I" } : Jvm.MethodName) ({ cls := "ClawBoxesModel", name := "refill", desc := "()I" } : Jvm.MethodName)) ∈ gt := gt_c7 184 rfl rfl
theorem gw_1625 : (Jvm.Cond.code ({ cls := "ClawBoxesModel", name := "refill", desc := "()I" } : Jvm.MethodName) prog_9_method_77_code (4 : Nat) (Option.some Jvm.ClassFile.FieldType.int)) ∈ gt := gt_c7 185 rfl rfl
theorem gw_1626 : (Jvm.Cond.methodLink "ClawBoxesLaw" (202 : Nat) ({ cls := "ClawBoxesModel", name := "worth", desc := "(III)I" } : Jvm.MethodName)) ∈ gt := gt_c7 186 rfl rfl
theorem gw_1627 : (Jvm.Cond.instanceMethod ({ cls := "ClawBoxesModel", name := "worth", desc := "(III)I" } : Jvm.MethodName)) ∈ gt := gt_c7 187 rfl rfl
theorem gw_1628 : (Jvm.Cond.selects "ClawBoxesModel" ({ cls := "ClawBoxesModel", name := "worth", desc := "(III)I" } : Jvm.MethodName) ({ cls := "ClawBoxesModel", name := "worth", desc := "(III)I" } : Jvm.MethodName)) ∈ gt := gt_c7 188 rfl rfl
theorem gw_1629 : (Jvm.Cond.code ({ cls := "ClawBoxesModel", name := "worth", desc := "(III)I" } : Jvm.MethodName) prog_9_method_81_code (4 : Nat) (Option.some Jvm.ClassFile.FieldType.int)) ∈ gt := gt_c7 189 rfl rfl
theorem gw_1630 : (Jvm.Cond.methodLink "ClawBoxesModel" (358 : Nat) ({ cls := "ClawBoxesModel", name := "worthOf", desc := "(III)I" } : Jvm.MethodName)) ∈ gt := gt_c7 190 rfl rfl
theorem gw_1632 : (Jvm.Cond.instanceMethod ({ cls := "ClawBoxesModel", name := "worthOf", desc := "(III)I" } : Jvm.MethodName)) ∈ gt := gt_c7 192 rfl rfl
theorem gw_1633 : (Jvm.Cond.code ({ cls := "ClawBoxesModel", name := "worthOf", desc := "(III)I" } : Jvm.MethodName) prog_9_method_80_code (5 : Nat) (Option.some Jvm.ClassFile.FieldType.int)) ∈ gt := gt_c7 193 rfl rfl
theorem gw_1634 : (Jvm.Cond.methodLink "ClawBoxesModel" (352 : Nat) ({ cls := "ClawBoxesModel", name := "lays", desc := "(I)V" } : Jvm.MethodName)) ∈ gt := gt_c7 194 rfl rfl
theorem gw_1636 : (Jvm.Cond.instanceMethod ({ cls := "ClawBoxesModel", name := "lays", desc := "(I)V" } : Jvm.MethodName)) ∈ gt := gt_c7 196 rfl rfl
theorem gw_1637 : (Jvm.Cond.code ({ cls := "ClawBoxesModel", name := "lays", desc := "(I)V" } : Jvm.MethodName) prog_9_method_78_code (4 : Nat) (Option.none : Option Jvm.ClassFile.FieldType)) ∈ gt := gt_c7 197 rfl rfl
theorem gw_1638 : (Jvm.Cond.methodLink "ClawBoxesModel" (355 : Nat) ({ cls := "ClawBoxesModel", name := "laysBack", desc := "(I)V" } : Jvm.MethodName)) ∈ gt := gt_c7 198 rfl rfl
theorem gw_1640 : (Jvm.Cond.instanceMethod ({ cls := "ClawBoxesModel", name := "laysBack", desc := "(I)V" } : Jvm.MethodName)) ∈ gt := gt_c7 200 rfl rfl
theorem gw_1641 : (Jvm.Cond.code ({ cls := "ClawBoxesModel", name := "laysBack", desc := "(I)V" } : Jvm.MethodName) prog_9_method_79_code (4 : Nat) (Option.none : Option Jvm.ClassFile.FieldType)) ∈ gt := gt_c7 201 rfl rfl
theorem gw_1642 : (Jvm.Cond.methodLink "ClawBoxesLaw" (205 : Nat) ({ cls := "ClawBoxesModel", name := "bide", desc := "(II)I" } : Jvm.MethodName)) ∈ gt := gt_c7 202 rfl rfl
theorem gw_1643 : (Jvm.Cond.instanceMethod ({ cls := "ClawBoxesModel", name := "bide", desc := "(II)I" } : Jvm.MethodName)) ∈ gt := gt_c7 203 rfl rfl
theorem gw_1644 : (Jvm.Cond.selects "ClawBoxesModel" ({ cls := "ClawBoxesModel", name := "bide", desc := "(II)I" } : Jvm.MethodName) ({ cls := "ClawBoxesModel", name := "bide", desc := "(II)I" } : Jvm.MethodName)) ∈ gt := gt_c7 204 rfl rfl
theorem gw_1645 : (Jvm.Cond.code ({ cls := "ClawBoxesModel", name := "bide", desc := "(II)I" } : Jvm.MethodName) prog_9_method_82_code (7 : Nat) (Option.some Jvm.ClassFile.FieldType.int)) ∈ gt := gt_c7 205 rfl rfl
theorem gw_1646 : (Jvm.Cond.methodLink "ClawBoxesLaw" (208 : Nat) ({ cls := "ClawBoxesModel", name := "settle", desc := "(III)I" } : Jvm.MethodName)) ∈ gt := gt_c7 206 rfl rfl
theorem gw_1647 : (Jvm.Cond.instanceMethod ({ cls := "ClawBoxesModel", name := "settle", desc := "(III)I" } : Jvm.MethodName)) ∈ gt := gt_c7 207 rfl rfl
theorem gw_1648 : (Jvm.Cond.selects "ClawBoxesModel" ({ cls := "ClawBoxesModel", name := "settle", desc := "(III)I" } : Jvm.MethodName) ({ cls := "ClawBoxesModel", name := "settle", desc := "(III)I" } : Jvm.MethodName)) ∈ gt := gt_c7 208 rfl rfl
theorem gw_1649 : (Jvm.Cond.code ({ cls := "ClawBoxesModel", name := "settle", desc := "(III)I" } : Jvm.MethodName) prog_9_method_84_code (7 : Nat) (Option.some Jvm.ClassFile.FieldType.int)) ∈ gt := gt_c7 209 rfl rfl
theorem gw_1650 : (Jvm.Cond.methodLink "ClawBoxesModel" (361 : Nat) ({ cls := "ClawBoxesModel", name := "weightFor", desc := "(II)I" } : Jvm.MethodName)) ∈ gt := gt_c7 210 rfl rfl
theorem gw_1652 : (Jvm.Cond.instanceMethod ({ cls := "ClawBoxesModel", name := "weightFor", desc := "(II)I" } : Jvm.MethodName)) ∈ gt := gt_c7 212 rfl rfl
theorem gw_1653 : (Jvm.Cond.code ({ cls := "ClawBoxesModel", name := "weightFor", desc := "(II)I" } : Jvm.MethodName) prog_9_method_83_code (5 : Nat) (Option.some Jvm.ClassFile.FieldType.int)) ∈ gt := gt_c7 213 rfl rfl
theorem gw_1654 : (Jvm.Cond.methodLink "ClawBoxesLaw" (211 : Nat) ({ cls := "ClawBoxesModel", name := "back", desc := "(II)I" } : Jvm.MethodName)) ∈ gt := gt_c7 214 rfl rfl
theorem gw_1655 : (Jvm.Cond.instanceMethod ({ cls := "ClawBoxesModel", name := "back", desc := "(II)I" } : Jvm.MethodName)) ∈ gt := gt_c7 215 rfl rfl
theorem gw_1656 : (Jvm.Cond.selects "ClawBoxesModel" ({ cls := "ClawBoxesModel", name := "back", desc := "(II)I" } : Jvm.MethodName) ({ cls := "ClawBoxesModel", name := "back", desc := "(II)I" } : Jvm.MethodName)) ∈ gt := gt_c7 216 rfl rfl
theorem gw_1657 : (Jvm.Cond.code ({ cls := "ClawBoxesModel", name := "back", desc := "(II)I" } : Jvm.MethodName) prog_9_method_85_code (6 : Nat) (Option.some Jvm.ClassFile.FieldType.int)) ∈ gt := gt_c7 217 rfl rfl
theorem gw_1658 : (Jvm.Cond.constant "ClawBoxesModel" (364 : Nat) (-2147483648 : Int32)) ∈ gt := gt_c7 218 rfl rfl
theorem gw_1659 : (Jvm.Cond.methodLink "ClawBoxesLaw" (214 : Nat) ({ cls := "ClawBoxesModel", name := "broken", desc := "(I)I" } : Jvm.MethodName)) ∈ gt := gt_c7 219 rfl rfl
theorem gw_1660 : (Jvm.Cond.instanceMethod ({ cls := "ClawBoxesModel", name := "broken", desc := "(I)I" } : Jvm.MethodName)) ∈ gt := gt_c7 220 rfl rfl
theorem gw_1661 : (Jvm.Cond.selects "ClawBoxesModel" ({ cls := "ClawBoxesModel", name := "broken", desc := "(I)I" } : Jvm.MethodName) ({ cls := "ClawBoxesModel", name := "broken", desc := "(I)I" } : Jvm.MethodName)) ∈ gt := gt_c7 221 rfl rfl
theorem gw_1662 : (Jvm.Cond.code ({ cls := "ClawBoxesModel", name := "broken", desc := "(I)I" } : Jvm.MethodName) prog_9_method_86_code (5 : Nat) (Option.some Jvm.ClassFile.FieldType.int)) ∈ gt := gt_c7 222 rfl rfl
theorem gw_1663 : (Jvm.Cond.methodLink "ClawBoxesLaw" (218 : Nat) ({ cls := "ClawBoxesModel", name := "cut", desc := "(IIIII)I" } : Jvm.MethodName)) ∈ gt := gt_c7 223 rfl rfl
theorem gw_1664 : (Jvm.Cond.instanceMethod ({ cls := "ClawBoxesModel", name := "cut", desc := "(IIIII)I" } : Jvm.MethodName)) ∈ gt := gt_c7 224 rfl rfl
theorem gw_1665 : (Jvm.Cond.selects "ClawBoxesModel" ({ cls := "ClawBoxesModel", name := "cut", desc := "(IIIII)I" } : Jvm.MethodName) ({ cls := "ClawBoxesModel", name := "cut", desc := "(IIIII)I" } : Jvm.MethodName)) ∈ gt := gt_c7 225 rfl rfl
theorem gw_1666 : (Jvm.Cond.code ({ cls := "ClawBoxesModel", name := "cut", desc := "(IIIII)I" } : Jvm.MethodName) prog_9_method_87_code (9 : Nat) (Option.some Jvm.ClassFile.FieldType.int)) ∈ gt := gt_c7 226 rfl rfl
theorem gw_1667 : (Jvm.Cond.methodLink "ClawBoxesLaw" (221 : Nat) ({ cls := "ClawBoxesModel", name := "player", desc := "(IIII)I" } : Jvm.MethodName)) ∈ gt := gt_c7 227 rfl rfl
theorem gw_1668 : (Jvm.Cond.instanceMethod ({ cls := "ClawBoxesModel", name := "player", desc := "(IIII)I" } : Jvm.MethodName)) ∈ gt := gt_c7 228 rfl rfl
theorem gw_1669 : (Jvm.Cond.selects "ClawBoxesModel" ({ cls := "ClawBoxesModel", name := "player", desc := "(IIII)I" } : Jvm.MethodName) ({ cls := "ClawBoxesModel", name := "player", desc := "(IIII)I" } : Jvm.MethodName)) ∈ gt := gt_c7 229 rfl rfl
theorem gw_1670 : (Jvm.Cond.code ({ cls := "ClawBoxesModel", name := "player", desc := "(IIII)I" } : Jvm.MethodName) prog_9_method_88_code (10 : Nat) (Option.some Jvm.ClassFile.FieldType.int)) ∈ gt := gt_c7 230 rfl rfl
theorem gw_1671 : (Jvm.Cond.methodLink "ClawBoxesLaw" (224 : Nat) ({ cls := "ClawBoxesModel", name := "fair", desc := "(I)I" } : Jvm.MethodName)) ∈ gt := gt_c7 231 rfl rfl
theorem gw_1672 : (Jvm.Cond.instanceMethod ({ cls := "ClawBoxesModel", name := "fair", desc := "(I)I" } : Jvm.MethodName)) ∈ gt := gt_c7 232 rfl rfl
theorem gw_1673 : (Jvm.Cond.selects "ClawBoxesModel" ({ cls := "ClawBoxesModel", name := "fair", desc := "(I)I" } : Jvm.MethodName) ({ cls := "ClawBoxesModel", name := "fair", desc := "(I)I" } : Jvm.MethodName)) ∈ gt := gt_c7 233 rfl rfl
theorem gw_1674 : (Jvm.Cond.code ({ cls := "ClawBoxesModel", name := "fair", desc := "(I)I" } : Jvm.MethodName) prog_9_method_89_code (6 : Nat) (Option.some Jvm.ClassFile.FieldType.int)) ∈ gt := gt_c7 234 rfl rfl
theorem gw_1675 : (Jvm.Cond.methodLink "ClawBoxesLaw" (228 : Nat) ({ cls := "ClawBoxesModel", name := "image", desc := "()I" } : Jvm.MethodName)) ∈ gt := gt_c7 235 rfl rfl
theorem gw_1676 : (Jvm.Cond.instanceMethod ({ cls := "ClawBoxesModel", name := "image", desc := "()I" } : Jvm.MethodName)) ∈ gt := gt_c7 236 rfl rfl
theorem gw_1677 : (Jvm.Cond.selects "ClawBoxesModel" ({ cls := "ClawBoxesModel", name := "image", desc := "()I" } : Jvm.MethodName) ({ cls := "ClawBoxesModel", name := "image", desc := "()I" } : Jvm.MethodName)) ∈ gt := gt_c7 237 rfl rfl
theorem gw_1678 : (Jvm.Cond.code ({ cls := "ClawBoxesModel", name := "image", desc := "()I" } : Jvm.MethodName) prog_9_method_90_code (5 : Nat) (Option.some Jvm.ClassFile.FieldType.int)) ∈ gt := gt_c7 238 rfl rfl
theorem gw_1679 : (Jvm.Cond.methodLink "ClawBoxesLaw" (232 : Nat) ({ cls := "ClawBoxesModel", name := "restore", desc := "()I" } : Jvm.MethodName)) ∈ gt := gt_c7 239 rfl rfl
theorem gw_1680 : (Jvm.Cond.instanceMethod ({ cls := "ClawBoxesModel", name := "restore", desc := "()I" } : Jvm.MethodName)) ∈ gt := gt_c8 0 rfl rfl
theorem gw_1681 : (Jvm.Cond.selects "ClawBoxesModel" ({ cls := "ClawBoxesModel", name := "restore", desc := "()I" } : Jvm.MethodName) ({ cls := "ClawBoxesModel", name := "restore", desc := "()I" } : Jvm.MethodName)) ∈ gt := gt_c8 1 rfl rfl
theorem gw_1682 : (Jvm.Cond.code ({ cls := "ClawBoxesModel", name := "restore", desc := "()I" } : Jvm.MethodName) prog_9_method_91_code (5 : Nat) (Option.some Jvm.ClassFile.FieldType.int)) ∈ gt := gt_c8 2 rfl rfl
theorem gw_1683 : (Jvm.Cond.methodLink "ClawBoxesLaw" (236 : Nat) ({ cls := "ClawBoxesModel", name := "count", desc := "(I)I" } : Jvm.MethodName)) ∈ gt := gt_c8 3 rfl rfl
theorem gw_1684 : (Jvm.Cond.instanceMethod ({ cls := "ClawBoxesModel", name := "count", desc := "(I)I" } : Jvm.MethodName)) ∈ gt := gt_c8 4 rfl rfl
theorem gw_1685 : (Jvm.Cond.selects "ClawBoxesModel" ({ cls := "ClawBoxesModel", name := "count", desc := "(I)I" } : Jvm.MethodName) ({ cls := "ClawBoxesModel", name := "count", desc := "(I)I" } : Jvm.MethodName)) ∈ gt := gt_c8 5 rfl rfl
theorem gw_1686 : (Jvm.Cond.code ({ cls := "ClawBoxesModel", name := "count", desc := "(I)I" } : Jvm.MethodName) prog_9_method_93_code (2 : Nat) (Option.some Jvm.ClassFile.FieldType.int)) ∈ gt := gt_c8 6 rfl rfl
theorem gw_1687 : (Jvm.Cond.methodLink "ClawBoxesModel" (368 : Nat) ({ cls := "ClawBoxesModel", name := "lying", desc := "(I)I" } : Jvm.MethodName)) ∈ gt := gt_c8 7 rfl rfl
theorem gw_1689 : (Jvm.Cond.instanceMethod ({ cls := "ClawBoxesModel", name := "lying", desc := "(I)I" } : Jvm.MethodName)) ∈ gt := gt_c8 9 rfl rfl
theorem gw_1690 : (Jvm.Cond.code ({ cls := "ClawBoxesModel", name := "lying", desc := "(I)I" } : Jvm.MethodName) prog_9_method_92_code (4 : Nat) (Option.some Jvm.ClassFile.FieldType.int)) ∈ gt := gt_c8 10 rfl rfl
theorem gw_1691 : (Jvm.Cond.arrayClass Jvm.ClassFile.FieldType.long) ∈ gt := gt_c8 11 rfl rfl
theorem gw_1692 : (Jvm.Cond.sameMethod "java/lang/Throwable" "java/lang/Throwable" "fillInStackTrace" "(I)Ljava/lang/Throwable;") ∈ gt := gt_c8 12 rfl rfl
theorem gw_1706 : (Jvm.Cond.fieldLink "java/lang/String" (9 : Nat) "java/lang/String" "value" "[B") ∈ gt := gt_c8 26 rfl rfl
theorem gw_1707 : (Jvm.Cond.fieldLink "java/lang/String" (15 : Nat) "java/lang/String" "coder" "B") ∈ gt := gt_c8 27 rfl rfl
theorem gs_0 : (Cond.selects "ClawBoxes" ⟨"ClawBoxes", "writeBytes", "(I)V"⟩ ⟨"ClawBoxes", "writeBytes", "(I)V"⟩) ∈ gt := gt_sel 0 (by decide +kernel) (by decide +kernel)
theorem gs_1 : (Cond.selects "ClawBoxes" ⟨"ClawBoxes", "leastPaying", "(Z)I"⟩ ⟨"ClawBoxes", "leastPaying", "(Z)I"⟩) ∈ gt := gt_sel 1 (by decide +kernel) (by decide +kernel)
theorem gs_2 : (Cond.selects "ClawBoxes" ⟨"ClawBoxes", "tellLots", "()I"⟩ ⟨"ClawBoxes", "tellLots", "()I"⟩) ∈ gt := gt_sel 2 (by decide +kernel) (by decide +kernel)
theorem gs_3 : (Cond.selects "ClawBoxes" ⟨"ClawBoxes", "codeInForce", "()LClawBoxes$Code;"⟩ ⟨"ClawBoxes", "codeInForce", "()LClawBoxes$Code;"⟩) ∈ gt := gt_sel 3 (by decide +kernel) (by decide +kernel)
theorem gs_4 : (Cond.selects "ClawBoxes" ⟨"ClawBoxes", "paysByLots", "(IZ)Z"⟩ ⟨"ClawBoxes", "paysByLots", "(IZ)Z"⟩) ∈ gt := gt_sel 4 (by decide +kernel) (by decide +kernel)
theorem gs_5 : (Cond.selects "ClawBoxes" ⟨"ClawBoxes", "firstStrange", "(LClawBoxes$Code;)I"⟩ ⟨"ClawBoxes", "firstStrange", "(LClawBoxes$Code;)I"⟩) ∈ gt := gt_sel 5 (by decide +kernel) (by decide +kernel)
theorem gs_6 : (Cond.selects "ClawBoxes" ⟨"ClawBoxes", "couldCome", "(LClawBoxes$Code;LClawBoxes$Try;)Z"⟩ ⟨"ClawBoxes", "couldCome", "(LClawBoxes$Code;LClawBoxes$Try;)Z"⟩) ∈ gt := gt_sel 6 (by decide +kernel) (by decide +kernel)
theorem gs_7 : (Cond.selects "java/lang/Throwable" ⟨"java/lang/Throwable", "fillInStackTrace", "(I)Ljava/lang/Throwable;"⟩ ⟨"java/lang/Throwable", "fillInStackTrace", "(I)Ljava/lang/Throwable;"⟩) ∈ gt := gt_sel 7 (by decide +kernel) (by decide +kernel)
theorem gs_8 : (Cond.selects "ClawBoxes$Reader" ⟨"ClawBoxes$Reader", "condition", "()Z"⟩ ⟨"ClawBoxes$Reader", "condition", "()Z"⟩) ∈ gt := gt_sel 8 (by decide +kernel) (by decide +kernel)
theorem gs_9 : (Cond.selects "ClawBoxes$Reader" ⟨"ClawBoxes$Reader", "claim", "()Z"⟩ ⟨"ClawBoxes$Reader", "claim", "()Z"⟩) ∈ gt := gt_sel 9 (by decide +kernel) (by decide +kernel)
theorem gs_10 : (Cond.selects "ClawBoxes$Reader" ⟨"ClawBoxes$Reader", "denial", "()Z"⟩ ⟨"ClawBoxes$Reader", "denial", "()Z"⟩) ∈ gt := gt_sel 10 (by decide +kernel) (by decide +kernel)
theorem gs_11 : (Cond.selects "ClawBoxes$Reader" ⟨"ClawBoxes$Reader", "sum", "()Z"⟩ ⟨"ClawBoxes$Reader", "sum", "()Z"⟩) ∈ gt := gt_sel 11 (by decide +kernel) (by decide +kernel)
theorem gs_12 : (Cond.selects "ClawBoxes$Reader" ⟨"ClawBoxes$Reader", "unit", "()Z"⟩ ⟨"ClawBoxes$Reader", "unit", "()Z"⟩) ∈ gt := gt_sel 12 (by decide +kernel) (by decide +kernel)
theorem gs_13 : (Cond.selects "ClawBoxes$Reader" ⟨"ClawBoxes$Reader", "choice", "(I)Z"⟩ ⟨"ClawBoxes$Reader", "choice", "(I)Z"⟩) ∈ gt := gt_sel 13 (by decide +kernel) (by decide +kernel)
theorem gs_14 : (Cond.selects "ClawBoxes" ⟨"ClawBoxes", "keepLaw", "()I"⟩ ⟨"ClawBoxes", "keepLaw", "()I"⟩) ∈ gt := gt_sel 14 (by decide +kernel) (by decide +kernel)
theorem gs_15 : (Cond.selects "ClawBoxes" ⟨"ClawBoxes", "keepProgram", "()I"⟩ ⟨"ClawBoxes", "keepProgram", "()I"⟩) ∈ gt := gt_sel 15 (by decide +kernel) (by decide +kernel)
theorem gs_16 : (Cond.selects "ClawBoxes" ⟨"ClawBoxes", "tryAt", "(I)I"⟩ ⟨"ClawBoxes", "tryAt", "(I)I"⟩) ∈ gt := gt_sel 16 (by decide +kernel) (by decide +kernel)
theorem gs_17 : (Cond.selects "ClawBoxes" ⟨"ClawBoxes", "pays", "(LClawBoxes$Box;III)Z"⟩ ⟨"ClawBoxes", "pays", "(LClawBoxes$Box;III)Z"⟩) ∈ gt := gt_sel 17 (by decide +kernel) (by decide +kernel)
theorem gs_18 : (Cond.selects "ClawBoxes" ⟨"ClawBoxes", "tryOnCopy", "(I)I"⟩ ⟨"ClawBoxes", "tryOnCopy", "(I)I"⟩) ∈ gt := gt_sel 18 (by decide +kernel) (by decide +kernel)
theorem gs_19 : (Cond.selects "ClawBoxes" ⟨"ClawBoxes", "probeCopy", "(I)V"⟩ ⟨"ClawBoxes", "probeCopy", "(I)V"⟩) ∈ gt := gt_sel 19 (by decide +kernel) (by decide +kernel)
theorem gs_20 : (Cond.selects "ClawBoxes" ⟨"ClawBoxes", "worthOnCopy", "(I)I"⟩ ⟨"ClawBoxes", "worthOnCopy", "(I)I"⟩) ∈ gt := gt_sel 20 (by decide +kernel) (by decide +kernel)
theorem gs_21 : (Cond.selects "ClawBoxes" ⟨"ClawBoxes", "cellsPaying", "(II)I"⟩ ⟨"ClawBoxes", "cellsPaying", "(II)I"⟩) ∈ gt := gt_sel 21 (by decide +kernel) (by decide +kernel)
theorem gs_22 : (Cond.selects "ClawBoxesModel" ⟨"ClawBoxesModel", "bad", "(ZI)Z"⟩ ⟨"ClawBoxesModel", "bad", "(ZI)Z"⟩) ∈ gt := gt_sel 22 (by decide +kernel) (by decide +kernel)
theorem gs_23 : (Cond.selects "ClawBoxesModel" ⟨"ClawBoxesModel", "walksLaw", "()Z"⟩ ⟨"ClawBoxesModel", "walksLaw", "()Z"⟩) ∈ gt := gt_sel 23 (by decide +kernel) (by decide +kernel)
theorem gs_24 : (Cond.selects "ClawBoxesModel" ⟨"ClawBoxesModel", "ors", "()Z"⟩ ⟨"ClawBoxesModel", "ors", "()Z"⟩) ∈ gt := gt_sel 24 (by decide +kernel) (by decide +kernel)
theorem gs_25 : (Cond.selects "ClawBoxesModel" ⟨"ClawBoxesModel", "ands", "()Z"⟩ ⟨"ClawBoxesModel", "ands", "()Z"⟩) ∈ gt := gt_sel 25 (by decide +kernel) (by decide +kernel)
theorem gs_26 : (Cond.selects "ClawBoxesModel" ⟨"ClawBoxesModel", "test", "()Z"⟩ ⟨"ClawBoxesModel", "test", "()Z"⟩) ∈ gt := gt_sel 26 (by decide +kernel) (by decide +kernel)
theorem gs_27 : (Cond.selects "ClawBoxesModel" ⟨"ClawBoxesModel", "isWord", "(IIIII)Z"⟩ ⟨"ClawBoxesModel", "isWord", "(IIIII)Z"⟩) ∈ gt := gt_sel 27 (by decide +kernel) (by decide +kernel)
theorem gs_28 : (Cond.selects "ClawBoxesModel" ⟨"ClawBoxesModel", "wordHere", "()I"⟩ ⟨"ClawBoxesModel", "wordHere", "()I"⟩) ∈ gt := gt_sel 28 (by decide +kernel) (by decide +kernel)
theorem gs_29 : (Cond.selects "ClawBoxesModel" ⟨"ClawBoxesModel", "blanks", "()V"⟩ ⟨"ClawBoxesModel", "blanks", "()V"⟩) ∈ gt := gt_sel 29 (by decide +kernel) (by decide +kernel)
theorem gs_30 : (Cond.selects "ClawBoxesModel" ⟨"ClawBoxesModel", "byteAt", "(I)I"⟩ ⟨"ClawBoxesModel", "byteAt", "(I)I"⟩) ∈ gt := gt_sel 30 (by decide +kernel) (by decide +kernel)
theorem gs_31 : (Cond.selects "ClawBoxesModel" ⟨"ClawBoxesModel", "opens", "(I)V"⟩ ⟨"ClawBoxesModel", "opens", "(I)V"⟩) ∈ gt := gt_sel 31 (by decide +kernel) (by decide +kernel)
theorem gs_32 : (Cond.selects "ClawBoxesModel" ⟨"ClawBoxesModel", "wrong", "(II)V"⟩ ⟨"ClawBoxesModel", "wrong", "(II)V"⟩) ∈ gt := gt_sel 32 (by decide +kernel) (by decide +kernel)
theorem gs_33 : (Cond.selects "ClawBoxesModel" ⟨"ClawBoxesModel", "sign", "(I)V"⟩ ⟨"ClawBoxesModel", "sign", "(I)V"⟩) ∈ gt := gt_sel 33 (by decide +kernel) (by decide +kernel)
theorem gs_34 : (Cond.selects "ClawBoxesModel" ⟨"ClawBoxesModel", "sum", "()I"⟩ ⟨"ClawBoxesModel", "sum", "()I"⟩) ∈ gt := gt_sel 34 (by decide +kernel) (by decide +kernel)
theorem gs_35 : (Cond.selects "ClawBoxesModel" ⟨"ClawBoxesModel", "product", "()I"⟩ ⟨"ClawBoxesModel", "product", "()I"⟩) ∈ gt := gt_sel 35 (by decide +kernel) (by decide +kernel)
theorem gs_36 : (Cond.selects "ClawBoxesModel" ⟨"ClawBoxesModel", "unit", "()I"⟩ ⟨"ClawBoxesModel", "unit", "()I"⟩) ∈ gt := gt_sel 36 (by decide +kernel) (by decide +kernel)
theorem gs_37 : (Cond.selects "ClawBoxesModel" ⟨"ClawBoxesModel", "number", "()I"⟩ ⟨"ClawBoxesModel", "number", "()I"⟩) ∈ gt := gt_sel 37 (by decide +kernel) (by decide +kernel)
theorem gs_38 : (Cond.selects "ClawBoxesModel" ⟨"ClawBoxesModel", "nameHere", "()I"⟩ ⟨"ClawBoxesModel", "nameHere", "()I"⟩) ∈ gt := gt_sel 38 (by decide +kernel) (by decide +kernel)
theorem gs_39 : (Cond.selects "ClawBoxesModel" ⟨"ClawBoxesModel", "skipWord", "()V"⟩ ⟨"ClawBoxesModel", "skipWord", "()V"⟩) ∈ gt := gt_sel 39 (by decide +kernel) (by decide +kernel)
theorem gs_40 : (Cond.selects "ClawBoxesModel" ⟨"ClawBoxesModel", "walks", "()V"⟩ ⟨"ClawBoxesModel", "walks", "()V"⟩) ∈ gt := gt_sel 40 (by decide +kernel) (by decide +kernel)
theorem gs_41 : (Cond.selects "ClawBoxesModel" ⟨"ClawBoxesModel", "clause", "()V"⟩ ⟨"ClawBoxesModel", "clause", "()V"⟩) ∈ gt := gt_sel 41 (by decide +kernel) (by decide +kernel)
theorem gs_42 : (Cond.selects "ClawBoxesModel" ⟨"ClawBoxesModel", "namesOf", "(I)V"⟩ ⟨"ClawBoxesModel", "namesOf", "(I)V"⟩) ∈ gt := gt_sel 42 (by decide +kernel) (by decide +kernel)
theorem gs_43 : (Cond.selects "ClawBoxesModel" ⟨"ClawBoxesModel", "lotsBy", "(I)I"⟩ ⟨"ClawBoxesModel", "lotsBy", "(I)I"⟩) ∈ gt := gt_sel 43 (by decide +kernel) (by decide +kernel)
theorem gs_44 : (Cond.selects "ClawBoxesModel" ⟨"ClawBoxesModel", "tellsBy", "(II)V"⟩ ⟨"ClawBoxesModel", "tellsBy", "(II)V"⟩) ∈ gt := gt_sel 44 (by decide +kernel) (by decide +kernel)
theorem gs_45 : (Cond.selects "ClawBoxesModel" ⟨"ClawBoxesModel", "reads", "(I)V"⟩ ⟨"ClawBoxesModel", "reads", "(I)V"⟩) ∈ gt := gt_sel 45 (by decide +kernel) (by decide +kernel)
theorem gs_46 : (Cond.selects "ClawBoxesModel" ⟨"ClawBoxesModel", "puts", "(II)V"⟩ ⟨"ClawBoxesModel", "puts", "(II)V"⟩) ∈ gt := gt_sel 46 (by decide +kernel) (by decide +kernel)
theorem gs_47 : (Cond.selects "ClawBoxesModel" ⟨"ClawBoxesModel", "goes", "(II)V"⟩ ⟨"ClawBoxesModel", "goes", "(II)V"⟩) ∈ gt := gt_sel 47 (by decide +kernel) (by decide +kernel)
theorem gs_48 : (Cond.selects "ClawBoxesModel" ⟨"ClawBoxesModel", "levelOf", "(I)I"⟩ ⟨"ClawBoxesModel", "levelOf", "(I)I"⟩) ∈ gt := gt_sel 48 (by decide +kernel) (by decide +kernel)
theorem gs_49 : (Cond.selects "ClawBoxesModel" ⟨"ClawBoxesModel", "topOf", "(I)I"⟩ ⟨"ClawBoxesModel", "topOf", "(I)I"⟩) ∈ gt := gt_sel 49 (by decide +kernel) (by decide +kernel)
theorem gs_50 : (Cond.selects "ClawBoxesModel" ⟨"ClawBoxesModel", "attemptAt", "(I)I"⟩ ⟨"ClawBoxesModel", "attemptAt", "(I)I"⟩) ∈ gt := gt_sel 50 (by decide +kernel) (by decide +kernel)
theorem gs_51 : (Cond.selects "ClawBoxesModel" ⟨"ClawBoxesModel", "canNow", "(Z)I"⟩ ⟨"ClawBoxesModel", "canNow", "(Z)I"⟩) ∈ gt := gt_sel 51 (by decide +kernel) (by decide +kernel)
theorem gs_52 : (Cond.selects "ClawBoxesModel" ⟨"ClawBoxesModel", "wouldBe", "(III)I"⟩ ⟨"ClawBoxesModel", "wouldBe", "(III)I"⟩) ∈ gt := gt_sel 52 (by decide +kernel) (by decide +kernel)
theorem gs_53 : (Cond.selects "ClawBoxesModel" ⟨"ClawBoxesModel", "grips", "(I)V"⟩ ⟨"ClawBoxesModel", "grips", "(I)V"⟩) ∈ gt := gt_sel 53 (by decide +kernel) (by decide +kernel)
theorem gs_54 : (Cond.selects "ClawBoxesModel" ⟨"ClawBoxesModel", "takes", "(I)V"⟩ ⟨"ClawBoxesModel", "takes", "(I)V"⟩) ∈ gt := gt_sel 54 (by decide +kernel) (by decide +kernel)
theorem gs_55 : (Cond.selects "ClawBoxesModel" ⟨"ClawBoxesModel", "judged", "(IIIIII)I"⟩ ⟨"ClawBoxesModel", "judged", "(IIIIII)I"⟩) ∈ gt := gt_sel 55 (by decide +kernel) (by decide +kernel)
theorem gs_56 : (Cond.selects "ClawBoxesModel" ⟨"ClawBoxesModel", "draw", "(I)I"⟩ ⟨"ClawBoxesModel", "draw", "(I)I"⟩) ∈ gt := gt_sel 56 (by decide +kernel) (by decide +kernel)
theorem gs_57 : (Cond.selects "ClawBoxesModel" ⟨"ClawBoxesModel", "triesAt", "(II)V"⟩ ⟨"ClawBoxesModel", "triesAt", "(II)V"⟩) ∈ gt := gt_sel 57 (by decide +kernel) (by decide +kernel)
theorem gs_58 : (Cond.selects "ClawBoxesModel" ⟨"ClawBoxesModel", "isHand", "(I)Z"⟩ ⟨"ClawBoxesModel", "isHand", "(I)Z"⟩) ∈ gt := gt_sel 58 (by decide +kernel) (by decide +kernel)
theorem gs_59 : (Cond.selects "ClawBoxesModel" ⟨"ClawBoxesModel", "weightsOf", "(I)I"⟩ ⟨"ClawBoxesModel", "weightsOf", "(I)I"⟩) ∈ gt := gt_sel 59 (by decide +kernel) (by decide +kernel)
theorem gs_60 : (Cond.selects "ClawBoxesModel" ⟨"ClawBoxesModel", "isPaidBy", "(III)Z"⟩ ⟨"ClawBoxesModel", "isPaidBy", "(III)Z"⟩) ∈ gt := gt_sel 60 (by decide +kernel) (by decide +kernel)
theorem gs_61 : (Cond.selects "ClawBoxesModel" ⟨"ClawBoxesModel", "strangeBy", "(I)I"⟩ ⟨"ClawBoxesModel", "strangeBy", "(I)I"⟩) ∈ gt := gt_sel 61 (by decide +kernel) (by decide +kernel)
theorem gs_62 : (Cond.selects "ClawBoxesModel" ⟨"ClawBoxesModel", "couldBe", "(I[I)Z"⟩ ⟨"ClawBoxesModel", "couldBe", "(I[I)Z"⟩) ∈ gt := gt_sel 62 (by decide +kernel) (by decide +kernel)
theorem gs_63 : (Cond.selects "ClawBoxesModel" ⟨"ClawBoxesModel", "worthOf", "(III)I"⟩ ⟨"ClawBoxesModel", "worthOf", "(III)I"⟩) ∈ gt := gt_sel 63 (by decide +kernel) (by decide +kernel)
theorem gs_64 : (Cond.selects "ClawBoxesModel" ⟨"ClawBoxesModel", "lays", "(I)V"⟩ ⟨"ClawBoxesModel", "lays", "(I)V"⟩) ∈ gt := gt_sel 64 (by decide +kernel) (by decide +kernel)
theorem gs_65 : (Cond.selects "ClawBoxesModel" ⟨"ClawBoxesModel", "laysBack", "(I)V"⟩ ⟨"ClawBoxesModel", "laysBack", "(I)V"⟩) ∈ gt := gt_sel 65 (by decide +kernel) (by decide +kernel)
theorem gs_66 : (Cond.selects "ClawBoxesModel" ⟨"ClawBoxesModel", "weightFor", "(II)I"⟩ ⟨"ClawBoxesModel", "weightFor", "(II)I"⟩) ∈ gt := gt_sel 66 (by decide +kernel) (by decide +kernel)
theorem gs_67 : (Cond.selects "ClawBoxesModel" ⟨"ClawBoxesModel", "lying", "(I)I"⟩ ⟨"ClawBoxesModel", "lying", "(I)I"⟩) ∈ gt := gt_sel 67 (by decide +kernel) (by decide +kernel)
