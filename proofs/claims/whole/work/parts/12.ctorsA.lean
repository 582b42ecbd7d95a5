theorem Cw.intro {w : Wp} {H0 : Heap} {a k : Nat} {X : List (Nat × va_E)} {H : Heap} {locs : List Loc} {e : va_E} (h : Cw w H0 a X H locs) (he : gx w X k = e) : Cw w H0 a ((k, e) :: X) H locs := h.eq fun q hq => by
  by_cases h1 : k = q
  · subst h1
    rw [gx_s, he]
  · rw [gx_n h1]
theorem xl_up {X : List (Nat × va_E)} {a : Nat} (h : ∀ q, a < q → xl X q = none) {k : Nat} (e : va_E) (hk : k ≤ a) : ∀ q, a < q → xl ((k, e) :: X) q = none := fun q hq => by rw [xl_n (by omega)]; exact h q hq

theorem mv_1_1 : (Jvm.Cond.initialized "NextNames") ∈ lw_tbl := mT_1 _ (List.mem_of_getElem? (i := 1) rfl)
theorem mv_1_2 : (Jvm.Cond.initialized "NextNames$Rows") ∈ lw_tbl := mT_1 _ (List.mem_of_getElem? (i := 2) rfl)
theorem mv_1_3 : (Jvm.Cond.initialized "NextNames$Reader") ∈ lw_tbl := mT_1 _ (List.mem_of_getElem? (i := 3) rfl)
theorem mv_1_4 : (Jvm.Cond.initialized "NextNames$Land") ∈ lw_tbl := mT_1 _ (List.mem_of_getElem? (i := 4) rfl)
theorem mv_1_5 : (Jvm.Cond.initialized "NextNames$Acts") ∈ lw_tbl := mT_1 _ (List.mem_of_getElem? (i := 5) rfl)
theorem mv_1_6 : (Jvm.Cond.initialized "NextNames$Fate") ∈ lw_tbl := mT_1 _ (List.mem_of_getElem? (i := 6) rfl)
theorem mv_1_7 : (Jvm.Cond.initialized "NextNames$Keeper") ∈ lw_tbl := mT_1 _ (List.mem_of_getElem? (i := 7) rfl)
theorem mv_1_8 : (Jvm.Cond.initialized "NextNames$Asker") ∈ lw_tbl := mT_1 _ (List.mem_of_getElem? (i := 8) rfl)
theorem mv_1_9 : (Jvm.Cond.initialized "NextNamesModel") ∈ lw_tbl := mT_1 _ (List.mem_of_getElem? (i := 9) rfl)
theorem mv_1_12 : (Jvm.Cond.classLink "NextNamesLaw" (7 : Nat) "NextNames") ∈ lw_tbl := mT_1 _ (List.mem_of_getElem? (i := 12) rfl)
theorem mv_1_13 : (Jvm.Cond.instantiable "NextNames" (11 : Nat)) ∈ lw_tbl := mT_1 _ (List.mem_of_getElem? (i := 13) rfl)
theorem mv_1_14 : (Jvm.Cond.methodLink "NextNamesLaw" (9 : Nat) ({ cls := "NextNames", name := "<init>", desc := "()V" } : Jvm.MethodName)) ∈ lw_tbl := mT_1 _ (List.mem_of_getElem? (i := 14) rfl)
theorem mv_1_15 : (Jvm.Cond.instanceMethod ({ cls := "NextNames", name := "<init>", desc := "()V" } : Jvm.MethodName)) ∈ lw_tbl := mT_1 _ (List.mem_of_getElem? (i := 15) rfl)
theorem mv_1_16 : (Jvm.Cond.code ({ cls := "NextNames", name := "<init>", desc := "()V" } : Jvm.MethodName) prog_1_method_1_code (2 : Nat) (Option.none : Option Jvm.ClassFile.FieldType)) ∈ lw_tbl := mT_1 _ (List.mem_of_getElem? (i := 16) rfl)
theorem mv_1_17 : (Jvm.Cond.methodLink "NextNames" (3 : Nat) ({ cls := "java/lang/Object", name := "<init>", desc := "()V" } : Jvm.MethodName)) ∈ lw_tbl := mT_1 _ (List.mem_of_getElem? (i := 17) rfl)
theorem mv_1_18 : (Jvm.Cond.instanceMethod ({ cls := "java/lang/Object", name := "<init>", desc := "()V" } : Jvm.MethodName)) ∈ lw_tbl := mT_1 _ (List.mem_of_getElem? (i := 18) rfl)
theorem mv_1_19 : (Jvm.Cond.code ({ cls := "java/lang/Object", name := "<init>", desc := "()V" } : Jvm.MethodName) object_method_1_code (1 : Nat) (Option.none : Option Jvm.ClassFile.FieldType)) ∈ lw_tbl := mT_1 _ (List.mem_of_getElem? (i := 19) rfl)
theorem mv_1_20 : (Jvm.Cond.classLink "NextNames" (9 : Nat) "NextNames$Rows") ∈ lw_tbl := mT_1 _ (List.mem_of_getElem? (i := 20) rfl)
theorem mv_1_21 : (Jvm.Cond.instantiable "NextNames$Rows" (3 : Nat)) ∈ lw_tbl := mT_1 _ (List.mem_of_getElem? (i := 21) rfl)
theorem mv_1_22 : (Jvm.Cond.methodLink "NextNames" (11 : Nat) ({ cls := "NextNames$Rows", name := "<init>", desc := "()V" } : Jvm.MethodName)) ∈ lw_tbl := mT_1 _ (List.mem_of_getElem? (i := 22) rfl)
theorem mv_1_23 : (Jvm.Cond.instanceMethod ({ cls := "NextNames$Rows", name := "<init>", desc := "()V" } : Jvm.MethodName)) ∈ lw_tbl := mT_1 _ (List.mem_of_getElem? (i := 23) rfl)
theorem mv_1_24 : (Jvm.Cond.code ({ cls := "NextNames$Rows", name := "<init>", desc := "()V" } : Jvm.MethodName) prog_8_method_1_code (2 : Nat) (Option.none : Option Jvm.ClassFile.FieldType)) ∈ lw_tbl := mT_1 _ (List.mem_of_getElem? (i := 24) rfl)
theorem mv_1_25 : (Jvm.Cond.methodLink "NextNames$Rows" (3 : Nat) ({ cls := "java/lang/Object", name := "<init>", desc := "()V" } : Jvm.MethodName)) ∈ lw_tbl := mT_1 _ (List.mem_of_getElem? (i := 25) rfl)
theorem mv_1_26 : (Jvm.Cond.fieldLink "NextNames$Rows" (9 : Nat) "NextNames$Rows" "items" "[I") ∈ lw_tbl := mT_1 _ (List.mem_of_getElem? (i := 26) rfl)
theorem mv_1_27 : (Jvm.Cond.fieldLink "NextNames$Rows" (15 : Nat) "NextNames$Rows" "lanes" "[I") ∈ lw_tbl := mT_1 _ (List.mem_of_getElem? (i := 27) rfl)
theorem mv_1_28 : (Jvm.Cond.fieldLink "NextNames$Rows" (18 : Nat) "NextNames$Rows" "sizes" "[I") ∈ lw_tbl := mT_1 _ (List.mem_of_getElem? (i := 28) rfl)
theorem mv_1_36 : (Jvm.Cond.arrayClass Jvm.ClassFile.FieldType.int) ∈ lw_tbl := mT_1 _ (List.mem_of_getElem? (i := 36) rfl)
theorem mv_1_37 : (Jvm.Cond.classLink "NextNames" (16 : Nat) "NextNames$Reader") ∈ lw_tbl := mT_1 _ (List.mem_of_getElem? (i := 37) rfl)
theorem mv_1_38 : (Jvm.Cond.instantiable "NextNames$Reader" (10 : Nat)) ∈ lw_tbl := mT_1 _ (List.mem_of_getElem? (i := 38) rfl)
theorem mv_1_40 : (Jvm.Cond.instanceMethod ({ cls := "NextNames$Reader", name := "<init>", desc := "()V" } : Jvm.MethodName)) ∈ lw_tbl := mT_1 _ (List.mem_of_getElem? (i := 40) rfl)
theorem mv_1_41 : (Jvm.Cond.code ({ cls := "NextNames$Reader", name := "<init>", desc := "()V" } : Jvm.MethodName) prog_7_method_1_code (1 : Nat) (Option.none : Option Jvm.ClassFile.FieldType)) ∈ lw_tbl := mT_1 _ (List.mem_of_getElem? (i := 41) rfl)
theorem mv_1_42 : (Jvm.Cond.methodLink "NextNames$Reader" (3 : Nat) ({ cls := "java/lang/Object", name := "<init>", desc := "()V" } : Jvm.MethodName)) ∈ lw_tbl := mT_1 _ (List.mem_of_getElem? (i := 42) rfl)
theorem mv_1_43 : (Jvm.Cond.classLink "NextNames$Reader" (15 : Nat) "NextNames$Land") ∈ lw_tbl := mT_1 _ (List.mem_of_getElem? (i := 43) rfl)
theorem mv_1_44 : (Jvm.Cond.instantiable "NextNames$Land" (15 : Nat)) ∈ lw_tbl := mT_1 _ (List.mem_of_getElem? (i := 44) rfl)
theorem mv_1_46 : (Jvm.Cond.instanceMethod ({ cls := "NextNames$Land", name := "<init>", desc := "()V" } : Jvm.MethodName)) ∈ lw_tbl := mT_1 _ (List.mem_of_getElem? (i := 46) rfl)
theorem mv_1_47 : (Jvm.Cond.code ({ cls := "NextNames$Land", name := "<init>", desc := "()V" } : Jvm.MethodName) prog_6_method_1_code (1 : Nat) (Option.none : Option Jvm.ClassFile.FieldType)) ∈ lw_tbl := mT_1 _ (List.mem_of_getElem? (i := 47) rfl)
theorem mv_1_48 : (Jvm.Cond.methodLink "NextNames$Land" (3 : Nat) ({ cls := "java/lang/Object", name := "<init>", desc := "()V" } : Jvm.MethodName)) ∈ lw_tbl := mT_1 _ (List.mem_of_getElem? (i := 48) rfl)
theorem mv_1_73 : (Jvm.Cond.fieldLink "NextNames$Land" (9 : Nat) "NextNames$Land" "thingAt" "[I") ∈ lw_tbl := mT_1 _ (List.mem_of_getElem? (i := 73) rfl)
theorem mv_1_77 : (Jvm.Cond.fieldLink "NextNames$Land" (15 : Nat) "NextNames$Land" "goes" "[I") ∈ lw_tbl := mT_1 _ (List.mem_of_getElem? (i := 77) rfl)
theorem mv_1_81 : (Jvm.Cond.fieldLink "NextNames$Land" (18 : Nat) "NextNames$Land" "sort" "[I") ∈ lw_tbl := mT_1 _ (List.mem_of_getElem? (i := 81) rfl)
theorem mv_1_86 : (Jvm.Cond.fieldLink "NextNames$Land" (21 : Nat) "NextNames$Land" "name" "[I") ∈ lw_tbl := mT_1 _ (List.mem_of_getElem? (i := 86) rfl)
theorem mv_1_91 : (Jvm.Cond.fieldLink "NextNames$Land" (24 : Nat) "NextNames$Land" "place" "[I") ∈ lw_tbl := mT_1 _ (List.mem_of_getElem? (i := 91) rfl)
theorem mv_1_97 : (Jvm.Cond.fieldLink "NextNames$Land" (27 : Nat) "NextNames$Land" "step" "[I") ∈ lw_tbl := mT_1 _ (List.mem_of_getElem? (i := 97) rfl)
theorem mv_1_101 : (Jvm.Cond.fieldLink "NextNames$Land" (30 : Nat) "NextNames$Land" "keptFor" "[I") ∈ lw_tbl := mT_1 _ (List.mem_of_getElem? (i := 101) rfl)
theorem mv_1_105 : (Jvm.Cond.fieldLink "NextNames$Land" (33 : Nat) "NextNames$Land" "diedOn" "[I") ∈ lw_tbl := mT_1 _ (List.mem_of_getElem? (i := 105) rfl)
theorem mv_1_139 : (Jvm.Cond.fieldLink "NextNames$Reader" (9 : Nat) "NextNames$Reader" "tape" "[I") ∈ lw_tbl := mT_1 _ (List.mem_of_getElem? (i := 139) rfl)
theorem mv_1_140 : (Jvm.Cond.fieldLink "NextNames$Reader" (18 : Nat) "NextNames$Reader" "draft" "LNextNames$Land;") ∈ lw_tbl := mT_1 _ (List.mem_of_getElem? (i := 140) rfl)
theorem mv_1_174 : (Jvm.Cond.classLink "NextNames" (23 : Nat) "NextNames$Land") ∈ lw_tbl := mT_1 _ (List.mem_of_getElem? (i := 174) rfl)
theorem mv_1_176 : (Jvm.Cond.arrayOver (Jvm.ClassFile.FieldType.object "NextNames$Land")) ∈ lw_tbl := mT_1 _ (List.mem_of_getElem? (i := 176) rfl)
theorem mv_1_177 : (Jvm.Cond.classLink "NextNames" (37 : Nat) "NextNames$Acts") ∈ lw_tbl := mT_1 _ (List.mem_of_getElem? (i := 177) rfl)
theorem mv_1_178 : (Jvm.Cond.instantiable "NextNames$Acts" (3 : Nat)) ∈ lw_tbl := mT_1 _ (List.mem_of_getElem? (i := 178) rfl)
theorem mv_1_179 : (Jvm.Cond.methodLink "NextNames" (39 : Nat) ({ cls := "NextNames$Acts", name := "<init>", desc := "()V" } : Jvm.MethodName)) ∈ lw_tbl := mT_1 _ (List.mem_of_getElem? (i := 179) rfl)
theorem mv_1_180 : (Jvm.Cond.instanceMethod ({ cls := "NextNames$Acts", name := "<init>", desc := "()V" } : Jvm.MethodName)) ∈ lw_tbl := mT_1 _ (List.mem_of_getElem? (i := 180) rfl)
theorem mv_1_181 : (Jvm.Cond.code ({ cls := "NextNames$Acts", name := "<init>", desc := "()V" } : Jvm.MethodName) prog_2_method_1_code (2 : Nat) (Option.none : Option Jvm.ClassFile.FieldType)) ∈ lw_tbl := mT_1 _ (List.mem_of_getElem? (i := 181) rfl)
theorem mv_1_182 : (Jvm.Cond.methodLink "NextNames$Acts" (3 : Nat) ({ cls := "java/lang/Object", name := "<init>", desc := "()V" } : Jvm.MethodName)) ∈ lw_tbl := mT_1 _ (List.mem_of_getElem? (i := 182) rfl)
theorem mv_1_183 : (Jvm.Cond.classLink "NextNames$Acts" (9 : Nat) "NextNames$Land") ∈ lw_tbl := mT_1 _ (List.mem_of_getElem? (i := 183) rfl)
theorem mv_1_185 : (Jvm.Cond.fieldLink "NextNames$Acts" (11 : Nat) "NextNames$Acts" "before" "[LNextNames$Land;") ∈ lw_tbl := mT_1 _ (List.mem_of_getElem? (i := 185) rfl)
theorem mv_1_196 : (Jvm.Cond.classLink "NextNames" (44 : Nat) "NextNames$Fate") ∈ lw_tbl := mT_1 _ (List.mem_of_getElem? (i := 196) rfl)
theorem mv_1_197 : (Jvm.Cond.instantiable "NextNames$Fate" (10 : Nat)) ∈ lw_tbl := mT_1 _ (List.mem_of_getElem? (i := 197) rfl)
theorem mv_1_199 : (Jvm.Cond.instanceMethod ({ cls := "NextNames$Fate", name := "<init>", desc := "()V" } : Jvm.MethodName)) ∈ lw_tbl := mT_1 _ (List.mem_of_getElem? (i := 199) rfl)
theorem mv_1_200 : (Jvm.Cond.code ({ cls := "NextNames$Fate", name := "<init>", desc := "()V" } : Jvm.MethodName) prog_4_method_1_code (1 : Nat) (Option.none : Option Jvm.ClassFile.FieldType)) ∈ lw_tbl := mT_1 _ (List.mem_of_getElem? (i := 200) rfl)
theorem mv_1_201 : (Jvm.Cond.methodLink "NextNames$Fate" (3 : Nat) ({ cls := "java/lang/Object", name := "<init>", desc := "()V" } : Jvm.MethodName)) ∈ lw_tbl := mT_1 _ (List.mem_of_getElem? (i := 201) rfl)
theorem mv_2_8 : (Jvm.Cond.classLink "NextNames" (54 : Nat) "NextNames$Keeper") ∈ lw_tbl := mT_2 _ (List.mem_of_getElem? (i := 8) rfl)
theorem mv_2_9 : (Jvm.Cond.instantiable "NextNames$Keeper" (5 : Nat)) ∈ lw_tbl := mT_2 _ (List.mem_of_getElem? (i := 9) rfl)
theorem mv_2_11 : (Jvm.Cond.instanceMethod ({ cls := "NextNames$Keeper", name := "<init>", desc := "()V" } : Jvm.MethodName)) ∈ lw_tbl := mT_2 _ (List.mem_of_getElem? (i := 11) rfl)
theorem mv_2_12 : (Jvm.Cond.code ({ cls := "NextNames$Keeper", name := "<init>", desc := "()V" } : Jvm.MethodName) prog_5_method_1_code (1 : Nat) (Option.none : Option Jvm.ClassFile.FieldType)) ∈ lw_tbl := mT_2 _ (List.mem_of_getElem? (i := 12) rfl)
theorem mv_2_13 : (Jvm.Cond.methodLink "NextNames$Keeper" (5 : Nat) ({ cls := "java/lang/Object", name := "<init>", desc := "()V" } : Jvm.MethodName)) ∈ lw_tbl := mT_2 _ (List.mem_of_getElem? (i := 13) rfl)
theorem mv_2_14 : (Jvm.Cond.classLink "NextNames$Keeper" (11 : Nat) "NextNames$Fate") ∈ lw_tbl := mT_2 _ (List.mem_of_getElem? (i := 14) rfl)
theorem mv_2_16 : (Jvm.Cond.fieldLink "NextNames$Keeper" (14 : Nat) "NextNames$Keeper" "fate" "LNextNames$Fate;") ∈ lw_tbl := mT_2 _ (List.mem_of_getElem? (i := 16) rfl)
theorem mv_2_17 : (Jvm.Cond.fieldLink "NextNames$Keeper" (18 : Nat) "NextNames$Keeper" "costs" "[I") ∈ lw_tbl := mT_2 _ (List.mem_of_getElem? (i := 17) rfl)
theorem mv_2_18 : (Jvm.Cond.fieldLink "NextNames$Keeper" (22 : Nat) "NextNames$Keeper" "laterCosts" "[I") ∈ lw_tbl := mT_2 _ (List.mem_of_getElem? (i := 18) rfl)
theorem mv_2_34 : (Jvm.Cond.classLink "NextNames" (61 : Nat) "NextNames$Asker") ∈ lw_tbl := mT_2 _ (List.mem_of_getElem? (i := 34) rfl)
theorem mv_2_35 : (Jvm.Cond.instantiable "NextNames$Asker" (6 : Nat)) ∈ lw_tbl := mT_2 _ (List.mem_of_getElem? (i := 35) rfl)
theorem mv_2_37 : (Jvm.Cond.instanceMethod ({ cls := "NextNames$Asker", name := "<init>", desc := "()V" } : Jvm.MethodName)) ∈ lw_tbl := mT_2 _ (List.mem_of_getElem? (i := 37) rfl)
theorem mv_2_38 : (Jvm.Cond.code ({ cls := "NextNames$Asker", name := "<init>", desc := "()V" } : Jvm.MethodName) prog_3_method_1_code (1 : Nat) (Option.none : Option Jvm.ClassFile.FieldType)) ∈ lw_tbl := mT_2 _ (List.mem_of_getElem? (i := 38) rfl)
theorem mv_2_39 : (Jvm.Cond.methodLink "NextNames$Asker" (3 : Nat) ({ cls := "java/lang/Object", name := "<init>", desc := "()V" } : Jvm.MethodName)) ∈ lw_tbl := mT_2 _ (List.mem_of_getElem? (i := 39) rfl)
theorem mv_2_40 : (Jvm.Cond.fieldLink "NextNames$Asker" (9 : Nat) "NextNames$Asker" "left" "[I") ∈ lw_tbl := mT_2 _ (List.mem_of_getElem? (i := 40) rfl)
theorem mv_2_61 : (Jvm.Cond.fieldLink "NextNames" (12 : Nat) "NextNames" "rows" "LNextNames$Rows;") ∈ lw_tbl := mT_2 _ (List.mem_of_getElem? (i := 61) rfl)
theorem mv_2_62 : (Jvm.Cond.fieldLink "NextNames" (19 : Nat) "NextNames" "reader" "LNextNames$Reader;") ∈ lw_tbl := mT_2 _ (List.mem_of_getElem? (i := 62) rfl)
theorem mv_2_63 : (Jvm.Cond.fieldLink "NextNames" (26 : Nat) "NextNames" "now" "LNextNames$Land;") ∈ lw_tbl := mT_2 _ (List.mem_of_getElem? (i := 63) rfl)
theorem mv_2_64 : (Jvm.Cond.fieldLink "NextNames" (30 : Nat) "NextNames" "trial" "LNextNames$Land;") ∈ lw_tbl := mT_2 _ (List.mem_of_getElem? (i := 64) rfl)
theorem mv_2_65 : (Jvm.Cond.fieldLink "NextNames" (33 : Nat) "NextNames" "images" "[LNextNames$Land;") ∈ lw_tbl := mT_2 _ (List.mem_of_getElem? (i := 65) rfl)
theorem mv_2_66 : (Jvm.Cond.fieldLink "NextNames" (40 : Nat) "NextNames" "acts" "LNextNames$Acts;") ∈ lw_tbl := mT_2 _ (List.mem_of_getElem? (i := 66) rfl)
theorem mv_2_67 : (Jvm.Cond.fieldLink "NextNames" (47 : Nat) "NextNames" "fate" "LNextNames$Fate;") ∈ lw_tbl := mT_2 _ (List.mem_of_getElem? (i := 67) rfl)
theorem mv_2_68 : (Jvm.Cond.fieldLink "NextNames" (51 : Nat) "NextNames" "otherFate" "LNextNames$Fate;") ∈ lw_tbl := mT_2 _ (List.mem_of_getElem? (i := 68) rfl)
theorem mv_2_69 : (Jvm.Cond.fieldLink "NextNames" (57 : Nat) "NextNames" "keeper" "LNextNames$Keeper;") ∈ lw_tbl := mT_2 _ (List.mem_of_getElem? (i := 69) rfl)
theorem mv_2_70 : (Jvm.Cond.fieldLink "NextNames" (64 : Nat) "NextNames" "asker" "LNextNames$Asker;") ∈ lw_tbl := mT_2 _ (List.mem_of_getElem? (i := 70) rfl)
theorem mv_2_71 : (Jvm.Cond.fieldLink "NextNames" (68 : Nat) "NextNames" "latestFinding" "I") ∈ lw_tbl := mT_2 _ (List.mem_of_getElem? (i := 71) rfl)
theorem mv_4_80 : (Jvm.Cond.classLink "NextNamesLaw" (10 : Nat) "NextNamesModel") ∈ lw_tbl := mT_4 _ (List.mem_of_getElem? (i := 80) rfl)
theorem mv_4_81 : (Jvm.Cond.instantiable "NextNamesModel" (23 : Nat)) ∈ lw_tbl := mT_4 _ (List.mem_of_getElem? (i := 81) rfl)
theorem mv_4_82 : (Jvm.Cond.methodLink "NextNamesLaw" (12 : Nat) ({ cls := "NextNamesModel", name := "<init>", desc := "()V" } : Jvm.MethodName)) ∈ lw_tbl := mT_4 _ (List.mem_of_getElem? (i := 82) rfl)
theorem mv_4_83 : (Jvm.Cond.instanceMethod ({ cls := "NextNamesModel", name := "<init>", desc := "()V" } : Jvm.MethodName)) ∈ lw_tbl := mT_4 _ (List.mem_of_getElem? (i := 83) rfl)
theorem mv_4_84 : (Jvm.Cond.code ({ cls := "NextNamesModel", name := "<init>", desc := "()V" } : Jvm.MethodName) prog_10_method_1_code (1 : Nat) (Option.none : Option Jvm.ClassFile.FieldType)) ∈ lw_tbl := mT_4 _ (List.mem_of_getElem? (i := 84) rfl)
theorem mv_4_85 : (Jvm.Cond.methodLink "NextNamesModel" (1 : Nat) ({ cls := "java/lang/Object", name := "<init>", desc := "()V" } : Jvm.MethodName)) ∈ lw_tbl := mT_4 _ (List.mem_of_getElem? (i := 85) rfl)
theorem mv_4_88 : (Jvm.Cond.fieldLink "NextNamesModel" (7 : Nat) "NextNamesModel" "lane" "[I") ∈ lw_tbl := mT_4 _ (List.mem_of_getElem? (i := 88) rfl)
theorem mv_4_89 : (Jvm.Cond.fieldLink "NextNamesModel" (13 : Nat) "NextNamesModel" "many" "[I") ∈ lw_tbl := mT_4 _ (List.mem_of_getElem? (i := 89) rfl)
theorem mv_4_90 : (Jvm.Cond.fieldLink "NextNamesModel" (16 : Nat) "NextNamesModel" "item" "[I") ∈ lw_tbl := mT_4 _ (List.mem_of_getElem? (i := 90) rfl)
theorem mv_4_91 : (Jvm.Cond.fieldLink "NextNamesModel" (19 : Nat) "NextNamesModel" "land" "[I") ∈ lw_tbl := mT_4 _ (List.mem_of_getElem? (i := 91) rfl)
theorem mv_4_92 : (Jvm.Cond.fieldLink "NextNamesModel" (22 : Nat) "NextNamesModel" "fresh" "[I") ∈ lw_tbl := mT_4 _ (List.mem_of_getElem? (i := 92) rfl)
theorem mv_4_93 : (Jvm.Cond.fieldLink "NextNamesModel" (25 : Nat) "NextNamesModel" "then" "[I") ∈ lw_tbl := mT_4 _ (List.mem_of_getElem? (i := 93) rfl)
theorem mv_4_94 : (Jvm.Cond.fieldLink "NextNamesModel" (28 : Nat) "NextNamesModel" "was" "[I") ∈ lw_tbl := mT_4 _ (List.mem_of_getElem? (i := 94) rfl)
theorem mv_4_96 : (Jvm.Cond.fieldLink "NextNamesModel" (31 : Nat) "NextNamesModel" "tape" "[I") ∈ lw_tbl := mT_4 _ (List.mem_of_getElem? (i := 96) rfl)
theorem mv_4_105 : (Jvm.Cond.fieldLink "NextNamesModel" (34 : Nat) "NextNamesModel" "isKept" "[Z") ∈ lw_tbl := mT_4 _ (List.mem_of_getElem? (i := 105) rfl)
theorem mv_4_106 : (Jvm.Cond.fieldLink "NextNamesModel" (38 : Nat) "NextNamesModel" "kept" "[I") ∈ lw_tbl := mT_4 _ (List.mem_of_getElem? (i := 106) rfl)
theorem mv_4_107 : (Jvm.Cond.fieldLink "NextNamesModel" (41 : Nat) "NextNamesModel" "trace" "[I") ∈ lw_tbl := mT_4 _ (List.mem_of_getElem? (i := 107) rfl)
theorem mv_4_156 : (Jvm.Cond.arrayClass Jvm.ClassFile.FieldType.boolean) ∈ lw_tbl := mT_4 _ (List.mem_of_getElem? (i := 156) rfl)
set_option maxRecDepth 100000 in
set_option maxHeartbeats 4000000 in
theorem c_X4_init (l : Launch) (w : Wp) (p0 : Nat) (X : List (Nat × va_E)) (hp : lo p0 = 0) (hp2 : p0 < 291) (hX : ∀ q, p0 < q → xl X q = none) (he : gx w X p0 = .inr (4, [.int 0, .int 0, .int 0, .int 0, .int 0, .int 0, .int 0, .null, .null, .null, .null, .null, .null, .null, .null])) : Met l yX4_init (.code yX4_init cX4_init 1 none :: tW) ({ frames := 1, cells := 8, slots := 52, locals := 12 }) (Pk w [.ref (w.2.1 + p0)] (p0 + 1) X) (Qk w (p0 + 9) ((p0, ent w (μ0 p0) p0) :: X)) 8 52 (fun q => w.2.1 ≤ q) := by
  refine mk_met (by decide) ?_ (by decide)
  intro p e s m args below meth c ls M hin hsz hl hC hret
  have hC := hC.intro he
  refine lv_aload_n M.1 M.2.1 dX4_init_0 rfl (lv_at hl 0 rfl) ?_
  refine mk_super M hl mv_1_48 mv_1_18 mv_1_19 (by decide) (by decide) dX4_init_1 ?_
  obtain ⟨hb8, hob, hla, hp4, hp280⟩ := land_lay p0 hp2 hp
  refine mk_arr (n := 5) (n1 := 5) (k := p0) (a := p0 + 1) (pc2 := 6) M hin (by omega) (lv_at hl 0 rfl) hC (by omega) (T := TX4) rfl uw_4 tyX4 tyX4_ok nmX4 7 (by decide) mv_1_73 rfl rfl rfl (Or.inr ⟨_, rfl⟩) (Nat.le_of_ble_eq_true rfl) mv_1_36 (by decide) rfl (by decide) (by decide) (by decide) (ent_z w (hla 0 (by decide)).1 (hla 0 (by decide)).2.1 (hla 0 (by decide)).2.2.1 (hla 0 (by decide)).2.2.2) (hX _ (by omega)) dX4_init_4 (fun h => lv_iconst (v := 5) M.1 M.2.1 dX4_init_5 (by decide) h) dX4_init_6 dX4_init_8 (fun H locs hC => ?_)
  refine mk_arr (n := 5) (n1 := 5) (k := p0) (a := p0 + 1 + 1) (pc2 := 13) M hin (by omega) (lv_at hl 0 rfl) hC (by omega) (T := TX4) rfl uw_4 tyX4 tyX4_ok nmX4 8 (by decide) mv_1_77 rfl rfl rfl (Or.inr ⟨_, rfl⟩) (Nat.le_of_ble_eq_true rfl) mv_1_36 (by decide) rfl (by decide) (by decide) (by decide) (ent_z w (hla 1 (by decide)).1 (hla 1 (by decide)).2.1 (hla 1 (by decide)).2.2.1 (hla 1 (by decide)).2.2.2) (hX _ (by omega)) dX4_init_11 (fun h => lv_iconst (v := 5) M.1 M.2.1 dX4_init_12 (by decide) h) dX4_init_13 dX4_init_15 (fun H locs hC => ?_)
  refine mk_arr (n := 7) (n1 := 7) (k := p0) (a := p0 + 1 + 2) (pc2 := 21) M hin (by omega) (lv_at hl 0 rfl) hC (by omega) (T := TX4) rfl uw_4 tyX4 tyX4_ok nmX4 9 (by decide) mv_1_81 rfl rfl rfl (Or.inr ⟨_, rfl⟩) (Nat.le_of_ble_eq_true rfl) mv_1_36 (by decide) rfl (by decide) (by decide) (by decide) (ent_z w (hla 2 (by decide)).1 (hla 2 (by decide)).2.1 (hla 2 (by decide)).2.2.1 (hla 2 (by decide)).2.2.2) (hX _ (by omega)) dX4_init_18 (fun h => lv_bipush (v := 7) M.1 M.2.1 dX4_init_19 (by decide) h) dX4_init_21 dX4_init_23 (fun H locs hC => ?_)
  refine mk_arr (n := 7) (n1 := 7) (k := p0) (a := p0 + 1 + 3) (pc2 := 29) M hin (by omega) (lv_at hl 0 rfl) hC (by omega) (T := TX4) rfl uw_4 tyX4 tyX4_ok nmX4 10 (by decide) mv_1_86 rfl rfl rfl (Or.inr ⟨_, rfl⟩) (Nat.le_of_ble_eq_true rfl) mv_1_36 (by decide) rfl (by decide) (by decide) (by decide) (ent_z w (hla 3 (by decide)).1 (hla 3 (by decide)).2.1 (hla 3 (by decide)).2.2.1 (hla 3 (by decide)).2.2.2) (hX _ (by omega)) dX4_init_26 (fun h => lv_bipush (v := 7) M.1 M.2.1 dX4_init_27 (by decide) h) dX4_init_29 dX4_init_31 (fun H locs hC => ?_)
  refine mk_arr (n := 7) (n1 := 7) (k := p0) (a := p0 + 1 + 4) (pc2 := 37) M hin (by omega) (lv_at hl 0 rfl) hC (by omega) (T := TX4) rfl uw_4 tyX4 tyX4_ok nmX4 11 (by decide) mv_1_91 rfl rfl rfl (Or.inr ⟨_, rfl⟩) (Nat.le_of_ble_eq_true rfl) mv_1_36 (by decide) rfl (by decide) (by decide) (by decide) (ent_z w (hla 4 (by decide)).1 (hla 4 (by decide)).2.1 (hla 4 (by decide)).2.2.1 (hla 4 (by decide)).2.2.2) (hX _ (by omega)) dX4_init_34 (fun h => lv_bipush (v := 7) M.1 M.2.1 dX4_init_35 (by decide) h) dX4_init_37 dX4_init_39 (fun H locs hC => ?_)
  refine mk_arr (n := 7) (n1 := 7) (k := p0) (a := p0 + 1 + 5) (pc2 := 45) M hin (by omega) (lv_at hl 0 rfl) hC (by omega) (T := TX4) rfl uw_4 tyX4 tyX4_ok nmX4 12 (by decide) mv_1_97 rfl rfl rfl (Or.inr ⟨_, rfl⟩) (Nat.le_of_ble_eq_true rfl) mv_1_36 (by decide) rfl (by decide) (by decide) (by decide) (ent_z w (hla 5 (by decide)).1 (hla 5 (by decide)).2.1 (hla 5 (by decide)).2.2.1 (hla 5 (by decide)).2.2.2) (hX _ (by omega)) dX4_init_42 (fun h => lv_bipush (v := 7) M.1 M.2.1 dX4_init_43 (by decide) h) dX4_init_45 dX4_init_47 (fun H locs hC => ?_)
  refine mk_arr (n := 7) (n1 := 7) (k := p0) (a := p0 + 1 + 6) (pc2 := 53) M hin (by omega) (lv_at hl 0 rfl) hC (by omega) (T := TX4) rfl uw_4 tyX4 tyX4_ok nmX4 13 (by decide) mv_1_101 rfl rfl rfl (Or.inr ⟨_, rfl⟩) (Nat.le_of_ble_eq_true rfl) mv_1_36 (by decide) rfl (by decide) (by decide) (by decide) (ent_z w (hla 6 (by decide)).1 (hla 6 (by decide)).2.1 (hla 6 (by decide)).2.2.1 (hla 6 (by decide)).2.2.2) (hX _ (by omega)) dX4_init_50 (fun h => lv_bipush (v := 7) M.1 M.2.1 dX4_init_51 (by decide) h) dX4_init_53 dX4_init_55 (fun H locs hC => ?_)
  refine mk_arr (n := 7) (n1 := 7) (k := p0) (a := p0 + 1 + 7) (pc2 := 61) M hin (by omega) (lv_at hl 0 rfl) hC (by omega) (T := TX4) rfl uw_4 tyX4 tyX4_ok nmX4 14 (by decide) mv_1_105 rfl rfl rfl (Or.inr ⟨_, rfl⟩) (Nat.le_of_ble_eq_true rfl) mv_1_36 (by decide) rfl (by decide) (by decide) (by decide) (ent_z w (hla 7 (by decide)).1 (hla 7 (by decide)).2.1 (hla 7 (by decide)).2.2.1 (hla 7 (by decide)).2.2.2) (hX _ (by omega)) dX4_init_58 (fun h => lv_bipush (v := 7) M.1 M.2.1 dX4_init_59 (by decide) h) dX4_init_61 dX4_init_63 (fun H locs hC => ?_)
  have hfin : (.inr (4, [.int 0, .int 0, .int 0, .int 0, .int 0, .int 0, .int 0, .ref (w.2.1 + (p0 + 1)), .ref (w.2.1 + (p0 + 1 + 1)), .ref (w.2.1 + (p0 + 1 + 2)), .ref (w.2.1 + (p0 + 1 + 3)), .ref (w.2.1 + (p0 + 1 + 4)), .ref (w.2.1 + (p0 + 1 + 5)), .ref (w.2.1 + (p0 + 1 + 6)), .ref (w.2.1 + (p0 + 1 + 7))]) : va_E) = ent w (μ0 p0) p0 := by
    rw [ent_o w _ hob (by decide), μ0_z hp4 hp280]
    have ht : ∀ i, tg p0 (7 + i) = p0 + 1 + i := by
      intro i
      unfold tg
      rw [hp]
      show p0 + (7 + i) - 6 = p0 + 1 + i
      omega
    have hr : ∀ i, i < 8 → rr w (p0 + 1 + i) = w.2.1 + (p0 + 1 + i) := fun i hi => rr_lt w (by omega)
    have hf : ∀ i, i < 8 → fv w p0 (fun _ => 0) (7 + i) = .ref (w.2.1 + (p0 + 1 + i)) := by
      intro i hi
      unfold fv
      rw [hob, ht, hr i hi, if_pos]
      have : ∀ i, i < 8 → rf 4 (7 + i) = true := by decide
      exact this i hi
    have h0 : ∀ i, i < 7 → fv w p0 (fun _ => 0) i = .int 0 := by
      intro i hi
      unfold fv
      rw [hob, if_neg]
      have : ∀ i, i < 7 → ¬ rf 4 i = true := by decide
      exact this i hi
    have hm : (List.range (nf 4)).map (fv w p0 (fun _ => 0)) = [fv w p0 (fun _ => 0) 0, fv w p0 (fun _ => 0) 1, fv w p0 (fun _ => 0) 2, fv w p0 (fun _ => 0) 3, fv w p0 (fun _ => 0) 4, fv w p0 (fun _ => 0) 5, fv w p0 (fun _ => 0) 6, fv w p0 (fun _ => 0) (7 + 0), fv w p0 (fun _ => 0) (7 + 1), fv w p0 (fun _ => 0) (7 + 2), fv w p0 (fun _ => 0) (7 + 3), fv w p0 (fun _ => 0) (7 + 4), fv w p0 (fun _ => 0) (7 + 5), fv w p0 (fun _ => 0) (7 + 6), fv w p0 (fun _ => 0) (7 + 7)] := rfl
    rw [hm, h0 0 (by decide), h0 1 (by decide), h0 2 (by decide), h0 3 (by decide), h0 4 (by decide), h0 5 (by decide), h0 6 (by decide), hf 0 (by decide), hf 1 (by decide), hf 2 (by decide), hf 3 (by decide), hf 4 (by decide), hf 5 (by decide), hf 6 (by decide), hf 7 (by decide)]
  rw [← hfin] at hret ⊢
  exact hret _ _ _ _ hC dX4_init_66

set_option maxRecDepth 100000 in
set_option maxHeartbeats 4000000 in
theorem c_X2_init (l : Launch) (w : Wp) (p0 : Nat) (X : List (Nat × va_E)) (hp : ent w (μ0 p0) p0 = .inr (2, [.int 0, .int 0, .int 0, .int 0, .int 0, .int 0, .int 0, .int 0, .int 0, .int 0])) (hX : ∀ q, p0 < q → xl X q = none) (he : gx w X p0 = .inr (2, [.int 0, .int 0, .int 0, .int 0, .int 0, .int 0, .int 0, .int 0, .int 0, .int 0])) : Met l yX2_init (.code yX2_init cX2_init 1 none :: tW) ({ frames := 1, cells := 0, slots := 0, locals := 12 }) (Pk w [.ref (w.2.1 + p0)] (p0 + 1) X) (Qk w (p0 + 1) ((p0, ent w (μ0 p0) p0) :: X)) 0 0 (fun q => w.2.1 ≤ q) := by
  refine mk_met (by decide) ?_ (by decide)
  intro p e s m args below meth c ls M hin hsz hl hC hret
  have hC := hC.intro he
  refine lv_aload_n M.1 M.2.1 dX2_init_0 rfl (lv_at hl 0 rfl) ?_
  refine mk_super M hl mv_1_201 mv_1_18 mv_1_19 (by decide) (by decide) dX2_init_1 ?_
  rw [← hp] at hC
  exact hret _ _ _ _ hC dX2_init_4

set_option maxRecDepth 100000 in
set_option maxHeartbeats 4000000 in
theorem c_X1_init (l : Launch) (w : Wp) (X : List (Nat × va_E)) (hX : ∀ q, 277 < q → xl X q = none) (he : gx w X 277 = .inr (1, [.null, .int 0, .int 0, .int 0, .int 0, .int 0])) : Met l yX1_init (.code yX1_init cX1_init 1 none :: tW) ({ frames := 1, cells := 1, slots := 16, locals := 12 }) (Pk w [.ref (w.2.1 + 277)] (278) X) (Qk w (279) ((277, ent w (μ0 277) 277) :: X)) 1 16 (fun q => w.2.1 ≤ q) := by
  refine mk_met (by decide) ?_ (by decide)
  intro p e s m args below meth c ls M hin hsz hl hC hret
  have hC := hC.intro he
  refine lv_aload_n M.1 M.2.1 dX1_init_0 rfl (lv_at hl 0 rfl) ?_
  refine mk_super M hl mv_2_39 mv_1_18 mv_1_19 (by decide) (by decide) dX1_init_1 ?_
  refine mk_arr (n := 16) (n1 := 16) (k := 277) (a := 278) (pc2 := 7) M hin (by omega) (lv_at hl 0 rfl) hC (by omega) (T := TX1) rfl uw_1 tyX1 tyX1_ok nmX1 0 (by decide) mv_2_40 rfl rfl rfl (Or.inr ⟨_, rfl⟩) (Nat.le_of_ble_eq_true rfl) mv_1_36 (by decide) rfl (by decide) (by decide) (by decide) (ent_z w rfl rfl (by decide) (by decide)) (hX _ (by decide)) dX1_init_4 (fun h => lv_bipush (v := 16) M.1 M.2.1 dX1_init_5 (by decide) h) dX1_init_7 dX1_init_9 (fun H locs hC => ?_)
  exact hret _ _ _ _ hC dX1_init_12

set_option maxRecDepth 100000 in
set_option maxHeartbeats 4000000 in
theorem c_X5_init (l : Launch) (w : Wp) (X : List (Nat × va_E)) (hX : ∀ q, 5 < q → xl X q = none) (he : gx w X 5 = .inr (5, [.null, .null, .int 0, .int 0, .int 0, .int 0, .int 0, .int 0, .int 0, .int 0])) : Met l yX5_init (.code yX5_init cX5_init 1 none :: tW) ({ frames := 3, cells := 10, slots := 167, locals := 100 }) (Pk w [.ref (w.2.1 + 5)] (6) X) (Qk w (16) ((5, ent w (μ0 5) 5) :: X)) 10 167 (fun q => w.2.1 ≤ q) := by
  refine mk_met (by decide) ?_ (by decide)
  intro p e s m args below meth c ls M hin hsz hl hC hret
  have hC := hC.intro he
  refine lv_aload_n M.1 M.2.1 dX5_init_0 rfl (lv_at hl 0 rfl) ?_
  refine mk_super M hl mv_1_42 mv_1_18 mv_1_19 (by decide) (by decide) dX5_init_1 ?_
  refine mk_arr (n := 100) (n1 := 100) (k := 5) (a := 6) (pc2 := 7) M hin (by omega) (lv_at hl 0 rfl) hC (by omega) (T := TX5) rfl uw_5 tyX5 tyX5_ok nmX5 0 (by decide) mv_1_139 rfl rfl rfl (Or.inr ⟨_, rfl⟩) (Nat.le_of_ble_eq_true rfl) mv_1_36 (by decide) rfl (by decide) (by decide) (by decide) (ent_z w rfl rfl (by decide) (by decide)) (hX _ (by decide)) dX5_init_4 (fun h => lv_bipush (v := 100) M.1 M.2.1 dX5_init_5 (by decide) h) dX5_init_7 dX5_init_9 (fun H locs hC => ?_)
  refine mk_obj (k := 5) (a := 7) (a2 := 16) (mc := 8) (ms := 52) M hin (by omega) hl (lv_at hl 0 rfl) hC (by omega) (T := TX5) rfl uw_5 tyX5 tyX5_ok nmX5 1 (by decide) mv_1_140 rfl rfl rfl (Or.inl ⟨_, rfl⟩) (Nat.le_of_ble_eq_true rfl) (ci2 := 4) (T2 := TX4) (fs2 := [.int 0, .int 0, .int 0, .int 0, .int 0, .int 0, .int 0, .null, .null, .null, .null, .null, .null, .null, .null]) rfl uw_4 tyX4 tyX4_ok mv_1_43 mv_1_44 mv_1_4 (fun j hj => by rcases (show j = 0 ∨ j = 1 ∨ j = 2 ∨ j = 3 ∨ j = 4 ∨ j = 5 ∨ j = 6 ∨ j = 7 ∨ j = 8 ∨ j = 9 ∨ j = 10 ∨ j = 11 ∨ j = 12 ∨ j = 13 ∨ j = 14 by omega) with rfl | rfl | rfl | rfl | rfl | rfl | rfl | rfl | rfl | rfl | rfl | rfl | rfl | rfl | rfl <;> rfl) (by decide) (by decide) (fun q hq => hX q (by omega)) (by omega) dX5_init_12 dX5_init_13 dX5_init_16 dX5_init_20 (fun {H locs} hC kk => ?_) (fun H locs hC => ?_)
  · exact mk_callN (y := yX4_init) (bytes := cX4_init) (X2 := _) M (by omega) hl hC (c_X4_init l w 7 _ (by decide) (by decide) (xl_up (xl_up (fun q hq => hX q (by omega)) _ (by decide)) _ (by decide)) gx_s) (by omega) rfl rfl (List.mem_of_getElem? (i := 7) rfl) mv_1_46 mv_1_47 mv_1_4 rfl (by decide +kernel) ⟨by decide, by decide⟩ ⟨by decide, by decide⟩ (Nat.le_of_ble_eq_true rfl) dX5_init_17 kk
  exact hret _ _ _ _ hC dX5_init_23

set_option maxRecDepth 100000 in
set_option maxHeartbeats 4000000 in
theorem c_X3_init (l : Launch) (w : Wp) (X : List (Nat × va_E)) (hX : ∀ q, 273 < q → xl X q = none) (he : gx w X 273 = .inr (3, [.null, .null, .null, .int 0, .int 0])) : Met l yX3_init (.code yX3_init cX3_init 1 none :: tW) ({ frames := 3, cells := 3, slots := 426, locals := 100 }) (Pk w [.ref (w.2.1 + 273)] (274) X) (Qk w (277) ((273, ent w (μ0 273) 273) :: X)) 3 426 (fun q => w.2.1 ≤ q) := by
  refine mk_met (by decide) ?_ (by decide)
  intro p e s m args below meth c ls M hin hsz hl hC hret
  have hC := hC.intro he
  refine lv_aload_n M.1 M.2.1 dX3_init_0 rfl (lv_at hl 0 rfl) ?_
  refine mk_super M hl mv_2_13 mv_1_18 mv_1_19 (by decide) (by decide) dX3_init_1 ?_
  refine mk_obj (k := 273) (a := 274) (a2 := 275) (mc := 0) (ms := 0) M hin (by omega) hl (lv_at hl 0 rfl) hC (by omega) (T := TX3) rfl uw_3 tyX3 tyX3_ok nmX3 0 (by decide) mv_2_16 rfl rfl rfl (Or.inl ⟨_, rfl⟩) (Nat.le_of_ble_eq_true rfl) (ci2 := 2) (T2 := TX2) (fs2 := [.int 0, .int 0, .int 0, .int 0, .int 0, .int 0, .int 0, .int 0, .int 0, .int 0]) rfl uw_2 tyX2 tyX2_ok mv_2_14 mv_1_197 mv_1_6 (fun j hj => by rcases (show j = 0 ∨ j = 1 ∨ j = 2 ∨ j = 3 ∨ j = 4 ∨ j = 5 ∨ j = 6 ∨ j = 7 ∨ j = 8 ∨ j = 9 by omega) with rfl | rfl | rfl | rfl | rfl | rfl | rfl | rfl | rfl | rfl <;> rfl) (by decide) (by decide) (fun q hq => hX q (by omega)) (by omega) dX3_init_4 dX3_init_5 dX3_init_8 dX3_init_12 (fun {H locs} hC kk => ?_) (fun H locs hC => ?_)
  · exact mk_callN (y := yX2_init) (bytes := cX2_init) (X2 := _) M (by omega) hl hC (c_X2_init l w 274 _ rfl (xl_up (xl_up (fun q hq => hX q (by omega)) _ (by decide)) _ (by decide)) gx_s) (by omega) rfl rfl (List.mem_of_getElem? (i := 6) rfl) mv_1_199 mv_1_200 mv_1_6 rfl (by decide +kernel) ⟨by decide, by decide⟩ ⟨by decide, by decide⟩ (Nat.le_of_ble_eq_true rfl) dX3_init_9 kk
  refine mk_arr (n := 208) (n1 := 208) (k := 273) (a := 275) (pc2 := 19) M hin (by omega) (lv_at hl 0 rfl) hC (by omega) (T := TX3) rfl uw_3 tyX3 tyX3_ok nmX3 1 (by decide) mv_2_17 rfl rfl rfl (Or.inr ⟨_, rfl⟩) (Nat.le_of_ble_eq_true rfl) mv_1_36 (by decide) rfl (by decide) (by decide) (by decide) (ent_z w rfl rfl (by decide) (by decide)) (hX _ (by decide)) dX3_init_15 (fun h => lv_sipush (v := 208) M.1 M.2.1 dX3_init_16 (by decide) h) dX3_init_19 dX3_init_21 (fun H locs hC => ?_)
  refine mk_arr (n := 208) (n1 := 208) (k := 273) (a := 276) (pc2 := 28) M hin (by omega) (lv_at hl 0 rfl) hC (by omega) (T := TX3) rfl uw_3 tyX3 tyX3_ok nmX3 2 (by decide) mv_2_18 rfl rfl rfl (Or.inr ⟨_, rfl⟩) (Nat.le_of_ble_eq_true rfl) mv_1_36 (by decide) rfl (by decide) (by decide) (by decide) (ent_z w rfl rfl (by decide) (by decide)) (hX _ (by decide)) dX3_init_24 (fun h => lv_sipush (v := 208) M.1 M.2.1 dX3_init_25 (by decide) h) dX3_init_28 dX3_init_30 (fun H locs hC => ?_)
  exact hret _ _ _ _ hC dX3_init_33

set_option maxRecDepth 100000 in
set_option maxHeartbeats 4000000 in
theorem c_X6_init (l : Launch) (w : Wp) (X : List (Nat × va_E)) (hX : ∀ q, 1 < q → xl X q = none) (he : gx w X 1 = .inr (6, [.null, .null, .null])) : Met l yX6_init (.code yX6_init cX6_init 2 none :: tW) ({ frames := 1, cells := 3, slots := 336, locals := 12 }) (Pk w [.ref (w.2.1 + 1)] (2) X) (Qk w (5) ((1, ent w (μ0 1) 1) :: X)) 3 336 (fun q => w.2.1 ≤ q) := by
  refine mk_met (by decide) ?_ (by decide)
  intro p e s m args below meth c ls M hin hsz hl hC hret
  have hC := hC.intro he
  refine lv_aload_n M.1 M.2.1 dX6_init_0 rfl (lv_at hl 0 rfl) ?_
  refine mk_super M hl mv_1_25 mv_1_18 mv_1_19 (by decide) (by decide) dX6_init_1 ?_
  refine mk_arr (n := 320) (n1 := 320) (k := 1) (a := 2) (pc2 := 8) M hin (by omega) (lv_at hl 0 rfl) hC (by omega) (T := TX6) rfl uw_6 tyX6 tyX6_ok nmX6 0 (by decide) mv_1_26 rfl rfl rfl (Or.inr ⟨_, rfl⟩) (Nat.le_of_ble_eq_true rfl) mv_1_36 (by decide) rfl (by decide) (by decide) (by decide) (ent_z w rfl rfl (by decide) (by decide)) (hX _ (by decide)) dX6_init_4 (fun h => lv_sipush (v := 320) M.1 M.2.1 dX6_init_5 (by decide) h) dX6_init_8 dX6_init_10 (fun H locs hC => ?_)
  refine mk_arr (n := 8) (n1 := 8) (k := 1) (a := 3) (pc2 := 16) M hin (by omega) (lv_at hl 0 rfl) hC (by omega) (T := TX6) rfl uw_6 tyX6 tyX6_ok nmX6 1 (by decide) mv_1_27 rfl rfl rfl (Or.inr ⟨_, rfl⟩) (Nat.le_of_ble_eq_true rfl) mv_1_36 (by decide) rfl (by decide) (by decide) (by decide) (ent_z w rfl rfl (by decide) (by decide)) (hX _ (by decide)) dX6_init_13 (fun h => lv_bipush (v := 8) M.1 M.2.1 dX6_init_14 (by decide) h) dX6_init_16 dX6_init_18 (fun H locs hC => ?_)
  refine lv_aload_n M.1 M.2.1 dX6_init_21 rfl (lv_at hl 0 rfl) ?_
  refine lv_bipush (v := 8) M.1 M.2.1 dX6_init_22 (by decide) ?_
  refine mk_newi (n := 8) (N := 8) M (by omega) hC mv_1_36 (by decide) rfl (by decide) (by decide) (by decide) dX6_init_24 (fun H hC => ?_)
  refine mk_put (k := 1) M hin hC (by decide) (by rw [gx_n (by decide), gx_s]) (T := TX6) rfl uw_6 tyX6 tyX6_ok nmX6 (j := 2) (by decide) mv_1_28 rfl rfl rfl (Or.inr ⟨_, rfl⟩) (Nat.le_of_ble_eq_true rfl) dX6_init_26 (fun H locs hC => ?_)
  refine lv_iconst (v := 0) M.1 M.2.1 dX6_init_29 (by decide) ?_
  refine lv_istore_n (lv' := [(1, .int 0), (0, .ref (w.2.1 + 1))]) M.1 M.2.1 dX6_init_30 rfl hl (by decide) rfl (fun ls hl => ?_)
  refine lv_iload_n M.1 M.2.1 dX6_init_31 rfl (lv_at hl 0 rfl) ?_
  refine lv_bipush (v := 8) M.1 M.2.1 dX6_init_32 (by decide) ?_
  refine lv_icmp_ge (tgt := 50) M.1 M.2.1 dX6_init_34 (by decide) (fun c9 => absurd c9 (by decide)) (fun _ => ?_)
  refine lv_aload_n M.1 M.2.1 dX6_init_37 rfl (lv_at hl 1 rfl) ?_
  refine mk_get (k := 1) M hC (by decide) (by first | rw [gx_s] | rw [gx_n (by decide), gx_s]) (T := TX6) rfl uw_6 (j := 2) (by decide) mv_1_28 rfl dX6_init_38 ?_
  refine lv_iload_n M.1 M.2.1 dX6_init_41 rfl (lv_at hl 0 rfl) ?_
  refine lv_iconst (v := -1) M.1 M.2.1 dX6_init_42 (by decide) ?_
  refine mk_ast (k := 4) M hC (by decide) (by first | rw [gx_s] | rw [gx_n (by decide), gx_s]) (by unfold vp_in; decide) dX6_init_43 (fun H locs hC => ?_)
  refine lv_iinc (v := 1) (lv' := [(1, .int 1), (0, .ref (w.2.1 + 1))]) M.1 M.2.1 dX6_init_44 hl (k := 0) rfl (by decide) (by decide) rfl (fun ls hl => ?_)
  refine lv_goto (tgt := 31) M.1 M.2.1 dX6_init_47 (by decide) ?_
  refine lv_iload_n M.1 M.2.1 dX6_init_31 rfl (lv_at hl 0 rfl) ?_
  refine lv_bipush (v := 8) M.1 M.2.1 dX6_init_32 (by decide) ?_
  refine lv_icmp_ge (tgt := 50) M.1 M.2.1 dX6_init_34 (by decide) (fun c9 => absurd c9 (by decide)) (fun _ => ?_)
  refine lv_aload_n M.1 M.2.1 dX6_init_37 rfl (lv_at hl 1 rfl) ?_
  refine mk_get (k := 1) M hC (by decide) (by first | rw [gx_s] | rw [gx_n (by decide), gx_s] | rw [gx_n (by decide), gx_n (by decide), gx_s]) (T := TX6) rfl uw_6 (j := 2) (by decide) mv_1_28 rfl dX6_init_38 ?_
  refine lv_iload_n M.1 M.2.1 dX6_init_41 rfl (lv_at hl 0 rfl) ?_
  refine lv_iconst (v := -1) M.1 M.2.1 dX6_init_42 (by decide) ?_
  refine mk_ast (k := 4) M hC (by decide) (by first | rw [gx_s] | rw [gx_n (by decide), gx_s]) (by unfold vp_in; decide) dX6_init_43 (fun H locs hC => ?_)
  refine lv_iinc (v := 2) (lv' := [(1, .int 2), (0, .ref (w.2.1 + 1))]) M.1 M.2.1 dX6_init_44 hl (k := 0) rfl (by decide) (by decide) rfl (fun ls hl => ?_)
  refine lv_goto (tgt := 31) M.1 M.2.1 dX6_init_47 (by decide) ?_
  refine lv_iload_n M.1 M.2.1 dX6_init_31 rfl (lv_at hl 0 rfl) ?_
  refine lv_bipush (v := 8) M.1 M.2.1 dX6_init_32 (by decide) ?_
  refine lv_icmp_ge (tgt := 50) M.1 M.2.1 dX6_init_34 (by decide) (fun c9 => absurd c9 (by decide)) (fun _ => ?_)
  refine lv_aload_n M.1 M.2.1 dX6_init_37 rfl (lv_at hl 1 rfl) ?_
  refine mk_get (k := 1) M hC (by decide) (by first | rw [gx_s] | rw [gx_n (by decide), gx_s] | rw [gx_n (by decide), gx_n (by decide), gx_s] | rw [gx_n (by decide), gx_n (by decide), gx_n (by decide), gx_s]) (T := TX6) rfl uw_6 (j := 2) (by decide) mv_1_28 rfl dX6_init_38 ?_
  refine lv_iload_n M.1 M.2.1 dX6_init_41 rfl (lv_at hl 0 rfl) ?_
  refine lv_iconst (v := -1) M.1 M.2.1 dX6_init_42 (by decide) ?_
  refine mk_ast (k := 4) M hC (by decide) (by first | rw [gx_s] | rw [gx_n (by decide), gx_s]) (by unfold vp_in; decide) dX6_init_43 (fun H locs hC => ?_)
  refine lv_iinc (v := 3) (lv' := [(1, .int 3), (0, .ref (w.2.1 + 1))]) M.1 M.2.1 dX6_init_44 hl (k := 0) rfl (by decide) (by decide) rfl (fun ls hl => ?_)
  refine lv_goto (tgt := 31) M.1 M.2.1 dX6_init_47 (by decide) ?_
  refine lv_iload_n M.1 M.2.1 dX6_init_31 rfl (lv_at hl 0 rfl) ?_
  refine lv_bipush (v := 8) M.1 M.2.1 dX6_init_32 (by decide) ?_
  refine lv_icmp_ge (tgt := 50) M.1 M.2.1 dX6_init_34 (by decide) (fun c9 => absurd c9 (by decide)) (fun _ => ?_)
  refine lv_aload_n M.1 M.2.1 dX6_init_37 rfl (lv_at hl 1 rfl) ?_
  refine mk_get (k := 1) M hC (by decide) (by first | rw [gx_s] | rw [gx_n (by decide), gx_s] | rw [gx_n (by decide), gx_n (by decide), gx_s] | rw [gx_n (by decide), gx_n (by decide), gx_n (by decide), gx_s] | rw [gx_n (by decide), gx_n (by decide), gx_n (by decide), gx_n (by decide), gx_s]) (T := TX6) rfl uw_6 (j := 2) (by decide) mv_1_28 rfl dX6_init_38 ?_
  refine lv_iload_n M.1 M.2.1 dX6_init_41 rfl (lv_at hl 0 rfl) ?_
  refine lv_iconst (v := -1) M.1 M.2.1 dX6_init_42 (by decide) ?_
  refine mk_ast (k := 4) M hC (by decide) (by first | rw [gx_s] | rw [gx_n (by decide), gx_s]) (by unfold vp_in; decide) dX6_init_43 (fun H locs hC => ?_)
  refine lv_iinc (v := 4) (lv' := [(1, .int 4), (0, .ref (w.2.1 + 1))]) M.1 M.2.1 dX6_init_44 hl (k := 0) rfl (by decide) (by decide) rfl (fun ls hl => ?_)
  refine lv_goto (tgt := 31) M.1 M.2.1 dX6_init_47 (by decide) ?_
  refine lv_iload_n M.1 M.2.1 dX6_init_31 rfl (lv_at hl 0 rfl) ?_
  refine lv_bipush (v := 8) M.1 M.2.1 dX6_init_32 (by decide) ?_
  refine lv_icmp_ge (tgt := 50) M.1 M.2.1 dX6_init_34 (by decide) (fun c9 => absurd c9 (by decide)) (fun _ => ?_)
  refine lv_aload_n M.1 M.2.1 dX6_init_37 rfl (lv_at hl 1 rfl) ?_
  refine mk_get (k := 1) M hC (by decide) (by first | rw [gx_s] | rw [gx_n (by decide), gx_s] | rw [gx_n (by decide), gx_n (by decide), gx_s] | rw [gx_n (by decide), gx_n (by decide), gx_n (by decide), gx_s] | rw [gx_n (by decide), gx_n (by decide), gx_n (by decide), gx_n (by decide), gx_s] | rw [gx_n (by decide), gx_n (by decide), gx_n (by decide), gx_n (by decide), gx_n (by decide), gx_s]) (T := TX6) rfl uw_6 (j := 2) (by decide) mv_1_28 rfl dX6_init_38 ?_
  refine lv_iload_n M.1 M.2.1 dX6_init_41 rfl (lv_at hl 0 rfl) ?_
  refine lv_iconst (v := -1) M.1 M.2.1 dX6_init_42 (by decide) ?_
  refine mk_ast (k := 4) M hC (by decide) (by first | rw [gx_s] | rw [gx_n (by decide), gx_s]) (by unfold vp_in; decide) dX6_init_43 (fun H locs hC => ?_)
  refine lv_iinc (v := 5) (lv' := [(1, .int 5), (0, .ref (w.2.1 + 1))]) M.1 M.2.1 dX6_init_44 hl (k := 0) rfl (by decide) (by decide) rfl (fun ls hl => ?_)
  refine lv_goto (tgt := 31) M.1 M.2.1 dX6_init_47 (by decide) ?_
  refine lv_iload_n M.1 M.2.1 dX6_init_31 rfl (lv_at hl 0 rfl) ?_
  refine lv_bipush (v := 8) M.1 M.2.1 dX6_init_32 (by decide) ?_
  refine lv_icmp_ge (tgt := 50) M.1 M.2.1 dX6_init_34 (by decide) (fun c9 => absurd c9 (by decide)) (fun _ => ?_)
  refine lv_aload_n M.1 M.2.1 dX6_init_37 rfl (lv_at hl 1 rfl) ?_
  refine mk_get (k := 1) M hC (by decide) (by first | rw [gx_s] | rw [gx_n (by decide), gx_s] | rw [gx_n (by decide), gx_n (by decide), gx_s] | rw [gx_n (by decide), gx_n (by decide), gx_n (by decide), gx_s] | rw [gx_n (by decide), gx_n (by decide), gx_n (by decide), gx_n (by decide), gx_s] | rw [gx_n (by decide), gx_n (by decide), gx_n (by decide), gx_n (by decide), gx_n (by decide), gx_s] | rw [gx_n (by decide), gx_n (by decide), gx_n (by decide), gx_n (by decide), gx_n (by decide), gx_n (by decide), gx_s]) (T := TX6) rfl uw_6 (j := 2) (by decide) mv_1_28 rfl dX6_init_38 ?_
  refine lv_iload_n M.1 M.2.1 dX6_init_41 rfl (lv_at hl 0 rfl) ?_
  refine lv_iconst (v := -1) M.1 M.2.1 dX6_init_42 (by decide) ?_
  refine mk_ast (k := 4) M hC (by decide) (by first | rw [gx_s] | rw [gx_n (by decide), gx_s]) (by unfold vp_in; decide) dX6_init_43 (fun H locs hC => ?_)
  refine lv_iinc (v := 6) (lv' := [(1, .int 6), (0, .ref (w.2.1 + 1))]) M.1 M.2.1 dX6_init_44 hl (k := 0) rfl (by decide) (by decide) rfl (fun ls hl => ?_)
  refine lv_goto (tgt := 31) M.1 M.2.1 dX6_init_47 (by decide) ?_
  refine lv_iload_n M.1 M.2.1 dX6_init_31 rfl (lv_at hl 0 rfl) ?_
  refine lv_bipush (v := 8) M.1 M.2.1 dX6_init_32 (by decide) ?_
  refine lv_icmp_ge (tgt := 50) M.1 M.2.1 dX6_init_34 (by decide) (fun c9 => absurd c9 (by decide)) (fun _ => ?_)
  refine lv_aload_n M.1 M.2.1 dX6_init_37 rfl (lv_at hl 1 rfl) ?_
  refine mk_get (k := 1) M hC (by decide) (by first | rw [gx_s] | rw [gx_n (by decide), gx_s] | rw [gx_n (by decide), gx_n (by decide), gx_s] | rw [gx_n (by decide), gx_n (by decide), gx_n (by decide), gx_s] | rw [gx_n (by decide), gx_n (by decide), gx_n (by decide), gx_n (by decide), gx_s] | rw [gx_n (by decide), gx_n (by decide), gx_n (by decide), gx_n (by decide), gx_n (by decide), gx_s] | rw [gx_n (by decide), gx_n (by decide), gx_n (by decide), gx_n (by decide), gx_n (by decide), gx_n (by decide), gx_s] | rw [gx_n (by decide), gx_n (by decide), gx_n (by decide), gx_n (by decide), gx_n (by decide), gx_n (by decide), gx_n (by decide), gx_s]) (T := TX6) rfl uw_6 (j := 2) (by decide) mv_1_28 rfl dX6_init_38 ?_
  refine lv_iload_n M.1 M.2.1 dX6_init_41 rfl (lv_at hl 0 rfl) ?_
  refine lv_iconst (v := -1) M.1 M.2.1 dX6_init_42 (by decide) ?_
  refine mk_ast (k := 4) M hC (by decide) (by first | rw [gx_s] | rw [gx_n (by decide), gx_s]) (by unfold vp_in; decide) dX6_init_43 (fun H locs hC => ?_)
  refine lv_iinc (v := 7) (lv' := [(1, .int 7), (0, .ref (w.2.1 + 1))]) M.1 M.2.1 dX6_init_44 hl (k := 0) rfl (by decide) (by decide) rfl (fun ls hl => ?_)
  refine lv_goto (tgt := 31) M.1 M.2.1 dX6_init_47 (by decide) ?_
  refine lv_iload_n M.1 M.2.1 dX6_init_31 rfl (lv_at hl 0 rfl) ?_
  refine lv_bipush (v := 8) M.1 M.2.1 dX6_init_32 (by decide) ?_
  refine lv_icmp_ge (tgt := 50) M.1 M.2.1 dX6_init_34 (by decide) (fun c9 => absurd c9 (by decide)) (fun _ => ?_)
  refine lv_aload_n M.1 M.2.1 dX6_init_37 rfl (lv_at hl 1 rfl) ?_
  refine mk_get (k := 1) M hC (by decide) (by first | rw [gx_s] | rw [gx_n (by decide), gx_s] | rw [gx_n (by decide), gx_n (by decide), gx_s] | rw [gx_n (by decide), gx_n (by decide), gx_n (by decide), gx_s] | rw [gx_n (by decide), gx_n (by decide), gx_n (by decide), gx_n (by decide), gx_s] | rw [gx_n (by decide), gx_n (by decide), gx_n (by decide), gx_n (by decide), gx_n (by decide), gx_s] | rw [gx_n (by decide), gx_n (by decide), gx_n (by decide), gx_n (by decide), gx_n (by decide), gx_n (by decide), gx_s] | rw [gx_n (by decide), gx_n (by decide), gx_n (by decide), gx_n (by decide), gx_n (by decide), gx_n (by decide), gx_n (by decide), gx_s] | rw [gx_n (by decide), gx_n (by decide), gx_n (by decide), gx_n (by decide), gx_n (by decide), gx_n (by decide), gx_n (by decide), gx_n (by decide), gx_s]) (T := TX6) rfl uw_6 (j := 2) (by decide) mv_1_28 rfl dX6_init_38 ?_
  refine lv_iload_n M.1 M.2.1 dX6_init_41 rfl (lv_at hl 0 rfl) ?_
  refine lv_iconst (v := -1) M.1 M.2.1 dX6_init_42 (by decide) ?_
  refine mk_ast (k := 4) M hC (by decide) (by first | rw [gx_s] | rw [gx_n (by decide), gx_s]) (by unfold vp_in; decide) dX6_init_43 (fun H locs hC => ?_)
  refine lv_iinc (v := 8) (lv' := [(1, .int 8), (0, .ref (w.2.1 + 1))]) M.1 M.2.1 dX6_init_44 hl (k := 0) rfl (by decide) (by decide) rfl (fun ls hl => ?_)
  refine lv_goto (tgt := 31) M.1 M.2.1 dX6_init_47 (by decide) ?_
  refine lv_iload_n M.1 M.2.1 dX6_init_31 rfl (lv_at hl 0 rfl) ?_
  refine lv_bipush (v := 8) M.1 M.2.1 dX6_init_32 (by decide) ?_
  refine lv_icmp_ge (tgt := 50) M.1 M.2.1 dX6_init_34 (by decide) (fun _ => ?_) (fun c9 => absurd (by decide) c9)
  refine hret _ _ _ _ (hC.eq fun q hq => ?_) dX6_init_50
  rcases (show q = 0 ∨ q = 1 ∨ q = 2 ∨ q = 3 ∨ q = 4 by omega) with rfl | rfl | rfl | rfl | rfl
  · rfl
  · rfl
  · rfl
  · rfl
  · rw [gx_s, gx_n (by decide), gx_0 (hX _ (by decide)), ent_1 w _ (show ak 4 = 1 from rfl)]
    have : upd (upd (upd (upd (upd (upd (upd (upd (fun _ => 0) (0 : Int32).toNatClampNeg (-1)) (1 : Int32).toNatClampNeg (-1)) (2 : Int32).toNatClampNeg (-1)) (3 : Int32).toNatClampNeg (-1)) (4 : Int32).toNatClampNeg (-1)) (5 : Int32).toNatClampNeg (-1)) (6 : Int32).toNatClampNeg (-1)) (7 : Int32).toNatClampNeg (-1) = μ0 4 := by
      funext j
      match j with
      | 0 | 1 | 2 | 3 | 4 | 5 | 6 | 7 => rfl
      | j + 8 => rfl
    rw [this]
    rfl
