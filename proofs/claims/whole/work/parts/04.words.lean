set_option maxRecDepth 20000 in
theorem m_0 : Cond.selects "java/lang/Throwable" ⟨"java/lang/Throwable", "fillInStackTrace", "(I)Ljava/lang/Throwable;"⟩ ⟨"java/lang/Throwable", "fillInStackTrace", "(I)Ljava/lang/Throwable;"⟩ ∈ WL := List.mem_filter.mpr ⟨List.mem_of_getElem? (i := 0) rfl, rfl⟩
set_option maxRecDepth 20000 in
theorem m_1 : Cond.selects R_Fo y_Fo_placeOf y_Fo_placeOf ∈ WL := List.mem_filter.mpr ⟨List.mem_of_getElem? (i := 1) rfl, rfl⟩
set_option maxRecDepth 20000 in
theorem m_2 : Cond.selects R_Fo y_Fo_valueBetween y_Fo_valueBetween ∈ WL := List.mem_filter.mpr ⟨List.mem_of_getElem? (i := 2) rfl, rfl⟩
set_option maxRecDepth 20000 in
theorem m_3 : Cond.selects R_Pk y_Pk_findLeast y_Pk_findLeast ∈ WL := List.mem_filter.mpr ⟨List.mem_of_getElem? (i := 3) rfl, rfl⟩
set_option maxRecDepth 20000 in
theorem m_4 : Cond.selects R_Pk y_Pk_tryWithin y_Pk_tryWithin ∈ WL := List.mem_filter.mpr ⟨List.mem_of_getElem? (i := 4) rfl, rfl⟩
set_option maxRecDepth 20000 in
theorem m_5 : Cond.selects R_Pk y_Pk_triedIsLower y_Pk_triedIsLower ∈ WL := List.mem_filter.mpr ⟨List.mem_of_getElem? (i := 5) rfl, rfl⟩
set_option maxRecDepth 20000 in
theorem m_6 : Cond.selects R_Pk y_Pk_keep y_Pk_keep ∈ WL := List.mem_filter.mpr ⟨List.mem_of_getElem? (i := 6) rfl, rfl⟩
set_option maxRecDepth 20000 in
theorem m_7 : Cond.selects R_Pk y_Pk_placeInRow y_Pk_placeInRow ∈ WL := List.mem_filter.mpr ⟨List.mem_of_getElem? (i := 7) rfl, rfl⟩
set_option maxRecDepth 20000 in
theorem m_8 : Cond.selects R_Pk y_Pk_requirePacked y_Pk_requirePacked ∈ WL := List.mem_filter.mpr ⟨List.mem_of_getElem? (i := 8) rfl, rfl⟩
set_option maxRecDepth 20000 in
theorem m_9 : Cond.selects R_Sk y_Sk_hasRoom y_Sk_hasRoom ∈ WL := List.mem_filter.mpr ⟨List.mem_of_getElem? (i := 9) rfl, rfl⟩
set_option maxRecDepth 20000 in
theorem m_10 : Cond.selects R_Go y_Go_partSet y_Go_partSet ∈ WL := List.mem_filter.mpr ⟨List.mem_of_getElem? (i := 10) rfl, rfl⟩
set_option maxRecDepth 20000 in
theorem m_11 : Cond.selects R_Mo y_Mo_goes y_Mo_goes ∈ WL := List.mem_filter.mpr ⟨List.mem_of_getElem? (i := 11) rfl, rfl⟩
set_option maxRecDepth 20000 in
theorem m_12 : Cond.selects R_Mo y_Mo_isObject y_Mo_isObject ∈ WL := List.mem_filter.mpr ⟨List.mem_of_getElem? (i := 12) rfl, rfl⟩
set_option maxRecDepth 20000 in
theorem m_13 : Cond.selects R_Mo y_Mo_isRow y_Mo_isRow ∈ WL := List.mem_filter.mpr ⟨List.mem_of_getElem? (i := 13) rfl, rfl⟩
set_option maxRecDepth 20000 in
theorem m_14 : Cond.selects R_Mo y_Mo_valueOf y_Mo_valueOf ∈ WL := List.mem_filter.mpr ⟨List.mem_of_getElem? (i := 14) rfl, rfl⟩
set_option maxRecDepth 20000 in
theorem m_15 : Cond.selects R_Mo y_Mo_turn y_Mo_turn ∈ WL := List.mem_filter.mpr ⟨List.mem_of_getElem? (i := 15) rfl, rfl⟩
set_option maxRecDepth 20000 in
theorem m_16 : Cond.selects R_Mo y_Mo_stands y_Mo_stands ∈ WL := List.mem_filter.mpr ⟨List.mem_of_getElem? (i := 16) rfl, rfl⟩
set_option maxRecDepth 20000 in
theorem m_17 : Cond.selects R_Mo y_Mo_lengthOf y_Mo_lengthOf ∈ WL := List.mem_filter.mpr ⟨List.mem_of_getElem? (i := 17) rfl, rfl⟩
set_option maxRecDepth 20000 in
theorem m_18 : Cond.selects R_Mo y_Mo_along y_Mo_along ∈ WL := List.mem_filter.mpr ⟨List.mem_of_getElem? (i := 18) rfl, rfl⟩
set_option maxRecDepth 20000 in
theorem m_19 : Cond.selects R_Mo y_Mo_widest y_Mo_widest ∈ WL := List.mem_filter.mpr ⟨List.mem_of_getElem? (i := 19) rfl, rfl⟩
set_option maxRecDepth 20000 in
theorem m_20 : Cond.selects R_Mo y_Mo_hasRoom y_Mo_hasRoom ∈ WL := List.mem_filter.mpr ⟨List.mem_of_getElem? (i := 20) rfl, rfl⟩
set_option maxRecDepth 20000 in
theorem m_21 : Cond.selects R_Mo y_Mo_weight y_Mo_weight ∈ WL := List.mem_filter.mpr ⟨List.mem_of_getElem? (i := 21) rfl, rfl⟩
set_option maxRecDepth 20000 in
theorem m_22 : Cond.initialized R_La ∈ WL := List.mem_filter.mpr ⟨List.mem_of_getElem? (i := 22) rfl, rfl⟩
set_option maxRecDepth 20000 in
theorem m_23 : Cond.initialized R_Cc ∈ WL := List.mem_filter.mpr ⟨List.mem_of_getElem? (i := 23) rfl, rfl⟩
set_option maxRecDepth 20000 in
theorem m_24 : Cond.initialized R_Go ∈ WL := List.mem_filter.mpr ⟨List.mem_of_getElem? (i := 24) rfl, rfl⟩
set_option maxRecDepth 20000 in
theorem m_25 : Cond.initialized R_Fo ∈ WL := List.mem_filter.mpr ⟨List.mem_of_getElem? (i := 25) rfl, rfl⟩
set_option maxRecDepth 20000 in
theorem m_26 : Cond.initialized R_Pk ∈ WL := List.mem_filter.mpr ⟨List.mem_of_getElem? (i := 26) rfl, rfl⟩
set_option maxRecDepth 20000 in
theorem m_27 : Cond.initialized R_Sk ∈ WL := List.mem_filter.mpr ⟨List.mem_of_getElem? (i := 27) rfl, rfl⟩
set_option maxRecDepth 20000 in
theorem m_28 : Cond.initialized R_Ai ∈ WL := List.mem_filter.mpr ⟨List.mem_of_getElem? (i := 28) rfl, rfl⟩
set_option maxRecDepth 20000 in
theorem m_29 : Cond.initialized R_Sh ∈ WL := List.mem_filter.mpr ⟨List.mem_of_getElem? (i := 29) rfl, rfl⟩
set_option maxRecDepth 20000 in
theorem m_30 : Cond.initialized R_Jo ∈ WL := List.mem_filter.mpr ⟨List.mem_of_getElem? (i := 30) rfl, rfl⟩
set_option maxRecDepth 20000 in
theorem m_31 : Cond.initialized R_Mo ∈ WL := List.mem_filter.mpr ⟨List.mem_of_getElem? (i := 31) rfl, rfl⟩
set_option maxRecDepth 20000 in
theorem m_32 : Cond.initialized "java/lang/Throwable" ∈ WL := List.mem_filter.mpr ⟨List.mem_of_getElem? (i := 32) rfl, rfl⟩
set_option maxRecDepth 20000 in
theorem m_33 : Cond.initialized "java/lang/Exception" ∈ WL := List.mem_filter.mpr ⟨List.mem_of_getElem? (i := 33) rfl, rfl⟩
set_option maxRecDepth 20000 in
theorem m_34 : Cond.initialized "java/lang/RuntimeException" ∈ WL := List.mem_filter.mpr ⟨List.mem_of_getElem? (i := 34) rfl, rfl⟩
set_option maxRecDepth 20000 in
theorem m_35 : Cond.initialized "java/lang/IllegalStateException" ∈ WL := List.mem_filter.mpr ⟨List.mem_of_getElem? (i := 35) rfl, rfl⟩
set_option maxRecDepth 20000 in
theorem m_36 : Cond.initialized "java/lang/IllegalArgumentException" ∈ WL := List.mem_filter.mpr ⟨List.mem_of_getElem? (i := 36) rfl, rfl⟩
set_option maxRecDepth 20000 in
theorem m_37 : Cond.initialized "java/lang/IndexOutOfBoundsException" ∈ WL := List.mem_filter.mpr ⟨List.mem_of_getElem? (i := 37) rfl, rfl⟩
set_option maxRecDepth 20000 in
theorem m_38 : Cond.initialized R_Ma ∈ WL := List.mem_filter.mpr ⟨List.mem_of_getElem? (i := 38) rfl, rfl⟩
set_option maxRecDepth 20000 in
theorem m_39 : Cond.initialized "java/lang/System" ∈ WL := List.mem_filter.mpr ⟨List.mem_of_getElem? (i := 39) rfl, rfl⟩
set_option maxRecDepth 20000 in
theorem m_40 : Cond.initialized R_In ∈ WL := List.mem_filter.mpr ⟨List.mem_of_getElem? (i := 40) rfl, rfl⟩
set_option maxRecDepth 20000 in
theorem m_41 : Cond.classLink R_La 8 R_Cc ∈ WL := List.mem_filter.mpr ⟨List.mem_of_getElem? (i := 41) rfl, rfl⟩
set_option maxRecDepth 20000 in
theorem m_42 : Cond.instantiable R_Cc 7 ∈ WL := List.mem_filter.mpr ⟨List.mem_of_getElem? (i := 42) rfl, rfl⟩
set_option maxRecDepth 20000 in
theorem m_43 : Cond.methodLink R_La 90 y_Cc_init ∈ WL := List.mem_filter.mpr ⟨List.mem_of_getElem? (i := 43) rfl, rfl⟩
set_option maxRecDepth 20000 in
theorem m_44 : Cond.instanceMethod y_Cc_init ∈ WL := List.mem_filter.mpr ⟨List.mem_of_getElem? (i := 44) rfl, rfl⟩
set_option maxRecDepth 20000 in
theorem m_45 : Cond.code y_Cc_init b_Cc_init 1 (Option.none : Option Jvm.ClassFile.FieldType) ∈ WL := List.mem_filter.mpr ⟨List.mem_of_getElem? (i := 45) rfl, rfl⟩
set_option maxRecDepth 20000 in
theorem m_46 : Cond.methodLink R_Cc 1 ⟨"java/lang/Object", "<init>", "()V"⟩ ∈ WL := List.mem_filter.mpr ⟨List.mem_of_getElem? (i := 46) rfl, rfl⟩
set_option maxRecDepth 20000 in
theorem m_47 : Cond.instanceMethod ⟨"java/lang/Object", "<init>", "()V"⟩ ∈ WL := List.mem_filter.mpr ⟨List.mem_of_getElem? (i := 47) rfl, rfl⟩
set_option maxRecDepth 20000 in
theorem m_49 : Cond.classLink R_Cc 7 R_Go ∈ WL := List.mem_filter.mpr ⟨List.mem_of_getElem? (i := 49) rfl, rfl⟩
set_option maxRecDepth 20000 in
theorem m_50 : Cond.instantiable R_Go 6 ∈ WL := List.mem_filter.mpr ⟨List.mem_of_getElem? (i := 50) rfl, rfl⟩
set_option maxRecDepth 20000 in
theorem m_51 : Cond.methodLink R_Cc 9 y_Go_init ∈ WL := List.mem_filter.mpr ⟨List.mem_of_getElem? (i := 51) rfl, rfl⟩
set_option maxRecDepth 20000 in
theorem m_52 : Cond.instanceMethod y_Go_init ∈ WL := List.mem_filter.mpr ⟨List.mem_of_getElem? (i := 52) rfl, rfl⟩
set_option maxRecDepth 20000 in
theorem m_53 : Cond.code y_Go_init b_Go_init 1 (Option.none : Option Jvm.ClassFile.FieldType) ∈ WL := List.mem_filter.mpr ⟨List.mem_of_getElem? (i := 53) rfl, rfl⟩
set_option maxRecDepth 20000 in
theorem m_54 : Cond.methodLink R_Go 3 ⟨"java/lang/Object", "<init>", "()V"⟩ ∈ WL := List.mem_filter.mpr ⟨List.mem_of_getElem? (i := 54) rfl, rfl⟩
set_option maxRecDepth 20000 in
theorem m_55 : Cond.fieldLink R_Go 9 R_Go "sizes" "[I" ∈ WL := List.mem_filter.mpr ⟨List.mem_of_getElem? (i := 55) rfl, rfl⟩
set_option maxRecDepth 20000 in
theorem m_57 : Cond.fieldLink R_Go 15 R_Go "grams" "[I" ∈ WL := List.mem_filter.mpr ⟨List.mem_of_getElem? (i := 57) rfl, rfl⟩
set_option maxRecDepth 20000 in
theorem m_58 : Cond.fieldLink R_Go 18 R_Go "weakSides" "[I" ∈ WL := List.mem_filter.mpr ⟨List.mem_of_getElem? (i := 58) rfl, rfl⟩
set_option maxRecDepth 20000 in
theorem m_59 : Cond.fieldLink R_Go 21 R_Go "cratesOfSet" "[I" ∈ WL := List.mem_filter.mpr ⟨List.mem_of_getElem? (i := 59) rfl, rfl⟩
set_option maxRecDepth 20000 in
theorem m_60 : Cond.fieldLink R_Go 24 R_Go "loadOfSet" "[I" ∈ WL := List.mem_filter.mpr ⟨List.mem_of_getElem? (i := 60) rfl, rfl⟩
set_option maxRecDepth 20000 in
theorem m_61 : Cond.fieldLink R_Go 27 R_Go "count" "I" ∈ WL := List.mem_filter.mpr ⟨List.mem_of_getElem? (i := 61) rfl, rfl⟩
set_option maxRecDepth 20000 in
theorem m_77 : Cond.arrayClass FieldType.int ∈ WL := List.mem_filter.mpr ⟨List.mem_of_getElem? (i := 77) rfl, rfl⟩
set_option maxRecDepth 20000 in
theorem m_78 : Cond.classLink R_Cc 16 R_Fo ∈ WL := List.mem_filter.mpr ⟨List.mem_of_getElem? (i := 78) rfl, rfl⟩
set_option maxRecDepth 20000 in
theorem m_79 : Cond.instantiable R_Fo 5 ∈ WL := List.mem_filter.mpr ⟨List.mem_of_getElem? (i := 79) rfl, rfl⟩
set_option maxRecDepth 20000 in
theorem m_80 : Cond.methodLink R_Cc 18 y_Fo_init ∈ WL := List.mem_filter.mpr ⟨List.mem_of_getElem? (i := 80) rfl, rfl⟩
set_option maxRecDepth 20000 in
theorem m_81 : Cond.instanceMethod y_Fo_init ∈ WL := List.mem_filter.mpr ⟨List.mem_of_getElem? (i := 81) rfl, rfl⟩
set_option maxRecDepth 20000 in
theorem m_82 : Cond.code y_Fo_init b_Fo_init 1 (Option.none : Option Jvm.ClassFile.FieldType) ∈ WL := List.mem_filter.mpr ⟨List.mem_of_getElem? (i := 82) rfl, rfl⟩
set_option maxRecDepth 20000 in
theorem m_83 : Cond.methodLink R_Fo 3 ⟨"java/lang/Object", "<init>", "()V"⟩ ∈ WL := List.mem_filter.mpr ⟨List.mem_of_getElem? (i := 83) rfl, rfl⟩
set_option maxRecDepth 20000 in
theorem m_84 : Cond.fieldLink R_Fo 9 R_Fo "rowCount" "[I" ∈ WL := List.mem_filter.mpr ⟨List.mem_of_getElem? (i := 84) rfl, rfl⟩
set_option maxRecDepth 20000 in
theorem m_85 : Cond.fieldLink R_Fo 15 R_Fo "thicknessOf" "[I" ∈ WL := List.mem_filter.mpr ⟨List.mem_of_getElem? (i := 85) rfl, rfl⟩
set_option maxRecDepth 20000 in
theorem m_86 : Cond.fieldLink R_Fo 18 R_Fo "pointCount" "[I" ∈ WL := List.mem_filter.mpr ⟨List.mem_of_getElem? (i := 86) rfl, rfl⟩
set_option maxRecDepth 20000 in
theorem m_87 : Cond.fieldLink R_Fo 21 R_Fo "stressOf" "[I" ∈ WL := List.mem_filter.mpr ⟨List.mem_of_getElem? (i := 87) rfl, rfl⟩
set_option maxRecDepth 20000 in
theorem m_88 : Cond.fieldLink R_Fo 24 R_Fo "valueOf" "[I" ∈ WL := List.mem_filter.mpr ⟨List.mem_of_getElem? (i := 88) rfl, rfl⟩
set_option maxRecDepth 20000 in
theorem m_100 : Cond.classLink R_Cc 23 R_Pk ∈ WL := List.mem_filter.mpr ⟨List.mem_of_getElem? (i := 100) rfl, rfl⟩
set_option maxRecDepth 20000 in
theorem m_101 : Cond.instantiable R_Pk 8 ∈ WL := List.mem_filter.mpr ⟨List.mem_of_getElem? (i := 101) rfl, rfl⟩
set_option maxRecDepth 20000 in
theorem m_102 : Cond.methodLink R_Cc 25 y_Pk_init ∈ WL := List.mem_filter.mpr ⟨List.mem_of_getElem? (i := 102) rfl, rfl⟩
set_option maxRecDepth 20000 in
theorem m_103 : Cond.instanceMethod y_Pk_init ∈ WL := List.mem_filter.mpr ⟨List.mem_of_getElem? (i := 103) rfl, rfl⟩
set_option maxRecDepth 20000 in
theorem m_104 : Cond.code y_Pk_init b_Pk_init 1 (Option.none : Option Jvm.ClassFile.FieldType) ∈ WL := List.mem_filter.mpr ⟨List.mem_of_getElem? (i := 104) rfl, rfl⟩
set_option maxRecDepth 20000 in
theorem m_105 : Cond.methodLink R_Pk 3 ⟨"java/lang/Object", "<init>", "()V"⟩ ∈ WL := List.mem_filter.mpr ⟨List.mem_of_getElem? (i := 105) rfl, rfl⟩
set_option maxRecDepth 20000 in
theorem m_106 : Cond.fieldLink R_Pk 9 R_Pk "sizes" "[I" ∈ WL := List.mem_filter.mpr ⟨List.mem_of_getElem? (i := 106) rfl, rfl⟩
set_option maxRecDepth 20000 in
theorem m_107 : Cond.fieldLink R_Pk 15 R_Pk "wayOf" "[I" ∈ WL := List.mem_filter.mpr ⟨List.mem_of_getElem? (i := 107) rfl, rfl⟩
set_option maxRecDepth 20000 in
theorem m_108 : Cond.fieldLink R_Pk 18 R_Pk "startOf" "[I" ∈ WL := List.mem_filter.mpr ⟨List.mem_of_getElem? (i := 108) rfl, rfl⟩
set_option maxRecDepth 20000 in
theorem m_109 : Cond.fieldLink R_Pk 21 R_Pk "triedWay" "[I" ∈ WL := List.mem_filter.mpr ⟨List.mem_of_getElem? (i := 109) rfl, rfl⟩
set_option maxRecDepth 20000 in
theorem m_110 : Cond.fieldLink R_Pk 24 R_Pk "packed" "Z" ∈ WL := List.mem_filter.mpr ⟨List.mem_of_getElem? (i := 110) rfl, rfl⟩
set_option maxRecDepth 20000 in
theorem m_111 : Cond.fieldLink R_Pk 58 R_Pk "members" "I" ∈ WL := List.mem_filter.mpr ⟨List.mem_of_getElem? (i := 111) rfl, rfl⟩
set_option maxRecDepth 20000 in
theorem m_112 : Cond.fieldLink R_Pk 61 R_Pk "gap" "I" ∈ WL := List.mem_filter.mpr ⟨List.mem_of_getElem? (i := 112) rfl, rfl⟩
set_option maxRecDepth 20000 in
theorem m_113 : Cond.fieldLink R_Pk 95 R_Pk "leastProduct" "J" ∈ WL := List.mem_filter.mpr ⟨List.mem_of_getElem? (i := 113) rfl, rfl⟩
set_option maxRecDepth 20000 in
theorem m_131 : Cond.classLink R_Cc 30 R_Sk ∈ WL := List.mem_filter.mpr ⟨List.mem_of_getElem? (i := 131) rfl, rfl⟩
set_option maxRecDepth 20000 in
theorem m_132 : Cond.instantiable R_Sk 5 ∈ WL := List.mem_filter.mpr ⟨List.mem_of_getElem? (i := 132) rfl, rfl⟩
set_option maxRecDepth 20000 in
theorem m_133 : Cond.methodLink R_Cc 32 y_Sk_init ∈ WL := List.mem_filter.mpr ⟨List.mem_of_getElem? (i := 133) rfl, rfl⟩
set_option maxRecDepth 20000 in
theorem m_134 : Cond.instanceMethod y_Sk_init ∈ WL := List.mem_filter.mpr ⟨List.mem_of_getElem? (i := 134) rfl, rfl⟩
set_option maxRecDepth 20000 in
theorem m_135 : Cond.code y_Sk_init b_Sk_init 1 (Option.none : Option Jvm.ClassFile.FieldType) ∈ WL := List.mem_filter.mpr ⟨List.mem_of_getElem? (i := 135) rfl, rfl⟩
set_option maxRecDepth 20000 in
theorem m_136 : Cond.methodLink R_Sk 3 ⟨"java/lang/Object", "<init>", "()V"⟩ ∈ WL := List.mem_filter.mpr ⟨List.mem_of_getElem? (i := 136) rfl, rfl⟩
set_option maxRecDepth 20000 in
theorem m_137 : Cond.fieldLink R_Sk 9 R_Sk "lengthOf" "[I" ∈ WL := List.mem_filter.mpr ⟨List.mem_of_getElem? (i := 137) rfl, rfl⟩
set_option maxRecDepth 20000 in
theorem m_138 : Cond.fieldLink R_Sk 15 R_Sk "widthOf" "[I" ∈ WL := List.mem_filter.mpr ⟨List.mem_of_getElem? (i := 138) rfl, rfl⟩
set_option maxRecDepth 20000 in
theorem m_139 : Cond.fieldLink R_Sk 18 R_Sk "heightOf" "[I" ∈ WL := List.mem_filter.mpr ⟨List.mem_of_getElem? (i := 139) rfl, rfl⟩
set_option maxRecDepth 20000 in
theorem m_140 : Cond.fieldLink R_Sk 21 R_Sk "taken" "[Z" ∈ WL := List.mem_filter.mpr ⟨List.mem_of_getElem? (i := 140) rfl, rfl⟩
set_option maxRecDepth 20000 in
theorem m_141 : Cond.fieldLink R_Sk 25 R_Sk "count" "I" ∈ WL := List.mem_filter.mpr ⟨List.mem_of_getElem? (i := 141) rfl, rfl⟩
set_option maxRecDepth 20000 in
theorem m_154 : Cond.arrayClass FieldType.boolean ∈ WL := List.mem_filter.mpr ⟨List.mem_of_getElem? (i := 154) rfl, rfl⟩
set_option maxRecDepth 20000 in
theorem m_155 : Cond.classLink R_Cc 37 R_Ai ∈ WL := List.mem_filter.mpr ⟨List.mem_of_getElem? (i := 155) rfl, rfl⟩
set_option maxRecDepth 20000 in
theorem m_156 : Cond.instantiable R_Ai 3 ∈ WL := List.mem_filter.mpr ⟨List.mem_of_getElem? (i := 156) rfl, rfl⟩
set_option maxRecDepth 20000 in
theorem m_157 : Cond.methodLink R_Cc 39 y_Ai_init ∈ WL := List.mem_filter.mpr ⟨List.mem_of_getElem? (i := 157) rfl, rfl⟩
set_option maxRecDepth 20000 in
theorem m_158 : Cond.instanceMethod y_Ai_init ∈ WL := List.mem_filter.mpr ⟨List.mem_of_getElem? (i := 158) rfl, rfl⟩
set_option maxRecDepth 20000 in
theorem m_159 : Cond.code y_Ai_init b_Ai_init 1 (Option.none : Option Jvm.ClassFile.FieldType) ∈ WL := List.mem_filter.mpr ⟨List.mem_of_getElem? (i := 159) rfl, rfl⟩
set_option maxRecDepth 20000 in
theorem m_160 : Cond.methodLink R_Ai 3 ⟨"java/lang/Object", "<init>", "()V"⟩ ∈ WL := List.mem_filter.mpr ⟨List.mem_of_getElem? (i := 160) rfl, rfl⟩
set_option maxRecDepth 20000 in
theorem m_161 : Cond.fieldLink R_Ai 9 R_Ai "insideAfter" "[I" ∈ WL := List.mem_filter.mpr ⟨List.mem_of_getElem? (i := 161) rfl, rfl⟩
set_option maxRecDepth 20000 in
theorem m_162 : Cond.fieldLink R_Ai 15 R_Ai "hours" "I" ∈ WL := List.mem_filter.mpr ⟨List.mem_of_getElem? (i := 162) rfl, rfl⟩
set_option maxRecDepth 20000 in
theorem m_164 : Cond.fieldLink R_Ai 19 R_Ai "lagHours" "I" ∈ WL := List.mem_filter.mpr ⟨List.mem_of_getElem? (i := 164) rfl, rfl⟩
set_option maxRecDepth 20000 in
theorem m_172 : Cond.classLink R_Cc 44 R_Sh ∈ WL := List.mem_filter.mpr ⟨List.mem_of_getElem? (i := 172) rfl, rfl⟩
set_option maxRecDepth 20000 in
theorem m_173 : Cond.instantiable R_Sh 4 ∈ WL := List.mem_filter.mpr ⟨List.mem_of_getElem? (i := 173) rfl, rfl⟩
set_option maxRecDepth 20000 in
theorem m_174 : Cond.methodLink R_Cc 46 y_Sh_init ∈ WL := List.mem_filter.mpr ⟨List.mem_of_getElem? (i := 174) rfl, rfl⟩
set_option maxRecDepth 20000 in
theorem m_175 : Cond.instanceMethod y_Sh_init ∈ WL := List.mem_filter.mpr ⟨List.mem_of_getElem? (i := 175) rfl, rfl⟩
set_option maxRecDepth 20000 in
theorem m_176 : Cond.code y_Sh_init b_Sh_init 1 (Option.none : Option Jvm.ClassFile.FieldType) ∈ WL := List.mem_filter.mpr ⟨List.mem_of_getElem? (i := 176) rfl, rfl⟩
set_option maxRecDepth 20000 in
theorem m_177 : Cond.methodLink R_Sh 3 ⟨"java/lang/Object", "<init>", "()V"⟩ ∈ WL := List.mem_filter.mpr ⟨List.mem_of_getElem? (i := 177) rfl, rfl⟩
set_option maxRecDepth 20000 in
theorem m_178 : Cond.fieldLink R_Sh 9 R_Sh "peak" "I" ∈ WL := List.mem_filter.mpr ⟨List.mem_of_getElem? (i := 178) rfl, rfl⟩
set_option maxRecDepth 20000 in
theorem m_179 : Cond.fieldLink R_Sh 15 R_Sh "longest" "I" ∈ WL := List.mem_filter.mpr ⟨List.mem_of_getElem? (i := 179) rfl, rfl⟩
set_option maxRecDepth 20000 in
theorem m_180 : Cond.fieldLink R_Sh 18 R_Sh "count" "I" ∈ WL := List.mem_filter.mpr ⟨List.mem_of_getElem? (i := 180) rfl, rfl⟩
set_option maxRecDepth 20000 in
theorem m_182 : Cond.fieldLink R_Sh 21 R_Sh "toldCount" "I" ∈ WL := List.mem_filter.mpr ⟨List.mem_of_getElem? (i := 182) rfl, rfl⟩
set_option maxRecDepth 20000 in
theorem m_193 : Cond.classLink R_Cc 51 R_Jo ∈ WL := List.mem_filter.mpr ⟨List.mem_of_getElem? (i := 193) rfl, rfl⟩
set_option maxRecDepth 20000 in
theorem m_194 : Cond.instantiable R_Jo 2 ∈ WL := List.mem_filter.mpr ⟨List.mem_of_getElem? (i := 194) rfl, rfl⟩
set_option maxRecDepth 20000 in
theorem m_195 : Cond.methodLink R_Cc 53 y_Jo_init ∈ WL := List.mem_filter.mpr ⟨List.mem_of_getElem? (i := 195) rfl, rfl⟩
set_option maxRecDepth 20000 in
theorem m_196 : Cond.instanceMethod y_Jo_init ∈ WL := List.mem_filter.mpr ⟨List.mem_of_getElem? (i := 196) rfl, rfl⟩
set_option maxRecDepth 20000 in
theorem m_197 : Cond.code y_Jo_init b_Jo_init 1 (Option.none : Option Jvm.ClassFile.FieldType) ∈ WL := List.mem_filter.mpr ⟨List.mem_of_getElem? (i := 197) rfl, rfl⟩
set_option maxRecDepth 20000 in
theorem m_198 : Cond.methodLink R_Jo 3 ⟨"java/lang/Object", "<init>", "()V"⟩ ∈ WL := List.mem_filter.mpr ⟨List.mem_of_getElem? (i := 198) rfl, rfl⟩
set_option maxRecDepth 20000 in
theorem m_199 : Cond.fieldLink R_Jo 9 R_Jo "drops" "[I" ∈ WL := List.mem_filter.mpr ⟨List.mem_of_getElem? (i := 199) rfl, rfl⟩
set_option maxRecDepth 20000 in
theorem m_200 : Cond.fieldLink R_Jo 15 R_Jo "legCount" "I" ∈ WL := List.mem_filter.mpr ⟨List.mem_of_getElem? (i := 200) rfl, rfl⟩
set_option maxRecDepth 20000 in
theorem m_206 : Cond.fieldLink R_Cc 10 R_Cc "goods" "LCrateCushions$Goods;" ∈ WL := List.mem_filter.mpr ⟨List.mem_of_getElem? (i := 206) rfl, rfl⟩
set_option maxRecDepth 20000 in
theorem m_207 : Cond.fieldLink R_Cc 19 R_Cc "foams" "LCrateCushions$Foams;" ∈ WL := List.mem_filter.mpr ⟨List.mem_of_getElem? (i := 207) rfl, rfl⟩
set_option maxRecDepth 20000 in
theorem m_208 : Cond.fieldLink R_Cc 26 R_Cc "packing" "LCrateCushions$Packing;" ∈ WL := List.mem_filter.mpr ⟨List.mem_of_getElem? (i := 208) rfl, rfl⟩
set_option maxRecDepth 20000 in
theorem m_209 : Cond.fieldLink R_Cc 33 R_Cc "stock" "LCrateCushions$Stock;" ∈ WL := List.mem_filter.mpr ⟨List.mem_of_getElem? (i := 209) rfl, rfl⟩
set_option maxRecDepth 20000 in
theorem m_210 : Cond.fieldLink R_Cc 40 R_Cc "air" "LCrateCushions$Air;" ∈ WL := List.mem_filter.mpr ⟨List.mem_of_getElem? (i := 210) rfl, rfl⟩
set_option maxRecDepth 20000 in
theorem m_211 : Cond.fieldLink R_Cc 47 R_Cc "shocks" "LCrateCushions$Shocks;" ∈ WL := List.mem_filter.mpr ⟨List.mem_of_getElem? (i := 211) rfl, rfl⟩
set_option maxRecDepth 20000 in
theorem m_212 : Cond.fieldLink R_Cc 54 R_Cc "journey" "LCrateCushions$Journey;" ∈ WL := List.mem_filter.mpr ⟨List.mem_of_getElem? (i := 212) rfl, rfl⟩
set_option maxRecDepth 20000 in
theorem m_228 : Cond.methodLink R_La 94 y_La_object ∈ WL := List.mem_filter.mpr ⟨List.mem_of_getElem? (i := 228) rfl, rfl⟩
set_option maxRecDepth 20000 in
theorem m_229 : Cond.static y_La_object ∈ WL := List.mem_filter.mpr ⟨List.mem_of_getElem? (i := 229) rfl, rfl⟩
set_option maxRecDepth 20000 in
theorem m_231 : Cond.classLink R_La 13 "java/lang/IllegalStateException" ∈ WL := List.mem_filter.mpr ⟨List.mem_of_getElem? (i := 231) rfl, rfl⟩
set_option maxRecDepth 20000 in
theorem m_232 : Cond.classLink R_La 15 "java/lang/IllegalArgumentException" ∈ WL := List.mem_filter.mpr ⟨List.mem_of_getElem? (i := 232) rfl, rfl⟩
set_option maxRecDepth 20000 in
theorem m_233 : Cond.methodLink R_La 7 y_Cc_object ∈ WL := List.mem_filter.mpr ⟨List.mem_of_getElem? (i := 233) rfl, rfl⟩
set_option maxRecDepth 20000 in
theorem m_234 : Cond.instanceMethod y_Cc_object ∈ WL := List.mem_filter.mpr ⟨List.mem_of_getElem? (i := 234) rfl, rfl⟩
set_option maxRecDepth 20000 in
theorem m_235 : Cond.selects R_Cc y_Cc_object y_Cc_object ∈ WL := List.mem_filter.mpr ⟨List.mem_of_getElem? (i := 235) rfl, rfl⟩
set_option maxRecDepth 20000 in
theorem m_236 : Cond.code y_Cc_object b_Cc_object 5 (some .int) ∈ WL := List.mem_filter.mpr ⟨List.mem_of_getElem? (i := 236) rfl, rfl⟩
set_option maxRecDepth 20000 in
theorem m_237 : Cond.methodLink R_Cc 58 y_Go_add ∈ WL := List.mem_filter.mpr ⟨List.mem_of_getElem? (i := 237) rfl, rfl⟩
set_option maxRecDepth 20000 in
theorem m_238 : Cond.instanceMethod y_Go_add ∈ WL := List.mem_filter.mpr ⟨List.mem_of_getElem? (i := 238) rfl, rfl⟩
set_option maxRecDepth 20000 in
theorem m_239 : Cond.selects R_Go y_Go_add y_Go_add ∈ WL := List.mem_filter.mpr ⟨List.mem_of_getElem? (i := 239) rfl, rfl⟩
set_option maxRecDepth 20000 in
theorem m_240 : Cond.code y_Go_add b_Go_add 6 (some .int) ∈ WL := List.mem_filter.mpr ⟨List.mem_of_getElem? (i := 240) rfl, rfl⟩
set_option maxRecDepth 20000 in
theorem m_242 : Cond.static y_Cc_requireRoom ∈ WL := List.mem_filter.mpr ⟨List.mem_of_getElem? (i := 242) rfl, rfl⟩
set_option maxRecDepth 20000 in
theorem m_243 : Cond.code y_Cc_requireRoom b_Cc_requireRoom 2 (Option.none : Option Jvm.ClassFile.FieldType) ∈ WL := List.mem_filter.mpr ⟨List.mem_of_getElem? (i := 243) rfl, rfl⟩
set_option maxRecDepth 20000 in
theorem m_244 : Cond.classLink R_Cc 161 "java/lang/IllegalStateException" ∈ WL := List.mem_filter.mpr ⟨List.mem_of_getElem? (i := 244) rfl, rfl⟩
set_option maxRecDepth 20000 in
theorem m_245 : Cond.instantiable "java/lang/IllegalStateException" 6 ∈ WL := List.mem_filter.mpr ⟨List.mem_of_getElem? (i := 245) rfl, rfl⟩
set_option maxRecDepth 20000 in
theorem m_253 : Cond.selects "java/lang/IllegalStateException" ⟨"java/lang/Throwable", "fillInStackTrace", "(I)Ljava/lang/Throwable;"⟩ ⟨"java/lang/Throwable", "fillInStackTrace", "(I)Ljava/lang/Throwable;"⟩ ∈ WL := List.mem_filter.mpr ⟨List.mem_of_getElem? (i := 253) rfl, rfl⟩
set_option maxRecDepth 20000 in
theorem m_254 : Cond.selects "java/lang/IllegalStateException" ⟨"java/lang/Throwable", "fillInStackTrace", "()Ljava/lang/Throwable;"⟩ ⟨"java/lang/Throwable", "fillInStackTrace", "()Ljava/lang/Throwable;"⟩ ∈ WL := List.mem_filter.mpr ⟨List.mem_of_getElem? (i := 254) rfl, rfl⟩
set_option maxRecDepth 20000 in
theorem m_265 : Cond.fieldLink "java/lang/Throwable" 198 "java/lang/Throwable" "backtrace" "Ljava/lang/Object;" ∈ WL := List.mem_filter.mpr ⟨List.mem_of_getElem? (i := 265) rfl, rfl⟩
set_option maxRecDepth 20000 in
theorem m_267 : Cond.instanceMethod ⟨"java/lang/Throwable", "<init>", "()V"⟩ ∈ WL := List.mem_filter.mpr ⟨List.mem_of_getElem? (i := 267) rfl, rfl⟩
set_option maxRecDepth 20000 in
theorem m_269 : Cond.methodLink "java/lang/Throwable" 1 ⟨"java/lang/Object", "<init>", "()V"⟩ ∈ WL := List.mem_filter.mpr ⟨List.mem_of_getElem? (i := 269) rfl, rfl⟩
set_option maxRecDepth 20000 in
theorem m_270 : Cond.fieldLink "java/lang/Throwable" 13 "java/lang/Throwable" "UNASSIGNED_STACK" "[Ljava/lang/StackTraceElement;" ∈ WL := List.mem_filter.mpr ⟨List.mem_of_getElem? (i := 270) rfl, rfl⟩
set_option maxRecDepth 20000 in
theorem m_272 : Cond.fieldLink "java/lang/Throwable" 20 "java/lang/Throwable" "SUPPRESSED_SENTINEL" "Ljava/util/List;" ∈ WL := List.mem_filter.mpr ⟨List.mem_of_getElem? (i := 272) rfl, rfl⟩
set_option maxRecDepth 20000 in
theorem m_274 : Cond.methodLink "java/lang/Throwable" 27 ⟨"java/lang/Throwable", "fillInStackTrace", "()Ljava/lang/Throwable;"⟩ ∈ WL := List.mem_filter.mpr ⟨List.mem_of_getElem? (i := 274) rfl, rfl⟩
set_option maxRecDepth 20000 in
theorem m_275 : Cond.instanceMethod ⟨"java/lang/Throwable", "fillInStackTrace", "()Ljava/lang/Throwable;"⟩ ∈ WL := List.mem_filter.mpr ⟨List.mem_of_getElem? (i := 275) rfl, rfl⟩
set_option maxRecDepth 20000 in
theorem m_277 : Cond.selects "java/lang/IllegalArgumentException" ⟨"java/lang/Throwable", "fillInStackTrace", "()Ljava/lang/Throwable;"⟩ ⟨"java/lang/Throwable", "fillInStackTrace", "()Ljava/lang/Throwable;"⟩ ∈ WL := List.mem_filter.mpr ⟨List.mem_of_getElem? (i := 277) rfl, rfl⟩
set_option maxRecDepth 20000 in
theorem m_278 : Cond.selects "java/lang/IndexOutOfBoundsException" ⟨"java/lang/Throwable", "fillInStackTrace", "()Ljava/lang/Throwable;"⟩ ⟨"java/lang/Throwable", "fillInStackTrace", "()Ljava/lang/Throwable;"⟩ ∈ WL := List.mem_filter.mpr ⟨List.mem_of_getElem? (i := 278) rfl, rfl⟩
set_option maxRecDepth 20000 in
theorem m_280 : Cond.methodLink "java/lang/Throwable" 202 ⟨"java/lang/Throwable", "fillInStackTrace", "(I)Ljava/lang/Throwable;"⟩ ∈ WL := List.mem_filter.mpr ⟨List.mem_of_getElem? (i := 280) rfl, rfl⟩
set_option maxRecDepth 20000 in
theorem m_282 : Cond.instanceMethod ⟨"java/lang/Throwable", "fillInStackTrace", "(I)Ljava/lang/Throwable;"⟩ ∈ WL := List.mem_filter.mpr ⟨List.mem_of_getElem? (i := 282) rfl, rfl⟩
set_option maxRecDepth 20000 in
theorem m_283 : Cond.instantiable "java/lang/Throwable" 6 ∈ WL := List.mem_filter.mpr ⟨List.mem_of_getElem? (i := 283) rfl, rfl⟩
set_option maxRecDepth 20000 in
theorem m_284 : Cond.native ⟨"java/lang/Throwable", "fillInStackTrace", "(I)Ljava/lang/Throwable;"⟩ ∈ WL := List.mem_filter.mpr ⟨List.mem_of_getElem? (i := 284) rfl, rfl⟩
set_option maxRecDepth 20000 in
theorem m_286 : Cond.methodLink R_Cc 165 ⟨"java/lang/IllegalStateException", "<init>", "(Ljava/lang/String;)V"⟩ ∈ WL := List.mem_filter.mpr ⟨List.mem_of_getElem? (i := 286) rfl, rfl⟩
set_option maxRecDepth 20000 in
theorem m_287 : Cond.instanceMethod ⟨"java/lang/IllegalStateException", "<init>", "(Ljava/lang/String;)V"⟩ ∈ WL := List.mem_filter.mpr ⟨List.mem_of_getElem? (i := 287) rfl, rfl⟩
set_option maxRecDepth 20000 in
theorem m_289 : Cond.methodLink "java/lang/IllegalStateException" 7 ⟨"java/lang/RuntimeException", "<init>", "(Ljava/lang/String;)V"⟩ ∈ WL := List.mem_filter.mpr ⟨List.mem_of_getElem? (i := 289) rfl, rfl⟩
set_option maxRecDepth 20000 in
theorem m_290 : Cond.instanceMethod ⟨"java/lang/RuntimeException", "<init>", "(Ljava/lang/String;)V"⟩ ∈ WL := List.mem_filter.mpr ⟨List.mem_of_getElem? (i := 290) rfl, rfl⟩
set_option maxRecDepth 20000 in
theorem m_292 : Cond.methodLink "java/lang/RuntimeException" 7 ⟨"java/lang/Exception", "<init>", "(Ljava/lang/String;)V"⟩ ∈ WL := List.mem_filter.mpr ⟨List.mem_of_getElem? (i := 292) rfl, rfl⟩
set_option maxRecDepth 20000 in
theorem m_293 : Cond.instanceMethod ⟨"java/lang/Exception", "<init>", "(Ljava/lang/String;)V"⟩ ∈ WL := List.mem_filter.mpr ⟨List.mem_of_getElem? (i := 293) rfl, rfl⟩
set_option maxRecDepth 20000 in
theorem m_295 : Cond.methodLink "java/lang/Exception" 7 ⟨"java/lang/Throwable", "<init>", "(Ljava/lang/String;)V"⟩ ∈ WL := List.mem_filter.mpr ⟨List.mem_of_getElem? (i := 295) rfl, rfl⟩
set_option maxRecDepth 20000 in
theorem m_296 : Cond.instanceMethod ⟨"java/lang/Throwable", "<init>", "(Ljava/lang/String;)V"⟩ ∈ WL := List.mem_filter.mpr ⟨List.mem_of_getElem? (i := 296) rfl, rfl⟩
set_option maxRecDepth 20000 in
theorem m_299 : Cond.fieldLink "java/lang/Throwable" 31 "java/lang/Throwable" "detailMessage" "Ljava/lang/String;" ∈ WL := List.mem_filter.mpr ⟨List.mem_of_getElem? (i := 299) rfl, rfl⟩
set_option maxRecDepth 20000 in
theorem m_300 : Cond.fieldLink "java/lang/Throwable" 7 "java/lang/Throwable" "cause" "Ljava/lang/Throwable;" ∈ WL := List.mem_filter.mpr ⟨List.mem_of_getElem? (i := 300) rfl, rfl⟩
set_option maxRecDepth 20000 in
theorem m_301 : Cond.fieldLink "java/lang/Throwable" 17 "java/lang/Throwable" "stackTrace" "[Ljava/lang/StackTraceElement;" ∈ WL := List.mem_filter.mpr ⟨List.mem_of_getElem? (i := 301) rfl, rfl⟩
set_option maxRecDepth 20000 in
theorem m_302 : Cond.fieldLink "java/lang/Throwable" 24 "java/lang/Throwable" "suppressedExceptions" "Ljava/util/List;" ∈ WL := List.mem_filter.mpr ⟨List.mem_of_getElem? (i := 302) rfl, rfl⟩
set_option maxRecDepth 20000 in
theorem m_311 : Cond.arrayClass FieldType.byte ∈ WL := List.mem_filter.mpr ⟨List.mem_of_getElem? (i := 311) rfl, rfl⟩
set_option maxRecDepth 20000 in
theorem m_313 : Cond.static y_Cc_requireRange ∈ WL := List.mem_filter.mpr ⟨List.mem_of_getElem? (i := 313) rfl, rfl⟩
set_option maxRecDepth 20000 in
theorem m_314 : Cond.code y_Cc_requireRange b_Cc_requireRange 3 (Option.none : Option Jvm.ClassFile.FieldType) ∈ WL := List.mem_filter.mpr ⟨List.mem_of_getElem? (i := 314) rfl, rfl⟩
set_option maxRecDepth 20000 in
theorem m_315 : Cond.classLink R_Cc 156 "java/lang/IllegalArgumentException" ∈ WL := List.mem_filter.mpr ⟨List.mem_of_getElem? (i := 315) rfl, rfl⟩
set_option maxRecDepth 20000 in
theorem m_316 : Cond.instantiable "java/lang/IllegalArgumentException" 6 ∈ WL := List.mem_filter.mpr ⟨List.mem_of_getElem? (i := 316) rfl, rfl⟩
set_option maxRecDepth 20000 in
theorem m_318 : Cond.selects "java/lang/IllegalArgumentException" ⟨"java/lang/Throwable", "fillInStackTrace", "(I)Ljava/lang/Throwable;"⟩ ⟨"java/lang/Throwable", "fillInStackTrace", "(I)Ljava/lang/Throwable;"⟩ ∈ WL := List.mem_filter.mpr ⟨List.mem_of_getElem? (i := 318) rfl, rfl⟩
set_option maxRecDepth 20000 in
theorem m_325 : Cond.methodLink R_Cc 160 ⟨"java/lang/IllegalArgumentException", "<init>", "(Ljava/lang/String;)V"⟩ ∈ WL := List.mem_filter.mpr ⟨List.mem_of_getElem? (i := 325) rfl, rfl⟩
set_option maxRecDepth 20000 in
theorem m_326 : Cond.instanceMethod ⟨"java/lang/IllegalArgumentException", "<init>", "(Ljava/lang/String;)V"⟩ ∈ WL := List.mem_filter.mpr ⟨List.mem_of_getElem? (i := 326) rfl, rfl⟩
set_option maxRecDepth 20000 in
theorem m_328 : Cond.methodLink "java/lang/IllegalArgumentException" 7 ⟨"java/lang/RuntimeException", "<init>", "(Ljava/lang/String;)V"⟩ ∈ WL := List.mem_filter.mpr ⟨List.mem_of_getElem? (i := 328) rfl, rfl⟩
set_option maxRecDepth 20000 in
theorem m_331 : Cond.constant R_Go 39 100000 ∈ WL := List.mem_filter.mpr ⟨List.mem_of_getElem? (i := 331) rfl, rfl⟩
set_option maxRecDepth 20000 in
theorem m_332 : Cond.methodLink R_La 103 y_La_weak ∈ WL := List.mem_filter.mpr ⟨List.mem_of_getElem? (i := 332) rfl, rfl⟩
set_option maxRecDepth 20000 in
theorem m_333 : Cond.static y_La_weak ∈ WL := List.mem_filter.mpr ⟨List.mem_of_getElem? (i := 333) rfl, rfl⟩
set_option maxRecDepth 20000 in
theorem m_335 : Cond.classLink R_La 21 "java/lang/IndexOutOfBoundsException" ∈ WL := List.mem_filter.mpr ⟨List.mem_of_getElem? (i := 335) rfl, rfl⟩
set_option maxRecDepth 20000 in
theorem m_336 : Cond.methodLink R_La 17 y_Cc_weak ∈ WL := List.mem_filter.mpr ⟨List.mem_of_getElem? (i := 336) rfl, rfl⟩
set_option maxRecDepth 20000 in
theorem m_337 : Cond.instanceMethod y_Cc_weak ∈ WL := List.mem_filter.mpr ⟨List.mem_of_getElem? (i := 337) rfl, rfl⟩
set_option maxRecDepth 20000 in
theorem m_338 : Cond.selects R_Cc y_Cc_weak y_Cc_weak ∈ WL := List.mem_filter.mpr ⟨List.mem_of_getElem? (i := 338) rfl, rfl⟩
set_option maxRecDepth 20000 in
theorem m_339 : Cond.code y_Cc_weak b_Cc_weak 4 (some .boolean) ∈ WL := List.mem_filter.mpr ⟨List.mem_of_getElem? (i := 339) rfl, rfl⟩
set_option maxRecDepth 20000 in
theorem m_340 : Cond.methodLink R_Cc 62 y_Go_setWeak ∈ WL := List.mem_filter.mpr ⟨List.mem_of_getElem? (i := 340) rfl, rfl⟩
set_option maxRecDepth 20000 in
theorem m_341 : Cond.instanceMethod y_Go_setWeak ∈ WL := List.mem_filter.mpr ⟨List.mem_of_getElem? (i := 341) rfl, rfl⟩
set_option maxRecDepth 20000 in
theorem m_342 : Cond.selects R_Go y_Go_setWeak y_Go_setWeak ∈ WL := List.mem_filter.mpr ⟨List.mem_of_getElem? (i := 342) rfl, rfl⟩
set_option maxRecDepth 20000 in
theorem m_343 : Cond.code y_Go_setWeak b_Go_setWeak 6 (some .boolean) ∈ WL := List.mem_filter.mpr ⟨List.mem_of_getElem? (i := 343) rfl, rfl⟩
set_option maxRecDepth 20000 in
theorem m_345 : Cond.static y_Cc_requireIndex ∈ WL := List.mem_filter.mpr ⟨List.mem_of_getElem? (i := 345) rfl, rfl⟩
set_option maxRecDepth 20000 in
theorem m_346 : Cond.code y_Cc_requireIndex b_Cc_requireIndex 2 (Option.none : Option Jvm.ClassFile.FieldType) ∈ WL := List.mem_filter.mpr ⟨List.mem_of_getElem? (i := 346) rfl, rfl⟩
set_option maxRecDepth 20000 in
theorem m_347 : Cond.classLink R_Cc 147 "java/lang/IndexOutOfBoundsException" ∈ WL := List.mem_filter.mpr ⟨List.mem_of_getElem? (i := 347) rfl, rfl⟩
set_option maxRecDepth 20000 in
theorem m_348 : Cond.instantiable "java/lang/IndexOutOfBoundsException" 6 ∈ WL := List.mem_filter.mpr ⟨List.mem_of_getElem? (i := 348) rfl, rfl⟩
set_option maxRecDepth 20000 in
theorem m_350 : Cond.selects "java/lang/IndexOutOfBoundsException" ⟨"java/lang/Throwable", "fillInStackTrace", "(I)Ljava/lang/Throwable;"⟩ ⟨"java/lang/Throwable", "fillInStackTrace", "(I)Ljava/lang/Throwable;"⟩ ∈ WL := List.mem_filter.mpr ⟨List.mem_of_getElem? (i := 350) rfl, rfl⟩
set_option maxRecDepth 20000 in
theorem m_357 : Cond.methodLink R_Cc 151 ⟨"java/lang/IndexOutOfBoundsException", "<init>", "(Ljava/lang/String;)V"⟩ ∈ WL := List.mem_filter.mpr ⟨List.mem_of_getElem? (i := 357) rfl, rfl⟩
set_option maxRecDepth 20000 in
theorem m_358 : Cond.instanceMethod ⟨"java/lang/IndexOutOfBoundsException", "<init>", "(Ljava/lang/String;)V"⟩ ∈ WL := List.mem_filter.mpr ⟨List.mem_of_getElem? (i := 358) rfl, rfl⟩
set_option maxRecDepth 20000 in
theorem m_360 : Cond.methodLink "java/lang/IndexOutOfBoundsException" 7 ⟨"java/lang/RuntimeException", "<init>", "(Ljava/lang/String;)V"⟩ ∈ WL := List.mem_filter.mpr ⟨List.mem_of_getElem? (i := 360) rfl, rfl⟩
set_option maxRecDepth 20000 in
theorem m_363 : Cond.methodLink R_La 107 y_La_foam ∈ WL := List.mem_filter.mpr ⟨List.mem_of_getElem? (i := 363) rfl, rfl⟩
set_option maxRecDepth 20000 in
theorem m_364 : Cond.static y_La_foam ∈ WL := List.mem_filter.mpr ⟨List.mem_of_getElem? (i := 364) rfl, rfl⟩
set_option maxRecDepth 20000 in
theorem m_366 : Cond.methodLink R_La 23 y_Cc_foam ∈ WL := List.mem_filter.mpr ⟨List.mem_of_getElem? (i := 366) rfl, rfl⟩
set_option maxRecDepth 20000 in
theorem m_367 : Cond.instanceMethod y_Cc_foam ∈ WL := List.mem_filter.mpr ⟨List.mem_of_getElem? (i := 367) rfl, rfl⟩
set_option maxRecDepth 20000 in
theorem m_368 : Cond.selects R_Cc y_Cc_foam y_Cc_foam ∈ WL := List.mem_filter.mpr ⟨List.mem_of_getElem? (i := 368) rfl, rfl⟩
set_option maxRecDepth 20000 in
theorem m_369 : Cond.code y_Cc_foam b_Cc_foam 3 (some .int) ∈ WL := List.mem_filter.mpr ⟨List.mem_of_getElem? (i := 369) rfl, rfl⟩
set_option maxRecDepth 20000 in
theorem m_370 : Cond.methodLink R_Cc 66 y_Fo_addRow ∈ WL := List.mem_filter.mpr ⟨List.mem_of_getElem? (i := 370) rfl, rfl⟩
set_option maxRecDepth 20000 in
theorem m_371 : Cond.instanceMethod y_Fo_addRow ∈ WL := List.mem_filter.mpr ⟨List.mem_of_getElem? (i := 371) rfl, rfl⟩
set_option maxRecDepth 20000 in
theorem m_372 : Cond.selects R_Fo y_Fo_addRow y_Fo_addRow ∈ WL := List.mem_filter.mpr ⟨List.mem_of_getElem? (i := 372) rfl, rfl⟩
set_option maxRecDepth 20000 in
theorem m_373 : Cond.code y_Fo_addRow b_Fo_addRow 6 (some .int) ∈ WL := List.mem_filter.mpr ⟨List.mem_of_getElem? (i := 373) rfl, rfl⟩
set_option maxRecDepth 20000 in
theorem m_377 : Cond.methodLink R_La 111 y_La_point ∈ WL := List.mem_filter.mpr ⟨List.mem_of_getElem? (i := 377) rfl, rfl⟩
set_option maxRecDepth 20000 in
theorem m_378 : Cond.static y_La_point ∈ WL := List.mem_filter.mpr ⟨List.mem_of_getElem? (i := 378) rfl, rfl⟩
set_option maxRecDepth 20000 in
theorem m_380 : Cond.methodLink R_La 27 y_Cc_point ∈ WL := List.mem_filter.mpr ⟨List.mem_of_getElem? (i := 380) rfl, rfl⟩
set_option maxRecDepth 20000 in
theorem m_381 : Cond.instanceMethod y_Cc_point ∈ WL := List.mem_filter.mpr ⟨List.mem_of_getElem? (i := 381) rfl, rfl⟩
set_option maxRecDepth 20000 in
theorem m_382 : Cond.selects R_Cc y_Cc_point y_Cc_point ∈ WL := List.mem_filter.mpr ⟨List.mem_of_getElem? (i := 382) rfl, rfl⟩
set_option maxRecDepth 20000 in
theorem m_383 : Cond.code y_Cc_point b_Cc_point 5 (some .int) ∈ WL := List.mem_filter.mpr ⟨List.mem_of_getElem? (i := 383) rfl, rfl⟩
set_option maxRecDepth 20000 in
theorem m_384 : Cond.methodLink R_Cc 70 y_Fo_addPoint ∈ WL := List.mem_filter.mpr ⟨List.mem_of_getElem? (i := 384) rfl, rfl⟩
set_option maxRecDepth 20000 in
theorem m_385 : Cond.instanceMethod y_Fo_addPoint ∈ WL := List.mem_filter.mpr ⟨List.mem_of_getElem? (i := 385) rfl, rfl⟩
set_option maxRecDepth 20000 in
theorem m_386 : Cond.selects R_Fo y_Fo_addPoint y_Fo_addPoint ∈ WL := List.mem_filter.mpr ⟨List.mem_of_getElem? (i := 386) rfl, rfl⟩
set_option maxRecDepth 20000 in
theorem m_387 : Cond.code y_Fo_addPoint b_Fo_addPoint 9 (some .int) ∈ WL := List.mem_filter.mpr ⟨List.mem_of_getElem? (i := 387) rfl, rfl⟩
set_option maxRecDepth 20000 in
theorem m_388 : Cond.methodLink R_Fo 38 y_Fo_placeOf ∈ WL := List.mem_filter.mpr ⟨List.mem_of_getElem? (i := 388) rfl, rfl⟩
set_option maxRecDepth 20000 in
theorem m_390 : Cond.instanceMethod y_Fo_placeOf ∈ WL := List.mem_filter.mpr ⟨List.mem_of_getElem? (i := 390) rfl, rfl⟩
set_option maxRecDepth 20000 in
theorem m_391 : Cond.code y_Fo_placeOf b_Fo_placeOf 3 (some .int) ∈ WL := List.mem_filter.mpr ⟨List.mem_of_getElem? (i := 391) rfl, rfl⟩
set_option maxRecDepth 20000 in
theorem m_392 : Cond.methodLink R_La 114 y_La_value ∈ WL := List.mem_filter.mpr ⟨List.mem_of_getElem? (i := 392) rfl, rfl⟩
set_option maxRecDepth 20000 in
theorem m_393 : Cond.static y_La_value ∈ WL := List.mem_filter.mpr ⟨List.mem_of_getElem? (i := 393) rfl, rfl⟩
set_option maxRecDepth 20000 in
theorem m_395 : Cond.methodLink R_La 30 y_Cc_value ∈ WL := List.mem_filter.mpr ⟨List.mem_of_getElem? (i := 395) rfl, rfl⟩
set_option maxRecDepth 20000 in
theorem m_396 : Cond.instanceMethod y_Cc_value ∈ WL := List.mem_filter.mpr ⟨List.mem_of_getElem? (i := 396) rfl, rfl⟩
set_option maxRecDepth 20000 in
theorem m_397 : Cond.selects R_Cc y_Cc_value y_Cc_value ∈ WL := List.mem_filter.mpr ⟨List.mem_of_getElem? (i := 397) rfl, rfl⟩
set_option maxRecDepth 20000 in
theorem m_398 : Cond.code y_Cc_value b_Cc_value 4 (some .int) ∈ WL := List.mem_filter.mpr ⟨List.mem_of_getElem? (i := 398) rfl, rfl⟩
set_option maxRecDepth 20000 in
theorem m_399 : Cond.methodLink R_Cc 73 y_Fo_valueAt ∈ WL := List.mem_filter.mpr ⟨List.mem_of_getElem? (i := 399) rfl, rfl⟩
set_option maxRecDepth 20000 in
theorem m_400 : Cond.instanceMethod y_Fo_valueAt ∈ WL := List.mem_filter.mpr ⟨List.mem_of_getElem? (i := 400) rfl, rfl⟩
set_option maxRecDepth 20000 in
theorem m_401 : Cond.selects R_Fo y_Fo_valueAt y_Fo_valueAt ∈ WL := List.mem_filter.mpr ⟨List.mem_of_getElem? (i := 401) rfl, rfl⟩
set_option maxRecDepth 20000 in
theorem m_402 : Cond.code y_Fo_valueAt b_Fo_valueAt 8 (some .int) ∈ WL := List.mem_filter.mpr ⟨List.mem_of_getElem? (i := 402) rfl, rfl⟩
set_option maxRecDepth 20000 in
theorem m_403 : Cond.methodLink R_Fo 42 y_Fo_valueBetween ∈ WL := List.mem_filter.mpr ⟨List.mem_of_getElem? (i := 403) rfl, rfl⟩
set_option maxRecDepth 20000 in
theorem m_405 : Cond.instanceMethod y_Fo_valueBetween ∈ WL := List.mem_filter.mpr ⟨List.mem_of_getElem? (i := 405) rfl, rfl⟩
set_option maxRecDepth 20000 in
theorem m_406 : Cond.code y_Fo_valueBetween b_Fo_valueBetween 6 (some .int) ∈ WL := List.mem_filter.mpr ⟨List.mem_of_getElem? (i := 406) rfl, rfl⟩
set_option maxRecDepth 20000 in
theorem m_407 : Cond.methodLink R_Fo 49 y_Ma_floorDiv ∈ WL := List.mem_filter.mpr ⟨List.mem_of_getElem? (i := 407) rfl, rfl⟩
set_option maxRecDepth 20000 in
theorem m_408 : Cond.static y_Ma_floorDiv ∈ WL := List.mem_filter.mpr ⟨List.mem_of_getElem? (i := 408) rfl, rfl⟩
set_option maxRecDepth 20000 in
theorem m_409 : Cond.code y_Ma_floorDiv b_Ma_floorDiv 3 (some .int) ∈ WL := List.mem_filter.mpr ⟨List.mem_of_getElem? (i := 409) rfl, rfl⟩
set_option maxRecDepth 20000 in
theorem m_410 : Cond.methodLink R_La 118 y_La_thickness ∈ WL := List.mem_filter.mpr ⟨List.mem_of_getElem? (i := 410) rfl, rfl⟩
set_option maxRecDepth 20000 in
theorem m_411 : Cond.static y_La_thickness ∈ WL := List.mem_filter.mpr ⟨List.mem_of_getElem? (i := 411) rfl, rfl⟩
set_option maxRecDepth 20000 in
theorem m_413 : Cond.methodLink R_La 34 y_Cc_thickness ∈ WL := List.mem_filter.mpr ⟨List.mem_of_getElem? (i := 413) rfl, rfl⟩
set_option maxRecDepth 20000 in
theorem m_414 : Cond.instanceMethod y_Cc_thickness ∈ WL := List.mem_filter.mpr ⟨List.mem_of_getElem? (i := 414) rfl, rfl⟩
set_option maxRecDepth 20000 in
theorem m_415 : Cond.selects R_Cc y_Cc_thickness y_Cc_thickness ∈ WL := List.mem_filter.mpr ⟨List.mem_of_getElem? (i := 415) rfl, rfl⟩
set_option maxRecDepth 20000 in
theorem m_416 : Cond.code y_Cc_thickness b_Cc_thickness 4 (some .int) ∈ WL := List.mem_filter.mpr ⟨List.mem_of_getElem? (i := 416) rfl, rfl⟩
set_option maxRecDepth 20000 in
theorem m_417 : Cond.methodLink R_Cc 77 y_Fo_leastThickness ∈ WL := List.mem_filter.mpr ⟨List.mem_of_getElem? (i := 417) rfl, rfl⟩
set_option maxRecDepth 20000 in
theorem m_418 : Cond.instanceMethod y_Fo_leastThickness ∈ WL := List.mem_filter.mpr ⟨List.mem_of_getElem? (i := 418) rfl, rfl⟩
set_option maxRecDepth 20000 in
theorem m_419 : Cond.selects R_Fo y_Fo_leastThickness y_Fo_leastThickness ∈ WL := List.mem_filter.mpr ⟨List.mem_of_getElem? (i := 419) rfl, rfl⟩
set_option maxRecDepth 20000 in
theorem m_420 : Cond.code y_Fo_leastThickness b_Fo_leastThickness 9 (some .int) ∈ WL := List.mem_filter.mpr ⟨List.mem_of_getElem? (i := 420) rfl, rfl⟩
set_option maxRecDepth 20000 in
theorem m_421 : Cond.methodLink R_Fo 46 y_Fo_valueAt ∈ WL := List.mem_filter.mpr ⟨List.mem_of_getElem? (i := 421) rfl, rfl⟩
set_option maxRecDepth 20000 in
theorem m_422 : Cond.methodLink R_La 121 y_La_pack ∈ WL := List.mem_filter.mpr ⟨List.mem_of_getElem? (i := 422) rfl, rfl⟩
set_option maxRecDepth 20000 in
theorem m_423 : Cond.static y_La_pack ∈ WL := List.mem_filter.mpr ⟨List.mem_of_getElem? (i := 423) rfl, rfl⟩
set_option maxRecDepth 20000 in
theorem m_425 : Cond.methodLink R_La 37 y_Cc_pack ∈ WL := List.mem_filter.mpr ⟨List.mem_of_getElem? (i := 425) rfl, rfl⟩
set_option maxRecDepth 20000 in
theorem m_426 : Cond.instanceMethod y_Cc_pack ∈ WL := List.mem_filter.mpr ⟨List.mem_of_getElem? (i := 426) rfl, rfl⟩
set_option maxRecDepth 20000 in
theorem m_427 : Cond.selects R_Cc y_Cc_pack y_Cc_pack ∈ WL := List.mem_filter.mpr ⟨List.mem_of_getElem? (i := 427) rfl, rfl⟩
set_option maxRecDepth 20000 in
theorem m_428 : Cond.code y_Cc_pack b_Cc_pack 3 (some .int) ∈ WL := List.mem_filter.mpr ⟨List.mem_of_getElem? (i := 428) rfl, rfl⟩
set_option maxRecDepth 20000 in
theorem m_429 : Cond.methodLink R_Cc 80 y_Pk_packSet ∈ WL := List.mem_filter.mpr ⟨List.mem_of_getElem? (i := 429) rfl, rfl⟩
set_option maxRecDepth 20000 in
theorem m_430 : Cond.instanceMethod y_Pk_packSet ∈ WL := List.mem_filter.mpr ⟨List.mem_of_getElem? (i := 430) rfl, rfl⟩
set_option maxRecDepth 20000 in
theorem m_431 : Cond.selects R_Pk y_Pk_packSet y_Pk_packSet ∈ WL := List.mem_filter.mpr ⟨List.mem_of_getElem? (i := 431) rfl, rfl⟩
set_option maxRecDepth 20000 in
theorem m_432 : Cond.code y_Pk_packSet b_Pk_packSet 5 (some .int) ∈ WL := List.mem_filter.mpr ⟨List.mem_of_getElem? (i := 432) rfl, rfl⟩
set_option maxRecDepth 20000 in
theorem m_433 : Cond.classLink R_Pk 34 "java/lang/IndexOutOfBoundsException" ∈ WL := List.mem_filter.mpr ⟨List.mem_of_getElem? (i := 433) rfl, rfl⟩
set_option maxRecDepth 20000 in
theorem m_435 : Cond.methodLink R_Pk 38 ⟨"java/lang/IndexOutOfBoundsException", "<init>", "(Ljava/lang/String;)V"⟩ ∈ WL := List.mem_filter.mpr ⟨List.mem_of_getElem? (i := 435) rfl, rfl⟩
set_option maxRecDepth 20000 in
theorem m_436 : Cond.classLink R_Pk 41 "java/lang/IllegalArgumentException" ∈ WL := List.mem_filter.mpr ⟨List.mem_of_getElem? (i := 436) rfl, rfl⟩
set_option maxRecDepth 20000 in
theorem m_438 : Cond.methodLink R_Pk 45 ⟨"java/lang/IllegalArgumentException", "<init>", "(Ljava/lang/String;)V"⟩ ∈ WL := List.mem_filter.mpr ⟨List.mem_of_getElem? (i := 438) rfl, rfl⟩
set_option maxRecDepth 20000 in
theorem m_440 : Cond.methodLink R_Pk 50 y_Pk_isIn ∈ WL := List.mem_filter.mpr ⟨List.mem_of_getElem? (i := 440) rfl, rfl⟩
set_option maxRecDepth 20000 in
theorem m_441 : Cond.static y_Pk_isIn ∈ WL := List.mem_filter.mpr ⟨List.mem_of_getElem? (i := 441) rfl, rfl⟩
set_option maxRecDepth 20000 in
theorem m_442 : Cond.code y_Pk_isIn b_Pk_isIn 2 (some .boolean) ∈ WL := List.mem_filter.mpr ⟨List.mem_of_getElem? (i := 442) rfl, rfl⟩
set_option maxRecDepth 20000 in
theorem m_443 : Cond.methodLink R_Pk 54 y_Go_mayStandAnyhow ∈ WL := List.mem_filter.mpr ⟨List.mem_of_getElem? (i := 443) rfl, rfl⟩
set_option maxRecDepth 20000 in
theorem m_444 : Cond.instanceMethod y_Go_mayStandAnyhow ∈ WL := List.mem_filter.mpr ⟨List.mem_of_getElem? (i := 444) rfl, rfl⟩
set_option maxRecDepth 20000 in
theorem m_445 : Cond.selects R_Go y_Go_mayStandAnyhow y_Go_mayStandAnyhow ∈ WL := List.mem_filter.mpr ⟨List.mem_of_getElem? (i := 445) rfl, rfl⟩
set_option maxRecDepth 20000 in
theorem m_446 : Cond.code y_Go_mayStandAnyhow b_Go_mayStandAnyhow 2 (some .boolean) ∈ WL := List.mem_filter.mpr ⟨List.mem_of_getElem? (i := 446) rfl, rfl⟩
set_option maxRecDepth 20000 in
theorem m_447 : Cond.methodLink R_Pk 64 y_Pk_findLeast ∈ WL := List.mem_filter.mpr ⟨List.mem_of_getElem? (i := 447) rfl, rfl⟩
set_option maxRecDepth 20000 in
theorem m_449 : Cond.instanceMethod y_Pk_findLeast ∈ WL := List.mem_filter.mpr ⟨List.mem_of_getElem? (i := 449) rfl, rfl⟩
set_option maxRecDepth 20000 in
theorem m_450 : Cond.code y_Pk_findLeast b_Pk_findLeast 5 (Option.none : Option Jvm.ClassFile.FieldType) ∈ WL := List.mem_filter.mpr ⟨List.mem_of_getElem? (i := 450) rfl, rfl⟩
set_option maxRecDepth 20000 in
theorem m_451 : Cond.constantLong R_Pk 93 9223372036854775807 ∈ WL := List.mem_filter.mpr ⟨List.mem_of_getElem? (i := 451) rfl, rfl⟩
set_option maxRecDepth 20000 in
theorem m_452 : Cond.methodLink R_Pk 100 y_Pk_tryWithin ∈ WL := List.mem_filter.mpr ⟨List.mem_of_getElem? (i := 452) rfl, rfl⟩
set_option maxRecDepth 20000 in
theorem m_454 : Cond.instanceMethod y_Pk_tryWithin ∈ WL := List.mem_filter.mpr ⟨List.mem_of_getElem? (i := 454) rfl, rfl⟩
set_option maxRecDepth 20000 in
theorem m_455 : Cond.code y_Pk_tryWithin b_Pk_tryWithin 7 (Option.none : Option Jvm.ClassFile.FieldType) ∈ WL := List.mem_filter.mpr ⟨List.mem_of_getElem? (i := 455) rfl, rfl⟩
set_option maxRecDepth 20000 in
theorem m_456 : Cond.methodLink R_Pk 104 y_Go_shortestWay ∈ WL := List.mem_filter.mpr ⟨List.mem_of_getElem? (i := 456) rfl, rfl⟩
set_option maxRecDepth 20000 in
theorem m_457 : Cond.instanceMethod y_Go_shortestWay ∈ WL := List.mem_filter.mpr ⟨List.mem_of_getElem? (i := 457) rfl, rfl⟩
set_option maxRecDepth 20000 in
theorem m_458 : Cond.selects R_Go y_Go_shortestWay y_Go_shortestWay ∈ WL := List.mem_filter.mpr ⟨List.mem_of_getElem? (i := 458) rfl, rfl⟩
set_option maxRecDepth 20000 in
theorem m_459 : Cond.code y_Go_shortestWay b_Go_shortestWay 9 (some .int) ∈ WL := List.mem_filter.mpr ⟨List.mem_of_getElem? (i := 459) rfl, rfl⟩
set_option maxRecDepth 20000 in
theorem m_460 : Cond.methodLink R_Go 46 y_Go_sizeOf ∈ WL := List.mem_filter.mpr ⟨List.mem_of_getElem? (i := 460) rfl, rfl⟩
set_option maxRecDepth 20000 in
theorem m_461 : Cond.instanceMethod y_Go_sizeOf ∈ WL := List.mem_filter.mpr ⟨List.mem_of_getElem? (i := 461) rfl, rfl⟩
set_option maxRecDepth 20000 in
theorem m_462 : Cond.selects R_Go y_Go_sizeOf y_Go_sizeOf ∈ WL := List.mem_filter.mpr ⟨List.mem_of_getElem? (i := 462) rfl, rfl⟩
set_option maxRecDepth 20000 in
theorem m_463 : Cond.code y_Go_sizeOf b_Go_sizeOf 4 (some .int) ∈ WL := List.mem_filter.mpr ⟨List.mem_of_getElem? (i := 463) rfl, rfl⟩
set_option maxRecDepth 20000 in
theorem m_466 : Cond.methodLink R_Go 50 y_Go_mayStand ∈ WL := List.mem_filter.mpr ⟨List.mem_of_getElem? (i := 466) rfl, rfl⟩
set_option maxRecDepth 20000 in
theorem m_467 : Cond.instanceMethod y_Go_mayStand ∈ WL := List.mem_filter.mpr ⟨List.mem_of_getElem? (i := 467) rfl, rfl⟩
set_option maxRecDepth 20000 in
theorem m_468 : Cond.selects R_Go y_Go_mayStand y_Go_mayStand ∈ WL := List.mem_filter.mpr ⟨List.mem_of_getElem? (i := 468) rfl, rfl⟩
set_option maxRecDepth 20000 in
theorem m_469 : Cond.code y_Go_mayStand b_Go_mayStand 3 (some .boolean) ∈ WL := List.mem_filter.mpr ⟨List.mem_of_getElem? (i := 469) rfl, rfl⟩
set_option maxRecDepth 20000 in
theorem m_470 : Cond.methodLink R_Pk 108 y_Go_sizeOf ∈ WL := List.mem_filter.mpr ⟨List.mem_of_getElem? (i := 470) rfl, rfl⟩
set_option maxRecDepth 20000 in
theorem m_471 : Cond.methodLink R_Pk 111 y_Pk_triedIsLower ∈ WL := List.mem_filter.mpr ⟨List.mem_of_getElem? (i := 471) rfl, rfl⟩
set_option maxRecDepth 20000 in
theorem m_473 : Cond.instanceMethod y_Pk_triedIsLower ∈ WL := List.mem_filter.mpr ⟨List.mem_of_getElem? (i := 473) rfl, rfl⟩
set_option maxRecDepth 20000 in
theorem m_474 : Cond.code y_Pk_triedIsLower b_Pk_triedIsLower 2 (some .boolean) ∈ WL := List.mem_filter.mpr ⟨List.mem_of_getElem? (i := 474) rfl, rfl⟩
set_option maxRecDepth 20000 in
theorem m_475 : Cond.methodLink R_Pk 115 y_Pk_keep ∈ WL := List.mem_filter.mpr ⟨List.mem_of_getElem? (i := 475) rfl, rfl⟩
set_option maxRecDepth 20000 in
theorem m_477 : Cond.instanceMethod y_Pk_keep ∈ WL := List.mem_filter.mpr ⟨List.mem_of_getElem? (i := 477) rfl, rfl⟩
set_option maxRecDepth 20000 in
theorem m_478 : Cond.code y_Pk_keep b_Pk_keep 4 (Option.none : Option Jvm.ClassFile.FieldType) ∈ WL := List.mem_filter.mpr ⟨List.mem_of_getElem? (i := 478) rfl, rfl⟩
set_option maxRecDepth 20000 in
theorem m_479 : Cond.methodLink R_Pk 118 ⟨"java/lang/System", "arraycopy", "(Ljava/lang/Object;ILjava/lang/Object;II)V"⟩ ∈ WL := List.mem_filter.mpr ⟨List.mem_of_getElem? (i := 479) rfl, rfl⟩
set_option maxRecDepth 20000 in
theorem m_480 : Cond.static ⟨"java/lang/System", "arraycopy", "(Ljava/lang/Object;ILjava/lang/Object;II)V"⟩ ∈ WL := List.mem_filter.mpr ⟨List.mem_of_getElem? (i := 480) rfl, rfl⟩
set_option maxRecDepth 20000 in
theorem m_481 : Cond.native ⟨"java/lang/System", "arraycopy", "(Ljava/lang/Object;ILjava/lang/Object;II)V"⟩ ∈ WL := List.mem_filter.mpr ⟨List.mem_of_getElem? (i := 481) rfl, rfl⟩
set_option maxRecDepth 20000 in
theorem m_482 : Cond.methodLink R_Pk 68 y_Pk_placeInRow ∈ WL := List.mem_filter.mpr ⟨List.mem_of_getElem? (i := 482) rfl, rfl⟩
set_option maxRecDepth 20000 in
theorem m_484 : Cond.instanceMethod y_Pk_placeInRow ∈ WL := List.mem_filter.mpr ⟨List.mem_of_getElem? (i := 484) rfl, rfl⟩
set_option maxRecDepth 20000 in
theorem m_485 : Cond.code y_Pk_placeInRow b_Pk_placeInRow 4 (Option.none : Option Jvm.ClassFile.FieldType) ∈ WL := List.mem_filter.mpr ⟨List.mem_of_getElem? (i := 485) rfl, rfl⟩
set_option maxRecDepth 20000 in
theorem m_486 : Cond.methodLink R_Pk 71 y_In_bitCount ∈ WL := List.mem_filter.mpr ⟨List.mem_of_getElem? (i := 486) rfl, rfl⟩
set_option maxRecDepth 20000 in
theorem m_487 : Cond.static y_In_bitCount ∈ WL := List.mem_filter.mpr ⟨List.mem_of_getElem? (i := 487) rfl, rfl⟩
set_option maxRecDepth 20000 in
theorem m_488 : Cond.code y_In_bitCount b_In_bitCount 1 (some .int) ∈ WL := List.mem_filter.mpr ⟨List.mem_of_getElem? (i := 488) rfl, rfl⟩
set_option maxRecDepth 20000 in
theorem m_489 : Cond.constant R_In 265 1431655765 ∈ WL := List.mem_filter.mpr ⟨List.mem_of_getElem? (i := 489) rfl, rfl⟩
set_option maxRecDepth 20000 in
theorem m_490 : Cond.constant R_In 266 858993459 ∈ WL := List.mem_filter.mpr ⟨List.mem_of_getElem? (i := 490) rfl, rfl⟩
set_option maxRecDepth 20000 in
theorem m_491 : Cond.constant R_In 267 252645135 ∈ WL := List.mem_filter.mpr ⟨List.mem_of_getElem? (i := 491) rfl, rfl⟩
set_option maxRecDepth 20000 in
theorem m_492 : Cond.methodLink R_La 124 y_La_size ∈ WL := List.mem_filter.mpr ⟨List.mem_of_getElem? (i := 492) rfl, rfl⟩
set_option maxRecDepth 20000 in
theorem m_493 : Cond.static y_La_size ∈ WL := List.mem_filter.mpr ⟨List.mem_of_getElem? (i := 493) rfl, rfl⟩
set_option maxRecDepth 20000 in
theorem m_495 : Cond.methodLink R_La 40 y_Cc_size ∈ WL := List.mem_filter.mpr ⟨List.mem_of_getElem? (i := 495) rfl, rfl⟩
set_option maxRecDepth 20000 in
theorem m_496 : Cond.instanceMethod y_Cc_size ∈ WL := List.mem_filter.mpr ⟨List.mem_of_getElem? (i := 496) rfl, rfl⟩
set_option maxRecDepth 20000 in
theorem m_497 : Cond.selects R_Cc y_Cc_size y_Cc_size ∈ WL := List.mem_filter.mpr ⟨List.mem_of_getElem? (i := 497) rfl, rfl⟩
set_option maxRecDepth 20000 in
theorem m_498 : Cond.code y_Cc_size b_Cc_size 2 (some .int) ∈ WL := List.mem_filter.mpr ⟨List.mem_of_getElem? (i := 498) rfl, rfl⟩
set_option maxRecDepth 20000 in
theorem m_499 : Cond.methodLink R_Cc 84 y_Pk_sizeAlong ∈ WL := List.mem_filter.mpr ⟨List.mem_of_getElem? (i := 499) rfl, rfl⟩
set_option maxRecDepth 20000 in
theorem m_500 : Cond.instanceMethod y_Pk_sizeAlong ∈ WL := List.mem_filter.mpr ⟨List.mem_of_getElem? (i := 500) rfl, rfl⟩
set_option maxRecDepth 20000 in
theorem m_501 : Cond.selects R_Pk y_Pk_sizeAlong y_Pk_sizeAlong ∈ WL := List.mem_filter.mpr ⟨List.mem_of_getElem? (i := 501) rfl, rfl⟩
set_option maxRecDepth 20000 in
theorem m_502 : Cond.code y_Pk_sizeAlong b_Pk_sizeAlong 2 (some .int) ∈ WL := List.mem_filter.mpr ⟨List.mem_of_getElem? (i := 502) rfl, rfl⟩
set_option maxRecDepth 20000 in
theorem m_504 : Cond.methodLink R_Pk 81 y_Pk_requirePacked ∈ WL := List.mem_filter.mpr ⟨List.mem_of_getElem? (i := 504) rfl, rfl⟩
set_option maxRecDepth 20000 in
theorem m_506 : Cond.instanceMethod y_Pk_requirePacked ∈ WL := List.mem_filter.mpr ⟨List.mem_of_getElem? (i := 506) rfl, rfl⟩
set_option maxRecDepth 20000 in
theorem m_507 : Cond.code y_Pk_requirePacked b_Pk_requirePacked 1 (Option.none : Option Jvm.ClassFile.FieldType) ∈ WL := List.mem_filter.mpr ⟨List.mem_of_getElem? (i := 507) rfl, rfl⟩
set_option maxRecDepth 20000 in
theorem m_508 : Cond.classLink R_Pk 86 "java/lang/IllegalStateException" ∈ WL := List.mem_filter.mpr ⟨List.mem_of_getElem? (i := 508) rfl, rfl⟩
set_option maxRecDepth 20000 in
theorem m_510 : Cond.methodLink R_Pk 90 ⟨"java/lang/IllegalStateException", "<init>", "(Ljava/lang/String;)V"⟩ ∈ WL := List.mem_filter.mpr ⟨List.mem_of_getElem? (i := 510) rfl, rfl⟩
set_option maxRecDepth 20000 in
theorem m_511 : Cond.methodLink R_La 128 y_La_at ∈ WL := List.mem_filter.mpr ⟨List.mem_of_getElem? (i := 511) rfl, rfl⟩
set_option maxRecDepth 20000 in
theorem m_512 : Cond.static y_La_at ∈ WL := List.mem_filter.mpr ⟨List.mem_of_getElem? (i := 512) rfl, rfl⟩
set_option maxRecDepth 20000 in
theorem m_514 : Cond.methodLink R_La 44 y_Cc_at ∈ WL := List.mem_filter.mpr ⟨List.mem_of_getElem? (i := 514) rfl, rfl⟩
set_option maxRecDepth 20000 in
theorem m_515 : Cond.instanceMethod y_Cc_at ∈ WL := List.mem_filter.mpr ⟨List.mem_of_getElem? (i := 515) rfl, rfl⟩
set_option maxRecDepth 20000 in
theorem m_516 : Cond.selects R_Cc y_Cc_at y_Cc_at ∈ WL := List.mem_filter.mpr ⟨List.mem_of_getElem? (i := 516) rfl, rfl⟩
set_option maxRecDepth 20000 in
theorem m_517 : Cond.code y_Cc_at b_Cc_at 3 (some .int) ∈ WL := List.mem_filter.mpr ⟨List.mem_of_getElem? (i := 517) rfl, rfl⟩
set_option maxRecDepth 20000 in
theorem m_518 : Cond.methodLink R_Cc 92 y_Cc_requireIndex ∈ WL := List.mem_filter.mpr ⟨List.mem_of_getElem? (i := 518) rfl, rfl⟩
set_option maxRecDepth 20000 in
theorem m_519 : Cond.methodLink R_Cc 96 y_Pk_tell ∈ WL := List.mem_filter.mpr ⟨List.mem_of_getElem? (i := 519) rfl, rfl⟩
set_option maxRecDepth 20000 in
theorem m_520 : Cond.instanceMethod y_Pk_tell ∈ WL := List.mem_filter.mpr ⟨List.mem_of_getElem? (i := 520) rfl, rfl⟩
set_option maxRecDepth 20000 in
theorem m_521 : Cond.selects R_Pk y_Pk_tell y_Pk_tell ∈ WL := List.mem_filter.mpr ⟨List.mem_of_getElem? (i := 521) rfl, rfl⟩
set_option maxRecDepth 20000 in
theorem m_522 : Cond.code y_Pk_tell b_Pk_tell 3 (some .int) ∈ WL := List.mem_filter.mpr ⟨List.mem_of_getElem? (i := 522) rfl, rfl⟩
set_option maxRecDepth 20000 in
theorem m_524 : Cond.methodLink R_La 131 y_La_crate ∈ WL := List.mem_filter.mpr ⟨List.mem_of_getElem? (i := 524) rfl, rfl⟩
set_option maxRecDepth 20000 in
theorem m_525 : Cond.static y_La_crate ∈ WL := List.mem_filter.mpr ⟨List.mem_of_getElem? (i := 525) rfl, rfl⟩
set_option maxRecDepth 20000 in
theorem m_527 : Cond.methodLink R_La 47 y_Cc_crate ∈ WL := List.mem_filter.mpr ⟨List.mem_of_getElem? (i := 527) rfl, rfl⟩
set_option maxRecDepth 20000 in
theorem m_528 : Cond.instanceMethod y_Cc_crate ∈ WL := List.mem_filter.mpr ⟨List.mem_of_getElem? (i := 528) rfl, rfl⟩
set_option maxRecDepth 20000 in
theorem m_529 : Cond.selects R_Cc y_Cc_crate y_Cc_crate ∈ WL := List.mem_filter.mpr ⟨List.mem_of_getElem? (i := 529) rfl, rfl⟩
set_option maxRecDepth 20000 in
theorem m_530 : Cond.code y_Cc_crate b_Cc_crate 4 (some .int) ∈ WL := List.mem_filter.mpr ⟨List.mem_of_getElem? (i := 530) rfl, rfl⟩
set_option maxRecDepth 20000 in
theorem m_531 : Cond.methodLink R_Cc 99 y_Sk_add ∈ WL := List.mem_filter.mpr ⟨List.mem_of_getElem? (i := 531) rfl, rfl⟩
set_option maxRecDepth 20000 in
theorem m_532 : Cond.instanceMethod y_Sk_add ∈ WL := List.mem_filter.mpr ⟨List.mem_of_getElem? (i := 532) rfl, rfl⟩
set_option maxRecDepth 20000 in
theorem m_533 : Cond.selects R_Sk y_Sk_add y_Sk_add ∈ WL := List.mem_filter.mpr ⟨List.mem_of_getElem? (i := 533) rfl, rfl⟩
set_option maxRecDepth 20000 in
theorem m_534 : Cond.code y_Sk_add b_Sk_add 4 (some .int) ∈ WL := List.mem_filter.mpr ⟨List.mem_of_getElem? (i := 534) rfl, rfl⟩
set_option maxRecDepth 20000 in
theorem m_537 : Cond.methodLink R_La 134 y_La_match ∈ WL := List.mem_filter.mpr ⟨List.mem_of_getElem? (i := 537) rfl, rfl⟩
set_option maxRecDepth 20000 in
theorem m_538 : Cond.static y_La_match ∈ WL := List.mem_filter.mpr ⟨List.mem_of_getElem? (i := 538) rfl, rfl⟩
set_option maxRecDepth 20000 in
theorem m_540 : Cond.methodLink R_La 50 y_Cc_match ∈ WL := List.mem_filter.mpr ⟨List.mem_of_getElem? (i := 540) rfl, rfl⟩
set_option maxRecDepth 20000 in
theorem m_541 : Cond.instanceMethod y_Cc_match ∈ WL := List.mem_filter.mpr ⟨List.mem_of_getElem? (i := 541) rfl, rfl⟩
set_option maxRecDepth 20000 in
theorem m_542 : Cond.selects R_Cc y_Cc_match y_Cc_match ∈ WL := List.mem_filter.mpr ⟨List.mem_of_getElem? (i := 542) rfl, rfl⟩
set_option maxRecDepth 20000 in
theorem m_543 : Cond.code y_Cc_match b_Cc_match 1 (some .int) ∈ WL := List.mem_filter.mpr ⟨List.mem_of_getElem? (i := 543) rfl, rfl⟩
set_option maxRecDepth 20000 in
theorem m_544 : Cond.methodLink R_Cc 101 y_Sk_takeFor ∈ WL := List.mem_filter.mpr ⟨List.mem_of_getElem? (i := 544) rfl, rfl⟩
set_option maxRecDepth 20000 in
theorem m_545 : Cond.instanceMethod y_Sk_takeFor ∈ WL := List.mem_filter.mpr ⟨List.mem_of_getElem? (i := 545) rfl, rfl⟩
set_option maxRecDepth 20000 in
theorem m_546 : Cond.selects R_Sk y_Sk_takeFor y_Sk_takeFor ∈ WL := List.mem_filter.mpr ⟨List.mem_of_getElem? (i := 546) rfl, rfl⟩
set_option maxRecDepth 20000 in
theorem m_547 : Cond.code y_Sk_takeFor b_Sk_takeFor 10 (some .int) ∈ WL := List.mem_filter.mpr ⟨List.mem_of_getElem? (i := 547) rfl, rfl⟩
set_option maxRecDepth 20000 in
theorem m_548 : Cond.constantLong R_Sk 39 9223372036854775807 ∈ WL := List.mem_filter.mpr ⟨List.mem_of_getElem? (i := 548) rfl, rfl⟩
set_option maxRecDepth 20000 in
theorem m_549 : Cond.methodLink R_Sk 41 y_Sk_hasRoom ∈ WL := List.mem_filter.mpr ⟨List.mem_of_getElem? (i := 549) rfl, rfl⟩
set_option maxRecDepth 20000 in
theorem m_551 : Cond.instanceMethod y_Sk_hasRoom ∈ WL := List.mem_filter.mpr ⟨List.mem_of_getElem? (i := 551) rfl, rfl⟩
set_option maxRecDepth 20000 in
theorem m_552 : Cond.code y_Sk_hasRoom b_Sk_hasRoom 7 (some .boolean) ∈ WL := List.mem_filter.mpr ⟨List.mem_of_getElem? (i := 552) rfl, rfl⟩
set_option maxRecDepth 20000 in
theorem m_553 : Cond.methodLink R_La 138 y_La_free ∈ WL := List.mem_filter.mpr ⟨List.mem_of_getElem? (i := 553) rfl, rfl⟩
set_option maxRecDepth 20000 in
theorem m_554 : Cond.static y_La_free ∈ WL := List.mem_filter.mpr ⟨List.mem_of_getElem? (i := 554) rfl, rfl⟩
set_option maxRecDepth 20000 in
theorem m_556 : Cond.methodLink R_La 54 y_Cc_free ∈ WL := List.mem_filter.mpr ⟨List.mem_of_getElem? (i := 556) rfl, rfl⟩
set_option maxRecDepth 20000 in
theorem m_557 : Cond.instanceMethod y_Cc_free ∈ WL := List.mem_filter.mpr ⟨List.mem_of_getElem? (i := 557) rfl, rfl⟩
set_option maxRecDepth 20000 in
theorem m_558 : Cond.selects R_Cc y_Cc_free y_Cc_free ∈ WL := List.mem_filter.mpr ⟨List.mem_of_getElem? (i := 558) rfl, rfl⟩
set_option maxRecDepth 20000 in
theorem m_559 : Cond.code y_Cc_free b_Cc_free 2 (some .boolean) ∈ WL := List.mem_filter.mpr ⟨List.mem_of_getElem? (i := 559) rfl, rfl⟩
set_option maxRecDepth 20000 in
theorem m_560 : Cond.methodLink R_Cc 104 y_Sk_release ∈ WL := List.mem_filter.mpr ⟨List.mem_of_getElem? (i := 560) rfl, rfl⟩
set_option maxRecDepth 20000 in
theorem m_561 : Cond.instanceMethod y_Sk_release ∈ WL := List.mem_filter.mpr ⟨List.mem_of_getElem? (i := 561) rfl, rfl⟩
set_option maxRecDepth 20000 in
theorem m_562 : Cond.selects R_Sk y_Sk_release y_Sk_release ∈ WL := List.mem_filter.mpr ⟨List.mem_of_getElem? (i := 562) rfl, rfl⟩
set_option maxRecDepth 20000 in
theorem m_563 : Cond.code y_Sk_release b_Sk_release 3 (some .boolean) ∈ WL := List.mem_filter.mpr ⟨List.mem_of_getElem? (i := 563) rfl, rfl⟩
set_option maxRecDepth 20000 in
theorem m_565 : Cond.methodLink R_La 141 y_La_split ∈ WL := List.mem_filter.mpr ⟨List.mem_of_getElem? (i := 565) rfl, rfl⟩
set_option maxRecDepth 20000 in
theorem m_566 : Cond.static y_La_split ∈ WL := List.mem_filter.mpr ⟨List.mem_of_getElem? (i := 566) rfl, rfl⟩
set_option maxRecDepth 20000 in
theorem m_568 : Cond.methodLink R_La 58 y_Cc_split ∈ WL := List.mem_filter.mpr ⟨List.mem_of_getElem? (i := 568) rfl, rfl⟩
set_option maxRecDepth 20000 in
theorem m_569 : Cond.instanceMethod y_Cc_split ∈ WL := List.mem_filter.mpr ⟨List.mem_of_getElem? (i := 569) rfl, rfl⟩
set_option maxRecDepth 20000 in
theorem m_570 : Cond.selects R_Cc y_Cc_split y_Cc_split ∈ WL := List.mem_filter.mpr ⟨List.mem_of_getElem? (i := 570) rfl, rfl⟩
set_option maxRecDepth 20000 in
theorem m_571 : Cond.code y_Cc_split b_Cc_split 2 (some .int) ∈ WL := List.mem_filter.mpr ⟨List.mem_of_getElem? (i := 571) rfl, rfl⟩
set_option maxRecDepth 20000 in
theorem m_572 : Cond.methodLink R_Cc 108 y_Go_leastCrates ∈ WL := List.mem_filter.mpr ⟨List.mem_of_getElem? (i := 572) rfl, rfl⟩
set_option maxRecDepth 20000 in
theorem m_573 : Cond.instanceMethod y_Go_leastCrates ∈ WL := List.mem_filter.mpr ⟨List.mem_of_getElem? (i := 573) rfl, rfl⟩
set_option maxRecDepth 20000 in
theorem m_574 : Cond.selects R_Go y_Go_leastCrates y_Go_leastCrates ∈ WL := List.mem_filter.mpr ⟨List.mem_of_getElem? (i := 574) rfl, rfl⟩
set_option maxRecDepth 20000 in
theorem m_575 : Cond.code y_Go_leastCrates b_Go_leastCrates 4 (some .int) ∈ WL := List.mem_filter.mpr ⟨List.mem_of_getElem? (i := 575) rfl, rfl⟩
set_option maxRecDepth 20000 in
theorem m_576 : Cond.classLink R_Go 54 "java/lang/IllegalArgumentException" ∈ WL := List.mem_filter.mpr ⟨List.mem_of_getElem? (i := 576) rfl, rfl⟩
set_option maxRecDepth 20000 in
theorem m_578 : Cond.methodLink R_Go 58 ⟨"java/lang/IllegalArgumentException", "<init>", "(Ljava/lang/String;)V"⟩ ∈ WL := List.mem_filter.mpr ⟨List.mem_of_getElem? (i := 578) rfl, rfl⟩
set_option maxRecDepth 20000 in
theorem m_579 : Cond.methodLink R_Go 61 y_Go_partSet ∈ WL := List.mem_filter.mpr ⟨List.mem_of_getElem? (i := 579) rfl, rfl⟩
set_option maxRecDepth 20000 in
theorem m_581 : Cond.instanceMethod y_Go_partSet ∈ WL := List.mem_filter.mpr ⟨List.mem_of_getElem? (i := 581) rfl, rfl⟩
set_option maxRecDepth 20000 in
theorem m_582 : Cond.code y_Go_partSet b_Go_partSet 10 (Option.none : Option Jvm.ClassFile.FieldType) ∈ WL := List.mem_filter.mpr ⟨List.mem_of_getElem? (i := 582) rfl, rfl⟩
set_option maxRecDepth 20000 in
theorem m_583 : Cond.methodLink R_La 144 y_La_lag ∈ WL := List.mem_filter.mpr ⟨List.mem_of_getElem? (i := 583) rfl, rfl⟩
set_option maxRecDepth 20000 in
theorem m_584 : Cond.static y_La_lag ∈ WL := List.mem_filter.mpr ⟨List.mem_of_getElem? (i := 584) rfl, rfl⟩
set_option maxRecDepth 20000 in
theorem m_586 : Cond.methodLink R_La 61 y_Cc_lag ∈ WL := List.mem_filter.mpr ⟨List.mem_of_getElem? (i := 586) rfl, rfl⟩
set_option maxRecDepth 20000 in
theorem m_587 : Cond.instanceMethod y_Cc_lag ∈ WL := List.mem_filter.mpr ⟨List.mem_of_getElem? (i := 587) rfl, rfl⟩
set_option maxRecDepth 20000 in
theorem m_588 : Cond.selects R_Cc y_Cc_lag y_Cc_lag ∈ WL := List.mem_filter.mpr ⟨List.mem_of_getElem? (i := 588) rfl, rfl⟩
set_option maxRecDepth 20000 in
theorem m_589 : Cond.code y_Cc_lag b_Cc_lag 2 (some .int) ∈ WL := List.mem_filter.mpr ⟨List.mem_of_getElem? (i := 589) rfl, rfl⟩
set_option maxRecDepth 20000 in
theorem m_590 : Cond.methodLink R_Cc 111 y_Ai_setLag ∈ WL := List.mem_filter.mpr ⟨List.mem_of_getElem? (i := 590) rfl, rfl⟩
set_option maxRecDepth 20000 in
theorem m_591 : Cond.instanceMethod y_Ai_setLag ∈ WL := List.mem_filter.mpr ⟨List.mem_of_getElem? (i := 591) rfl, rfl⟩
set_option maxRecDepth 20000 in
theorem m_592 : Cond.selects R_Ai y_Ai_setLag y_Ai_setLag ∈ WL := List.mem_filter.mpr ⟨List.mem_of_getElem? (i := 592) rfl, rfl⟩
set_option maxRecDepth 20000 in
theorem m_593 : Cond.code y_Ai_setLag b_Ai_setLag 3 (some .int) ∈ WL := List.mem_filter.mpr ⟨List.mem_of_getElem? (i := 593) rfl, rfl⟩
set_option maxRecDepth 20000 in
theorem m_595 : Cond.methodLink R_La 147 y_La_climate ∈ WL := List.mem_filter.mpr ⟨List.mem_of_getElem? (i := 595) rfl, rfl⟩
set_option maxRecDepth 20000 in
theorem m_596 : Cond.static y_La_climate ∈ WL := List.mem_filter.mpr ⟨List.mem_of_getElem? (i := 596) rfl, rfl⟩
set_option maxRecDepth 20000 in
theorem m_598 : Cond.methodLink R_La 64 y_Cc_climate ∈ WL := List.mem_filter.mpr ⟨List.mem_of_getElem? (i := 598) rfl, rfl⟩
set_option maxRecDepth 20000 in
theorem m_599 : Cond.instanceMethod y_Cc_climate ∈ WL := List.mem_filter.mpr ⟨List.mem_of_getElem? (i := 599) rfl, rfl⟩
set_option maxRecDepth 20000 in
theorem m_600 : Cond.selects R_Cc y_Cc_climate y_Cc_climate ∈ WL := List.mem_filter.mpr ⟨List.mem_of_getElem? (i := 600) rfl, rfl⟩
set_option maxRecDepth 20000 in
theorem m_601 : Cond.code y_Cc_climate b_Cc_climate 2 (some .int) ∈ WL := List.mem_filter.mpr ⟨List.mem_of_getElem? (i := 601) rfl, rfl⟩
set_option maxRecDepth 20000 in
theorem m_602 : Cond.methodLink R_Cc 114 y_Ai_nextHour ∈ WL := List.mem_filter.mpr ⟨List.mem_of_getElem? (i := 602) rfl, rfl⟩
set_option maxRecDepth 20000 in
theorem m_603 : Cond.instanceMethod y_Ai_nextHour ∈ WL := List.mem_filter.mpr ⟨List.mem_of_getElem? (i := 603) rfl, rfl⟩
set_option maxRecDepth 20000 in
theorem m_604 : Cond.selects R_Ai y_Ai_nextHour y_Ai_nextHour ∈ WL := List.mem_filter.mpr ⟨List.mem_of_getElem? (i := 604) rfl, rfl⟩
set_option maxRecDepth 20000 in
theorem m_605 : Cond.code y_Ai_nextHour b_Ai_nextHour 4 (some .int) ∈ WL := List.mem_filter.mpr ⟨List.mem_of_getElem? (i := 605) rfl, rfl⟩
set_option maxRecDepth 20000 in
theorem m_607 : Cond.methodLink R_Ai 30 y_Ma_max ∈ WL := List.mem_filter.mpr ⟨List.mem_of_getElem? (i := 607) rfl, rfl⟩
set_option maxRecDepth 20000 in
theorem m_608 : Cond.static y_Ma_max ∈ WL := List.mem_filter.mpr ⟨List.mem_of_getElem? (i := 608) rfl, rfl⟩
set_option maxRecDepth 20000 in
theorem m_609 : Cond.code y_Ma_max b_Ma_max 2 (some .int) ∈ WL := List.mem_filter.mpr ⟨List.mem_of_getElem? (i := 609) rfl, rfl⟩
set_option maxRecDepth 20000 in
theorem m_610 : Cond.methodLink R_Ai 36 y_Ma_floorDiv ∈ WL := List.mem_filter.mpr ⟨List.mem_of_getElem? (i := 610) rfl, rfl⟩
set_option maxRecDepth 20000 in
theorem m_611 : Cond.methodLink R_La 150 y_La_inside ∈ WL := List.mem_filter.mpr ⟨List.mem_of_getElem? (i := 611) rfl, rfl⟩
set_option maxRecDepth 20000 in
theorem m_612 : Cond.static y_La_inside ∈ WL := List.mem_filter.mpr ⟨List.mem_of_getElem? (i := 612) rfl, rfl⟩
set_option maxRecDepth 20000 in
theorem m_614 : Cond.methodLink R_La 67 y_Cc_inside ∈ WL := List.mem_filter.mpr ⟨List.mem_of_getElem? (i := 614) rfl, rfl⟩
set_option maxRecDepth 20000 in
theorem m_615 : Cond.instanceMethod y_Cc_inside ∈ WL := List.mem_filter.mpr ⟨List.mem_of_getElem? (i := 615) rfl, rfl⟩
set_option maxRecDepth 20000 in
theorem m_616 : Cond.selects R_Cc y_Cc_inside y_Cc_inside ∈ WL := List.mem_filter.mpr ⟨List.mem_of_getElem? (i := 616) rfl, rfl⟩
set_option maxRecDepth 20000 in
theorem m_617 : Cond.code y_Cc_inside b_Cc_inside 2 (some .int) ∈ WL := List.mem_filter.mpr ⟨List.mem_of_getElem? (i := 617) rfl, rfl⟩
set_option maxRecDepth 20000 in
theorem m_618 : Cond.methodLink R_Cc 117 y_Ai_afterHour ∈ WL := List.mem_filter.mpr ⟨List.mem_of_getElem? (i := 618) rfl, rfl⟩
set_option maxRecDepth 20000 in
theorem m_619 : Cond.instanceMethod y_Ai_afterHour ∈ WL := List.mem_filter.mpr ⟨List.mem_of_getElem? (i := 619) rfl, rfl⟩
set_option maxRecDepth 20000 in
theorem m_620 : Cond.selects R_Ai y_Ai_afterHour y_Ai_afterHour ∈ WL := List.mem_filter.mpr ⟨List.mem_of_getElem? (i := 620) rfl, rfl⟩
set_option maxRecDepth 20000 in
theorem m_621 : Cond.code y_Ai_afterHour b_Ai_afterHour 2 (some .int) ∈ WL := List.mem_filter.mpr ⟨List.mem_of_getElem? (i := 621) rfl, rfl⟩
set_option maxRecDepth 20000 in
theorem m_623 : Cond.methodLink R_La 153 y_La_steady ∈ WL := List.mem_filter.mpr ⟨List.mem_of_getElem? (i := 623) rfl, rfl⟩
set_option maxRecDepth 20000 in
theorem m_624 : Cond.static y_La_steady ∈ WL := List.mem_filter.mpr ⟨List.mem_of_getElem? (i := 624) rfl, rfl⟩
set_option maxRecDepth 20000 in
theorem m_626 : Cond.methodLink R_La 70 y_Cc_steady ∈ WL := List.mem_filter.mpr ⟨List.mem_of_getElem? (i := 626) rfl, rfl⟩
set_option maxRecDepth 20000 in
theorem m_627 : Cond.instanceMethod y_Cc_steady ∈ WL := List.mem_filter.mpr ⟨List.mem_of_getElem? (i := 627) rfl, rfl⟩
set_option maxRecDepth 20000 in
theorem m_628 : Cond.selects R_Cc y_Cc_steady y_Cc_steady ∈ WL := List.mem_filter.mpr ⟨List.mem_of_getElem? (i := 628) rfl, rfl⟩
set_option maxRecDepth 20000 in
theorem m_629 : Cond.code y_Cc_steady b_Cc_steady 3 (some .int) ∈ WL := List.mem_filter.mpr ⟨List.mem_of_getElem? (i := 629) rfl, rfl⟩
set_option maxRecDepth 20000 in
theorem m_630 : Cond.methodLink R_Cc 120 y_Ai_longestWithin ∈ WL := List.mem_filter.mpr ⟨List.mem_of_getElem? (i := 630) rfl, rfl⟩
set_option maxRecDepth 20000 in
theorem m_631 : Cond.instanceMethod y_Ai_longestWithin ∈ WL := List.mem_filter.mpr ⟨List.mem_of_getElem? (i := 631) rfl, rfl⟩
set_option maxRecDepth 20000 in
theorem m_632 : Cond.selects R_Ai y_Ai_longestWithin y_Ai_longestWithin ∈ WL := List.mem_filter.mpr ⟨List.mem_of_getElem? (i := 632) rfl, rfl⟩
set_option maxRecDepth 20000 in
theorem m_633 : Cond.code y_Ai_longestWithin b_Ai_longestWithin 7 (some .int) ∈ WL := List.mem_filter.mpr ⟨List.mem_of_getElem? (i := 633) rfl, rfl⟩
set_option maxRecDepth 20000 in
theorem m_634 : Cond.classLink R_Ai 42 "java/lang/IllegalArgumentException" ∈ WL := List.mem_filter.mpr ⟨List.mem_of_getElem? (i := 634) rfl, rfl⟩
set_option maxRecDepth 20000 in
theorem m_636 : Cond.methodLink R_Ai 46 ⟨"java/lang/IllegalArgumentException", "<init>", "(Ljava/lang/String;)V"⟩ ∈ WL := List.mem_filter.mpr ⟨List.mem_of_getElem? (i := 636) rfl, rfl⟩
set_option maxRecDepth 20000 in
theorem m_637 : Cond.methodLink R_La 156 y_La_limit ∈ WL := List.mem_filter.mpr ⟨List.mem_of_getElem? (i := 637) rfl, rfl⟩
set_option maxRecDepth 20000 in
theorem m_638 : Cond.static y_La_limit ∈ WL := List.mem_filter.mpr ⟨List.mem_of_getElem? (i := 638) rfl, rfl⟩
set_option maxRecDepth 20000 in
theorem m_640 : Cond.methodLink R_La 73 y_Cc_limit ∈ WL := List.mem_filter.mpr ⟨List.mem_of_getElem? (i := 640) rfl, rfl⟩
set_option maxRecDepth 20000 in
theorem m_641 : Cond.instanceMethod y_Cc_limit ∈ WL := List.mem_filter.mpr ⟨List.mem_of_getElem? (i := 641) rfl, rfl⟩
set_option maxRecDepth 20000 in
theorem m_642 : Cond.selects R_Cc y_Cc_limit y_Cc_limit ∈ WL := List.mem_filter.mpr ⟨List.mem_of_getElem? (i := 642) rfl, rfl⟩
set_option maxRecDepth 20000 in
theorem m_643 : Cond.code y_Cc_limit b_Cc_limit 3 (Option.none : Option Jvm.ClassFile.FieldType) ∈ WL := List.mem_filter.mpr ⟨List.mem_of_getElem? (i := 643) rfl, rfl⟩
set_option maxRecDepth 20000 in
theorem m_644 : Cond.methodLink R_Cc 123 y_Sh_allow ∈ WL := List.mem_filter.mpr ⟨List.mem_of_getElem? (i := 644) rfl, rfl⟩
set_option maxRecDepth 20000 in
theorem m_645 : Cond.instanceMethod y_Sh_allow ∈ WL := List.mem_filter.mpr ⟨List.mem_of_getElem? (i := 645) rfl, rfl⟩
set_option maxRecDepth 20000 in
theorem m_646 : Cond.selects R_Sh y_Sh_allow y_Sh_allow ∈ WL := List.mem_filter.mpr ⟨List.mem_of_getElem? (i := 646) rfl, rfl⟩
set_option maxRecDepth 20000 in
theorem m_647 : Cond.code y_Sh_allow b_Sh_allow 3 (Option.none : Option Jvm.ClassFile.FieldType) ∈ WL := List.mem_filter.mpr ⟨List.mem_of_getElem? (i := 647) rfl, rfl⟩
set_option maxRecDepth 20000 in
theorem m_649 : Cond.methodLink R_La 160 y_La_shock ∈ WL := List.mem_filter.mpr ⟨List.mem_of_getElem? (i := 649) rfl, rfl⟩
set_option maxRecDepth 20000 in
theorem m_650 : Cond.static y_La_shock ∈ WL := List.mem_filter.mpr ⟨List.mem_of_getElem? (i := 650) rfl, rfl⟩
set_option maxRecDepth 20000 in
theorem m_652 : Cond.methodLink R_La 77 y_Cc_shock ∈ WL := List.mem_filter.mpr ⟨List.mem_of_getElem? (i := 652) rfl, rfl⟩
set_option maxRecDepth 20000 in
theorem m_653 : Cond.instanceMethod y_Cc_shock ∈ WL := List.mem_filter.mpr ⟨List.mem_of_getElem? (i := 653) rfl, rfl⟩
set_option maxRecDepth 20000 in
theorem m_654 : Cond.selects R_Cc y_Cc_shock y_Cc_shock ∈ WL := List.mem_filter.mpr ⟨List.mem_of_getElem? (i := 654) rfl, rfl⟩
set_option maxRecDepth 20000 in
theorem m_655 : Cond.code y_Cc_shock b_Cc_shock 3 (some .boolean) ∈ WL := List.mem_filter.mpr ⟨List.mem_of_getElem? (i := 655) rfl, rfl⟩
set_option maxRecDepth 20000 in
theorem m_656 : Cond.methodLink R_Cc 126 y_Sh_add ∈ WL := List.mem_filter.mpr ⟨List.mem_of_getElem? (i := 656) rfl, rfl⟩
set_option maxRecDepth 20000 in
theorem m_657 : Cond.instanceMethod y_Sh_add ∈ WL := List.mem_filter.mpr ⟨List.mem_of_getElem? (i := 657) rfl, rfl⟩
set_option maxRecDepth 20000 in
theorem m_658 : Cond.selects R_Sh y_Sh_add y_Sh_add ∈ WL := List.mem_filter.mpr ⟨List.mem_of_getElem? (i := 658) rfl, rfl⟩
set_option maxRecDepth 20000 in
theorem m_659 : Cond.code y_Sh_add b_Sh_add 4 (some .boolean) ∈ WL := List.mem_filter.mpr ⟨List.mem_of_getElem? (i := 659) rfl, rfl⟩
set_option maxRecDepth 20000 in
theorem m_660 : Cond.methodLink R_La 163 y_La_route ∈ WL := List.mem_filter.mpr ⟨List.mem_of_getElem? (i := 660) rfl, rfl⟩
set_option maxRecDepth 20000 in
theorem m_661 : Cond.static y_La_route ∈ WL := List.mem_filter.mpr ⟨List.mem_of_getElem? (i := 661) rfl, rfl⟩
set_option maxRecDepth 20000 in
theorem m_663 : Cond.methodLink R_La 81 y_Cc_route ∈ WL := List.mem_filter.mpr ⟨List.mem_of_getElem? (i := 663) rfl, rfl⟩
set_option maxRecDepth 20000 in
theorem m_664 : Cond.instanceMethod y_Cc_route ∈ WL := List.mem_filter.mpr ⟨List.mem_of_getElem? (i := 664) rfl, rfl⟩
set_option maxRecDepth 20000 in
theorem m_665 : Cond.selects R_Cc y_Cc_route y_Cc_route ∈ WL := List.mem_filter.mpr ⟨List.mem_of_getElem? (i := 665) rfl, rfl⟩
set_option maxRecDepth 20000 in
theorem m_666 : Cond.code y_Cc_route b_Cc_route 3 (some .int) ∈ WL := List.mem_filter.mpr ⟨List.mem_of_getElem? (i := 666) rfl, rfl⟩
set_option maxRecDepth 20000 in
theorem m_667 : Cond.methodLink R_Cc 129 y_Jo_plan ∈ WL := List.mem_filter.mpr ⟨List.mem_of_getElem? (i := 667) rfl, rfl⟩
set_option maxRecDepth 20000 in
theorem m_668 : Cond.instanceMethod y_Jo_plan ∈ WL := List.mem_filter.mpr ⟨List.mem_of_getElem? (i := 668) rfl, rfl⟩
set_option maxRecDepth 20000 in
theorem m_669 : Cond.selects R_Jo y_Jo_plan y_Jo_plan ∈ WL := List.mem_filter.mpr ⟨List.mem_of_getElem? (i := 669) rfl, rfl⟩
set_option maxRecDepth 20000 in
theorem m_670 : Cond.code y_Jo_plan b_Jo_plan 6 (some .int) ∈ WL := List.mem_filter.mpr ⟨List.mem_of_getElem? (i := 670) rfl, rfl⟩
set_option maxRecDepth 20000 in
theorem m_671 : Cond.constant R_Jo 19 65536 ∈ WL := List.mem_filter.mpr ⟨List.mem_of_getElem? (i := 671) rfl, rfl⟩
set_option maxRecDepth 20000 in
theorem m_673 : Cond.constant R_Jo 24 65537 ∈ WL := List.mem_filter.mpr ⟨List.mem_of_getElem? (i := 673) rfl, rfl⟩
set_option maxRecDepth 20000 in
theorem m_674 : Cond.methodLink R_La 166 y_La_drop ∈ WL := List.mem_filter.mpr ⟨List.mem_of_getElem? (i := 674) rfl, rfl⟩
set_option maxRecDepth 20000 in
theorem m_675 : Cond.static y_La_drop ∈ WL := List.mem_filter.mpr ⟨List.mem_of_getElem? (i := 675) rfl, rfl⟩
set_option maxRecDepth 20000 in
theorem m_677 : Cond.methodLink R_La 84 y_Cc_drop ∈ WL := List.mem_filter.mpr ⟨List.mem_of_getElem? (i := 677) rfl, rfl⟩
set_option maxRecDepth 20000 in
theorem m_678 : Cond.instanceMethod y_Cc_drop ∈ WL := List.mem_filter.mpr ⟨List.mem_of_getElem? (i := 678) rfl, rfl⟩
set_option maxRecDepth 20000 in
theorem m_679 : Cond.selects R_Cc y_Cc_drop y_Cc_drop ∈ WL := List.mem_filter.mpr ⟨List.mem_of_getElem? (i := 679) rfl, rfl⟩
set_option maxRecDepth 20000 in
theorem m_680 : Cond.code y_Cc_drop b_Cc_drop 2 (some .int) ∈ WL := List.mem_filter.mpr ⟨List.mem_of_getElem? (i := 680) rfl, rfl⟩
set_option maxRecDepth 20000 in
theorem m_681 : Cond.methodLink R_Cc 132 y_Jo_dropOf ∈ WL := List.mem_filter.mpr ⟨List.mem_of_getElem? (i := 681) rfl, rfl⟩
set_option maxRecDepth 20000 in
theorem m_682 : Cond.instanceMethod y_Jo_dropOf ∈ WL := List.mem_filter.mpr ⟨List.mem_of_getElem? (i := 682) rfl, rfl⟩
set_option maxRecDepth 20000 in
theorem m_683 : Cond.selects R_Jo y_Jo_dropOf y_Jo_dropOf ∈ WL := List.mem_filter.mpr ⟨List.mem_of_getElem? (i := 683) rfl, rfl⟩
set_option maxRecDepth 20000 in
theorem m_684 : Cond.code y_Jo_dropOf b_Jo_dropOf 2 (some .int) ∈ WL := List.mem_filter.mpr ⟨List.mem_of_getElem? (i := 684) rfl, rfl⟩
set_option maxRecDepth 20000 in
theorem m_686 : Cond.methodLink R_La 169 y_La_count ∈ WL := List.mem_filter.mpr ⟨List.mem_of_getElem? (i := 686) rfl, rfl⟩
set_option maxRecDepth 20000 in
theorem m_687 : Cond.static y_La_count ∈ WL := List.mem_filter.mpr ⟨List.mem_of_getElem? (i := 687) rfl, rfl⟩
set_option maxRecDepth 20000 in
theorem m_689 : Cond.methodLink R_La 87 y_Cc_count ∈ WL := List.mem_filter.mpr ⟨List.mem_of_getElem? (i := 689) rfl, rfl⟩
set_option maxRecDepth 20000 in
theorem m_690 : Cond.instanceMethod y_Cc_count ∈ WL := List.mem_filter.mpr ⟨List.mem_of_getElem? (i := 690) rfl, rfl⟩
set_option maxRecDepth 20000 in
theorem m_691 : Cond.selects R_Cc y_Cc_count y_Cc_count ∈ WL := List.mem_filter.mpr ⟨List.mem_of_getElem? (i := 691) rfl, rfl⟩
set_option maxRecDepth 20000 in
theorem m_692 : Cond.code y_Cc_count b_Cc_count 2 (some .int) ∈ WL := List.mem_filter.mpr ⟨List.mem_of_getElem? (i := 692) rfl, rfl⟩
set_option maxRecDepth 20000 in
theorem m_693 : Cond.methodLink R_Cc 136 y_Sk_takenCount ∈ WL := List.mem_filter.mpr ⟨List.mem_of_getElem? (i := 693) rfl, rfl⟩
set_option maxRecDepth 20000 in
theorem m_694 : Cond.instanceMethod y_Sk_takenCount ∈ WL := List.mem_filter.mpr ⟨List.mem_of_getElem? (i := 694) rfl, rfl⟩
set_option maxRecDepth 20000 in
theorem m_695 : Cond.selects R_Sk y_Sk_takenCount y_Sk_takenCount ∈ WL := List.mem_filter.mpr ⟨List.mem_of_getElem? (i := 695) rfl, rfl⟩
set_option maxRecDepth 20000 in
theorem m_696 : Cond.code y_Sk_takenCount b_Sk_takenCount 3 (some .int) ∈ WL := List.mem_filter.mpr ⟨List.mem_of_getElem? (i := 696) rfl, rfl⟩
set_option maxRecDepth 20000 in
theorem m_698 : Cond.classLink R_La 91 R_Mo ∈ WL := List.mem_filter.mpr ⟨List.mem_of_getElem? (i := 698) rfl, rfl⟩
set_option maxRecDepth 20000 in
theorem m_699 : Cond.instantiable R_Mo 31 ∈ WL := List.mem_filter.mpr ⟨List.mem_of_getElem? (i := 699) rfl, rfl⟩
set_option maxRecDepth 20000 in
theorem m_700 : Cond.methodLink R_La 93 y_Mo_init ∈ WL := List.mem_filter.mpr ⟨List.mem_of_getElem? (i := 700) rfl, rfl⟩
set_option maxRecDepth 20000 in
theorem m_701 : Cond.instanceMethod y_Mo_init ∈ WL := List.mem_filter.mpr ⟨List.mem_of_getElem? (i := 701) rfl, rfl⟩
set_option maxRecDepth 20000 in
theorem m_702 : Cond.code y_Mo_init b_Mo_init 2 (Option.none : Option Jvm.ClassFile.FieldType) ∈ WL := List.mem_filter.mpr ⟨List.mem_of_getElem? (i := 702) rfl, rfl⟩
set_option maxRecDepth 20000 in
theorem m_703 : Cond.methodLink R_Mo 1 ⟨"java/lang/Object", "<init>", "()V"⟩ ∈ WL := List.mem_filter.mpr ⟨List.mem_of_getElem? (i := 703) rfl, rfl⟩
set_option maxRecDepth 20000 in
theorem m_704 : Cond.fieldLink R_Mo 60 R_Mo "thrown" "I" ∈ WL := List.mem_filter.mpr ⟨List.mem_of_getElem? (i := 704) rfl, rfl⟩
set_option maxRecDepth 20000 in
theorem m_705 : Cond.fieldLink R_Mo 63 R_Mo "objects" "I" ∈ WL := List.mem_filter.mpr ⟨List.mem_of_getElem? (i := 705) rfl, rfl⟩
set_option maxRecDepth 20000 in
theorem m_706 : Cond.fieldLink R_Mo 7 R_Mo "sizes" "[I" ∈ WL := List.mem_filter.mpr ⟨List.mem_of_getElem? (i := 706) rfl, rfl⟩
set_option maxRecDepth 20000 in
theorem m_707 : Cond.fieldLink R_Mo 13 R_Mo "grams" "[I" ∈ WL := List.mem_filter.mpr ⟨List.mem_of_getElem? (i := 707) rfl, rfl⟩
set_option maxRecDepth 20000 in
theorem m_708 : Cond.fieldLink R_Mo 16 R_Mo "weak" "[Z" ∈ WL := List.mem_filter.mpr ⟨List.mem_of_getElem? (i := 708) rfl, rfl⟩
set_option maxRecDepth 20000 in
theorem m_709 : Cond.fieldLink R_Mo 20 R_Mo "rows" "[I" ∈ WL := List.mem_filter.mpr ⟨List.mem_of_getElem? (i := 709) rfl, rfl⟩
set_option maxRecDepth 20000 in
theorem m_710 : Cond.fieldLink R_Mo 23 R_Mo "thick" "[I" ∈ WL := List.mem_filter.mpr ⟨List.mem_of_getElem? (i := 710) rfl, rfl⟩
set_option maxRecDepth 20000 in
theorem m_711 : Cond.fieldLink R_Mo 26 R_Mo "points" "[I" ∈ WL := List.mem_filter.mpr ⟨List.mem_of_getElem? (i := 711) rfl, rfl⟩
set_option maxRecDepth 20000 in
theorem m_712 : Cond.fieldLink R_Mo 29 R_Mo "stresses" "[I" ∈ WL := List.mem_filter.mpr ⟨List.mem_of_getElem? (i := 712) rfl, rfl⟩
set_option maxRecDepth 20000 in
theorem m_713 : Cond.fieldLink R_Mo 32 R_Mo "values" "[I" ∈ WL := List.mem_filter.mpr ⟨List.mem_of_getElem? (i := 713) rfl, rfl⟩
set_option maxRecDepth 20000 in
theorem m_714 : Cond.fieldLink R_Mo 124 R_Mo "packed" "Z" ∈ WL := List.mem_filter.mpr ⟨List.mem_of_getElem? (i := 714) rfl, rfl⟩
set_option maxRecDepth 20000 in
theorem m_715 : Cond.fieldLink R_Mo 35 R_Mo "ways" "[I" ∈ WL := List.mem_filter.mpr ⟨List.mem_of_getElem? (i := 715) rfl, rfl⟩
set_option maxRecDepth 20000 in
theorem m_716 : Cond.fieldLink R_Mo 38 R_Mo "tried" "[I" ∈ WL := List.mem_filter.mpr ⟨List.mem_of_getElem? (i := 716) rfl, rfl⟩
set_option maxRecDepth 20000 in
theorem m_717 : Cond.fieldLink R_Mo 121 R_Mo "gap" "I" ∈ WL := List.mem_filter.mpr ⟨List.mem_of_getElem? (i := 717) rfl, rfl⟩
set_option maxRecDepth 20000 in
theorem m_718 : Cond.fieldLink R_Mo 112 R_Mo "crateLength" "I" ∈ WL := List.mem_filter.mpr ⟨List.mem_of_getElem? (i := 718) rfl, rfl⟩
set_option maxRecDepth 20000 in
theorem m_719 : Cond.fieldLink R_Mo 115 R_Mo "crateWidth" "I" ∈ WL := List.mem_filter.mpr ⟨List.mem_of_getElem? (i := 719) rfl, rfl⟩
set_option maxRecDepth 20000 in
theorem m_720 : Cond.fieldLink R_Mo 118 R_Mo "crateHeight" "I" ∈ WL := List.mem_filter.mpr ⟨List.mem_of_getElem? (i := 720) rfl, rfl⟩
set_option maxRecDepth 20000 in
theorem m_721 : Cond.fieldLink R_Mo 41 R_Mo "parts" "[I" ∈ WL := List.mem_filter.mpr ⟨List.mem_of_getElem? (i := 721) rfl, rfl⟩
set_option maxRecDepth 20000 in
theorem m_722 : Cond.fieldLink R_Mo 128 R_Mo "crates" "I" ∈ WL := List.mem_filter.mpr ⟨List.mem_of_getElem? (i := 722) rfl, rfl⟩
set_option maxRecDepth 20000 in
theorem m_723 : Cond.fieldLink R_Mo 44 R_Mo "inner" "[I" ∈ WL := List.mem_filter.mpr ⟨List.mem_of_getElem? (i := 723) rfl, rfl⟩
set_option maxRecDepth 20000 in
theorem m_724 : Cond.fieldLink R_Mo 47 R_Mo "taken" "[Z" ∈ WL := List.mem_filter.mpr ⟨List.mem_of_getElem? (i := 724) rfl, rfl⟩
set_option maxRecDepth 20000 in
theorem m_725 : Cond.fieldLink R_Mo 138 R_Mo "hours" "I" ∈ WL := List.mem_filter.mpr ⟨List.mem_of_getElem? (i := 725) rfl, rfl⟩
set_option maxRecDepth 20000 in
theorem m_726 : Cond.fieldLink R_Mo 50 R_Mo "insides" "[I" ∈ WL := List.mem_filter.mpr ⟨List.mem_of_getElem? (i := 726) rfl, rfl⟩
set_option maxRecDepth 20000 in
theorem m_727 : Cond.fieldLink R_Mo 53 R_Mo "lag" "I" ∈ WL := List.mem_filter.mpr ⟨List.mem_of_getElem? (i := 727) rfl, rfl⟩
set_option maxRecDepth 20000 in
theorem m_728 : Cond.fieldLink R_Mo 141 R_Mo "peak" "I" ∈ WL := List.mem_filter.mpr ⟨List.mem_of_getElem? (i := 728) rfl, rfl⟩
set_option maxRecDepth 20000 in
theorem m_729 : Cond.fieldLink R_Mo 144 R_Mo "length" "I" ∈ WL := List.mem_filter.mpr ⟨List.mem_of_getElem? (i := 729) rfl, rfl⟩
set_option maxRecDepth 20000 in
theorem m_730 : Cond.fieldLink R_Mo 147 R_Mo "limited" "Z" ∈ WL := List.mem_filter.mpr ⟨List.mem_of_getElem? (i := 730) rfl, rfl⟩
set_option maxRecDepth 20000 in
theorem m_731 : Cond.fieldLink R_Mo 150 R_Mo "shocks" "I" ∈ WL := List.mem_filter.mpr ⟨List.mem_of_getElem? (i := 731) rfl, rfl⟩
set_option maxRecDepth 20000 in
theorem m_732 : Cond.fieldLink R_Mo 153 R_Mo "told" "I" ∈ WL := List.mem_filter.mpr ⟨List.mem_of_getElem? (i := 732) rfl, rfl⟩
set_option maxRecDepth 20000 in
theorem m_733 : Cond.fieldLink R_Mo 158 R_Mo "legs" "I" ∈ WL := List.mem_filter.mpr ⟨List.mem_of_getElem? (i := 733) rfl, rfl⟩
set_option maxRecDepth 20000 in
theorem m_734 : Cond.fieldLink R_Mo 57 R_Mo "drops" "[I" ∈ WL := List.mem_filter.mpr ⟨List.mem_of_getElem? (i := 734) rfl, rfl⟩
set_option maxRecDepth 20000 in
theorem m_798 : Cond.methodLink R_La 100 y_Mo_thrown ∈ WL := List.mem_filter.mpr ⟨List.mem_of_getElem? (i := 798) rfl, rfl⟩
set_option maxRecDepth 20000 in
theorem m_799 : Cond.instanceMethod y_Mo_thrown ∈ WL := List.mem_filter.mpr ⟨List.mem_of_getElem? (i := 799) rfl, rfl⟩
set_option maxRecDepth 20000 in
theorem m_800 : Cond.selects R_Mo y_Mo_thrown y_Mo_thrown ∈ WL := List.mem_filter.mpr ⟨List.mem_of_getElem? (i := 800) rfl, rfl⟩
set_option maxRecDepth 20000 in
theorem m_801 : Cond.code y_Mo_thrown b_Mo_thrown 1 (some .int) ∈ WL := List.mem_filter.mpr ⟨List.mem_of_getElem? (i := 801) rfl, rfl⟩
set_option maxRecDepth 20000 in
theorem m_802 : Cond.methodLink R_La 99 y_Mo_object ∈ WL := List.mem_filter.mpr ⟨List.mem_of_getElem? (i := 802) rfl, rfl⟩
set_option maxRecDepth 20000 in
theorem m_803 : Cond.instanceMethod y_Mo_object ∈ WL := List.mem_filter.mpr ⟨List.mem_of_getElem? (i := 803) rfl, rfl⟩
set_option maxRecDepth 20000 in
theorem m_804 : Cond.selects R_Mo y_Mo_object y_Mo_object ∈ WL := List.mem_filter.mpr ⟨List.mem_of_getElem? (i := 804) rfl, rfl⟩
set_option maxRecDepth 20000 in
theorem m_805 : Cond.code y_Mo_object b_Mo_object 5 (some .int) ∈ WL := List.mem_filter.mpr ⟨List.mem_of_getElem? (i := 805) rfl, rfl⟩
set_option maxRecDepth 20000 in
theorem m_806 : Cond.methodLink R_Mo 66 y_Mo_within ∈ WL := List.mem_filter.mpr ⟨List.mem_of_getElem? (i := 806) rfl, rfl⟩
set_option maxRecDepth 20000 in
theorem m_807 : Cond.static y_Mo_within ∈ WL := List.mem_filter.mpr ⟨List.mem_of_getElem? (i := 807) rfl, rfl⟩
set_option maxRecDepth 20000 in
theorem m_808 : Cond.code y_Mo_within b_Mo_within 3 (some .boolean) ∈ WL := List.mem_filter.mpr ⟨List.mem_of_getElem? (i := 808) rfl, rfl⟩
set_option maxRecDepth 20000 in
theorem m_809 : Cond.constant R_Mo 70 100000 ∈ WL := List.mem_filter.mpr ⟨List.mem_of_getElem? (i := 809) rfl, rfl⟩
set_option maxRecDepth 20000 in
theorem m_810 : Cond.methodLink R_Mo 71 y_Mo_goes ∈ WL := List.mem_filter.mpr ⟨List.mem_of_getElem? (i := 810) rfl, rfl⟩
set_option maxRecDepth 20000 in
theorem m_812 : Cond.instanceMethod y_Mo_goes ∈ WL := List.mem_filter.mpr ⟨List.mem_of_getElem? (i := 812) rfl, rfl⟩
set_option maxRecDepth 20000 in
theorem m_813 : Cond.code y_Mo_goes b_Mo_goes 4 (some .boolean) ∈ WL := List.mem_filter.mpr ⟨List.mem_of_getElem? (i := 813) rfl, rfl⟩
set_option maxRecDepth 20000 in
theorem m_814 : Cond.methodLink R_La 106 y_Mo_weak ∈ WL := List.mem_filter.mpr ⟨List.mem_of_getElem? (i := 814) rfl, rfl⟩
set_option maxRecDepth 20000 in
theorem m_815 : Cond.instanceMethod y_Mo_weak ∈ WL := List.mem_filter.mpr ⟨List.mem_of_getElem? (i := 815) rfl, rfl⟩
set_option maxRecDepth 20000 in
theorem m_816 : Cond.selects R_Mo y_Mo_weak y_Mo_weak ∈ WL := List.mem_filter.mpr ⟨List.mem_of_getElem? (i := 816) rfl, rfl⟩
set_option maxRecDepth 20000 in
theorem m_817 : Cond.code y_Mo_weak b_Mo_weak 5 (some .boolean) ∈ WL := List.mem_filter.mpr ⟨List.mem_of_getElem? (i := 817) rfl, rfl⟩
set_option maxRecDepth 20000 in
theorem m_818 : Cond.methodLink R_Mo 75 y_Mo_isObject ∈ WL := List.mem_filter.mpr ⟨List.mem_of_getElem? (i := 818) rfl, rfl⟩
set_option maxRecDepth 20000 in
theorem m_820 : Cond.instanceMethod y_Mo_isObject ∈ WL := List.mem_filter.mpr ⟨List.mem_of_getElem? (i := 820) rfl, rfl⟩
set_option maxRecDepth 20000 in
theorem m_821 : Cond.code y_Mo_isObject b_Mo_isObject 2 (some .boolean) ∈ WL := List.mem_filter.mpr ⟨List.mem_of_getElem? (i := 821) rfl, rfl⟩
set_option maxRecDepth 20000 in
theorem m_822 : Cond.methodLink R_La 110 y_Mo_foam ∈ WL := List.mem_filter.mpr ⟨List.mem_of_getElem? (i := 822) rfl, rfl⟩
set_option maxRecDepth 20000 in
theorem m_823 : Cond.instanceMethod y_Mo_foam ∈ WL := List.mem_filter.mpr ⟨List.mem_of_getElem? (i := 823) rfl, rfl⟩
set_option maxRecDepth 20000 in
theorem m_824 : Cond.selects R_Mo y_Mo_foam y_Mo_foam ∈ WL := List.mem_filter.mpr ⟨List.mem_of_getElem? (i := 824) rfl, rfl⟩
set_option maxRecDepth 20000 in
theorem m_825 : Cond.code y_Mo_foam b_Mo_foam 5 (some .int) ∈ WL := List.mem_filter.mpr ⟨List.mem_of_getElem? (i := 825) rfl, rfl⟩
set_option maxRecDepth 20000 in
theorem m_826 : Cond.methodLink R_La 113 y_Mo_point ∈ WL := List.mem_filter.mpr ⟨List.mem_of_getElem? (i := 826) rfl, rfl⟩
set_option maxRecDepth 20000 in
theorem m_827 : Cond.instanceMethod y_Mo_point ∈ WL := List.mem_filter.mpr ⟨List.mem_of_getElem? (i := 827) rfl, rfl⟩
set_option maxRecDepth 20000 in
theorem m_828 : Cond.selects R_Mo y_Mo_point y_Mo_point ∈ WL := List.mem_filter.mpr ⟨List.mem_of_getElem? (i := 828) rfl, rfl⟩
set_option maxRecDepth 20000 in
theorem m_829 : Cond.code y_Mo_point b_Mo_point 9 (some .int) ∈ WL := List.mem_filter.mpr ⟨List.mem_of_getElem? (i := 829) rfl, rfl⟩
set_option maxRecDepth 20000 in
theorem m_830 : Cond.methodLink R_Mo 79 y_Mo_isRow ∈ WL := List.mem_filter.mpr ⟨List.mem_of_getElem? (i := 830) rfl, rfl⟩
set_option maxRecDepth 20000 in
theorem m_832 : Cond.instanceMethod y_Mo_isRow ∈ WL := List.mem_filter.mpr ⟨List.mem_of_getElem? (i := 832) rfl, rfl⟩
set_option maxRecDepth 20000 in
theorem m_833 : Cond.code y_Mo_isRow b_Mo_isRow 3 (some .boolean) ∈ WL := List.mem_filter.mpr ⟨List.mem_of_getElem? (i := 833) rfl, rfl⟩
set_option maxRecDepth 20000 in
theorem m_834 : Cond.methodLink R_La 117 y_Mo_value ∈ WL := List.mem_filter.mpr ⟨List.mem_of_getElem? (i := 834) rfl, rfl⟩
set_option maxRecDepth 20000 in
theorem m_835 : Cond.instanceMethod y_Mo_value ∈ WL := List.mem_filter.mpr ⟨List.mem_of_getElem? (i := 835) rfl, rfl⟩
set_option maxRecDepth 20000 in
theorem m_836 : Cond.selects R_Mo y_Mo_value y_Mo_value ∈ WL := List.mem_filter.mpr ⟨List.mem_of_getElem? (i := 836) rfl, rfl⟩
set_option maxRecDepth 20000 in
theorem m_837 : Cond.code y_Mo_value b_Mo_value 4 (some .int) ∈ WL := List.mem_filter.mpr ⟨List.mem_of_getElem? (i := 837) rfl, rfl⟩
set_option maxRecDepth 20000 in
theorem m_838 : Cond.methodLink R_Mo 87 y_Mo_valueOf ∈ WL := List.mem_filter.mpr ⟨List.mem_of_getElem? (i := 838) rfl, rfl⟩
set_option maxRecDepth 20000 in
theorem m_840 : Cond.instanceMethod y_Mo_valueOf ∈ WL := List.mem_filter.mpr ⟨List.mem_of_getElem? (i := 840) rfl, rfl⟩
set_option maxRecDepth 20000 in
theorem m_841 : Cond.code y_Mo_valueOf b_Mo_valueOf 4 (some .int) ∈ WL := List.mem_filter.mpr ⟨List.mem_of_getElem? (i := 841) rfl, rfl⟩
set_option maxRecDepth 20000 in
theorem m_842 : Cond.methodLink R_Mo 83 y_Mo_up ∈ WL := List.mem_filter.mpr ⟨List.mem_of_getElem? (i := 842) rfl, rfl⟩
set_option maxRecDepth 20000 in
theorem m_843 : Cond.static y_Mo_up ∈ WL := List.mem_filter.mpr ⟨List.mem_of_getElem? (i := 843) rfl, rfl⟩
set_option maxRecDepth 20000 in
theorem m_844 : Cond.code y_Mo_up b_Mo_up 3 (some .int) ∈ WL := List.mem_filter.mpr ⟨List.mem_of_getElem? (i := 844) rfl, rfl⟩
set_option maxRecDepth 20000 in
theorem m_845 : Cond.methodLink R_La 120 y_Mo_thickness ∈ WL := List.mem_filter.mpr ⟨List.mem_of_getElem? (i := 845) rfl, rfl⟩
set_option maxRecDepth 20000 in
theorem m_846 : Cond.instanceMethod y_Mo_thickness ∈ WL := List.mem_filter.mpr ⟨List.mem_of_getElem? (i := 846) rfl, rfl⟩
set_option maxRecDepth 20000 in
theorem m_847 : Cond.selects R_Mo y_Mo_thickness y_Mo_thickness ∈ WL := List.mem_filter.mpr ⟨List.mem_of_getElem? (i := 847) rfl, rfl⟩
set_option maxRecDepth 20000 in
theorem m_848 : Cond.code y_Mo_thickness b_Mo_thickness 9 (some .int) ∈ WL := List.mem_filter.mpr ⟨List.mem_of_getElem? (i := 848) rfl, rfl⟩
set_option maxRecDepth 20000 in
theorem m_849 : Cond.methodLink R_La 123 y_Mo_pack ∈ WL := List.mem_filter.mpr ⟨List.mem_of_getElem? (i := 849) rfl, rfl⟩
set_option maxRecDepth 20000 in
theorem m_850 : Cond.instanceMethod y_Mo_pack ∈ WL := List.mem_filter.mpr ⟨List.mem_of_getElem? (i := 850) rfl, rfl⟩
set_option maxRecDepth 20000 in
theorem m_851 : Cond.selects R_Mo y_Mo_pack y_Mo_pack ∈ WL := List.mem_filter.mpr ⟨List.mem_of_getElem? (i := 851) rfl, rfl⟩
set_option maxRecDepth 20000 in
theorem m_852 : Cond.code y_Mo_pack b_Mo_pack 11 (some .int) ∈ WL := List.mem_filter.mpr ⟨List.mem_of_getElem? (i := 852) rfl, rfl⟩
set_option maxRecDepth 20000 in
theorem m_853 : Cond.methodLink R_Mo 90 y_Mo_isIn ∈ WL := List.mem_filter.mpr ⟨List.mem_of_getElem? (i := 853) rfl, rfl⟩
set_option maxRecDepth 20000 in
theorem m_854 : Cond.static y_Mo_isIn ∈ WL := List.mem_filter.mpr ⟨List.mem_of_getElem? (i := 854) rfl, rfl⟩
set_option maxRecDepth 20000 in
theorem m_855 : Cond.code y_Mo_isIn b_Mo_isIn 2 (some .boolean) ∈ WL := List.mem_filter.mpr ⟨List.mem_of_getElem? (i := 855) rfl, rfl⟩
set_option maxRecDepth 20000 in
theorem m_856 : Cond.constantLong R_Mo 97 (-1) ∈ WL := List.mem_filter.mpr ⟨List.mem_of_getElem? (i := 856) rfl, rfl⟩
set_option maxRecDepth 20000 in
theorem m_857 : Cond.methodLink R_Mo 99 y_Mo_turn ∈ WL := List.mem_filter.mpr ⟨List.mem_of_getElem? (i := 857) rfl, rfl⟩
set_option maxRecDepth 20000 in
theorem m_859 : Cond.instanceMethod y_Mo_turn ∈ WL := List.mem_filter.mpr ⟨List.mem_of_getElem? (i := 859) rfl, rfl⟩
set_option maxRecDepth 20000 in
theorem m_860 : Cond.code y_Mo_turn b_Mo_turn 5 (Option.none : Option Jvm.ClassFile.FieldType) ∈ WL := List.mem_filter.mpr ⟨List.mem_of_getElem? (i := 860) rfl, rfl⟩
set_option maxRecDepth 20000 in
theorem m_861 : Cond.methodLink R_Mo 103 y_Mo_stands ∈ WL := List.mem_filter.mpr ⟨List.mem_of_getElem? (i := 861) rfl, rfl⟩
set_option maxRecDepth 20000 in
theorem m_863 : Cond.instanceMethod y_Mo_stands ∈ WL := List.mem_filter.mpr ⟨List.mem_of_getElem? (i := 863) rfl, rfl⟩
set_option maxRecDepth 20000 in
theorem m_864 : Cond.code y_Mo_stands b_Mo_stands 4 (some .boolean) ∈ WL := List.mem_filter.mpr ⟨List.mem_of_getElem? (i := 864) rfl, rfl⟩
set_option maxRecDepth 20000 in
theorem m_865 : Cond.methodLink R_Mo 106 y_Mo_lengthOf ∈ WL := List.mem_filter.mpr ⟨List.mem_of_getElem? (i := 865) rfl, rfl⟩
set_option maxRecDepth 20000 in
theorem m_867 : Cond.instanceMethod y_Mo_lengthOf ∈ WL := List.mem_filter.mpr ⟨List.mem_of_getElem? (i := 867) rfl, rfl⟩
set_option maxRecDepth 20000 in
theorem m_868 : Cond.code y_Mo_lengthOf b_Mo_lengthOf 5 (some .int) ∈ WL := List.mem_filter.mpr ⟨List.mem_of_getElem? (i := 868) rfl, rfl⟩
set_option maxRecDepth 20000 in
theorem m_869 : Cond.methodLink R_Mo 93 y_Mo_along ∈ WL := List.mem_filter.mpr ⟨List.mem_of_getElem? (i := 869) rfl, rfl⟩
set_option maxRecDepth 20000 in
theorem m_871 : Cond.instanceMethod y_Mo_along ∈ WL := List.mem_filter.mpr ⟨List.mem_of_getElem? (i := 871) rfl, rfl⟩
set_option maxRecDepth 20000 in
theorem m_872 : Cond.code y_Mo_along b_Mo_along 6 (some .int) ∈ WL := List.mem_filter.mpr ⟨List.mem_of_getElem? (i := 872) rfl, rfl⟩
set_option maxRecDepth 20000 in
theorem m_873 : Cond.methodLink R_Mo 109 y_Mo_widest ∈ WL := List.mem_filter.mpr ⟨List.mem_of_getElem? (i := 873) rfl, rfl⟩
set_option maxRecDepth 20000 in
theorem m_875 : Cond.instanceMethod y_Mo_widest ∈ WL := List.mem_filter.mpr ⟨List.mem_of_getElem? (i := 875) rfl, rfl⟩
set_option maxRecDepth 20000 in
theorem m_876 : Cond.code y_Mo_widest b_Mo_widest 7 (some .int) ∈ WL := List.mem_filter.mpr ⟨List.mem_of_getElem? (i := 876) rfl, rfl⟩
set_option maxRecDepth 20000 in
theorem m_877 : Cond.methodLink R_La 127 y_Mo_size ∈ WL := List.mem_filter.mpr ⟨List.mem_of_getElem? (i := 877) rfl, rfl⟩
set_option maxRecDepth 20000 in
theorem m_878 : Cond.instanceMethod y_Mo_size ∈ WL := List.mem_filter.mpr ⟨List.mem_of_getElem? (i := 878) rfl, rfl⟩
set_option maxRecDepth 20000 in
theorem m_879 : Cond.selects R_Mo y_Mo_size y_Mo_size ∈ WL := List.mem_filter.mpr ⟨List.mem_of_getElem? (i := 879) rfl, rfl⟩
set_option maxRecDepth 20000 in
theorem m_880 : Cond.code y_Mo_size b_Mo_size 2 (some .int) ∈ WL := List.mem_filter.mpr ⟨List.mem_of_getElem? (i := 880) rfl, rfl⟩
set_option maxRecDepth 20000 in
theorem m_881 : Cond.methodLink R_La 130 y_Mo_at ∈ WL := List.mem_filter.mpr ⟨List.mem_of_getElem? (i := 881) rfl, rfl⟩
set_option maxRecDepth 20000 in
theorem m_882 : Cond.instanceMethod y_Mo_at ∈ WL := List.mem_filter.mpr ⟨List.mem_of_getElem? (i := 882) rfl, rfl⟩
set_option maxRecDepth 20000 in
theorem m_883 : Cond.selects R_Mo y_Mo_at y_Mo_at ∈ WL := List.mem_filter.mpr ⟨List.mem_of_getElem? (i := 883) rfl, rfl⟩
set_option maxRecDepth 20000 in
theorem m_884 : Cond.code y_Mo_at b_Mo_at 5 (some .int) ∈ WL := List.mem_filter.mpr ⟨List.mem_of_getElem? (i := 884) rfl, rfl⟩
set_option maxRecDepth 20000 in
theorem m_885 : Cond.methodLink R_La 133 y_Mo_crate ∈ WL := List.mem_filter.mpr ⟨List.mem_of_getElem? (i := 885) rfl, rfl⟩
set_option maxRecDepth 20000 in
theorem m_886 : Cond.instanceMethod y_Mo_crate ∈ WL := List.mem_filter.mpr ⟨List.mem_of_getElem? (i := 886) rfl, rfl⟩
set_option maxRecDepth 20000 in
theorem m_887 : Cond.selects R_Mo y_Mo_crate y_Mo_crate ∈ WL := List.mem_filter.mpr ⟨List.mem_of_getElem? (i := 887) rfl, rfl⟩
set_option maxRecDepth 20000 in
theorem m_888 : Cond.code y_Mo_crate b_Mo_crate 4 (some .int) ∈ WL := List.mem_filter.mpr ⟨List.mem_of_getElem? (i := 888) rfl, rfl⟩
set_option maxRecDepth 20000 in
theorem m_889 : Cond.methodLink R_La 137 y_Mo_match ∈ WL := List.mem_filter.mpr ⟨List.mem_of_getElem? (i := 889) rfl, rfl⟩
set_option maxRecDepth 20000 in
theorem m_890 : Cond.instanceMethod y_Mo_match ∈ WL := List.mem_filter.mpr ⟨List.mem_of_getElem? (i := 890) rfl, rfl⟩
set_option maxRecDepth 20000 in
theorem m_891 : Cond.selects R_Mo y_Mo_match y_Mo_match ∈ WL := List.mem_filter.mpr ⟨List.mem_of_getElem? (i := 891) rfl, rfl⟩
set_option maxRecDepth 20000 in
theorem m_892 : Cond.code y_Mo_match b_Mo_match 7 (some .int) ∈ WL := List.mem_filter.mpr ⟨List.mem_of_getElem? (i := 892) rfl, rfl⟩
set_option maxRecDepth 20000 in
theorem m_893 : Cond.methodLink R_Mo 131 y_Mo_hasRoom ∈ WL := List.mem_filter.mpr ⟨List.mem_of_getElem? (i := 893) rfl, rfl⟩
set_option maxRecDepth 20000 in
theorem m_895 : Cond.instanceMethod y_Mo_hasRoom ∈ WL := List.mem_filter.mpr ⟨List.mem_of_getElem? (i := 895) rfl, rfl⟩
set_option maxRecDepth 20000 in
theorem m_896 : Cond.code y_Mo_hasRoom b_Mo_hasRoom 6 (some .boolean) ∈ WL := List.mem_filter.mpr ⟨List.mem_of_getElem? (i := 896) rfl, rfl⟩
set_option maxRecDepth 20000 in
theorem m_897 : Cond.methodLink R_La 140 y_Mo_free ∈ WL := List.mem_filter.mpr ⟨List.mem_of_getElem? (i := 897) rfl, rfl⟩
set_option maxRecDepth 20000 in
theorem m_898 : Cond.instanceMethod y_Mo_free ∈ WL := List.mem_filter.mpr ⟨List.mem_of_getElem? (i := 898) rfl, rfl⟩
set_option maxRecDepth 20000 in
theorem m_899 : Cond.selects R_Mo y_Mo_free y_Mo_free ∈ WL := List.mem_filter.mpr ⟨List.mem_of_getElem? (i := 899) rfl, rfl⟩
set_option maxRecDepth 20000 in
theorem m_900 : Cond.code y_Mo_free b_Mo_free 3 (some .boolean) ∈ WL := List.mem_filter.mpr ⟨List.mem_of_getElem? (i := 900) rfl, rfl⟩
set_option maxRecDepth 20000 in
theorem m_901 : Cond.methodLink R_La 143 y_Mo_split ∈ WL := List.mem_filter.mpr ⟨List.mem_of_getElem? (i := 901) rfl, rfl⟩
set_option maxRecDepth 20000 in
theorem m_902 : Cond.instanceMethod y_Mo_split ∈ WL := List.mem_filter.mpr ⟨List.mem_of_getElem? (i := 902) rfl, rfl⟩
set_option maxRecDepth 20000 in
theorem m_903 : Cond.selects R_Mo y_Mo_split y_Mo_split ∈ WL := List.mem_filter.mpr ⟨List.mem_of_getElem? (i := 903) rfl, rfl⟩
set_option maxRecDepth 20000 in
theorem m_904 : Cond.code y_Mo_split b_Mo_split 6 (some .int) ∈ WL := List.mem_filter.mpr ⟨List.mem_of_getElem? (i := 904) rfl, rfl⟩
set_option maxRecDepth 20000 in
theorem m_905 : Cond.methodLink R_Mo 134 y_Mo_weight ∈ WL := List.mem_filter.mpr ⟨List.mem_of_getElem? (i := 905) rfl, rfl⟩
set_option maxRecDepth 20000 in
theorem m_907 : Cond.instanceMethod y_Mo_weight ∈ WL := List.mem_filter.mpr ⟨List.mem_of_getElem? (i := 907) rfl, rfl⟩
set_option maxRecDepth 20000 in
theorem m_908 : Cond.code y_Mo_weight b_Mo_weight 4 (some .int) ∈ WL := List.mem_filter.mpr ⟨List.mem_of_getElem? (i := 908) rfl, rfl⟩
set_option maxRecDepth 20000 in
theorem m_909 : Cond.methodLink R_La 146 y_Mo_lag ∈ WL := List.mem_filter.mpr ⟨List.mem_of_getElem? (i := 909) rfl, rfl⟩
set_option maxRecDepth 20000 in
theorem m_910 : Cond.instanceMethod y_Mo_lag ∈ WL := List.mem_filter.mpr ⟨List.mem_of_getElem? (i := 910) rfl, rfl⟩
set_option maxRecDepth 20000 in
theorem m_911 : Cond.selects R_Mo y_Mo_lag y_Mo_lag ∈ WL := List.mem_filter.mpr ⟨List.mem_of_getElem? (i := 911) rfl, rfl⟩
set_option maxRecDepth 20000 in
theorem m_912 : Cond.code y_Mo_lag b_Mo_lag 3 (some .int) ∈ WL := List.mem_filter.mpr ⟨List.mem_of_getElem? (i := 912) rfl, rfl⟩
set_option maxRecDepth 20000 in
theorem m_913 : Cond.methodLink R_La 149 y_Mo_climate ∈ WL := List.mem_filter.mpr ⟨List.mem_of_getElem? (i := 913) rfl, rfl⟩
set_option maxRecDepth 20000 in
theorem m_914 : Cond.instanceMethod y_Mo_climate ∈ WL := List.mem_filter.mpr ⟨List.mem_of_getElem? (i := 914) rfl, rfl⟩
set_option maxRecDepth 20000 in
theorem m_915 : Cond.selects R_Mo y_Mo_climate y_Mo_climate ∈ WL := List.mem_filter.mpr ⟨List.mem_of_getElem? (i := 915) rfl, rfl⟩
set_option maxRecDepth 20000 in
theorem m_916 : Cond.code y_Mo_climate b_Mo_climate 3 (some .int) ∈ WL := List.mem_filter.mpr ⟨List.mem_of_getElem? (i := 916) rfl, rfl⟩
set_option maxRecDepth 20000 in
theorem m_917 : Cond.methodLink R_La 152 y_Mo_inside ∈ WL := List.mem_filter.mpr ⟨List.mem_of_getElem? (i := 917) rfl, rfl⟩
set_option maxRecDepth 20000 in
theorem m_918 : Cond.instanceMethod y_Mo_inside ∈ WL := List.mem_filter.mpr ⟨List.mem_of_getElem? (i := 918) rfl, rfl⟩
set_option maxRecDepth 20000 in
theorem m_919 : Cond.selects R_Mo y_Mo_inside y_Mo_inside ∈ WL := List.mem_filter.mpr ⟨List.mem_of_getElem? (i := 919) rfl, rfl⟩
set_option maxRecDepth 20000 in
theorem m_920 : Cond.code y_Mo_inside b_Mo_inside 2 (some .int) ∈ WL := List.mem_filter.mpr ⟨List.mem_of_getElem? (i := 920) rfl, rfl⟩
set_option maxRecDepth 20000 in
theorem m_921 : Cond.methodLink R_La 155 y_Mo_steady ∈ WL := List.mem_filter.mpr ⟨List.mem_of_getElem? (i := 921) rfl, rfl⟩
set_option maxRecDepth 20000 in
theorem m_922 : Cond.instanceMethod y_Mo_steady ∈ WL := List.mem_filter.mpr ⟨List.mem_of_getElem? (i := 922) rfl, rfl⟩
set_option maxRecDepth 20000 in
theorem m_923 : Cond.selects R_Mo y_Mo_steady y_Mo_steady ∈ WL := List.mem_filter.mpr ⟨List.mem_of_getElem? (i := 923) rfl, rfl⟩
set_option maxRecDepth 20000 in
theorem m_924 : Cond.code y_Mo_steady b_Mo_steady 6 (some .int) ∈ WL := List.mem_filter.mpr ⟨List.mem_of_getElem? (i := 924) rfl, rfl⟩
set_option maxRecDepth 20000 in
theorem m_925 : Cond.methodLink R_La 159 y_Mo_limit ∈ WL := List.mem_filter.mpr ⟨List.mem_of_getElem? (i := 925) rfl, rfl⟩
set_option maxRecDepth 20000 in
theorem m_926 : Cond.instanceMethod y_Mo_limit ∈ WL := List.mem_filter.mpr ⟨List.mem_of_getElem? (i := 926) rfl, rfl⟩
set_option maxRecDepth 20000 in
theorem m_927 : Cond.selects R_Mo y_Mo_limit y_Mo_limit ∈ WL := List.mem_filter.mpr ⟨List.mem_of_getElem? (i := 927) rfl, rfl⟩
set_option maxRecDepth 20000 in
theorem m_928 : Cond.code y_Mo_limit b_Mo_limit 3 (Option.none : Option Jvm.ClassFile.FieldType) ∈ WL := List.mem_filter.mpr ⟨List.mem_of_getElem? (i := 928) rfl, rfl⟩
set_option maxRecDepth 20000 in
theorem m_929 : Cond.methodLink R_La 162 y_Mo_shock ∈ WL := List.mem_filter.mpr ⟨List.mem_of_getElem? (i := 929) rfl, rfl⟩
set_option maxRecDepth 20000 in
theorem m_930 : Cond.instanceMethod y_Mo_shock ∈ WL := List.mem_filter.mpr ⟨List.mem_of_getElem? (i := 930) rfl, rfl⟩
set_option maxRecDepth 20000 in
theorem m_931 : Cond.selects R_Mo y_Mo_shock y_Mo_shock ∈ WL := List.mem_filter.mpr ⟨List.mem_of_getElem? (i := 931) rfl, rfl⟩
set_option maxRecDepth 20000 in
theorem m_932 : Cond.code y_Mo_shock b_Mo_shock 4 (some .boolean) ∈ WL := List.mem_filter.mpr ⟨List.mem_of_getElem? (i := 932) rfl, rfl⟩
set_option maxRecDepth 20000 in
theorem m_933 : Cond.methodLink R_La 165 y_Mo_route ∈ WL := List.mem_filter.mpr ⟨List.mem_of_getElem? (i := 933) rfl, rfl⟩
set_option maxRecDepth 20000 in
theorem m_934 : Cond.instanceMethod y_Mo_route ∈ WL := List.mem_filter.mpr ⟨List.mem_of_getElem? (i := 934) rfl, rfl⟩
set_option maxRecDepth 20000 in
theorem m_935 : Cond.selects R_Mo y_Mo_route y_Mo_route ∈ WL := List.mem_filter.mpr ⟨List.mem_of_getElem? (i := 935) rfl, rfl⟩
set_option maxRecDepth 20000 in
theorem m_936 : Cond.code y_Mo_route b_Mo_route 6 (some .int) ∈ WL := List.mem_filter.mpr ⟨List.mem_of_getElem? (i := 936) rfl, rfl⟩
set_option maxRecDepth 20000 in
theorem m_937 : Cond.constant R_Mo 156 65536 ∈ WL := List.mem_filter.mpr ⟨List.mem_of_getElem? (i := 937) rfl, rfl⟩
set_option maxRecDepth 20000 in
theorem m_938 : Cond.constant R_Mo 157 65537 ∈ WL := List.mem_filter.mpr ⟨List.mem_of_getElem? (i := 938) rfl, rfl⟩
set_option maxRecDepth 20000 in
theorem m_939 : Cond.methodLink R_La 168 y_Mo_drop ∈ WL := List.mem_filter.mpr ⟨List.mem_of_getElem? (i := 939) rfl, rfl⟩
set_option maxRecDepth 20000 in
theorem m_940 : Cond.instanceMethod y_Mo_drop ∈ WL := List.mem_filter.mpr ⟨List.mem_of_getElem? (i := 940) rfl, rfl⟩
set_option maxRecDepth 20000 in
theorem m_941 : Cond.selects R_Mo y_Mo_drop y_Mo_drop ∈ WL := List.mem_filter.mpr ⟨List.mem_of_getElem? (i := 941) rfl, rfl⟩
set_option maxRecDepth 20000 in
theorem m_942 : Cond.code y_Mo_drop b_Mo_drop 2 (some .int) ∈ WL := List.mem_filter.mpr ⟨List.mem_of_getElem? (i := 942) rfl, rfl⟩
set_option maxRecDepth 20000 in
theorem m_943 : Cond.methodLink R_La 171 y_Mo_count ∈ WL := List.mem_filter.mpr ⟨List.mem_of_getElem? (i := 943) rfl, rfl⟩
set_option maxRecDepth 20000 in
theorem m_944 : Cond.instanceMethod y_Mo_count ∈ WL := List.mem_filter.mpr ⟨List.mem_of_getElem? (i := 944) rfl, rfl⟩
set_option maxRecDepth 20000 in
theorem m_945 : Cond.selects R_Mo y_Mo_count y_Mo_count ∈ WL := List.mem_filter.mpr ⟨List.mem_of_getElem? (i := 945) rfl, rfl⟩
set_option maxRecDepth 20000 in
theorem m_946 : Cond.code y_Mo_count b_Mo_count 4 (some .int) ∈ WL := List.mem_filter.mpr ⟨List.mem_of_getElem? (i := 946) rfl, rfl⟩
set_option maxRecDepth 20000 in
theorem m_947 : Cond.arrayClass FieldType.long ∈ WL := List.mem_filter.mpr ⟨List.mem_of_getElem? (i := 947) rfl, rfl⟩
