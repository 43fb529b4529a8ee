theorem u_0 : ((Jvm.Cond.initialized "ViewBroadcastLaw")) ∈ pU := pU_of (i := 35) rfl rfl
theorem u_1 : ((Jvm.Cond.initialized "ViewBroadcast")) ∈ pU := pU_of (i := 36) rfl rfl
theorem u_2 : ((Jvm.Cond.initialized "ViewBroadcast$Coins")) ∈ pU := pU_of (i := 37) rfl rfl
theorem u_3 : ((Jvm.Cond.initialized "ViewBroadcast$World")) ∈ pU := pU_of (i := 38) rfl rfl
theorem u_4 : ((Jvm.Cond.initialized "ViewBroadcast$Sizes")) ∈ pU := pU_of (i := 39) rfl rfl
theorem u_5 : ((Jvm.Cond.initialized "ViewBroadcast$Node")) ∈ pU := pU_of (i := 40) rfl rfl
theorem u_6 : ((Jvm.Cond.initialized "ViewBroadcast$NodeList")) ∈ pU := pU_of (i := 41) rfl rfl
theorem u_7 : ((Jvm.Cond.initialized "java/lang/Math")) ∈ pU := pU_of (i := 42) rfl rfl
theorem u_8 : ((Jvm.Cond.initialized "ViewBroadcast$Miss")) ∈ pU := pU_of (i := 43) rfl rfl
theorem u_9 : ((Jvm.Cond.initialized "ViewBroadcast$Row")) ∈ pU := pU_of (i := 44) rfl rfl
theorem u_10 : ((Jvm.Cond.initialized "ViewBroadcast$Letter")) ∈ pU := pU_of (i := 45) rfl rfl
theorem u_11 : ((Jvm.Cond.initialized "ViewBroadcast$Views")) ∈ pU := pU_of (i := 46) rfl rfl
theorem u_12 : ((Jvm.Cond.initialized "ViewBroadcast$Tales")) ∈ pU := pU_of (i := 47) rfl rfl
theorem u_13 : ((Jvm.Cond.initialized "ViewBroadcastModel")) ∈ pU := pU_of (i := 48) rfl rfl
theorem u_14 : ((Jvm.Cond.initialized "java/lang/Integer")) ∈ pU := pU_of (i := 49) rfl rfl
theorem u_15 : ((Jvm.Cond.classLink "ViewBroadcastLaw" (7 : Nat) "ViewBroadcast")) ∈ pU := pU_of (i := 50) rfl rfl
theorem u_16 : ((Jvm.Cond.instantiable "ViewBroadcast" (6 : Nat))) ∈ pU := pU_of (i := 51) rfl rfl
theorem u_17 : ((Jvm.Cond.methodLink "ViewBroadcastLaw" (9 : Nat) ({ cls := "ViewBroadcast", name := "<init>", desc := "()V" } : Jvm.MethodName))) ∈ pU := pU_of (i := 52) rfl rfl
theorem u_18 : ((Jvm.Cond.instanceMethod ({ cls := "ViewBroadcast", name := "<init>", desc := "()V" } : Jvm.MethodName))) ∈ pU := pU_of (i := 53) rfl rfl
theorem u_19 : ((Jvm.Cond.code ({ cls := "ViewBroadcast", name := "<init>", desc := "()V" } : Jvm.MethodName) prog_1_method_1_code (2 : Nat) (Option.none : Option Jvm.ClassFile.FieldType))) ∈ pU := pU_of (i := 54) rfl rfl
theorem u_20 : ((Jvm.Cond.methodLink "ViewBroadcast" (1 : Nat) ({ cls := "java/lang/Object", name := "<init>", desc := "()V" } : Jvm.MethodName))) ∈ pU := pU_of (i := 55) rfl rfl
theorem u_21 : ((Jvm.Cond.instanceMethod ({ cls := "java/lang/Object", name := "<init>", desc := "()V" } : Jvm.MethodName))) ∈ pU := pU_of (i := 56) rfl rfl
theorem u_22 : ((Jvm.Cond.code ({ cls := "java/lang/Object", name := "<init>", desc := "()V" } : Jvm.MethodName) object_method_1_code (1 : Nat) (Option.none : Option Jvm.ClassFile.FieldType))) ∈ pU := pU_of (i := 57) rfl rfl
theorem u_23 : ((Jvm.Cond.classLink "ViewBroadcast" (7 : Nat) "ViewBroadcast$Coins")) ∈ pU := pU_of (i := 58) rfl rfl
theorem u_24 : ((Jvm.Cond.instantiable "ViewBroadcast$Coins" (2 : Nat))) ∈ pU := pU_of (i := 59) rfl rfl
theorem u_26 : ((Jvm.Cond.instanceMethod ({ cls := "ViewBroadcast$Coins", name := "<init>", desc := "()V" } : Jvm.MethodName))) ∈ pU := pU_of (i := 61) rfl rfl
theorem u_27 : ((Jvm.Cond.code ({ cls := "ViewBroadcast$Coins", name := "<init>", desc := "()V" } : Jvm.MethodName) prog_2_method_1_code (1 : Nat) (Option.none : Option Jvm.ClassFile.FieldType))) ∈ pU := pU_of (i := 62) rfl rfl
theorem u_28 : ((Jvm.Cond.methodLink "ViewBroadcast$Coins" (3 : Nat) ({ cls := "java/lang/Object", name := "<init>", desc := "()V" } : Jvm.MethodName))) ∈ pU := pU_of (i := 63) rfl rfl
theorem u_29 : ((Jvm.Cond.fieldLink "ViewBroadcast$Coins" (9 : Nat) "ViewBroadcast$Coins" "values" "[I")) ∈ pU := pU_of (i := 64) rfl rfl
theorem u_30 : ((Jvm.Cond.fieldLink "ViewBroadcast$Coins" (15 : Nat) "ViewBroadcast$Coins" "count" "I")) ∈ pU := pU_of (i := 65) rfl rfl
theorem u_31 : ((Jvm.Cond.fieldLink "ViewBroadcast" (78 : Nat) "ViewBroadcast$Coins" "count" "I")) ∈ pU := pU_of (i := 66) rfl rfl
theorem u_32 : ((Jvm.Cond.fieldLink "ViewBroadcast$World" (73 : Nat) "ViewBroadcast$Coins" "count" "I")) ∈ pU := pU_of (i := 67) rfl rfl
theorem u_38 : ((Jvm.Cond.arrayClass Jvm.ClassFile.FieldType.int)) ∈ pU := pU_of (i := 73) rfl rfl
theorem u_39 : ((Jvm.Cond.classLink "ViewBroadcast" (16 : Nat) "ViewBroadcast$World")) ∈ pU := pU_of (i := 74) rfl rfl
theorem u_40 : ((Jvm.Cond.instantiable "ViewBroadcast$World" (11 : Nat))) ∈ pU := pU_of (i := 75) rfl rfl
theorem u_41 : ((Jvm.Cond.methodLink "ViewBroadcast" (18 : Nat) ({ cls := "ViewBroadcast$World", name := "<init>", desc := "(LViewBroadcast$Coins;)V" } : Jvm.MethodName))) ∈ pU := pU_of (i := 76) rfl rfl
theorem u_42 : ((Jvm.Cond.instanceMethod ({ cls := "ViewBroadcast$World", name := "<init>", desc := "(LViewBroadcast$Coins;)V" } : Jvm.MethodName))) ∈ pU := pU_of (i := 77) rfl rfl
theorem u_43 : ((Jvm.Cond.code ({ cls := "ViewBroadcast$World", name := "<init>", desc := "(LViewBroadcast$Coins;)V" } : Jvm.MethodName) prog_11_method_1_code (3 : Nat) (Option.none : Option Jvm.ClassFile.FieldType))) ∈ pU := pU_of (i := 78) rfl rfl
theorem u_44 : ((Jvm.Cond.methodLink "ViewBroadcast$World" (3 : Nat) ({ cls := "java/lang/Object", name := "<init>", desc := "()V" } : Jvm.MethodName))) ∈ pU := pU_of (i := 79) rfl rfl
theorem u_45 : ((Jvm.Cond.classLink "ViewBroadcast$World" (9 : Nat) "ViewBroadcast$Sizes")) ∈ pU := pU_of (i := 80) rfl rfl
theorem u_46 : ((Jvm.Cond.instantiable "ViewBroadcast$Sizes" (5 : Nat))) ∈ pU := pU_of (i := 81) rfl rfl
theorem u_48 : ((Jvm.Cond.instanceMethod ({ cls := "ViewBroadcast$Sizes", name := "<init>", desc := "()V" } : Jvm.MethodName))) ∈ pU := pU_of (i := 83) rfl rfl
theorem u_49 : ((Jvm.Cond.code ({ cls := "ViewBroadcast$Sizes", name := "<init>", desc := "()V" } : Jvm.MethodName) prog_8_method_1_code (1 : Nat) (Option.none : Option Jvm.ClassFile.FieldType))) ∈ pU := pU_of (i := 84) rfl rfl
theorem u_50 : ((Jvm.Cond.methodLink "ViewBroadcast$Sizes" (1 : Nat) ({ cls := "java/lang/Object", name := "<init>", desc := "()V" } : Jvm.MethodName))) ∈ pU := pU_of (i := 85) rfl rfl
theorem u_51 : ((Jvm.Cond.fieldLink "ViewBroadcast$Sizes" (7 : Nat) "ViewBroadcast$Sizes" "active" "I")) ∈ pU := pU_of (i := 86) rfl rfl
theorem u_52 : ((Jvm.Cond.fieldLink "ViewBroadcast" (57 : Nat) "ViewBroadcast$Sizes" "active" "I")) ∈ pU := pU_of (i := 87) rfl rfl
theorem u_53 : ((Jvm.Cond.fieldLink "ViewBroadcast$Views" (70 : Nat) "ViewBroadcast$Sizes" "active" "I")) ∈ pU := pU_of (i := 88) rfl rfl
theorem u_54 : ((Jvm.Cond.fieldLink "ViewBroadcast$Sizes" (13 : Nat) "ViewBroadcast$Sizes" "passive" "I")) ∈ pU := pU_of (i := 89) rfl rfl
theorem u_55 : ((Jvm.Cond.fieldLink "ViewBroadcast" (62 : Nat) "ViewBroadcast$Sizes" "passive" "I")) ∈ pU := pU_of (i := 90) rfl rfl
theorem u_56 : ((Jvm.Cond.fieldLink "ViewBroadcast$Views" (104 : Nat) "ViewBroadcast$Sizes" "passive" "I")) ∈ pU := pU_of (i := 91) rfl rfl
theorem u_57 : ((Jvm.Cond.fieldLink "ViewBroadcast$Sizes" (16 : Nat) "ViewBroadcast$Sizes" "longWalk" "I")) ∈ pU := pU_of (i := 92) rfl rfl
theorem u_58 : ((Jvm.Cond.fieldLink "ViewBroadcast" (65 : Nat) "ViewBroadcast$Sizes" "longWalk" "I")) ∈ pU := pU_of (i := 93) rfl rfl
theorem u_59 : ((Jvm.Cond.fieldLink "ViewBroadcast$Views" (115 : Nat) "ViewBroadcast$Sizes" "longWalk" "I")) ∈ pU := pU_of (i := 94) rfl rfl
theorem u_60 : ((Jvm.Cond.fieldLink "ViewBroadcast$Sizes" (19 : Nat) "ViewBroadcast$Sizes" "shortWalk" "I")) ∈ pU := pU_of (i := 95) rfl rfl
theorem u_61 : ((Jvm.Cond.fieldLink "ViewBroadcast" (68 : Nat) "ViewBroadcast$Sizes" "shortWalk" "I")) ∈ pU := pU_of (i := 96) rfl rfl
theorem u_62 : ((Jvm.Cond.fieldLink "ViewBroadcast$Views" (118 : Nat) "ViewBroadcast$Sizes" "shortWalk" "I")) ∈ pU := pU_of (i := 97) rfl rfl
theorem u_63 : ((Jvm.Cond.fieldLink "ViewBroadcast$Sizes" (22 : Nat) "ViewBroadcast$Sizes" "wait" "I")) ∈ pU := pU_of (i := 98) rfl rfl
theorem u_64 : ((Jvm.Cond.fieldLink "ViewBroadcast" (71 : Nat) "ViewBroadcast$Sizes" "wait" "I")) ∈ pU := pU_of (i := 99) rfl rfl
theorem u_65 : ((Jvm.Cond.fieldLink "ViewBroadcast$Tales" (85 : Nat) "ViewBroadcast$Sizes" "wait" "I")) ∈ pU := pU_of (i := 100) rfl rfl
theorem u_77 : ((Jvm.Cond.classLink "ViewBroadcast$World" (18 : Nat) "ViewBroadcast$Node")) ∈ pU := pU_of (i := 112) rfl rfl
theorem u_79 : ((Jvm.Cond.instantiable "ViewBroadcast$Node" (10 : Nat))) ∈ pU := pU_of (i := 114) rfl rfl
theorem u_80 : ((Jvm.Cond.methodLink "ViewBroadcast$World" (24 : Nat) ({ cls := "ViewBroadcast$Node", name := "<init>", desc := "(I)V" } : Jvm.MethodName))) ∈ pU := pU_of (i := 115) rfl rfl
theorem u_81 : ((Jvm.Cond.instanceMethod ({ cls := "ViewBroadcast$Node", name := "<init>", desc := "(I)V" } : Jvm.MethodName))) ∈ pU := pU_of (i := 116) rfl rfl
theorem u_82 : ((Jvm.Cond.code ({ cls := "ViewBroadcast$Node", name := "<init>", desc := "(I)V" } : Jvm.MethodName) prog_5_method_1_code (3 : Nat) (Option.none : Option Jvm.ClassFile.FieldType))) ∈ pU := pU_of (i := 117) rfl rfl
theorem u_83 : ((Jvm.Cond.methodLink "ViewBroadcast$Node" (3 : Nat) ({ cls := "java/lang/Object", name := "<init>", desc := "()V" } : Jvm.MethodName))) ∈ pU := pU_of (i := 118) rfl rfl
theorem u_84 : ((Jvm.Cond.classLink "ViewBroadcast$Node" (15 : Nat) "ViewBroadcast$NodeList")) ∈ pU := pU_of (i := 119) rfl rfl
theorem u_85 : ((Jvm.Cond.instantiable "ViewBroadcast$NodeList" (2 : Nat))) ∈ pU := pU_of (i := 120) rfl rfl
theorem u_86 : ((Jvm.Cond.methodLink "ViewBroadcast$Node" (17 : Nat) ({ cls := "ViewBroadcast$NodeList", name := "<init>", desc := "(I)V" } : Jvm.MethodName))) ∈ pU := pU_of (i := 121) rfl rfl
theorem u_87 : ((Jvm.Cond.instanceMethod ({ cls := "ViewBroadcast$NodeList", name := "<init>", desc := "(I)V" } : Jvm.MethodName))) ∈ pU := pU_of (i := 122) rfl rfl
theorem u_88 : ((Jvm.Cond.code ({ cls := "ViewBroadcast$NodeList", name := "<init>", desc := "(I)V" } : Jvm.MethodName) prog_6_method_1_code (2 : Nat) (Option.none : Option Jvm.ClassFile.FieldType))) ∈ pU := pU_of (i := 123) rfl rfl
theorem u_89 : ((Jvm.Cond.methodLink "ViewBroadcast$NodeList" (3 : Nat) ({ cls := "java/lang/Object", name := "<init>", desc := "()V" } : Jvm.MethodName))) ∈ pU := pU_of (i := 124) rfl rfl
theorem u_90 : ((Jvm.Cond.methodLink "ViewBroadcast$NodeList" (15 : Nat) ({ cls := "java/lang/Math", name := "max", desc := "(II)I" } : Jvm.MethodName))) ∈ pU := pU_of (i := 125) rfl rfl
theorem u_91 : ((Jvm.Cond.static ({ cls := "java/lang/Math", name := "max", desc := "(II)I" } : Jvm.MethodName))) ∈ pU := pU_of (i := 126) rfl rfl
theorem u_92 : ((Jvm.Cond.code ({ cls := "java/lang/Math", name := "max", desc := "(II)I" } : Jvm.MethodName) prog_15_method_65_code (2 : Nat) (Option.some Jvm.ClassFile.FieldType.int))) ∈ pU := pU_of (i := 127) rfl rfl
theorem u_93 : ((Jvm.Cond.fieldLink "ViewBroadcast$NodeList" (21 : Nat) "ViewBroadcast$NodeList" "numbers" "[I")) ∈ pU := pU_of (i := 128) rfl rfl
theorem u_94 : ((Jvm.Cond.fieldLink "ViewBroadcast$NodeList" (9 : Nat) "ViewBroadcast$NodeList" "count" "I")) ∈ pU := pU_of (i := 129) rfl rfl
theorem u_95 : ((Jvm.Cond.fieldLink "ViewBroadcast$Views" (47 : Nat) "ViewBroadcast$NodeList" "count" "I")) ∈ pU := pU_of (i := 130) rfl rfl
theorem u_96 : ((Jvm.Cond.fieldLink "ViewBroadcast$Tales" (35 : Nat) "ViewBroadcast$NodeList" "count" "I")) ∈ pU := pU_of (i := 131) rfl rfl
theorem u_97 : ((Jvm.Cond.fieldLink "ViewBroadcast" (144 : Nat) "ViewBroadcast$NodeList" "count" "I")) ∈ pU := pU_of (i := 132) rfl rfl
theorem u_98 : ((Jvm.Cond.fieldLink "ViewBroadcast$World" (164 : Nat) "ViewBroadcast$NodeList" "count" "I")) ∈ pU := pU_of (i := 133) rfl rfl
theorem u_104 : ((Jvm.Cond.classLink "ViewBroadcast$Node" (44 : Nat) "ViewBroadcast$Miss")) ∈ pU := pU_of (i := 139) rfl rfl
theorem u_106 : ((Jvm.Cond.instantiable "ViewBroadcast$Miss" (3 : Nat))) ∈ pU := pU_of (i := 141) rfl rfl
theorem u_108 : ((Jvm.Cond.instanceMethod ({ cls := "ViewBroadcast$Miss", name := "<init>", desc := "()V" } : Jvm.MethodName))) ∈ pU := pU_of (i := 143) rfl rfl
theorem u_109 : ((Jvm.Cond.code ({ cls := "ViewBroadcast$Miss", name := "<init>", desc := "()V" } : Jvm.MethodName) prog_4_method_1_code (1 : Nat) (Option.none : Option Jvm.ClassFile.FieldType))) ∈ pU := pU_of (i := 144) rfl rfl
theorem u_110 : ((Jvm.Cond.methodLink "ViewBroadcast$Miss" (3 : Nat) ({ cls := "java/lang/Object", name := "<init>", desc := "()V" } : Jvm.MethodName))) ∈ pU := pU_of (i := 145) rfl rfl
theorem u_111 : ((Jvm.Cond.classLink "ViewBroadcast$Miss" (19 : Nat) "ViewBroadcast$NodeList")) ∈ pU := pU_of (i := 146) rfl rfl
theorem u_112 : ((Jvm.Cond.methodLink "ViewBroadcast$Miss" (21 : Nat) ({ cls := "ViewBroadcast$NodeList", name := "<init>", desc := "(I)V" } : Jvm.MethodName))) ∈ pU := pU_of (i := 147) rfl rfl
theorem u_113 : ((Jvm.Cond.fieldLink "ViewBroadcast$Miss" (9 : Nat) "ViewBroadcast$Miss" "open" "Z")) ∈ pU := pU_of (i := 148) rfl rfl
theorem u_114 : ((Jvm.Cond.fieldLink "ViewBroadcast$Tales" (72 : Nat) "ViewBroadcast$Miss" "open" "Z")) ∈ pU := pU_of (i := 149) rfl rfl
theorem u_115 : ((Jvm.Cond.fieldLink "ViewBroadcast$Node" (68 : Nat) "ViewBroadcast$Miss" "open" "Z")) ∈ pU := pU_of (i := 150) rfl rfl
theorem u_116 : ((Jvm.Cond.fieldLink "ViewBroadcast$Miss" (15 : Nat) "ViewBroadcast$Miss" "hour" "I")) ∈ pU := pU_of (i := 151) rfl rfl
theorem u_117 : ((Jvm.Cond.fieldLink "ViewBroadcast$Tales" (90 : Nat) "ViewBroadcast$Miss" "hour" "I")) ∈ pU := pU_of (i := 152) rfl rfl
theorem u_118 : ((Jvm.Cond.fieldLink "ViewBroadcast$Miss" (24 : Nat) "ViewBroadcast$Miss" "tellers" "LViewBroadcast$NodeList;")) ∈ pU := pU_of (i := 153) rfl rfl
theorem u_119 : ((Jvm.Cond.fieldLink "ViewBroadcast$Tales" (93 : Nat) "ViewBroadcast$Miss" "tellers" "LViewBroadcast$NodeList;")) ∈ pU := pU_of (i := 154) rfl rfl
theorem u_120 : ((Jvm.Cond.fieldLink "ViewBroadcast$Node" (77 : Nat) "ViewBroadcast$Miss" "tellers" "LViewBroadcast$NodeList;")) ∈ pU := pU_of (i := 155) rfl rfl
theorem u_121 : ((Jvm.Cond.fieldLink "ViewBroadcast" (166 : Nat) "ViewBroadcast$Miss" "tellers" "LViewBroadcast$NodeList;")) ∈ pU := pU_of (i := 156) rfl rfl
theorem u_129 : ((Jvm.Cond.fieldLink "ViewBroadcast$Node" (50 : Nat) "ViewBroadcast$Node" "number" "I")) ∈ pU := pU_of (i := 164) rfl rfl
theorem u_130 : ((Jvm.Cond.fieldLink "ViewBroadcast$Tales" (15 : Nat) "ViewBroadcast$Node" "number" "I")) ∈ pU := pU_of (i := 165) rfl rfl
theorem u_131 : ((Jvm.Cond.fieldLink "ViewBroadcast$Views" (34 : Nat) "ViewBroadcast$Node" "number" "I")) ∈ pU := pU_of (i := 166) rfl rfl
theorem u_132 : ((Jvm.Cond.fieldLink "ViewBroadcast$World" (133 : Nat) "ViewBroadcast$Node" "number" "I")) ∈ pU := pU_of (i := 167) rfl rfl
theorem u_133 : ((Jvm.Cond.fieldLink "ViewBroadcast$Node" (9 : Nat) "ViewBroadcast$Node" "live" "Z")) ∈ pU := pU_of (i := 168) rfl rfl
theorem u_134 : ((Jvm.Cond.fieldLink "ViewBroadcast" (92 : Nat) "ViewBroadcast$Node" "live" "Z")) ∈ pU := pU_of (i := 169) rfl rfl
theorem u_135 : ((Jvm.Cond.fieldLink "ViewBroadcast$World" (93 : Nat) "ViewBroadcast$Node" "live" "Z")) ∈ pU := pU_of (i := 170) rfl rfl
theorem u_136 : ((Jvm.Cond.fieldLink "ViewBroadcast$Tales" (109 : Nat) "ViewBroadcast$Node" "live" "Z")) ∈ pU := pU_of (i := 171) rfl rfl
theorem u_137 : ((Jvm.Cond.fieldLink "ViewBroadcast$Node" (20 : Nat) "ViewBroadcast$Node" "active" "LViewBroadcast$NodeList;")) ∈ pU := pU_of (i := 172) rfl rfl
theorem u_138 : ((Jvm.Cond.fieldLink "ViewBroadcast$Tales" (31 : Nat) "ViewBroadcast$Node" "active" "LViewBroadcast$NodeList;")) ∈ pU := pU_of (i := 173) rfl rfl
theorem u_139 : ((Jvm.Cond.fieldLink "ViewBroadcast$Views" (67 : Nat) "ViewBroadcast$Node" "active" "LViewBroadcast$NodeList;")) ∈ pU := pU_of (i := 174) rfl rfl
theorem u_140 : ((Jvm.Cond.fieldLink "ViewBroadcast$World" (143 : Nat) "ViewBroadcast$Node" "active" "LViewBroadcast$NodeList;")) ∈ pU := pU_of (i := 175) rfl rfl
theorem u_141 : ((Jvm.Cond.fieldLink "ViewBroadcast" (139 : Nat) "ViewBroadcast$Node" "active" "LViewBroadcast$NodeList;")) ∈ pU := pU_of (i := 176) rfl rfl
theorem u_142 : ((Jvm.Cond.fieldLink "ViewBroadcast$Node" (24 : Nat) "ViewBroadcast$Node" "passive" "LViewBroadcast$NodeList;")) ∈ pU := pU_of (i := 177) rfl rfl
theorem u_143 : ((Jvm.Cond.fieldLink "ViewBroadcast$Views" (78 : Nat) "ViewBroadcast$Node" "passive" "LViewBroadcast$NodeList;")) ∈ pU := pU_of (i := 178) rfl rfl
theorem u_144 : ((Jvm.Cond.fieldLink "ViewBroadcast" (142 : Nat) "ViewBroadcast$Node" "passive" "LViewBroadcast$NodeList;")) ∈ pU := pU_of (i := 179) rfl rfl
theorem u_145 : ((Jvm.Cond.fieldLink "ViewBroadcast$Node" (27 : Nat) "ViewBroadcast$Node" "lazy" "I")) ∈ pU := pU_of (i := 180) rfl rfl
theorem u_146 : ((Jvm.Cond.fieldLink "ViewBroadcast$Node" (31 : Nat) "ViewBroadcast$Node" "asks" "I")) ∈ pU := pU_of (i := 181) rfl rfl
theorem u_147 : ((Jvm.Cond.fieldLink "ViewBroadcast$Views" (95 : Nat) "ViewBroadcast$Node" "asks" "I")) ∈ pU := pU_of (i := 182) rfl rfl
theorem u_148 : ((Jvm.Cond.fieldLink "ViewBroadcast$World" (149 : Nat) "ViewBroadcast$Node" "asks" "I")) ∈ pU := pU_of (i := 183) rfl rfl
theorem u_149 : ((Jvm.Cond.fieldLink "ViewBroadcast" (171 : Nat) "ViewBroadcast$Node" "asks" "I")) ∈ pU := pU_of (i := 184) rfl rfl
theorem u_150 : ((Jvm.Cond.fieldLink "ViewBroadcast$Node" (34 : Nat) "ViewBroadcast$Node" "asked" "I")) ∈ pU := pU_of (i := 185) rfl rfl
theorem u_151 : ((Jvm.Cond.fieldLink "ViewBroadcast$Views" (106 : Nat) "ViewBroadcast$Node" "asked" "I")) ∈ pU := pU_of (i := 186) rfl rfl
theorem u_152 : ((Jvm.Cond.fieldLink "ViewBroadcast" (174 : Nat) "ViewBroadcast$Node" "asked" "I")) ∈ pU := pU_of (i := 187) rfl rfl
theorem u_153 : ((Jvm.Cond.fieldLink "ViewBroadcast$Node" (37 : Nat) "ViewBroadcast$Node" "arrived" "I")) ∈ pU := pU_of (i := 188) rfl rfl
theorem u_154 : ((Jvm.Cond.fieldLink "ViewBroadcast$World" (130 : Nat) "ViewBroadcast$Node" "arrived" "I")) ∈ pU := pU_of (i := 189) rfl rfl
theorem u_155 : ((Jvm.Cond.fieldLink "ViewBroadcast" (183 : Nat) "ViewBroadcast$Node" "arrived" "I")) ∈ pU := pU_of (i := 190) rfl rfl
theorem u_156 : ((Jvm.Cond.fieldLink "ViewBroadcast$Node" (40 : Nat) "ViewBroadcast$Node" "hops" "[I")) ∈ pU := pU_of (i := 191) rfl rfl
theorem u_157 : ((Jvm.Cond.fieldLink "ViewBroadcast$Node" (46 : Nat) "ViewBroadcast$Node" "misses" "[LViewBroadcast$Miss;")) ∈ pU := pU_of (i := 192) rfl rfl
theorem u_179 : ((Jvm.Cond.classLink "ViewBroadcast$World" (31 : Nat) "ViewBroadcast$Row")) ∈ pU := pU_of (i := 214) rfl rfl
theorem u_180 : ((Jvm.Cond.instantiable "ViewBroadcast$Row" (4 : Nat))) ∈ pU := pU_of (i := 215) rfl rfl
theorem u_181 : ((Jvm.Cond.methodLink "ViewBroadcast$World" (33 : Nat) ({ cls := "ViewBroadcast$Row", name := "<init>", desc := "()V" } : Jvm.MethodName))) ∈ pU := pU_of (i := 216) rfl rfl
theorem u_182 : ((Jvm.Cond.instanceMethod ({ cls := "ViewBroadcast$Row", name := "<init>", desc := "()V" } : Jvm.MethodName))) ∈ pU := pU_of (i := 217) rfl rfl
theorem u_183 : ((Jvm.Cond.code ({ cls := "ViewBroadcast$Row", name := "<init>", desc := "()V" } : Jvm.MethodName) prog_7_method_1_code (2 : Nat) (Option.none : Option Jvm.ClassFile.FieldType))) ∈ pU := pU_of (i := 218) rfl rfl
theorem u_184 : ((Jvm.Cond.methodLink "ViewBroadcast$Row" (3 : Nat) ({ cls := "java/lang/Object", name := "<init>", desc := "()V" } : Jvm.MethodName))) ∈ pU := pU_of (i := 219) rfl rfl
theorem u_185 : ((Jvm.Cond.classLink "ViewBroadcast$Row" (9 : Nat) "ViewBroadcast$Letter")) ∈ pU := pU_of (i := 220) rfl rfl
theorem u_187 : ((Jvm.Cond.instantiable "ViewBroadcast$Letter" (6 : Nat))) ∈ pU := pU_of (i := 222) rfl rfl
theorem u_189 : ((Jvm.Cond.instanceMethod ({ cls := "ViewBroadcast$Letter", name := "<init>", desc := "()V" } : Jvm.MethodName))) ∈ pU := pU_of (i := 224) rfl rfl
theorem u_190 : ((Jvm.Cond.code ({ cls := "ViewBroadcast$Letter", name := "<init>", desc := "()V" } : Jvm.MethodName) prog_3_method_1_code (1 : Nat) (Option.none : Option Jvm.ClassFile.FieldType))) ∈ pU := pU_of (i := 225) rfl rfl
theorem u_191 : ((Jvm.Cond.methodLink "ViewBroadcast$Letter" (3 : Nat) ({ cls := "java/lang/Object", name := "<init>", desc := "()V" } : Jvm.MethodName))) ∈ pU := pU_of (i := 226) rfl rfl
theorem u_192 : ((Jvm.Cond.classLink "ViewBroadcast$Letter" (9 : Nat) "ViewBroadcast$NodeList")) ∈ pU := pU_of (i := 227) rfl rfl
theorem u_193 : ((Jvm.Cond.methodLink "ViewBroadcast$Letter" (11 : Nat) ({ cls := "ViewBroadcast$NodeList", name := "<init>", desc := "(I)V" } : Jvm.MethodName))) ∈ pU := pU_of (i := 228) rfl rfl
theorem u_194 : ((Jvm.Cond.fieldLink "ViewBroadcast$Letter" (20 : Nat) "ViewBroadcast$Letter" "sender" "I")) ∈ pU := pU_of (i := 229) rfl rfl
theorem u_195 : ((Jvm.Cond.fieldLink "ViewBroadcast$Row" (43 : Nat) "ViewBroadcast$Letter" "sender" "I")) ∈ pU := pU_of (i := 230) rfl rfl
theorem u_196 : ((Jvm.Cond.fieldLink "ViewBroadcast$Views" (134 : Nat) "ViewBroadcast$Letter" "sender" "I")) ∈ pU := pU_of (i := 231) rfl rfl
theorem u_197 : ((Jvm.Cond.fieldLink "ViewBroadcast" (189 : Nat) "ViewBroadcast$Letter" "sender" "I")) ∈ pU := pU_of (i := 232) rfl rfl
theorem u_198 : ((Jvm.Cond.fieldLink "ViewBroadcast$Letter" (24 : Nat) "ViewBroadcast$Letter" "receiver" "I")) ∈ pU := pU_of (i := 233) rfl rfl
theorem u_199 : ((Jvm.Cond.fieldLink "ViewBroadcast$Row" (40 : Nat) "ViewBroadcast$Letter" "receiver" "I")) ∈ pU := pU_of (i := 234) rfl rfl
theorem u_200 : ((Jvm.Cond.fieldLink "ViewBroadcast$World" (127 : Nat) "ViewBroadcast$Letter" "receiver" "I")) ∈ pU := pU_of (i := 235) rfl rfl
theorem u_201 : ((Jvm.Cond.fieldLink "ViewBroadcast" (194 : Nat) "ViewBroadcast$Letter" "receiver" "I")) ∈ pU := pU_of (i := 236) rfl rfl
theorem u_202 : ((Jvm.Cond.fieldLink "ViewBroadcast$Letter" (27 : Nat) "ViewBroadcast$Letter" "kind" "I")) ∈ pU := pU_of (i := 237) rfl rfl
theorem u_203 : ((Jvm.Cond.fieldLink "ViewBroadcast$World" (105 : Nat) "ViewBroadcast$Letter" "kind" "I")) ∈ pU := pU_of (i := 238) rfl rfl
theorem u_204 : ((Jvm.Cond.fieldLink "ViewBroadcast" (197 : Nat) "ViewBroadcast$Letter" "kind" "I")) ∈ pU := pU_of (i := 239) rfl rfl
theorem u_205 : ((Jvm.Cond.fieldLink "ViewBroadcast$Letter" (30 : Nat) "ViewBroadcast$Letter" "x" "I")) ∈ pU := pU_of (i := 240) rfl rfl
theorem u_206 : ((Jvm.Cond.fieldLink "ViewBroadcast$Views" (137 : Nat) "ViewBroadcast$Letter" "x" "I")) ∈ pU := pU_of (i := 241) rfl rfl
theorem u_207 : ((Jvm.Cond.fieldLink "ViewBroadcast" (200 : Nat) "ViewBroadcast$Letter" "x" "I")) ∈ pU := pU_of (i := 242) rfl rfl
theorem u_208 : ((Jvm.Cond.fieldLink "ViewBroadcast$Letter" (33 : Nat) "ViewBroadcast$Letter" "y" "I")) ∈ pU := pU_of (i := 243) rfl rfl
theorem u_209 : ((Jvm.Cond.fieldLink "ViewBroadcast$Views" (129 : Nat) "ViewBroadcast$Letter" "y" "I")) ∈ pU := pU_of (i := 244) rfl rfl
theorem u_210 : ((Jvm.Cond.fieldLink "ViewBroadcast" (203 : Nat) "ViewBroadcast$Letter" "y" "I")) ∈ pU := pU_of (i := 245) rfl rfl
theorem u_211 : ((Jvm.Cond.fieldLink "ViewBroadcast$Letter" (14 : Nat) "ViewBroadcast$Letter" "list" "LViewBroadcast$NodeList;")) ∈ pU := pU_of (i := 246) rfl rfl
theorem u_212 : ((Jvm.Cond.fieldLink "ViewBroadcast$World" (108 : Nat) "ViewBroadcast$Letter" "list" "LViewBroadcast$NodeList;")) ∈ pU := pU_of (i := 247) rfl rfl
theorem u_213 : ((Jvm.Cond.fieldLink "ViewBroadcast$Views" (140 : Nat) "ViewBroadcast$Letter" "list" "LViewBroadcast$NodeList;")) ∈ pU := pU_of (i := 248) rfl rfl
theorem u_214 : ((Jvm.Cond.fieldLink "ViewBroadcast" (206 : Nat) "ViewBroadcast$Letter" "list" "LViewBroadcast$NodeList;")) ∈ pU := pU_of (i := 249) rfl rfl
theorem u_228 : ((Jvm.Cond.fieldLink "ViewBroadcast$Row" (11 : Nat) "ViewBroadcast$Row" "ring" "[LViewBroadcast$Letter;")) ∈ pU := pU_of (i := 263) rfl rfl
theorem u_229 : ((Jvm.Cond.fieldLink "ViewBroadcast$Row" (17 : Nat) "ViewBroadcast$Row" "first" "I")) ∈ pU := pU_of (i := 264) rfl rfl
theorem u_230 : ((Jvm.Cond.fieldLink "ViewBroadcast$Row" (21 : Nat) "ViewBroadcast$Row" "count" "I")) ∈ pU := pU_of (i := 265) rfl rfl
theorem u_231 : ((Jvm.Cond.fieldLink "ViewBroadcast" (106 : Nat) "ViewBroadcast$Row" "count" "I")) ∈ pU := pU_of (i := 266) rfl rfl
theorem u_232 : ((Jvm.Cond.fieldLink "ViewBroadcast$World" (152 : Nat) "ViewBroadcast$Row" "count" "I")) ∈ pU := pU_of (i := 267) rfl rfl
theorem u_233 : ((Jvm.Cond.fieldLink "ViewBroadcast$Row" (24 : Nat) "ViewBroadcast$Row" "spilt" "I")) ∈ pU := pU_of (i := 268) rfl rfl
theorem u_234 : ((Jvm.Cond.fieldLink "ViewBroadcast" (226 : Nat) "ViewBroadcast$Row" "spilt" "I")) ∈ pU := pU_of (i := 269) rfl rfl
theorem u_244 : ((Jvm.Cond.classLink "ViewBroadcast$World" (38 : Nat) "ViewBroadcast$Letter")) ∈ pU := pU_of (i := 279) rfl rfl
theorem u_246 : ((Jvm.Cond.fieldLink "ViewBroadcast$World" (62 : Nat) "ViewBroadcast$World" "coins" "LViewBroadcast$Coins;")) ∈ pU := pU_of (i := 281) rfl rfl
theorem u_247 : ((Jvm.Cond.fieldLink "ViewBroadcast$World" (12 : Nat) "ViewBroadcast$World" "sizes" "LViewBroadcast$Sizes;")) ∈ pU := pU_of (i := 282) rfl rfl
theorem u_248 : ((Jvm.Cond.fieldLink "ViewBroadcast$Views" (27 : Nat) "ViewBroadcast$World" "sizes" "LViewBroadcast$Sizes;")) ∈ pU := pU_of (i := 283) rfl rfl
theorem u_249 : ((Jvm.Cond.fieldLink "ViewBroadcast" (53 : Nat) "ViewBroadcast$World" "sizes" "LViewBroadcast$Sizes;")) ∈ pU := pU_of (i := 284) rfl rfl
theorem u_250 : ((Jvm.Cond.fieldLink "ViewBroadcast$Tales" (81 : Nat) "ViewBroadcast$World" "sizes" "LViewBroadcast$Sizes;")) ∈ pU := pU_of (i := 285) rfl rfl
theorem u_251 : ((Jvm.Cond.fieldLink "ViewBroadcast$World" (20 : Nat) "ViewBroadcast$World" "nodes" "[LViewBroadcast$Node;")) ∈ pU := pU_of (i := 286) rfl rfl
theorem u_252 : ((Jvm.Cond.fieldLink "ViewBroadcast$World" (27 : Nat) "ViewBroadcast$World" "nobody" "LViewBroadcast$Node;")) ∈ pU := pU_of (i := 287) rfl rfl
theorem u_253 : ((Jvm.Cond.fieldLink "ViewBroadcast$World" (34 : Nat) "ViewBroadcast$World" "row" "LViewBroadcast$Row;")) ∈ pU := pU_of (i := 288) rfl rfl
theorem u_254 : ((Jvm.Cond.fieldLink "ViewBroadcast" (102 : Nat) "ViewBroadcast$World" "row" "LViewBroadcast$Row;")) ∈ pU := pU_of (i := 289) rfl rfl
theorem u_255 : ((Jvm.Cond.fieldLink "ViewBroadcast$World" (41 : Nat) "ViewBroadcast$World" "coming" "LViewBroadcast$Letter;")) ∈ pU := pU_of (i := 290) rfl rfl
theorem u_256 : ((Jvm.Cond.fieldLink "ViewBroadcast$World" (45 : Nat) "ViewBroadcast$World" "arrivals" "[I")) ∈ pU := pU_of (i := 291) rfl rfl
theorem u_257 : ((Jvm.Cond.fieldLink "ViewBroadcast" (216 : Nat) "ViewBroadcast$World" "arrivals" "[I")) ∈ pU := pU_of (i := 292) rfl rfl
theorem u_258 : ((Jvm.Cond.fieldLink "ViewBroadcast$World" (49 : Nat) "ViewBroadcast$World" "nodeCount" "I")) ∈ pU := pU_of (i := 293) rfl rfl
theorem u_259 : ((Jvm.Cond.fieldLink "ViewBroadcast" (49 : Nat) "ViewBroadcast$World" "nodeCount" "I")) ∈ pU := pU_of (i := 294) rfl rfl
theorem u_260 : ((Jvm.Cond.fieldLink "ViewBroadcast$Tales" (102 : Nat) "ViewBroadcast$World" "nodeCount" "I")) ∈ pU := pU_of (i := 295) rfl rfl
theorem u_261 : ((Jvm.Cond.fieldLink "ViewBroadcast$World" (53 : Nat) "ViewBroadcast$World" "taleCount" "I")) ∈ pU := pU_of (i := 296) rfl rfl
theorem u_262 : ((Jvm.Cond.fieldLink "ViewBroadcast$Tales" (116 : Nat) "ViewBroadcast$World" "taleCount" "I")) ∈ pU := pU_of (i := 297) rfl rfl
theorem u_263 : ((Jvm.Cond.fieldLink "ViewBroadcast" (120 : Nat) "ViewBroadcast$World" "taleCount" "I")) ∈ pU := pU_of (i := 298) rfl rfl
theorem u_264 : ((Jvm.Cond.fieldLink "ViewBroadcast$World" (56 : Nat) "ViewBroadcast$World" "time" "I")) ∈ pU := pU_of (i := 299) rfl rfl
theorem u_265 : ((Jvm.Cond.fieldLink "ViewBroadcast$Tales" (78 : Nat) "ViewBroadcast$World" "time" "I")) ∈ pU := pU_of (i := 300) rfl rfl
theorem u_266 : ((Jvm.Cond.fieldLink "ViewBroadcast" (229 : Nat) "ViewBroadcast$World" "time" "I")) ∈ pU := pU_of (i := 301) rfl rfl
theorem u_267 : ((Jvm.Cond.fieldLink "ViewBroadcast$World" (59 : Nat) "ViewBroadcast$World" "nextCoin" "I")) ∈ pU := pU_of (i := 302) rfl rfl
theorem u_268 : ((Jvm.Cond.fieldLink "ViewBroadcast" (232 : Nat) "ViewBroadcast$World" "nextCoin" "I")) ∈ pU := pU_of (i := 303) rfl rfl
theorem u_292 : ((Jvm.Cond.classLink "ViewBroadcast" (25 : Nat) "ViewBroadcast$Views")) ∈ pU := pU_of (i := 327) rfl rfl
theorem u_293 : ((Jvm.Cond.instantiable "ViewBroadcast$Views" (4 : Nat))) ∈ pU := pU_of (i := 328) rfl rfl
theorem u_294 : ((Jvm.Cond.methodLink "ViewBroadcast" (27 : Nat) ({ cls := "ViewBroadcast$Views", name := "<init>", desc := "(LViewBroadcast$World;)V" } : Jvm.MethodName))) ∈ pU := pU_of (i := 329) rfl rfl
theorem u_295 : ((Jvm.Cond.instanceMethod ({ cls := "ViewBroadcast$Views", name := "<init>", desc := "(LViewBroadcast$World;)V" } : Jvm.MethodName))) ∈ pU := pU_of (i := 330) rfl rfl
theorem u_296 : ((Jvm.Cond.code ({ cls := "ViewBroadcast$Views", name := "<init>", desc := "(LViewBroadcast$World;)V" } : Jvm.MethodName) prog_10_method_1_code (2 : Nat) (Option.none : Option Jvm.ClassFile.FieldType))) ∈ pU := pU_of (i := 331) rfl rfl
theorem u_297 : ((Jvm.Cond.methodLink "ViewBroadcast$Views" (3 : Nat) ({ cls := "java/lang/Object", name := "<init>", desc := "()V" } : Jvm.MethodName))) ∈ pU := pU_of (i := 332) rfl rfl
theorem u_298 : ((Jvm.Cond.classLink "ViewBroadcast$Views" (9 : Nat) "ViewBroadcast$NodeList")) ∈ pU := pU_of (i := 333) rfl rfl
theorem u_299 : ((Jvm.Cond.methodLink "ViewBroadcast$Views" (11 : Nat) ({ cls := "ViewBroadcast$NodeList", name := "<init>", desc := "(I)V" } : Jvm.MethodName))) ∈ pU := pU_of (i := 334) rfl rfl
theorem u_300 : ((Jvm.Cond.fieldLink "ViewBroadcast$Views" (23 : Nat) "ViewBroadcast$Views" "world" "LViewBroadcast$World;")) ∈ pU := pU_of (i := 335) rfl rfl
theorem u_301 : ((Jvm.Cond.fieldLink "ViewBroadcast$Views" (33 : Nat) "ViewBroadcast$Views" "sizes" "LViewBroadcast$Sizes;")) ∈ pU := pU_of (i := 336) rfl rfl
theorem u_302 : ((Jvm.Cond.fieldLink "ViewBroadcast$Views" (14 : Nat) "ViewBroadcast$Views" "pool" "LViewBroadcast$NodeList;")) ∈ pU := pU_of (i := 337) rfl rfl
theorem u_303 : ((Jvm.Cond.fieldLink "ViewBroadcast$Views" (20 : Nat) "ViewBroadcast$Views" "listed" "LViewBroadcast$NodeList;")) ∈ pU := pU_of (i := 338) rfl rfl
theorem u_313 : ((Jvm.Cond.classLink "ViewBroadcast" (34 : Nat) "ViewBroadcast$Tales")) ∈ pU := pU_of (i := 348) rfl rfl
theorem u_314 : ((Jvm.Cond.instantiable "ViewBroadcast$Tales" (1 : Nat))) ∈ pU := pU_of (i := 349) rfl rfl
theorem u_315 : ((Jvm.Cond.methodLink "ViewBroadcast" (36 : Nat) ({ cls := "ViewBroadcast$Tales", name := "<init>", desc := "(LViewBroadcast$World;)V" } : Jvm.MethodName))) ∈ pU := pU_of (i := 350) rfl rfl
theorem u_316 : ((Jvm.Cond.instanceMethod ({ cls := "ViewBroadcast$Tales", name := "<init>", desc := "(LViewBroadcast$World;)V" } : Jvm.MethodName))) ∈ pU := pU_of (i := 351) rfl rfl
theorem u_317 : ((Jvm.Cond.code ({ cls := "ViewBroadcast$Tales", name := "<init>", desc := "(LViewBroadcast$World;)V" } : Jvm.MethodName) prog_9_method_1_code (2 : Nat) (Option.none : Option Jvm.ClassFile.FieldType))) ∈ pU := pU_of (i := 352) rfl rfl
theorem u_318 : ((Jvm.Cond.methodLink "ViewBroadcast$Tales" (3 : Nat) ({ cls := "java/lang/Object", name := "<init>", desc := "()V" } : Jvm.MethodName))) ∈ pU := pU_of (i := 353) rfl rfl
theorem u_319 : ((Jvm.Cond.fieldLink "ViewBroadcast$Tales" (9 : Nat) "ViewBroadcast$Tales" "world" "LViewBroadcast$World;")) ∈ pU := pU_of (i := 354) rfl rfl
theorem u_324 : ((Jvm.Cond.fieldLink "ViewBroadcast" (10 : Nat) "ViewBroadcast" "coins" "LViewBroadcast$Coins;")) ∈ pU := pU_of (i := 359) rfl rfl
theorem u_325 : ((Jvm.Cond.fieldLink "ViewBroadcast" (21 : Nat) "ViewBroadcast" "world" "LViewBroadcast$World;")) ∈ pU := pU_of (i := 360) rfl rfl
theorem u_326 : ((Jvm.Cond.fieldLink "ViewBroadcast" (30 : Nat) "ViewBroadcast" "views" "LViewBroadcast$Views;")) ∈ pU := pU_of (i := 361) rfl rfl
theorem u_327 : ((Jvm.Cond.fieldLink "ViewBroadcast" (37 : Nat) "ViewBroadcast" "tales" "LViewBroadcast$Tales;")) ∈ pU := pU_of (i := 362) rfl rfl
theorem u_328 : ((Jvm.Cond.fieldLink "ViewBroadcast" (41 : Nat) "ViewBroadcast" "kept" "[LViewBroadcast$World;")) ∈ pU := pU_of (i := 363) rfl rfl
theorem u_329 : ((Jvm.Cond.fieldLink "ViewBroadcast" (45 : Nat) "ViewBroadcast" "isKept" "[Z")) ∈ pU := pU_of (i := 364) rfl rfl
theorem u_343 : ((Jvm.Cond.arrayClass Jvm.ClassFile.FieldType.boolean)) ∈ pU := pU_of (i := 378) rfl rfl
theorem u_344 : ((Jvm.Cond.methodLink "ViewBroadcastLaw" (13 : Nat) ({ cls := "ViewBroadcast", name := "sizes", desc := "(II)I" } : Jvm.MethodName))) ∈ pU := pU_of (i := 379) rfl rfl
theorem u_345 : ((Jvm.Cond.instanceMethod ({ cls := "ViewBroadcast", name := "sizes", desc := "(II)I" } : Jvm.MethodName))) ∈ pU := pU_of (i := 380) rfl rfl
theorem u_346 : ((Jvm.Cond.selects "ViewBroadcast" ({ cls := "ViewBroadcast", name := "sizes", desc := "(II)I" } : Jvm.MethodName) ({ cls := "ViewBroadcast", name := "sizes", desc := "(II)I" } : Jvm.MethodName))) ∈ pU := pU_of (i := 381) rfl rfl
theorem u_347 : ((Jvm.Cond.code ({ cls := "ViewBroadcast", name := "sizes", desc := "(II)I" } : Jvm.MethodName) prog_1_method_2_code (3 : Nat) (Option.some Jvm.ClassFile.FieldType.int))) ∈ pU := pU_of (i := 382) rfl rfl
theorem u_348 : ((Jvm.Cond.methodLink "ViewBroadcastLaw" (18 : Nat) ({ cls := "ViewBroadcast", name := "walks", desc := "(III)I" } : Jvm.MethodName))) ∈ pU := pU_of (i := 383) rfl rfl
theorem u_349 : ((Jvm.Cond.instanceMethod ({ cls := "ViewBroadcast", name := "walks", desc := "(III)I" } : Jvm.MethodName))) ∈ pU := pU_of (i := 384) rfl rfl
theorem u_350 : ((Jvm.Cond.selects "ViewBroadcast" ({ cls := "ViewBroadcast", name := "walks", desc := "(III)I" } : Jvm.MethodName) ({ cls := "ViewBroadcast", name := "walks", desc := "(III)I" } : Jvm.MethodName))) ∈ pU := pU_of (i := 385) rfl rfl
theorem u_351 : ((Jvm.Cond.code ({ cls := "ViewBroadcast", name := "walks", desc := "(III)I" } : Jvm.MethodName) prog_1_method_3_code (4 : Nat) (Option.some Jvm.ClassFile.FieldType.int))) ∈ pU := pU_of (i := 386) rfl rfl
theorem u_352 : ((Jvm.Cond.methodLink "ViewBroadcastLaw" (23 : Nat) ({ cls := "ViewBroadcast", name := "coin", desc := "(I)I" } : Jvm.MethodName))) ∈ pU := pU_of (i := 387) rfl rfl
theorem u_353 : ((Jvm.Cond.instanceMethod ({ cls := "ViewBroadcast", name := "coin", desc := "(I)I" } : Jvm.MethodName))) ∈ pU := pU_of (i := 388) rfl rfl
theorem u_354 : ((Jvm.Cond.selects "ViewBroadcast" ({ cls := "ViewBroadcast", name := "coin", desc := "(I)I" } : Jvm.MethodName) ({ cls := "ViewBroadcast", name := "coin", desc := "(I)I" } : Jvm.MethodName))) ∈ pU := pU_of (i := 389) rfl rfl
theorem u_355 : ((Jvm.Cond.code ({ cls := "ViewBroadcast", name := "coin", desc := "(I)I" } : Jvm.MethodName) prog_1_method_4_code (2 : Nat) (Option.some Jvm.ClassFile.FieldType.int))) ∈ pU := pU_of (i := 390) rfl rfl
theorem u_356 : ((Jvm.Cond.methodLink "ViewBroadcast" (74 : Nat) ({ cls := "ViewBroadcast$Coins", name := "put", desc := "(I)Z" } : Jvm.MethodName))) ∈ pU := pU_of (i := 391) rfl rfl
theorem u_357 : ((Jvm.Cond.instanceMethod ({ cls := "ViewBroadcast$Coins", name := "put", desc := "(I)Z" } : Jvm.MethodName))) ∈ pU := pU_of (i := 392) rfl rfl
theorem u_358 : ((Jvm.Cond.selects "ViewBroadcast$Coins" ({ cls := "ViewBroadcast$Coins", name := "put", desc := "(I)Z" } : Jvm.MethodName) ({ cls := "ViewBroadcast$Coins", name := "put", desc := "(I)Z" } : Jvm.MethodName))) ∈ pU := pU_of (i := 393) rfl rfl
theorem u_359 : ((Jvm.Cond.code ({ cls := "ViewBroadcast$Coins", name := "put", desc := "(I)Z" } : Jvm.MethodName) prog_2_method_2_code (2 : Nat) (Option.some Jvm.ClassFile.FieldType.boolean))) ∈ pU := pU_of (i := 394) rfl rfl
theorem u_360 : ((Jvm.Cond.methodLink "ViewBroadcastLaw" (28 : Nat) ({ cls := "ViewBroadcast", name := "node", desc := "()I" } : Jvm.MethodName))) ∈ pU := pU_of (i := 395) rfl rfl
theorem u_361 : ((Jvm.Cond.instanceMethod ({ cls := "ViewBroadcast", name := "node", desc := "()I" } : Jvm.MethodName))) ∈ pU := pU_of (i := 396) rfl rfl
theorem u_362 : ((Jvm.Cond.selects "ViewBroadcast" ({ cls := "ViewBroadcast", name := "node", desc := "()I" } : Jvm.MethodName) ({ cls := "ViewBroadcast", name := "node", desc := "()I" } : Jvm.MethodName))) ∈ pU := pU_of (i := 397) rfl rfl
theorem u_363 : ((Jvm.Cond.code ({ cls := "ViewBroadcast", name := "node", desc := "()I" } : Jvm.MethodName) prog_1_method_5_code (1 : Nat) (Option.some Jvm.ClassFile.FieldType.int))) ∈ pU := pU_of (i := 398) rfl rfl
theorem u_364 : ((Jvm.Cond.methodLink "ViewBroadcast" (81 : Nat) ({ cls := "ViewBroadcast$World", name := "openNode", desc := "()I" } : Jvm.MethodName))) ∈ pU := pU_of (i := 399) rfl rfl
theorem u_365 : ((Jvm.Cond.instanceMethod ({ cls := "ViewBroadcast$World", name := "openNode", desc := "()I" } : Jvm.MethodName))) ∈ pU := pU_of (i := 400) rfl rfl
set_option maxRecDepth 20000 in
theorem u_366 : ((Jvm.Cond.selects "ViewBroadcast$World" ({ cls := "ViewBroadcast$World", name := "openNode", desc := "()I" } : Jvm.MethodName) ({ cls := "ViewBroadcast$World", name := "openNode", desc := "()I" } : Jvm.MethodName))) ∈ pU := pU_of (i := 401) rfl rfl
set_option maxRecDepth 20000 in
theorem u_367 : ((Jvm.Cond.code ({ cls := "ViewBroadcast$World", name := "openNode", desc := "()I" } : Jvm.MethodName) prog_11_method_5_code (1 : Nat) (Option.some Jvm.ClassFile.FieldType.int))) ∈ pU := pU_of (i := 402) rfl rfl
set_option maxRecDepth 20000 in
theorem u_368 : ((Jvm.Cond.methodLink "ViewBroadcast$World" (70 : Nat) ({ cls := "ViewBroadcast$Node", name := "begin", desc := "()V" } : Jvm.MethodName))) ∈ pU := pU_of (i := 403) rfl rfl
set_option maxRecDepth 20000 in
theorem u_369 : ((Jvm.Cond.instanceMethod ({ cls := "ViewBroadcast$Node", name := "begin", desc := "()V" } : Jvm.MethodName))) ∈ pU := pU_of (i := 404) rfl rfl
set_option maxRecDepth 20000 in
theorem u_370 : ((Jvm.Cond.selects "ViewBroadcast$Node" ({ cls := "ViewBroadcast$Node", name := "begin", desc := "()V" } : Jvm.MethodName) ({ cls := "ViewBroadcast$Node", name := "begin", desc := "()V" } : Jvm.MethodName))) ∈ pU := pU_of (i := 405) rfl rfl
set_option maxRecDepth 20000 in
theorem u_371 : ((Jvm.Cond.code ({ cls := "ViewBroadcast$Node", name := "begin", desc := "()V" } : Jvm.MethodName) prog_5_method_2_code (2 : Nat) (Option.none : Option Jvm.ClassFile.FieldType))) ∈ pU := pU_of (i := 406) rfl rfl
set_option maxRecDepth 20000 in
theorem u_372 : ((Jvm.Cond.methodLink "ViewBroadcast$Node" (54 : Nat) ({ cls := "ViewBroadcast$NodeList", name := "clear", desc := "()V" } : Jvm.MethodName))) ∈ pU := pU_of (i := 407) rfl rfl
set_option maxRecDepth 20000 in
theorem u_373 : ((Jvm.Cond.instanceMethod ({ cls := "ViewBroadcast$NodeList", name := "clear", desc := "()V" } : Jvm.MethodName))) ∈ pU := pU_of (i := 408) rfl rfl
set_option maxRecDepth 20000 in
theorem u_374 : ((Jvm.Cond.selects "ViewBroadcast$NodeList" ({ cls := "ViewBroadcast$NodeList", name := "clear", desc := "()V" } : Jvm.MethodName) ({ cls := "ViewBroadcast$NodeList", name := "clear", desc := "()V" } : Jvm.MethodName))) ∈ pU := pU_of (i := 409) rfl rfl
set_option maxRecDepth 20000 in
theorem u_375 : ((Jvm.Cond.code ({ cls := "ViewBroadcast$NodeList", name := "clear", desc := "()V" } : Jvm.MethodName) prog_6_method_8_code (1 : Nat) (Option.none : Option Jvm.ClassFile.FieldType))) ∈ pU := pU_of (i := 410) rfl rfl
set_option maxRecDepth 20000 in
theorem u_376 : ((Jvm.Cond.methodLink "ViewBroadcast$Node" (57 : Nat) ({ cls := "ViewBroadcast$Miss", name := "end", desc := "()V" } : Jvm.MethodName))) ∈ pU := pU_of (i := 411) rfl rfl
set_option maxRecDepth 20000 in
theorem u_377 : ((Jvm.Cond.instanceMethod ({ cls := "ViewBroadcast$Miss", name := "end", desc := "()V" } : Jvm.MethodName))) ∈ pU := pU_of (i := 412) rfl rfl
set_option maxRecDepth 20000 in
theorem u_378 : ((Jvm.Cond.selects "ViewBroadcast$Miss" ({ cls := "ViewBroadcast$Miss", name := "end", desc := "()V" } : Jvm.MethodName) ({ cls := "ViewBroadcast$Miss", name := "end", desc := "()V" } : Jvm.MethodName))) ∈ pU := pU_of (i := 413) rfl rfl
set_option maxRecDepth 20000 in
theorem u_379 : ((Jvm.Cond.code ({ cls := "ViewBroadcast$Miss", name := "end", desc := "()V" } : Jvm.MethodName) prog_4_method_2_code (1 : Nat) (Option.none : Option Jvm.ClassFile.FieldType))) ∈ pU := pU_of (i := 414) rfl rfl
set_option maxRecDepth 20000 in
theorem u_380 : ((Jvm.Cond.methodLink "ViewBroadcast$Miss" (28 : Nat) ({ cls := "ViewBroadcast$NodeList", name := "clear", desc := "()V" } : Jvm.MethodName))) ∈ pU := pU_of (i := 415) rfl rfl
set_option maxRecDepth 20000 in
theorem u_381 : ((Jvm.Cond.methodLink "ViewBroadcastLaw" (33 : Nat) ({ cls := "ViewBroadcast", name := "join", desc := "(II)I" } : Jvm.MethodName))) ∈ pU := pU_of (i := 416) rfl rfl
set_option maxRecDepth 20000 in
theorem u_382 : ((Jvm.Cond.instanceMethod ({ cls := "ViewBroadcast", name := "join", desc := "(II)I" } : Jvm.MethodName))) ∈ pU := pU_of (i := 417) rfl rfl
set_option maxRecDepth 20000 in
theorem u_383 : ((Jvm.Cond.selects "ViewBroadcast" ({ cls := "ViewBroadcast", name := "join", desc := "(II)I" } : Jvm.MethodName) ({ cls := "ViewBroadcast", name := "join", desc := "(II)I" } : Jvm.MethodName))) ∈ pU := pU_of (i := 418) rfl rfl
set_option maxRecDepth 20000 in
theorem u_384 : ((Jvm.Cond.code ({ cls := "ViewBroadcast", name := "join", desc := "(II)I" } : Jvm.MethodName) prog_1_method_6_code (3 : Nat) (Option.some Jvm.ClassFile.FieldType.int))) ∈ pU := pU_of (i := 419) rfl rfl
set_option maxRecDepth 20000 in
theorem u_385 : ((Jvm.Cond.methodLink "ViewBroadcast" (85 : Nat) ({ cls := "ViewBroadcast$World", name := "isNode", desc := "(I)Z" } : Jvm.MethodName))) ∈ pU := pU_of (i := 420) rfl rfl
set_option maxRecDepth 20000 in
theorem u_386 : ((Jvm.Cond.instanceMethod ({ cls := "ViewBroadcast$World", name := "isNode", desc := "(I)Z" } : Jvm.MethodName))) ∈ pU := pU_of (i := 421) rfl rfl
set_option maxRecDepth 20000 in
theorem u_387 : ((Jvm.Cond.selects "ViewBroadcast$World" ({ cls := "ViewBroadcast$World", name := "isNode", desc := "(I)Z" } : Jvm.MethodName) ({ cls := "ViewBroadcast$World", name := "isNode", desc := "(I)Z" } : Jvm.MethodName))) ∈ pU := pU_of (i := 422) rfl rfl
set_option maxRecDepth 20000 in
theorem u_388 : ((Jvm.Cond.code ({ cls := "ViewBroadcast$World", name := "isNode", desc := "(I)Z" } : Jvm.MethodName) prog_11_method_2_code (2 : Nat) (Option.some Jvm.ClassFile.FieldType.boolean))) ∈ pU := pU_of (i := 423) rfl rfl
set_option maxRecDepth 20000 in
theorem u_389 : ((Jvm.Cond.methodLink "ViewBroadcast" (88 : Nat) ({ cls := "ViewBroadcast$World", name := "nodeAt", desc := "(I)LViewBroadcast$Node;" } : Jvm.MethodName))) ∈ pU := pU_of (i := 424) rfl rfl
set_option maxRecDepth 20000 in
theorem u_390 : ((Jvm.Cond.instanceMethod ({ cls := "ViewBroadcast$World", name := "nodeAt", desc := "(I)LViewBroadcast$Node;" } : Jvm.MethodName))) ∈ pU := pU_of (i := 425) rfl rfl
set_option maxRecDepth 20000 in
theorem u_391 : ((Jvm.Cond.selects "ViewBroadcast$World" ({ cls := "ViewBroadcast$World", name := "nodeAt", desc := "(I)LViewBroadcast$Node;" } : Jvm.MethodName) ({ cls := "ViewBroadcast$World", name := "nodeAt", desc := "(I)LViewBroadcast$Node;" } : Jvm.MethodName))) ∈ pU := pU_of (i := 426) rfl rfl
set_option maxRecDepth 20000 in
theorem u_392 : ((Jvm.Cond.code ({ cls := "ViewBroadcast$World", name := "nodeAt", desc := "(I)LViewBroadcast$Node;" } : Jvm.MethodName) prog_11_method_4_code (2 : Nat) (Option.some (Jvm.ClassFile.FieldType.object "ViewBroadcast$Node")))) ∈ pU := pU_of (i := 427) rfl rfl
set_option maxRecDepth 20000 in
theorem u_393 : ((Jvm.Cond.methodLink "ViewBroadcast$World" (66 : Nat) ({ cls := "ViewBroadcast$World", name := "isNode", desc := "(I)Z" } : Jvm.MethodName))) ∈ pU := pU_of (i := 428) rfl rfl
set_option maxRecDepth 20000 in
theorem u_394 : ((Jvm.Cond.methodLink "ViewBroadcast" (98 : Nat) ({ cls := "ViewBroadcast$World", name := "send", desc := "(IIIII)LViewBroadcast$Letter;" } : Jvm.MethodName))) ∈ pU := pU_of (i := 429) rfl rfl
set_option maxRecDepth 20000 in
theorem u_395 : ((Jvm.Cond.instanceMethod ({ cls := "ViewBroadcast$World", name := "send", desc := "(IIIII)LViewBroadcast$Letter;" } : Jvm.MethodName))) ∈ pU := pU_of (i := 430) rfl rfl
set_option maxRecDepth 20000 in
theorem u_396 : ((Jvm.Cond.selects "ViewBroadcast$World" ({ cls := "ViewBroadcast$World", name := "send", desc := "(IIIII)LViewBroadcast$Letter;" } : Jvm.MethodName) ({ cls := "ViewBroadcast$World", name := "send", desc := "(IIIII)LViewBroadcast$Letter;" } : Jvm.MethodName))) ∈ pU := pU_of (i := 431) rfl rfl
set_option maxRecDepth 20000 in
theorem u_397 : ((Jvm.Cond.code ({ cls := "ViewBroadcast$World", name := "send", desc := "(IIIII)LViewBroadcast$Letter;" } : Jvm.MethodName) prog_11_method_7_code (7 : Nat) (Option.some (Jvm.ClassFile.FieldType.object "ViewBroadcast$Letter")))) ∈ pU := pU_of (i := 432) rfl rfl
set_option maxRecDepth 20000 in
theorem u_398 : ((Jvm.Cond.methodLink "ViewBroadcast$World" (85 : Nat) ({ cls := "ViewBroadcast$Row", name := "open", desc := "()LViewBroadcast$Letter;" } : Jvm.MethodName))) ∈ pU := pU_of (i := 433) rfl rfl
set_option maxRecDepth 20000 in
theorem u_399 : ((Jvm.Cond.instanceMethod ({ cls := "ViewBroadcast$Row", name := "open", desc := "()LViewBroadcast$Letter;" } : Jvm.MethodName))) ∈ pU := pU_of (i := 434) rfl rfl
set_option maxRecDepth 20000 in
theorem u_400 : ((Jvm.Cond.selects "ViewBroadcast$Row" ({ cls := "ViewBroadcast$Row", name := "open", desc := "()LViewBroadcast$Letter;" } : Jvm.MethodName) ({ cls := "ViewBroadcast$Row", name := "open", desc := "()LViewBroadcast$Letter;" } : Jvm.MethodName))) ∈ pU := pU_of (i := 435) rfl rfl
set_option maxRecDepth 20000 in
theorem u_401 : ((Jvm.Cond.code ({ cls := "ViewBroadcast$Row", name := "open", desc := "()LViewBroadcast$Letter;" } : Jvm.MethodName) prog_7_method_5_code (1 : Nat) (Option.some (Jvm.ClassFile.FieldType.object "ViewBroadcast$Letter")))) ∈ pU := pU_of (i := 436) rfl rfl
set_option maxRecDepth 20000 in
theorem u_402 : ((Jvm.Cond.methodLink "ViewBroadcast$Row" (28 : Nat) ({ cls := "ViewBroadcast$Row", name := "place", desc := "(I)I" } : Jvm.MethodName))) ∈ pU := pU_of (i := 437) rfl rfl
set_option maxRecDepth 20000 in
theorem u_403 : ((Jvm.Cond.instanceMethod ({ cls := "ViewBroadcast$Row", name := "place", desc := "(I)I" } : Jvm.MethodName))) ∈ pU := pU_of (i := 438) rfl rfl
set_option maxRecDepth 20000 in
theorem u_404 : ((Jvm.Cond.selects "ViewBroadcast$Row" ({ cls := "ViewBroadcast$Row", name := "place", desc := "(I)I" } : Jvm.MethodName) ({ cls := "ViewBroadcast$Row", name := "place", desc := "(I)I" } : Jvm.MethodName))) ∈ pU := pU_of (i := 439) rfl rfl
set_option maxRecDepth 20000 in
theorem u_405 : ((Jvm.Cond.code ({ cls := "ViewBroadcast$Row", name := "place", desc := "(I)I" } : Jvm.MethodName) prog_7_method_2_code (2 : Nat) (Option.some Jvm.ClassFile.FieldType.int))) ∈ pU := pU_of (i := 440) rfl rfl
set_option maxRecDepth 20000 in
theorem u_406 : ((Jvm.Cond.methodLink "ViewBroadcast$World" (89 : Nat) ({ cls := "ViewBroadcast$World", name := "nodeAt", desc := "(I)LViewBroadcast$Node;" } : Jvm.MethodName))) ∈ pU := pU_of (i := 441) rfl rfl
set_option maxRecDepth 20000 in
theorem u_407 : ((Jvm.Cond.methodLink "ViewBroadcast$World" (97 : Nat) ({ cls := "ViewBroadcast$Letter", name := "write", desc := "(IIIII)V" } : Jvm.MethodName))) ∈ pU := pU_of (i := 442) rfl rfl
set_option maxRecDepth 20000 in
theorem u_408 : ((Jvm.Cond.instanceMethod ({ cls := "ViewBroadcast$Letter", name := "write", desc := "(IIIII)V" } : Jvm.MethodName))) ∈ pU := pU_of (i := 443) rfl rfl
set_option maxRecDepth 20000 in
theorem u_409 : ((Jvm.Cond.selects "ViewBroadcast$Letter" ({ cls := "ViewBroadcast$Letter", name := "write", desc := "(IIIII)V" } : Jvm.MethodName) ({ cls := "ViewBroadcast$Letter", name := "write", desc := "(IIIII)V" } : Jvm.MethodName))) ∈ pU := pU_of (i := 444) rfl rfl
set_option maxRecDepth 20000 in
theorem u_410 : ((Jvm.Cond.code ({ cls := "ViewBroadcast$Letter", name := "write", desc := "(IIIII)V" } : Jvm.MethodName) prog_3_method_2_code (6 : Nat) (Option.none : Option Jvm.ClassFile.FieldType))) ∈ pU := pU_of (i := 445) rfl rfl
set_option maxRecDepth 20000 in
theorem u_411 : ((Jvm.Cond.methodLink "ViewBroadcast$Letter" (36 : Nat) ({ cls := "ViewBroadcast$NodeList", name := "clear", desc := "()V" } : Jvm.MethodName))) ∈ pU := pU_of (i := 446) rfl rfl
set_option maxRecDepth 20000 in
theorem u_412 : ((Jvm.Cond.methodLink "ViewBroadcastLaw" (37 : Nat) ({ cls := "ViewBroadcast", name := "stop", desc := "(I)I" } : Jvm.MethodName))) ∈ pU := pU_of (i := 447) rfl rfl
set_option maxRecDepth 20000 in
theorem u_413 : ((Jvm.Cond.instanceMethod ({ cls := "ViewBroadcast", name := "stop", desc := "(I)I" } : Jvm.MethodName))) ∈ pU := pU_of (i := 448) rfl rfl
set_option maxRecDepth 20000 in
theorem u_414 : ((Jvm.Cond.selects "ViewBroadcast" ({ cls := "ViewBroadcast", name := "stop", desc := "(I)I" } : Jvm.MethodName) ({ cls := "ViewBroadcast", name := "stop", desc := "(I)I" } : Jvm.MethodName))) ∈ pU := pU_of (i := 449) rfl rfl
set_option maxRecDepth 20000 in
theorem u_415 : ((Jvm.Cond.code ({ cls := "ViewBroadcast", name := "stop", desc := "(I)I" } : Jvm.MethodName) prog_1_method_7_code (3 : Nat) (Option.some Jvm.ClassFile.FieldType.int))) ∈ pU := pU_of (i := 450) rfl rfl
set_option maxRecDepth 20000 in
theorem u_416 : ((Jvm.Cond.methodLink "ViewBroadcast" (109 : Nat) ({ cls := "ViewBroadcast", name := "refusedActor", desc := "(I)I" } : Jvm.MethodName))) ∈ pU := pU_of (i := 451) rfl rfl
set_option maxRecDepth 20000 in
theorem u_418 : ((Jvm.Cond.instanceMethod ({ cls := "ViewBroadcast", name := "refusedActor", desc := "(I)I" } : Jvm.MethodName))) ∈ pU := pU_of (i := 453) rfl rfl
set_option maxRecDepth 20000 in
theorem u_419 : ((Jvm.Cond.code ({ cls := "ViewBroadcast", name := "refusedActor", desc := "(I)I" } : Jvm.MethodName) prog_1_method_28_code (2 : Nat) (Option.some Jvm.ClassFile.FieldType.int))) ∈ pU := pU_of (i := 454) rfl rfl
set_option maxRecDepth 20000 in
theorem u_420 : ((Jvm.Cond.methodLink "ViewBroadcast" (113 : Nat) ({ cls := "ViewBroadcast$World", name := "halt", desc := "(LViewBroadcast$Node;)I" } : Jvm.MethodName))) ∈ pU := pU_of (i := 455) rfl rfl
set_option maxRecDepth 20000 in
theorem u_421 : ((Jvm.Cond.instanceMethod ({ cls := "ViewBroadcast$World", name := "halt", desc := "(LViewBroadcast$Node;)I" } : Jvm.MethodName))) ∈ pU := pU_of (i := 456) rfl rfl
set_option maxRecDepth 20000 in
theorem u_422 : ((Jvm.Cond.selects "ViewBroadcast$World" ({ cls := "ViewBroadcast$World", name := "halt", desc := "(LViewBroadcast$Node;)I" } : Jvm.MethodName) ({ cls := "ViewBroadcast$World", name := "halt", desc := "(LViewBroadcast$Node;)I" } : Jvm.MethodName))) ∈ pU := pU_of (i := 457) rfl rfl
set_option maxRecDepth 20000 in
theorem u_423 : ((Jvm.Cond.code ({ cls := "ViewBroadcast$World", name := "halt", desc := "(LViewBroadcast$Node;)I" } : Jvm.MethodName) prog_11_method_10_code (4 : Nat) (Option.some Jvm.ClassFile.FieldType.int))) ∈ pU := pU_of (i := 458) rfl rfl
set_option maxRecDepth 20000 in
theorem u_424 : ((Jvm.Cond.methodLink "ViewBroadcast$World" (136 : Nat) ({ cls := "ViewBroadcast$Row", name := "removeTo", desc := "(I)I" } : Jvm.MethodName))) ∈ pU := pU_of (i := 459) rfl rfl
set_option maxRecDepth 20000 in
theorem u_425 : ((Jvm.Cond.instanceMethod ({ cls := "ViewBroadcast$Row", name := "removeTo", desc := "(I)I" } : Jvm.MethodName))) ∈ pU := pU_of (i := 460) rfl rfl
set_option maxRecDepth 20000 in
theorem u_426 : ((Jvm.Cond.selects "ViewBroadcast$Row" ({ cls := "ViewBroadcast$Row", name := "removeTo", desc := "(I)I" } : Jvm.MethodName) ({ cls := "ViewBroadcast$Row", name := "removeTo", desc := "(I)I" } : Jvm.MethodName))) ∈ pU := pU_of (i := 461) rfl rfl
set_option maxRecDepth 20000 in
theorem u_427 : ((Jvm.Cond.code ({ cls := "ViewBroadcast$Row", name := "removeTo", desc := "(I)I" } : Jvm.MethodName) prog_7_method_7_code (5 : Nat) (Option.some Jvm.ClassFile.FieldType.int))) ∈ pU := pU_of (i := 462) rfl rfl
set_option maxRecDepth 20000 in
theorem u_428 : ((Jvm.Cond.methodLink "ViewBroadcast$Row" (36 : Nat) ({ cls := "ViewBroadcast$Row", name := "at", desc := "(I)LViewBroadcast$Letter;" } : Jvm.MethodName))) ∈ pU := pU_of (i := 463) rfl rfl
set_option maxRecDepth 20000 in
theorem u_429 : ((Jvm.Cond.instanceMethod ({ cls := "ViewBroadcast$Row", name := "at", desc := "(I)LViewBroadcast$Letter;" } : Jvm.MethodName))) ∈ pU := pU_of (i := 464) rfl rfl
set_option maxRecDepth 20000 in
theorem u_430 : ((Jvm.Cond.selects "ViewBroadcast$Row" ({ cls := "ViewBroadcast$Row", name := "at", desc := "(I)LViewBroadcast$Letter;" } : Jvm.MethodName) ({ cls := "ViewBroadcast$Row", name := "at", desc := "(I)LViewBroadcast$Letter;" } : Jvm.MethodName))) ∈ pU := pU_of (i := 465) rfl rfl
set_option maxRecDepth 20000 in
theorem u_431 : ((Jvm.Cond.code ({ cls := "ViewBroadcast$Row", name := "at", desc := "(I)LViewBroadcast$Letter;" } : Jvm.MethodName) prog_7_method_4_code (2 : Nat) (Option.some (Jvm.ClassFile.FieldType.object "ViewBroadcast$Letter")))) ∈ pU := pU_of (i := 466) rfl rfl
set_option maxRecDepth 20000 in
theorem u_432 : ((Jvm.Cond.methodLink "ViewBroadcast$World" (139 : Nat) ({ cls := "ViewBroadcast$World", name := "mustLearnOfStop", desc := "(LViewBroadcast$Node;I)Z" } : Jvm.MethodName))) ∈ pU := pU_of (i := 467) rfl rfl
set_option maxRecDepth 20000 in
theorem u_433 : ((Jvm.Cond.instanceMethod ({ cls := "ViewBroadcast$World", name := "mustLearnOfStop", desc := "(LViewBroadcast$Node;I)Z" } : Jvm.MethodName))) ∈ pU := pU_of (i := 468) rfl rfl
set_option maxRecDepth 20000 in
theorem u_434 : ((Jvm.Cond.selects "ViewBroadcast$World" ({ cls := "ViewBroadcast$World", name := "mustLearnOfStop", desc := "(LViewBroadcast$Node;I)Z" } : Jvm.MethodName) ({ cls := "ViewBroadcast$World", name := "mustLearnOfStop", desc := "(LViewBroadcast$Node;I)Z" } : Jvm.MethodName))) ∈ pU := pU_of (i := 469) rfl rfl
set_option maxRecDepth 20000 in
theorem u_435 : ((Jvm.Cond.code ({ cls := "ViewBroadcast$World", name := "mustLearnOfStop", desc := "(LViewBroadcast$Node;I)Z" } : Jvm.MethodName) prog_11_method_11_code (3 : Nat) (Option.some Jvm.ClassFile.FieldType.boolean))) ∈ pU := pU_of (i := 470) rfl rfl
set_option maxRecDepth 20000 in
theorem u_436 : ((Jvm.Cond.methodLink "ViewBroadcast$World" (146 : Nat) ({ cls := "ViewBroadcast$NodeList", name := "has", desc := "(I)Z" } : Jvm.MethodName))) ∈ pU := pU_of (i := 471) rfl rfl
set_option maxRecDepth 20000 in
theorem u_437 : ((Jvm.Cond.instanceMethod ({ cls := "ViewBroadcast$NodeList", name := "has", desc := "(I)Z" } : Jvm.MethodName))) ∈ pU := pU_of (i := 472) rfl rfl
set_option maxRecDepth 20000 in
theorem u_438 : ((Jvm.Cond.selects "ViewBroadcast$NodeList" ({ cls := "ViewBroadcast$NodeList", name := "has", desc := "(I)Z" } : Jvm.MethodName) ({ cls := "ViewBroadcast$NodeList", name := "has", desc := "(I)Z" } : Jvm.MethodName))) ∈ pU := pU_of (i := 473) rfl rfl
set_option maxRecDepth 20000 in
theorem u_439 : ((Jvm.Cond.code ({ cls := "ViewBroadcast$NodeList", name := "has", desc := "(I)Z" } : Jvm.MethodName) prog_6_method_4_code (2 : Nat) (Option.some Jvm.ClassFile.FieldType.boolean))) ∈ pU := pU_of (i := 474) rfl rfl
set_option maxRecDepth 20000 in
theorem u_440 : ((Jvm.Cond.methodLink "ViewBroadcast$NodeList" (25 : Nat) ({ cls := "ViewBroadcast$NodeList", name := "placeOf", desc := "(I)I" } : Jvm.MethodName))) ∈ pU := pU_of (i := 475) rfl rfl
set_option maxRecDepth 20000 in
theorem u_441 : ((Jvm.Cond.instanceMethod ({ cls := "ViewBroadcast$NodeList", name := "placeOf", desc := "(I)I" } : Jvm.MethodName))) ∈ pU := pU_of (i := 476) rfl rfl
set_option maxRecDepth 20000 in
theorem u_442 : ((Jvm.Cond.selects "ViewBroadcast$NodeList" ({ cls := "ViewBroadcast$NodeList", name := "placeOf", desc := "(I)I" } : Jvm.MethodName) ({ cls := "ViewBroadcast$NodeList", name := "placeOf", desc := "(I)I" } : Jvm.MethodName))) ∈ pU := pU_of (i := 477) rfl rfl
set_option maxRecDepth 20000 in
theorem u_443 : ((Jvm.Cond.code ({ cls := "ViewBroadcast$NodeList", name := "placeOf", desc := "(I)I" } : Jvm.MethodName) prog_6_method_3_code (3 : Nat) (Option.some Jvm.ClassFile.FieldType.int))) ∈ pU := pU_of (i := 478) rfl rfl
set_option maxRecDepth 20000 in
theorem u_444 : ((Jvm.Cond.methodLink "ViewBroadcast$World" (153 : Nat) ({ cls := "ViewBroadcast$Row", name := "hasAhead", desc := "(III)Z" } : Jvm.MethodName))) ∈ pU := pU_of (i := 479) rfl rfl
set_option maxRecDepth 20000 in
theorem u_445 : ((Jvm.Cond.instanceMethod ({ cls := "ViewBroadcast$Row", name := "hasAhead", desc := "(III)Z" } : Jvm.MethodName))) ∈ pU := pU_of (i := 480) rfl rfl
set_option maxRecDepth 20000 in
theorem u_446 : ((Jvm.Cond.selects "ViewBroadcast$Row" ({ cls := "ViewBroadcast$Row", name := "hasAhead", desc := "(III)Z" } : Jvm.MethodName) ({ cls := "ViewBroadcast$Row", name := "hasAhead", desc := "(III)Z" } : Jvm.MethodName))) ∈ pU := pU_of (i := 481) rfl rfl
set_option maxRecDepth 20000 in
theorem u_447 : ((Jvm.Cond.code ({ cls := "ViewBroadcast$Row", name := "hasAhead", desc := "(III)Z" } : Jvm.MethodName) prog_7_method_9_code (6 : Nat) (Option.some Jvm.ClassFile.FieldType.boolean))) ∈ pU := pU_of (i := 482) rfl rfl
set_option maxRecDepth 20000 in
theorem u_448 : ((Jvm.Cond.methodLink "ViewBroadcast$World" (101 : Nat) ({ cls := "ViewBroadcast$World", name := "send", desc := "(IIIII)LViewBroadcast$Letter;" } : Jvm.MethodName))) ∈ pU := pU_of (i := 483) rfl rfl
set_option maxRecDepth 20000 in
theorem u_449 : ((Jvm.Cond.methodLink "ViewBroadcastLaw" (41 : Nat) ({ cls := "ViewBroadcast", name := "mix", desc := "(I)I" } : Jvm.MethodName))) ∈ pU := pU_of (i := 484) rfl rfl
set_option maxRecDepth 20000 in
theorem u_450 : ((Jvm.Cond.instanceMethod ({ cls := "ViewBroadcast", name := "mix", desc := "(I)I" } : Jvm.MethodName))) ∈ pU := pU_of (i := 485) rfl rfl
set_option maxRecDepth 20000 in
theorem u_451 : ((Jvm.Cond.selects "ViewBroadcast" ({ cls := "ViewBroadcast", name := "mix", desc := "(I)I" } : Jvm.MethodName) ({ cls := "ViewBroadcast", name := "mix", desc := "(I)I" } : Jvm.MethodName))) ∈ pU := pU_of (i := 486) rfl rfl
set_option maxRecDepth 20000 in
theorem u_452 : ((Jvm.Cond.code ({ cls := "ViewBroadcast", name := "mix", desc := "(I)I" } : Jvm.MethodName) prog_1_method_8_code (3 : Nat) (Option.some Jvm.ClassFile.FieldType.int))) ∈ pU := pU_of (i := 487) rfl rfl
set_option maxRecDepth 20000 in
theorem u_453 : ((Jvm.Cond.methodLink "ViewBroadcast" (117 : Nat) ({ cls := "ViewBroadcast$Views", name := "beginMix", desc := "(LViewBroadcast$Node;)I" } : Jvm.MethodName))) ∈ pU := pU_of (i := 488) rfl rfl
set_option maxRecDepth 20000 in
theorem u_454 : ((Jvm.Cond.instanceMethod ({ cls := "ViewBroadcast$Views", name := "beginMix", desc := "(LViewBroadcast$Node;)I" } : Jvm.MethodName))) ∈ pU := pU_of (i := 489) rfl rfl
set_option maxRecDepth 20000 in
theorem u_455 : ((Jvm.Cond.selects "ViewBroadcast$Views" ({ cls := "ViewBroadcast$Views", name := "beginMix", desc := "(LViewBroadcast$Node;)I" } : Jvm.MethodName) ({ cls := "ViewBroadcast$Views", name := "beginMix", desc := "(LViewBroadcast$Node;)I" } : Jvm.MethodName))) ∈ pU := pU_of (i := 490) rfl rfl
set_option maxRecDepth 20000 in
theorem u_456 : ((Jvm.Cond.code ({ cls := "ViewBroadcast$Views", name := "beginMix", desc := "(LViewBroadcast$Node;)I" } : Jvm.MethodName) prog_10_method_21_code (3 : Nat) (Option.some Jvm.ClassFile.FieldType.int))) ∈ pU := pU_of (i := 491) rfl rfl
set_option maxRecDepth 20000 in
theorem u_457 : ((Jvm.Cond.methodLink "ViewBroadcast$Views" (121 : Nat) ({ cls := "ViewBroadcast$Views", name := "fillPool", desc := "(LViewBroadcast$NodeList;II)V" } : Jvm.MethodName))) ∈ pU := pU_of (i := 492) rfl rfl
set_option maxRecDepth 20000 in
theorem u_458 : ((Jvm.Cond.instanceMethod ({ cls := "ViewBroadcast$Views", name := "fillPool", desc := "(LViewBroadcast$NodeList;II)V" } : Jvm.MethodName))) ∈ pU := pU_of (i := 493) rfl rfl
set_option maxRecDepth 20000 in
theorem u_459 : ((Jvm.Cond.selects "ViewBroadcast$Views" ({ cls := "ViewBroadcast$Views", name := "fillPool", desc := "(LViewBroadcast$NodeList;II)V" } : Jvm.MethodName) ({ cls := "ViewBroadcast$Views", name := "fillPool", desc := "(LViewBroadcast$NodeList;II)V" } : Jvm.MethodName))) ∈ pU := pU_of (i := 494) rfl rfl
set_option maxRecDepth 20000 in
theorem u_460 : ((Jvm.Cond.code ({ cls := "ViewBroadcast$Views", name := "fillPool", desc := "(LViewBroadcast$NodeList;II)V" } : Jvm.MethodName) prog_10_method_3_code (6 : Nat) (Option.none : Option Jvm.ClassFile.FieldType))) ∈ pU := pU_of (i := 495) rfl rfl
set_option maxRecDepth 20000 in
theorem u_461 : ((Jvm.Cond.methodLink "ViewBroadcast$Views" (44 : Nat) ({ cls := "ViewBroadcast$NodeList", name := "clear", desc := "()V" } : Jvm.MethodName))) ∈ pU := pU_of (i := 496) rfl rfl
set_option maxRecDepth 20000 in
theorem u_462 : ((Jvm.Cond.methodLink "ViewBroadcast$Views" (50 : Nat) ({ cls := "ViewBroadcast$NodeList", name := "at", desc := "(I)I" } : Jvm.MethodName))) ∈ pU := pU_of (i := 497) rfl rfl
set_option maxRecDepth 20000 in
theorem u_463 : ((Jvm.Cond.instanceMethod ({ cls := "ViewBroadcast$NodeList", name := "at", desc := "(I)I" } : Jvm.MethodName))) ∈ pU := pU_of (i := 498) rfl rfl
set_option maxRecDepth 20000 in
theorem u_464 : ((Jvm.Cond.selects "ViewBroadcast$NodeList" ({ cls := "ViewBroadcast$NodeList", name := "at", desc := "(I)I" } : Jvm.MethodName) ({ cls := "ViewBroadcast$NodeList", name := "at", desc := "(I)I" } : Jvm.MethodName))) ∈ pU := pU_of (i := 499) rfl rfl
set_option maxRecDepth 20000 in
theorem u_465 : ((Jvm.Cond.code ({ cls := "ViewBroadcast$NodeList", name := "at", desc := "(I)I" } : Jvm.MethodName) prog_6_method_2_code (2 : Nat) (Option.some Jvm.ClassFile.FieldType.int))) ∈ pU := pU_of (i := 500) rfl rfl
set_option maxRecDepth 20000 in
theorem u_466 : ((Jvm.Cond.methodLink "ViewBroadcast$Views" (54 : Nat) ({ cls := "ViewBroadcast$NodeList", name := "put", desc := "(I)V" } : Jvm.MethodName))) ∈ pU := pU_of (i := 501) rfl rfl
set_option maxRecDepth 20000 in
theorem u_467 : ((Jvm.Cond.instanceMethod ({ cls := "ViewBroadcast$NodeList", name := "put", desc := "(I)V" } : Jvm.MethodName))) ∈ pU := pU_of (i := 502) rfl rfl
set_option maxRecDepth 20000 in
theorem u_468 : ((Jvm.Cond.selects "ViewBroadcast$NodeList" ({ cls := "ViewBroadcast$NodeList", name := "put", desc := "(I)V" } : Jvm.MethodName) ({ cls := "ViewBroadcast$NodeList", name := "put", desc := "(I)V" } : Jvm.MethodName))) ∈ pU := pU_of (i := 503) rfl rfl
set_option maxRecDepth 20000 in
theorem u_469 : ((Jvm.Cond.code ({ cls := "ViewBroadcast$NodeList", name := "put", desc := "(I)V" } : Jvm.MethodName) prog_6_method_5_code (2 : Nat) (Option.none : Option Jvm.ClassFile.FieldType))) ∈ pU := pU_of (i := 504) rfl rfl
set_option maxRecDepth 20000 in
theorem u_470 : ((Jvm.Cond.methodLink "ViewBroadcast$Views" (63 : Nat) ({ cls := "ViewBroadcast$Views", name := "drawOfPool", desc := "()I" } : Jvm.MethodName))) ∈ pU := pU_of (i := 505) rfl rfl
set_option maxRecDepth 20000 in
theorem u_471 : ((Jvm.Cond.instanceMethod ({ cls := "ViewBroadcast$Views", name := "drawOfPool", desc := "()I" } : Jvm.MethodName))) ∈ pU := pU_of (i := 506) rfl rfl
set_option maxRecDepth 20000 in
theorem u_472 : ((Jvm.Cond.selects "ViewBroadcast$Views" ({ cls := "ViewBroadcast$Views", name := "drawOfPool", desc := "()I" } : Jvm.MethodName) ({ cls := "ViewBroadcast$Views", name := "drawOfPool", desc := "()I" } : Jvm.MethodName))) ∈ pU := pU_of (i := 507) rfl rfl
set_option maxRecDepth 20000 in
theorem u_473 : ((Jvm.Cond.code ({ cls := "ViewBroadcast$Views", name := "drawOfPool", desc := "()I" } : Jvm.MethodName) prog_10_method_4_code (3 : Nat) (Option.some Jvm.ClassFile.FieldType.int))) ∈ pU := pU_of (i := 508) rfl rfl
set_option maxRecDepth 20000 in
theorem u_474 : ((Jvm.Cond.methodLink "ViewBroadcast$Views" (57 : Nat) ({ cls := "ViewBroadcast$World", name := "draw", desc := "(I)I" } : Jvm.MethodName))) ∈ pU := pU_of (i := 509) rfl rfl
set_option maxRecDepth 20000 in
theorem u_475 : ((Jvm.Cond.instanceMethod ({ cls := "ViewBroadcast$World", name := "draw", desc := "(I)I" } : Jvm.MethodName))) ∈ pU := pU_of (i := 510) rfl rfl
set_option maxRecDepth 20000 in
theorem u_476 : ((Jvm.Cond.selects "ViewBroadcast$World" ({ cls := "ViewBroadcast$World", name := "draw", desc := "(I)I" } : Jvm.MethodName) ({ cls := "ViewBroadcast$World", name := "draw", desc := "(I)I" } : Jvm.MethodName))) ∈ pU := pU_of (i := 511) rfl rfl
set_option maxRecDepth 20000 in
theorem u_477 : ((Jvm.Cond.code ({ cls := "ViewBroadcast$World", name := "draw", desc := "(I)I" } : Jvm.MethodName) prog_11_method_6_code (3 : Nat) (Option.some Jvm.ClassFile.FieldType.int))) ∈ pU := pU_of (i := 512) rfl rfl
set_option maxRecDepth 20000 in
theorem u_478 : ((Jvm.Cond.methodLink "ViewBroadcast$World" (78 : Nat) ({ cls := "ViewBroadcast$Coins", name := "at", desc := "(I)I" } : Jvm.MethodName))) ∈ pU := pU_of (i := 513) rfl rfl
set_option maxRecDepth 20000 in
theorem u_479 : ((Jvm.Cond.instanceMethod ({ cls := "ViewBroadcast$Coins", name := "at", desc := "(I)I" } : Jvm.MethodName))) ∈ pU := pU_of (i := 514) rfl rfl
set_option maxRecDepth 20000 in
theorem u_480 : ((Jvm.Cond.selects "ViewBroadcast$Coins" ({ cls := "ViewBroadcast$Coins", name := "at", desc := "(I)I" } : Jvm.MethodName) ({ cls := "ViewBroadcast$Coins", name := "at", desc := "(I)I" } : Jvm.MethodName))) ∈ pU := pU_of (i := 515) rfl rfl
set_option maxRecDepth 20000 in
theorem u_481 : ((Jvm.Cond.code ({ cls := "ViewBroadcast$Coins", name := "at", desc := "(I)I" } : Jvm.MethodName) prog_2_method_3_code (2 : Nat) (Option.some Jvm.ClassFile.FieldType.int))) ∈ pU := pU_of (i := 516) rfl rfl
set_option maxRecDepth 20000 in
theorem u_482 : ((Jvm.Cond.methodLink "ViewBroadcast$World" (82 : Nat) ({ cls := "ViewBroadcast$Coins", name := "behind", desc := "(I)I" } : Jvm.MethodName))) ∈ pU := pU_of (i := 517) rfl rfl
set_option maxRecDepth 20000 in
theorem u_483 : ((Jvm.Cond.instanceMethod ({ cls := "ViewBroadcast$Coins", name := "behind", desc := "(I)I" } : Jvm.MethodName))) ∈ pU := pU_of (i := 518) rfl rfl
set_option maxRecDepth 20000 in
theorem u_484 : ((Jvm.Cond.selects "ViewBroadcast$Coins" ({ cls := "ViewBroadcast$Coins", name := "behind", desc := "(I)I" } : Jvm.MethodName) ({ cls := "ViewBroadcast$Coins", name := "behind", desc := "(I)I" } : Jvm.MethodName))) ∈ pU := pU_of (i := 519) rfl rfl
set_option maxRecDepth 20000 in
theorem u_485 : ((Jvm.Cond.code ({ cls := "ViewBroadcast$Coins", name := "behind", desc := "(I)I" } : Jvm.MethodName) prog_2_method_4_code (2 : Nat) (Option.some Jvm.ClassFile.FieldType.int))) ∈ pU := pU_of (i := 520) rfl rfl
set_option maxRecDepth 20000 in
theorem u_486 : ((Jvm.Cond.methodLink "ViewBroadcast$Views" (60 : Nat) ({ cls := "ViewBroadcast$NodeList", name := "removeAt", desc := "(I)V" } : Jvm.MethodName))) ∈ pU := pU_of (i := 521) rfl rfl
set_option maxRecDepth 20000 in
theorem u_487 : ((Jvm.Cond.instanceMethod ({ cls := "ViewBroadcast$NodeList", name := "removeAt", desc := "(I)V" } : Jvm.MethodName))) ∈ pU := pU_of (i := 522) rfl rfl
set_option maxRecDepth 20000 in
theorem u_488 : ((Jvm.Cond.selects "ViewBroadcast$NodeList" ({ cls := "ViewBroadcast$NodeList", name := "removeAt", desc := "(I)V" } : Jvm.MethodName) ({ cls := "ViewBroadcast$NodeList", name := "removeAt", desc := "(I)V" } : Jvm.MethodName))) ∈ pU := pU_of (i := 523) rfl rfl
set_option maxRecDepth 20000 in
theorem u_489 : ((Jvm.Cond.code ({ cls := "ViewBroadcast$NodeList", name := "removeAt", desc := "(I)V" } : Jvm.MethodName) prog_6_method_6_code (3 : Nat) (Option.none : Option Jvm.ClassFile.FieldType))) ∈ pU := pU_of (i := 524) rfl rfl
set_option maxRecDepth 20000 in
theorem u_490 : ((Jvm.Cond.methodLink "ViewBroadcast$Views" (155 : Nat) ({ cls := "ViewBroadcast$Views", name := "listFromPool", desc := "(I)V" } : Jvm.MethodName))) ∈ pU := pU_of (i := 525) rfl rfl
set_option maxRecDepth 20000 in
theorem u_491 : ((Jvm.Cond.instanceMethod ({ cls := "ViewBroadcast$Views", name := "listFromPool", desc := "(I)V" } : Jvm.MethodName))) ∈ pU := pU_of (i := 526) rfl rfl
set_option maxRecDepth 20000 in
theorem u_492 : ((Jvm.Cond.selects "ViewBroadcast$Views" ({ cls := "ViewBroadcast$Views", name := "listFromPool", desc := "(I)V" } : Jvm.MethodName) ({ cls := "ViewBroadcast$Views", name := "listFromPool", desc := "(I)V" } : Jvm.MethodName))) ∈ pU := pU_of (i := 527) rfl rfl
set_option maxRecDepth 20000 in
theorem u_493 : ((Jvm.Cond.code ({ cls := "ViewBroadcast$Views", name := "listFromPool", desc := "(I)V" } : Jvm.MethodName) prog_10_method_5_code (3 : Nat) (Option.none : Option Jvm.ClassFile.FieldType))) ∈ pU := pU_of (i := 528) rfl rfl
set_option maxRecDepth 20000 in
theorem u_494 : ((Jvm.Cond.methodLink "ViewBroadcast$Views" (143 : Nat) ({ cls := "ViewBroadcast$World", name := "sendList", desc := "(IIIIILViewBroadcast$NodeList;)V" } : Jvm.MethodName))) ∈ pU := pU_of (i := 529) rfl rfl
set_option maxRecDepth 20000 in
theorem u_495 : ((Jvm.Cond.instanceMethod ({ cls := "ViewBroadcast$World", name := "sendList", desc := "(IIIIILViewBroadcast$NodeList;)V" } : Jvm.MethodName))) ∈ pU := pU_of (i := 530) rfl rfl
set_option maxRecDepth 20000 in
theorem u_496 : ((Jvm.Cond.selects "ViewBroadcast$World" ({ cls := "ViewBroadcast$World", name := "sendList", desc := "(IIIIILViewBroadcast$NodeList;)V" } : Jvm.MethodName) ({ cls := "ViewBroadcast$World", name := "sendList", desc := "(IIIIILViewBroadcast$NodeList;)V" } : Jvm.MethodName))) ∈ pU := pU_of (i := 531) rfl rfl
set_option maxRecDepth 20000 in
theorem u_497 : ((Jvm.Cond.code ({ cls := "ViewBroadcast$World", name := "sendList", desc := "(IIIIILViewBroadcast$NodeList;)V" } : Jvm.MethodName) prog_11_method_8_code (8 : Nat) (Option.none : Option Jvm.ClassFile.FieldType))) ∈ pU := pU_of (i := 532) rfl rfl
set_option maxRecDepth 20000 in
theorem u_498 : ((Jvm.Cond.methodLink "ViewBroadcast$World" (112 : Nat) ({ cls := "ViewBroadcast$NodeList", name := "copyFrom", desc := "(LViewBroadcast$NodeList;)V" } : Jvm.MethodName))) ∈ pU := pU_of (i := 533) rfl rfl
set_option maxRecDepth 20000 in
theorem u_499 : ((Jvm.Cond.instanceMethod ({ cls := "ViewBroadcast$NodeList", name := "copyFrom", desc := "(LViewBroadcast$NodeList;)V" } : Jvm.MethodName))) ∈ pU := pU_of (i := 534) rfl rfl
set_option maxRecDepth 20000 in
theorem u_500 : ((Jvm.Cond.selects "ViewBroadcast$NodeList" ({ cls := "ViewBroadcast$NodeList", name := "copyFrom", desc := "(LViewBroadcast$NodeList;)V" } : Jvm.MethodName) ({ cls := "ViewBroadcast$NodeList", name := "copyFrom", desc := "(LViewBroadcast$NodeList;)V" } : Jvm.MethodName))) ∈ pU := pU_of (i := 535) rfl rfl
set_option maxRecDepth 20000 in
theorem u_501 : ((Jvm.Cond.code ({ cls := "ViewBroadcast$NodeList", name := "copyFrom", desc := "(LViewBroadcast$NodeList;)V" } : Jvm.MethodName) prog_6_method_9_code (3 : Nat) (Option.none : Option Jvm.ClassFile.FieldType))) ∈ pU := pU_of (i := 536) rfl rfl
set_option maxRecDepth 20000 in
theorem u_502 : ((Jvm.Cond.methodLink "ViewBroadcast$NodeList" (33 : Nat) ({ cls := "java/lang/Math", name := "min", desc := "(II)I" } : Jvm.MethodName))) ∈ pU := pU_of (i := 537) rfl rfl
set_option maxRecDepth 20000 in
theorem u_503 : ((Jvm.Cond.static ({ cls := "java/lang/Math", name := "min", desc := "(II)I" } : Jvm.MethodName))) ∈ pU := pU_of (i := 538) rfl rfl
set_option maxRecDepth 20000 in
theorem u_504 : ((Jvm.Cond.code ({ cls := "java/lang/Math", name := "min", desc := "(II)I" } : Jvm.MethodName) prog_15_method_69_code (2 : Nat) (Option.some Jvm.ClassFile.FieldType.int))) ∈ pU := pU_of (i := 539) rfl rfl
set_option maxRecDepth 20000 in
theorem u_505 : ((Jvm.Cond.methodLink "ViewBroadcast$NodeList" (36 : Nat) ({ cls := "ViewBroadcast$NodeList", name := "at", desc := "(I)I" } : Jvm.MethodName))) ∈ pU := pU_of (i := 540) rfl rfl
set_option maxRecDepth 20000 in
theorem u_506 : ((Jvm.Cond.methodLink "ViewBroadcastLaw" (45 : Nat) ({ cls := "ViewBroadcast", name := "tale", desc := "(I)I" } : Jvm.MethodName))) ∈ pU := pU_of (i := 541) rfl rfl
set_option maxRecDepth 20000 in
theorem u_507 : ((Jvm.Cond.instanceMethod ({ cls := "ViewBroadcast", name := "tale", desc := "(I)I" } : Jvm.MethodName))) ∈ pU := pU_of (i := 542) rfl rfl
set_option maxRecDepth 20000 in
theorem u_508 : ((Jvm.Cond.selects "ViewBroadcast" ({ cls := "ViewBroadcast", name := "tale", desc := "(I)I" } : Jvm.MethodName) ({ cls := "ViewBroadcast", name := "tale", desc := "(I)I" } : Jvm.MethodName))) ∈ pU := pU_of (i := 543) rfl rfl
set_option maxRecDepth 20000 in
theorem u_509 : ((Jvm.Cond.code ({ cls := "ViewBroadcast", name := "tale", desc := "(I)I" } : Jvm.MethodName) prog_1_method_9_code (4 : Nat) (Option.some Jvm.ClassFile.FieldType.int))) ∈ pU := pU_of (i := 544) rfl rfl
set_option maxRecDepth 20000 in
theorem u_510 : ((Jvm.Cond.methodLink "ViewBroadcast" (123 : Nat) ({ cls := "ViewBroadcast$Tales", name := "hear", desc := "(LViewBroadcast$Node;III)V" } : Jvm.MethodName))) ∈ pU := pU_of (i := 545) rfl rfl
set_option maxRecDepth 20000 in
theorem u_511 : ((Jvm.Cond.instanceMethod ({ cls := "ViewBroadcast$Tales", name := "hear", desc := "(LViewBroadcast$Node;III)V" } : Jvm.MethodName))) ∈ pU := pU_of (i := 546) rfl rfl
set_option maxRecDepth 20000 in
theorem u_512 : ((Jvm.Cond.selects "ViewBroadcast$Tales" ({ cls := "ViewBroadcast$Tales", name := "hear", desc := "(LViewBroadcast$Node;III)V" } : Jvm.MethodName) ({ cls := "ViewBroadcast$Tales", name := "hear", desc := "(LViewBroadcast$Node;III)V" } : Jvm.MethodName))) ∈ pU := pU_of (i := 547) rfl rfl
set_option maxRecDepth 20000 in
theorem u_513 : ((Jvm.Cond.code ({ cls := "ViewBroadcast$Tales", name := "hear", desc := "(LViewBroadcast$Node;III)V" } : Jvm.MethodName) prog_9_method_3_code (7 : Nat) (Option.none : Option Jvm.ClassFile.FieldType))) ∈ pU := pU_of (i := 548) rfl rfl
set_option maxRecDepth 20000 in
theorem u_514 : ((Jvm.Cond.methodLink "ViewBroadcast$Tales" (27 : Nat) ({ cls := "ViewBroadcast$Node", name := "learn", desc := "(II)V" } : Jvm.MethodName))) ∈ pU := pU_of (i := 549) rfl rfl
set_option maxRecDepth 20000 in
theorem u_515 : ((Jvm.Cond.instanceMethod ({ cls := "ViewBroadcast$Node", name := "learn", desc := "(II)V" } : Jvm.MethodName))) ∈ pU := pU_of (i := 550) rfl rfl
set_option maxRecDepth 20000 in
theorem u_516 : ((Jvm.Cond.selects "ViewBroadcast$Node" ({ cls := "ViewBroadcast$Node", name := "learn", desc := "(II)V" } : Jvm.MethodName) ({ cls := "ViewBroadcast$Node", name := "learn", desc := "(II)V" } : Jvm.MethodName))) ∈ pU := pU_of (i := 551) rfl rfl
set_option maxRecDepth 20000 in
theorem u_517 : ((Jvm.Cond.code ({ cls := "ViewBroadcast$Node", name := "learn", desc := "(II)V" } : Jvm.MethodName) prog_5_method_9_code (3 : Nat) (Option.none : Option Jvm.ClassFile.FieldType))) ∈ pU := pU_of (i := 552) rfl rfl
set_option maxRecDepth 20000 in
theorem u_518 : ((Jvm.Cond.methodLink "ViewBroadcast$Tales" (40 : Nat) ({ cls := "ViewBroadcast$NodeList", name := "at", desc := "(I)I" } : Jvm.MethodName))) ∈ pU := pU_of (i := 553) rfl rfl
set_option maxRecDepth 20000 in
theorem u_519 : ((Jvm.Cond.methodLink "ViewBroadcast$Tales" (44 : Nat) ({ cls := "ViewBroadcast$Node", name := "isLazy", desc := "(I)Z" } : Jvm.MethodName))) ∈ pU := pU_of (i := 554) rfl rfl
set_option maxRecDepth 20000 in
theorem u_520 : ((Jvm.Cond.instanceMethod ({ cls := "ViewBroadcast$Node", name := "isLazy", desc := "(I)Z" } : Jvm.MethodName))) ∈ pU := pU_of (i := 555) rfl rfl
set_option maxRecDepth 20000 in
theorem u_521 : ((Jvm.Cond.selects "ViewBroadcast$Node" ({ cls := "ViewBroadcast$Node", name := "isLazy", desc := "(I)Z" } : Jvm.MethodName) ({ cls := "ViewBroadcast$Node", name := "isLazy", desc := "(I)Z" } : Jvm.MethodName))) ∈ pU := pU_of (i := 556) rfl rfl
set_option maxRecDepth 20000 in
theorem u_522 : ((Jvm.Cond.code ({ cls := "ViewBroadcast$Node", name := "isLazy", desc := "(I)Z" } : Jvm.MethodName) prog_5_method_3_code (2 : Nat) (Option.some Jvm.ClassFile.FieldType.boolean))) ∈ pU := pU_of (i := 557) rfl rfl
set_option maxRecDepth 20000 in
theorem u_523 : ((Jvm.Cond.methodLink "ViewBroadcast$Tales" (48 : Nat) ({ cls := "ViewBroadcast$Tales", name := "send", desc := "(LViewBroadcast$Node;IIII)V" } : Jvm.MethodName))) ∈ pU := pU_of (i := 558) rfl rfl
set_option maxRecDepth 20000 in
theorem u_524 : ((Jvm.Cond.instanceMethod ({ cls := "ViewBroadcast$Tales", name := "send", desc := "(LViewBroadcast$Node;IIII)V" } : Jvm.MethodName))) ∈ pU := pU_of (i := 559) rfl rfl
set_option maxRecDepth 20000 in
theorem u_525 : ((Jvm.Cond.selects "ViewBroadcast$Tales" ({ cls := "ViewBroadcast$Tales", name := "send", desc := "(LViewBroadcast$Node;IIII)V" } : Jvm.MethodName) ({ cls := "ViewBroadcast$Tales", name := "send", desc := "(LViewBroadcast$Node;IIII)V" } : Jvm.MethodName))) ∈ pU := pU_of (i := 560) rfl rfl
set_option maxRecDepth 20000 in
theorem u_526 : ((Jvm.Cond.code ({ cls := "ViewBroadcast$Tales", name := "send", desc := "(LViewBroadcast$Node;IIII)V" } : Jvm.MethodName) prog_9_method_2_code (6 : Nat) (Option.none : Option Jvm.ClassFile.FieldType))) ∈ pU := pU_of (i := 561) rfl rfl
set_option maxRecDepth 20000 in
theorem u_527 : ((Jvm.Cond.methodLink "ViewBroadcast$Tales" (21 : Nat) ({ cls := "ViewBroadcast$World", name := "send", desc := "(IIIII)LViewBroadcast$Letter;" } : Jvm.MethodName))) ∈ pU := pU_of (i := 562) rfl rfl
set_option maxRecDepth 20000 in
theorem u_528 : ((Jvm.Cond.methodLink "ViewBroadcastLaw" (49 : Nat) ({ cls := "ViewBroadcast", name := "tick", desc := "()I" } : Jvm.MethodName))) ∈ pU := pU_of (i := 563) rfl rfl
set_option maxRecDepth 20000 in
theorem u_529 : ((Jvm.Cond.instanceMethod ({ cls := "ViewBroadcast", name := "tick", desc := "()I" } : Jvm.MethodName))) ∈ pU := pU_of (i := 564) rfl rfl
set_option maxRecDepth 20000 in
theorem u_530 : ((Jvm.Cond.selects "ViewBroadcast" ({ cls := "ViewBroadcast", name := "tick", desc := "()I" } : Jvm.MethodName) ({ cls := "ViewBroadcast", name := "tick", desc := "()I" } : Jvm.MethodName))) ∈ pU := pU_of (i := 565) rfl rfl
set_option maxRecDepth 20000 in
theorem u_531 : ((Jvm.Cond.code ({ cls := "ViewBroadcast", name := "tick", desc := "()I" } : Jvm.MethodName) prog_1_method_10_code (1 : Nat) (Option.some Jvm.ClassFile.FieldType.int))) ∈ pU := pU_of (i := 566) rfl rfl
set_option maxRecDepth 20000 in
theorem u_532 : ((Jvm.Cond.methodLink "ViewBroadcast" (127 : Nat) ({ cls := "ViewBroadcast$Tales", name := "pass", desc := "()I" } : Jvm.MethodName))) ∈ pU := pU_of (i := 567) rfl rfl
set_option maxRecDepth 20000 in
theorem u_533 : ((Jvm.Cond.instanceMethod ({ cls := "ViewBroadcast$Tales", name := "pass", desc := "()I" } : Jvm.MethodName))) ∈ pU := pU_of (i := 568) rfl rfl
set_option maxRecDepth 20000 in
theorem u_534 : ((Jvm.Cond.selects "ViewBroadcast$Tales" ({ cls := "ViewBroadcast$Tales", name := "pass", desc := "()I" } : Jvm.MethodName) ({ cls := "ViewBroadcast$Tales", name := "pass", desc := "()I" } : Jvm.MethodName))) ∈ pU := pU_of (i := 569) rfl rfl
set_option maxRecDepth 20000 in
theorem u_535 : ((Jvm.Cond.code ({ cls := "ViewBroadcast$Tales", name := "pass", desc := "()I" } : Jvm.MethodName) prog_9_method_7_code (2 : Nat) (Option.some Jvm.ClassFile.FieldType.int))) ∈ pU := pU_of (i := 570) rfl rfl
set_option maxRecDepth 20000 in
theorem u_536 : ((Jvm.Cond.methodLink "ViewBroadcast$Tales" (105 : Nat) ({ cls := "ViewBroadcast$World", name := "nodeAt", desc := "(I)LViewBroadcast$Node;" } : Jvm.MethodName))) ∈ pU := pU_of (i := 571) rfl rfl
set_option maxRecDepth 20000 in
theorem u_537 : ((Jvm.Cond.methodLink "ViewBroadcast$Tales" (112 : Nat) ({ cls := "ViewBroadcast$Tales", name := "fetchDue", desc := "(LViewBroadcast$Node;)V" } : Jvm.MethodName))) ∈ pU := pU_of (i := 572) rfl rfl
set_option maxRecDepth 20000 in
theorem u_538 : ((Jvm.Cond.instanceMethod ({ cls := "ViewBroadcast$Tales", name := "fetchDue", desc := "(LViewBroadcast$Node;)V" } : Jvm.MethodName))) ∈ pU := pU_of (i := 573) rfl rfl
set_option maxRecDepth 20000 in
theorem u_539 : ((Jvm.Cond.selects "ViewBroadcast$Tales" ({ cls := "ViewBroadcast$Tales", name := "fetchDue", desc := "(LViewBroadcast$Node;)V" } : Jvm.MethodName) ({ cls := "ViewBroadcast$Tales", name := "fetchDue", desc := "(LViewBroadcast$Node;)V" } : Jvm.MethodName))) ∈ pU := pU_of (i := 574) rfl rfl
set_option maxRecDepth 20000 in
theorem u_540 : ((Jvm.Cond.code ({ cls := "ViewBroadcast$Tales", name := "fetchDue", desc := "(LViewBroadcast$Node;)V" } : Jvm.MethodName) prog_9_method_8_code (4 : Nat) (Option.none : Option Jvm.ClassFile.FieldType))) ∈ pU := pU_of (i := 575) rfl rfl
set_option maxRecDepth 20000 in
theorem u_541 : ((Jvm.Cond.methodLink "ViewBroadcast$Tales" (68 : Nat) ({ cls := "ViewBroadcast$Node", name := "missOf", desc := "(I)LViewBroadcast$Miss;" } : Jvm.MethodName))) ∈ pU := pU_of (i := 576) rfl rfl
set_option maxRecDepth 20000 in
theorem u_542 : ((Jvm.Cond.instanceMethod ({ cls := "ViewBroadcast$Node", name := "missOf", desc := "(I)LViewBroadcast$Miss;" } : Jvm.MethodName))) ∈ pU := pU_of (i := 577) rfl rfl
set_option maxRecDepth 20000 in
theorem u_543 : ((Jvm.Cond.selects "ViewBroadcast$Node" ({ cls := "ViewBroadcast$Node", name := "missOf", desc := "(I)LViewBroadcast$Miss;" } : Jvm.MethodName) ({ cls := "ViewBroadcast$Node", name := "missOf", desc := "(I)LViewBroadcast$Miss;" } : Jvm.MethodName))) ∈ pU := pU_of (i := 578) rfl rfl
set_option maxRecDepth 20000 in
theorem u_544 : ((Jvm.Cond.code ({ cls := "ViewBroadcast$Node", name := "missOf", desc := "(I)LViewBroadcast$Miss;" } : Jvm.MethodName) prog_5_method_7_code (2 : Nat) (Option.some (Jvm.ClassFile.FieldType.object "ViewBroadcast$Miss")))) ∈ pU := pU_of (i := 579) rfl rfl
set_option maxRecDepth 20000 in
theorem u_545 : ((Jvm.Cond.methodLink "ViewBroadcast$Tales" (119 : Nat) ({ cls := "ViewBroadcast$Tales", name := "fetch", desc := "(LViewBroadcast$Node;ILViewBroadcast$Miss;)V" } : Jvm.MethodName))) ∈ pU := pU_of (i := 580) rfl rfl
set_option maxRecDepth 20000 in
theorem u_546 : ((Jvm.Cond.instanceMethod ({ cls := "ViewBroadcast$Tales", name := "fetch", desc := "(LViewBroadcast$Node;ILViewBroadcast$Miss;)V" } : Jvm.MethodName))) ∈ pU := pU_of (i := 581) rfl rfl
set_option maxRecDepth 20000 in
theorem u_547 : ((Jvm.Cond.selects "ViewBroadcast$Tales" ({ cls := "ViewBroadcast$Tales", name := "fetch", desc := "(LViewBroadcast$Node;ILViewBroadcast$Miss;)V" } : Jvm.MethodName) ({ cls := "ViewBroadcast$Tales", name := "fetch", desc := "(LViewBroadcast$Node;ILViewBroadcast$Miss;)V" } : Jvm.MethodName))) ∈ pU := pU_of (i := 582) rfl rfl
set_option maxRecDepth 20000 in
theorem u_548 : ((Jvm.Cond.code ({ cls := "ViewBroadcast$Tales", name := "fetch", desc := "(LViewBroadcast$Node;ILViewBroadcast$Miss;)V" } : Jvm.MethodName) prog_9_method_9_code (5 : Nat) (Option.none : Option Jvm.ClassFile.FieldType))) ∈ pU := pU_of (i := 583) rfl rfl
set_option maxRecDepth 20000 in
theorem u_549 : ((Jvm.Cond.methodLink "ViewBroadcast$Tales" (123 : Nat) ({ cls := "ViewBroadcast$Miss", name := "end", desc := "()V" } : Jvm.MethodName))) ∈ pU := pU_of (i := 584) rfl rfl
set_option maxRecDepth 20000 in
theorem u_550 : ((Jvm.Cond.methodLink "ViewBroadcast$Tales" (126 : Nat) ({ cls := "ViewBroadcast$NodeList", name := "removeAt", desc := "(I)V" } : Jvm.MethodName))) ∈ pU := pU_of (i := 585) rfl rfl
set_option maxRecDepth 20000 in
theorem u_551 : ((Jvm.Cond.methodLink "ViewBroadcast$Tales" (61 : Nat) ({ cls := "ViewBroadcast$Node", name := "makeEager", desc := "(I)V" } : Jvm.MethodName))) ∈ pU := pU_of (i := 586) rfl rfl
set_option maxRecDepth 20000 in
theorem u_552 : ((Jvm.Cond.instanceMethod ({ cls := "ViewBroadcast$Node", name := "makeEager", desc := "(I)V" } : Jvm.MethodName))) ∈ pU := pU_of (i := 587) rfl rfl
set_option maxRecDepth 20000 in
theorem u_553 : ((Jvm.Cond.selects "ViewBroadcast$Node" ({ cls := "ViewBroadcast$Node", name := "makeEager", desc := "(I)V" } : Jvm.MethodName) ({ cls := "ViewBroadcast$Node", name := "makeEager", desc := "(I)V" } : Jvm.MethodName))) ∈ pU := pU_of (i := 588) rfl rfl
set_option maxRecDepth 20000 in
theorem u_554 : ((Jvm.Cond.code ({ cls := "ViewBroadcast$Node", name := "makeEager", desc := "(I)V" } : Jvm.MethodName) prog_5_method_5_code (2 : Nat) (Option.none : Option Jvm.ClassFile.FieldType))) ∈ pU := pU_of (i := 589) rfl rfl
set_option maxRecDepth 20000 in
theorem u_555 : ((Jvm.Cond.methodLink "ViewBroadcast$Tales" (129 : Nat) ({ cls := "java/lang/Math", name := "max", desc := "(II)I" } : Jvm.MethodName))) ∈ pU := pU_of (i := 590) rfl rfl
set_option maxRecDepth 20000 in
theorem u_556 : ((Jvm.Cond.methodLink "ViewBroadcastLaw" (53 : Nat) ({ cls := "ViewBroadcast", name := "deliver", desc := "(I)I" } : Jvm.MethodName))) ∈ pU := pU_of (i := 591) rfl rfl
set_option maxRecDepth 20000 in
theorem u_557 : ((Jvm.Cond.instanceMethod ({ cls := "ViewBroadcast", name := "deliver", desc := "(I)I" } : Jvm.MethodName))) ∈ pU := pU_of (i := 592) rfl rfl
set_option maxRecDepth 20000 in
theorem u_558 : ((Jvm.Cond.selects "ViewBroadcast" ({ cls := "ViewBroadcast", name := "deliver", desc := "(I)I" } : Jvm.MethodName) ({ cls := "ViewBroadcast", name := "deliver", desc := "(I)I" } : Jvm.MethodName))) ∈ pU := pU_of (i := 593) rfl rfl
set_option maxRecDepth 20000 in
theorem u_559 : ((Jvm.Cond.code ({ cls := "ViewBroadcast", name := "deliver", desc := "(I)I" } : Jvm.MethodName) prog_1_method_11_code (2 : Nat) (Option.some Jvm.ClassFile.FieldType.int))) ∈ pU := pU_of (i := 594) rfl rfl
set_option maxRecDepth 20000 in
theorem u_560 : ((Jvm.Cond.methodLink "ViewBroadcast" (130 : Nat) ({ cls := "ViewBroadcast$Row", name := "isLetter", desc := "(I)Z" } : Jvm.MethodName))) ∈ pU := pU_of (i := 595) rfl rfl
set_option maxRecDepth 20000 in
theorem u_561 : ((Jvm.Cond.instanceMethod ({ cls := "ViewBroadcast$Row", name := "isLetter", desc := "(I)Z" } : Jvm.MethodName))) ∈ pU := pU_of (i := 596) rfl rfl
set_option maxRecDepth 20000 in
theorem u_562 : ((Jvm.Cond.selects "ViewBroadcast$Row" ({ cls := "ViewBroadcast$Row", name := "isLetter", desc := "(I)Z" } : Jvm.MethodName) ({ cls := "ViewBroadcast$Row", name := "isLetter", desc := "(I)Z" } : Jvm.MethodName))) ∈ pU := pU_of (i := 597) rfl rfl
set_option maxRecDepth 20000 in
theorem u_563 : ((Jvm.Cond.code ({ cls := "ViewBroadcast$Row", name := "isLetter", desc := "(I)Z" } : Jvm.MethodName) prog_7_method_3_code (2 : Nat) (Option.some Jvm.ClassFile.FieldType.boolean))) ∈ pU := pU_of (i := 598) rfl rfl
set_option maxRecDepth 20000 in
theorem u_564 : ((Jvm.Cond.methodLink "ViewBroadcast" (133 : Nat) ({ cls := "ViewBroadcast$Row", name := "canCome", desc := "(I)Z" } : Jvm.MethodName))) ∈ pU := pU_of (i := 599) rfl rfl
set_option maxRecDepth 20000 in
theorem u_565 : ((Jvm.Cond.instanceMethod ({ cls := "ViewBroadcast$Row", name := "canCome", desc := "(I)Z" } : Jvm.MethodName))) ∈ pU := pU_of (i := 600) rfl rfl
set_option maxRecDepth 20000 in
theorem u_566 : ((Jvm.Cond.selects "ViewBroadcast$Row" ({ cls := "ViewBroadcast$Row", name := "canCome", desc := "(I)Z" } : Jvm.MethodName) ({ cls := "ViewBroadcast$Row", name := "canCome", desc := "(I)Z" } : Jvm.MethodName))) ∈ pU := pU_of (i := 601) rfl rfl
set_option maxRecDepth 20000 in
theorem u_567 : ((Jvm.Cond.code ({ cls := "ViewBroadcast$Row", name := "canCome", desc := "(I)Z" } : Jvm.MethodName) prog_7_method_8_code (3 : Nat) (Option.some Jvm.ClassFile.FieldType.boolean))) ∈ pU := pU_of (i := 602) rfl rfl
set_option maxRecDepth 20000 in
theorem u_568 : ((Jvm.Cond.methodLink "ViewBroadcast$Row" (46 : Nat) ({ cls := "ViewBroadcast$Row", name := "hasAhead", desc := "(III)Z" } : Jvm.MethodName))) ∈ pU := pU_of (i := 603) rfl rfl
set_option maxRecDepth 20000 in
theorem u_569 : ((Jvm.Cond.methodLink "ViewBroadcast" (136 : Nat) ({ cls := "ViewBroadcast", name := "come", desc := "(I)I" } : Jvm.MethodName))) ∈ pU := pU_of (i := 604) rfl rfl
set_option maxRecDepth 20000 in
theorem u_571 : ((Jvm.Cond.instanceMethod ({ cls := "ViewBroadcast", name := "come", desc := "(I)I" } : Jvm.MethodName))) ∈ pU := pU_of (i := 606) rfl rfl
set_option maxRecDepth 20000 in
theorem u_572 : ((Jvm.Cond.code ({ cls := "ViewBroadcast", name := "come", desc := "(I)I" } : Jvm.MethodName) prog_1_method_29_code (4 : Nat) (Option.some Jvm.ClassFile.FieldType.int))) ∈ pU := pU_of (i := 607) rfl rfl
set_option maxRecDepth 20000 in
theorem u_573 : ((Jvm.Cond.methodLink "ViewBroadcast" (245 : Nat) ({ cls := "ViewBroadcast$World", name := "takeLetter", desc := "(I)LViewBroadcast$Letter;" } : Jvm.MethodName))) ∈ pU := pU_of (i := 608) rfl rfl
set_option maxRecDepth 20000 in
theorem u_574 : ((Jvm.Cond.instanceMethod ({ cls := "ViewBroadcast$World", name := "takeLetter", desc := "(I)LViewBroadcast$Letter;" } : Jvm.MethodName))) ∈ pU := pU_of (i := 609) rfl rfl
set_option maxRecDepth 20000 in
theorem u_575 : ((Jvm.Cond.selects "ViewBroadcast$World" ({ cls := "ViewBroadcast$World", name := "takeLetter", desc := "(I)LViewBroadcast$Letter;" } : Jvm.MethodName) ({ cls := "ViewBroadcast$World", name := "takeLetter", desc := "(I)LViewBroadcast$Letter;" } : Jvm.MethodName))) ∈ pU := pU_of (i := 610) rfl rfl
set_option maxRecDepth 20000 in
theorem u_576 : ((Jvm.Cond.code ({ cls := "ViewBroadcast$World", name := "takeLetter", desc := "(I)LViewBroadcast$Letter;" } : Jvm.MethodName) prog_11_method_9_code (2 : Nat) (Option.some (Jvm.ClassFile.FieldType.object "ViewBroadcast$Letter")))) ∈ pU := pU_of (i := 611) rfl rfl
set_option maxRecDepth 20000 in
theorem u_577 : ((Jvm.Cond.methodLink "ViewBroadcast$World" (118 : Nat) ({ cls := "ViewBroadcast$Row", name := "at", desc := "(I)LViewBroadcast$Letter;" } : Jvm.MethodName))) ∈ pU := pU_of (i := 612) rfl rfl
set_option maxRecDepth 20000 in
theorem u_578 : ((Jvm.Cond.methodLink "ViewBroadcast$World" (121 : Nat) ({ cls := "ViewBroadcast$Letter", name := "copyFrom", desc := "(LViewBroadcast$Letter;)V" } : Jvm.MethodName))) ∈ pU := pU_of (i := 613) rfl rfl
set_option maxRecDepth 20000 in
theorem u_579 : ((Jvm.Cond.instanceMethod ({ cls := "ViewBroadcast$Letter", name := "copyFrom", desc := "(LViewBroadcast$Letter;)V" } : Jvm.MethodName))) ∈ pU := pU_of (i := 614) rfl rfl
set_option maxRecDepth 20000 in
theorem u_580 : ((Jvm.Cond.selects "ViewBroadcast$Letter" ({ cls := "ViewBroadcast$Letter", name := "copyFrom", desc := "(LViewBroadcast$Letter;)V" } : Jvm.MethodName) ({ cls := "ViewBroadcast$Letter", name := "copyFrom", desc := "(LViewBroadcast$Letter;)V" } : Jvm.MethodName))) ∈ pU := pU_of (i := 615) rfl rfl
set_option maxRecDepth 20000 in
theorem u_581 : ((Jvm.Cond.code ({ cls := "ViewBroadcast$Letter", name := "copyFrom", desc := "(LViewBroadcast$Letter;)V" } : Jvm.MethodName) prog_3_method_3_code (2 : Nat) (Option.none : Option Jvm.ClassFile.FieldType))) ∈ pU := pU_of (i := 616) rfl rfl
set_option maxRecDepth 20000 in
theorem u_582 : ((Jvm.Cond.methodLink "ViewBroadcast$Letter" (39 : Nat) ({ cls := "ViewBroadcast$Letter", name := "write", desc := "(IIIII)V" } : Jvm.MethodName))) ∈ pU := pU_of (i := 617) rfl rfl
set_option maxRecDepth 20000 in
theorem u_583 : ((Jvm.Cond.methodLink "ViewBroadcast$Letter" (43 : Nat) ({ cls := "ViewBroadcast$NodeList", name := "copyFrom", desc := "(LViewBroadcast$NodeList;)V" } : Jvm.MethodName))) ∈ pU := pU_of (i := 618) rfl rfl
set_option maxRecDepth 20000 in
theorem u_584 : ((Jvm.Cond.methodLink "ViewBroadcast$World" (124 : Nat) ({ cls := "ViewBroadcast$Row", name := "removeAt", desc := "(I)V" } : Jvm.MethodName))) ∈ pU := pU_of (i := 619) rfl rfl
set_option maxRecDepth 20000 in
theorem u_585 : ((Jvm.Cond.instanceMethod ({ cls := "ViewBroadcast$Row", name := "removeAt", desc := "(I)V" } : Jvm.MethodName))) ∈ pU := pU_of (i := 620) rfl rfl
set_option maxRecDepth 20000 in
theorem u_586 : ((Jvm.Cond.selects "ViewBroadcast$Row" ({ cls := "ViewBroadcast$Row", name := "removeAt", desc := "(I)V" } : Jvm.MethodName) ({ cls := "ViewBroadcast$Row", name := "removeAt", desc := "(I)V" } : Jvm.MethodName))) ∈ pU := pU_of (i := 621) rfl rfl
set_option maxRecDepth 20000 in
theorem u_587 : ((Jvm.Cond.code ({ cls := "ViewBroadcast$Row", name := "removeAt", desc := "(I)V" } : Jvm.MethodName) prog_7_method_6_code (4 : Nat) (Option.none : Option Jvm.ClassFile.FieldType))) ∈ pU := pU_of (i := 622) rfl rfl
set_option maxRecDepth 20000 in
theorem u_588 : ((Jvm.Cond.methodLink "ViewBroadcast$Row" (32 : Nat) ({ cls := "ViewBroadcast$Row", name := "isLetter", desc := "(I)Z" } : Jvm.MethodName))) ∈ pU := pU_of (i := 623) rfl rfl
set_option maxRecDepth 20000 in
theorem u_589 : ((Jvm.Cond.methodLink "ViewBroadcast" (248 : Nat) ({ cls := "ViewBroadcast$Views", name := "onJoin", desc := "(LViewBroadcast$Node;I)V" } : Jvm.MethodName))) ∈ pU := pU_of (i := 624) rfl rfl
set_option maxRecDepth 20000 in
theorem u_590 : ((Jvm.Cond.instanceMethod ({ cls := "ViewBroadcast$Views", name := "onJoin", desc := "(LViewBroadcast$Node;I)V" } : Jvm.MethodName))) ∈ pU := pU_of (i := 625) rfl rfl
set_option maxRecDepth 20000 in
theorem u_591 : ((Jvm.Cond.selects "ViewBroadcast$Views" ({ cls := "ViewBroadcast$Views", name := "onJoin", desc := "(LViewBroadcast$Node;I)V" } : Jvm.MethodName) ({ cls := "ViewBroadcast$Views", name := "onJoin", desc := "(LViewBroadcast$Node;I)V" } : Jvm.MethodName))) ∈ pU := pU_of (i := 626) rfl rfl
set_option maxRecDepth 20000 in
theorem u_592 : ((Jvm.Cond.code ({ cls := "ViewBroadcast$Views", name := "onJoin", desc := "(LViewBroadcast$Node;I)V" } : Jvm.MethodName) prog_10_method_11_code (5 : Nat) (Option.none : Option Jvm.ClassFile.FieldType))) ∈ pU := pU_of (i := 627) rfl rfl
set_option maxRecDepth 20000 in
theorem u_593 : ((Jvm.Cond.methodLink "ViewBroadcast$Views" (112 : Nat) ({ cls := "ViewBroadcast$Views", name := "add", desc := "(LViewBroadcast$Node;I)V" } : Jvm.MethodName))) ∈ pU := pU_of (i := 628) rfl rfl
set_option maxRecDepth 20000 in
theorem u_594 : ((Jvm.Cond.instanceMethod ({ cls := "ViewBroadcast$Views", name := "add", desc := "(LViewBroadcast$Node;I)V" } : Jvm.MethodName))) ∈ pU := pU_of (i := 629) rfl rfl
set_option maxRecDepth 20000 in
theorem u_595 : ((Jvm.Cond.selects "ViewBroadcast$Views" ({ cls := "ViewBroadcast$Views", name := "add", desc := "(LViewBroadcast$Node;I)V" } : Jvm.MethodName) ({ cls := "ViewBroadcast$Views", name := "add", desc := "(LViewBroadcast$Node;I)V" } : Jvm.MethodName))) ∈ pU := pU_of (i := 630) rfl rfl
set_option maxRecDepth 20000 in
theorem u_596 : ((Jvm.Cond.code ({ cls := "ViewBroadcast$Views", name := "add", desc := "(LViewBroadcast$Node;I)V" } : Jvm.MethodName) prog_10_method_7_code (3 : Nat) (Option.none : Option Jvm.ClassFile.FieldType))) ∈ pU := pU_of (i := 631) rfl rfl
set_option maxRecDepth 20000 in
theorem u_597 : ((Jvm.Cond.methodLink "ViewBroadcast$Views" (74 : Nat) ({ cls := "ViewBroadcast$NodeList", name := "has", desc := "(I)Z" } : Jvm.MethodName))) ∈ pU := pU_of (i := 632) rfl rfl
set_option maxRecDepth 20000 in
theorem u_598 : ((Jvm.Cond.methodLink "ViewBroadcast$Views" (81 : Nat) ({ cls := "ViewBroadcast$NodeList", name := "remove", desc := "(I)V" } : Jvm.MethodName))) ∈ pU := pU_of (i := 633) rfl rfl
set_option maxRecDepth 20000 in
theorem u_599 : ((Jvm.Cond.instanceMethod ({ cls := "ViewBroadcast$NodeList", name := "remove", desc := "(I)V" } : Jvm.MethodName))) ∈ pU := pU_of (i := 634) rfl rfl
set_option maxRecDepth 20000 in
theorem u_600 : ((Jvm.Cond.selects "ViewBroadcast$NodeList" ({ cls := "ViewBroadcast$NodeList", name := "remove", desc := "(I)V" } : Jvm.MethodName) ({ cls := "ViewBroadcast$NodeList", name := "remove", desc := "(I)V" } : Jvm.MethodName))) ∈ pU := pU_of (i := 635) rfl rfl
set_option maxRecDepth 20000 in
theorem u_601 : ((Jvm.Cond.code ({ cls := "ViewBroadcast$NodeList", name := "remove", desc := "(I)V" } : Jvm.MethodName) prog_6_method_7_code (2 : Nat) (Option.none : Option Jvm.ClassFile.FieldType))) ∈ pU := pU_of (i := 636) rfl rfl
set_option maxRecDepth 20000 in
theorem u_602 : ((Jvm.Cond.methodLink "ViewBroadcast$NodeList" (29 : Nat) ({ cls := "ViewBroadcast$NodeList", name := "removeAt", desc := "(I)V" } : Jvm.MethodName))) ∈ pU := pU_of (i := 637) rfl rfl
set_option maxRecDepth 20000 in
theorem u_603 : ((Jvm.Cond.methodLink "ViewBroadcast$Views" (84 : Nat) ({ cls := "ViewBroadcast$Views", name := "isFull", desc := "(LViewBroadcast$Node;)Z" } : Jvm.MethodName))) ∈ pU := pU_of (i := 638) rfl rfl
set_option maxRecDepth 20000 in
theorem u_604 : ((Jvm.Cond.instanceMethod ({ cls := "ViewBroadcast$Views", name := "isFull", desc := "(LViewBroadcast$Node;)Z" } : Jvm.MethodName))) ∈ pU := pU_of (i := 639) rfl rfl
set_option maxRecDepth 20000 in
theorem u_605 : ((Jvm.Cond.selects "ViewBroadcast$Views" ({ cls := "ViewBroadcast$Views", name := "isFull", desc := "(LViewBroadcast$Node;)Z" } : Jvm.MethodName) ({ cls := "ViewBroadcast$Views", name := "isFull", desc := "(LViewBroadcast$Node;)Z" } : Jvm.MethodName))) ∈ pU := pU_of (i := 640) rfl rfl
set_option maxRecDepth 20000 in
theorem u_606 : ((Jvm.Cond.code ({ cls := "ViewBroadcast$Views", name := "isFull", desc := "(LViewBroadcast$Node;)Z" } : Jvm.MethodName) prog_10_method_6_code (2 : Nat) (Option.some Jvm.ClassFile.FieldType.boolean))) ∈ pU := pU_of (i := 641) rfl rfl
set_option maxRecDepth 20000 in
theorem u_607 : ((Jvm.Cond.methodLink "ViewBroadcast$Views" (88 : Nat) ({ cls := "ViewBroadcast$Views", name := "drop", desc := "(LViewBroadcast$Node;I)V" } : Jvm.MethodName))) ∈ pU := pU_of (i := 642) rfl rfl
set_option maxRecDepth 20000 in
theorem u_608 : ((Jvm.Cond.instanceMethod ({ cls := "ViewBroadcast$Views", name := "drop", desc := "(LViewBroadcast$Node;I)V" } : Jvm.MethodName))) ∈ pU := pU_of (i := 643) rfl rfl
set_option maxRecDepth 20000 in
theorem u_609 : ((Jvm.Cond.selects "ViewBroadcast$Views" ({ cls := "ViewBroadcast$Views", name := "drop", desc := "(LViewBroadcast$Node;I)V" } : Jvm.MethodName) ({ cls := "ViewBroadcast$Views", name := "drop", desc := "(LViewBroadcast$Node;I)V" } : Jvm.MethodName))) ∈ pU := pU_of (i := 644) rfl rfl
set_option maxRecDepth 20000 in
theorem u_610 : ((Jvm.Cond.code ({ cls := "ViewBroadcast$Views", name := "drop", desc := "(LViewBroadcast$Node;I)V" } : Jvm.MethodName) prog_10_method_8_code (3 : Nat) (Option.none : Option Jvm.ClassFile.FieldType))) ∈ pU := pU_of (i := 645) rfl rfl
set_option maxRecDepth 20000 in
theorem u_611 : ((Jvm.Cond.methodLink "ViewBroadcast$Views" (40 : Nat) ({ cls := "ViewBroadcast$World", name := "send", desc := "(IIIII)LViewBroadcast$Letter;" } : Jvm.MethodName))) ∈ pU := pU_of (i := 646) rfl rfl
set_option maxRecDepth 20000 in
theorem u_612 : ((Jvm.Cond.methodLink "ViewBroadcast$Views" (98 : Nat) ({ cls := "ViewBroadcast$Node", name := "unlink", desc := "(I)V" } : Jvm.MethodName))) ∈ pU := pU_of (i := 647) rfl rfl
set_option maxRecDepth 20000 in
theorem u_613 : ((Jvm.Cond.instanceMethod ({ cls := "ViewBroadcast$Node", name := "unlink", desc := "(I)V" } : Jvm.MethodName))) ∈ pU := pU_of (i := 648) rfl rfl
set_option maxRecDepth 20000 in
theorem u_614 : ((Jvm.Cond.selects "ViewBroadcast$Node" ({ cls := "ViewBroadcast$Node", name := "unlink", desc := "(I)V" } : Jvm.MethodName) ({ cls := "ViewBroadcast$Node", name := "unlink", desc := "(I)V" } : Jvm.MethodName))) ∈ pU := pU_of (i := 649) rfl rfl
set_option maxRecDepth 20000 in
theorem u_615 : ((Jvm.Cond.code ({ cls := "ViewBroadcast$Node", name := "unlink", desc := "(I)V" } : Jvm.MethodName) prog_5_method_12_code (3 : Nat) (Option.none : Option Jvm.ClassFile.FieldType))) ∈ pU := pU_of (i := 650) rfl rfl
set_option maxRecDepth 20000 in
theorem u_616 : ((Jvm.Cond.methodLink "ViewBroadcast$Node" (71 : Nat) ({ cls := "ViewBroadcast$NodeList", name := "remove", desc := "(I)V" } : Jvm.MethodName))) ∈ pU := pU_of (i := 651) rfl rfl
set_option maxRecDepth 20000 in
theorem u_617 : ((Jvm.Cond.methodLink "ViewBroadcast$Node" (74 : Nat) ({ cls := "ViewBroadcast$Node", name := "makeEager", desc := "(I)V" } : Jvm.MethodName))) ∈ pU := pU_of (i := 652) rfl rfl
set_option maxRecDepth 20000 in
theorem u_618 : ((Jvm.Cond.methodLink "ViewBroadcast$Views" (101 : Nat) ({ cls := "ViewBroadcast$Views", name := "note", desc := "(LViewBroadcast$Node;I)V" } : Jvm.MethodName))) ∈ pU := pU_of (i := 653) rfl rfl
set_option maxRecDepth 20000 in
theorem u_619 : ((Jvm.Cond.instanceMethod ({ cls := "ViewBroadcast$Views", name := "note", desc := "(LViewBroadcast$Node;I)V" } : Jvm.MethodName))) ∈ pU := pU_of (i := 654) rfl rfl
set_option maxRecDepth 20000 in
theorem u_620 : ((Jvm.Cond.selects "ViewBroadcast$Views" ({ cls := "ViewBroadcast$Views", name := "note", desc := "(LViewBroadcast$Node;I)V" } : Jvm.MethodName) ({ cls := "ViewBroadcast$Views", name := "note", desc := "(LViewBroadcast$Node;I)V" } : Jvm.MethodName))) ∈ pU := pU_of (i := 655) rfl rfl
set_option maxRecDepth 20000 in
theorem u_621 : ((Jvm.Cond.code ({ cls := "ViewBroadcast$Views", name := "note", desc := "(LViewBroadcast$Node;I)V" } : Jvm.MethodName) prog_10_method_9_code (3 : Nat) (Option.none : Option Jvm.ClassFile.FieldType))) ∈ pU := pU_of (i := 656) rfl rfl
set_option maxRecDepth 20000 in
theorem u_622 : ((Jvm.Cond.methodLink "ViewBroadcast$Views" (92 : Nat) ({ cls := "ViewBroadcast$Node", name := "makeEager", desc := "(I)V" } : Jvm.MethodName))) ∈ pU := pU_of (i := 657) rfl rfl
set_option maxRecDepth 20000 in
theorem u_623 : ((Jvm.Cond.methodLink "ViewBroadcast$Views" (109 : Nat) ({ cls := "ViewBroadcast$Views", name := "send", desc := "(LViewBroadcast$Node;IIII)V" } : Jvm.MethodName))) ∈ pU := pU_of (i := 658) rfl rfl
set_option maxRecDepth 20000 in
theorem u_624 : ((Jvm.Cond.instanceMethod ({ cls := "ViewBroadcast$Views", name := "send", desc := "(LViewBroadcast$Node;IIII)V" } : Jvm.MethodName))) ∈ pU := pU_of (i := 659) rfl rfl
set_option maxRecDepth 20000 in
theorem u_625 : ((Jvm.Cond.selects "ViewBroadcast$Views" ({ cls := "ViewBroadcast$Views", name := "send", desc := "(LViewBroadcast$Node;IIII)V" } : Jvm.MethodName) ({ cls := "ViewBroadcast$Views", name := "send", desc := "(LViewBroadcast$Node;IIII)V" } : Jvm.MethodName))) ∈ pU := pU_of (i := 660) rfl rfl
set_option maxRecDepth 20000 in
theorem u_626 : ((Jvm.Cond.code ({ cls := "ViewBroadcast$Views", name := "send", desc := "(LViewBroadcast$Node;IIII)V" } : Jvm.MethodName) prog_10_method_2_code (6 : Nat) (Option.none : Option Jvm.ClassFile.FieldType))) ∈ pU := pU_of (i := 661) rfl rfl
set_option maxRecDepth 20000 in
theorem u_627 : ((Jvm.Cond.methodLink "ViewBroadcast" (252 : Nat) ({ cls := "ViewBroadcast$Views", name := "onWalk", desc := "(LViewBroadcast$Node;III)V" } : Jvm.MethodName))) ∈ pU := pU_of (i := 662) rfl rfl
set_option maxRecDepth 20000 in
theorem u_628 : ((Jvm.Cond.instanceMethod ({ cls := "ViewBroadcast$Views", name := "onWalk", desc := "(LViewBroadcast$Node;III)V" } : Jvm.MethodName))) ∈ pU := pU_of (i := 663) rfl rfl
set_option maxRecDepth 20000 in
theorem u_629 : ((Jvm.Cond.selects "ViewBroadcast$Views" ({ cls := "ViewBroadcast$Views", name := "onWalk", desc := "(LViewBroadcast$Node;III)V" } : Jvm.MethodName) ({ cls := "ViewBroadcast$Views", name := "onWalk", desc := "(LViewBroadcast$Node;III)V" } : Jvm.MethodName))) ∈ pU := pU_of (i := 664) rfl rfl
set_option maxRecDepth 20000 in
theorem u_630 : ((Jvm.Cond.code ({ cls := "ViewBroadcast$Views", name := "onWalk", desc := "(LViewBroadcast$Node;III)V" } : Jvm.MethodName) prog_10_method_12_code (6 : Nat) (Option.none : Option Jvm.ClassFile.FieldType))) ∈ pU := pU_of (i := 665) rfl rfl
set_option maxRecDepth 20000 in
theorem u_631 : ((Jvm.Cond.methodLink "ViewBroadcast" (255 : Nat) ({ cls := "ViewBroadcast$Views", name := "onWelcome", desc := "(LViewBroadcast$Node;I)V" } : Jvm.MethodName))) ∈ pU := pU_of (i := 666) rfl rfl
set_option maxRecDepth 20000 in
theorem u_632 : ((Jvm.Cond.instanceMethod ({ cls := "ViewBroadcast$Views", name := "onWelcome", desc := "(LViewBroadcast$Node;I)V" } : Jvm.MethodName))) ∈ pU := pU_of (i := 667) rfl rfl
set_option maxRecDepth 20000 in
theorem u_633 : ((Jvm.Cond.selects "ViewBroadcast$Views" ({ cls := "ViewBroadcast$Views", name := "onWelcome", desc := "(LViewBroadcast$Node;I)V" } : Jvm.MethodName) ({ cls := "ViewBroadcast$Views", name := "onWelcome", desc := "(LViewBroadcast$Node;I)V" } : Jvm.MethodName))) ∈ pU := pU_of (i := 668) rfl rfl
set_option maxRecDepth 20000 in
theorem u_634 : ((Jvm.Cond.code ({ cls := "ViewBroadcast$Views", name := "onWelcome", desc := "(LViewBroadcast$Node;I)V" } : Jvm.MethodName) prog_10_method_13_code (3 : Nat) (Option.none : Option Jvm.ClassFile.FieldType))) ∈ pU := pU_of (i := 669) rfl rfl
set_option maxRecDepth 20000 in
theorem u_635 : ((Jvm.Cond.methodLink "ViewBroadcast" (258 : Nat) ({ cls := "ViewBroadcast$Views", name := "onParting", desc := "(LViewBroadcast$Node;I)V" } : Jvm.MethodName))) ∈ pU := pU_of (i := 670) rfl rfl
set_option maxRecDepth 20000 in
theorem u_636 : ((Jvm.Cond.instanceMethod ({ cls := "ViewBroadcast$Views", name := "onParting", desc := "(LViewBroadcast$Node;I)V" } : Jvm.MethodName))) ∈ pU := pU_of (i := 671) rfl rfl
set_option maxRecDepth 20000 in
theorem u_637 : ((Jvm.Cond.selects "ViewBroadcast$Views" ({ cls := "ViewBroadcast$Views", name := "onParting", desc := "(LViewBroadcast$Node;I)V" } : Jvm.MethodName) ({ cls := "ViewBroadcast$Views", name := "onParting", desc := "(LViewBroadcast$Node;I)V" } : Jvm.MethodName))) ∈ pU := pU_of (i := 672) rfl rfl
set_option maxRecDepth 20000 in
theorem u_638 : ((Jvm.Cond.code ({ cls := "ViewBroadcast$Views", name := "onParting", desc := "(LViewBroadcast$Node;I)V" } : Jvm.MethodName) prog_10_method_14_code (3 : Nat) (Option.none : Option Jvm.ClassFile.FieldType))) ∈ pU := pU_of (i := 673) rfl rfl
set_option maxRecDepth 20000 in
theorem u_639 : ((Jvm.Cond.methodLink "ViewBroadcast$Views" (125 : Nat) ({ cls := "ViewBroadcast$Views", name := "mend", desc := "(LViewBroadcast$Node;)V" } : Jvm.MethodName))) ∈ pU := pU_of (i := 674) rfl rfl
set_option maxRecDepth 20000 in
theorem u_640 : ((Jvm.Cond.instanceMethod ({ cls := "ViewBroadcast$Views", name := "mend", desc := "(LViewBroadcast$Node;)V" } : Jvm.MethodName))) ∈ pU := pU_of (i := 675) rfl rfl
set_option maxRecDepth 20000 in
theorem u_641 : ((Jvm.Cond.selects "ViewBroadcast$Views" ({ cls := "ViewBroadcast$Views", name := "mend", desc := "(LViewBroadcast$Node;)V" } : Jvm.MethodName) ({ cls := "ViewBroadcast$Views", name := "mend", desc := "(LViewBroadcast$Node;)V" } : Jvm.MethodName))) ∈ pU := pU_of (i := 676) rfl rfl
set_option maxRecDepth 20000 in
theorem u_642 : ((Jvm.Cond.code ({ cls := "ViewBroadcast$Views", name := "mend", desc := "(LViewBroadcast$Node;)V" } : Jvm.MethodName) prog_10_method_10_code (4 : Nat) (Option.none : Option Jvm.ClassFile.FieldType))) ∈ pU := pU_of (i := 677) rfl rfl
set_option maxRecDepth 20000 in
theorem u_643 : ((Jvm.Cond.methodLink "ViewBroadcast" (261 : Nat) ({ cls := "ViewBroadcast$Views", name := "onAsking", desc := "(LViewBroadcast$Node;II)V" } : Jvm.MethodName))) ∈ pU := pU_of (i := 678) rfl rfl
set_option maxRecDepth 20000 in
theorem u_644 : ((Jvm.Cond.instanceMethod ({ cls := "ViewBroadcast$Views", name := "onAsking", desc := "(LViewBroadcast$Node;II)V" } : Jvm.MethodName))) ∈ pU := pU_of (i := 679) rfl rfl
set_option maxRecDepth 20000 in
theorem u_645 : ((Jvm.Cond.selects "ViewBroadcast$Views" ({ cls := "ViewBroadcast$Views", name := "onAsking", desc := "(LViewBroadcast$Node;II)V" } : Jvm.MethodName) ({ cls := "ViewBroadcast$Views", name := "onAsking", desc := "(LViewBroadcast$Node;II)V" } : Jvm.MethodName))) ∈ pU := pU_of (i := 680) rfl rfl
set_option maxRecDepth 20000 in
theorem u_646 : ((Jvm.Cond.code ({ cls := "ViewBroadcast$Views", name := "onAsking", desc := "(LViewBroadcast$Node;II)V" } : Jvm.MethodName) prog_10_method_15_code (4 : Nat) (Option.none : Option Jvm.ClassFile.FieldType))) ∈ pU := pU_of (i := 681) rfl rfl
set_option maxRecDepth 20000 in
theorem u_647 : ((Jvm.Cond.methodLink "ViewBroadcast" (265 : Nat) ({ cls := "ViewBroadcast$Views", name := "onRefusal", desc := "(LViewBroadcast$Node;I)V" } : Jvm.MethodName))) ∈ pU := pU_of (i := 682) rfl rfl
set_option maxRecDepth 20000 in
theorem u_648 : ((Jvm.Cond.instanceMethod ({ cls := "ViewBroadcast$Views", name := "onRefusal", desc := "(LViewBroadcast$Node;I)V" } : Jvm.MethodName))) ∈ pU := pU_of (i := 683) rfl rfl
set_option maxRecDepth 20000 in
theorem u_649 : ((Jvm.Cond.selects "ViewBroadcast$Views" ({ cls := "ViewBroadcast$Views", name := "onRefusal", desc := "(LViewBroadcast$Node;I)V" } : Jvm.MethodName) ({ cls := "ViewBroadcast$Views", name := "onRefusal", desc := "(LViewBroadcast$Node;I)V" } : Jvm.MethodName))) ∈ pU := pU_of (i := 684) rfl rfl
set_option maxRecDepth 20000 in
theorem u_650 : ((Jvm.Cond.code ({ cls := "ViewBroadcast$Views", name := "onRefusal", desc := "(LViewBroadcast$Node;I)V" } : Jvm.MethodName) prog_10_method_16_code (3 : Nat) (Option.none : Option Jvm.ClassFile.FieldType))) ∈ pU := pU_of (i := 685) rfl rfl
set_option maxRecDepth 20000 in
theorem u_651 : ((Jvm.Cond.methodLink "ViewBroadcast" (268 : Nat) ({ cls := "ViewBroadcast$Views", name := "onMix", desc := "(LViewBroadcast$Node;LViewBroadcast$Letter;)V" } : Jvm.MethodName))) ∈ pU := pU_of (i := 686) rfl rfl
set_option maxRecDepth 20000 in
theorem u_652 : ((Jvm.Cond.instanceMethod ({ cls := "ViewBroadcast$Views", name := "onMix", desc := "(LViewBroadcast$Node;LViewBroadcast$Letter;)V" } : Jvm.MethodName))) ∈ pU := pU_of (i := 687) rfl rfl
set_option maxRecDepth 20000 in
theorem u_653 : ((Jvm.Cond.selects "ViewBroadcast$Views" ({ cls := "ViewBroadcast$Views", name := "onMix", desc := "(LViewBroadcast$Node;LViewBroadcast$Letter;)V" } : Jvm.MethodName) ({ cls := "ViewBroadcast$Views", name := "onMix", desc := "(LViewBroadcast$Node;LViewBroadcast$Letter;)V" } : Jvm.MethodName))) ∈ pU := pU_of (i := 688) rfl rfl
set_option maxRecDepth 20000 in
theorem u_654 : ((Jvm.Cond.code ({ cls := "ViewBroadcast$Views", name := "onMix", desc := "(LViewBroadcast$Node;LViewBroadcast$Letter;)V" } : Jvm.MethodName) prog_10_method_17_code (4 : Nat) (Option.none : Option Jvm.ClassFile.FieldType))) ∈ pU := pU_of (i := 689) rfl rfl
set_option maxRecDepth 20000 in
theorem u_655 : ((Jvm.Cond.methodLink "ViewBroadcast$Views" (147 : Nat) ({ cls := "ViewBroadcast$Views", name := "answerMix", desc := "(LViewBroadcast$Node;II)V" } : Jvm.MethodName))) ∈ pU := pU_of (i := 690) rfl rfl
set_option maxRecDepth 20000 in
theorem u_656 : ((Jvm.Cond.instanceMethod ({ cls := "ViewBroadcast$Views", name := "answerMix", desc := "(LViewBroadcast$Node;II)V" } : Jvm.MethodName))) ∈ pU := pU_of (i := 691) rfl rfl
set_option maxRecDepth 20000 in
theorem u_657 : ((Jvm.Cond.selects "ViewBroadcast$Views" ({ cls := "ViewBroadcast$Views", name := "answerMix", desc := "(LViewBroadcast$Node;II)V" } : Jvm.MethodName) ({ cls := "ViewBroadcast$Views", name := "answerMix", desc := "(LViewBroadcast$Node;II)V" } : Jvm.MethodName))) ∈ pU := pU_of (i := 692) rfl rfl
set_option maxRecDepth 20000 in
theorem u_658 : ((Jvm.Cond.code ({ cls := "ViewBroadcast$Views", name := "answerMix", desc := "(LViewBroadcast$Node;II)V" } : Jvm.MethodName) prog_10_method_18_code (4 : Nat) (Option.none : Option Jvm.ClassFile.FieldType))) ∈ pU := pU_of (i := 693) rfl rfl
set_option maxRecDepth 20000 in
theorem u_659 : ((Jvm.Cond.methodLink "ViewBroadcast$Views" (151 : Nat) ({ cls := "ViewBroadcast$Views", name := "takeList", desc := "(LViewBroadcast$Node;LViewBroadcast$NodeList;)V" } : Jvm.MethodName))) ∈ pU := pU_of (i := 694) rfl rfl
set_option maxRecDepth 20000 in
theorem u_660 : ((Jvm.Cond.instanceMethod ({ cls := "ViewBroadcast$Views", name := "takeList", desc := "(LViewBroadcast$Node;LViewBroadcast$NodeList;)V" } : Jvm.MethodName))) ∈ pU := pU_of (i := 695) rfl rfl
set_option maxRecDepth 20000 in
theorem u_661 : ((Jvm.Cond.selects "ViewBroadcast$Views" ({ cls := "ViewBroadcast$Views", name := "takeList", desc := "(LViewBroadcast$Node;LViewBroadcast$NodeList;)V" } : Jvm.MethodName) ({ cls := "ViewBroadcast$Views", name := "takeList", desc := "(LViewBroadcast$Node;LViewBroadcast$NodeList;)V" } : Jvm.MethodName))) ∈ pU := pU_of (i := 696) rfl rfl
set_option maxRecDepth 20000 in
theorem u_662 : ((Jvm.Cond.code ({ cls := "ViewBroadcast$Views", name := "takeList", desc := "(LViewBroadcast$Node;LViewBroadcast$NodeList;)V" } : Jvm.MethodName) prog_10_method_19_code (4 : Nat) (Option.none : Option Jvm.ClassFile.FieldType))) ∈ pU := pU_of (i := 697) rfl rfl
set_option maxRecDepth 20000 in
theorem u_663 : ((Jvm.Cond.methodLink "ViewBroadcast" (272 : Nat) ({ cls := "ViewBroadcast$Views", name := "takeList", desc := "(LViewBroadcast$Node;LViewBroadcast$NodeList;)V" } : Jvm.MethodName))) ∈ pU := pU_of (i := 698) rfl rfl
set_option maxRecDepth 20000 in
theorem u_664 : ((Jvm.Cond.methodLink "ViewBroadcast" (276 : Nat) ({ cls := "ViewBroadcast$Tales", name := "onTell", desc := "(LViewBroadcast$Node;III)V" } : Jvm.MethodName))) ∈ pU := pU_of (i := 699) rfl rfl
set_option maxRecDepth 20000 in
theorem u_665 : ((Jvm.Cond.instanceMethod ({ cls := "ViewBroadcast$Tales", name := "onTell", desc := "(LViewBroadcast$Node;III)V" } : Jvm.MethodName))) ∈ pU := pU_of (i := 700) rfl rfl
set_option maxRecDepth 20000 in
theorem u_666 : ((Jvm.Cond.selects "ViewBroadcast$Tales" ({ cls := "ViewBroadcast$Tales", name := "onTell", desc := "(LViewBroadcast$Node;III)V" } : Jvm.MethodName) ({ cls := "ViewBroadcast$Tales", name := "onTell", desc := "(LViewBroadcast$Node;III)V" } : Jvm.MethodName))) ∈ pU := pU_of (i := 701) rfl rfl
set_option maxRecDepth 20000 in
theorem u_667 : ((Jvm.Cond.code ({ cls := "ViewBroadcast$Tales", name := "onTell", desc := "(LViewBroadcast$Node;III)V" } : Jvm.MethodName) prog_9_method_4_code (5 : Nat) (Option.none : Option Jvm.ClassFile.FieldType))) ∈ pU := pU_of (i := 702) rfl rfl
set_option maxRecDepth 20000 in
theorem u_668 : ((Jvm.Cond.methodLink "ViewBroadcast$Tales" (51 : Nat) ({ cls := "ViewBroadcast$NodeList", name := "has", desc := "(I)Z" } : Jvm.MethodName))) ∈ pU := pU_of (i := 703) rfl rfl
set_option maxRecDepth 20000 in
theorem u_669 : ((Jvm.Cond.methodLink "ViewBroadcast$Tales" (54 : Nat) ({ cls := "ViewBroadcast$Node", name := "knows", desc := "(I)Z" } : Jvm.MethodName))) ∈ pU := pU_of (i := 704) rfl rfl
set_option maxRecDepth 20000 in
theorem u_670 : ((Jvm.Cond.instanceMethod ({ cls := "ViewBroadcast$Node", name := "knows", desc := "(I)Z" } : Jvm.MethodName))) ∈ pU := pU_of (i := 705) rfl rfl
set_option maxRecDepth 20000 in
theorem u_671 : ((Jvm.Cond.selects "ViewBroadcast$Node" ({ cls := "ViewBroadcast$Node", name := "knows", desc := "(I)Z" } : Jvm.MethodName) ({ cls := "ViewBroadcast$Node", name := "knows", desc := "(I)Z" } : Jvm.MethodName))) ∈ pU := pU_of (i := 706) rfl rfl
set_option maxRecDepth 20000 in
theorem u_672 : ((Jvm.Cond.code ({ cls := "ViewBroadcast$Node", name := "knows", desc := "(I)Z" } : Jvm.MethodName) prog_5_method_8_code (2 : Nat) (Option.some Jvm.ClassFile.FieldType.boolean))) ∈ pU := pU_of (i := 707) rfl rfl
set_option maxRecDepth 20000 in
theorem u_673 : ((Jvm.Cond.methodLink "ViewBroadcast$Node" (60 : Nat) ({ cls := "ViewBroadcast$Node", name := "hopsOf", desc := "(I)I" } : Jvm.MethodName))) ∈ pU := pU_of (i := 708) rfl rfl
set_option maxRecDepth 20000 in
theorem u_674 : ((Jvm.Cond.instanceMethod ({ cls := "ViewBroadcast$Node", name := "hopsOf", desc := "(I)I" } : Jvm.MethodName))) ∈ pU := pU_of (i := 709) rfl rfl
set_option maxRecDepth 20000 in
theorem u_675 : ((Jvm.Cond.selects "ViewBroadcast$Node" ({ cls := "ViewBroadcast$Node", name := "hopsOf", desc := "(I)I" } : Jvm.MethodName) ({ cls := "ViewBroadcast$Node", name := "hopsOf", desc := "(I)I" } : Jvm.MethodName))) ∈ pU := pU_of (i := 710) rfl rfl
set_option maxRecDepth 20000 in
theorem u_676 : ((Jvm.Cond.code ({ cls := "ViewBroadcast$Node", name := "hopsOf", desc := "(I)I" } : Jvm.MethodName) prog_5_method_6_code (2 : Nat) (Option.some Jvm.ClassFile.FieldType.int))) ∈ pU := pU_of (i := 711) rfl rfl
set_option maxRecDepth 20000 in
theorem u_677 : ((Jvm.Cond.methodLink "ViewBroadcast$Tales" (57 : Nat) ({ cls := "ViewBroadcast$Node", name := "makeLazy", desc := "(I)V" } : Jvm.MethodName))) ∈ pU := pU_of (i := 712) rfl rfl
set_option maxRecDepth 20000 in
theorem u_678 : ((Jvm.Cond.instanceMethod ({ cls := "ViewBroadcast$Node", name := "makeLazy", desc := "(I)V" } : Jvm.MethodName))) ∈ pU := pU_of (i := 713) rfl rfl
set_option maxRecDepth 20000 in
theorem u_679 : ((Jvm.Cond.selects "ViewBroadcast$Node" ({ cls := "ViewBroadcast$Node", name := "makeLazy", desc := "(I)V" } : Jvm.MethodName) ({ cls := "ViewBroadcast$Node", name := "makeLazy", desc := "(I)V" } : Jvm.MethodName))) ∈ pU := pU_of (i := 714) rfl rfl
set_option maxRecDepth 20000 in
theorem u_680 : ((Jvm.Cond.code ({ cls := "ViewBroadcast$Node", name := "makeLazy", desc := "(I)V" } : Jvm.MethodName) prog_5_method_4_code (2 : Nat) (Option.none : Option Jvm.ClassFile.FieldType))) ∈ pU := pU_of (i := 715) rfl rfl
set_option maxRecDepth 20000 in
theorem u_681 : ((Jvm.Cond.methodLink "ViewBroadcast$Tales" (64 : Nat) ({ cls := "ViewBroadcast$Tales", name := "hear", desc := "(LViewBroadcast$Node;III)V" } : Jvm.MethodName))) ∈ pU := pU_of (i := 716) rfl rfl
set_option maxRecDepth 20000 in
theorem u_682 : ((Jvm.Cond.methodLink "ViewBroadcast" (279 : Nat) ({ cls := "ViewBroadcast$Tales", name := "onNote", desc := "(LViewBroadcast$Node;II)V" } : Jvm.MethodName))) ∈ pU := pU_of (i := 717) rfl rfl
set_option maxRecDepth 20000 in
theorem u_683 : ((Jvm.Cond.instanceMethod ({ cls := "ViewBroadcast$Tales", name := "onNote", desc := "(LViewBroadcast$Node;II)V" } : Jvm.MethodName))) ∈ pU := pU_of (i := 718) rfl rfl
set_option maxRecDepth 20000 in
theorem u_684 : ((Jvm.Cond.selects "ViewBroadcast$Tales" ({ cls := "ViewBroadcast$Tales", name := "onNote", desc := "(LViewBroadcast$Node;II)V" } : Jvm.MethodName) ({ cls := "ViewBroadcast$Tales", name := "onNote", desc := "(LViewBroadcast$Node;II)V" } : Jvm.MethodName))) ∈ pU := pU_of (i := 719) rfl rfl
set_option maxRecDepth 20000 in
theorem u_685 : ((Jvm.Cond.code ({ cls := "ViewBroadcast$Tales", name := "onNote", desc := "(LViewBroadcast$Node;II)V" } : Jvm.MethodName) prog_9_method_5_code (5 : Nat) (Option.none : Option Jvm.ClassFile.FieldType))) ∈ pU := pU_of (i := 720) rfl rfl
set_option maxRecDepth 20000 in
theorem u_686 : ((Jvm.Cond.methodLink "ViewBroadcast$Tales" (96 : Nat) ({ cls := "ViewBroadcast$NodeList", name := "put", desc := "(I)V" } : Jvm.MethodName))) ∈ pU := pU_of (i := 721) rfl rfl
set_option maxRecDepth 20000 in
theorem u_687 : ((Jvm.Cond.methodLink "ViewBroadcast" (282 : Nat) ({ cls := "ViewBroadcast$Tales", name := "onChoice", desc := "(LViewBroadcast$Node;III)V" } : Jvm.MethodName))) ∈ pU := pU_of (i := 722) rfl rfl
set_option maxRecDepth 20000 in
theorem u_688 : ((Jvm.Cond.instanceMethod ({ cls := "ViewBroadcast$Tales", name := "onChoice", desc := "(LViewBroadcast$Node;III)V" } : Jvm.MethodName))) ∈ pU := pU_of (i := 723) rfl rfl
set_option maxRecDepth 20000 in
theorem u_689 : ((Jvm.Cond.selects "ViewBroadcast$Tales" ({ cls := "ViewBroadcast$Tales", name := "onChoice", desc := "(LViewBroadcast$Node;III)V" } : Jvm.MethodName) ({ cls := "ViewBroadcast$Tales", name := "onChoice", desc := "(LViewBroadcast$Node;III)V" } : Jvm.MethodName))) ∈ pU := pU_of (i := 724) rfl rfl
set_option maxRecDepth 20000 in
theorem u_690 : ((Jvm.Cond.code ({ cls := "ViewBroadcast$Tales", name := "onChoice", desc := "(LViewBroadcast$Node;III)V" } : Jvm.MethodName) prog_9_method_6_code (5 : Nat) (Option.none : Option Jvm.ClassFile.FieldType))) ∈ pU := pU_of (i := 725) rfl rfl
set_option maxRecDepth 20000 in
theorem u_691 : ((Jvm.Cond.methodLink "ViewBroadcast$Tales" (99 : Nat) ({ cls := "ViewBroadcast$Node", name := "hopsOf", desc := "(I)I" } : Jvm.MethodName))) ∈ pU := pU_of (i := 726) rfl rfl
set_option maxRecDepth 20000 in
theorem u_692 : ((Jvm.Cond.methodLink "ViewBroadcast" (285 : Nat) ({ cls := "ViewBroadcast$Views", name := "onStopped", desc := "(LViewBroadcast$Node;I)V" } : Jvm.MethodName))) ∈ pU := pU_of (i := 727) rfl rfl
set_option maxRecDepth 20000 in
theorem u_693 : ((Jvm.Cond.instanceMethod ({ cls := "ViewBroadcast$Views", name := "onStopped", desc := "(LViewBroadcast$Node;I)V" } : Jvm.MethodName))) ∈ pU := pU_of (i := 728) rfl rfl
set_option maxRecDepth 20000 in
theorem u_694 : ((Jvm.Cond.selects "ViewBroadcast$Views" ({ cls := "ViewBroadcast$Views", name := "onStopped", desc := "(LViewBroadcast$Node;I)V" } : Jvm.MethodName) ({ cls := "ViewBroadcast$Views", name := "onStopped", desc := "(LViewBroadcast$Node;I)V" } : Jvm.MethodName))) ∈ pU := pU_of (i := 729) rfl rfl
set_option maxRecDepth 20000 in
theorem u_695 : ((Jvm.Cond.code ({ cls := "ViewBroadcast$Views", name := "onStopped", desc := "(LViewBroadcast$Node;I)V" } : Jvm.MethodName) prog_10_method_20_code (3 : Nat) (Option.none : Option Jvm.ClassFile.FieldType))) ∈ pU := pU_of (i := 730) rfl rfl
set_option maxRecDepth 20000 in
theorem u_696 : ((Jvm.Cond.methodLink "ViewBroadcastLaw" (57 : Nat) ({ cls := "ViewBroadcast", name := "go", desc := "(I)I" } : Jvm.MethodName))) ∈ pU := pU_of (i := 731) rfl rfl
set_option maxRecDepth 20000 in
theorem u_697 : ((Jvm.Cond.instanceMethod ({ cls := "ViewBroadcast", name := "go", desc := "(I)I" } : Jvm.MethodName))) ∈ pU := pU_of (i := 732) rfl rfl
set_option maxRecDepth 20000 in
theorem u_698 : ((Jvm.Cond.selects "ViewBroadcast" ({ cls := "ViewBroadcast", name := "go", desc := "(I)I" } : Jvm.MethodName) ({ cls := "ViewBroadcast", name := "go", desc := "(I)I" } : Jvm.MethodName))) ∈ pU := pU_of (i := 733) rfl rfl
set_option maxRecDepth 20000 in
theorem u_699 : ((Jvm.Cond.code ({ cls := "ViewBroadcast", name := "go", desc := "(I)I" } : Jvm.MethodName) prog_1_method_12_code (3 : Nat) (Option.some Jvm.ClassFile.FieldType.int))) ∈ pU := pU_of (i := 734) rfl rfl
set_option maxRecDepth 20000 in
theorem u_700 : ((Jvm.Cond.methodLink "ViewBroadcastLaw" (61 : Nat) ({ cls := "ViewBroadcast", name := "view", desc := "(III)I" } : Jvm.MethodName))) ∈ pU := pU_of (i := 735) rfl rfl
set_option maxRecDepth 20000 in
theorem u_701 : ((Jvm.Cond.instanceMethod ({ cls := "ViewBroadcast", name := "view", desc := "(III)I" } : Jvm.MethodName))) ∈ pU := pU_of (i := 736) rfl rfl
set_option maxRecDepth 20000 in
theorem u_702 : ((Jvm.Cond.selects "ViewBroadcast" ({ cls := "ViewBroadcast", name := "view", desc := "(III)I" } : Jvm.MethodName) ({ cls := "ViewBroadcast", name := "view", desc := "(III)I" } : Jvm.MethodName))) ∈ pU := pU_of (i := 737) rfl rfl
set_option maxRecDepth 20000 in
theorem u_703 : ((Jvm.Cond.code ({ cls := "ViewBroadcast", name := "view", desc := "(III)I" } : Jvm.MethodName) prog_1_method_13_code (6 : Nat) (Option.some Jvm.ClassFile.FieldType.int))) ∈ pU := pU_of (i := 738) rfl rfl
set_option maxRecDepth 20000 in
theorem u_704 : ((Jvm.Cond.methodLink "ViewBroadcast" (147 : Nat) ({ cls := "ViewBroadcast$NodeList", name := "at", desc := "(I)I" } : Jvm.MethodName))) ∈ pU := pU_of (i := 739) rfl rfl
set_option maxRecDepth 20000 in
theorem u_705 : ((Jvm.Cond.methodLink "ViewBroadcastLaw" (65 : Nat) ({ cls := "ViewBroadcast", name := "how", desc := "(II)I" } : Jvm.MethodName))) ∈ pU := pU_of (i := 740) rfl rfl
set_option maxRecDepth 20000 in
theorem u_706 : ((Jvm.Cond.instanceMethod ({ cls := "ViewBroadcast", name := "how", desc := "(II)I" } : Jvm.MethodName))) ∈ pU := pU_of (i := 741) rfl rfl
set_option maxRecDepth 20000 in
theorem u_707 : ((Jvm.Cond.selects "ViewBroadcast" ({ cls := "ViewBroadcast", name := "how", desc := "(II)I" } : Jvm.MethodName) ({ cls := "ViewBroadcast", name := "how", desc := "(II)I" } : Jvm.MethodName))) ∈ pU := pU_of (i := 742) rfl rfl
set_option maxRecDepth 20000 in
theorem u_708 : ((Jvm.Cond.code ({ cls := "ViewBroadcast", name := "how", desc := "(II)I" } : Jvm.MethodName) prog_1_method_14_code (4 : Nat) (Option.some Jvm.ClassFile.FieldType.int))) ∈ pU := pU_of (i := 743) rfl rfl
set_option maxRecDepth 20000 in
theorem u_709 : ((Jvm.Cond.methodLink "ViewBroadcast" (150 : Nat) ({ cls := "ViewBroadcast$NodeList", name := "has", desc := "(I)Z" } : Jvm.MethodName))) ∈ pU := pU_of (i := 744) rfl rfl
set_option maxRecDepth 20000 in
theorem u_710 : ((Jvm.Cond.methodLink "ViewBroadcast" (153 : Nat) ({ cls := "ViewBroadcast$Node", name := "isLazy", desc := "(I)Z" } : Jvm.MethodName))) ∈ pU := pU_of (i := 745) rfl rfl
set_option maxRecDepth 20000 in
theorem u_711 : ((Jvm.Cond.methodLink "ViewBroadcastLaw" (69 : Nat) ({ cls := "ViewBroadcast", name := "heard", desc := "(II)I" } : Jvm.MethodName))) ∈ pU := pU_of (i := 746) rfl rfl
set_option maxRecDepth 20000 in
theorem u_712 : ((Jvm.Cond.instanceMethod ({ cls := "ViewBroadcast", name := "heard", desc := "(II)I" } : Jvm.MethodName))) ∈ pU := pU_of (i := 747) rfl rfl
set_option maxRecDepth 20000 in
theorem u_713 : ((Jvm.Cond.selects "ViewBroadcast" ({ cls := "ViewBroadcast", name := "heard", desc := "(II)I" } : Jvm.MethodName) ({ cls := "ViewBroadcast", name := "heard", desc := "(II)I" } : Jvm.MethodName))) ∈ pU := pU_of (i := 748) rfl rfl
set_option maxRecDepth 20000 in
theorem u_714 : ((Jvm.Cond.code ({ cls := "ViewBroadcast", name := "heard", desc := "(II)I" } : Jvm.MethodName) prog_1_method_15_code (3 : Nat) (Option.some Jvm.ClassFile.FieldType.int))) ∈ pU := pU_of (i := 749) rfl rfl
set_option maxRecDepth 20000 in
theorem u_715 : ((Jvm.Cond.methodLink "ViewBroadcast" (156 : Nat) ({ cls := "ViewBroadcast$World", name := "isTale", desc := "(I)Z" } : Jvm.MethodName))) ∈ pU := pU_of (i := 750) rfl rfl
set_option maxRecDepth 20000 in
theorem u_716 : ((Jvm.Cond.instanceMethod ({ cls := "ViewBroadcast$World", name := "isTale", desc := "(I)Z" } : Jvm.MethodName))) ∈ pU := pU_of (i := 751) rfl rfl
set_option maxRecDepth 20000 in
theorem u_717 : ((Jvm.Cond.selects "ViewBroadcast$World" ({ cls := "ViewBroadcast$World", name := "isTale", desc := "(I)Z" } : Jvm.MethodName) ({ cls := "ViewBroadcast$World", name := "isTale", desc := "(I)Z" } : Jvm.MethodName))) ∈ pU := pU_of (i := 752) rfl rfl
set_option maxRecDepth 20000 in
theorem u_718 : ((Jvm.Cond.code ({ cls := "ViewBroadcast$World", name := "isTale", desc := "(I)Z" } : Jvm.MethodName) prog_11_method_3_code (2 : Nat) (Option.some Jvm.ClassFile.FieldType.boolean))) ∈ pU := pU_of (i := 753) rfl rfl
set_option maxRecDepth 20000 in
theorem u_719 : ((Jvm.Cond.methodLink "ViewBroadcast" (159 : Nat) ({ cls := "ViewBroadcast$Node", name := "hopsOf", desc := "(I)I" } : Jvm.MethodName))) ∈ pU := pU_of (i := 754) rfl rfl
set_option maxRecDepth 20000 in
theorem u_720 : ((Jvm.Cond.methodLink "ViewBroadcastLaw" (73 : Nat) ({ cls := "ViewBroadcast", name := "missed", desc := "(II)I" } : Jvm.MethodName))) ∈ pU := pU_of (i := 755) rfl rfl
set_option maxRecDepth 20000 in
theorem u_721 : ((Jvm.Cond.instanceMethod ({ cls := "ViewBroadcast", name := "missed", desc := "(II)I" } : Jvm.MethodName))) ∈ pU := pU_of (i := 756) rfl rfl
set_option maxRecDepth 20000 in
theorem u_722 : ((Jvm.Cond.selects "ViewBroadcast" ({ cls := "ViewBroadcast", name := "missed", desc := "(II)I" } : Jvm.MethodName) ({ cls := "ViewBroadcast", name := "missed", desc := "(II)I" } : Jvm.MethodName))) ∈ pU := pU_of (i := 757) rfl rfl
set_option maxRecDepth 20000 in
theorem u_723 : ((Jvm.Cond.code ({ cls := "ViewBroadcast", name := "missed", desc := "(II)I" } : Jvm.MethodName) prog_1_method_16_code (3 : Nat) (Option.some Jvm.ClassFile.FieldType.int))) ∈ pU := pU_of (i := 758) rfl rfl
set_option maxRecDepth 20000 in
theorem u_724 : ((Jvm.Cond.methodLink "ViewBroadcast" (162 : Nat) ({ cls := "ViewBroadcast$Node", name := "missOf", desc := "(I)LViewBroadcast$Miss;" } : Jvm.MethodName))) ∈ pU := pU_of (i := 759) rfl rfl
set_option maxRecDepth 20000 in
theorem u_725 : ((Jvm.Cond.methodLink "ViewBroadcastLaw" (77 : Nat) ({ cls := "ViewBroadcast", name := "about", desc := "(II)I" } : Jvm.MethodName))) ∈ pU := pU_of (i := 760) rfl rfl
set_option maxRecDepth 20000 in
theorem u_726 : ((Jvm.Cond.instanceMethod ({ cls := "ViewBroadcast", name := "about", desc := "(II)I" } : Jvm.MethodName))) ∈ pU := pU_of (i := 761) rfl rfl
set_option maxRecDepth 20000 in
theorem u_727 : ((Jvm.Cond.selects "ViewBroadcast" ({ cls := "ViewBroadcast", name := "about", desc := "(II)I" } : Jvm.MethodName) ({ cls := "ViewBroadcast", name := "about", desc := "(II)I" } : Jvm.MethodName))) ∈ pU := pU_of (i := 762) rfl rfl
set_option maxRecDepth 20000 in
theorem u_728 : ((Jvm.Cond.code ({ cls := "ViewBroadcast", name := "about", desc := "(II)I" } : Jvm.MethodName) prog_1_method_17_code (4 : Nat) (Option.some Jvm.ClassFile.FieldType.int))) ∈ pU := pU_of (i := 763) rfl rfl
set_option maxRecDepth 20000 in
theorem u_729 : ((Jvm.Cond.methodLink "ViewBroadcast" (177 : Nat) ({ cls := "ViewBroadcast$Node", name := "heardCount", desc := "()I" } : Jvm.MethodName))) ∈ pU := pU_of (i := 764) rfl rfl
set_option maxRecDepth 20000 in
theorem u_730 : ((Jvm.Cond.instanceMethod ({ cls := "ViewBroadcast$Node", name := "heardCount", desc := "()I" } : Jvm.MethodName))) ∈ pU := pU_of (i := 765) rfl rfl
set_option maxRecDepth 20000 in
theorem u_731 : ((Jvm.Cond.selects "ViewBroadcast$Node" ({ cls := "ViewBroadcast$Node", name := "heardCount", desc := "()I" } : Jvm.MethodName) ({ cls := "ViewBroadcast$Node", name := "heardCount", desc := "()I" } : Jvm.MethodName))) ∈ pU := pU_of (i := 766) rfl rfl
set_option maxRecDepth 20000 in
theorem u_732 : ((Jvm.Cond.code ({ cls := "ViewBroadcast$Node", name := "heardCount", desc := "()I" } : Jvm.MethodName) prog_5_method_10_code (3 : Nat) (Option.some Jvm.ClassFile.FieldType.int))) ∈ pU := pU_of (i := 767) rfl rfl
set_option maxRecDepth 20000 in
theorem u_733 : ((Jvm.Cond.methodLink "ViewBroadcast$Node" (64 : Nat) ({ cls := "ViewBroadcast$Node", name := "knows", desc := "(I)Z" } : Jvm.MethodName))) ∈ pU := pU_of (i := 768) rfl rfl
set_option maxRecDepth 20000 in
theorem u_734 : ((Jvm.Cond.methodLink "ViewBroadcast" (180 : Nat) ({ cls := "ViewBroadcast$Node", name := "missedCount", desc := "()I" } : Jvm.MethodName))) ∈ pU := pU_of (i := 769) rfl rfl
set_option maxRecDepth 20000 in
theorem u_735 : ((Jvm.Cond.instanceMethod ({ cls := "ViewBroadcast$Node", name := "missedCount", desc := "()I" } : Jvm.MethodName))) ∈ pU := pU_of (i := 770) rfl rfl
set_option maxRecDepth 20000 in
theorem u_736 : ((Jvm.Cond.selects "ViewBroadcast$Node" ({ cls := "ViewBroadcast$Node", name := "missedCount", desc := "()I" } : Jvm.MethodName) ({ cls := "ViewBroadcast$Node", name := "missedCount", desc := "()I" } : Jvm.MethodName))) ∈ pU := pU_of (i := 771) rfl rfl
set_option maxRecDepth 20000 in
theorem u_737 : ((Jvm.Cond.code ({ cls := "ViewBroadcast$Node", name := "missedCount", desc := "()I" } : Jvm.MethodName) prog_5_method_11_code (3 : Nat) (Option.some Jvm.ClassFile.FieldType.int))) ∈ pU := pU_of (i := 772) rfl rfl
set_option maxRecDepth 20000 in
theorem u_738 : ((Jvm.Cond.methodLink "ViewBroadcastLaw" (81 : Nat) ({ cls := "ViewBroadcast", name := "letter", desc := "(II)I" } : Jvm.MethodName))) ∈ pU := pU_of (i := 773) rfl rfl
set_option maxRecDepth 20000 in
theorem u_739 : ((Jvm.Cond.instanceMethod ({ cls := "ViewBroadcast", name := "letter", desc := "(II)I" } : Jvm.MethodName))) ∈ pU := pU_of (i := 774) rfl rfl
set_option maxRecDepth 20000 in
theorem u_740 : ((Jvm.Cond.selects "ViewBroadcast" ({ cls := "ViewBroadcast", name := "letter", desc := "(II)I" } : Jvm.MethodName) ({ cls := "ViewBroadcast", name := "letter", desc := "(II)I" } : Jvm.MethodName))) ∈ pU := pU_of (i := 775) rfl rfl
set_option maxRecDepth 20000 in
theorem u_741 : ((Jvm.Cond.code ({ cls := "ViewBroadcast", name := "letter", desc := "(II)I" } : Jvm.MethodName) prog_1_method_18_code (4 : Nat) (Option.some Jvm.ClassFile.FieldType.int))) ∈ pU := pU_of (i := 776) rfl rfl
set_option maxRecDepth 20000 in
theorem u_742 : ((Jvm.Cond.methodLink "ViewBroadcast" (186 : Nat) ({ cls := "ViewBroadcast$Row", name := "at", desc := "(I)LViewBroadcast$Letter;" } : Jvm.MethodName))) ∈ pU := pU_of (i := 777) rfl rfl
set_option maxRecDepth 20000 in
theorem u_743 : ((Jvm.Cond.methodLink "ViewBroadcastLaw" (85 : Nat) ({ cls := "ViewBroadcast", name := "even", desc := "()I" } : Jvm.MethodName))) ∈ pU := pU_of (i := 778) rfl rfl
set_option maxRecDepth 20000 in
theorem u_744 : ((Jvm.Cond.instanceMethod ({ cls := "ViewBroadcast", name := "even", desc := "()I" } : Jvm.MethodName))) ∈ pU := pU_of (i := 779) rfl rfl
set_option maxRecDepth 20000 in
theorem u_745 : ((Jvm.Cond.selects "ViewBroadcast" ({ cls := "ViewBroadcast", name := "even", desc := "()I" } : Jvm.MethodName) ({ cls := "ViewBroadcast", name := "even", desc := "()I" } : Jvm.MethodName))) ∈ pU := pU_of (i := 780) rfl rfl
set_option maxRecDepth 20000 in
theorem u_746 : ((Jvm.Cond.code ({ cls := "ViewBroadcast", name := "even", desc := "()I" } : Jvm.MethodName) prog_1_method_19_code (1 : Nat) (Option.some Jvm.ClassFile.FieldType.int))) ∈ pU := pU_of (i := 781) rfl rfl
set_option maxRecDepth 20000 in
theorem u_747 : ((Jvm.Cond.methodLink "ViewBroadcast" (209 : Nat) ({ cls := "ViewBroadcast$World", name := "isEven", desc := "()Z" } : Jvm.MethodName))) ∈ pU := pU_of (i := 782) rfl rfl
set_option maxRecDepth 20000 in
theorem u_748 : ((Jvm.Cond.instanceMethod ({ cls := "ViewBroadcast$World", name := "isEven", desc := "()Z" } : Jvm.MethodName))) ∈ pU := pU_of (i := 783) rfl rfl
set_option maxRecDepth 20000 in
theorem u_749 : ((Jvm.Cond.selects "ViewBroadcast$World" ({ cls := "ViewBroadcast$World", name := "isEven", desc := "()Z" } : Jvm.MethodName) ({ cls := "ViewBroadcast$World", name := "isEven", desc := "()Z" } : Jvm.MethodName))) ∈ pU := pU_of (i := 784) rfl rfl
set_option maxRecDepth 20000 in
theorem u_750 : ((Jvm.Cond.code ({ cls := "ViewBroadcast$World", name := "isEven", desc := "()Z" } : Jvm.MethodName) prog_11_method_14_code (2 : Nat) (Option.some Jvm.ClassFile.FieldType.boolean))) ∈ pU := pU_of (i := 785) rfl rfl
set_option maxRecDepth 20000 in
theorem u_751 : ((Jvm.Cond.methodLink "ViewBroadcast$World" (160 : Nat) ({ cls := "ViewBroadcast$World", name := "hasOneSidedLink", desc := "(LViewBroadcast$Node;)Z" } : Jvm.MethodName))) ∈ pU := pU_of (i := 786) rfl rfl
set_option maxRecDepth 20000 in
theorem u_752 : ((Jvm.Cond.instanceMethod ({ cls := "ViewBroadcast$World", name := "hasOneSidedLink", desc := "(LViewBroadcast$Node;)Z" } : Jvm.MethodName))) ∈ pU := pU_of (i := 787) rfl rfl
set_option maxRecDepth 20000 in
theorem u_753 : ((Jvm.Cond.selects "ViewBroadcast$World" ({ cls := "ViewBroadcast$World", name := "hasOneSidedLink", desc := "(LViewBroadcast$Node;)Z" } : Jvm.MethodName) ({ cls := "ViewBroadcast$World", name := "hasOneSidedLink", desc := "(LViewBroadcast$Node;)Z" } : Jvm.MethodName))) ∈ pU := pU_of (i := 788) rfl rfl
set_option maxRecDepth 20000 in
theorem u_754 : ((Jvm.Cond.code ({ cls := "ViewBroadcast$World", name := "hasOneSidedLink", desc := "(LViewBroadcast$Node;)Z" } : Jvm.MethodName) prog_11_method_15_code (4 : Nat) (Option.some Jvm.ClassFile.FieldType.boolean))) ∈ pU := pU_of (i := 789) rfl rfl
set_option maxRecDepth 20000 in
theorem u_755 : ((Jvm.Cond.methodLink "ViewBroadcast$World" (165 : Nat) ({ cls := "ViewBroadcast$NodeList", name := "at", desc := "(I)I" } : Jvm.MethodName))) ∈ pU := pU_of (i := 790) rfl rfl
set_option maxRecDepth 20000 in
theorem u_756 : ((Jvm.Cond.methodLink "ViewBroadcastLaw" (89 : Nat) ({ cls := "ViewBroadcast", name := "reach", desc := "(I)I" } : Jvm.MethodName))) ∈ pU := pU_of (i := 791) rfl rfl
set_option maxRecDepth 20000 in
theorem u_757 : ((Jvm.Cond.instanceMethod ({ cls := "ViewBroadcast", name := "reach", desc := "(I)I" } : Jvm.MethodName))) ∈ pU := pU_of (i := 792) rfl rfl
set_option maxRecDepth 20000 in
theorem u_758 : ((Jvm.Cond.selects "ViewBroadcast" ({ cls := "ViewBroadcast", name := "reach", desc := "(I)I" } : Jvm.MethodName) ({ cls := "ViewBroadcast", name := "reach", desc := "(I)I" } : Jvm.MethodName))) ∈ pU := pU_of (i := 793) rfl rfl
set_option maxRecDepth 20000 in
theorem u_759 : ((Jvm.Cond.code ({ cls := "ViewBroadcast", name := "reach", desc := "(I)I" } : Jvm.MethodName) prog_1_method_20_code (3 : Nat) (Option.some Jvm.ClassFile.FieldType.int))) ∈ pU := pU_of (i := 794) rfl rfl
set_option maxRecDepth 20000 in
theorem u_760 : ((Jvm.Cond.methodLink "ViewBroadcast" (213 : Nat) ({ cls := "ViewBroadcast$World", name := "reachFrom", desc := "(I)I" } : Jvm.MethodName))) ∈ pU := pU_of (i := 795) rfl rfl
set_option maxRecDepth 20000 in
theorem u_761 : ((Jvm.Cond.instanceMethod ({ cls := "ViewBroadcast$World", name := "reachFrom", desc := "(I)I" } : Jvm.MethodName))) ∈ pU := pU_of (i := 796) rfl rfl
set_option maxRecDepth 20000 in
theorem u_762 : ((Jvm.Cond.selects "ViewBroadcast$World" ({ cls := "ViewBroadcast$World", name := "reachFrom", desc := "(I)I" } : Jvm.MethodName) ({ cls := "ViewBroadcast$World", name := "reachFrom", desc := "(I)I" } : Jvm.MethodName))) ∈ pU := pU_of (i := 797) rfl rfl
set_option maxRecDepth 20000 in
theorem u_763 : ((Jvm.Cond.code ({ cls := "ViewBroadcast$World", name := "reachFrom", desc := "(I)I" } : Jvm.MethodName) prog_11_method_16_code (5 : Nat) (Option.some Jvm.ClassFile.FieldType.int))) ∈ pU := pU_of (i := 798) rfl rfl
set_option maxRecDepth 20000 in
theorem u_764 : ((Jvm.Cond.methodLink "ViewBroadcast$World" (166 : Nat) ({ cls := "ViewBroadcast$World", name := "liveLinksOf", desc := "(LViewBroadcast$Node;)I" } : Jvm.MethodName))) ∈ pU := pU_of (i := 799) rfl rfl
set_option maxRecDepth 20000 in
theorem u_765 : ((Jvm.Cond.instanceMethod ({ cls := "ViewBroadcast$World", name := "liveLinksOf", desc := "(LViewBroadcast$Node;)I" } : Jvm.MethodName))) ∈ pU := pU_of (i := 800) rfl rfl
set_option maxRecDepth 20000 in
theorem u_766 : ((Jvm.Cond.selects "ViewBroadcast$World" ({ cls := "ViewBroadcast$World", name := "liveLinksOf", desc := "(LViewBroadcast$Node;)I" } : Jvm.MethodName) ({ cls := "ViewBroadcast$World", name := "liveLinksOf", desc := "(LViewBroadcast$Node;)I" } : Jvm.MethodName))) ∈ pU := pU_of (i := 801) rfl rfl
set_option maxRecDepth 20000 in
theorem u_767 : ((Jvm.Cond.code ({ cls := "ViewBroadcast$World", name := "liveLinksOf", desc := "(LViewBroadcast$Node;)I" } : Jvm.MethodName) prog_11_method_17_code (5 : Nat) (Option.some Jvm.ClassFile.FieldType.int))) ∈ pU := pU_of (i := 802) rfl rfl
set_option maxRecDepth 20000 in
theorem u_768 : ((Jvm.Cond.methodLink "ViewBroadcast$World" (170 : Nat) ({ cls := "java/lang/Integer", name := "bitCount", desc := "(I)I" } : Jvm.MethodName))) ∈ pU := pU_of (i := 803) rfl rfl
set_option maxRecDepth 20000 in
theorem u_769 : ((Jvm.Cond.static ({ cls := "java/lang/Integer", name := "bitCount", desc := "(I)I" } : Jvm.MethodName))) ∈ pU := pU_of (i := 804) rfl rfl
set_option maxRecDepth 20000 in
theorem u_770 : ((Jvm.Cond.code ({ cls := "java/lang/Integer", name := "bitCount", desc := "(I)I" } : Jvm.MethodName) prog_14_method_49_code (1 : Nat) (Option.some Jvm.ClassFile.FieldType.int))) ∈ pU := pU_of (i := 805) rfl rfl
set_option maxRecDepth 20000 in
theorem u_771 : ((Jvm.Cond.constant "java/lang/Integer" (265 : Nat) (1431655765 : Int32))) ∈ pU := pU_of (i := 806) rfl rfl
set_option maxRecDepth 20000 in
theorem u_772 : ((Jvm.Cond.constant "java/lang/Integer" (266 : Nat) (858993459 : Int32))) ∈ pU := pU_of (i := 807) rfl rfl
set_option maxRecDepth 20000 in
theorem u_773 : ((Jvm.Cond.constant "java/lang/Integer" (267 : Nat) (252645135 : Int32))) ∈ pU := pU_of (i := 808) rfl rfl
set_option maxRecDepth 20000 in
theorem u_774 : ((Jvm.Cond.methodLink "ViewBroadcastLaw" (93 : Nat) ({ cls := "ViewBroadcast", name := "came", desc := "(I)I" } : Jvm.MethodName))) ∈ pU := pU_of (i := 809) rfl rfl
set_option maxRecDepth 20000 in
theorem u_775 : ((Jvm.Cond.instanceMethod ({ cls := "ViewBroadcast", name := "came", desc := "(I)I" } : Jvm.MethodName))) ∈ pU := pU_of (i := 810) rfl rfl
set_option maxRecDepth 20000 in
theorem u_776 : ((Jvm.Cond.selects "ViewBroadcast" ({ cls := "ViewBroadcast", name := "came", desc := "(I)I" } : Jvm.MethodName) ({ cls := "ViewBroadcast", name := "came", desc := "(I)I" } : Jvm.MethodName))) ∈ pU := pU_of (i := 811) rfl rfl
set_option maxRecDepth 20000 in
theorem u_777 : ((Jvm.Cond.code ({ cls := "ViewBroadcast", name := "came", desc := "(I)I" } : Jvm.MethodName) prog_1_method_21_code (2 : Nat) (Option.some Jvm.ClassFile.FieldType.int))) ∈ pU := pU_of (i := 812) rfl rfl
set_option maxRecDepth 20000 in
theorem u_778 : ((Jvm.Cond.methodLink "ViewBroadcastLaw" (97 : Nat) ({ cls := "ViewBroadcast", name := "spread", desc := "(I)I" } : Jvm.MethodName))) ∈ pU := pU_of (i := 813) rfl rfl
set_option maxRecDepth 20000 in
theorem u_779 : ((Jvm.Cond.instanceMethod ({ cls := "ViewBroadcast", name := "spread", desc := "(I)I" } : Jvm.MethodName))) ∈ pU := pU_of (i := 814) rfl rfl
set_option maxRecDepth 20000 in
theorem u_780 : ((Jvm.Cond.selects "ViewBroadcast" ({ cls := "ViewBroadcast", name := "spread", desc := "(I)I" } : Jvm.MethodName) ({ cls := "ViewBroadcast", name := "spread", desc := "(I)I" } : Jvm.MethodName))) ∈ pU := pU_of (i := 815) rfl rfl
set_option maxRecDepth 20000 in
theorem u_781 : ((Jvm.Cond.code ({ cls := "ViewBroadcast", name := "spread", desc := "(I)I" } : Jvm.MethodName) prog_1_method_22_code (2 : Nat) (Option.some Jvm.ClassFile.FieldType.int))) ∈ pU := pU_of (i := 816) rfl rfl
set_option maxRecDepth 20000 in
theorem u_782 : ((Jvm.Cond.methodLink "ViewBroadcast" (220 : Nat) ({ cls := "ViewBroadcast$World", name := "hearersOf", desc := "(I)I" } : Jvm.MethodName))) ∈ pU := pU_of (i := 817) rfl rfl
set_option maxRecDepth 20000 in
theorem u_783 : ((Jvm.Cond.instanceMethod ({ cls := "ViewBroadcast$World", name := "hearersOf", desc := "(I)I" } : Jvm.MethodName))) ∈ pU := pU_of (i := 818) rfl rfl
set_option maxRecDepth 20000 in
theorem u_784 : ((Jvm.Cond.selects "ViewBroadcast$World" ({ cls := "ViewBroadcast$World", name := "hearersOf", desc := "(I)I" } : Jvm.MethodName) ({ cls := "ViewBroadcast$World", name := "hearersOf", desc := "(I)I" } : Jvm.MethodName))) ∈ pU := pU_of (i := 819) rfl rfl
set_option maxRecDepth 20000 in
theorem u_785 : ((Jvm.Cond.code ({ cls := "ViewBroadcast$World", name := "hearersOf", desc := "(I)I" } : Jvm.MethodName) prog_11_method_13_code (4 : Nat) (Option.some Jvm.ClassFile.FieldType.int))) ∈ pU := pU_of (i := 820) rfl rfl
set_option maxRecDepth 20000 in
theorem u_786 : ((Jvm.Cond.methodLink "ViewBroadcast$World" (157 : Nat) ({ cls := "ViewBroadcast$Node", name := "knows", desc := "(I)Z" } : Jvm.MethodName))) ∈ pU := pU_of (i := 821) rfl rfl
set_option maxRecDepth 20000 in
theorem u_787 : ((Jvm.Cond.methodLink "ViewBroadcastLaw" (101 : Nat) ({ cls := "ViewBroadcast", name := "told", desc := "(I)I" } : Jvm.MethodName))) ∈ pU := pU_of (i := 822) rfl rfl
set_option maxRecDepth 20000 in
theorem u_788 : ((Jvm.Cond.instanceMethod ({ cls := "ViewBroadcast", name := "told", desc := "(I)I" } : Jvm.MethodName))) ∈ pU := pU_of (i := 823) rfl rfl
set_option maxRecDepth 20000 in
theorem u_789 : ((Jvm.Cond.selects "ViewBroadcast" ({ cls := "ViewBroadcast", name := "told", desc := "(I)I" } : Jvm.MethodName) ({ cls := "ViewBroadcast", name := "told", desc := "(I)I" } : Jvm.MethodName))) ∈ pU := pU_of (i := 824) rfl rfl
set_option maxRecDepth 20000 in
theorem u_790 : ((Jvm.Cond.code ({ cls := "ViewBroadcast", name := "told", desc := "(I)I" } : Jvm.MethodName) prog_1_method_23_code (2 : Nat) (Option.some Jvm.ClassFile.FieldType.int))) ∈ pU := pU_of (i := 825) rfl rfl
set_option maxRecDepth 20000 in
theorem u_791 : ((Jvm.Cond.methodLink "ViewBroadcast" (223 : Nat) ({ cls := "ViewBroadcast$World", name := "liveCount", desc := "()I" } : Jvm.MethodName))) ∈ pU := pU_of (i := 826) rfl rfl
set_option maxRecDepth 20000 in
theorem u_792 : ((Jvm.Cond.instanceMethod ({ cls := "ViewBroadcast$World", name := "liveCount", desc := "()I" } : Jvm.MethodName))) ∈ pU := pU_of (i := 827) rfl rfl
set_option maxRecDepth 20000 in
theorem u_793 : ((Jvm.Cond.selects "ViewBroadcast$World" ({ cls := "ViewBroadcast$World", name := "liveCount", desc := "()I" } : Jvm.MethodName) ({ cls := "ViewBroadcast$World", name := "liveCount", desc := "()I" } : Jvm.MethodName))) ∈ pU := pU_of (i := 828) rfl rfl
set_option maxRecDepth 20000 in
theorem u_794 : ((Jvm.Cond.code ({ cls := "ViewBroadcast$World", name := "liveCount", desc := "()I" } : Jvm.MethodName) prog_11_method_12_code (3 : Nat) (Option.some Jvm.ClassFile.FieldType.int))) ∈ pU := pU_of (i := 829) rfl rfl
set_option maxRecDepth 20000 in
theorem u_795 : ((Jvm.Cond.methodLink "ViewBroadcastLaw" (105 : Nat) ({ cls := "ViewBroadcast", name := "keep", desc := "(I)I" } : Jvm.MethodName))) ∈ pU := pU_of (i := 830) rfl rfl
set_option maxRecDepth 20000 in
theorem u_796 : ((Jvm.Cond.instanceMethod ({ cls := "ViewBroadcast", name := "keep", desc := "(I)I" } : Jvm.MethodName))) ∈ pU := pU_of (i := 831) rfl rfl
set_option maxRecDepth 20000 in
theorem u_797 : ((Jvm.Cond.selects "ViewBroadcast" ({ cls := "ViewBroadcast", name := "keep", desc := "(I)I" } : Jvm.MethodName) ({ cls := "ViewBroadcast", name := "keep", desc := "(I)I" } : Jvm.MethodName))) ∈ pU := pU_of (i := 832) rfl rfl
set_option maxRecDepth 20000 in
theorem u_798 : ((Jvm.Cond.code ({ cls := "ViewBroadcast", name := "keep", desc := "(I)I" } : Jvm.MethodName) prog_1_method_24_code (2 : Nat) (Option.some Jvm.ClassFile.FieldType.int))) ∈ pU := pU_of (i := 833) rfl rfl
set_option maxRecDepth 20000 in
theorem u_799 : ((Jvm.Cond.methodLink "ViewBroadcast" (235 : Nat) ({ cls := "ViewBroadcast", name := "isPlace", desc := "(I)Z" } : Jvm.MethodName))) ∈ pU := pU_of (i := 834) rfl rfl
set_option maxRecDepth 20000 in
theorem u_800 : ((Jvm.Cond.static ({ cls := "ViewBroadcast", name := "isPlace", desc := "(I)Z" } : Jvm.MethodName))) ∈ pU := pU_of (i := 835) rfl rfl
set_option maxRecDepth 20000 in
theorem u_801 : ((Jvm.Cond.code ({ cls := "ViewBroadcast", name := "isPlace", desc := "(I)Z" } : Jvm.MethodName) prog_1_method_27_code (1 : Nat) (Option.some Jvm.ClassFile.FieldType.boolean))) ∈ pU := pU_of (i := 836) rfl rfl
set_option maxRecDepth 20000 in
theorem u_802 : ((Jvm.Cond.methodLink "ViewBroadcast" (238 : Nat) ({ cls := "ViewBroadcast$World", name := "copyFrom", desc := "(LViewBroadcast$World;)V" } : Jvm.MethodName))) ∈ pU := pU_of (i := 837) rfl rfl
set_option maxRecDepth 20000 in
theorem u_803 : ((Jvm.Cond.instanceMethod ({ cls := "ViewBroadcast$World", name := "copyFrom", desc := "(LViewBroadcast$World;)V" } : Jvm.MethodName))) ∈ pU := pU_of (i := 838) rfl rfl
set_option maxRecDepth 20000 in
theorem u_804 : ((Jvm.Cond.selects "ViewBroadcast$World" ({ cls := "ViewBroadcast$World", name := "copyFrom", desc := "(LViewBroadcast$World;)V" } : Jvm.MethodName) ({ cls := "ViewBroadcast$World", name := "copyFrom", desc := "(LViewBroadcast$World;)V" } : Jvm.MethodName))) ∈ pU := pU_of (i := 839) rfl rfl
set_option maxRecDepth 20000 in
theorem u_805 : ((Jvm.Cond.code ({ cls := "ViewBroadcast$World", name := "copyFrom", desc := "(LViewBroadcast$World;)V" } : Jvm.MethodName) prog_11_method_19_code (3 : Nat) (Option.none : Option Jvm.ClassFile.FieldType))) ∈ pU := pU_of (i := 840) rfl rfl
set_option maxRecDepth 20000 in
theorem u_806 : ((Jvm.Cond.methodLink "ViewBroadcast$World" (178 : Nat) ({ cls := "ViewBroadcast$Sizes", name := "copyFrom", desc := "(LViewBroadcast$Sizes;)V" } : Jvm.MethodName))) ∈ pU := pU_of (i := 841) rfl rfl
set_option maxRecDepth 20000 in
theorem u_807 : ((Jvm.Cond.instanceMethod ({ cls := "ViewBroadcast$Sizes", name := "copyFrom", desc := "(LViewBroadcast$Sizes;)V" } : Jvm.MethodName))) ∈ pU := pU_of (i := 842) rfl rfl
set_option maxRecDepth 20000 in
theorem u_808 : ((Jvm.Cond.selects "ViewBroadcast$Sizes" ({ cls := "ViewBroadcast$Sizes", name := "copyFrom", desc := "(LViewBroadcast$Sizes;)V" } : Jvm.MethodName) ({ cls := "ViewBroadcast$Sizes", name := "copyFrom", desc := "(LViewBroadcast$Sizes;)V" } : Jvm.MethodName))) ∈ pU := pU_of (i := 843) rfl rfl
set_option maxRecDepth 20000 in
theorem u_809 : ((Jvm.Cond.code ({ cls := "ViewBroadcast$Sizes", name := "copyFrom", desc := "(LViewBroadcast$Sizes;)V" } : Jvm.MethodName) prog_8_method_2_code (2 : Nat) (Option.none : Option Jvm.ClassFile.FieldType))) ∈ pU := pU_of (i := 844) rfl rfl
set_option maxRecDepth 20000 in
theorem u_810 : ((Jvm.Cond.methodLink "ViewBroadcast$World" (181 : Nat) ({ cls := "ViewBroadcast$Node", name := "copyFrom", desc := "(LViewBroadcast$Node;)V" } : Jvm.MethodName))) ∈ pU := pU_of (i := 845) rfl rfl
set_option maxRecDepth 20000 in
theorem u_811 : ((Jvm.Cond.instanceMethod ({ cls := "ViewBroadcast$Node", name := "copyFrom", desc := "(LViewBroadcast$Node;)V" } : Jvm.MethodName))) ∈ pU := pU_of (i := 846) rfl rfl
set_option maxRecDepth 20000 in
theorem u_812 : ((Jvm.Cond.selects "ViewBroadcast$Node" ({ cls := "ViewBroadcast$Node", name := "copyFrom", desc := "(LViewBroadcast$Node;)V" } : Jvm.MethodName) ({ cls := "ViewBroadcast$Node", name := "copyFrom", desc := "(LViewBroadcast$Node;)V" } : Jvm.MethodName))) ∈ pU := pU_of (i := 847) rfl rfl
set_option maxRecDepth 20000 in
theorem u_813 : ((Jvm.Cond.code ({ cls := "ViewBroadcast$Node", name := "copyFrom", desc := "(LViewBroadcast$Node;)V" } : Jvm.MethodName) prog_5_method_13_code (3 : Nat) (Option.none : Option Jvm.ClassFile.FieldType))) ∈ pU := pU_of (i := 848) rfl rfl
set_option maxRecDepth 20000 in
theorem u_814 : ((Jvm.Cond.methodLink "ViewBroadcast$Node" (80 : Nat) ({ cls := "ViewBroadcast$NodeList", name := "copyFrom", desc := "(LViewBroadcast$NodeList;)V" } : Jvm.MethodName))) ∈ pU := pU_of (i := 849) rfl rfl
set_option maxRecDepth 20000 in
theorem u_815 : ((Jvm.Cond.methodLink "ViewBroadcast$Node" (84 : Nat) ({ cls := "ViewBroadcast$Node", name := "missOf", desc := "(I)LViewBroadcast$Miss;" } : Jvm.MethodName))) ∈ pU := pU_of (i := 850) rfl rfl
set_option maxRecDepth 20000 in
theorem u_816 : ((Jvm.Cond.methodLink "ViewBroadcast$Node" (88 : Nat) ({ cls := "ViewBroadcast$Miss", name := "copyFrom", desc := "(LViewBroadcast$Miss;)V" } : Jvm.MethodName))) ∈ pU := pU_of (i := 851) rfl rfl
set_option maxRecDepth 20000 in
theorem u_817 : ((Jvm.Cond.instanceMethod ({ cls := "ViewBroadcast$Miss", name := "copyFrom", desc := "(LViewBroadcast$Miss;)V" } : Jvm.MethodName))) ∈ pU := pU_of (i := 852) rfl rfl
set_option maxRecDepth 20000 in
theorem u_818 : ((Jvm.Cond.selects "ViewBroadcast$Miss" ({ cls := "ViewBroadcast$Miss", name := "copyFrom", desc := "(LViewBroadcast$Miss;)V" } : Jvm.MethodName) ({ cls := "ViewBroadcast$Miss", name := "copyFrom", desc := "(LViewBroadcast$Miss;)V" } : Jvm.MethodName))) ∈ pU := pU_of (i := 853) rfl rfl
set_option maxRecDepth 20000 in
theorem u_819 : ((Jvm.Cond.code ({ cls := "ViewBroadcast$Miss", name := "copyFrom", desc := "(LViewBroadcast$Miss;)V" } : Jvm.MethodName) prog_4_method_3_code (2 : Nat) (Option.none : Option Jvm.ClassFile.FieldType))) ∈ pU := pU_of (i := 854) rfl rfl
set_option maxRecDepth 20000 in
theorem u_820 : ((Jvm.Cond.methodLink "ViewBroadcast$Miss" (31 : Nat) ({ cls := "ViewBroadcast$NodeList", name := "copyFrom", desc := "(LViewBroadcast$NodeList;)V" } : Jvm.MethodName))) ∈ pU := pU_of (i := 855) rfl rfl
set_option maxRecDepth 20000 in
theorem u_821 : ((Jvm.Cond.methodLink "ViewBroadcast$World" (184 : Nat) ({ cls := "ViewBroadcast$Row", name := "copyFrom", desc := "(LViewBroadcast$Row;)V" } : Jvm.MethodName))) ∈ pU := pU_of (i := 856) rfl rfl
set_option maxRecDepth 20000 in
theorem u_822 : ((Jvm.Cond.instanceMethod ({ cls := "ViewBroadcast$Row", name := "copyFrom", desc := "(LViewBroadcast$Row;)V" } : Jvm.MethodName))) ∈ pU := pU_of (i := 857) rfl rfl
set_option maxRecDepth 20000 in
theorem u_823 : ((Jvm.Cond.selects "ViewBroadcast$Row" ({ cls := "ViewBroadcast$Row", name := "copyFrom", desc := "(LViewBroadcast$Row;)V" } : Jvm.MethodName) ({ cls := "ViewBroadcast$Row", name := "copyFrom", desc := "(LViewBroadcast$Row;)V" } : Jvm.MethodName))) ∈ pU := pU_of (i := 858) rfl rfl
set_option maxRecDepth 20000 in
theorem u_824 : ((Jvm.Cond.code ({ cls := "ViewBroadcast$Row", name := "copyFrom", desc := "(LViewBroadcast$Row;)V" } : Jvm.MethodName) prog_7_method_10_code (3 : Nat) (Option.none : Option Jvm.ClassFile.FieldType))) ∈ pU := pU_of (i := 859) rfl rfl
set_option maxRecDepth 20000 in
theorem u_825 : ((Jvm.Cond.methodLink "ViewBroadcast$Row" (50 : Nat) ({ cls := "ViewBroadcast$Letter", name := "copyFrom", desc := "(LViewBroadcast$Letter;)V" } : Jvm.MethodName))) ∈ pU := pU_of (i := 860) rfl rfl
set_option maxRecDepth 20000 in
theorem u_826 : ((Jvm.Cond.methodLink "ViewBroadcastLaw" (109 : Nat) ({ cls := "ViewBroadcast", name := "back", desc := "(I)I" } : Jvm.MethodName))) ∈ pU := pU_of (i := 861) rfl rfl
set_option maxRecDepth 20000 in
theorem u_827 : ((Jvm.Cond.instanceMethod ({ cls := "ViewBroadcast", name := "back", desc := "(I)I" } : Jvm.MethodName))) ∈ pU := pU_of (i := 862) rfl rfl
set_option maxRecDepth 20000 in
theorem u_828 : ((Jvm.Cond.selects "ViewBroadcast" ({ cls := "ViewBroadcast", name := "back", desc := "(I)I" } : Jvm.MethodName) ({ cls := "ViewBroadcast", name := "back", desc := "(I)I" } : Jvm.MethodName))) ∈ pU := pU_of (i := 863) rfl rfl
set_option maxRecDepth 20000 in
theorem u_829 : ((Jvm.Cond.code ({ cls := "ViewBroadcast", name := "back", desc := "(I)I" } : Jvm.MethodName) prog_1_method_25_code (2 : Nat) (Option.some Jvm.ClassFile.FieldType.int))) ∈ pU := pU_of (i := 864) rfl rfl
set_option maxRecDepth 20000 in
theorem u_830 : ((Jvm.Cond.methodLink "ViewBroadcastLaw" (113 : Nat) ({ cls := "ViewBroadcast", name := "differs", desc := "(I)I" } : Jvm.MethodName))) ∈ pU := pU_of (i := 865) rfl rfl
set_option maxRecDepth 20000 in
theorem u_831 : ((Jvm.Cond.instanceMethod ({ cls := "ViewBroadcast", name := "differs", desc := "(I)I" } : Jvm.MethodName))) ∈ pU := pU_of (i := 866) rfl rfl
set_option maxRecDepth 20000 in
theorem u_832 : ((Jvm.Cond.selects "ViewBroadcast" ({ cls := "ViewBroadcast", name := "differs", desc := "(I)I" } : Jvm.MethodName) ({ cls := "ViewBroadcast", name := "differs", desc := "(I)I" } : Jvm.MethodName))) ∈ pU := pU_of (i := 867) rfl rfl
set_option maxRecDepth 20000 in
theorem u_833 : ((Jvm.Cond.code ({ cls := "ViewBroadcast", name := "differs", desc := "(I)I" } : Jvm.MethodName) prog_1_method_26_code (2 : Nat) (Option.some Jvm.ClassFile.FieldType.int))) ∈ pU := pU_of (i := 868) rfl rfl
set_option maxRecDepth 20000 in
theorem u_834 : ((Jvm.Cond.methodLink "ViewBroadcast" (241 : Nat) ({ cls := "ViewBroadcast$World", name := "firstOtherNode", desc := "(LViewBroadcast$World;)I" } : Jvm.MethodName))) ∈ pU := pU_of (i := 869) rfl rfl
set_option maxRecDepth 20000 in
theorem u_835 : ((Jvm.Cond.instanceMethod ({ cls := "ViewBroadcast$World", name := "firstOtherNode", desc := "(LViewBroadcast$World;)I" } : Jvm.MethodName))) ∈ pU := pU_of (i := 870) rfl rfl
set_option maxRecDepth 20000 in
theorem u_836 : ((Jvm.Cond.selects "ViewBroadcast$World" ({ cls := "ViewBroadcast$World", name := "firstOtherNode", desc := "(LViewBroadcast$World;)I" } : Jvm.MethodName) ({ cls := "ViewBroadcast$World", name := "firstOtherNode", desc := "(LViewBroadcast$World;)I" } : Jvm.MethodName))) ∈ pU := pU_of (i := 871) rfl rfl
set_option maxRecDepth 20000 in
theorem u_837 : ((Jvm.Cond.code ({ cls := "ViewBroadcast$World", name := "firstOtherNode", desc := "(LViewBroadcast$World;)I" } : Jvm.MethodName) prog_11_method_18_code (3 : Nat) (Option.some Jvm.ClassFile.FieldType.int))) ∈ pU := pU_of (i := 872) rfl rfl
set_option maxRecDepth 20000 in
theorem u_838 : ((Jvm.Cond.methodLink "ViewBroadcast$World" (175 : Nat) ({ cls := "ViewBroadcast$Node", name := "looksLike", desc := "(LViewBroadcast$Node;)Z" } : Jvm.MethodName))) ∈ pU := pU_of (i := 873) rfl rfl
set_option maxRecDepth 20000 in
theorem u_839 : ((Jvm.Cond.instanceMethod ({ cls := "ViewBroadcast$Node", name := "looksLike", desc := "(LViewBroadcast$Node;)Z" } : Jvm.MethodName))) ∈ pU := pU_of (i := 874) rfl rfl
set_option maxRecDepth 20000 in
theorem u_840 : ((Jvm.Cond.selects "ViewBroadcast$Node" ({ cls := "ViewBroadcast$Node", name := "looksLike", desc := "(LViewBroadcast$Node;)Z" } : Jvm.MethodName) ({ cls := "ViewBroadcast$Node", name := "looksLike", desc := "(LViewBroadcast$Node;)Z" } : Jvm.MethodName))) ∈ pU := pU_of (i := 875) rfl rfl
set_option maxRecDepth 20000 in
theorem u_841 : ((Jvm.Cond.code ({ cls := "ViewBroadcast$Node", name := "looksLike", desc := "(LViewBroadcast$Node;)Z" } : Jvm.MethodName) prog_5_method_14_code (3 : Nat) (Option.some Jvm.ClassFile.FieldType.boolean))) ∈ pU := pU_of (i := 876) rfl rfl
set_option maxRecDepth 20000 in
theorem u_842 : ((Jvm.Cond.methodLink "ViewBroadcast$Node" (91 : Nat) ({ cls := "ViewBroadcast$NodeList", name := "isSameAs", desc := "(LViewBroadcast$NodeList;)Z" } : Jvm.MethodName))) ∈ pU := pU_of (i := 877) rfl rfl
set_option maxRecDepth 20000 in
theorem u_843 : ((Jvm.Cond.instanceMethod ({ cls := "ViewBroadcast$NodeList", name := "isSameAs", desc := "(LViewBroadcast$NodeList;)Z" } : Jvm.MethodName))) ∈ pU := pU_of (i := 878) rfl rfl
set_option maxRecDepth 20000 in
theorem u_844 : ((Jvm.Cond.selects "ViewBroadcast$NodeList" ({ cls := "ViewBroadcast$NodeList", name := "isSameAs", desc := "(LViewBroadcast$NodeList;)Z" } : Jvm.MethodName) ({ cls := "ViewBroadcast$NodeList", name := "isSameAs", desc := "(LViewBroadcast$NodeList;)Z" } : Jvm.MethodName))) ∈ pU := pU_of (i := 879) rfl rfl
set_option maxRecDepth 20000 in
theorem u_845 : ((Jvm.Cond.code ({ cls := "ViewBroadcast$NodeList", name := "isSameAs", desc := "(LViewBroadcast$NodeList;)Z" } : Jvm.MethodName) prog_6_method_10_code (3 : Nat) (Option.some Jvm.ClassFile.FieldType.boolean))) ∈ pU := pU_of (i := 880) rfl rfl
set_option maxRecDepth 20000 in
theorem u_846 : ((Jvm.Cond.classLink "ViewBroadcastLaw" (10 : Nat) "ViewBroadcastModel")) ∈ pU := pU_of (i := 881) rfl rfl
set_option maxRecDepth 20000 in
theorem u_847 : ((Jvm.Cond.instantiable "ViewBroadcastModel" (16 : Nat))) ∈ pU := pU_of (i := 882) rfl rfl
set_option maxRecDepth 20000 in
theorem u_848 : ((Jvm.Cond.methodLink "ViewBroadcastLaw" (12 : Nat) ({ cls := "ViewBroadcastModel", name := "<init>", desc := "()V" } : Jvm.MethodName))) ∈ pU := pU_of (i := 883) rfl rfl
set_option maxRecDepth 20000 in
theorem u_849 : ((Jvm.Cond.instanceMethod ({ cls := "ViewBroadcastModel", name := "<init>", desc := "()V" } : Jvm.MethodName))) ∈ pU := pU_of (i := 884) rfl rfl
set_option maxRecDepth 20000 in
theorem u_850 : ((Jvm.Cond.code ({ cls := "ViewBroadcastModel", name := "<init>", desc := "()V" } : Jvm.MethodName) prog_13_method_1_code (1 : Nat) (Option.none : Option Jvm.ClassFile.FieldType))) ∈ pU := pU_of (i := 885) rfl rfl
set_option maxRecDepth 20000 in
theorem u_851 : ((Jvm.Cond.methodLink "ViewBroadcastModel" (1 : Nat) ({ cls := "java/lang/Object", name := "<init>", desc := "()V" } : Jvm.MethodName))) ∈ pU := pU_of (i := 886) rfl rfl
set_option maxRecDepth 20000 in
theorem u_852 : ((Jvm.Cond.fieldLink "ViewBroadcastModel" (7 : Nat) "ViewBroadcastModel" "z" "[I")) ∈ pU := pU_of (i := 887) rfl rfl
set_option maxRecDepth 20000 in
theorem u_853 : ((Jvm.Cond.fieldLink "ViewBroadcastModel" (13 : Nat) "ViewBroadcastModel" "mostActive" "I")) ∈ pU := pU_of (i := 888) rfl rfl
set_option maxRecDepth 20000 in
theorem u_854 : ((Jvm.Cond.fieldLink "ViewBroadcastModel" (17 : Nat) "ViewBroadcastModel" "mostPassive" "I")) ∈ pU := pU_of (i := 889) rfl rfl
set_option maxRecDepth 20000 in
theorem u_855 : ((Jvm.Cond.fieldLink "ViewBroadcastModel" (20 : Nat) "ViewBroadcastModel" "far" "I")) ∈ pU := pU_of (i := 890) rfl rfl
set_option maxRecDepth 20000 in
theorem u_856 : ((Jvm.Cond.fieldLink "ViewBroadcastModel" (23 : Nat) "ViewBroadcastModel" "near" "I")) ∈ pU := pU_of (i := 891) rfl rfl
set_option maxRecDepth 20000 in
theorem u_857 : ((Jvm.Cond.fieldLink "ViewBroadcastModel" (26 : Nat) "ViewBroadcastModel" "wait" "I")) ∈ pU := pU_of (i := 892) rfl rfl
set_option maxRecDepth 20000 in
theorem u_858 : ((Jvm.Cond.fieldLink "ViewBroadcastModel" (29 : Nat) "ViewBroadcastModel" "coins" "[I")) ∈ pU := pU_of (i := 893) rfl rfl
set_option maxRecDepth 20000 in
theorem u_859 : ((Jvm.Cond.fieldLink "ViewBroadcastModel" (65 : Nat) "ViewBroadcastModel" "coinMany" "I")) ∈ pU := pU_of (i := 894) rfl rfl
set_option maxRecDepth 20000 in
theorem u_860 : ((Jvm.Cond.fieldLink "ViewBroadcastModel" (32 : Nat) "ViewBroadcastModel" "list" "[I")) ∈ pU := pU_of (i := 895) rfl rfl
set_option maxRecDepth 20000 in
theorem u_861 : ((Jvm.Cond.fieldLink "ViewBroadcastModel" (121 : Nat) "ViewBroadcastModel" "listMany" "I")) ∈ pU := pU_of (i := 896) rfl rfl
set_option maxRecDepth 20000 in
theorem u_862 : ((Jvm.Cond.fieldLink "ViewBroadcastModel" (35 : Nat) "ViewBroadcastModel" "some" "[I")) ∈ pU := pU_of (i := 897) rfl rfl
set_option maxRecDepth 20000 in
theorem u_863 : ((Jvm.Cond.fieldLink "ViewBroadcastModel" (38 : Nat) "ViewBroadcastModel" "got" "[I")) ∈ pU := pU_of (i := 898) rfl rfl
set_option maxRecDepth 20000 in
theorem u_864 : ((Jvm.Cond.fieldLink "ViewBroadcastModel" (153 : Nat) "ViewBroadcastModel" "gotMany" "I")) ∈ pU := pU_of (i := 899) rfl rfl
set_option maxRecDepth 20000 in
theorem u_865 : ((Jvm.Cond.fieldLink "ViewBroadcastModel" (41 : Nat) "ViewBroadcastModel" "kept" "[I")) ∈ pU := pU_of (i := 900) rfl rfl
set_option maxRecDepth 20000 in
theorem u_866 : ((Jvm.Cond.fieldLink "ViewBroadcastModel" (44 : Nat) "ViewBroadcastModel" "isKept" "[Z")) ∈ pU := pU_of (i := 901) rfl rfl
set_option maxRecDepth 20000 in
theorem u_867 : ((Jvm.Cond.fieldLink "ViewBroadcastModel" (48 : Nat) "ViewBroadcastModel" "keptSizes" "[I")) ∈ pU := pU_of (i := 902) rfl rfl
set_option maxRecDepth 20000 in
theorem u_901 : ((Jvm.Cond.methodLink "ViewBroadcastLaw" (17 : Nat) ({ cls := "ViewBroadcastModel", name := "sizes", desc := "(II)I" } : Jvm.MethodName))) ∈ pU := pU_of (i := 936) rfl rfl
set_option maxRecDepth 20000 in
theorem u_902 : ((Jvm.Cond.instanceMethod ({ cls := "ViewBroadcastModel", name := "sizes", desc := "(II)I" } : Jvm.MethodName))) ∈ pU := pU_of (i := 937) rfl rfl
set_option maxRecDepth 20000 in
theorem u_903 : ((Jvm.Cond.selects "ViewBroadcastModel" ({ cls := "ViewBroadcastModel", name := "sizes", desc := "(II)I" } : Jvm.MethodName) ({ cls := "ViewBroadcastModel", name := "sizes", desc := "(II)I" } : Jvm.MethodName))) ∈ pU := pU_of (i := 938) rfl rfl
set_option maxRecDepth 20000 in
theorem u_904 : ((Jvm.Cond.code ({ cls := "ViewBroadcastModel", name := "sizes", desc := "(II)I" } : Jvm.MethodName) prog_13_method_6_code (3 : Nat) (Option.some Jvm.ClassFile.FieldType.int))) ∈ pU := pU_of (i := 939) rfl rfl
set_option maxRecDepth 20000 in
theorem u_905 : ((Jvm.Cond.constantLong "ViewBroadcastModel" (55 : Nat) (2 : Int64))) ∈ pU := pU_of (i := 940) rfl rfl
set_option maxRecDepth 20000 in
theorem u_906 : ((Jvm.Cond.constantLong "ViewBroadcastModel" (57 : Nat) (5 : Int64))) ∈ pU := pU_of (i := 941) rfl rfl
set_option maxRecDepth 20000 in
theorem u_907 : ((Jvm.Cond.methodLink "ViewBroadcastModel" (51 : Nat) ({ cls := "ViewBroadcastModel", name := "in", desc := "(JJJ)Z" } : Jvm.MethodName))) ∈ pU := pU_of (i := 942) rfl rfl
set_option maxRecDepth 20000 in
theorem u_908 : ((Jvm.Cond.static ({ cls := "ViewBroadcastModel", name := "in", desc := "(JJJ)Z" } : Jvm.MethodName))) ∈ pU := pU_of (i := 943) rfl rfl
set_option maxRecDepth 20000 in
theorem u_909 : ((Jvm.Cond.code ({ cls := "ViewBroadcastModel", name := "in", desc := "(JJJ)Z" } : Jvm.MethodName) prog_13_method_3_code (6 : Nat) (Option.some Jvm.ClassFile.FieldType.boolean))) ∈ pU := pU_of (i := 944) rfl rfl
set_option maxRecDepth 20000 in
theorem u_910 : ((Jvm.Cond.constantLong "ViewBroadcastModel" (59 : Nat) (8 : Int64))) ∈ pU := pU_of (i := 945) rfl rfl
set_option maxRecDepth 20000 in
theorem u_911 : ((Jvm.Cond.methodLink "ViewBroadcastLaw" (22 : Nat) ({ cls := "ViewBroadcastModel", name := "walks", desc := "(III)I" } : Jvm.MethodName))) ∈ pU := pU_of (i := 946) rfl rfl
set_option maxRecDepth 20000 in
theorem u_912 : ((Jvm.Cond.instanceMethod ({ cls := "ViewBroadcastModel", name := "walks", desc := "(III)I" } : Jvm.MethodName))) ∈ pU := pU_of (i := 947) rfl rfl
set_option maxRecDepth 20000 in
theorem u_913 : ((Jvm.Cond.selects "ViewBroadcastModel" ({ cls := "ViewBroadcastModel", name := "walks", desc := "(III)I" } : Jvm.MethodName) ({ cls := "ViewBroadcastModel", name := "walks", desc := "(III)I" } : Jvm.MethodName))) ∈ pU := pU_of (i := 948) rfl rfl
set_option maxRecDepth 20000 in
theorem u_914 : ((Jvm.Cond.code ({ cls := "ViewBroadcastModel", name := "walks", desc := "(III)I" } : Jvm.MethodName) prog_13_method_7_code (4 : Nat) (Option.some Jvm.ClassFile.FieldType.int))) ∈ pU := pU_of (i := 949) rfl rfl
set_option maxRecDepth 20000 in
theorem u_915 : ((Jvm.Cond.constantLong "ViewBroadcastModel" (61 : Nat) (6 : Int64))) ∈ pU := pU_of (i := 950) rfl rfl
set_option maxRecDepth 20000 in
theorem u_916 : ((Jvm.Cond.constantLong "ViewBroadcastModel" (63 : Nat) (20 : Int64))) ∈ pU := pU_of (i := 951) rfl rfl
set_option maxRecDepth 20000 in
theorem u_917 : ((Jvm.Cond.methodLink "ViewBroadcastLaw" (27 : Nat) ({ cls := "ViewBroadcastModel", name := "coin", desc := "(I)I" } : Jvm.MethodName))) ∈ pU := pU_of (i := 952) rfl rfl
set_option maxRecDepth 20000 in
theorem u_918 : ((Jvm.Cond.instanceMethod ({ cls := "ViewBroadcastModel", name := "coin", desc := "(I)I" } : Jvm.MethodName))) ∈ pU := pU_of (i := 953) rfl rfl
set_option maxRecDepth 20000 in
theorem u_919 : ((Jvm.Cond.selects "ViewBroadcastModel" ({ cls := "ViewBroadcastModel", name := "coin", desc := "(I)I" } : Jvm.MethodName) ({ cls := "ViewBroadcastModel", name := "coin", desc := "(I)I" } : Jvm.MethodName))) ∈ pU := pU_of (i := 954) rfl rfl
set_option maxRecDepth 20000 in
theorem u_920 : ((Jvm.Cond.code ({ cls := "ViewBroadcastModel", name := "coin", desc := "(I)I" } : Jvm.MethodName) prog_13_method_8_code (2 : Nat) (Option.some Jvm.ClassFile.FieldType.int))) ∈ pU := pU_of (i := 955) rfl rfl
set_option maxRecDepth 20000 in
theorem u_921 : ((Jvm.Cond.methodLink "ViewBroadcastLaw" (32 : Nat) ({ cls := "ViewBroadcastModel", name := "node", desc := "()I" } : Jvm.MethodName))) ∈ pU := pU_of (i := 956) rfl rfl
set_option maxRecDepth 20000 in
theorem u_922 : ((Jvm.Cond.instanceMethod ({ cls := "ViewBroadcastModel", name := "node", desc := "()I" } : Jvm.MethodName))) ∈ pU := pU_of (i := 957) rfl rfl
set_option maxRecDepth 20000 in
theorem u_923 : ((Jvm.Cond.selects "ViewBroadcastModel" ({ cls := "ViewBroadcastModel", name := "node", desc := "()I" } : Jvm.MethodName) ({ cls := "ViewBroadcastModel", name := "node", desc := "()I" } : Jvm.MethodName))) ∈ pU := pU_of (i := 958) rfl rfl
set_option maxRecDepth 20000 in
theorem u_924 : ((Jvm.Cond.code ({ cls := "ViewBroadcastModel", name := "node", desc := "()I" } : Jvm.MethodName) prog_13_method_27_code (3 : Nat) (Option.some Jvm.ClassFile.FieldType.int))) ∈ pU := pU_of (i := 959) rfl rfl
set_option maxRecDepth 20000 in
theorem u_925 : ((Jvm.Cond.methodLink "ViewBroadcastLaw" (36 : Nat) ({ cls := "ViewBroadcastModel", name := "join", desc := "(II)I" } : Jvm.MethodName))) ∈ pU := pU_of (i := 960) rfl rfl
set_option maxRecDepth 20000 in
theorem u_926 : ((Jvm.Cond.instanceMethod ({ cls := "ViewBroadcastModel", name := "join", desc := "(II)I" } : Jvm.MethodName))) ∈ pU := pU_of (i := 961) rfl rfl
set_option maxRecDepth 20000 in
theorem u_927 : ((Jvm.Cond.selects "ViewBroadcastModel" ({ cls := "ViewBroadcastModel", name := "join", desc := "(II)I" } : Jvm.MethodName) ({ cls := "ViewBroadcastModel", name := "join", desc := "(II)I" } : Jvm.MethodName))) ∈ pU := pU_of (i := 962) rfl rfl
set_option maxRecDepth 20000 in
theorem u_928 : ((Jvm.Cond.code ({ cls := "ViewBroadcastModel", name := "join", desc := "(II)I" } : Jvm.MethodName) prog_13_method_28_code (3 : Nat) (Option.some Jvm.ClassFile.FieldType.int))) ∈ pU := pU_of (i := 963) rfl rfl
set_option maxRecDepth 20000 in
theorem u_929 : ((Jvm.Cond.methodLink "ViewBroadcastModel" (110 : Nat) ({ cls := "ViewBroadcastModel", name := "isNode", desc := "(I)Z" } : Jvm.MethodName))) ∈ pU := pU_of (i := 964) rfl rfl
set_option maxRecDepth 20000 in
theorem u_931 : ((Jvm.Cond.instanceMethod ({ cls := "ViewBroadcastModel", name := "isNode", desc := "(I)Z" } : Jvm.MethodName))) ∈ pU := pU_of (i := 966) rfl rfl
set_option maxRecDepth 20000 in
theorem u_932 : ((Jvm.Cond.code ({ cls := "ViewBroadcastModel", name := "isNode", desc := "(I)Z" } : Jvm.MethodName) prog_13_method_4_code (2 : Nat) (Option.some Jvm.ClassFile.FieldType.boolean))) ∈ pU := pU_of (i := 967) rfl rfl
set_option maxRecDepth 20000 in
theorem u_933 : ((Jvm.Cond.methodLink "ViewBroadcastModel" (100 : Nat) ({ cls := "ViewBroadcastModel", name := "send", desc := "(IIIII)V" } : Jvm.MethodName))) ∈ pU := pU_of (i := 968) rfl rfl
set_option maxRecDepth 20000 in
theorem u_935 : ((Jvm.Cond.instanceMethod ({ cls := "ViewBroadcastModel", name := "send", desc := "(IIIII)V" } : Jvm.MethodName))) ∈ pU := pU_of (i := 970) rfl rfl
set_option maxRecDepth 20000 in
theorem u_936 : ((Jvm.Cond.code ({ cls := "ViewBroadcastModel", name := "send", desc := "(IIIII)V" } : Jvm.MethodName) prog_13_method_13_code (6 : Nat) (Option.none : Option Jvm.ClassFile.FieldType))) ∈ pU := pU_of (i := 971) rfl rfl
set_option maxRecDepth 20000 in
theorem u_937 : ((Jvm.Cond.methodLink "ViewBroadcastModel" (76 : Nat) ({ cls := "ViewBroadcastModel", name := "sendList", desc := "(IIIIII)V" } : Jvm.MethodName))) ∈ pU := pU_of (i := 972) rfl rfl
set_option maxRecDepth 20000 in
theorem u_939 : ((Jvm.Cond.instanceMethod ({ cls := "ViewBroadcastModel", name := "sendList", desc := "(IIIIII)V" } : Jvm.MethodName))) ∈ pU := pU_of (i := 974) rfl rfl
set_option maxRecDepth 20000 in
theorem u_940 : ((Jvm.Cond.code ({ cls := "ViewBroadcastModel", name := "sendList", desc := "(IIIIII)V" } : Jvm.MethodName) prog_13_method_12_code (7 : Nat) (Option.none : Option Jvm.ClassFile.FieldType))) ∈ pU := pU_of (i := 975) rfl rfl
set_option maxRecDepth 20000 in
theorem u_941 : ((Jvm.Cond.methodLink "ViewBroadcastModel" (72 : Nat) ({ cls := "ViewBroadcastModel", name := "post", desc := "(IIIIII)V" } : Jvm.MethodName))) ∈ pU := pU_of (i := 976) rfl rfl
set_option maxRecDepth 20000 in
theorem u_943 : ((Jvm.Cond.instanceMethod ({ cls := "ViewBroadcastModel", name := "post", desc := "(IIIIII)V" } : Jvm.MethodName))) ∈ pU := pU_of (i := 978) rfl rfl
set_option maxRecDepth 20000 in
theorem u_944 : ((Jvm.Cond.code ({ cls := "ViewBroadcastModel", name := "post", desc := "(IIIIII)V" } : Jvm.MethodName) prog_13_method_11_code (9 : Nat) (Option.none : Option Jvm.ClassFile.FieldType))) ∈ pU := pU_of (i := 979) rfl rfl
set_option maxRecDepth 20000 in
theorem u_945 : ((Jvm.Cond.methodLink "ViewBroadcastModel" (68 : Nat) ({ cls := "ViewBroadcastModel", name := "ofLetter", desc := "(II)I" } : Jvm.MethodName))) ∈ pU := pU_of (i := 980) rfl rfl
set_option maxRecDepth 20000 in
theorem u_947 : ((Jvm.Cond.instanceMethod ({ cls := "ViewBroadcastModel", name := "ofLetter", desc := "(II)I" } : Jvm.MethodName))) ∈ pU := pU_of (i := 982) rfl rfl
set_option maxRecDepth 20000 in
theorem u_948 : ((Jvm.Cond.code ({ cls := "ViewBroadcastModel", name := "ofLetter", desc := "(II)I" } : Jvm.MethodName) prog_13_method_10_code (3 : Nat) (Option.some Jvm.ClassFile.FieldType.int))) ∈ pU := pU_of (i := 983) rfl rfl
set_option maxRecDepth 20000 in
theorem u_949 : ((Jvm.Cond.methodLink "ViewBroadcastLaw" (40 : Nat) ({ cls := "ViewBroadcastModel", name := "stop", desc := "(I)I" } : Jvm.MethodName))) ∈ pU := pU_of (i := 984) rfl rfl
set_option maxRecDepth 20000 in
theorem u_950 : ((Jvm.Cond.instanceMethod ({ cls := "ViewBroadcastModel", name := "stop", desc := "(I)I" } : Jvm.MethodName))) ∈ pU := pU_of (i := 985) rfl rfl
set_option maxRecDepth 20000 in
theorem u_951 : ((Jvm.Cond.selects "ViewBroadcastModel" ({ cls := "ViewBroadcastModel", name := "stop", desc := "(I)I" } : Jvm.MethodName) ({ cls := "ViewBroadcastModel", name := "stop", desc := "(I)I" } : Jvm.MethodName))) ∈ pU := pU_of (i := 986) rfl rfl
set_option maxRecDepth 20000 in
theorem u_952 : ((Jvm.Cond.code ({ cls := "ViewBroadcastModel", name := "stop", desc := "(I)I" } : Jvm.MethodName) prog_13_method_29_code (4 : Nat) (Option.some Jvm.ClassFile.FieldType.int))) ∈ pU := pU_of (i := 987) rfl rfl
set_option maxRecDepth 20000 in
theorem u_953 : ((Jvm.Cond.methodLink "ViewBroadcastModel" (114 : Nat) ({ cls := "ViewBroadcastModel", name := "takeOutLetter", desc := "(I)V" } : Jvm.MethodName))) ∈ pU := pU_of (i := 988) rfl rfl
set_option maxRecDepth 20000 in
theorem u_955 : ((Jvm.Cond.instanceMethod ({ cls := "ViewBroadcastModel", name := "takeOutLetter", desc := "(I)V" } : Jvm.MethodName))) ∈ pU := pU_of (i := 990) rfl rfl
set_option maxRecDepth 20000 in
theorem u_956 : ((Jvm.Cond.code ({ cls := "ViewBroadcastModel", name := "takeOutLetter", desc := "(I)V" } : Jvm.MethodName) prog_13_method_14_code (5 : Nat) (Option.none : Option Jvm.ClassFile.FieldType))) ∈ pU := pU_of (i := 991) rfl rfl
set_option maxRecDepth 20000 in
theorem u_957 : ((Jvm.Cond.methodLink "ViewBroadcastModel" (89 : Nat) ({ cls := "ViewBroadcastModel", name := "isActive", desc := "(II)Z" } : Jvm.MethodName))) ∈ pU := pU_of (i := 992) rfl rfl
set_option maxRecDepth 20000 in
theorem u_959 : ((Jvm.Cond.instanceMethod ({ cls := "ViewBroadcastModel", name := "isActive", desc := "(II)Z" } : Jvm.MethodName))) ∈ pU := pU_of (i := 994) rfl rfl
set_option maxRecDepth 20000 in
theorem u_960 : ((Jvm.Cond.code ({ cls := "ViewBroadcastModel", name := "isActive", desc := "(II)Z" } : Jvm.MethodName) prog_13_method_17_code (3 : Nat) (Option.some Jvm.ClassFile.FieldType.boolean))) ∈ pU := pU_of (i := 995) rfl rfl
set_option maxRecDepth 20000 in
theorem u_961 : ((Jvm.Cond.methodLink "ViewBroadcastModel" (79 : Nat) ({ cls := "ViewBroadcastModel", name := "activeAt", desc := "(II)I" } : Jvm.MethodName))) ∈ pU := pU_of (i := 996) rfl rfl
set_option maxRecDepth 20000 in
theorem u_963 : ((Jvm.Cond.instanceMethod ({ cls := "ViewBroadcastModel", name := "activeAt", desc := "(II)I" } : Jvm.MethodName))) ∈ pU := pU_of (i := 998) rfl rfl
set_option maxRecDepth 20000 in
theorem u_964 : ((Jvm.Cond.code ({ cls := "ViewBroadcastModel", name := "activeAt", desc := "(II)I" } : Jvm.MethodName) prog_13_method_15_code (4 : Nat) (Option.some Jvm.ClassFile.FieldType.int))) ∈ pU := pU_of (i := 999) rfl rfl
set_option maxRecDepth 20000 in
theorem u_965 : ((Jvm.Cond.methodLink "ViewBroadcastModel" (118 : Nat) ({ cls := "ViewBroadcastModel", name := "isUnderWay", desc := "(II)Z" } : Jvm.MethodName))) ∈ pU := pU_of (i := 1000) rfl rfl
set_option maxRecDepth 20000 in
theorem u_967 : ((Jvm.Cond.instanceMethod ({ cls := "ViewBroadcastModel", name := "isUnderWay", desc := "(II)Z" } : Jvm.MethodName))) ∈ pU := pU_of (i := 1002) rfl rfl
set_option maxRecDepth 20000 in
theorem u_968 : ((Jvm.Cond.code ({ cls := "ViewBroadcastModel", name := "isUnderWay", desc := "(II)Z" } : Jvm.MethodName) prog_13_method_30_code (5 : Nat) (Option.some Jvm.ClassFile.FieldType.boolean))) ∈ pU := pU_of (i := 1003) rfl rfl
set_option maxRecDepth 20000 in
theorem u_969 : ((Jvm.Cond.methodLink "ViewBroadcastLaw" (44 : Nat) ({ cls := "ViewBroadcastModel", name := "mix", desc := "(I)I" } : Jvm.MethodName))) ∈ pU := pU_of (i := 1004) rfl rfl
set_option maxRecDepth 20000 in
theorem u_970 : ((Jvm.Cond.instanceMethod ({ cls := "ViewBroadcastModel", name := "mix", desc := "(I)I" } : Jvm.MethodName))) ∈ pU := pU_of (i := 1005) rfl rfl
set_option maxRecDepth 20000 in
theorem u_971 : ((Jvm.Cond.selects "ViewBroadcastModel" ({ cls := "ViewBroadcastModel", name := "mix", desc := "(I)I" } : Jvm.MethodName) ({ cls := "ViewBroadcastModel", name := "mix", desc := "(I)I" } : Jvm.MethodName))) ∈ pU := pU_of (i := 1006) rfl rfl
set_option maxRecDepth 20000 in
theorem u_972 : ((Jvm.Cond.code ({ cls := "ViewBroadcastModel", name := "mix", desc := "(I)I" } : Jvm.MethodName) prog_13_method_31_code (5 : Nat) (Option.some Jvm.ClassFile.FieldType.int))) ∈ pU := pU_of (i := 1007) rfl rfl
set_option maxRecDepth 20000 in
theorem u_973 : ((Jvm.Cond.methodLink "ViewBroadcastModel" (93 : Nat) ({ cls := "ViewBroadcastModel", name := "draw", desc := "(I)I" } : Jvm.MethodName))) ∈ pU := pU_of (i := 1008) rfl rfl
set_option maxRecDepth 20000 in
theorem u_975 : ((Jvm.Cond.instanceMethod ({ cls := "ViewBroadcastModel", name := "draw", desc := "(I)I" } : Jvm.MethodName))) ∈ pU := pU_of (i := 1010) rfl rfl
set_option maxRecDepth 20000 in
theorem u_976 : ((Jvm.Cond.code ({ cls := "ViewBroadcastModel", name := "draw", desc := "(I)I" } : Jvm.MethodName) prog_13_method_9_code (3 : Nat) (Option.some Jvm.ClassFile.FieldType.int))) ∈ pU := pU_of (i := 1011) rfl rfl
set_option maxRecDepth 20000 in
theorem u_977 : ((Jvm.Cond.methodLink "ViewBroadcastModel" (124 : Nat) ({ cls := "ViewBroadcastModel", name := "without", desc := "(III)I" } : Jvm.MethodName))) ∈ pU := pU_of (i := 1012) rfl rfl
set_option maxRecDepth 20000 in
theorem u_979 : ((Jvm.Cond.instanceMethod ({ cls := "ViewBroadcastModel", name := "without", desc := "(III)I" } : Jvm.MethodName))) ∈ pU := pU_of (i := 1014) rfl rfl
set_option maxRecDepth 20000 in
theorem u_980 : ((Jvm.Cond.code ({ cls := "ViewBroadcastModel", name := "without", desc := "(III)I" } : Jvm.MethodName) prog_13_method_25_code (7 : Nat) (Option.some Jvm.ClassFile.FieldType.int))) ∈ pU := pU_of (i := 1015) rfl rfl
set_option maxRecDepth 20000 in
theorem u_981 : ((Jvm.Cond.methodLink "ViewBroadcastModel" (128 : Nat) ({ cls := "ViewBroadcastModel", name := "drawSome", desc := "(II)V" } : Jvm.MethodName))) ∈ pU := pU_of (i := 1016) rfl rfl
set_option maxRecDepth 20000 in
theorem u_983 : ((Jvm.Cond.instanceMethod ({ cls := "ViewBroadcastModel", name := "drawSome", desc := "(II)V" } : Jvm.MethodName))) ∈ pU := pU_of (i := 1018) rfl rfl
set_option maxRecDepth 20000 in
theorem u_984 : ((Jvm.Cond.code ({ cls := "ViewBroadcastModel", name := "drawSome", desc := "(II)V" } : Jvm.MethodName) prog_13_method_32_code (5 : Nat) (Option.none : Option Jvm.ClassFile.FieldType))) ∈ pU := pU_of (i := 1019) rfl rfl
set_option maxRecDepth 20000 in
theorem u_985 : ((Jvm.Cond.methodLink "ViewBroadcastModel" (131 : Nat) ({ cls := "ViewBroadcastModel", name := "drawOut", desc := "(I)I" } : Jvm.MethodName))) ∈ pU := pU_of (i := 1020) rfl rfl
set_option maxRecDepth 20000 in
theorem u_987 : ((Jvm.Cond.instanceMethod ({ cls := "ViewBroadcastModel", name := "drawOut", desc := "(I)I" } : Jvm.MethodName))) ∈ pU := pU_of (i := 1022) rfl rfl
set_option maxRecDepth 20000 in
theorem u_988 : ((Jvm.Cond.code ({ cls := "ViewBroadcastModel", name := "drawOut", desc := "(I)I" } : Jvm.MethodName) prog_13_method_26_code (5 : Nat) (Option.some Jvm.ClassFile.FieldType.int))) ∈ pU := pU_of (i := 1023) rfl rfl
set_option maxRecDepth 20000 in
theorem u_989 : ((Jvm.Cond.methodLink "ViewBroadcastLaw" (48 : Nat) ({ cls := "ViewBroadcastModel", name := "tale", desc := "(I)I" } : Jvm.MethodName))) ∈ pU := pU_of (i := 1024) rfl rfl
set_option maxRecDepth 20000 in
theorem u_990 : ((Jvm.Cond.instanceMethod ({ cls := "ViewBroadcastModel", name := "tale", desc := "(I)I" } : Jvm.MethodName))) ∈ pU := pU_of (i := 1025) rfl rfl
set_option maxRecDepth 20000 in
theorem u_991 : ((Jvm.Cond.selects "ViewBroadcastModel" ({ cls := "ViewBroadcastModel", name := "tale", desc := "(I)I" } : Jvm.MethodName) ({ cls := "ViewBroadcastModel", name := "tale", desc := "(I)I" } : Jvm.MethodName))) ∈ pU := pU_of (i := 1026) rfl rfl
set_option maxRecDepth 20000 in
theorem u_992 : ((Jvm.Cond.code ({ cls := "ViewBroadcastModel", name := "tale", desc := "(I)I" } : Jvm.MethodName) prog_13_method_33_code (2 : Nat) (Option.some Jvm.ClassFile.FieldType.int))) ∈ pU := pU_of (i := 1027) rfl rfl
set_option maxRecDepth 20000 in
theorem u_993 : ((Jvm.Cond.methodLink "ViewBroadcastModel" (134 : Nat) ({ cls := "ViewBroadcastModel", name := "hear", desc := "(IIII)V" } : Jvm.MethodName))) ∈ pU := pU_of (i := 1028) rfl rfl
set_option maxRecDepth 20000 in
theorem u_995 : ((Jvm.Cond.instanceMethod ({ cls := "ViewBroadcastModel", name := "hear", desc := "(IIII)V" } : Jvm.MethodName))) ∈ pU := pU_of (i := 1030) rfl rfl
set_option maxRecDepth 20000 in
theorem u_996 : ((Jvm.Cond.code ({ cls := "ViewBroadcastModel", name := "hear", desc := "(IIII)V" } : Jvm.MethodName) prog_13_method_34_code (9 : Nat) (Option.none : Option Jvm.ClassFile.FieldType))) ∈ pU := pU_of (i := 1031) rfl rfl
set_option maxRecDepth 20000 in
theorem u_997 : ((Jvm.Cond.methodLink "ViewBroadcastLaw" (52 : Nat) ({ cls := "ViewBroadcastModel", name := "tick", desc := "()I" } : Jvm.MethodName))) ∈ pU := pU_of (i := 1032) rfl rfl
set_option maxRecDepth 20000 in
theorem u_998 : ((Jvm.Cond.instanceMethod ({ cls := "ViewBroadcastModel", name := "tick", desc := "()I" } : Jvm.MethodName))) ∈ pU := pU_of (i := 1033) rfl rfl
set_option maxRecDepth 20000 in
theorem u_999 : ((Jvm.Cond.selects "ViewBroadcastModel" ({ cls := "ViewBroadcastModel", name := "tick", desc := "()I" } : Jvm.MethodName) ({ cls := "ViewBroadcastModel", name := "tick", desc := "()I" } : Jvm.MethodName))) ∈ pU := pU_of (i := 1034) rfl rfl
set_option maxRecDepth 20000 in
theorem u_1000 : ((Jvm.Cond.code ({ cls := "ViewBroadcastModel", name := "tick", desc := "()I" } : Jvm.MethodName) prog_13_method_35_code (4 : Nat) (Option.some Jvm.ClassFile.FieldType.int))) ∈ pU := pU_of (i := 1035) rfl rfl
set_option maxRecDepth 20000 in
theorem u_1001 : ((Jvm.Cond.methodLink "ViewBroadcastModel" (138 : Nat) ({ cls := "ViewBroadcastModel", name := "fetch", desc := "(III)V" } : Jvm.MethodName))) ∈ pU := pU_of (i := 1036) rfl rfl
set_option maxRecDepth 20000 in
theorem u_1003 : ((Jvm.Cond.instanceMethod ({ cls := "ViewBroadcastModel", name := "fetch", desc := "(III)V" } : Jvm.MethodName))) ∈ pU := pU_of (i := 1038) rfl rfl
set_option maxRecDepth 20000 in
theorem u_1004 : ((Jvm.Cond.code ({ cls := "ViewBroadcastModel", name := "fetch", desc := "(III)V" } : Jvm.MethodName) prog_13_method_36_code (6 : Nat) (Option.none : Option Jvm.ClassFile.FieldType))) ∈ pU := pU_of (i := 1039) rfl rfl
set_option maxRecDepth 20000 in
theorem u_1005 : ((Jvm.Cond.methodLink "ViewBroadcastModel" (142 : Nat) ({ cls := "ViewBroadcastModel", name := "setLazy", desc := "(III)V" } : Jvm.MethodName))) ∈ pU := pU_of (i := 1040) rfl rfl
set_option maxRecDepth 20000 in
theorem u_1007 : ((Jvm.Cond.instanceMethod ({ cls := "ViewBroadcastModel", name := "setLazy", desc := "(III)V" } : Jvm.MethodName))) ∈ pU := pU_of (i := 1042) rfl rfl
set_option maxRecDepth 20000 in
theorem u_1008 : ((Jvm.Cond.code ({ cls := "ViewBroadcastModel", name := "setLazy", desc := "(III)V" } : Jvm.MethodName) prog_13_method_21_code (5 : Nat) (Option.none : Option Jvm.ClassFile.FieldType))) ∈ pU := pU_of (i := 1043) rfl rfl
set_option maxRecDepth 20000 in
theorem u_1009 : ((Jvm.Cond.methodLink "ViewBroadcastLaw" (56 : Nat) ({ cls := "ViewBroadcastModel", name := "deliver", desc := "(I)I" } : Jvm.MethodName))) ∈ pU := pU_of (i := 1044) rfl rfl
set_option maxRecDepth 20000 in
theorem u_1010 : ((Jvm.Cond.instanceMethod ({ cls := "ViewBroadcastModel", name := "deliver", desc := "(I)I" } : Jvm.MethodName))) ∈ pU := pU_of (i := 1045) rfl rfl
set_option maxRecDepth 20000 in
theorem u_1011 : ((Jvm.Cond.selects "ViewBroadcastModel" ({ cls := "ViewBroadcastModel", name := "deliver", desc := "(I)I" } : Jvm.MethodName) ({ cls := "ViewBroadcastModel", name := "deliver", desc := "(I)I" } : Jvm.MethodName))) ∈ pU := pU_of (i := 1046) rfl rfl
set_option maxRecDepth 20000 in
theorem u_1012 : ((Jvm.Cond.code ({ cls := "ViewBroadcastModel", name := "deliver", desc := "(I)I" } : Jvm.MethodName) prog_13_method_38_code (2 : Nat) (Option.some Jvm.ClassFile.FieldType.int))) ∈ pU := pU_of (i := 1047) rfl rfl
set_option maxRecDepth 20000 in
theorem u_1013 : ((Jvm.Cond.methodLink "ViewBroadcastModel" (145 : Nat) ({ cls := "ViewBroadcastModel", name := "canCome", desc := "(I)Z" } : Jvm.MethodName))) ∈ pU := pU_of (i := 1048) rfl rfl
set_option maxRecDepth 20000 in
theorem u_1015 : ((Jvm.Cond.instanceMethod ({ cls := "ViewBroadcastModel", name := "canCome", desc := "(I)Z" } : Jvm.MethodName))) ∈ pU := pU_of (i := 1050) rfl rfl
set_option maxRecDepth 20000 in
theorem u_1016 : ((Jvm.Cond.code ({ cls := "ViewBroadcastModel", name := "canCome", desc := "(I)Z" } : Jvm.MethodName) prog_13_method_37_code (4 : Nat) (Option.some Jvm.ClassFile.FieldType.boolean))) ∈ pU := pU_of (i := 1051) rfl rfl
set_option maxRecDepth 20000 in
theorem u_1017 : ((Jvm.Cond.methodLink "ViewBroadcastModel" (148 : Nat) ({ cls := "ViewBroadcastModel", name := "comes", desc := "(I)I" } : Jvm.MethodName))) ∈ pU := pU_of (i := 1052) rfl rfl
set_option maxRecDepth 20000 in
theorem u_1019 : ((Jvm.Cond.instanceMethod ({ cls := "ViewBroadcastModel", name := "comes", desc := "(I)I" } : Jvm.MethodName))) ∈ pU := pU_of (i := 1054) rfl rfl
set_option maxRecDepth 20000 in
theorem u_1020 : ((Jvm.Cond.code ({ cls := "ViewBroadcastModel", name := "comes", desc := "(I)I" } : Jvm.MethodName) prog_13_method_40_code (9 : Nat) (Option.some Jvm.ClassFile.FieldType.int))) ∈ pU := pU_of (i := 1055) rfl rfl
set_option maxRecDepth 20000 in
theorem u_1021 : ((Jvm.Cond.methodLink "ViewBroadcastModel" (156 : Nat) ({ cls := "ViewBroadcastModel", name := "joins", desc := "(IIIII)V" } : Jvm.MethodName))) ∈ pU := pU_of (i := 1056) rfl rfl
set_option maxRecDepth 20000 in
theorem u_1023 : ((Jvm.Cond.instanceMethod ({ cls := "ViewBroadcastModel", name := "joins", desc := "(IIIII)V" } : Jvm.MethodName))) ∈ pU := pU_of (i := 1058) rfl rfl
set_option maxRecDepth 20000 in
theorem u_1024 : ((Jvm.Cond.code ({ cls := "ViewBroadcastModel", name := "joins", desc := "(IIIII)V" } : Jvm.MethodName) prog_13_method_41_code (8 : Nat) (Option.none : Option Jvm.ClassFile.FieldType))) ∈ pU := pU_of (i := 1059) rfl rfl
set_option maxRecDepth 20000 in
theorem u_1025 : ((Jvm.Cond.methodLink "ViewBroadcastModel" (168 : Nat) ({ cls := "ViewBroadcastModel", name := "add", desc := "(II)V" } : Jvm.MethodName))) ∈ pU := pU_of (i := 1060) rfl rfl
set_option maxRecDepth 20000 in
theorem u_1027 : ((Jvm.Cond.instanceMethod ({ cls := "ViewBroadcastModel", name := "add", desc := "(II)V" } : Jvm.MethodName))) ∈ pU := pU_of (i := 1062) rfl rfl
set_option maxRecDepth 20000 in
theorem u_1028 : ((Jvm.Cond.code ({ cls := "ViewBroadcastModel", name := "add", desc := "(II)V" } : Jvm.MethodName) prog_13_method_23_code (4 : Nat) (Option.none : Option Jvm.ClassFile.FieldType))) ∈ pU := pU_of (i := 1063) rfl rfl
set_option maxRecDepth 20000 in
theorem u_1029 : ((Jvm.Cond.methodLink "ViewBroadcastModel" (97 : Nat) ({ cls := "ViewBroadcastModel", name := "leavesPassive", desc := "(II)V" } : Jvm.MethodName))) ∈ pU := pU_of (i := 1064) rfl rfl
set_option maxRecDepth 20000 in
theorem u_1031 : ((Jvm.Cond.instanceMethod ({ cls := "ViewBroadcastModel", name := "leavesPassive", desc := "(II)V" } : Jvm.MethodName))) ∈ pU := pU_of (i := 1066) rfl rfl
set_option maxRecDepth 20000 in
theorem u_1032 : ((Jvm.Cond.code ({ cls := "ViewBroadcastModel", name := "leavesPassive", desc := "(II)V" } : Jvm.MethodName) prog_13_method_18_code (5 : Nat) (Option.none : Option Jvm.ClassFile.FieldType))) ∈ pU := pU_of (i := 1067) rfl rfl
set_option maxRecDepth 20000 in
theorem u_1033 : ((Jvm.Cond.methodLink "ViewBroadcastModel" (82 : Nat) ({ cls := "ViewBroadcastModel", name := "passiveAt", desc := "(II)I" } : Jvm.MethodName))) ∈ pU := pU_of (i := 1068) rfl rfl
set_option maxRecDepth 20000 in
theorem u_1035 : ((Jvm.Cond.instanceMethod ({ cls := "ViewBroadcastModel", name := "passiveAt", desc := "(II)I" } : Jvm.MethodName))) ∈ pU := pU_of (i := 1070) rfl rfl
set_option maxRecDepth 20000 in
theorem u_1036 : ((Jvm.Cond.code ({ cls := "ViewBroadcastModel", name := "passiveAt", desc := "(II)I" } : Jvm.MethodName) prog_13_method_16_code (4 : Nat) (Option.some Jvm.ClassFile.FieldType.int))) ∈ pU := pU_of (i := 1071) rfl rfl
set_option maxRecDepth 20000 in
theorem u_1037 : ((Jvm.Cond.methodLink "ViewBroadcastModel" (104 : Nat) ({ cls := "ViewBroadcastModel", name := "leavesActive", desc := "(II)V" } : Jvm.MethodName))) ∈ pU := pU_of (i := 1072) rfl rfl
set_option maxRecDepth 20000 in
theorem u_1039 : ((Jvm.Cond.instanceMethod ({ cls := "ViewBroadcastModel", name := "leavesActive", desc := "(II)V" } : Jvm.MethodName))) ∈ pU := pU_of (i := 1074) rfl rfl
set_option maxRecDepth 20000 in
theorem u_1040 : ((Jvm.Cond.code ({ cls := "ViewBroadcastModel", name := "leavesActive", desc := "(II)V" } : Jvm.MethodName) prog_13_method_19_code (5 : Nat) (Option.none : Option Jvm.ClassFile.FieldType))) ∈ pU := pU_of (i := 1075) rfl rfl
set_option maxRecDepth 20000 in
theorem u_1041 : ((Jvm.Cond.methodLink "ViewBroadcastModel" (85 : Nat) ({ cls := "ViewBroadcastModel", name := "forgetTeller", desc := "(II)V" } : Jvm.MethodName))) ∈ pU := pU_of (i := 1076) rfl rfl
set_option maxRecDepth 20000 in
theorem u_1043 : ((Jvm.Cond.instanceMethod ({ cls := "ViewBroadcastModel", name := "forgetTeller", desc := "(II)V" } : Jvm.MethodName))) ∈ pU := pU_of (i := 1078) rfl rfl
set_option maxRecDepth 20000 in
theorem u_1044 : ((Jvm.Cond.code ({ cls := "ViewBroadcastModel", name := "forgetTeller", desc := "(II)V" } : Jvm.MethodName) prog_13_method_20_code (6 : Nat) (Option.none : Option Jvm.ClassFile.FieldType))) ∈ pU := pU_of (i := 1079) rfl rfl
set_option maxRecDepth 20000 in
theorem u_1045 : ((Jvm.Cond.methodLink "ViewBroadcastModel" (107 : Nat) ({ cls := "ViewBroadcastModel", name := "note", desc := "(II)V" } : Jvm.MethodName))) ∈ pU := pU_of (i := 1080) rfl rfl
set_option maxRecDepth 20000 in
theorem u_1047 : ((Jvm.Cond.instanceMethod ({ cls := "ViewBroadcastModel", name := "note", desc := "(II)V" } : Jvm.MethodName))) ∈ pU := pU_of (i := 1082) rfl rfl
set_option maxRecDepth 20000 in
theorem u_1048 : ((Jvm.Cond.code ({ cls := "ViewBroadcastModel", name := "note", desc := "(II)V" } : Jvm.MethodName) prog_13_method_22_code (3 : Nat) (Option.none : Option Jvm.ClassFile.FieldType))) ∈ pU := pU_of (i := 1083) rfl rfl
set_option maxRecDepth 20000 in
theorem u_1049 : ((Jvm.Cond.methodLink "ViewBroadcastModel" (171 : Nat) ({ cls := "ViewBroadcastModel", name := "goesOn", desc := "(IIII)V" } : Jvm.MethodName))) ∈ pU := pU_of (i := 1084) rfl rfl
set_option maxRecDepth 20000 in
theorem u_1051 : ((Jvm.Cond.instanceMethod ({ cls := "ViewBroadcastModel", name := "goesOn", desc := "(IIII)V" } : Jvm.MethodName))) ∈ pU := pU_of (i := 1086) rfl rfl
set_option maxRecDepth 20000 in
theorem u_1052 : ((Jvm.Cond.code ({ cls := "ViewBroadcastModel", name := "goesOn", desc := "(IIII)V" } : Jvm.MethodName) prog_13_method_42_code (8 : Nat) (Option.none : Option Jvm.ClassFile.FieldType))) ∈ pU := pU_of (i := 1087) rfl rfl
set_option maxRecDepth 20000 in
theorem u_1053 : ((Jvm.Cond.methodLink "ViewBroadcastModel" (159 : Nat) ({ cls := "ViewBroadcastModel", name := "mends", desc := "(IIII)V" } : Jvm.MethodName))) ∈ pU := pU_of (i := 1088) rfl rfl
set_option maxRecDepth 20000 in
theorem u_1055 : ((Jvm.Cond.instanceMethod ({ cls := "ViewBroadcastModel", name := "mends", desc := "(IIII)V" } : Jvm.MethodName))) ∈ pU := pU_of (i := 1090) rfl rfl
set_option maxRecDepth 20000 in
theorem u_1056 : ((Jvm.Cond.code ({ cls := "ViewBroadcastModel", name := "mends", desc := "(IIII)V" } : Jvm.MethodName) prog_13_method_43_code (5 : Nat) (Option.none : Option Jvm.ClassFile.FieldType))) ∈ pU := pU_of (i := 1091) rfl rfl
set_option maxRecDepth 20000 in
theorem u_1057 : ((Jvm.Cond.methodLink "ViewBroadcastModel" (174 : Nat) ({ cls := "ViewBroadcastModel", name := "mend", desc := "(I)V" } : Jvm.MethodName))) ∈ pU := pU_of (i := 1092) rfl rfl
set_option maxRecDepth 20000 in
theorem u_1059 : ((Jvm.Cond.instanceMethod ({ cls := "ViewBroadcastModel", name := "mend", desc := "(I)V" } : Jvm.MethodName))) ∈ pU := pU_of (i := 1094) rfl rfl
set_option maxRecDepth 20000 in
theorem u_1060 : ((Jvm.Cond.code ({ cls := "ViewBroadcastModel", name := "mend", desc := "(I)V" } : Jvm.MethodName) prog_13_method_24_code (5 : Nat) (Option.none : Option Jvm.ClassFile.FieldType))) ∈ pU := pU_of (i := 1095) rfl rfl
set_option maxRecDepth 20000 in
theorem u_1061 : ((Jvm.Cond.methodLink "ViewBroadcastModel" (162 : Nat) ({ cls := "ViewBroadcastModel", name := "mixes", desc := "(IIIII)V" } : Jvm.MethodName))) ∈ pU := pU_of (i := 1096) rfl rfl
set_option maxRecDepth 20000 in
theorem u_1063 : ((Jvm.Cond.instanceMethod ({ cls := "ViewBroadcastModel", name := "mixes", desc := "(IIIII)V" } : Jvm.MethodName))) ∈ pU := pU_of (i := 1098) rfl rfl
set_option maxRecDepth 20000 in
theorem u_1064 : ((Jvm.Cond.code ({ cls := "ViewBroadcastModel", name := "mixes", desc := "(IIIII)V" } : Jvm.MethodName) prog_13_method_44_code (9 : Nat) (Option.none : Option Jvm.ClassFile.FieldType))) ∈ pU := pU_of (i := 1099) rfl rfl
set_option maxRecDepth 20000 in
theorem u_1065 : ((Jvm.Cond.methodLink "ViewBroadcastModel" (165 : Nat) ({ cls := "ViewBroadcastModel", name := "tells", desc := "(IIIII)V" } : Jvm.MethodName))) ∈ pU := pU_of (i := 1100) rfl rfl
set_option maxRecDepth 20000 in
theorem u_1067 : ((Jvm.Cond.instanceMethod ({ cls := "ViewBroadcastModel", name := "tells", desc := "(IIIII)V" } : Jvm.MethodName))) ∈ pU := pU_of (i := 1102) rfl rfl
set_option maxRecDepth 20000 in
theorem u_1068 : ((Jvm.Cond.code ({ cls := "ViewBroadcastModel", name := "tells", desc := "(IIIII)V" } : Jvm.MethodName) prog_13_method_45_code (9 : Nat) (Option.none : Option Jvm.ClassFile.FieldType))) ∈ pU := pU_of (i := 1103) rfl rfl
set_option maxRecDepth 20000 in
theorem u_1069 : ((Jvm.Cond.methodLink "ViewBroadcastLaw" (60 : Nat) ({ cls := "ViewBroadcastModel", name := "go", desc := "(I)I" } : Jvm.MethodName))) ∈ pU := pU_of (i := 1104) rfl rfl
set_option maxRecDepth 20000 in
theorem u_1070 : ((Jvm.Cond.instanceMethod ({ cls := "ViewBroadcastModel", name := "go", desc := "(I)I" } : Jvm.MethodName))) ∈ pU := pU_of (i := 1105) rfl rfl
set_option maxRecDepth 20000 in
theorem u_1071 : ((Jvm.Cond.selects "ViewBroadcastModel" ({ cls := "ViewBroadcastModel", name := "go", desc := "(I)I" } : Jvm.MethodName) ({ cls := "ViewBroadcastModel", name := "go", desc := "(I)I" } : Jvm.MethodName))) ∈ pU := pU_of (i := 1106) rfl rfl
set_option maxRecDepth 20000 in
theorem u_1072 : ((Jvm.Cond.code ({ cls := "ViewBroadcastModel", name := "go", desc := "(I)I" } : Jvm.MethodName) prog_13_method_39_code (4 : Nat) (Option.some Jvm.ClassFile.FieldType.int))) ∈ pU := pU_of (i := 1107) rfl rfl
set_option maxRecDepth 20000 in
theorem u_1073 : ((Jvm.Cond.constantLong "ViewBroadcastModel" (151 : Nat) (2000 : Int64))) ∈ pU := pU_of (i := 1108) rfl rfl
set_option maxRecDepth 20000 in
theorem u_1074 : ((Jvm.Cond.methodLink "ViewBroadcastLaw" (64 : Nat) ({ cls := "ViewBroadcastModel", name := "view", desc := "(III)I" } : Jvm.MethodName))) ∈ pU := pU_of (i := 1109) rfl rfl
set_option maxRecDepth 20000 in
theorem u_1075 : ((Jvm.Cond.instanceMethod ({ cls := "ViewBroadcastModel", name := "view", desc := "(III)I" } : Jvm.MethodName))) ∈ pU := pU_of (i := 1110) rfl rfl
set_option maxRecDepth 20000 in
theorem u_1076 : ((Jvm.Cond.selects "ViewBroadcastModel" ({ cls := "ViewBroadcastModel", name := "view", desc := "(III)I" } : Jvm.MethodName) ({ cls := "ViewBroadcastModel", name := "view", desc := "(III)I" } : Jvm.MethodName))) ∈ pU := pU_of (i := 1111) rfl rfl
set_option maxRecDepth 20000 in
theorem u_1077 : ((Jvm.Cond.code ({ cls := "ViewBroadcastModel", name := "view", desc := "(III)I" } : Jvm.MethodName) prog_13_method_46_code (5 : Nat) (Option.some Jvm.ClassFile.FieldType.int))) ∈ pU := pU_of (i := 1112) rfl rfl
set_option maxRecDepth 20000 in
theorem u_1078 : ((Jvm.Cond.methodLink "ViewBroadcastLaw" (68 : Nat) ({ cls := "ViewBroadcastModel", name := "how", desc := "(II)I" } : Jvm.MethodName))) ∈ pU := pU_of (i := 1113) rfl rfl
set_option maxRecDepth 20000 in
theorem u_1079 : ((Jvm.Cond.instanceMethod ({ cls := "ViewBroadcastModel", name := "how", desc := "(II)I" } : Jvm.MethodName))) ∈ pU := pU_of (i := 1114) rfl rfl
set_option maxRecDepth 20000 in
theorem u_1080 : ((Jvm.Cond.selects "ViewBroadcastModel" ({ cls := "ViewBroadcastModel", name := "how", desc := "(II)I" } : Jvm.MethodName) ({ cls := "ViewBroadcastModel", name := "how", desc := "(II)I" } : Jvm.MethodName))) ∈ pU := pU_of (i := 1115) rfl rfl
set_option maxRecDepth 20000 in
theorem u_1081 : ((Jvm.Cond.code ({ cls := "ViewBroadcastModel", name := "how", desc := "(II)I" } : Jvm.MethodName) prog_13_method_47_code (4 : Nat) (Option.some Jvm.ClassFile.FieldType.int))) ∈ pU := pU_of (i := 1116) rfl rfl
set_option maxRecDepth 20000 in
theorem u_1082 : ((Jvm.Cond.methodLink "ViewBroadcastLaw" (72 : Nat) ({ cls := "ViewBroadcastModel", name := "heard", desc := "(II)I" } : Jvm.MethodName))) ∈ pU := pU_of (i := 1117) rfl rfl
set_option maxRecDepth 20000 in
theorem u_1083 : ((Jvm.Cond.instanceMethod ({ cls := "ViewBroadcastModel", name := "heard", desc := "(II)I" } : Jvm.MethodName))) ∈ pU := pU_of (i := 1118) rfl rfl
set_option maxRecDepth 20000 in
theorem u_1084 : ((Jvm.Cond.selects "ViewBroadcastModel" ({ cls := "ViewBroadcastModel", name := "heard", desc := "(II)I" } : Jvm.MethodName) ({ cls := "ViewBroadcastModel", name := "heard", desc := "(II)I" } : Jvm.MethodName))) ∈ pU := pU_of (i := 1119) rfl rfl
set_option maxRecDepth 20000 in
theorem u_1085 : ((Jvm.Cond.code ({ cls := "ViewBroadcastModel", name := "heard", desc := "(II)I" } : Jvm.MethodName) prog_13_method_48_code (3 : Nat) (Option.some Jvm.ClassFile.FieldType.int))) ∈ pU := pU_of (i := 1120) rfl rfl
set_option maxRecDepth 20000 in
theorem u_1086 : ((Jvm.Cond.methodLink "ViewBroadcastModel" (177 : Nat) ({ cls := "ViewBroadcastModel", name := "isTale", desc := "(I)Z" } : Jvm.MethodName))) ∈ pU := pU_of (i := 1121) rfl rfl
set_option maxRecDepth 20000 in
theorem u_1088 : ((Jvm.Cond.instanceMethod ({ cls := "ViewBroadcastModel", name := "isTale", desc := "(I)Z" } : Jvm.MethodName))) ∈ pU := pU_of (i := 1123) rfl rfl
set_option maxRecDepth 20000 in
theorem u_1089 : ((Jvm.Cond.code ({ cls := "ViewBroadcastModel", name := "isTale", desc := "(I)Z" } : Jvm.MethodName) prog_13_method_5_code (2 : Nat) (Option.some Jvm.ClassFile.FieldType.boolean))) ∈ pU := pU_of (i := 1124) rfl rfl
set_option maxRecDepth 20000 in
theorem u_1090 : ((Jvm.Cond.methodLink "ViewBroadcastLaw" (76 : Nat) ({ cls := "ViewBroadcastModel", name := "missed", desc := "(II)I" } : Jvm.MethodName))) ∈ pU := pU_of (i := 1125) rfl rfl
set_option maxRecDepth 20000 in
theorem u_1091 : ((Jvm.Cond.instanceMethod ({ cls := "ViewBroadcastModel", name := "missed", desc := "(II)I" } : Jvm.MethodName))) ∈ pU := pU_of (i := 1126) rfl rfl
set_option maxRecDepth 20000 in
theorem u_1092 : ((Jvm.Cond.selects "ViewBroadcastModel" ({ cls := "ViewBroadcastModel", name := "missed", desc := "(II)I" } : Jvm.MethodName) ({ cls := "ViewBroadcastModel", name := "missed", desc := "(II)I" } : Jvm.MethodName))) ∈ pU := pU_of (i := 1127) rfl rfl
set_option maxRecDepth 20000 in
theorem u_1093 : ((Jvm.Cond.code ({ cls := "ViewBroadcastModel", name := "missed", desc := "(II)I" } : Jvm.MethodName) prog_13_method_49_code (3 : Nat) (Option.some Jvm.ClassFile.FieldType.int))) ∈ pU := pU_of (i := 1128) rfl rfl
set_option maxRecDepth 20000 in
theorem u_1094 : ((Jvm.Cond.methodLink "ViewBroadcastLaw" (80 : Nat) ({ cls := "ViewBroadcastModel", name := "about", desc := "(II)I" } : Jvm.MethodName))) ∈ pU := pU_of (i := 1129) rfl rfl
set_option maxRecDepth 20000 in
theorem u_1095 : ((Jvm.Cond.instanceMethod ({ cls := "ViewBroadcastModel", name := "about", desc := "(II)I" } : Jvm.MethodName))) ∈ pU := pU_of (i := 1130) rfl rfl
set_option maxRecDepth 20000 in
theorem u_1096 : ((Jvm.Cond.selects "ViewBroadcastModel" ({ cls := "ViewBroadcastModel", name := "about", desc := "(II)I" } : Jvm.MethodName) ({ cls := "ViewBroadcastModel", name := "about", desc := "(II)I" } : Jvm.MethodName))) ∈ pU := pU_of (i := 1131) rfl rfl
set_option maxRecDepth 20000 in
theorem u_1097 : ((Jvm.Cond.code ({ cls := "ViewBroadcastModel", name := "about", desc := "(II)I" } : Jvm.MethodName) prog_13_method_50_code (6 : Nat) (Option.some Jvm.ClassFile.FieldType.int))) ∈ pU := pU_of (i := 1132) rfl rfl
set_option maxRecDepth 20000 in
theorem u_1098 : ((Jvm.Cond.methodLink "ViewBroadcastLaw" (84 : Nat) ({ cls := "ViewBroadcastModel", name := "letter", desc := "(II)I" } : Jvm.MethodName))) ∈ pU := pU_of (i := 1133) rfl rfl
set_option maxRecDepth 20000 in
theorem u_1099 : ((Jvm.Cond.instanceMethod ({ cls := "ViewBroadcastModel", name := "letter", desc := "(II)I" } : Jvm.MethodName))) ∈ pU := pU_of (i := 1134) rfl rfl
set_option maxRecDepth 20000 in
theorem u_1100 : ((Jvm.Cond.selects "ViewBroadcastModel" ({ cls := "ViewBroadcastModel", name := "letter", desc := "(II)I" } : Jvm.MethodName) ({ cls := "ViewBroadcastModel", name := "letter", desc := "(II)I" } : Jvm.MethodName))) ∈ pU := pU_of (i := 1135) rfl rfl
set_option maxRecDepth 20000 in
theorem u_1101 : ((Jvm.Cond.code ({ cls := "ViewBroadcastModel", name := "letter", desc := "(II)I" } : Jvm.MethodName) prog_13_method_51_code (3 : Nat) (Option.some Jvm.ClassFile.FieldType.int))) ∈ pU := pU_of (i := 1136) rfl rfl
set_option maxRecDepth 20000 in
theorem u_1102 : ((Jvm.Cond.methodLink "ViewBroadcastLaw" (88 : Nat) ({ cls := "ViewBroadcastModel", name := "even", desc := "()I" } : Jvm.MethodName))) ∈ pU := pU_of (i := 1137) rfl rfl
set_option maxRecDepth 20000 in
theorem u_1103 : ((Jvm.Cond.instanceMethod ({ cls := "ViewBroadcastModel", name := "even", desc := "()I" } : Jvm.MethodName))) ∈ pU := pU_of (i := 1138) rfl rfl
set_option maxRecDepth 20000 in
theorem u_1104 : ((Jvm.Cond.selects "ViewBroadcastModel" ({ cls := "ViewBroadcastModel", name := "even", desc := "()I" } : Jvm.MethodName) ({ cls := "ViewBroadcastModel", name := "even", desc := "()I" } : Jvm.MethodName))) ∈ pU := pU_of (i := 1139) rfl rfl
set_option maxRecDepth 20000 in
theorem u_1105 : ((Jvm.Cond.code ({ cls := "ViewBroadcastModel", name := "even", desc := "()I" } : Jvm.MethodName) prog_13_method_52_code (5 : Nat) (Option.some Jvm.ClassFile.FieldType.int))) ∈ pU := pU_of (i := 1140) rfl rfl
set_option maxRecDepth 20000 in
theorem u_1106 : ((Jvm.Cond.methodLink "ViewBroadcastLaw" (92 : Nat) ({ cls := "ViewBroadcastModel", name := "reach", desc := "(I)I" } : Jvm.MethodName))) ∈ pU := pU_of (i := 1141) rfl rfl
set_option maxRecDepth 20000 in
theorem u_1107 : ((Jvm.Cond.instanceMethod ({ cls := "ViewBroadcastModel", name := "reach", desc := "(I)I" } : Jvm.MethodName))) ∈ pU := pU_of (i := 1142) rfl rfl
set_option maxRecDepth 20000 in
theorem u_1108 : ((Jvm.Cond.selects "ViewBroadcastModel" ({ cls := "ViewBroadcastModel", name := "reach", desc := "(I)I" } : Jvm.MethodName) ({ cls := "ViewBroadcastModel", name := "reach", desc := "(I)I" } : Jvm.MethodName))) ∈ pU := pU_of (i := 1143) rfl rfl
set_option maxRecDepth 20000 in
theorem u_1109 : ((Jvm.Cond.code ({ cls := "ViewBroadcastModel", name := "reach", desc := "(I)I" } : Jvm.MethodName) prog_13_method_53_code (8 : Nat) (Option.some Jvm.ClassFile.FieldType.int))) ∈ pU := pU_of (i := 1144) rfl rfl
set_option maxRecDepth 20000 in
theorem u_1110 : ((Jvm.Cond.methodLink "ViewBroadcastLaw" (96 : Nat) ({ cls := "ViewBroadcastModel", name := "came", desc := "(I)I" } : Jvm.MethodName))) ∈ pU := pU_of (i := 1145) rfl rfl
set_option maxRecDepth 20000 in
theorem u_1111 : ((Jvm.Cond.instanceMethod ({ cls := "ViewBroadcastModel", name := "came", desc := "(I)I" } : Jvm.MethodName))) ∈ pU := pU_of (i := 1146) rfl rfl
set_option maxRecDepth 20000 in
theorem u_1112 : ((Jvm.Cond.selects "ViewBroadcastModel" ({ cls := "ViewBroadcastModel", name := "came", desc := "(I)I" } : Jvm.MethodName) ({ cls := "ViewBroadcastModel", name := "came", desc := "(I)I" } : Jvm.MethodName))) ∈ pU := pU_of (i := 1147) rfl rfl
set_option maxRecDepth 20000 in
theorem u_1113 : ((Jvm.Cond.code ({ cls := "ViewBroadcastModel", name := "came", desc := "(I)I" } : Jvm.MethodName) prog_13_method_54_code (2 : Nat) (Option.some Jvm.ClassFile.FieldType.int))) ∈ pU := pU_of (i := 1148) rfl rfl
set_option maxRecDepth 20000 in
theorem u_1114 : ((Jvm.Cond.constantLong "ViewBroadcastModel" (180 : Nat) (12 : Int64))) ∈ pU := pU_of (i := 1149) rfl rfl
set_option maxRecDepth 20000 in
theorem u_1115 : ((Jvm.Cond.methodLink "ViewBroadcastLaw" (100 : Nat) ({ cls := "ViewBroadcastModel", name := "spread", desc := "(I)I" } : Jvm.MethodName))) ∈ pU := pU_of (i := 1150) rfl rfl
set_option maxRecDepth 20000 in
theorem u_1116 : ((Jvm.Cond.instanceMethod ({ cls := "ViewBroadcastModel", name := "spread", desc := "(I)I" } : Jvm.MethodName))) ∈ pU := pU_of (i := 1151) rfl rfl
set_option maxRecDepth 20000 in
theorem u_1117 : ((Jvm.Cond.selects "ViewBroadcastModel" ({ cls := "ViewBroadcastModel", name := "spread", desc := "(I)I" } : Jvm.MethodName) ({ cls := "ViewBroadcastModel", name := "spread", desc := "(I)I" } : Jvm.MethodName))) ∈ pU := pU_of (i := 1152) rfl rfl
set_option maxRecDepth 20000 in
theorem u_1118 : ((Jvm.Cond.code ({ cls := "ViewBroadcastModel", name := "spread", desc := "(I)I" } : Jvm.MethodName) prog_13_method_55_code (4 : Nat) (Option.some Jvm.ClassFile.FieldType.int))) ∈ pU := pU_of (i := 1153) rfl rfl
set_option maxRecDepth 20000 in
theorem u_1119 : ((Jvm.Cond.methodLink "ViewBroadcastLaw" (104 : Nat) ({ cls := "ViewBroadcastModel", name := "told", desc := "(I)I" } : Jvm.MethodName))) ∈ pU := pU_of (i := 1154) rfl rfl
set_option maxRecDepth 20000 in
theorem u_1120 : ((Jvm.Cond.instanceMethod ({ cls := "ViewBroadcastModel", name := "told", desc := "(I)I" } : Jvm.MethodName))) ∈ pU := pU_of (i := 1155) rfl rfl
set_option maxRecDepth 20000 in
theorem u_1121 : ((Jvm.Cond.selects "ViewBroadcastModel" ({ cls := "ViewBroadcastModel", name := "told", desc := "(I)I" } : Jvm.MethodName) ({ cls := "ViewBroadcastModel", name := "told", desc := "(I)I" } : Jvm.MethodName))) ∈ pU := pU_of (i := 1156) rfl rfl
set_option maxRecDepth 20000 in
theorem u_1122 : ((Jvm.Cond.code ({ cls := "ViewBroadcastModel", name := "told", desc := "(I)I" } : Jvm.MethodName) prog_13_method_56_code (4 : Nat) (Option.some Jvm.ClassFile.FieldType.int))) ∈ pU := pU_of (i := 1157) rfl rfl
set_option maxRecDepth 20000 in
theorem u_1123 : ((Jvm.Cond.methodLink "ViewBroadcastLaw" (108 : Nat) ({ cls := "ViewBroadcastModel", name := "keep", desc := "(I)I" } : Jvm.MethodName))) ∈ pU := pU_of (i := 1158) rfl rfl
set_option maxRecDepth 20000 in
theorem u_1124 : ((Jvm.Cond.instanceMethod ({ cls := "ViewBroadcastModel", name := "keep", desc := "(I)I" } : Jvm.MethodName))) ∈ pU := pU_of (i := 1159) rfl rfl
set_option maxRecDepth 20000 in
theorem u_1125 : ((Jvm.Cond.selects "ViewBroadcastModel" ({ cls := "ViewBroadcastModel", name := "keep", desc := "(I)I" } : Jvm.MethodName) ({ cls := "ViewBroadcastModel", name := "keep", desc := "(I)I" } : Jvm.MethodName))) ∈ pU := pU_of (i := 1160) rfl rfl
set_option maxRecDepth 20000 in
theorem u_1126 : ((Jvm.Cond.code ({ cls := "ViewBroadcastModel", name := "keep", desc := "(I)I" } : Jvm.MethodName) prog_13_method_57_code (3 : Nat) (Option.some Jvm.ClassFile.FieldType.int))) ∈ pU := pU_of (i := 1161) rfl rfl
set_option maxRecDepth 20000 in
theorem u_1127 : ((Jvm.Cond.methodLink "ViewBroadcastLaw" (112 : Nat) ({ cls := "ViewBroadcastModel", name := "back", desc := "(I)I" } : Jvm.MethodName))) ∈ pU := pU_of (i := 1162) rfl rfl
set_option maxRecDepth 20000 in
theorem u_1128 : ((Jvm.Cond.instanceMethod ({ cls := "ViewBroadcastModel", name := "back", desc := "(I)I" } : Jvm.MethodName))) ∈ pU := pU_of (i := 1163) rfl rfl
set_option maxRecDepth 20000 in
theorem u_1129 : ((Jvm.Cond.selects "ViewBroadcastModel" ({ cls := "ViewBroadcastModel", name := "back", desc := "(I)I" } : Jvm.MethodName) ({ cls := "ViewBroadcastModel", name := "back", desc := "(I)I" } : Jvm.MethodName))) ∈ pU := pU_of (i := 1164) rfl rfl
set_option maxRecDepth 20000 in
theorem u_1130 : ((Jvm.Cond.code ({ cls := "ViewBroadcastModel", name := "back", desc := "(I)I" } : Jvm.MethodName) prog_13_method_58_code (3 : Nat) (Option.some Jvm.ClassFile.FieldType.int))) ∈ pU := pU_of (i := 1165) rfl rfl
set_option maxRecDepth 20000 in
theorem u_1131 : ((Jvm.Cond.methodLink "ViewBroadcastLaw" (116 : Nat) ({ cls := "ViewBroadcastModel", name := "differs", desc := "(I)I" } : Jvm.MethodName))) ∈ pU := pU_of (i := 1166) rfl rfl
set_option maxRecDepth 20000 in
theorem u_1132 : ((Jvm.Cond.instanceMethod ({ cls := "ViewBroadcastModel", name := "differs", desc := "(I)I" } : Jvm.MethodName))) ∈ pU := pU_of (i := 1167) rfl rfl
set_option maxRecDepth 20000 in
theorem u_1133 : ((Jvm.Cond.selects "ViewBroadcastModel" ({ cls := "ViewBroadcastModel", name := "differs", desc := "(I)I" } : Jvm.MethodName) ({ cls := "ViewBroadcastModel", name := "differs", desc := "(I)I" } : Jvm.MethodName))) ∈ pU := pU_of (i := 1168) rfl rfl
set_option maxRecDepth 20000 in
theorem u_1134 : ((Jvm.Cond.code ({ cls := "ViewBroadcastModel", name := "differs", desc := "(I)I" } : Jvm.MethodName) prog_13_method_60_code (6 : Nat) (Option.some Jvm.ClassFile.FieldType.int))) ∈ pU := pU_of (i := 1169) rfl rfl
set_option maxRecDepth 20000 in
theorem u_1135 : ((Jvm.Cond.methodLink "ViewBroadcastModel" (182 : Nat) ({ cls := "ViewBroadcastModel", name := "isOther", desc := "(III)Z" } : Jvm.MethodName))) ∈ pU := pU_of (i := 1170) rfl rfl
set_option maxRecDepth 20000 in
theorem u_1137 : ((Jvm.Cond.instanceMethod ({ cls := "ViewBroadcastModel", name := "isOther", desc := "(III)Z" } : Jvm.MethodName))) ∈ pU := pU_of (i := 1172) rfl rfl
set_option maxRecDepth 20000 in
theorem u_1138 : ((Jvm.Cond.code ({ cls := "ViewBroadcastModel", name := "isOther", desc := "(III)Z" } : Jvm.MethodName) prog_13_method_59_code (6 : Nat) (Option.some Jvm.ClassFile.FieldType.boolean))) ∈ pU := pU_of (i := 1173) rfl rfl
set_option maxRecDepth 20000 in
theorem u_1139 : ((Jvm.Cond.methodLink "ViewBroadcastModel" (186 : Nat) ({ cls := "ViewBroadcastModel", name := "heardOther", desc := "(II)Z" } : Jvm.MethodName))) ∈ pU := pU_of (i := 1174) rfl rfl
set_option maxRecDepth 20000 in
theorem u_1141 : ((Jvm.Cond.instanceMethod ({ cls := "ViewBroadcastModel", name := "heardOther", desc := "(II)Z" } : Jvm.MethodName))) ∈ pU := pU_of (i := 1176) rfl rfl
set_option maxRecDepth 20000 in
theorem u_1142 : ((Jvm.Cond.code ({ cls := "ViewBroadcastModel", name := "heardOther", desc := "(II)Z" } : Jvm.MethodName) prog_13_method_61_code (3 : Nat) (Option.some Jvm.ClassFile.FieldType.boolean))) ∈ pU := pU_of (i := 1177) rfl rfl
theorem us_0 : (Jvm.Cond.selects "ViewBroadcast" ({ cls := "ViewBroadcast", name := "refusedActor", desc := "(I)I" } : Jvm.MethodName) ({ cls := "ViewBroadcast", name := "refusedActor", desc := "(I)I" } : Jvm.MethodName)) ∈ pU := pU_of (i := 0) rfl rfl
theorem us_1 : (Jvm.Cond.selects "ViewBroadcast" ({ cls := "ViewBroadcast", name := "come", desc := "(I)I" } : Jvm.MethodName) ({ cls := "ViewBroadcast", name := "come", desc := "(I)I" } : Jvm.MethodName)) ∈ pU := pU_of (i := 1) rfl rfl
theorem us_2 : (Jvm.Cond.selects "ViewBroadcastModel" ({ cls := "ViewBroadcastModel", name := "isNode", desc := "(I)Z" } : Jvm.MethodName) ({ cls := "ViewBroadcastModel", name := "isNode", desc := "(I)Z" } : Jvm.MethodName)) ∈ pU := pU_of (i := 2) rfl rfl
theorem us_3 : (Jvm.Cond.selects "ViewBroadcastModel" ({ cls := "ViewBroadcastModel", name := "send", desc := "(IIIII)V" } : Jvm.MethodName) ({ cls := "ViewBroadcastModel", name := "send", desc := "(IIIII)V" } : Jvm.MethodName)) ∈ pU := pU_of (i := 3) rfl rfl
theorem us_4 : (Jvm.Cond.selects "ViewBroadcastModel" ({ cls := "ViewBroadcastModel", name := "sendList", desc := "(IIIIII)V" } : Jvm.MethodName) ({ cls := "ViewBroadcastModel", name := "sendList", desc := "(IIIIII)V" } : Jvm.MethodName)) ∈ pU := pU_of (i := 4) rfl rfl
theorem us_5 : (Jvm.Cond.selects "ViewBroadcastModel" ({ cls := "ViewBroadcastModel", name := "post", desc := "(IIIIII)V" } : Jvm.MethodName) ({ cls := "ViewBroadcastModel", name := "post", desc := "(IIIIII)V" } : Jvm.MethodName)) ∈ pU := pU_of (i := 5) rfl rfl
theorem us_6 : (Jvm.Cond.selects "ViewBroadcastModel" ({ cls := "ViewBroadcastModel", name := "ofLetter", desc := "(II)I" } : Jvm.MethodName) ({ cls := "ViewBroadcastModel", name := "ofLetter", desc := "(II)I" } : Jvm.MethodName)) ∈ pU := pU_of (i := 6) rfl rfl
theorem us_7 : (Jvm.Cond.selects "ViewBroadcastModel" ({ cls := "ViewBroadcastModel", name := "takeOutLetter", desc := "(I)V" } : Jvm.MethodName) ({ cls := "ViewBroadcastModel", name := "takeOutLetter", desc := "(I)V" } : Jvm.MethodName)) ∈ pU := pU_of (i := 7) rfl rfl
theorem us_8 : (Jvm.Cond.selects "ViewBroadcastModel" ({ cls := "ViewBroadcastModel", name := "isActive", desc := "(II)Z" } : Jvm.MethodName) ({ cls := "ViewBroadcastModel", name := "isActive", desc := "(II)Z" } : Jvm.MethodName)) ∈ pU := pU_of (i := 8) rfl rfl
theorem us_9 : (Jvm.Cond.selects "ViewBroadcastModel" ({ cls := "ViewBroadcastModel", name := "activeAt", desc := "(II)I" } : Jvm.MethodName) ({ cls := "ViewBroadcastModel", name := "activeAt", desc := "(II)I" } : Jvm.MethodName)) ∈ pU := pU_of (i := 9) rfl rfl
theorem us_10 : (Jvm.Cond.selects "ViewBroadcastModel" ({ cls := "ViewBroadcastModel", name := "isUnderWay", desc := "(II)Z" } : Jvm.MethodName) ({ cls := "ViewBroadcastModel", name := "isUnderWay", desc := "(II)Z" } : Jvm.MethodName)) ∈ pU := pU_of (i := 10) rfl rfl
theorem us_11 : (Jvm.Cond.selects "ViewBroadcastModel" ({ cls := "ViewBroadcastModel", name := "draw", desc := "(I)I" } : Jvm.MethodName) ({ cls := "ViewBroadcastModel", name := "draw", desc := "(I)I" } : Jvm.MethodName)) ∈ pU := pU_of (i := 11) rfl rfl
theorem us_12 : (Jvm.Cond.selects "ViewBroadcastModel" ({ cls := "ViewBroadcastModel", name := "without", desc := "(III)I" } : Jvm.MethodName) ({ cls := "ViewBroadcastModel", name := "without", desc := "(III)I" } : Jvm.MethodName)) ∈ pU := pU_of (i := 12) rfl rfl
theorem us_13 : (Jvm.Cond.selects "ViewBroadcastModel" ({ cls := "ViewBroadcastModel", name := "drawSome", desc := "(II)V" } : Jvm.MethodName) ({ cls := "ViewBroadcastModel", name := "drawSome", desc := "(II)V" } : Jvm.MethodName)) ∈ pU := pU_of (i := 13) rfl rfl
theorem us_14 : (Jvm.Cond.selects "ViewBroadcastModel" ({ cls := "ViewBroadcastModel", name := "drawOut", desc := "(I)I" } : Jvm.MethodName) ({ cls := "ViewBroadcastModel", name := "drawOut", desc := "(I)I" } : Jvm.MethodName)) ∈ pU := pU_of (i := 14) rfl rfl
theorem us_15 : (Jvm.Cond.selects "ViewBroadcastModel" ({ cls := "ViewBroadcastModel", name := "hear", desc := "(IIII)V" } : Jvm.MethodName) ({ cls := "ViewBroadcastModel", name := "hear", desc := "(IIII)V" } : Jvm.MethodName)) ∈ pU := pU_of (i := 15) rfl rfl
theorem us_16 : (Jvm.Cond.selects "ViewBroadcastModel" ({ cls := "ViewBroadcastModel", name := "fetch", desc := "(III)V" } : Jvm.MethodName) ({ cls := "ViewBroadcastModel", name := "fetch", desc := "(III)V" } : Jvm.MethodName)) ∈ pU := pU_of (i := 16) rfl rfl
theorem us_17 : (Jvm.Cond.selects "ViewBroadcastModel" ({ cls := "ViewBroadcastModel", name := "setLazy", desc := "(III)V" } : Jvm.MethodName) ({ cls := "ViewBroadcastModel", name := "setLazy", desc := "(III)V" } : Jvm.MethodName)) ∈ pU := pU_of (i := 17) rfl rfl
theorem us_18 : (Jvm.Cond.selects "ViewBroadcastModel" ({ cls := "ViewBroadcastModel", name := "canCome", desc := "(I)Z" } : Jvm.MethodName) ({ cls := "ViewBroadcastModel", name := "canCome", desc := "(I)Z" } : Jvm.MethodName)) ∈ pU := pU_of (i := 18) rfl rfl
theorem us_19 : (Jvm.Cond.selects "ViewBroadcastModel" ({ cls := "ViewBroadcastModel", name := "comes", desc := "(I)I" } : Jvm.MethodName) ({ cls := "ViewBroadcastModel", name := "comes", desc := "(I)I" } : Jvm.MethodName)) ∈ pU := pU_of (i := 19) rfl rfl
theorem us_20 : (Jvm.Cond.selects "ViewBroadcastModel" ({ cls := "ViewBroadcastModel", name := "joins", desc := "(IIIII)V" } : Jvm.MethodName) ({ cls := "ViewBroadcastModel", name := "joins", desc := "(IIIII)V" } : Jvm.MethodName)) ∈ pU := pU_of (i := 20) rfl rfl
theorem us_21 : (Jvm.Cond.selects "ViewBroadcastModel" ({ cls := "ViewBroadcastModel", name := "add", desc := "(II)V" } : Jvm.MethodName) ({ cls := "ViewBroadcastModel", name := "add", desc := "(II)V" } : Jvm.MethodName)) ∈ pU := pU_of (i := 21) rfl rfl
theorem us_22 : (Jvm.Cond.selects "ViewBroadcastModel" ({ cls := "ViewBroadcastModel", name := "leavesPassive", desc := "(II)V" } : Jvm.MethodName) ({ cls := "ViewBroadcastModel", name := "leavesPassive", desc := "(II)V" } : Jvm.MethodName)) ∈ pU := pU_of (i := 22) rfl rfl
theorem us_23 : (Jvm.Cond.selects "ViewBroadcastModel" ({ cls := "ViewBroadcastModel", name := "passiveAt", desc := "(II)I" } : Jvm.MethodName) ({ cls := "ViewBroadcastModel", name := "passiveAt", desc := "(II)I" } : Jvm.MethodName)) ∈ pU := pU_of (i := 23) rfl rfl
theorem us_24 : (Jvm.Cond.selects "ViewBroadcastModel" ({ cls := "ViewBroadcastModel", name := "leavesActive", desc := "(II)V" } : Jvm.MethodName) ({ cls := "ViewBroadcastModel", name := "leavesActive", desc := "(II)V" } : Jvm.MethodName)) ∈ pU := pU_of (i := 24) rfl rfl
theorem us_25 : (Jvm.Cond.selects "ViewBroadcastModel" ({ cls := "ViewBroadcastModel", name := "forgetTeller", desc := "(II)V" } : Jvm.MethodName) ({ cls := "ViewBroadcastModel", name := "forgetTeller", desc := "(II)V" } : Jvm.MethodName)) ∈ pU := pU_of (i := 25) rfl rfl
theorem us_26 : (Jvm.Cond.selects "ViewBroadcastModel" ({ cls := "ViewBroadcastModel", name := "note", desc := "(II)V" } : Jvm.MethodName) ({ cls := "ViewBroadcastModel", name := "note", desc := "(II)V" } : Jvm.MethodName)) ∈ pU := pU_of (i := 26) rfl rfl
theorem us_27 : (Jvm.Cond.selects "ViewBroadcastModel" ({ cls := "ViewBroadcastModel", name := "goesOn", desc := "(IIII)V" } : Jvm.MethodName) ({ cls := "ViewBroadcastModel", name := "goesOn", desc := "(IIII)V" } : Jvm.MethodName)) ∈ pU := pU_of (i := 27) rfl rfl
theorem us_28 : (Jvm.Cond.selects "ViewBroadcastModel" ({ cls := "ViewBroadcastModel", name := "mends", desc := "(IIII)V" } : Jvm.MethodName) ({ cls := "ViewBroadcastModel", name := "mends", desc := "(IIII)V" } : Jvm.MethodName)) ∈ pU := pU_of (i := 28) rfl rfl
theorem us_29 : (Jvm.Cond.selects "ViewBroadcastModel" ({ cls := "ViewBroadcastModel", name := "mend", desc := "(I)V" } : Jvm.MethodName) ({ cls := "ViewBroadcastModel", name := "mend", desc := "(I)V" } : Jvm.MethodName)) ∈ pU := pU_of (i := 29) rfl rfl
theorem us_30 : (Jvm.Cond.selects "ViewBroadcastModel" ({ cls := "ViewBroadcastModel", name := "mixes", desc := "(IIIII)V" } : Jvm.MethodName) ({ cls := "ViewBroadcastModel", name := "mixes", desc := "(IIIII)V" } : Jvm.MethodName)) ∈ pU := pU_of (i := 30) rfl rfl
theorem us_31 : (Jvm.Cond.selects "ViewBroadcastModel" ({ cls := "ViewBroadcastModel", name := "tells", desc := "(IIIII)V" } : Jvm.MethodName) ({ cls := "ViewBroadcastModel", name := "tells", desc := "(IIIII)V" } : Jvm.MethodName)) ∈ pU := pU_of (i := 31) rfl rfl
theorem us_32 : (Jvm.Cond.selects "ViewBroadcastModel" ({ cls := "ViewBroadcastModel", name := "isTale", desc := "(I)Z" } : Jvm.MethodName) ({ cls := "ViewBroadcastModel", name := "isTale", desc := "(I)Z" } : Jvm.MethodName)) ∈ pU := pU_of (i := 32) rfl rfl
theorem us_33 : (Jvm.Cond.selects "ViewBroadcastModel" ({ cls := "ViewBroadcastModel", name := "isOther", desc := "(III)Z" } : Jvm.MethodName) ({ cls := "ViewBroadcastModel", name := "isOther", desc := "(III)Z" } : Jvm.MethodName)) ∈ pU := pU_of (i := 33) rfl rfl
theorem us_34 : (Jvm.Cond.selects "ViewBroadcastModel" ({ cls := "ViewBroadcastModel", name := "heardOther", desc := "(II)Z" } : Jvm.MethodName) ({ cls := "ViewBroadcastModel", name := "heardOther", desc := "(II)Z" } : Jvm.MethodName)) ∈ pU := pU_of (i := 34) rfl rfl
set_option maxRecDepth 20000 in
theorem in_X0 : ∀ w ∈ u_ws RX0 TX0 2, w ∈ pU := List.forall_mem_cons.mpr ⟨pU_of (i := 68) rfl rfl, List.forall_mem_cons.mpr ⟨pU_of (i := 70) rfl rfl, fun _ h => absurd h List.not_mem_nil⟩⟩
set_option maxRecDepth 20000 in
theorem in_X1 : ∀ w ∈ u_ws RX1 TX1 6, w ∈ pU := List.forall_mem_cons.mpr ⟨pU_of (i := 250) rfl rfl, List.forall_mem_cons.mpr ⟨pU_of (i := 252) rfl rfl, List.forall_mem_cons.mpr ⟨pU_of (i := 254) rfl rfl, List.forall_mem_cons.mpr ⟨pU_of (i := 256) rfl rfl, List.forall_mem_cons.mpr ⟨pU_of (i := 258) rfl rfl, List.forall_mem_cons.mpr ⟨pU_of (i := 260) rfl rfl, fun _ h => absurd h List.not_mem_nil⟩⟩⟩⟩⟩⟩
set_option maxRecDepth 20000 in
theorem in_X2 : ∀ w ∈ u_ws RX2 TX2 3, w ∈ pU := List.forall_mem_cons.mpr ⟨pU_of (i := 157) rfl rfl, List.forall_mem_cons.mpr ⟨pU_of (i := 159) rfl rfl, List.forall_mem_cons.mpr ⟨pU_of (i := 161) rfl rfl, fun _ h => absurd h List.not_mem_nil⟩⟩⟩
set_option maxRecDepth 20000 in
theorem in_X3 : ∀ w ∈ u_ws RX3 TX3 10, w ∈ pU := List.forall_mem_cons.mpr ⟨pU_of (i := 193) rfl rfl, List.forall_mem_cons.mpr ⟨pU_of (i := 195) rfl rfl, List.forall_mem_cons.mpr ⟨pU_of (i := 197) rfl rfl, List.forall_mem_cons.mpr ⟨pU_of (i := 199) rfl rfl, List.forall_mem_cons.mpr ⟨pU_of (i := 201) rfl rfl, List.forall_mem_cons.mpr ⟨pU_of (i := 203) rfl rfl, List.forall_mem_cons.mpr ⟨pU_of (i := 205) rfl rfl, List.forall_mem_cons.mpr ⟨pU_of (i := 207) rfl rfl, List.forall_mem_cons.mpr ⟨pU_of (i := 209) rfl rfl, List.forall_mem_cons.mpr ⟨pU_of (i := 211) rfl rfl, fun _ h => absurd h List.not_mem_nil⟩⟩⟩⟩⟩⟩⟩⟩⟩⟩
set_option maxRecDepth 20000 in
theorem in_X4 : ∀ w ∈ u_ws RX4 TX4 2, w ∈ pU := List.forall_mem_cons.mpr ⟨pU_of (i := 134) rfl rfl, List.forall_mem_cons.mpr ⟨pU_of (i := 136) rfl rfl, fun _ h => absurd h List.not_mem_nil⟩⟩
set_option maxRecDepth 20000 in
theorem in_X5 : ∀ w ∈ u_ws RX5 TX5 4, w ∈ pU := List.forall_mem_cons.mpr ⟨pU_of (i := 270) rfl rfl, List.forall_mem_cons.mpr ⟨pU_of (i := 272) rfl rfl, List.forall_mem_cons.mpr ⟨pU_of (i := 274) rfl rfl, List.forall_mem_cons.mpr ⟨pU_of (i := 276) rfl rfl, fun _ h => absurd h List.not_mem_nil⟩⟩⟩⟩
set_option maxRecDepth 20000 in
theorem in_X6 : ∀ w ∈ u_ws RX6 TX6 5, w ∈ pU := List.forall_mem_cons.mpr ⟨pU_of (i := 101) rfl rfl, List.forall_mem_cons.mpr ⟨pU_of (i := 103) rfl rfl, List.forall_mem_cons.mpr ⟨pU_of (i := 105) rfl rfl, List.forall_mem_cons.mpr ⟨pU_of (i := 107) rfl rfl, List.forall_mem_cons.mpr ⟨pU_of (i := 109) rfl rfl, fun _ h => absurd h List.not_mem_nil⟩⟩⟩⟩⟩
set_option maxRecDepth 20000 in
theorem in_X7 : ∀ w ∈ u_ws RX7 TX7 1, w ∈ pU := List.forall_mem_cons.mpr ⟨pU_of (i := 355) rfl rfl, fun _ h => absurd h List.not_mem_nil⟩
set_option maxRecDepth 20000 in
theorem in_X8 : ∀ w ∈ u_ws RX8 TX8 4, w ∈ pU := List.forall_mem_cons.mpr ⟨pU_of (i := 339) rfl rfl, List.forall_mem_cons.mpr ⟨pU_of (i := 341) rfl rfl, List.forall_mem_cons.mpr ⟨pU_of (i := 343) rfl rfl, List.forall_mem_cons.mpr ⟨pU_of (i := 345) rfl rfl, fun _ h => absurd h List.not_mem_nil⟩⟩⟩⟩
set_option maxRecDepth 20000 in
theorem in_X9 : ∀ w ∈ u_ws RX9 TX9 11, w ∈ pU := List.forall_mem_cons.mpr ⟨pU_of (i := 304) rfl rfl, List.forall_mem_cons.mpr ⟨pU_of (i := 306) rfl rfl, List.forall_mem_cons.mpr ⟨pU_of (i := 308) rfl rfl, List.forall_mem_cons.mpr ⟨pU_of (i := 310) rfl rfl, List.forall_mem_cons.mpr ⟨pU_of (i := 312) rfl rfl, List.forall_mem_cons.mpr ⟨pU_of (i := 314) rfl rfl, List.forall_mem_cons.mpr ⟨pU_of (i := 316) rfl rfl, List.forall_mem_cons.mpr ⟨pU_of (i := 318) rfl rfl, List.forall_mem_cons.mpr ⟨pU_of (i := 320) rfl rfl, List.forall_mem_cons.mpr ⟨pU_of (i := 322) rfl rfl, List.forall_mem_cons.mpr ⟨pU_of (i := 324) rfl rfl, fun _ h => absurd h List.not_mem_nil⟩⟩⟩⟩⟩⟩⟩⟩⟩⟩⟩
set_option maxRecDepth 20000 in
theorem in_X10 : ∀ w ∈ u_ws RX10 TX10 6, w ∈ pU := List.forall_mem_cons.mpr ⟨pU_of (i := 365) rfl rfl, List.forall_mem_cons.mpr ⟨pU_of (i := 367) rfl rfl, List.forall_mem_cons.mpr ⟨pU_of (i := 369) rfl rfl, List.forall_mem_cons.mpr ⟨pU_of (i := 371) rfl rfl, List.forall_mem_cons.mpr ⟨pU_of (i := 373) rfl rfl, List.forall_mem_cons.mpr ⟨pU_of (i := 375) rfl rfl, fun _ h => absurd h List.not_mem_nil⟩⟩⟩⟩⟩⟩
set_option maxRecDepth 20000 in
theorem in_X11 : ∀ w ∈ u_ws RX11 TX11 16, w ∈ pU := List.forall_mem_cons.mpr ⟨pU_of (i := 903) rfl rfl, List.forall_mem_cons.mpr ⟨pU_of (i := 905) rfl rfl, List.forall_mem_cons.mpr ⟨pU_of (i := 907) rfl rfl, List.forall_mem_cons.mpr ⟨pU_of (i := 909) rfl rfl, List.forall_mem_cons.mpr ⟨pU_of (i := 911) rfl rfl, List.forall_mem_cons.mpr ⟨pU_of (i := 913) rfl rfl, List.forall_mem_cons.mpr ⟨pU_of (i := 915) rfl rfl, List.forall_mem_cons.mpr ⟨pU_of (i := 917) rfl rfl, List.forall_mem_cons.mpr ⟨pU_of (i := 919) rfl rfl, List.forall_mem_cons.mpr ⟨pU_of (i := 921) rfl rfl, List.forall_mem_cons.mpr ⟨pU_of (i := 923) rfl rfl, List.forall_mem_cons.mpr ⟨pU_of (i := 925) rfl rfl, List.forall_mem_cons.mpr ⟨pU_of (i := 927) rfl rfl, List.forall_mem_cons.mpr ⟨pU_of (i := 929) rfl rfl, List.forall_mem_cons.mpr ⟨pU_of (i := 931) rfl rfl, List.forall_mem_cons.mpr ⟨pU_of (i := 933) rfl rfl, fun _ h => absurd h List.not_mem_nil⟩⟩⟩⟩⟩⟩⟩⟩⟩⟩⟩⟩⟩⟩⟩⟩
