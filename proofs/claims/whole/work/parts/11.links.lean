set_option maxRecDepth 100000 in
theorem wd_1 : (Jvm.Cond.initialized "GongHouse") ∈ q_gw := q_gwm 1 rfl rfl
set_option maxRecDepth 100000 in
theorem wd_2 : (Jvm.Cond.initialized "GongHouse$Tape") ∈ q_gw := q_gwm 2 rfl rfl
set_option maxRecDepth 100000 in
theorem wd_3 : (Jvm.Cond.initialized "GongHouse$House") ∈ q_gw := q_gwm 3 rfl rfl
set_option maxRecDepth 100000 in
theorem wd_4 : (Jvm.Cond.initialized "GongHouse$LawReader") ∈ q_gw := q_gwm 4 rfl rfl
set_option maxRecDepth 100000 in
theorem wd_5 : (Jvm.Cond.initialized "GongHouse$State") ∈ q_gw := q_gwm 5 rfl rfl
set_option maxRecDepth 100000 in
theorem wd_6 : (Jvm.Cond.initialized "GongHouse$Past") ∈ q_gw := q_gwm 6 rfl rfl
set_option maxRecDepth 100000 in
theorem wd_7 : (Jvm.Cond.initialized "GongHouse$Evening") ∈ q_gw := q_gwm 7 rfl rfl
set_option maxRecDepth 100000 in
theorem wd_8 : (Jvm.Cond.initialized "GongHouse$Deeds") ∈ q_gw := q_gwm 8 rfl rfl
set_option maxRecDepth 100000 in
theorem wd_9 : (Jvm.Cond.initialized "GongHouse$Foresight") ∈ q_gw := q_gwm 9 rfl rfl
set_option maxRecDepth 100000 in
theorem wd_10 : (Jvm.Cond.initialized "GongHouse$Sights") ∈ q_gw := q_gwm 10 rfl rfl
set_option maxRecDepth 100000 in
theorem wd_11 : (Jvm.Cond.initialized "GongHouse$Week") ∈ q_gw := q_gwm 11 rfl rfl
set_option maxRecDepth 100000 in
theorem wd_12 : (Jvm.Cond.initialized "GongHouseModel") ∈ q_gw := q_gwm 12 rfl rfl
set_option maxRecDepth 100000 in
theorem wd_13 : (Jvm.Cond.initialized "java/lang/String") ∈ q_gw := q_gwm 13 rfl rfl
set_option maxRecDepth 100000 in
theorem wd_15 : (Jvm.Cond.initialized "java/lang/Math") ∈ q_gw := q_gwm 15 rfl rfl
set_option maxRecDepth 100000 in
theorem wd_19 : (Jvm.Cond.initialized "java/lang/System") ∈ q_gw := q_gwm 19 rfl rfl
set_option maxRecDepth 100000 in
theorem wd_20 : (Jvm.Cond.initialized "java/util/Arrays") ∈ q_gw := q_gwm 20 rfl rfl
set_option maxRecDepth 100000 in
theorem wd_21 : (Jvm.Cond.initialized "GongHouse$Law") ∈ q_gw := q_gwm 21 rfl rfl
set_option maxRecDepth 100000 in
theorem wd_26 : (Jvm.Cond.initialized "java/lang/Integer") ∈ q_gw := q_gwm 26 rfl rfl
set_option maxRecDepth 100000 in
theorem wd_27 : (Jvm.Cond.classLink "GongHouseLaw" (8 : Nat) "GongHouse") ∈ q_gw := q_gwm 27 rfl rfl
set_option maxRecDepth 100000 in
theorem wd_28 : (Jvm.Cond.instantiable "GongHouse" (20 : Nat)) ∈ q_gw := q_gwm 28 rfl rfl
set_option maxRecDepth 100000 in
theorem wd_29 : (Jvm.Cond.methodLink "GongHouseLaw" (15 : Nat) ({ cls := "GongHouse", name := "<init>", desc := "()V" } : Jvm.MethodName)) ∈ q_gw := q_gwm 29 rfl rfl
set_option maxRecDepth 100000 in
theorem wd_30 : (Jvm.Cond.instanceMethod ({ cls := "GongHouse", name := "<init>", desc := "()V" } : Jvm.MethodName)) ∈ q_gw := q_gwm 30 rfl rfl
set_option maxRecDepth 100000 in
theorem wd_31 : (Jvm.Cond.code ({ cls := "GongHouse", name := "<init>", desc := "()V" } : Jvm.MethodName) prog_1_method_1_code (1 : Nat) (Option.none : Option Jvm.ClassFile.FieldType)) ∈ q_gw := q_gwm 31 rfl rfl
set_option maxRecDepth 100000 in
theorem wd_32 : (Jvm.Cond.methodLink "GongHouse" (3 : Nat) ({ cls := "java/lang/Object", name := "<init>", desc := "()V" } : Jvm.MethodName)) ∈ q_gw := q_gwm 32 rfl rfl
set_option maxRecDepth 100000 in
theorem wd_33 : (Jvm.Cond.instanceMethod ({ cls := "java/lang/Object", name := "<init>", desc := "()V" } : Jvm.MethodName)) ∈ q_gw := q_gwm 33 rfl rfl
set_option maxRecDepth 100000 in
theorem wd_34 : (Jvm.Cond.code ({ cls := "java/lang/Object", name := "<init>", desc := "()V" } : Jvm.MethodName) object_method_1_code (1 : Nat) (Option.none : Option Jvm.ClassFile.FieldType)) ∈ q_gw := q_gwm 34 rfl rfl
set_option maxRecDepth 100000 in
theorem wd_35 : (Jvm.Cond.classLink "GongHouse" (9 : Nat) "GongHouse$Tape") ∈ q_gw := q_gwm 35 rfl rfl
set_option maxRecDepth 100000 in
theorem wd_36 : (Jvm.Cond.instantiable "GongHouse$Tape" (4 : Nat)) ∈ q_gw := q_gwm 36 rfl rfl
set_option maxRecDepth 100000 in
theorem wd_38 : (Jvm.Cond.instanceMethod ({ cls := "GongHouse$Tape", name := "<init>", desc := "()V" } : Jvm.MethodName)) ∈ q_gw := q_gwm 38 rfl rfl
set_option maxRecDepth 100000 in
theorem wd_39 : (Jvm.Cond.code ({ cls := "GongHouse$Tape", name := "<init>", desc := "()V" } : Jvm.MethodName) prog_11_method_1_code (1 : Nat) (Option.none : Option Jvm.ClassFile.FieldType)) ∈ q_gw := q_gwm 39 rfl rfl
set_option maxRecDepth 100000 in
theorem wd_40 : (Jvm.Cond.methodLink "GongHouse$Tape" (3 : Nat) ({ cls := "java/lang/Object", name := "<init>", desc := "()V" } : Jvm.MethodName)) ∈ q_gw := q_gwm 40 rfl rfl
set_option maxRecDepth 100000 in
theorem wd_41 : (Jvm.Cond.fieldLink "GongHouse$Tape" (9 : Nat) "GongHouse$Tape" "bytes" "[B") ∈ q_gw := q_gwm 41 rfl rfl
set_option maxRecDepth 100000 in
theorem wd_42 : (Jvm.Cond.fieldLink "GongHouse$Tape" (15 : Nat) "GongHouse$Tape" "length" "I") ∈ q_gw := q_gwm 42 rfl rfl
set_option maxRecDepth 100000 in
theorem wd_44 : (Jvm.Cond.fieldLink "GongHouse$Tape" (19 : Nat) "GongHouse$Tape" "eye" "I") ∈ q_gw := q_gwm 44 rfl rfl
set_option maxRecDepth 100000 in
theorem wd_49 : (Jvm.Cond.fieldLink "GongHouse$Tape" (22 : Nat) "GongHouse$Tape" "number" "I") ∈ q_gw := q_gwm 49 rfl rfl
set_option maxRecDepth 100000 in
theorem wd_62 : (Jvm.Cond.arrayClass Jvm.ClassFile.FieldType.byte) ∈ q_gw := q_gwm 62 rfl rfl
set_option maxRecDepth 100000 in
theorem wd_63 : (Jvm.Cond.classLink "GongHouse" (16 : Nat) "GongHouse$House") ∈ q_gw := q_gwm 63 rfl rfl
set_option maxRecDepth 100000 in
theorem wd_64 : (Jvm.Cond.instantiable "GongHouse$House" (7 : Nat)) ∈ q_gw := q_gwm 64 rfl rfl
set_option maxRecDepth 100000 in
theorem wd_66 : (Jvm.Cond.instanceMethod ({ cls := "GongHouse$House", name := "<init>", desc := "()V" } : Jvm.MethodName)) ∈ q_gw := q_gwm 66 rfl rfl
set_option maxRecDepth 100000 in
theorem wd_67 : (Jvm.Cond.code ({ cls := "GongHouse$House", name := "<init>", desc := "()V" } : Jvm.MethodName) prog_5_method_1_code (1 : Nat) (Option.none : Option Jvm.ClassFile.FieldType)) ∈ q_gw := q_gwm 67 rfl rfl
set_option maxRecDepth 100000 in
theorem wd_68 : (Jvm.Cond.methodLink "GongHouse$House" (3 : Nat) ({ cls := "java/lang/Object", name := "<init>", desc := "()V" } : Jvm.MethodName)) ∈ q_gw := q_gwm 68 rfl rfl
set_option maxRecDepth 100000 in
theorem wd_69 : (Jvm.Cond.fieldLink "GongHouse$House" (9 : Nat) "GongHouse$House" "rules" "[I") ∈ q_gw := q_gwm 69 rfl rfl
set_option maxRecDepth 100000 in
theorem wd_73 : (Jvm.Cond.fieldLink "GongHouse$House" (15 : Nat) "GongHouse$House" "dishes" "[I") ∈ q_gw := q_gwm 73 rfl rfl
set_option maxRecDepth 100000 in
theorem wd_75 : (Jvm.Cond.fieldLink "GongHouse$House" (18 : Nat) "GongHouse$House" "guests" "[I") ∈ q_gw := q_gwm 75 rfl rfl
set_option maxRecDepth 100000 in
theorem wd_77 : (Jvm.Cond.fieldLink "GongHouse$House" (21 : Nat) "GongHouse$House" "byComing" "[I") ∈ q_gw := q_gwm 77 rfl rfl
set_option maxRecDepth 100000 in
theorem wd_79 : (Jvm.Cond.fieldLink "GongHouse$House" (24 : Nat) "GongHouse$House" "dishCount" "I") ∈ q_gw := q_gwm 79 rfl rfl
set_option maxRecDepth 100000 in
theorem wd_83 : (Jvm.Cond.fieldLink "GongHouse$House" (28 : Nat) "GongHouse$House" "guestCount" "I") ∈ q_gw := q_gwm 83 rfl rfl
set_option maxRecDepth 100000 in
theorem wd_87 : (Jvm.Cond.fieldLink "GongHouse$House" (31 : Nat) "GongHouse$House" "ruled" "Z") ∈ q_gw := q_gwm 87 rfl rfl
set_option maxRecDepth 100000 in
theorem wd_103 : (Jvm.Cond.arrayClass Jvm.ClassFile.FieldType.int) ∈ q_gw := q_gwm 103 rfl rfl
set_option maxRecDepth 100000 in
theorem wd_104 : (Jvm.Cond.classLink "GongHouse" (26 : Nat) "GongHouse$LawReader") ∈ q_gw := q_gwm 104 rfl rfl
set_option maxRecDepth 100000 in
theorem wd_105 : (Jvm.Cond.instantiable "GongHouse$LawReader" (3 : Nat)) ∈ q_gw := q_gwm 105 rfl rfl
set_option maxRecDepth 100000 in
theorem wd_107 : (Jvm.Cond.instanceMethod ({ cls := "GongHouse$LawReader", name := "<init>", desc := "(LGongHouse$Tape;)V" } : Jvm.MethodName)) ∈ q_gw := q_gwm 107 rfl rfl
set_option maxRecDepth 100000 in
theorem wd_108 : (Jvm.Cond.code ({ cls := "GongHouse$LawReader", name := "<init>", desc := "(LGongHouse$Tape;)V" } : Jvm.MethodName) prog_7_method_1_code (2 : Nat) (Option.none : Option Jvm.ClassFile.FieldType)) ∈ q_gw := q_gwm 108 rfl rfl
set_option maxRecDepth 100000 in
theorem wd_109 : (Jvm.Cond.methodLink "GongHouse$LawReader" (3 : Nat) ({ cls := "java/lang/Object", name := "<init>", desc := "()V" } : Jvm.MethodName)) ∈ q_gw := q_gwm 109 rfl rfl
set_option maxRecDepth 100000 in
theorem wd_110 : (Jvm.Cond.fieldLink "GongHouse$LawReader" (19 : Nat) "GongHouse$LawReader" "tape" "LGongHouse$Tape;") ∈ q_gw := q_gwm 110 rfl rfl
set_option maxRecDepth 100000 in
theorem wd_111 : (Jvm.Cond.fieldLink "GongHouse$LawReader" (9 : Nat) "GongHouse$LawReader" "code" "[I") ∈ q_gw := q_gwm 111 rfl rfl
set_option maxRecDepth 100000 in
theorem wd_112 : (Jvm.Cond.fieldLink "GongHouse$LawReader" (15 : Nat) "GongHouse$LawReader" "size" "I") ∈ q_gw := q_gwm 112 rfl rfl
set_option maxRecDepth 100000 in
theorem wd_120 : (Jvm.Cond.classLink "GongHouse" (35 : Nat) "GongHouse$Law") ∈ q_gw := q_gwm 120 rfl rfl
set_option maxRecDepth 100000 in
theorem wd_122 : (Jvm.Cond.classLink "GongHouse" (41 : Nat) "GongHouse$Week") ∈ q_gw := q_gwm 122 rfl rfl
set_option maxRecDepth 100000 in
theorem wd_124 : (Jvm.Cond.classLink "GongHouse" (47 : Nat) "GongHouse$State") ∈ q_gw := q_gwm 124 rfl rfl
set_option maxRecDepth 100000 in
theorem wd_125 : (Jvm.Cond.instantiable "GongHouse$State" (1 : Nat)) ∈ q_gw := q_gwm 125 rfl rfl
set_option maxRecDepth 100000 in
theorem wd_127 : (Jvm.Cond.instanceMethod ({ cls := "GongHouse$State", name := "<init>", desc := "()V" } : Jvm.MethodName)) ∈ q_gw := q_gwm 127 rfl rfl
set_option maxRecDepth 100000 in
theorem wd_128 : (Jvm.Cond.code ({ cls := "GongHouse$State", name := "<init>", desc := "()V" } : Jvm.MethodName) prog_10_method_1_code (1 : Nat) (Option.none : Option Jvm.ClassFile.FieldType)) ∈ q_gw := q_gwm 128 rfl rfl
set_option maxRecDepth 100000 in
theorem wd_129 : (Jvm.Cond.methodLink "GongHouse$State" (3 : Nat) ({ cls := "java/lang/Object", name := "<init>", desc := "()V" } : Jvm.MethodName)) ∈ q_gw := q_gwm 129 rfl rfl
set_option maxRecDepth 100000 in
theorem wd_130 : (Jvm.Cond.fieldLink "GongHouse$State" (9 : Nat) "GongHouse$State" "at" "[I") ∈ q_gw := q_gwm 130 rfl rfl
set_option maxRecDepth 100000 in
theorem wd_139 : (Jvm.Cond.classLink "GongHouse" (57 : Nat) "GongHouse$Past") ∈ q_gw := q_gwm 139 rfl rfl
set_option maxRecDepth 100000 in
theorem wd_140 : (Jvm.Cond.instantiable "GongHouse$Past" (7 : Nat)) ∈ q_gw := q_gwm 140 rfl rfl
set_option maxRecDepth 100000 in
theorem wd_142 : (Jvm.Cond.instanceMethod ({ cls := "GongHouse$Past", name := "<init>", desc := "()V" } : Jvm.MethodName)) ∈ q_gw := q_gwm 142 rfl rfl
set_option maxRecDepth 100000 in
theorem wd_143 : (Jvm.Cond.code ({ cls := "GongHouse$Past", name := "<init>", desc := "()V" } : Jvm.MethodName) prog_8_method_1_code (1 : Nat) (Option.none : Option Jvm.ClassFile.FieldType)) ∈ q_gw := q_gwm 143 rfl rfl
set_option maxRecDepth 100000 in
theorem wd_144 : (Jvm.Cond.methodLink "GongHouse$Past" (3 : Nat) ({ cls := "java/lang/Object", name := "<init>", desc := "()V" } : Jvm.MethodName)) ∈ q_gw := q_gwm 144 rfl rfl
set_option maxRecDepth 100000 in
theorem wd_145 : (Jvm.Cond.classLink "GongHouse$Past" (21 : Nat) "GongHouse$State") ∈ q_gw := q_gwm 145 rfl rfl
set_option maxRecDepth 100000 in
theorem wd_147 : (Jvm.Cond.fieldLink "GongHouse$Past" (9 : Nat) "GongHouse$Past" "acts" "[I") ∈ q_gw := q_gwm 147 rfl rfl
set_option maxRecDepth 100000 in
theorem wd_148 : (Jvm.Cond.fieldLink "GongHouse$Past" (15 : Nat) "GongHouse$Past" "logged" "[I") ∈ q_gw := q_gwm 148 rfl rfl
set_option maxRecDepth 100000 in
theorem wd_149 : (Jvm.Cond.fieldLink "GongHouse$Past" (18 : Nat) "GongHouse$Past" "loggedThen" "[I") ∈ q_gw := q_gwm 149 rfl rfl
set_option maxRecDepth 100000 in
theorem wd_150 : (Jvm.Cond.fieldLink "GongHouse$Past" (24 : Nat) "GongHouse$Past" "picture" "LGongHouse$State;") ∈ q_gw := q_gwm 150 rfl rfl
set_option maxRecDepth 100000 in
theorem wd_151 : (Jvm.Cond.fieldLink "GongHouse$Past" (28 : Nat) "GongHouse$Past" "pictured" "Z") ∈ q_gw := q_gwm 151 rfl rfl
set_option maxRecDepth 100000 in
theorem wd_152 : (Jvm.Cond.fieldLink "GongHouse$Past" (32 : Nat) "GongHouse$Past" "nextAct" "I") ∈ q_gw := q_gwm 152 rfl rfl
set_option maxRecDepth 100000 in
theorem wd_153 : (Jvm.Cond.fieldLink "GongHouse$Past" (36 : Nat) "GongHouse$Past" "actCount" "I") ∈ q_gw := q_gwm 153 rfl rfl
set_option maxRecDepth 100000 in
theorem wd_170 : (Jvm.Cond.classLink "GongHouse" (64 : Nat) "GongHouse$Evening") ∈ q_gw := q_gwm 170 rfl rfl
set_option maxRecDepth 100000 in
theorem wd_171 : (Jvm.Cond.instantiable "GongHouse$Evening" (12 : Nat)) ∈ q_gw := q_gwm 171 rfl rfl
set_option maxRecDepth 100000 in
theorem wd_173 : (Jvm.Cond.instanceMethod ({ cls := "GongHouse$Evening", name := "<init>", desc := "(LGongHouse$House;)V" } : Jvm.MethodName)) ∈ q_gw := q_gwm 173 rfl rfl
set_option maxRecDepth 100000 in
theorem wd_174 : (Jvm.Cond.code ({ cls := "GongHouse$Evening", name := "<init>", desc := "(LGongHouse$House;)V" } : Jvm.MethodName) prog_3_method_1_code (2 : Nat) (Option.none : Option Jvm.ClassFile.FieldType)) ∈ q_gw := q_gwm 174 rfl rfl
set_option maxRecDepth 100000 in
theorem wd_175 : (Jvm.Cond.methodLink "GongHouse$Evening" (3 : Nat) ({ cls := "java/lang/Object", name := "<init>", desc := "()V" } : Jvm.MethodName)) ∈ q_gw := q_gwm 175 rfl rfl
set_option maxRecDepth 100000 in
theorem wd_176 : (Jvm.Cond.fieldLink "GongHouse$Evening" (47 : Nat) "GongHouse$Evening" "house" "LGongHouse$House;") ∈ q_gw := q_gwm 176 rfl rfl
set_option maxRecDepth 100000 in
theorem wd_177 : (Jvm.Cond.fieldLink "GongHouse$Evening" (9 : Nat) "GongHouse$Evening" "fedPortions" "[I") ∈ q_gw := q_gwm 177 rfl rfl
set_option maxRecDepth 100000 in
theorem wd_179 : (Jvm.Cond.fieldLink "GongHouse$Evening" (15 : Nat) "GongHouse$Evening" "letters" "[I") ∈ q_gw := q_gwm 179 rfl rfl
set_option maxRecDepth 100000 in
theorem wd_180 : (Jvm.Cond.fieldLink "GongHouse$Evening" (18 : Nat) "GongHouse$Evening" "law" "LGongHouse$Law;") ∈ q_gw := q_gwm 180 rfl rfl
set_option maxRecDepth 100000 in
theorem wd_182 : (Jvm.Cond.fieldLink "GongHouse$Evening" (22 : Nat) "GongHouse$Evening" "thereBits" "I") ∈ q_gw := q_gwm 182 rfl rfl
set_option maxRecDepth 100000 in
theorem wd_185 : (Jvm.Cond.fieldLink "GongHouse$Evening" (26 : Nat) "GongHouse$Evening" "cooks" "I") ∈ q_gw := q_gwm 185 rfl rfl
set_option maxRecDepth 100000 in
theorem wd_187 : (Jvm.Cond.fieldLink "GongHouse$Evening" (29 : Nat) "GongHouse$Evening" "portions" "I") ∈ q_gw := q_gwm 187 rfl rfl
set_option maxRecDepth 100000 in
theorem wd_189 : (Jvm.Cond.fieldLink "GongHouse$Evening" (32 : Nat) "GongHouse$Evening" "dish" "I") ∈ q_gw := q_gwm 189 rfl rfl
set_option maxRecDepth 100000 in
theorem wd_193 : (Jvm.Cond.fieldLink "GongHouse$Evening" (35 : Nat) "GongHouse$Evening" "warmth" "I") ∈ q_gw := q_gwm 193 rfl rfl
set_option maxRecDepth 100000 in
theorem wd_196 : (Jvm.Cond.fieldLink "GongHouse$Evening" (38 : Nat) "GongHouse$Evening" "servings" "I") ∈ q_gw := q_gwm 196 rfl rfl
set_option maxRecDepth 100000 in
theorem wd_198 : (Jvm.Cond.fieldLink "GongHouse$Evening" (41 : Nat) "GongHouse$Evening" "fedBits" "I") ∈ q_gw := q_gwm 198 rfl rfl
set_option maxRecDepth 100000 in
theorem wd_202 : (Jvm.Cond.fieldLink "GongHouse$Evening" (44 : Nat) "GongHouse$Evening" "thrownAway" "I") ∈ q_gw := q_gwm 202 rfl rfl
set_option maxRecDepth 100000 in
theorem wd_229 : (Jvm.Cond.classLink "GongHouse" (73 : Nat) "GongHouse$Deeds") ∈ q_gw := q_gwm 229 rfl rfl
set_option maxRecDepth 100000 in
theorem wd_230 : (Jvm.Cond.instantiable "GongHouse$Deeds" (2 : Nat)) ∈ q_gw := q_gwm 230 rfl rfl
set_option maxRecDepth 100000 in
theorem wd_232 : (Jvm.Cond.instanceMethod ({ cls := "GongHouse$Deeds", name := "<init>", desc := "(LGongHouse$House;LGongHouse$Evening;)V" } : Jvm.MethodName)) ∈ q_gw := q_gwm 232 rfl rfl
set_option maxRecDepth 100000 in
theorem wd_233 : (Jvm.Cond.code ({ cls := "GongHouse$Deeds", name := "<init>", desc := "(LGongHouse$House;LGongHouse$Evening;)V" } : Jvm.MethodName) prog_2_method_1_code (3 : Nat) (Option.none : Option Jvm.ClassFile.FieldType)) ∈ q_gw := q_gwm 233 rfl rfl
set_option maxRecDepth 100000 in
theorem wd_234 : (Jvm.Cond.methodLink "GongHouse$Deeds" (3 : Nat) ({ cls := "java/lang/Object", name := "<init>", desc := "()V" } : Jvm.MethodName)) ∈ q_gw := q_gwm 234 rfl rfl
set_option maxRecDepth 100000 in
theorem wd_235 : (Jvm.Cond.fieldLink "GongHouse$Deeds" (9 : Nat) "GongHouse$Deeds" "house" "LGongHouse$House;") ∈ q_gw := q_gwm 235 rfl rfl
set_option maxRecDepth 100000 in
theorem wd_236 : (Jvm.Cond.fieldLink "GongHouse$Deeds" (15 : Nat) "GongHouse$Deeds" "evening" "LGongHouse$Evening;") ∈ q_gw := q_gwm 236 rfl rfl
set_option maxRecDepth 100000 in
theorem wd_242 : (Jvm.Cond.classLink "GongHouse" (82 : Nat) "GongHouse$Foresight") ∈ q_gw := q_gwm 242 rfl rfl
set_option maxRecDepth 100000 in
theorem wd_243 : (Jvm.Cond.instantiable "GongHouse$Foresight" (12 : Nat)) ∈ q_gw := q_gwm 243 rfl rfl
set_option maxRecDepth 100000 in
theorem wd_245 : (Jvm.Cond.instanceMethod ({ cls := "GongHouse$Foresight", name := "<init>", desc := "(LGongHouse$House;LGongHouse$Evening;LGongHouse$Deeds;)V" } : Jvm.MethodName)) ∈ q_gw := q_gwm 245 rfl rfl
set_option maxRecDepth 100000 in
theorem wd_246 : (Jvm.Cond.code ({ cls := "GongHouse$Foresight", name := "<init>", desc := "(LGongHouse$House;LGongHouse$Evening;LGongHouse$Deeds;)V" } : Jvm.MethodName) prog_4_method_1_code (5 : Nat) (Option.none : Option Jvm.ClassFile.FieldType)) ∈ q_gw := q_gwm 246 rfl rfl
set_option maxRecDepth 100000 in
theorem wd_247 : (Jvm.Cond.methodLink "GongHouse$Foresight" (5 : Nat) ({ cls := "java/lang/Object", name := "<init>", desc := "()V" } : Jvm.MethodName)) ∈ q_gw := q_gwm 247 rfl rfl
set_option maxRecDepth 100000 in
theorem wd_248 : (Jvm.Cond.classLink "GongHouse$Foresight" (11 : Nat) "GongHouse$State") ∈ q_gw := q_gwm 248 rfl rfl
set_option maxRecDepth 100000 in
theorem wd_251 : (Jvm.Cond.fieldLink "GongHouse$Foresight" (45 : Nat) "GongHouse$Foresight" "house" "LGongHouse$House;") ∈ q_gw := q_gwm 251 rfl rfl
set_option maxRecDepth 100000 in
theorem wd_252 : (Jvm.Cond.fieldLink "GongHouse$Foresight" (49 : Nat) "GongHouse$Foresight" "evening" "LGongHouse$Evening;") ∈ q_gw := q_gwm 252 rfl rfl
set_option maxRecDepth 100000 in
theorem wd_253 : (Jvm.Cond.fieldLink "GongHouse$Foresight" (53 : Nat) "GongHouse$Foresight" "deeds" "LGongHouse$Deeds;") ∈ q_gw := q_gwm 253 rfl rfl
set_option maxRecDepth 100000 in
theorem wd_254 : (Jvm.Cond.fieldLink "GongHouse$Foresight" (14 : Nat) "GongHouse$Foresight" "apart" "LGongHouse$State;") ∈ q_gw := q_gwm 254 rfl rfl
set_option maxRecDepth 100000 in
theorem wd_255 : (Jvm.Cond.fieldLink "GongHouse$Foresight" (18 : Nat) "GongHouse$Foresight" "levels" "[LGongHouse$State;") ∈ q_gw := q_gwm 255 rfl rfl
set_option maxRecDepth 100000 in
theorem wd_256 : (Jvm.Cond.fieldLink "GongHouse$Foresight" (22 : Nat) "GongHouse$Foresight" "firstGains" "[I") ∈ q_gw := q_gwm 256 rfl rfl
set_option maxRecDepth 100000 in
theorem wd_257 : (Jvm.Cond.fieldLink "GongHouse$Foresight" (26 : Nat) "GongHouse$Foresight" "secondGains" "[I") ∈ q_gw := q_gwm 257 rfl rfl
set_option maxRecDepth 100000 in
theorem wd_258 : (Jvm.Cond.fieldLink "GongHouse$Foresight" (29 : Nat) "GongHouse$Foresight" "joyGained" "I") ∈ q_gw := q_gwm 258 rfl rfl
set_option maxRecDepth 100000 in
theorem wd_260 : (Jvm.Cond.fieldLink "GongHouse$Foresight" (33 : Nat) "GongHouse$Foresight" "bestRow" "I") ∈ q_gw := q_gwm 260 rfl rfl
set_option maxRecDepth 100000 in
theorem wd_262 : (Jvm.Cond.fieldLink "GongHouse$Foresight" (36 : Nat) "GongHouse$Foresight" "bestJoy" "I") ∈ q_gw := q_gwm 262 rfl rfl
set_option maxRecDepth 100000 in
theorem wd_264 : (Jvm.Cond.fieldLink "GongHouse$Foresight" (39 : Nat) "GongHouse$Foresight" "firstHas" "I") ∈ q_gw := q_gwm 264 rfl rfl
set_option maxRecDepth 100000 in
theorem wd_266 : (Jvm.Cond.fieldLink "GongHouse$Foresight" (42 : Nat) "GongHouse$Foresight" "secondHas" "I") ∈ q_gw := q_gwm 266 rfl rfl
set_option maxRecDepth 100000 in
theorem wd_293 : (Jvm.Cond.classLink "GongHouse" (91 : Nat) "GongHouse$Sights") ∈ q_gw := q_gwm 293 rfl rfl
set_option maxRecDepth 100000 in
theorem wd_294 : (Jvm.Cond.instantiable "GongHouse$Sights" (4 : Nat)) ∈ q_gw := q_gwm 294 rfl rfl
set_option maxRecDepth 100000 in
theorem wd_296 : (Jvm.Cond.instanceMethod ({ cls := "GongHouse$Sights", name := "<init>", desc := "(LGongHouse$House;LGongHouse$Evening;)V" } : Jvm.MethodName)) ∈ q_gw := q_gwm 296 rfl rfl
set_option maxRecDepth 100000 in
theorem wd_297 : (Jvm.Cond.code ({ cls := "GongHouse$Sights", name := "<init>", desc := "(LGongHouse$House;LGongHouse$Evening;)V" } : Jvm.MethodName) prog_9_method_1_code (3 : Nat) (Option.none : Option Jvm.ClassFile.FieldType)) ∈ q_gw := q_gwm 297 rfl rfl
set_option maxRecDepth 100000 in
theorem wd_298 : (Jvm.Cond.methodLink "GongHouse$Sights" (3 : Nat) ({ cls := "java/lang/Object", name := "<init>", desc := "()V" } : Jvm.MethodName)) ∈ q_gw := q_gwm 298 rfl rfl
set_option maxRecDepth 100000 in
theorem wd_299 : (Jvm.Cond.fieldLink "GongHouse$Sights" (19 : Nat) "GongHouse$Sights" "house" "LGongHouse$House;") ∈ q_gw := q_gwm 299 rfl rfl
set_option maxRecDepth 100000 in
theorem wd_300 : (Jvm.Cond.fieldLink "GongHouse$Sights" (23 : Nat) "GongHouse$Sights" "evening" "LGongHouse$Evening;") ∈ q_gw := q_gwm 300 rfl rfl
set_option maxRecDepth 100000 in
theorem wd_301 : (Jvm.Cond.fieldLink "GongHouse$Sights" (11 : Nat) "GongHouse$Sights" "rows" "[I") ∈ q_gw := q_gwm 301 rfl rfl
set_option maxRecDepth 100000 in
theorem wd_302 : (Jvm.Cond.fieldLink "GongHouse$Sights" (15 : Nat) "GongHouse$Sights" "count" "I") ∈ q_gw := q_gwm 302 rfl rfl
set_option maxRecDepth 100000 in
theorem wd_313 : (Jvm.Cond.instantiable "GongHouse$Week" (2 : Nat)) ∈ q_gw := q_gwm 313 rfl rfl
set_option maxRecDepth 100000 in
theorem wd_315 : (Jvm.Cond.instanceMethod ({ cls := "GongHouse$Week", name := "<init>", desc := "()V" } : Jvm.MethodName)) ∈ q_gw := q_gwm 315 rfl rfl
set_option maxRecDepth 100000 in
theorem wd_316 : (Jvm.Cond.code ({ cls := "GongHouse$Week", name := "<init>", desc := "()V" } : Jvm.MethodName) prog_12_method_1_code (1 : Nat) (Option.none : Option Jvm.ClassFile.FieldType)) ∈ q_gw := q_gwm 316 rfl rfl
set_option maxRecDepth 100000 in
theorem wd_317 : (Jvm.Cond.methodLink "GongHouse$Week" (3 : Nat) ({ cls := "java/lang/Object", name := "<init>", desc := "()V" } : Jvm.MethodName)) ∈ q_gw := q_gwm 317 rfl rfl
set_option maxRecDepth 100000 in
theorem wd_318 : (Jvm.Cond.fieldLink "GongHouse$Week" (11 : Nat) "GongHouse$Week" "steps" "[I") ∈ q_gw := q_gwm 318 rfl rfl
set_option maxRecDepth 100000 in
theorem wd_319 : (Jvm.Cond.fieldLink "GongHouse$Week" (15 : Nat) "GongHouse$Week" "size" "I") ∈ q_gw := q_gwm 319 rfl rfl
set_option maxRecDepth 100000 in
theorem wd_327 : (Jvm.Cond.fieldLink "GongHouse" (12 : Nat) "GongHouse" "tape" "LGongHouse$Tape;") ∈ q_gw := q_gwm 327 rfl rfl
set_option maxRecDepth 100000 in
theorem wd_328 : (Jvm.Cond.fieldLink "GongHouse" (19 : Nat) "GongHouse" "house" "LGongHouse$House;") ∈ q_gw := q_gwm 328 rfl rfl
set_option maxRecDepth 100000 in
theorem wd_329 : (Jvm.Cond.fieldLink "GongHouse" (23 : Nat) "GongHouse" "houseDraft" "LGongHouse$House;") ∈ q_gw := q_gwm 329 rfl rfl
set_option maxRecDepth 100000 in
theorem wd_330 : (Jvm.Cond.fieldLink "GongHouse" (31 : Nat) "GongHouse" "lawReader" "LGongHouse$LawReader;") ∈ q_gw := q_gwm 330 rfl rfl
set_option maxRecDepth 100000 in
theorem wd_331 : (Jvm.Cond.fieldLink "GongHouse" (37 : Nat) "GongHouse" "laws" "[LGongHouse$Law;") ∈ q_gw := q_gwm 331 rfl rfl
set_option maxRecDepth 100000 in
theorem wd_332 : (Jvm.Cond.fieldLink "GongHouse" (43 : Nat) "GongHouse" "weeks" "[LGongHouse$Week;") ∈ q_gw := q_gwm 332 rfl rfl
set_option maxRecDepth 100000 in
theorem wd_333 : (Jvm.Cond.fieldLink "GongHouse" (50 : Nat) "GongHouse" "now" "LGongHouse$State;") ∈ q_gw := q_gwm 333 rfl rfl
set_option maxRecDepth 100000 in
theorem wd_334 : (Jvm.Cond.fieldLink "GongHouse" (54 : Nat) "GongHouse" "before" "LGongHouse$State;") ∈ q_gw := q_gwm 334 rfl rfl
set_option maxRecDepth 100000 in
theorem wd_335 : (Jvm.Cond.fieldLink "GongHouse" (60 : Nat) "GongHouse" "past" "LGongHouse$Past;") ∈ q_gw := q_gwm 335 rfl rfl
set_option maxRecDepth 100000 in
theorem wd_336 : (Jvm.Cond.fieldLink "GongHouse" (69 : Nat) "GongHouse" "evening" "LGongHouse$Evening;") ∈ q_gw := q_gwm 336 rfl rfl
set_option maxRecDepth 100000 in
theorem wd_337 : (Jvm.Cond.fieldLink "GongHouse" (78 : Nat) "GongHouse" "deeds" "LGongHouse$Deeds;") ∈ q_gw := q_gwm 337 rfl rfl
set_option maxRecDepth 100000 in
theorem wd_338 : (Jvm.Cond.fieldLink "GongHouse" (87 : Nat) "GongHouse" "foresight" "LGongHouse$Foresight;") ∈ q_gw := q_gwm 338 rfl rfl
set_option maxRecDepth 100000 in
theorem wd_339 : (Jvm.Cond.fieldLink "GongHouse" (94 : Nat) "GongHouse" "sights" "LGongHouse$Sights;") ∈ q_gw := q_gwm 339 rfl rfl
set_option maxRecDepth 100000 in
theorem wd_340 : (Jvm.Cond.fieldLink "GongHouse" (99 : Nat) "GongHouse" "weekDraft" "LGongHouse$Week;") ∈ q_gw := q_gwm 340 rfl rfl
set_option maxRecDepth 100000 in
theorem wd_341 : (Jvm.Cond.fieldLink "GongHouse" (103 : Nat) "GongHouse" "lawCount" "I") ∈ q_gw := q_gwm 341 rfl rfl
set_option maxRecDepth 100000 in
theorem wd_342 : (Jvm.Cond.fieldLink "GongHouse" (107 : Nat) "GongHouse" "weekCount" "I") ∈ q_gw := q_gwm 342 rfl rfl
set_option maxRecDepth 100000 in
theorem wd_343 : (Jvm.Cond.fieldLink "GongHouse" (110 : Nat) "GongHouse" "lawThatHolds" "I") ∈ q_gw := q_gwm 343 rfl rfl
set_option maxRecDepth 100000 in
theorem wd_344 : (Jvm.Cond.fieldLink "GongHouse" (113 : Nat) "GongHouse" "feverNow" "I") ∈ q_gw := q_gwm 344 rfl rfl
set_option maxRecDepth 100000 in
theorem wd_345 : (Jvm.Cond.fieldLink "GongHouse" (116 : Nat) "GongHouse" "housed" "Z") ∈ q_gw := q_gwm 345 rfl rfl
set_option maxRecDepth 100000 in
theorem wd_346 : (Jvm.Cond.fieldLink "GongHouse" (120 : Nat) "GongHouse" "drawn" "J") ∈ q_gw := q_gwm 346 rfl rfl
set_option maxRecDepth 100000 in
theorem wd_388 : (Jvm.Cond.methodLink "GongHouseLaw" (19 : Nat) ({ cls := "GongHouse", name := "feed", desc := "(IIIII)I" } : Jvm.MethodName)) ∈ q_gw := q_gwm 388 rfl rfl
set_option maxRecDepth 100000 in
theorem wd_389 : (Jvm.Cond.instanceMethod ({ cls := "GongHouse", name := "feed", desc := "(IIIII)I" } : Jvm.MethodName)) ∈ q_gw := q_gwm 389 rfl rfl
set_option maxRecDepth 100000 in
theorem wd_390 : (Jvm.Cond.selects "GongHouse" ({ cls := "GongHouse", name := "feed", desc := "(IIIII)I" } : Jvm.MethodName) ({ cls := "GongHouse", name := "feed", desc := "(IIIII)I" } : Jvm.MethodName)) ∈ q_gw := q_gwm 390 rfl rfl
set_option maxRecDepth 100000 in
theorem wd_391 : (Jvm.Cond.code ({ cls := "GongHouse", name := "feed", desc := "(IIIII)I" } : Jvm.MethodName) prog_1_method_2_code (7 : Nat) (Option.some Jvm.ClassFile.FieldType.int)) ∈ q_gw := q_gwm 391 rfl rfl
set_option maxRecDepth 100000 in
theorem wd_393 : (Jvm.Cond.static ({ cls := "GongHouse$Tape", name := "bytesIn", desc := "(I)I" } : Jvm.MethodName)) ∈ q_gw := q_gwm 393 rfl rfl
set_option maxRecDepth 100000 in
theorem wd_394 : (Jvm.Cond.code ({ cls := "GongHouse$Tape", name := "bytesIn", desc := "(I)I" } : Jvm.MethodName) prog_11_method_2_code (3 : Nat) (Option.some Jvm.ClassFile.FieldType.int)) ∈ q_gw := q_gwm 394 rfl rfl
set_option maxRecDepth 100000 in
theorem wd_397 : (Jvm.Cond.instanceMethod ({ cls := "GongHouse$Tape", name := "append", desc := "(I)V" } : Jvm.MethodName)) ∈ q_gw := q_gwm 397 rfl rfl
set_option maxRecDepth 100000 in
theorem wd_398 : (Jvm.Cond.code ({ cls := "GongHouse$Tape", name := "append", desc := "(I)V" } : Jvm.MethodName) prog_11_method_3_code (4 : Nat) (Option.none : Option Jvm.ClassFile.FieldType)) ∈ q_gw := q_gwm 398 rfl rfl
set_option maxRecDepth 100000 in
theorem wd_399 : (Jvm.Cond.methodLink "GongHouseLaw" (24 : Nat) ({ cls := "GongHouse", name := "end", desc := "(I)Z" } : Jvm.MethodName)) ∈ q_gw := q_gwm 399 rfl rfl
set_option maxRecDepth 100000 in
theorem wd_400 : (Jvm.Cond.instanceMethod ({ cls := "GongHouse", name := "end", desc := "(I)Z" } : Jvm.MethodName)) ∈ q_gw := q_gwm 400 rfl rfl
set_option maxRecDepth 100000 in
theorem wd_401 : (Jvm.Cond.selects "GongHouse" ({ cls := "GongHouse", name := "end", desc := "(I)Z" } : Jvm.MethodName) ({ cls := "GongHouse", name := "end", desc := "(I)Z" } : Jvm.MethodName)) ∈ q_gw := q_gwm 401 rfl rfl
set_option maxRecDepth 100000 in
theorem wd_402 : (Jvm.Cond.code ({ cls := "GongHouse", name := "end", desc := "(I)Z" } : Jvm.MethodName) prog_1_method_3_code (2 : Nat) (Option.some Jvm.ClassFile.FieldType.boolean)) ∈ q_gw := q_gwm 402 rfl rfl
set_option maxRecDepth 100000 in
theorem wd_403 : (Jvm.Cond.methodLink "GongHouseLaw" (29 : Nat) ({ cls := "GongHouse", name := "fault", desc := "(I)I" } : Jvm.MethodName)) ∈ q_gw := q_gwm 403 rfl rfl
set_option maxRecDepth 100000 in
theorem wd_404 : (Jvm.Cond.instanceMethod ({ cls := "GongHouse", name := "fault", desc := "(I)I" } : Jvm.MethodName)) ∈ q_gw := q_gwm 404 rfl rfl
set_option maxRecDepth 100000 in
theorem wd_405 : (Jvm.Cond.selects "GongHouse" ({ cls := "GongHouse", name := "fault", desc := "(I)I" } : Jvm.MethodName) ({ cls := "GongHouse", name := "fault", desc := "(I)I" } : Jvm.MethodName)) ∈ q_gw := q_gwm 405 rfl rfl
set_option maxRecDepth 100000 in
theorem wd_406 : (Jvm.Cond.code ({ cls := "GongHouse", name := "fault", desc := "(I)I" } : Jvm.MethodName) prog_1_method_4_code (2 : Nat) (Option.some Jvm.ClassFile.FieldType.int)) ∈ q_gw := q_gwm 406 rfl rfl
set_option maxRecDepth 100000 in
theorem wd_407 : (Jvm.Cond.methodLink "GongHouse" (135 : Nat) ({ cls := "GongHouse", name := "readTape", desc := "(I)Z" } : Jvm.MethodName)) ∈ q_gw := q_gwm 407 rfl rfl
set_option maxRecDepth 100000 in
theorem wd_409 : (Jvm.Cond.instanceMethod ({ cls := "GongHouse", name := "readTape", desc := "(I)Z" } : Jvm.MethodName)) ∈ q_gw := q_gwm 409 rfl rfl
set_option maxRecDepth 100000 in
theorem wd_410 : (Jvm.Cond.code ({ cls := "GongHouse", name := "readTape", desc := "(I)Z" } : Jvm.MethodName) prog_1_method_42_code (2 : Nat) (Option.some Jvm.ClassFile.FieldType.boolean)) ∈ q_gw := q_gwm 410 rfl rfl
set_option maxRecDepth 100000 in
theorem wd_413 : (Jvm.Cond.instanceMethod ({ cls := "GongHouse$House", name := "readFrom", desc := "(LGongHouse$Tape;)Z" } : Jvm.MethodName)) ∈ q_gw := q_gwm 413 rfl rfl
set_option maxRecDepth 100000 in
theorem wd_414 : (Jvm.Cond.code ({ cls := "GongHouse$House", name := "readFrom", desc := "(LGongHouse$Tape;)Z" } : Jvm.MethodName) prog_5_method_9_code (3 : Nat) (Option.some Jvm.ClassFile.FieldType.boolean)) ∈ q_gw := q_gwm 414 rfl rfl
set_option maxRecDepth 100000 in
theorem wd_417 : (Jvm.Cond.methodLink "GongHouse$House" (54 : Nat) ({ cls := "GongHouse$House", name := "setUsual", desc := "([I[III)V" } : Jvm.MethodName)) ∈ q_gw := q_gwm 417 rfl rfl
set_option maxRecDepth 100000 in
theorem wd_418 : (Jvm.Cond.static ({ cls := "GongHouse$House", name := "setUsual", desc := "([I[III)V" } : Jvm.MethodName)) ∈ q_gw := q_gwm 418 rfl rfl
set_option maxRecDepth 100000 in
theorem wd_419 : (Jvm.Cond.code ({ cls := "GongHouse$House", name := "setUsual", desc := "([I[III)V" } : Jvm.MethodName) prog_5_method_11_code (5 : Nat) (Option.none : Option Jvm.ClassFile.FieldType)) ∈ q_gw := q_gwm 419 rfl rfl
set_option maxRecDepth 100000 in
theorem wd_420 : (Jvm.Cond.methodLink "GongHouse$House" (58 : Nat) ({ cls := "GongHouse$House", name := "readClause", desc := "(LGongHouse$Tape;)Z" } : Jvm.MethodName)) ∈ q_gw := q_gwm 420 rfl rfl
set_option maxRecDepth 100000 in
theorem wd_422 : (Jvm.Cond.instanceMethod ({ cls := "GongHouse$House", name := "readClause", desc := "(LGongHouse$Tape;)Z" } : Jvm.MethodName)) ∈ q_gw := q_gwm 422 rfl rfl
set_option maxRecDepth 100000 in
theorem wd_423 : (Jvm.Cond.code ({ cls := "GongHouse$House", name := "readClause", desc := "(LGongHouse$Tape;)Z" } : Jvm.MethodName) prog_5_method_10_code (3 : Nat) (Option.some Jvm.ClassFile.FieldType.boolean)) ∈ q_gw := q_gwm 423 rfl rfl
set_option maxRecDepth 100000 in
theorem wd_426 : (Jvm.Cond.instanceMethod ({ cls := "GongHouse$Tape", name := "peek", desc := "()I" } : Jvm.MethodName)) ∈ q_gw := q_gwm 426 rfl rfl
set_option maxRecDepth 100000 in
theorem wd_427 : (Jvm.Cond.code ({ cls := "GongHouse$Tape", name := "peek", desc := "()I" } : Jvm.MethodName) prog_11_method_4_code (2 : Nat) (Option.some Jvm.ClassFile.FieldType.int)) ∈ q_gw := q_gwm 427 rfl rfl
set_option maxRecDepth 100000 in
theorem wd_429 : (Jvm.Cond.methodLink "GongHouse$House" (77 : Nat) ({ cls := "GongHouse$House", name := "readItems", desc := "(LGongHouse$Tape;Ljava/lang/String;[I[II)Z" } : Jvm.MethodName)) ∈ q_gw := q_gwm 429 rfl rfl
set_option maxRecDepth 100000 in
theorem wd_430 : (Jvm.Cond.static ({ cls := "GongHouse$House", name := "readItems", desc := "(LGongHouse$Tape;Ljava/lang/String;[I[II)Z" } : Jvm.MethodName)) ∈ q_gw := q_gwm 430 rfl rfl
set_option maxRecDepth 100000 in
theorem wd_431 : (Jvm.Cond.code ({ cls := "GongHouse$House", name := "readItems", desc := "(LGongHouse$Tape;Ljava/lang/String;[I[II)Z" } : Jvm.MethodName) prog_5_method_12_code (8 : Nat) (Option.some Jvm.ClassFile.FieldType.boolean)) ∈ q_gw := q_gwm 431 rfl rfl
set_option maxRecDepth 100000 in
theorem wd_432 : (Jvm.Cond.methodLink "GongHouse$House" (88 : Nat) ({ cls := "java/lang/String", name := "length", desc := "()I" } : Jvm.MethodName)) ∈ q_gw := q_gwm 432 rfl rfl
set_option maxRecDepth 100000 in
theorem wd_433 : (Jvm.Cond.instanceMethod ({ cls := "java/lang/String", name := "length", desc := "()I" } : Jvm.MethodName)) ∈ q_gw := q_gwm 433 rfl rfl
set_option maxRecDepth 100000 in
theorem wd_434 : (Jvm.Cond.selects "java/lang/String" ({ cls := "java/lang/String", name := "length", desc := "()I" } : Jvm.MethodName) ({ cls := "java/lang/String", name := "length", desc := "()I" } : Jvm.MethodName)) ∈ q_gw := q_gwm 434 rfl rfl
set_option maxRecDepth 100000 in
theorem wd_435 : (Jvm.Cond.code ({ cls := "java/lang/String", name := "length", desc := "()I" } : Jvm.MethodName) prog_24_method_54_code (1 : Nat) (Option.some Jvm.ClassFile.FieldType.int)) ∈ q_gw := q_gwm 435 rfl rfl
set_option maxRecDepth 100000 in
theorem wd_444 : (Jvm.Cond.instanceMethod ({ cls := "GongHouse$Tape", name := "peekAmong", desc := "(Ljava/lang/String;)I" } : Jvm.MethodName)) ∈ q_gw := q_gwm 444 rfl rfl
set_option maxRecDepth 100000 in
theorem wd_445 : (Jvm.Cond.code ({ cls := "GongHouse$Tape", name := "peekAmong", desc := "(Ljava/lang/String;)I" } : Jvm.MethodName) prog_11_method_5_code (3 : Nat) (Option.some Jvm.ClassFile.FieldType.int)) ∈ q_gw := q_gwm 445 rfl rfl
set_option maxRecDepth 100000 in
theorem wd_446 : (Jvm.Cond.methodLink "GongHouse$Tape" (25 : Nat) ({ cls := "GongHouse$Tape", name := "peek", desc := "()I" } : Jvm.MethodName)) ∈ q_gw := q_gwm 446 rfl rfl
set_option maxRecDepth 100000 in
theorem wd_447 : (Jvm.Cond.methodLink "GongHouse$Tape" (29 : Nat) ({ cls := "java/lang/String", name := "indexOf", desc := "(I)I" } : Jvm.MethodName)) ∈ q_gw := q_gwm 447 rfl rfl
set_option maxRecDepth 100000 in
theorem wd_448 : (Jvm.Cond.instanceMethod ({ cls := "java/lang/String", name := "indexOf", desc := "(I)I" } : Jvm.MethodName)) ∈ q_gw := q_gwm 448 rfl rfl
set_option maxRecDepth 100000 in
theorem wd_449 : (Jvm.Cond.selects "java/lang/String" ({ cls := "java/lang/String", name := "indexOf", desc := "(I)I" } : Jvm.MethodName) ({ cls := "java/lang/String", name := "indexOf", desc := "(I)I" } : Jvm.MethodName)) ∈ q_gw := q_gwm 449 rfl rfl
set_option maxRecDepth 100000 in
theorem wd_450 : (Jvm.Cond.code ({ cls := "java/lang/String", name := "indexOf", desc := "(I)I" } : Jvm.MethodName) prog_24_method_79_code (2 : Nat) (Option.some Jvm.ClassFile.FieldType.int)) ∈ q_gw := q_gwm 450 rfl rfl
set_option maxRecDepth 100000 in
theorem wd_467 : (Jvm.Cond.static ({ cls := "java/lang/Math", name := "max", desc := "(II)I" } : Jvm.MethodName)) ∈ q_gw := q_gwm 467 rfl rfl
set_option maxRecDepth 100000 in
theorem wd_468 : (Jvm.Cond.code ({ cls := "java/lang/Math", name := "max", desc := "(II)I" } : Jvm.MethodName) prog_22_method_65_code (2 : Nat) (Option.some Jvm.ClassFile.FieldType.int)) ∈ q_gw := q_gwm 468 rfl rfl
set_option maxRecDepth 100000 in
theorem wd_470 : (Jvm.Cond.static ({ cls := "java/lang/Math", name := "min", desc := "(II)I" } : Jvm.MethodName)) ∈ q_gw := q_gwm 470 rfl rfl
set_option maxRecDepth 100000 in
theorem wd_471 : (Jvm.Cond.code ({ cls := "java/lang/Math", name := "min", desc := "(II)I" } : Jvm.MethodName) prog_22_method_69_code (2 : Nat) (Option.some Jvm.ClassFile.FieldType.int)) ∈ q_gw := q_gwm 471 rfl rfl
set_option maxRecDepth 100000 in
theorem wd_526 : (Jvm.Cond.instanceMethod ({ cls := "GongHouse$Tape", name := "readNumber", desc := "(III)Z" } : Jvm.MethodName)) ∈ q_gw := q_gwm 526 rfl rfl
set_option maxRecDepth 100000 in
theorem wd_527 : (Jvm.Cond.code ({ cls := "GongHouse$Tape", name := "readNumber", desc := "(III)Z" } : Jvm.MethodName) prog_11_method_7_code (8 : Nat) (Option.some Jvm.ClassFile.FieldType.boolean)) ∈ q_gw := q_gwm 527 rfl rfl
set_option maxRecDepth 100000 in
theorem wd_528 : (Jvm.Cond.methodLink "GongHouse$Tape" (35 : Nat) ({ cls := "GongHouse$Tape", name := "isDigit", desc := "(I)Z" } : Jvm.MethodName)) ∈ q_gw := q_gwm 528 rfl rfl
set_option maxRecDepth 100000 in
theorem wd_529 : (Jvm.Cond.static ({ cls := "GongHouse$Tape", name := "isDigit", desc := "(I)Z" } : Jvm.MethodName)) ∈ q_gw := q_gwm 529 rfl rfl
set_option maxRecDepth 100000 in
theorem wd_530 : (Jvm.Cond.code ({ cls := "GongHouse$Tape", name := "isDigit", desc := "(I)Z" } : Jvm.MethodName) prog_11_method_9_code (1 : Nat) (Option.some Jvm.ClassFile.FieldType.boolean)) ∈ q_gw := q_gwm 530 rfl rfl
set_option maxRecDepth 100000 in
theorem wd_539 : (Jvm.Cond.instanceMethod ({ cls := "GongHouse$Tape", name := "take", desc := "(C)Z" } : Jvm.MethodName)) ∈ q_gw := q_gwm 539 rfl rfl
set_option maxRecDepth 100000 in
theorem wd_540 : (Jvm.Cond.code ({ cls := "GongHouse$Tape", name := "take", desc := "(C)Z" } : Jvm.MethodName) prog_11_method_6_code (2 : Nat) (Option.some Jvm.ClassFile.FieldType.boolean)) ∈ q_gw := q_gwm 540 rfl rfl
set_option maxRecDepth 100000 in
theorem wd_543 : (Jvm.Cond.instanceMethod ({ cls := "GongHouse$LawReader", name := "readLaw", desc := "()Z" } : Jvm.MethodName)) ∈ q_gw := q_gwm 543 rfl rfl
set_option maxRecDepth 100000 in
theorem wd_544 : (Jvm.Cond.code ({ cls := "GongHouse$LawReader", name := "readLaw", desc := "()Z" } : Jvm.MethodName) prog_7_method_3_code (2 : Nat) (Option.some Jvm.ClassFile.FieldType.boolean)) ∈ q_gw := q_gwm 544 rfl rfl
set_option maxRecDepth 100000 in
theorem wd_545 : (Jvm.Cond.methodLink "GongHouse$LawReader" (29 : Nat) ({ cls := "GongHouse$LawReader", name := "readClause", desc := "()Z" } : Jvm.MethodName)) ∈ q_gw := q_gwm 545 rfl rfl
set_option maxRecDepth 100000 in
theorem wd_547 : (Jvm.Cond.instanceMethod ({ cls := "GongHouse$LawReader", name := "readClause", desc := "()Z" } : Jvm.MethodName)) ∈ q_gw := q_gwm 547 rfl rfl
set_option maxRecDepth 100000 in
theorem wd_548 : (Jvm.Cond.code ({ cls := "GongHouse$LawReader", name := "readClause", desc := "()Z" } : Jvm.MethodName) prog_7_method_4_code (3 : Nat) (Option.some Jvm.ClassFile.FieldType.boolean)) ∈ q_gw := q_gwm 548 rfl rfl
set_option maxRecDepth 100000 in
theorem wd_552 : (Jvm.Cond.methodLink "GongHouse$LawReader" (49 : Nat) ({ cls := "GongHouse$LawReader", name := "readSum", desc := "(I)Z" } : Jvm.MethodName)) ∈ q_gw := q_gwm 552 rfl rfl
set_option maxRecDepth 100000 in
theorem wd_554 : (Jvm.Cond.instanceMethod ({ cls := "GongHouse$LawReader", name := "readSum", desc := "(I)Z" } : Jvm.MethodName)) ∈ q_gw := q_gwm 554 rfl rfl
set_option maxRecDepth 100000 in
theorem wd_555 : (Jvm.Cond.code ({ cls := "GongHouse$LawReader", name := "readSum", desc := "(I)Z" } : Jvm.MethodName) prog_7_method_9_code (4 : Nat) (Option.some Jvm.ClassFile.FieldType.boolean)) ∈ q_gw := q_gwm 555 rfl rfl
set_option maxRecDepth 100000 in
theorem wd_556 : (Jvm.Cond.methodLink "GongHouse$LawReader" (75 : Nat) ({ cls := "GongHouse$LawReader", name := "readTerm", desc := "(I)Z" } : Jvm.MethodName)) ∈ q_gw := q_gwm 556 rfl rfl
set_option maxRecDepth 100000 in
theorem wd_558 : (Jvm.Cond.instanceMethod ({ cls := "GongHouse$LawReader", name := "readTerm", desc := "(I)Z" } : Jvm.MethodName)) ∈ q_gw := q_gwm 558 rfl rfl
set_option maxRecDepth 100000 in
theorem wd_559 : (Jvm.Cond.code ({ cls := "GongHouse$LawReader", name := "readTerm", desc := "(I)Z" } : Jvm.MethodName) prog_7_method_10_code (4 : Nat) (Option.some Jvm.ClassFile.FieldType.boolean)) ∈ q_gw := q_gwm 559 rfl rfl
set_option maxRecDepth 100000 in
theorem wd_560 : (Jvm.Cond.methodLink "GongHouse$LawReader" (80 : Nat) ({ cls := "GongHouse$LawReader", name := "readAtom", desc := "(I)Z" } : Jvm.MethodName)) ∈ q_gw := q_gwm 560 rfl rfl
set_option maxRecDepth 100000 in
theorem wd_562 : (Jvm.Cond.instanceMethod ({ cls := "GongHouse$LawReader", name := "readAtom", desc := "(I)Z" } : Jvm.MethodName)) ∈ q_gw := q_gwm 562 rfl rfl
set_option maxRecDepth 100000 in
theorem wd_563 : (Jvm.Cond.code ({ cls := "GongHouse$LawReader", name := "readAtom", desc := "(I)Z" } : Jvm.MethodName) prog_7_method_11_code (3 : Nat) (Option.some Jvm.ClassFile.FieldType.boolean)) ∈ q_gw := q_gwm 563 rfl rfl
set_option maxRecDepth 100000 in
theorem wd_565 : (Jvm.Cond.methodLink "GongHouse$LawReader" (55 : Nat) ({ cls := "GongHouse$LawReader", name := "write", desc := "(I)V" } : Jvm.MethodName)) ∈ q_gw := q_gwm 565 rfl rfl
set_option maxRecDepth 100000 in
theorem wd_567 : (Jvm.Cond.instanceMethod ({ cls := "GongHouse$LawReader", name := "write", desc := "(I)V" } : Jvm.MethodName)) ∈ q_gw := q_gwm 567 rfl rfl
set_option maxRecDepth 100000 in
theorem wd_568 : (Jvm.Cond.code ({ cls := "GongHouse$LawReader", name := "write", desc := "(I)V" } : Jvm.MethodName) prog_7_method_12_code (2 : Nat) (Option.none : Option Jvm.ClassFile.FieldType)) ∈ q_gw := q_gwm 568 rfl rfl
set_option maxRecDepth 100000 in
theorem wd_573 : (Jvm.Cond.methodLink "GongHouse$LawReader" (59 : Nat) ({ cls := "GongHouse$LawReader", name := "readCondition", desc := "(IZ)Z" } : Jvm.MethodName)) ∈ q_gw := q_gwm 573 rfl rfl
set_option maxRecDepth 100000 in
theorem wd_575 : (Jvm.Cond.instanceMethod ({ cls := "GongHouse$LawReader", name := "readCondition", desc := "(IZ)Z" } : Jvm.MethodName)) ∈ q_gw := q_gwm 575 rfl rfl
set_option maxRecDepth 100000 in
theorem wd_576 : (Jvm.Cond.code ({ cls := "GongHouse$LawReader", name := "readCondition", desc := "(IZ)Z" } : Jvm.MethodName) prog_7_method_5_code (4 : Nat) (Option.some Jvm.ClassFile.FieldType.boolean)) ∈ q_gw := q_gwm 576 rfl rfl
set_option maxRecDepth 100000 in
theorem wd_577 : (Jvm.Cond.methodLink "GongHouse$LawReader" (63 : Nat) ({ cls := "GongHouse$LawReader", name := "readTruth", desc := "(IZ)Z" } : Jvm.MethodName)) ∈ q_gw := q_gwm 577 rfl rfl
set_option maxRecDepth 100000 in
theorem wd_579 : (Jvm.Cond.instanceMethod ({ cls := "GongHouse$LawReader", name := "readTruth", desc := "(IZ)Z" } : Jvm.MethodName)) ∈ q_gw := q_gwm 579 rfl rfl
set_option maxRecDepth 100000 in
theorem wd_580 : (Jvm.Cond.code ({ cls := "GongHouse$LawReader", name := "readTruth", desc := "(IZ)Z" } : Jvm.MethodName) prog_7_method_6_code (4 : Nat) (Option.some Jvm.ClassFile.FieldType.boolean)) ∈ q_gw := q_gwm 580 rfl rfl
set_option maxRecDepth 100000 in
theorem wd_581 : (Jvm.Cond.methodLink "GongHouse$LawReader" (66 : Nat) ({ cls := "GongHouse$LawReader", name := "readUnit", desc := "(IZ)Z" } : Jvm.MethodName)) ∈ q_gw := q_gwm 581 rfl rfl
set_option maxRecDepth 100000 in
theorem wd_583 : (Jvm.Cond.instanceMethod ({ cls := "GongHouse$LawReader", name := "readUnit", desc := "(IZ)Z" } : Jvm.MethodName)) ∈ q_gw := q_gwm 583 rfl rfl
set_option maxRecDepth 100000 in
theorem wd_584 : (Jvm.Cond.code ({ cls := "GongHouse$LawReader", name := "readUnit", desc := "(IZ)Z" } : Jvm.MethodName) prog_7_method_7_code (4 : Nat) (Option.some Jvm.ClassFile.FieldType.boolean)) ∈ q_gw := q_gwm 584 rfl rfl
set_option maxRecDepth 100000 in
theorem wd_585 : (Jvm.Cond.methodLink "GongHouse$LawReader" (69 : Nat) ({ cls := "GongHouse$LawReader", name := "readNested", desc := "(I)Z" } : Jvm.MethodName)) ∈ q_gw := q_gwm 585 rfl rfl
set_option maxRecDepth 100000 in
theorem wd_587 : (Jvm.Cond.instanceMethod ({ cls := "GongHouse$LawReader", name := "readNested", desc := "(I)Z" } : Jvm.MethodName)) ∈ q_gw := q_gwm 587 rfl rfl
set_option maxRecDepth 100000 in
theorem wd_588 : (Jvm.Cond.code ({ cls := "GongHouse$LawReader", name := "readNested", desc := "(I)Z" } : Jvm.MethodName) prog_7_method_8_code (2 : Nat) (Option.some Jvm.ClassFile.FieldType.boolean)) ∈ q_gw := q_gwm 588 rfl rfl
set_option maxRecDepth 100000 in
theorem wd_592 : (Jvm.Cond.instanceMethod ({ cls := "GongHouse$Week", name := "readFrom", desc := "(LGongHouse$Tape;)Z" } : Jvm.MethodName)) ∈ q_gw := q_gwm 592 rfl rfl
set_option maxRecDepth 100000 in
theorem wd_593 : (Jvm.Cond.code ({ cls := "GongHouse$Week", name := "readFrom", desc := "(LGongHouse$Tape;)Z" } : Jvm.MethodName) prog_12_method_3_code (3 : Nat) (Option.some Jvm.ClassFile.FieldType.boolean)) ∈ q_gw := q_gwm 593 rfl rfl
set_option maxRecDepth 100000 in
theorem wd_594 : (Jvm.Cond.methodLink "GongHouse$Week" (19 : Nat) ({ cls := "GongHouse$Week", name := "readStep", desc := "(LGongHouse$Tape;I)Z" } : Jvm.MethodName)) ∈ q_gw := q_gwm 594 rfl rfl
set_option maxRecDepth 100000 in
theorem wd_596 : (Jvm.Cond.instanceMethod ({ cls := "GongHouse$Week", name := "readStep", desc := "(LGongHouse$Tape;I)Z" } : Jvm.MethodName)) ∈ q_gw := q_gwm 596 rfl rfl
set_option maxRecDepth 100000 in
theorem wd_597 : (Jvm.Cond.code ({ cls := "GongHouse$Week", name := "readStep", desc := "(LGongHouse$Tape;I)Z" } : Jvm.MethodName) prog_12_method_4_code (5 : Nat) (Option.some Jvm.ClassFile.FieldType.boolean)) ∈ q_gw := q_gwm 597 rfl rfl
set_option maxRecDepth 100000 in
theorem wd_604 : (Jvm.Cond.instanceMethod ({ cls := "GongHouse$Tape", name := "readDigit", desc := "()Z" } : Jvm.MethodName)) ∈ q_gw := q_gwm 604 rfl rfl
set_option maxRecDepth 100000 in
theorem wd_605 : (Jvm.Cond.code ({ cls := "GongHouse$Tape", name := "readDigit", desc := "()Z" } : Jvm.MethodName) prog_11_method_8_code (2 : Nat) (Option.some Jvm.ClassFile.FieldType.boolean)) ∈ q_gw := q_gwm 605 rfl rfl
set_option maxRecDepth 100000 in
theorem wd_608 : (Jvm.Cond.methodLink "GongHouseLaw" (34 : Nat) ({ cls := "GongHouse", name := "text", desc := "(I)I" } : Jvm.MethodName)) ∈ q_gw := q_gwm 608 rfl rfl
set_option maxRecDepth 100000 in
theorem wd_609 : (Jvm.Cond.instanceMethod ({ cls := "GongHouse", name := "text", desc := "(I)I" } : Jvm.MethodName)) ∈ q_gw := q_gwm 609 rfl rfl
set_option maxRecDepth 100000 in
theorem wd_610 : (Jvm.Cond.selects "GongHouse" ({ cls := "GongHouse", name := "text", desc := "(I)I" } : Jvm.MethodName) ({ cls := "GongHouse", name := "text", desc := "(I)I" } : Jvm.MethodName)) ∈ q_gw := q_gwm 610 rfl rfl
set_option maxRecDepth 100000 in
theorem wd_611 : (Jvm.Cond.code ({ cls := "GongHouse", name := "text", desc := "(I)I" } : Jvm.MethodName) prog_1_method_5_code (2 : Nat) (Option.some Jvm.ClassFile.FieldType.int)) ∈ q_gw := q_gwm 611 rfl rfl
set_option maxRecDepth 100000 in
theorem wd_612 : (Jvm.Cond.methodLink "GongHouse" (142 : Nat) ({ cls := "GongHouse", name := "hasRoomFor", desc := "(I)Z" } : Jvm.MethodName)) ∈ q_gw := q_gwm 612 rfl rfl
set_option maxRecDepth 100000 in
theorem wd_614 : (Jvm.Cond.instanceMethod ({ cls := "GongHouse", name := "hasRoomFor", desc := "(I)Z" } : Jvm.MethodName)) ∈ q_gw := q_gwm 614 rfl rfl
set_option maxRecDepth 100000 in
theorem wd_615 : (Jvm.Cond.code ({ cls := "GongHouse", name := "hasRoomFor", desc := "(I)Z" } : Jvm.MethodName) prog_1_method_41_code (2 : Nat) (Option.some Jvm.ClassFile.FieldType.boolean)) ∈ q_gw := q_gwm 615 rfl rfl
set_option maxRecDepth 100000 in
theorem wd_616 : (Jvm.Cond.methodLink "GongHouse" (145 : Nat) ({ cls := "GongHouse", name := "moveIn", desc := "()I" } : Jvm.MethodName)) ∈ q_gw := q_gwm 616 rfl rfl
set_option maxRecDepth 100000 in
theorem wd_618 : (Jvm.Cond.instanceMethod ({ cls := "GongHouse", name := "moveIn", desc := "()I" } : Jvm.MethodName)) ∈ q_gw := q_gwm 618 rfl rfl
set_option maxRecDepth 100000 in
theorem wd_619 : (Jvm.Cond.code ({ cls := "GongHouse", name := "moveIn", desc := "()I" } : Jvm.MethodName) prog_1_method_43_code (1 : Nat) (Option.some Jvm.ClassFile.FieldType.int)) ∈ q_gw := q_gwm 619 rfl rfl
set_option maxRecDepth 100000 in
theorem wd_622 : (Jvm.Cond.instanceMethod ({ cls := "GongHouse$House", name := "copyFrom", desc := "(LGongHouse$House;)V" } : Jvm.MethodName)) ∈ q_gw := q_gwm 622 rfl rfl
set_option maxRecDepth 100000 in
theorem wd_623 : (Jvm.Cond.code ({ cls := "GongHouse$House", name := "copyFrom", desc := "(LGongHouse$House;)V" } : Jvm.MethodName) prog_5_method_7_code (2 : Nat) (Option.none : Option Jvm.ClassFile.FieldType)) ∈ q_gw := q_gwm 623 rfl rfl
set_option maxRecDepth 100000 in
theorem wd_624 : (Jvm.Cond.methodLink "GongHouse$House" (35 : Nat) ({ cls := "java/lang/System", name := "arraycopy", desc := "(Ljava/lang/Object;ILjava/lang/Object;II)V" } : Jvm.MethodName)) ∈ q_gw := q_gwm 624 rfl rfl
set_option maxRecDepth 100000 in
theorem wd_625 : (Jvm.Cond.static ({ cls := "java/lang/System", name := "arraycopy", desc := "(Ljava/lang/Object;ILjava/lang/Object;II)V" } : Jvm.MethodName)) ∈ q_gw := q_gwm 625 rfl rfl
set_option maxRecDepth 100000 in
theorem wd_626 : (Jvm.Cond.native ({ cls := "java/lang/System", name := "arraycopy", desc := "(Ljava/lang/Object;ILjava/lang/Object;II)V" } : Jvm.MethodName)) ∈ q_gw := q_gwm 626 rfl rfl
set_option maxRecDepth 100000 in
theorem wd_627 : (Jvm.Cond.methodLink "GongHouse$House" (41 : Nat) ({ cls := "GongHouse$House", name := "orderByComing", desc := "()V" } : Jvm.MethodName)) ∈ q_gw := q_gwm 627 rfl rfl
set_option maxRecDepth 100000 in
theorem wd_629 : (Jvm.Cond.instanceMethod ({ cls := "GongHouse$House", name := "orderByComing", desc := "()V" } : Jvm.MethodName)) ∈ q_gw := q_gwm 629 rfl rfl
set_option maxRecDepth 100000 in
theorem wd_630 : (Jvm.Cond.code ({ cls := "GongHouse$House", name := "orderByComing", desc := "()V" } : Jvm.MethodName) prog_5_method_8_code (4 : Nat) (Option.none : Option Jvm.ClassFile.FieldType)) ∈ q_gw := q_gwm 630 rfl rfl
set_option maxRecDepth 100000 in
theorem wd_631 : (Jvm.Cond.methodLink "GongHouse$House" (47 : Nat) ({ cls := "GongHouse$House", name := "ofGuest", desc := "(II)I" } : Jvm.MethodName)) ∈ q_gw := q_gwm 631 rfl rfl
set_option maxRecDepth 100000 in
theorem wd_633 : (Jvm.Cond.instanceMethod ({ cls := "GongHouse$House", name := "ofGuest", desc := "(II)I" } : Jvm.MethodName)) ∈ q_gw := q_gwm 633 rfl rfl
set_option maxRecDepth 100000 in
theorem wd_634 : (Jvm.Cond.code ({ cls := "GongHouse$House", name := "ofGuest", desc := "(II)I" } : Jvm.MethodName) prog_5_method_5_code (4 : Nat) (Option.some Jvm.ClassFile.FieldType.int)) ∈ q_gw := q_gwm 634 rfl rfl
set_option maxRecDepth 100000 in
theorem wd_637 : (Jvm.Cond.instanceMethod ({ cls := "GongHouse$State", name := "begin", desc := "(LGongHouse$House;)V" } : Jvm.MethodName)) ∈ q_gw := q_gwm 637 rfl rfl
set_option maxRecDepth 100000 in
theorem wd_638 : (Jvm.Cond.code ({ cls := "GongHouse$State", name := "begin", desc := "(LGongHouse$House;)V" } : Jvm.MethodName) prog_10_method_3_code (3 : Nat) (Option.none : Option Jvm.ClassFile.FieldType)) ∈ q_gw := q_gwm 638 rfl rfl
set_option maxRecDepth 100000 in
theorem wd_639 : (Jvm.Cond.methodLink "GongHouse$State" (21 : Nat) ({ cls := "java/util/Arrays", name := "fill", desc := "([II)V" } : Jvm.MethodName)) ∈ q_gw := q_gwm 639 rfl rfl
set_option maxRecDepth 100000 in
theorem wd_640 : (Jvm.Cond.static ({ cls := "java/util/Arrays", name := "fill", desc := "([II)V" } : Jvm.MethodName)) ∈ q_gw := q_gwm 640 rfl rfl
set_option maxRecDepth 100000 in
theorem wd_641 : (Jvm.Cond.code ({ cls := "java/util/Arrays", name := "fill", desc := "([II)V" } : Jvm.MethodName) prog_31_method_103_code (4 : Nat) (Option.none : Option Jvm.ClassFile.FieldType)) ∈ q_gw := q_gwm 641 rfl rfl
set_option maxRecDepth 100000 in
theorem wd_645 : (Jvm.Cond.instanceMethod ({ cls := "GongHouse$Past", name := "forget", desc := "()V" } : Jvm.MethodName)) ∈ q_gw := q_gwm 645 rfl rfl
set_option maxRecDepth 100000 in
theorem wd_646 : (Jvm.Cond.code ({ cls := "GongHouse$Past", name := "forget", desc := "()V" } : Jvm.MethodName) prog_8_method_2_code (1 : Nat) (Option.none : Option Jvm.ClassFile.FieldType)) ∈ q_gw := q_gwm 646 rfl rfl
set_option maxRecDepth 100000 in
theorem wd_647 : (Jvm.Cond.instantiable "GongHouse$Law" (2 : Nat)) ∈ q_gw := q_gwm 647 rfl rfl
set_option maxRecDepth 100000 in
theorem wd_650 : (Jvm.Cond.instanceMethod ({ cls := "GongHouse$LawReader", name := "written", desc := "()[I" } : Jvm.MethodName)) ∈ q_gw := q_gwm 650 rfl rfl
set_option maxRecDepth 100000 in
theorem wd_651 : (Jvm.Cond.code ({ cls := "GongHouse$LawReader", name := "written", desc := "()[I" } : Jvm.MethodName) prog_7_method_2_code (1 : Nat) (Option.some (Jvm.ClassFile.FieldType.array Jvm.ClassFile.FieldType.int))) ∈ q_gw := q_gwm 651 rfl rfl
set_option maxRecDepth 100000 in
theorem wd_652 : (Jvm.Cond.methodLink "GongHouse$LawReader" (23 : Nat) ({ cls := "java/util/Arrays", name := "copyOf", desc := "([II)[I" } : Jvm.MethodName)) ∈ q_gw := q_gwm 652 rfl rfl
set_option maxRecDepth 100000 in
theorem wd_653 : (Jvm.Cond.static ({ cls := "java/util/Arrays", name := "copyOf", desc := "([II)[I" } : Jvm.MethodName)) ∈ q_gw := q_gwm 653 rfl rfl
set_option maxRecDepth 100000 in
theorem wd_654 : (Jvm.Cond.code ({ cls := "java/util/Arrays", name := "copyOf", desc := "([II)[I" } : Jvm.MethodName) prog_31_method_123_code (3 : Nat) (Option.some (Jvm.ClassFile.FieldType.array Jvm.ClassFile.FieldType.int))) ∈ q_gw := q_gwm 654 rfl rfl
set_option maxRecDepth 100000 in
theorem wd_665 : (Jvm.Cond.instanceMethod ({ cls := "GongHouse$Law", name := "<init>", desc := "([I)V" } : Jvm.MethodName)) ∈ q_gw := q_gwm 665 rfl rfl
set_option maxRecDepth 100000 in
theorem wd_666 : (Jvm.Cond.code ({ cls := "GongHouse$Law", name := "<init>", desc := "([I)V" } : Jvm.MethodName) prog_6_method_1_code (2 : Nat) (Option.none : Option Jvm.ClassFile.FieldType)) ∈ q_gw := q_gwm 666 rfl rfl
set_option maxRecDepth 100000 in
theorem wd_667 : (Jvm.Cond.methodLink "GongHouse$Law" (3 : Nat) ({ cls := "java/lang/Object", name := "<init>", desc := "()V" } : Jvm.MethodName)) ∈ q_gw := q_gwm 667 rfl rfl
set_option maxRecDepth 100000 in
theorem wd_668 : (Jvm.Cond.fieldLink "GongHouse$Law" (15 : Nat) "GongHouse$Law" "code" "[I") ∈ q_gw := q_gwm 668 rfl rfl
set_option maxRecDepth 100000 in
theorem wd_669 : (Jvm.Cond.fieldLink "GongHouse$Law" (9 : Nat) "GongHouse$Law" "stack" "[I") ∈ q_gw := q_gwm 669 rfl rfl
set_option maxRecDepth 100000 in
theorem wd_675 : (Jvm.Cond.methodLink "GongHouseLaw" (38 : Nat) ({ cls := "GongHouse", name := "rule", desc := "(I)I" } : Jvm.MethodName)) ∈ q_gw := q_gwm 675 rfl rfl
set_option maxRecDepth 100000 in
theorem wd_676 : (Jvm.Cond.instanceMethod ({ cls := "GongHouse", name := "rule", desc := "(I)I" } : Jvm.MethodName)) ∈ q_gw := q_gwm 676 rfl rfl
set_option maxRecDepth 100000 in
theorem wd_677 : (Jvm.Cond.selects "GongHouse" ({ cls := "GongHouse", name := "rule", desc := "(I)I" } : Jvm.MethodName) ({ cls := "GongHouse", name := "rule", desc := "(I)I" } : Jvm.MethodName)) ∈ q_gw := q_gwm 677 rfl rfl
set_option maxRecDepth 100000 in
theorem wd_678 : (Jvm.Cond.code ({ cls := "GongHouse", name := "rule", desc := "(I)I" } : Jvm.MethodName) prog_1_method_6_code (2 : Nat) (Option.some Jvm.ClassFile.FieldType.int)) ∈ q_gw := q_gwm 678 rfl rfl
set_option maxRecDepth 100000 in
theorem wd_679 : (Jvm.Cond.methodLink "GongHouseLaw" (42 : Nat) ({ cls := "GongHouse", name := "dish", desc := "(II)I" } : Jvm.MethodName)) ∈ q_gw := q_gwm 679 rfl rfl
set_option maxRecDepth 100000 in
theorem wd_680 : (Jvm.Cond.instanceMethod ({ cls := "GongHouse", name := "dish", desc := "(II)I" } : Jvm.MethodName)) ∈ q_gw := q_gwm 680 rfl rfl
set_option maxRecDepth 100000 in
theorem wd_681 : (Jvm.Cond.selects "GongHouse" ({ cls := "GongHouse", name := "dish", desc := "(II)I" } : Jvm.MethodName) ({ cls := "GongHouse", name := "dish", desc := "(II)I" } : Jvm.MethodName)) ∈ q_gw := q_gwm 681 rfl rfl
set_option maxRecDepth 100000 in
theorem wd_682 : (Jvm.Cond.code ({ cls := "GongHouse", name := "dish", desc := "(II)I" } : Jvm.MethodName) prog_1_method_7_code (3 : Nat) (Option.some Jvm.ClassFile.FieldType.int)) ∈ q_gw := q_gwm 682 rfl rfl
set_option maxRecDepth 100000 in
theorem wd_685 : (Jvm.Cond.instanceMethod ({ cls := "GongHouse$House", name := "hasDish", desc := "(I)Z" } : Jvm.MethodName)) ∈ q_gw := q_gwm 685 rfl rfl
set_option maxRecDepth 100000 in
theorem wd_686 : (Jvm.Cond.code ({ cls := "GongHouse$House", name := "hasDish", desc := "(I)Z" } : Jvm.MethodName) prog_5_method_2_code (2 : Nat) (Option.some Jvm.ClassFile.FieldType.boolean)) ∈ q_gw := q_gwm 686 rfl rfl
set_option maxRecDepth 100000 in
theorem wd_689 : (Jvm.Cond.instanceMethod ({ cls := "GongHouse$House", name := "ofDish", desc := "(II)I" } : Jvm.MethodName)) ∈ q_gw := q_gwm 689 rfl rfl
set_option maxRecDepth 100000 in
theorem wd_690 : (Jvm.Cond.code ({ cls := "GongHouse$House", name := "ofDish", desc := "(II)I" } : Jvm.MethodName) prog_5_method_4_code (4 : Nat) (Option.some Jvm.ClassFile.FieldType.int)) ∈ q_gw := q_gwm 690 rfl rfl
set_option maxRecDepth 100000 in
theorem wd_691 : (Jvm.Cond.methodLink "GongHouseLaw" (56 : Nat) ({ cls := "GongHouse", name := "law", desc := "(I)Z" } : Jvm.MethodName)) ∈ q_gw := q_gwm 691 rfl rfl
set_option maxRecDepth 100000 in
theorem wd_692 : (Jvm.Cond.instanceMethod ({ cls := "GongHouse", name := "law", desc := "(I)Z" } : Jvm.MethodName)) ∈ q_gw := q_gwm 692 rfl rfl
set_option maxRecDepth 100000 in
theorem wd_693 : (Jvm.Cond.selects "GongHouse" ({ cls := "GongHouse", name := "law", desc := "(I)Z" } : Jvm.MethodName) ({ cls := "GongHouse", name := "law", desc := "(I)Z" } : Jvm.MethodName)) ∈ q_gw := q_gwm 693 rfl rfl
set_option maxRecDepth 100000 in
theorem wd_694 : (Jvm.Cond.code ({ cls := "GongHouse", name := "law", desc := "(I)Z" } : Jvm.MethodName) prog_1_method_9_code (2 : Nat) (Option.some Jvm.ClassFile.FieldType.boolean)) ∈ q_gw := q_gwm 694 rfl rfl
set_option maxRecDepth 100000 in
theorem wd_695 : (Jvm.Cond.methodLink "GongHouseLaw" (60 : Nat) ({ cls := "GongHouse", name := "fever", desc := "(I)Z" } : Jvm.MethodName)) ∈ q_gw := q_gwm 695 rfl rfl
set_option maxRecDepth 100000 in
theorem wd_696 : (Jvm.Cond.instanceMethod ({ cls := "GongHouse", name := "fever", desc := "(I)Z" } : Jvm.MethodName)) ∈ q_gw := q_gwm 696 rfl rfl
set_option maxRecDepth 100000 in
theorem wd_697 : (Jvm.Cond.selects "GongHouse" ({ cls := "GongHouse", name := "fever", desc := "(I)Z" } : Jvm.MethodName) ({ cls := "GongHouse", name := "fever", desc := "(I)Z" } : Jvm.MethodName)) ∈ q_gw := q_gwm 697 rfl rfl
set_option maxRecDepth 100000 in
theorem wd_698 : (Jvm.Cond.code ({ cls := "GongHouse", name := "fever", desc := "(I)Z" } : Jvm.MethodName) prog_1_method_10_code (2 : Nat) (Option.some Jvm.ClassFile.FieldType.boolean)) ∈ q_gw := q_gwm 698 rfl rfl
set_option maxRecDepth 100000 in
theorem wd_699 : (Jvm.Cond.methodLink "GongHouseLaw" (64 : Nat) ({ cls := "GongHouse", name := "day", desc := "()I" } : Jvm.MethodName)) ∈ q_gw := q_gwm 699 rfl rfl
set_option maxRecDepth 100000 in
theorem wd_700 : (Jvm.Cond.instanceMethod ({ cls := "GongHouse", name := "day", desc := "()I" } : Jvm.MethodName)) ∈ q_gw := q_gwm 700 rfl rfl
set_option maxRecDepth 100000 in
theorem wd_701 : (Jvm.Cond.selects "GongHouse" ({ cls := "GongHouse", name := "day", desc := "()I" } : Jvm.MethodName) ({ cls := "GongHouse", name := "day", desc := "()I" } : Jvm.MethodName)) ∈ q_gw := q_gwm 701 rfl rfl
set_option maxRecDepth 100000 in
theorem wd_702 : (Jvm.Cond.code ({ cls := "GongHouse", name := "day", desc := "()I" } : Jvm.MethodName) prog_1_method_11_code (1 : Nat) (Option.some Jvm.ClassFile.FieldType.int)) ∈ q_gw := q_gwm 702 rfl rfl
set_option maxRecDepth 100000 in
theorem wd_703 : (Jvm.Cond.methodLink "GongHouse" (192 : Nat) ({ cls := "GongHouse", name := "act", desc := "(III)Z" } : Jvm.MethodName)) ∈ q_gw := q_gwm 703 rfl rfl
set_option maxRecDepth 100000 in
theorem wd_705 : (Jvm.Cond.instanceMethod ({ cls := "GongHouse", name := "act", desc := "(III)Z" } : Jvm.MethodName)) ∈ q_gw := q_gwm 705 rfl rfl
set_option maxRecDepth 100000 in
theorem wd_706 : (Jvm.Cond.code ({ cls := "GongHouse", name := "act", desc := "(III)Z" } : Jvm.MethodName) prog_1_method_45_code (4 : Nat) (Option.some Jvm.ClassFile.FieldType.boolean)) ∈ q_gw := q_gwm 706 rfl rfl
set_option maxRecDepth 100000 in
theorem wd_709 : (Jvm.Cond.instanceMethod ({ cls := "GongHouse$State", name := "copyFrom", desc := "(LGongHouse$State;)V" } : Jvm.MethodName)) ∈ q_gw := q_gwm 709 rfl rfl
set_option maxRecDepth 100000 in
theorem wd_710 : (Jvm.Cond.code ({ cls := "GongHouse$State", name := "copyFrom", desc := "(LGongHouse$State;)V" } : Jvm.MethodName) prog_10_method_2_code (2 : Nat) (Option.none : Option Jvm.ClassFile.FieldType)) ∈ q_gw := q_gwm 710 rfl rfl
set_option maxRecDepth 100000 in
theorem wd_711 : (Jvm.Cond.methodLink "GongHouse$State" (15 : Nat) ({ cls := "java/lang/System", name := "arraycopy", desc := "(Ljava/lang/Object;ILjava/lang/Object;II)V" } : Jvm.MethodName)) ∈ q_gw := q_gwm 711 rfl rfl
set_option maxRecDepth 100000 in
theorem wd_714 : (Jvm.Cond.instanceMethod ({ cls := "GongHouse$Deeds", name := "carryOut", desc := "(LGongHouse$State;III)Z" } : Jvm.MethodName)) ∈ q_gw := q_gwm 714 rfl rfl
set_option maxRecDepth 100000 in
theorem wd_715 : (Jvm.Cond.code ({ cls := "GongHouse$Deeds", name := "carryOut", desc := "(LGongHouse$State;III)Z" } : Jvm.MethodName) prog_2_method_2_code (5 : Nat) (Option.some Jvm.ClassFile.FieldType.boolean)) ∈ q_gw := q_gwm 715 rfl rfl
set_option maxRecDepth 100000 in
theorem wd_718 : (Jvm.Cond.instanceMethod ({ cls := "GongHouse$Evening", name := "pass", desc := "(LGongHouse$State;)V" } : Jvm.MethodName)) ∈ q_gw := q_gwm 718 rfl rfl
set_option maxRecDepth 100000 in
theorem wd_719 : (Jvm.Cond.code ({ cls := "GongHouse$Evening", name := "pass", desc := "(LGongHouse$State;)V" } : Jvm.MethodName) prog_3_method_6_code (4 : Nat) (Option.none : Option Jvm.ClassFile.FieldType)) ∈ q_gw := q_gwm 719 rfl rfl
set_option maxRecDepth 100000 in
theorem wd_720 : (Jvm.Cond.methodLink "GongHouse$Evening" (103 : Nat) ({ cls := "GongHouse$Evening", name := "lay", desc := "(LGongHouse$State;)V" } : Jvm.MethodName)) ∈ q_gw := q_gwm 720 rfl rfl
set_option maxRecDepth 100000 in
theorem wd_722 : (Jvm.Cond.instanceMethod ({ cls := "GongHouse$Evening", name := "lay", desc := "(LGongHouse$State;)V" } : Jvm.MethodName)) ∈ q_gw := q_gwm 722 rfl rfl
set_option maxRecDepth 100000 in
theorem wd_723 : (Jvm.Cond.code ({ cls := "GongHouse$Evening", name := "lay", desc := "(LGongHouse$State;)V" } : Jvm.MethodName) prog_3_method_3_code (3 : Nat) (Option.none : Option Jvm.ClassFile.FieldType)) ∈ q_gw := q_gwm 723 rfl rfl
set_option maxRecDepth 100000 in
theorem wd_724 : (Jvm.Cond.methodLink "GongHouse$Evening" (69 : Nat) ({ cls := "GongHouse$Evening", name := "isThere", desc := "(LGongHouse$State;I)Z" } : Jvm.MethodName)) ∈ q_gw := q_gwm 724 rfl rfl
set_option maxRecDepth 100000 in
theorem wd_726 : (Jvm.Cond.instanceMethod ({ cls := "GongHouse$Evening", name := "isThere", desc := "(LGongHouse$State;I)Z" } : Jvm.MethodName)) ∈ q_gw := q_gwm 726 rfl rfl
set_option maxRecDepth 100000 in
theorem wd_727 : (Jvm.Cond.code ({ cls := "GongHouse$Evening", name := "isThere", desc := "(LGongHouse$State;I)Z" } : Jvm.MethodName) prog_3_method_2_code (4 : Nat) (Option.some Jvm.ClassFile.FieldType.boolean)) ∈ q_gw := q_gwm 727 rfl rfl
set_option maxRecDepth 100000 in
theorem wd_731 : (Jvm.Cond.instanceMethod ({ cls := "GongHouse$State", name := "hasLeft", desc := "(I)Z" } : Jvm.MethodName)) ∈ q_gw := q_gwm 731 rfl rfl
set_option maxRecDepth 100000 in
theorem wd_732 : (Jvm.Cond.code ({ cls := "GongHouse$State", name := "hasLeft", desc := "(I)Z" } : Jvm.MethodName) prog_10_method_4_code (2 : Nat) (Option.some Jvm.ClassFile.FieldType.boolean)) ∈ q_gw := q_gwm 732 rfl rfl
set_option maxRecDepth 100000 in
theorem wd_735 : (Jvm.Cond.instanceMethod ({ cls := "GongHouse$House", name := "dishByDay", desc := "(I)I" } : Jvm.MethodName)) ∈ q_gw := q_gwm 735 rfl rfl
set_option maxRecDepth 100000 in
theorem wd_736 : (Jvm.Cond.code ({ cls := "GongHouse$House", name := "dishByDay", desc := "(I)I" } : Jvm.MethodName) prog_5_method_6_code (2 : Nat) (Option.some Jvm.ClassFile.FieldType.int)) ∈ q_gw := q_gwm 736 rfl rfl
set_option maxRecDepth 100000 in
theorem wd_737 : (Jvm.Cond.methodLink "GongHouse$Evening" (77 : Nat) ({ cls := "java/lang/Integer", name := "bitCount", desc := "(I)I" } : Jvm.MethodName)) ∈ q_gw := q_gwm 737 rfl rfl
set_option maxRecDepth 100000 in
theorem wd_738 : (Jvm.Cond.static ({ cls := "java/lang/Integer", name := "bitCount", desc := "(I)I" } : Jvm.MethodName)) ∈ q_gw := q_gwm 738 rfl rfl
set_option maxRecDepth 100000 in
theorem wd_739 : (Jvm.Cond.code ({ cls := "java/lang/Integer", name := "bitCount", desc := "(I)I" } : Jvm.MethodName) prog_21_method_49_code (1 : Nat) (Option.some Jvm.ClassFile.FieldType.int)) ∈ q_gw := q_gwm 739 rfl rfl
set_option maxRecDepth 100000 in
theorem wd_743 : (Jvm.Cond.methodLink "GongHouse$Evening" (82 : Nat) ({ cls := "GongHouse$Evening", name := "serve", desc := "(LGongHouse$State;)V" } : Jvm.MethodName)) ∈ q_gw := q_gwm 743 rfl rfl
set_option maxRecDepth 100000 in
theorem wd_745 : (Jvm.Cond.instanceMethod ({ cls := "GongHouse$Evening", name := "serve", desc := "(LGongHouse$State;)V" } : Jvm.MethodName)) ∈ q_gw := q_gwm 745 rfl rfl
set_option maxRecDepth 100000 in
theorem wd_746 : (Jvm.Cond.code ({ cls := "GongHouse$Evening", name := "serve", desc := "(LGongHouse$State;)V" } : Jvm.MethodName) prog_3_method_4_code (4 : Nat) (Option.none : Option Jvm.ClassFile.FieldType)) ∈ q_gw := q_gwm 746 rfl rfl
set_option maxRecDepth 100000 in
theorem wd_748 : (Jvm.Cond.methodLink "GongHouse$Evening" (95 : Nat) ({ cls := "java/lang/Math", name := "max", desc := "(II)I" } : Jvm.MethodName)) ∈ q_gw := q_gwm 748 rfl rfl
set_option maxRecDepth 100000 in
theorem wd_749 : (Jvm.Cond.methodLink "GongHouse$Evening" (86 : Nat) ({ cls := "GongHouse$Evening", name := "feedThose", desc := "(LGongHouse$State;)V" } : Jvm.MethodName)) ∈ q_gw := q_gwm 749 rfl rfl
set_option maxRecDepth 100000 in
theorem wd_751 : (Jvm.Cond.instanceMethod ({ cls := "GongHouse$Evening", name := "feedThose", desc := "(LGongHouse$State;)V" } : Jvm.MethodName)) ∈ q_gw := q_gwm 751 rfl rfl
set_option maxRecDepth 100000 in
theorem wd_752 : (Jvm.Cond.code ({ cls := "GongHouse$Evening", name := "feedThose", desc := "(LGongHouse$State;)V" } : Jvm.MethodName) prog_3_method_5_code (6 : Nat) (Option.none : Option Jvm.ClassFile.FieldType)) ∈ q_gw := q_gwm 752 rfl rfl
set_option maxRecDepth 100000 in
theorem wd_753 : (Jvm.Cond.methodLink "GongHouse$Evening" (106 : Nat) ({ cls := "GongHouse$Evening", name := "gladden", desc := "(LGongHouse$State;I)V" } : Jvm.MethodName)) ∈ q_gw := q_gwm 753 rfl rfl
set_option maxRecDepth 100000 in
theorem wd_755 : (Jvm.Cond.instanceMethod ({ cls := "GongHouse$Evening", name := "gladden", desc := "(LGongHouse$State;I)V" } : Jvm.MethodName)) ∈ q_gw := q_gwm 755 rfl rfl
set_option maxRecDepth 100000 in
theorem wd_756 : (Jvm.Cond.code ({ cls := "GongHouse$Evening", name := "gladden", desc := "(LGongHouse$State;I)V" } : Jvm.MethodName) prog_3_method_7_code (8 : Nat) (Option.none : Option Jvm.ClassFile.FieldType)) ∈ q_gw := q_gwm 756 rfl rfl
set_option maxRecDepth 100000 in
theorem wd_757 : (Jvm.Cond.methodLink "GongHouse$Evening" (110 : Nat) ({ cls := "GongHouse$Evening", name := "joyBy", desc := "(IZIIII)I" } : Jvm.MethodName)) ∈ q_gw := q_gwm 757 rfl rfl
set_option maxRecDepth 100000 in
theorem wd_759 : (Jvm.Cond.instanceMethod ({ cls := "GongHouse$Evening", name := "joyBy", desc := "(IZIIII)I" } : Jvm.MethodName)) ∈ q_gw := q_gwm 759 rfl rfl
set_option maxRecDepth 100000 in
theorem wd_760 : (Jvm.Cond.code ({ cls := "GongHouse$Evening", name := "joyBy", desc := "(IZIIII)I" } : Jvm.MethodName) prog_3_method_8_code (8 : Nat) (Option.some Jvm.ClassFile.FieldType.int)) ∈ q_gw := q_gwm 760 rfl rfl
set_option maxRecDepth 100000 in
theorem wd_763 : (Jvm.Cond.instanceMethod ({ cls := "GongHouse$Law", name := "worth", desc := "([I)I" } : Jvm.MethodName)) ∈ q_gw := q_gwm 763 rfl rfl
set_option maxRecDepth 100000 in
theorem wd_764 : (Jvm.Cond.code ({ cls := "GongHouse$Law", name := "worth", desc := "([I)I" } : Jvm.MethodName) prog_6_method_2_code (5 : Nat) (Option.some Jvm.ClassFile.FieldType.int)) ∈ q_gw := q_gwm 764 rfl rfl
set_option maxRecDepth 100000 in
theorem wd_765 : (Jvm.Cond.methodLink "GongHouse$Law" (18 : Nat) ({ cls := "java/lang/Math", name := "max", desc := "(II)I" } : Jvm.MethodName)) ∈ q_gw := q_gwm 765 rfl rfl
set_option maxRecDepth 100000 in
theorem wd_766 : (Jvm.Cond.methodLink "GongHouse$Law" (24 : Nat) ({ cls := "GongHouse$Law", name := "joined", desc := "(III)I" } : Jvm.MethodName)) ∈ q_gw := q_gwm 766 rfl rfl
set_option maxRecDepth 100000 in
theorem wd_767 : (Jvm.Cond.static ({ cls := "GongHouse$Law", name := "joined", desc := "(III)I" } : Jvm.MethodName)) ∈ q_gw := q_gwm 767 rfl rfl
set_option maxRecDepth 100000 in
theorem wd_768 : (Jvm.Cond.code ({ cls := "GongHouse$Law", name := "joined", desc := "(III)I" } : Jvm.MethodName) prog_6_method_3_code (5 : Nat) (Option.some Jvm.ClassFile.FieldType.int)) ∈ q_gw := q_gwm 768 rfl rfl
set_option maxRecDepth 100000 in
theorem wd_769 : (Jvm.Cond.constantLong "GongHouse$Law" (28 : Nat) (1000000 : Int64)) ∈ q_gw := q_gwm 769 rfl rfl
set_option maxRecDepth 100000 in
theorem wd_770 : (Jvm.Cond.constantLong "GongHouse$Law" (30 : Nat) (-1000000 : Int64)) ∈ q_gw := q_gwm 770 rfl rfl
set_option maxRecDepth 100000 in
theorem wd_771 : (Jvm.Cond.methodLink "GongHouse$Evening" (114 : Nat) ({ cls := "java/lang/Math", name := "min", desc := "(II)I" } : Jvm.MethodName)) ∈ q_gw := q_gwm 771 rfl rfl
set_option maxRecDepth 100000 in
theorem wd_772 : (Jvm.Cond.methodLink "GongHouse$Deeds" (31 : Nat) ({ cls := "GongHouse$Deeds", name := "chooseDish", desc := "(LGongHouse$State;I)Z" } : Jvm.MethodName)) ∈ q_gw := q_gwm 772 rfl rfl
set_option maxRecDepth 100000 in
theorem wd_774 : (Jvm.Cond.instanceMethod ({ cls := "GongHouse$Deeds", name := "chooseDish", desc := "(LGongHouse$State;I)Z" } : Jvm.MethodName)) ∈ q_gw := q_gwm 774 rfl rfl
set_option maxRecDepth 100000 in
theorem wd_775 : (Jvm.Cond.code ({ cls := "GongHouse$Deeds", name := "chooseDish", desc := "(LGongHouse$State;I)Z" } : Jvm.MethodName) prog_2_method_3_code (3 : Nat) (Option.some Jvm.ClassFile.FieldType.boolean)) ∈ q_gw := q_gwm 775 rfl rfl
set_option maxRecDepth 100000 in
theorem wd_777 : (Jvm.Cond.methodLink "GongHouse$Deeds" (35 : Nat) ({ cls := "GongHouse$Deeds", name := "fallIll", desc := "(LGongHouse$State;)Z" } : Jvm.MethodName)) ∈ q_gw := q_gwm 777 rfl rfl
set_option maxRecDepth 100000 in
theorem wd_779 : (Jvm.Cond.instanceMethod ({ cls := "GongHouse$Deeds", name := "fallIll", desc := "(LGongHouse$State;)Z" } : Jvm.MethodName)) ∈ q_gw := q_gwm 779 rfl rfl
set_option maxRecDepth 100000 in
theorem wd_780 : (Jvm.Cond.code ({ cls := "GongHouse$Deeds", name := "fallIll", desc := "(LGongHouse$State;)Z" } : Jvm.MethodName) prog_2_method_4_code (2 : Nat) (Option.some Jvm.ClassFile.FieldType.boolean)) ∈ q_gw := q_gwm 780 rfl rfl
set_option maxRecDepth 100000 in
theorem wd_781 : (Jvm.Cond.methodLink "GongHouse$Deeds" (39 : Nat) ({ cls := "GongHouse$Deeds", name := "makeHandUp", desc := "(LGongHouse$State;)Z" } : Jvm.MethodName)) ∈ q_gw := q_gwm 781 rfl rfl
set_option maxRecDepth 100000 in
theorem wd_783 : (Jvm.Cond.instanceMethod ({ cls := "GongHouse$Deeds", name := "makeHandUp", desc := "(LGongHouse$State;)Z" } : Jvm.MethodName)) ∈ q_gw := q_gwm 783 rfl rfl
set_option maxRecDepth 100000 in
theorem wd_784 : (Jvm.Cond.code ({ cls := "GongHouse$Deeds", name := "makeHandUp", desc := "(LGongHouse$State;)Z" } : Jvm.MethodName) prog_2_method_5_code (2 : Nat) (Option.some Jvm.ClassFile.FieldType.boolean)) ∈ q_gw := q_gwm 784 rfl rfl
set_option maxRecDepth 100000 in
theorem wd_785 : (Jvm.Cond.methodLink "GongHouse$Deeds" (42 : Nat) ({ cls := "GongHouse$Deeds", name := "stayLonger", desc := "(LGongHouse$State;II)Z" } : Jvm.MethodName)) ∈ q_gw := q_gwm 785 rfl rfl
set_option maxRecDepth 100000 in
theorem wd_787 : (Jvm.Cond.instanceMethod ({ cls := "GongHouse$Deeds", name := "stayLonger", desc := "(LGongHouse$State;II)Z" } : Jvm.MethodName)) ∈ q_gw := q_gwm 787 rfl rfl
set_option maxRecDepth 100000 in
theorem wd_788 : (Jvm.Cond.code ({ cls := "GongHouse$Deeds", name := "stayLonger", desc := "(LGongHouse$State;II)Z" } : Jvm.MethodName) prog_2_method_6_code (4 : Nat) (Option.some Jvm.ClassFile.FieldType.boolean)) ∈ q_gw := q_gwm 788 rfl rfl
set_option maxRecDepth 100000 in
theorem wd_791 : (Jvm.Cond.instanceMethod ({ cls := "GongHouse$House", name := "hasGuest", desc := "(I)Z" } : Jvm.MethodName)) ∈ q_gw := q_gwm 791 rfl rfl
set_option maxRecDepth 100000 in
theorem wd_792 : (Jvm.Cond.code ({ cls := "GongHouse$House", name := "hasGuest", desc := "(I)Z" } : Jvm.MethodName) prog_5_method_3_code (2 : Nat) (Option.some Jvm.ClassFile.FieldType.boolean)) ∈ q_gw := q_gwm 792 rfl rfl
set_option maxRecDepth 100000 in
theorem wd_794 : (Jvm.Cond.methodLink "GongHouse$Deeds" (46 : Nat) ({ cls := "GongHouse$Deeds", name := "likeAnother", desc := "(LGongHouse$State;II)Z" } : Jvm.MethodName)) ∈ q_gw := q_gwm 794 rfl rfl
set_option maxRecDepth 100000 in
theorem wd_796 : (Jvm.Cond.instanceMethod ({ cls := "GongHouse$Deeds", name := "likeAnother", desc := "(LGongHouse$State;II)Z" } : Jvm.MethodName)) ∈ q_gw := q_gwm 796 rfl rfl
set_option maxRecDepth 100000 in
theorem wd_797 : (Jvm.Cond.code ({ cls := "GongHouse$Deeds", name := "likeAnother", desc := "(LGongHouse$State;II)Z" } : Jvm.MethodName) prog_2_method_7_code (4 : Nat) (Option.some Jvm.ClassFile.FieldType.boolean)) ∈ q_gw := q_gwm 797 rfl rfl
set_option maxRecDepth 100000 in
theorem wd_800 : (Jvm.Cond.instanceMethod ({ cls := "GongHouse$Past", name := "keepAct", desc := "(LGongHouse$State;)V" } : Jvm.MethodName)) ∈ q_gw := q_gwm 800 rfl rfl
set_option maxRecDepth 100000 in
theorem wd_801 : (Jvm.Cond.code ({ cls := "GongHouse$Past", name := "keepAct", desc := "(LGongHouse$State;)V" } : Jvm.MethodName) prog_8_method_3_code (2 : Nat) (Option.none : Option Jvm.ClassFile.FieldType)) ∈ q_gw := q_gwm 801 rfl rfl
set_option maxRecDepth 100000 in
theorem wd_802 : (Jvm.Cond.methodLink "GongHouse$Past" (42 : Nat) ({ cls := "java/lang/System", name := "arraycopy", desc := "(Ljava/lang/Object;ILjava/lang/Object;II)V" } : Jvm.MethodName)) ∈ q_gw := q_gwm 802 rfl rfl
set_option maxRecDepth 100000 in
theorem wd_803 : (Jvm.Cond.methodLink "GongHouse$Past" (48 : Nat) ({ cls := "java/lang/Math", name := "min", desc := "(II)I" } : Jvm.MethodName)) ∈ q_gw := q_gwm 803 rfl rfl
set_option maxRecDepth 100000 in
theorem wd_806 : (Jvm.Cond.instanceMethod ({ cls := "GongHouse$Past", name := "writeLog", desc := "(LGongHouse$State;LGongHouse$Evening;)V" } : Jvm.MethodName)) ∈ q_gw := q_gwm 806 rfl rfl
set_option maxRecDepth 100000 in
theorem wd_807 : (Jvm.Cond.code ({ cls := "GongHouse$Past", name := "writeLog", desc := "(LGongHouse$State;LGongHouse$Evening;)V" } : Jvm.MethodName) prog_8_method_7_code (4 : Nat) (Option.none : Option Jvm.ClassFile.FieldType)) ∈ q_gw := q_gwm 807 rfl rfl
set_option maxRecDepth 100000 in
theorem wd_808 : (Jvm.Cond.methodLink "GongHouse$Past" (54 : Nat) ({ cls := "GongHouse$Past", name := "logRow", desc := "(I)I" } : Jvm.MethodName)) ∈ q_gw := q_gwm 808 rfl rfl
set_option maxRecDepth 100000 in
theorem wd_809 : (Jvm.Cond.static ({ cls := "GongHouse$Past", name := "logRow", desc := "(I)I" } : Jvm.MethodName)) ∈ q_gw := q_gwm 809 rfl rfl
set_option maxRecDepth 100000 in
theorem wd_810 : (Jvm.Cond.code ({ cls := "GongHouse$Past", name := "logRow", desc := "(I)I" } : Jvm.MethodName) prog_8_method_6_code (1 : Nat) (Option.some Jvm.ClassFile.FieldType.int)) ∈ q_gw := q_gwm 810 rfl rfl
set_option maxRecDepth 100000 in
theorem wd_813 : (Jvm.Cond.instanceMethod ({ cls := "GongHouse$State", name := "joyOfAll", desc := "()I" } : Jvm.MethodName)) ∈ q_gw := q_gwm 813 rfl rfl
set_option maxRecDepth 100000 in
theorem wd_814 : (Jvm.Cond.code ({ cls := "GongHouse$State", name := "joyOfAll", desc := "()I" } : Jvm.MethodName) prog_10_method_5_code (3 : Nat) (Option.some Jvm.ClassFile.FieldType.int)) ∈ q_gw := q_gwm 814 rfl rfl
set_option maxRecDepth 100000 in
theorem wd_815 : (Jvm.Cond.methodLink "GongHouse" (199 : Nat) ({ cls := "java/lang/Integer", name := "bitCount", desc := "(I)I" } : Jvm.MethodName)) ∈ q_gw := q_gwm 815 rfl rfl
set_option maxRecDepth 100000 in
theorem wd_816 : (Jvm.Cond.methodLink "GongHouseLaw" (68 : Nat) ({ cls := "GongHouse", name := "choose", desc := "(I)I" } : Jvm.MethodName)) ∈ q_gw := q_gwm 816 rfl rfl
set_option maxRecDepth 100000 in
theorem wd_817 : (Jvm.Cond.instanceMethod ({ cls := "GongHouse", name := "choose", desc := "(I)I" } : Jvm.MethodName)) ∈ q_gw := q_gwm 817 rfl rfl
set_option maxRecDepth 100000 in
theorem wd_818 : (Jvm.Cond.selects "GongHouse" ({ cls := "GongHouse", name := "choose", desc := "(I)I" } : Jvm.MethodName) ({ cls := "GongHouse", name := "choose", desc := "(I)I" } : Jvm.MethodName)) ∈ q_gw := q_gwm 818 rfl rfl
set_option maxRecDepth 100000 in
theorem wd_819 : (Jvm.Cond.code ({ cls := "GongHouse", name := "choose", desc := "(I)I" } : Jvm.MethodName) prog_1_method_12_code (3 : Nat) (Option.some Jvm.ClassFile.FieldType.int)) ∈ q_gw := q_gwm 819 rfl rfl
set_option maxRecDepth 100000 in
theorem wd_820 : (Jvm.Cond.methodLink "GongHouseLaw" (72 : Nat) ({ cls := "GongHouse", name := "ill", desc := "()I" } : Jvm.MethodName)) ∈ q_gw := q_gwm 820 rfl rfl
set_option maxRecDepth 100000 in
theorem wd_821 : (Jvm.Cond.instanceMethod ({ cls := "GongHouse", name := "ill", desc := "()I" } : Jvm.MethodName)) ∈ q_gw := q_gwm 821 rfl rfl
set_option maxRecDepth 100000 in
theorem wd_822 : (Jvm.Cond.selects "GongHouse" ({ cls := "GongHouse", name := "ill", desc := "()I" } : Jvm.MethodName) ({ cls := "GongHouse", name := "ill", desc := "()I" } : Jvm.MethodName)) ∈ q_gw := q_gwm 822 rfl rfl
set_option maxRecDepth 100000 in
theorem wd_823 : (Jvm.Cond.code ({ cls := "GongHouse", name := "ill", desc := "()I" } : Jvm.MethodName) prog_1_method_13_code (1 : Nat) (Option.some Jvm.ClassFile.FieldType.int)) ∈ q_gw := q_gwm 823 rfl rfl
set_option maxRecDepth 100000 in
theorem wd_824 : (Jvm.Cond.methodLink "GongHouseLaw" (76 : Nat) ({ cls := "GongHouse", name := "makeUp", desc := "()I" } : Jvm.MethodName)) ∈ q_gw := q_gwm 824 rfl rfl
set_option maxRecDepth 100000 in
theorem wd_825 : (Jvm.Cond.instanceMethod ({ cls := "GongHouse", name := "makeUp", desc := "()I" } : Jvm.MethodName)) ∈ q_gw := q_gwm 825 rfl rfl
set_option maxRecDepth 100000 in
theorem wd_826 : (Jvm.Cond.selects "GongHouse" ({ cls := "GongHouse", name := "makeUp", desc := "()I" } : Jvm.MethodName) ({ cls := "GongHouse", name := "makeUp", desc := "()I" } : Jvm.MethodName)) ∈ q_gw := q_gwm 826 rfl rfl
set_option maxRecDepth 100000 in
theorem wd_827 : (Jvm.Cond.code ({ cls := "GongHouse", name := "makeUp", desc := "()I" } : Jvm.MethodName) prog_1_method_14_code (1 : Nat) (Option.some Jvm.ClassFile.FieldType.int)) ∈ q_gw := q_gwm 827 rfl rfl
set_option maxRecDepth 100000 in
theorem wd_828 : (Jvm.Cond.methodLink "GongHouseLaw" (80 : Nat) ({ cls := "GongHouse", name := "stay", desc := "(II)I" } : Jvm.MethodName)) ∈ q_gw := q_gwm 828 rfl rfl
set_option maxRecDepth 100000 in
theorem wd_829 : (Jvm.Cond.instanceMethod ({ cls := "GongHouse", name := "stay", desc := "(II)I" } : Jvm.MethodName)) ∈ q_gw := q_gwm 829 rfl rfl
set_option maxRecDepth 100000 in
theorem wd_830 : (Jvm.Cond.selects "GongHouse" ({ cls := "GongHouse", name := "stay", desc := "(II)I" } : Jvm.MethodName) ({ cls := "GongHouse", name := "stay", desc := "(II)I" } : Jvm.MethodName)) ∈ q_gw := q_gwm 830 rfl rfl
set_option maxRecDepth 100000 in
theorem wd_831 : (Jvm.Cond.code ({ cls := "GongHouse", name := "stay", desc := "(II)I" } : Jvm.MethodName) prog_1_method_15_code (3 : Nat) (Option.some Jvm.ClassFile.FieldType.int)) ∈ q_gw := q_gwm 831 rfl rfl
set_option maxRecDepth 100000 in
theorem wd_832 : (Jvm.Cond.methodLink "GongHouseLaw" (84 : Nat) ({ cls := "GongHouse", name := "sign", desc := "(II)I" } : Jvm.MethodName)) ∈ q_gw := q_gwm 832 rfl rfl
set_option maxRecDepth 100000 in
theorem wd_833 : (Jvm.Cond.instanceMethod ({ cls := "GongHouse", name := "sign", desc := "(II)I" } : Jvm.MethodName)) ∈ q_gw := q_gwm 833 rfl rfl
set_option maxRecDepth 100000 in
theorem wd_834 : (Jvm.Cond.selects "GongHouse" ({ cls := "GongHouse", name := "sign", desc := "(II)I" } : Jvm.MethodName) ({ cls := "GongHouse", name := "sign", desc := "(II)I" } : Jvm.MethodName)) ∈ q_gw := q_gwm 834 rfl rfl
set_option maxRecDepth 100000 in
theorem wd_835 : (Jvm.Cond.code ({ cls := "GongHouse", name := "sign", desc := "(II)I" } : Jvm.MethodName) prog_1_method_16_code (3 : Nat) (Option.some Jvm.ClassFile.FieldType.int)) ∈ q_gw := q_gwm 835 rfl rfl
set_option maxRecDepth 100000 in
theorem wd_836 : (Jvm.Cond.methodLink "GongHouseLaw" (90 : Nat) ({ cls := "GongHouse", name := "years", desc := "(IJ)I" } : Jvm.MethodName)) ∈ q_gw := q_gwm 836 rfl rfl
set_option maxRecDepth 100000 in
theorem wd_837 : (Jvm.Cond.instanceMethod ({ cls := "GongHouse", name := "years", desc := "(IJ)I" } : Jvm.MethodName)) ∈ q_gw := q_gwm 837 rfl rfl
set_option maxRecDepth 100000 in
theorem wd_838 : (Jvm.Cond.selects "GongHouse" ({ cls := "GongHouse", name := "years", desc := "(IJ)I" } : Jvm.MethodName) ({ cls := "GongHouse", name := "years", desc := "(IJ)I" } : Jvm.MethodName)) ∈ q_gw := q_gwm 838 rfl rfl
set_option maxRecDepth 100000 in
theorem wd_839 : (Jvm.Cond.code ({ cls := "GongHouse", name := "years", desc := "(IJ)I" } : Jvm.MethodName) prog_1_method_17_code (5 : Nat) (Option.some Jvm.ClassFile.FieldType.int)) ∈ q_gw := q_gwm 839 rfl rfl
set_option maxRecDepth 100000 in
theorem wd_840 : (Jvm.Cond.methodLink "GongHouse" (208 : Nat) ({ cls := "GongHouse", name := "meetChance", desc := "()V" } : Jvm.MethodName)) ∈ q_gw := q_gwm 840 rfl rfl
set_option maxRecDepth 100000 in
theorem wd_842 : (Jvm.Cond.instanceMethod ({ cls := "GongHouse", name := "meetChance", desc := "()V" } : Jvm.MethodName)) ∈ q_gw := q_gwm 842 rfl rfl
set_option maxRecDepth 100000 in
theorem wd_843 : (Jvm.Cond.code ({ cls := "GongHouse", name := "meetChance", desc := "()V" } : Jvm.MethodName) prog_1_method_46_code (1 : Nat) (Option.none : Option Jvm.ClassFile.FieldType)) ∈ q_gw := q_gwm 843 rfl rfl
set_option maxRecDepth 100000 in
theorem wd_844 : (Jvm.Cond.methodLink "GongHouse" (415 : Nat) ({ cls := "GongHouse", name := "draw", desc := "(I)I" } : Jvm.MethodName)) ∈ q_gw := q_gwm 844 rfl rfl
set_option maxRecDepth 100000 in
theorem wd_846 : (Jvm.Cond.instanceMethod ({ cls := "GongHouse", name := "draw", desc := "(I)I" } : Jvm.MethodName)) ∈ q_gw := q_gwm 846 rfl rfl
set_option maxRecDepth 100000 in
theorem wd_847 : (Jvm.Cond.code ({ cls := "GongHouse", name := "draw", desc := "(I)I" } : Jvm.MethodName) prog_1_method_47_code (2 : Nat) (Option.some Jvm.ClassFile.FieldType.int)) ∈ q_gw := q_gwm 847 rfl rfl
set_option maxRecDepth 100000 in
theorem wd_848 : (Jvm.Cond.constantLong "GongHouse" (418 : Nat) (6364136223846793005 : Int64)) ∈ q_gw := q_gwm 848 rfl rfl
set_option maxRecDepth 100000 in
theorem wd_849 : (Jvm.Cond.constantLong "GongHouse" (420 : Nat) (1442695040888963407 : Int64)) ∈ q_gw := q_gwm 849 rfl rfl
set_option maxRecDepth 100000 in
theorem wd_851 : (Jvm.Cond.methodLink "GongHouseLaw" (95 : Nat) ({ cls := "GongHouse", name := "undo", desc := "()I" } : Jvm.MethodName)) ∈ q_gw := q_gwm 851 rfl rfl
set_option maxRecDepth 100000 in
theorem wd_852 : (Jvm.Cond.instanceMethod ({ cls := "GongHouse", name := "undo", desc := "()I" } : Jvm.MethodName)) ∈ q_gw := q_gwm 852 rfl rfl
set_option maxRecDepth 100000 in
theorem wd_853 : (Jvm.Cond.selects "GongHouse" ({ cls := "GongHouse", name := "undo", desc := "()I" } : Jvm.MethodName) ({ cls := "GongHouse", name := "undo", desc := "()I" } : Jvm.MethodName)) ∈ q_gw := q_gwm 853 rfl rfl
set_option maxRecDepth 100000 in
theorem wd_854 : (Jvm.Cond.code ({ cls := "GongHouse", name := "undo", desc := "()I" } : Jvm.MethodName) prog_1_method_18_code (1 : Nat) (Option.some Jvm.ClassFile.FieldType.int)) ∈ q_gw := q_gwm 854 rfl rfl
set_option maxRecDepth 100000 in
theorem wd_857 : (Jvm.Cond.instanceMethod ({ cls := "GongHouse$Past", name := "undoAct", desc := "(LGongHouse$State;)Z" } : Jvm.MethodName)) ∈ q_gw := q_gwm 857 rfl rfl
set_option maxRecDepth 100000 in
theorem wd_858 : (Jvm.Cond.code ({ cls := "GongHouse$Past", name := "undoAct", desc := "(LGongHouse$State;)Z" } : Jvm.MethodName) prog_8_method_4_code (2 : Nat) (Option.some Jvm.ClassFile.FieldType.boolean)) ∈ q_gw := q_gwm 858 rfl rfl
set_option maxRecDepth 100000 in
theorem wd_859 : (Jvm.Cond.methodLink "GongHouseLaw" (99 : Nat) ({ cls := "GongHouse", name := "log", desc := "(II)I" } : Jvm.MethodName)) ∈ q_gw := q_gwm 859 rfl rfl
set_option maxRecDepth 100000 in
theorem wd_860 : (Jvm.Cond.instanceMethod ({ cls := "GongHouse", name := "log", desc := "(II)I" } : Jvm.MethodName)) ∈ q_gw := q_gwm 860 rfl rfl
set_option maxRecDepth 100000 in
theorem wd_861 : (Jvm.Cond.selects "GongHouse" ({ cls := "GongHouse", name := "log", desc := "(II)I" } : Jvm.MethodName) ({ cls := "GongHouse", name := "log", desc := "(II)I" } : Jvm.MethodName)) ∈ q_gw := q_gwm 861 rfl rfl
set_option maxRecDepth 100000 in
theorem wd_862 : (Jvm.Cond.code ({ cls := "GongHouse", name := "log", desc := "(II)I" } : Jvm.MethodName) prog_1_method_19_code (4 : Nat) (Option.some Jvm.ClassFile.FieldType.int)) ∈ q_gw := q_gwm 862 rfl rfl
set_option maxRecDepth 100000 in
theorem wd_864 : (Jvm.Cond.static ({ cls := "GongHouse$Past", name := "logLength", desc := "(I)I" } : Jvm.MethodName)) ∈ q_gw := q_gwm 864 rfl rfl
set_option maxRecDepth 100000 in
theorem wd_865 : (Jvm.Cond.code ({ cls := "GongHouse$Past", name := "logLength", desc := "(I)I" } : Jvm.MethodName) prog_8_method_5_code (1 : Nat) (Option.some Jvm.ClassFile.FieldType.int)) ∈ q_gw := q_gwm 865 rfl rfl
set_option maxRecDepth 100000 in
theorem wd_866 : (Jvm.Cond.constant "GongHouse" (231 : Nat) (-1000000 : Int32)) ∈ q_gw := q_gwm 866 rfl rfl
set_option maxRecDepth 100000 in
theorem wd_869 : (Jvm.Cond.instanceMethod ({ cls := "GongHouse$Past", name := "ofLog", desc := "(II)I" } : Jvm.MethodName)) ∈ q_gw := q_gwm 869 rfl rfl
set_option maxRecDepth 100000 in
theorem wd_870 : (Jvm.Cond.code ({ cls := "GongHouse$Past", name := "ofLog", desc := "(II)I" } : Jvm.MethodName) prog_8_method_8_code (4 : Nat) (Option.some Jvm.ClassFile.FieldType.int)) ∈ q_gw := q_gwm 870 rfl rfl
set_option maxRecDepth 100000 in
theorem wd_871 : (Jvm.Cond.constant "GongHouse$Past" (70 : Nat) (-1000000 : Int32)) ∈ q_gw := q_gwm 871 rfl rfl
set_option maxRecDepth 100000 in
theorem wd_872 : (Jvm.Cond.methodLink "GongHouseLaw" (103 : Nat) ({ cls := "GongHouse", name := "step", desc := "(III)I" } : Jvm.MethodName)) ∈ q_gw := q_gwm 872 rfl rfl
set_option maxRecDepth 100000 in
theorem wd_873 : (Jvm.Cond.instanceMethod ({ cls := "GongHouse", name := "step", desc := "(III)I" } : Jvm.MethodName)) ∈ q_gw := q_gwm 873 rfl rfl
set_option maxRecDepth 100000 in
theorem wd_874 : (Jvm.Cond.selects "GongHouse" ({ cls := "GongHouse", name := "step", desc := "(III)I" } : Jvm.MethodName) ({ cls := "GongHouse", name := "step", desc := "(III)I" } : Jvm.MethodName)) ∈ q_gw := q_gwm 874 rfl rfl
set_option maxRecDepth 100000 in
theorem wd_875 : (Jvm.Cond.code ({ cls := "GongHouse", name := "step", desc := "(III)I" } : Jvm.MethodName) prog_1_method_20_code (5 : Nat) (Option.some Jvm.ClassFile.FieldType.int)) ∈ q_gw := q_gwm 875 rfl rfl
set_option maxRecDepth 100000 in
theorem wd_876 : (Jvm.Cond.methodLink "GongHouse" (235 : Nat) ({ cls := "GongHouse", name := "weekAt", desc := "(I)LGongHouse$Week;" } : Jvm.MethodName)) ∈ q_gw := q_gwm 876 rfl rfl
set_option maxRecDepth 100000 in
theorem wd_878 : (Jvm.Cond.instanceMethod ({ cls := "GongHouse", name := "weekAt", desc := "(I)LGongHouse$Week;" } : Jvm.MethodName)) ∈ q_gw := q_gwm 878 rfl rfl
set_option maxRecDepth 100000 in
theorem wd_879 : (Jvm.Cond.code ({ cls := "GongHouse", name := "weekAt", desc := "(I)LGongHouse$Week;" } : Jvm.MethodName) prog_1_method_44_code (2 : Nat) (Option.some (Jvm.ClassFile.FieldType.object "GongHouse$Week"))) ∈ q_gw := q_gwm 879 rfl rfl
set_option maxRecDepth 100000 in
theorem wd_882 : (Jvm.Cond.instanceMethod ({ cls := "GongHouse$Week", name := "ofStep", desc := "(II)I" } : Jvm.MethodName)) ∈ q_gw := q_gwm 882 rfl rfl
set_option maxRecDepth 100000 in
theorem wd_883 : (Jvm.Cond.code ({ cls := "GongHouse$Week", name := "ofStep", desc := "(II)I" } : Jvm.MethodName) prog_12_method_2_code (4 : Nat) (Option.some Jvm.ClassFile.FieldType.int)) ∈ q_gw := q_gwm 883 rfl rfl
set_option maxRecDepth 100000 in
theorem wd_884 : (Jvm.Cond.methodLink "GongHouseLaw" (108 : Nat) ({ cls := "GongHouse", name := "run", desc := "(II)I" } : Jvm.MethodName)) ∈ q_gw := q_gwm 884 rfl rfl
set_option maxRecDepth 100000 in
theorem wd_885 : (Jvm.Cond.instanceMethod ({ cls := "GongHouse", name := "run", desc := "(II)I" } : Jvm.MethodName)) ∈ q_gw := q_gwm 885 rfl rfl
set_option maxRecDepth 100000 in
theorem wd_886 : (Jvm.Cond.selects "GongHouse" ({ cls := "GongHouse", name := "run", desc := "(II)I" } : Jvm.MethodName) ({ cls := "GongHouse", name := "run", desc := "(II)I" } : Jvm.MethodName)) ∈ q_gw := q_gwm 886 rfl rfl
set_option maxRecDepth 100000 in
theorem wd_887 : (Jvm.Cond.code ({ cls := "GongHouse", name := "run", desc := "(II)I" } : Jvm.MethodName) prog_1_method_21_code (5 : Nat) (Option.some Jvm.ClassFile.FieldType.int)) ∈ q_gw := q_gwm 887 rfl rfl
set_option maxRecDepth 100000 in
theorem wd_890 : (Jvm.Cond.instanceMethod ({ cls := "GongHouse$Foresight", name := "stepsDone", desc := "(LGongHouse$State;LGongHouse$Week;)I" } : Jvm.MethodName)) ∈ q_gw := q_gwm 890 rfl rfl
set_option maxRecDepth 100000 in
theorem wd_891 : (Jvm.Cond.code ({ cls := "GongHouse$Foresight", name := "stepsDone", desc := "(LGongHouse$State;LGongHouse$Week;)I" } : Jvm.MethodName) prog_4_method_2_code (5 : Nat) (Option.some Jvm.ClassFile.FieldType.int)) ∈ q_gw := q_gwm 891 rfl rfl
set_option maxRecDepth 100000 in
theorem wd_896 : (Jvm.Cond.methodLink "GongHouseLaw" (112 : Nat) ({ cls := "GongHouse", name := "perform", desc := "(I)I" } : Jvm.MethodName)) ∈ q_gw := q_gwm 896 rfl rfl
set_option maxRecDepth 100000 in
theorem wd_897 : (Jvm.Cond.instanceMethod ({ cls := "GongHouse", name := "perform", desc := "(I)I" } : Jvm.MethodName)) ∈ q_gw := q_gwm 897 rfl rfl
set_option maxRecDepth 100000 in
theorem wd_898 : (Jvm.Cond.selects "GongHouse" ({ cls := "GongHouse", name := "perform", desc := "(I)I" } : Jvm.MethodName) ({ cls := "GongHouse", name := "perform", desc := "(I)I" } : Jvm.MethodName)) ∈ q_gw := q_gwm 898 rfl rfl
set_option maxRecDepth 100000 in
theorem wd_899 : (Jvm.Cond.code ({ cls := "GongHouse", name := "perform", desc := "(I)I" } : Jvm.MethodName) prog_1_method_22_code (4 : Nat) (Option.some Jvm.ClassFile.FieldType.int)) ∈ q_gw := q_gwm 899 rfl rfl
set_option maxRecDepth 100000 in
theorem wd_900 : (Jvm.Cond.methodLink "GongHouseLaw" (116 : Nat) ({ cls := "GongHouse", name := "serves", desc := "(II)I" } : Jvm.MethodName)) ∈ q_gw := q_gwm 900 rfl rfl
set_option maxRecDepth 100000 in
theorem wd_901 : (Jvm.Cond.instanceMethod ({ cls := "GongHouse", name := "serves", desc := "(II)I" } : Jvm.MethodName)) ∈ q_gw := q_gwm 901 rfl rfl
set_option maxRecDepth 100000 in
theorem wd_902 : (Jvm.Cond.selects "GongHouse" ({ cls := "GongHouse", name := "serves", desc := "(II)I" } : Jvm.MethodName) ({ cls := "GongHouse", name := "serves", desc := "(II)I" } : Jvm.MethodName)) ∈ q_gw := q_gwm 902 rfl rfl
set_option maxRecDepth 100000 in
theorem wd_903 : (Jvm.Cond.code ({ cls := "GongHouse", name := "serves", desc := "(II)I" } : Jvm.MethodName) prog_1_method_23_code (3 : Nat) (Option.some Jvm.ClassFile.FieldType.int)) ∈ q_gw := q_gwm 903 rfl rfl
set_option maxRecDepth 100000 in
theorem wd_906 : (Jvm.Cond.instanceMethod ({ cls := "GongHouse$Foresight", name := "layAhead", desc := "(LGongHouse$State;I)V" } : Jvm.MethodName)) ∈ q_gw := q_gwm 906 rfl rfl
set_option maxRecDepth 100000 in
theorem wd_907 : (Jvm.Cond.code ({ cls := "GongHouse$Foresight", name := "layAhead", desc := "(LGongHouse$State;I)V" } : Jvm.MethodName) prog_4_method_3_code (4 : Nat) (Option.none : Option Jvm.ClassFile.FieldType)) ∈ q_gw := q_gwm 907 rfl rfl
set_option maxRecDepth 100000 in
theorem wd_910 : (Jvm.Cond.methodLink "GongHouseLaw" (120 : Nat) ({ cls := "GongHouse", name := "there", desc := "(I)I" } : Jvm.MethodName)) ∈ q_gw := q_gwm 910 rfl rfl
set_option maxRecDepth 100000 in
theorem wd_911 : (Jvm.Cond.instanceMethod ({ cls := "GongHouse", name := "there", desc := "(I)I" } : Jvm.MethodName)) ∈ q_gw := q_gwm 911 rfl rfl
set_option maxRecDepth 100000 in
theorem wd_912 : (Jvm.Cond.selects "GongHouse" ({ cls := "GongHouse", name := "there", desc := "(I)I" } : Jvm.MethodName) ({ cls := "GongHouse", name := "there", desc := "(I)I" } : Jvm.MethodName)) ∈ q_gw := q_gwm 912 rfl rfl
set_option maxRecDepth 100000 in
theorem wd_913 : (Jvm.Cond.code ({ cls := "GongHouse", name := "there", desc := "(I)I" } : Jvm.MethodName) prog_1_method_24_code (2 : Nat) (Option.some Jvm.ClassFile.FieldType.int)) ∈ q_gw := q_gwm 913 rfl rfl
set_option maxRecDepth 100000 in
theorem wd_914 : (Jvm.Cond.methodLink "GongHouseLaw" (124 : Nat) ({ cls := "GongHouse", name := "fed", desc := "(I)I" } : Jvm.MethodName)) ∈ q_gw := q_gwm 914 rfl rfl
set_option maxRecDepth 100000 in
theorem wd_915 : (Jvm.Cond.instanceMethod ({ cls := "GongHouse", name := "fed", desc := "(I)I" } : Jvm.MethodName)) ∈ q_gw := q_gwm 915 rfl rfl
set_option maxRecDepth 100000 in
theorem wd_916 : (Jvm.Cond.selects "GongHouse" ({ cls := "GongHouse", name := "fed", desc := "(I)I" } : Jvm.MethodName) ({ cls := "GongHouse", name := "fed", desc := "(I)I" } : Jvm.MethodName)) ∈ q_gw := q_gwm 916 rfl rfl
set_option maxRecDepth 100000 in
theorem wd_917 : (Jvm.Cond.code ({ cls := "GongHouse", name := "fed", desc := "(I)I" } : Jvm.MethodName) prog_1_method_25_code (2 : Nat) (Option.some Jvm.ClassFile.FieldType.int)) ∈ q_gw := q_gwm 917 rfl rfl
set_option maxRecDepth 100000 in
theorem wd_921 : (Jvm.Cond.methodLink "GongHouseLaw" (128 : Nat) ({ cls := "GongHouse", name := "best", desc := "(II)I" } : Jvm.MethodName)) ∈ q_gw := q_gwm 921 rfl rfl
set_option maxRecDepth 100000 in
theorem wd_922 : (Jvm.Cond.instanceMethod ({ cls := "GongHouse", name := "best", desc := "(II)I" } : Jvm.MethodName)) ∈ q_gw := q_gwm 922 rfl rfl
set_option maxRecDepth 100000 in
theorem wd_923 : (Jvm.Cond.selects "GongHouse" ({ cls := "GongHouse", name := "best", desc := "(II)I" } : Jvm.MethodName) ({ cls := "GongHouse", name := "best", desc := "(II)I" } : Jvm.MethodName)) ∈ q_gw := q_gwm 923 rfl rfl
set_option maxRecDepth 100000 in
theorem wd_924 : (Jvm.Cond.code ({ cls := "GongHouse", name := "best", desc := "(II)I" } : Jvm.MethodName) prog_1_method_26_code (3 : Nat) (Option.some Jvm.ClassFile.FieldType.int)) ∈ q_gw := q_gwm 924 rfl rfl
set_option maxRecDepth 100000 in
theorem wd_927 : (Jvm.Cond.instanceMethod ({ cls := "GongHouse$Foresight", name := "seekBest", desc := "(LGongHouse$State;I)V" } : Jvm.MethodName)) ∈ q_gw := q_gwm 927 rfl rfl
set_option maxRecDepth 100000 in
theorem wd_928 : (Jvm.Cond.code ({ cls := "GongHouse$Foresight", name := "seekBest", desc := "(LGongHouse$State;I)V" } : Jvm.MethodName) prog_4_method_4_code (3 : Nat) (Option.none : Option Jvm.ClassFile.FieldType)) ∈ q_gw := q_gwm 928 rfl rfl
set_option maxRecDepth 100000 in
theorem wd_929 : (Jvm.Cond.constant "GongHouse$Foresight" (88 : Nat) (-1000000 : Int32)) ∈ q_gw := q_gwm 929 rfl rfl
set_option maxRecDepth 100000 in
theorem wd_930 : (Jvm.Cond.methodLink "GongHouse$Foresight" (89 : Nat) ({ cls := "GongHouse$Foresight", name := "tryRows", desc := "(III)V" } : Jvm.MethodName)) ∈ q_gw := q_gwm 930 rfl rfl
set_option maxRecDepth 100000 in
theorem wd_932 : (Jvm.Cond.instanceMethod ({ cls := "GongHouse$Foresight", name := "tryRows", desc := "(III)V" } : Jvm.MethodName)) ∈ q_gw := q_gwm 932 rfl rfl
set_option maxRecDepth 100000 in
theorem wd_933 : (Jvm.Cond.code ({ cls := "GongHouse$Foresight", name := "tryRows", desc := "(III)V" } : Jvm.MethodName) prog_4_method_5_code (8 : Nat) (Option.none : Option Jvm.ClassFile.FieldType)) ∈ q_gw := q_gwm 933 rfl rfl
set_option maxRecDepth 100000 in
theorem wd_934 : (Jvm.Cond.methodLink "GongHouse$Foresight" (101 : Nat) ({ cls := "GongHouse$Foresight", name := "weighRow", desc := "(II)V" } : Jvm.MethodName)) ∈ q_gw := q_gwm 934 rfl rfl
set_option maxRecDepth 100000 in
theorem wd_936 : (Jvm.Cond.instanceMethod ({ cls := "GongHouse$Foresight", name := "weighRow", desc := "(II)V" } : Jvm.MethodName)) ∈ q_gw := q_gwm 936 rfl rfl
set_option maxRecDepth 100000 in
theorem wd_937 : (Jvm.Cond.code ({ cls := "GongHouse$Foresight", name := "weighRow", desc := "(II)V" } : Jvm.MethodName) prog_4_method_6_code (3 : Nat) (Option.none : Option Jvm.ClassFile.FieldType)) ∈ q_gw := q_gwm 937 rfl rfl
set_option maxRecDepth 100000 in
theorem wd_938 : (Jvm.Cond.methodLink "GongHouseLaw" (132 : Nat) ({ cls := "GongHouse", name := "madeUp", desc := "(I)I" } : Jvm.MethodName)) ∈ q_gw := q_gwm 938 rfl rfl
set_option maxRecDepth 100000 in
theorem wd_939 : (Jvm.Cond.instanceMethod ({ cls := "GongHouse", name := "madeUp", desc := "(I)I" } : Jvm.MethodName)) ∈ q_gw := q_gwm 939 rfl rfl
set_option maxRecDepth 100000 in
theorem wd_940 : (Jvm.Cond.selects "GongHouse" ({ cls := "GongHouse", name := "madeUp", desc := "(I)I" } : Jvm.MethodName) ({ cls := "GongHouse", name := "madeUp", desc := "(I)I" } : Jvm.MethodName)) ∈ q_gw := q_gwm 940 rfl rfl
set_option maxRecDepth 100000 in
theorem wd_941 : (Jvm.Cond.code ({ cls := "GongHouse", name := "madeUp", desc := "(I)I" } : Jvm.MethodName) prog_1_method_27_code (2 : Nat) (Option.some Jvm.ClassFile.FieldType.int)) ∈ q_gw := q_gwm 941 rfl rfl
set_option maxRecDepth 100000 in
theorem wd_944 : (Jvm.Cond.instanceMethod ({ cls := "GongHouse$Foresight", name := "fewestMadeUp", desc := "(LGongHouse$State;I)I" } : Jvm.MethodName)) ∈ q_gw := q_gwm 944 rfl rfl
set_option maxRecDepth 100000 in
theorem wd_945 : (Jvm.Cond.code ({ cls := "GongHouse$Foresight", name := "fewestMadeUp", desc := "(LGongHouse$State;I)I" } : Jvm.MethodName) prog_4_method_7_code (4 : Nat) (Option.some Jvm.ClassFile.FieldType.int)) ∈ q_gw := q_gwm 945 rfl rfl
set_option maxRecDepth 100000 in
theorem wd_946 : (Jvm.Cond.methodLink "GongHouseLaw" (136 : Nat) ({ cls := "GongHouse", name := "seen", desc := "(IIIIZ)I" } : Jvm.MethodName)) ∈ q_gw := q_gwm 946 rfl rfl
set_option maxRecDepth 100000 in
theorem wd_947 : (Jvm.Cond.instanceMethod ({ cls := "GongHouse", name := "seen", desc := "(IIIIZ)I" } : Jvm.MethodName)) ∈ q_gw := q_gwm 947 rfl rfl
set_option maxRecDepth 100000 in
theorem wd_948 : (Jvm.Cond.selects "GongHouse" ({ cls := "GongHouse", name := "seen", desc := "(IIIIZ)I" } : Jvm.MethodName) ({ cls := "GongHouse", name := "seen", desc := "(IIIIZ)I" } : Jvm.MethodName)) ∈ q_gw := q_gwm 948 rfl rfl
set_option maxRecDepth 100000 in
theorem wd_949 : (Jvm.Cond.code ({ cls := "GongHouse", name := "seen", desc := "(IIIIZ)I" } : Jvm.MethodName) prog_1_method_28_code (6 : Nat) (Option.some Jvm.ClassFile.FieldType.int)) ∈ q_gw := q_gwm 949 rfl rfl
set_option maxRecDepth 100000 in
theorem wd_950 : (Jvm.Cond.methodLink "GongHouse" (291 : Nat) ({ cls := "GongHouse", name := "areWarmthAndJoy", desc := "(II)Z" } : Jvm.MethodName)) ∈ q_gw := q_gwm 950 rfl rfl
set_option maxRecDepth 100000 in
theorem wd_951 : (Jvm.Cond.static ({ cls := "GongHouse", name := "areWarmthAndJoy", desc := "(II)Z" } : Jvm.MethodName)) ∈ q_gw := q_gwm 951 rfl rfl
set_option maxRecDepth 100000 in
theorem wd_952 : (Jvm.Cond.code ({ cls := "GongHouse", name := "areWarmthAndJoy", desc := "(II)Z" } : Jvm.MethodName) prog_1_method_48_code (2 : Nat) (Option.some Jvm.ClassFile.FieldType.boolean)) ∈ q_gw := q_gwm 952 rfl rfl
set_option maxRecDepth 100000 in
theorem wd_955 : (Jvm.Cond.instanceMethod ({ cls := "GongHouse$Sights", name := "add", desc := "(IIIIZ)I" } : Jvm.MethodName)) ∈ q_gw := q_gwm 955 rfl rfl
set_option maxRecDepth 100000 in
theorem wd_956 : (Jvm.Cond.code ({ cls := "GongHouse$Sights", name := "add", desc := "(IIIIZ)I" } : Jvm.MethodName) prog_9_method_2_code (7 : Nat) (Option.some Jvm.ClassFile.FieldType.int)) ∈ q_gw := q_gwm 956 rfl rfl
set_option maxRecDepth 100000 in
theorem wd_957 : (Jvm.Cond.methodLink "GongHouseLaw" (141 : Nat) ({ cls := "GongHouse", name := "likes", desc := "(I)I" } : Jvm.MethodName)) ∈ q_gw := q_gwm 957 rfl rfl
set_option maxRecDepth 100000 in
theorem wd_958 : (Jvm.Cond.instanceMethod ({ cls := "GongHouse", name := "likes", desc := "(I)I" } : Jvm.MethodName)) ∈ q_gw := q_gwm 958 rfl rfl
set_option maxRecDepth 100000 in
theorem wd_959 : (Jvm.Cond.selects "GongHouse" ({ cls := "GongHouse", name := "likes", desc := "(I)I" } : Jvm.MethodName) ({ cls := "GongHouse", name := "likes", desc := "(I)I" } : Jvm.MethodName)) ∈ q_gw := q_gwm 959 rfl rfl
set_option maxRecDepth 100000 in
theorem wd_960 : (Jvm.Cond.code ({ cls := "GongHouse", name := "likes", desc := "(I)I" } : Jvm.MethodName) prog_1_method_29_code (2 : Nat) (Option.some Jvm.ClassFile.FieldType.int)) ∈ q_gw := q_gwm 960 rfl rfl
set_option maxRecDepth 100000 in
theorem wd_963 : (Jvm.Cond.instanceMethod ({ cls := "GongHouse$Sights", name := "kindsLeft", desc := "(I)I" } : Jvm.MethodName)) ∈ q_gw := q_gwm 963 rfl rfl
set_option maxRecDepth 100000 in
theorem wd_964 : (Jvm.Cond.code ({ cls := "GongHouse$Sights", name := "kindsLeft", desc := "(I)I" } : Jvm.MethodName) prog_9_method_5_code (4 : Nat) (Option.some Jvm.ClassFile.FieldType.int)) ∈ q_gw := q_gwm 964 rfl rfl
set_option maxRecDepth 100000 in
theorem wd_965 : (Jvm.Cond.methodLink "GongHouse$Sights" (46 : Nat) ({ cls := "GongHouse$Sights", name := "mayLike", desc := "(II)Z" } : Jvm.MethodName)) ∈ q_gw := q_gwm 965 rfl rfl
set_option maxRecDepth 100000 in
theorem wd_967 : (Jvm.Cond.instanceMethod ({ cls := "GongHouse$Sights", name := "mayLike", desc := "(II)Z" } : Jvm.MethodName)) ∈ q_gw := q_gwm 967 rfl rfl
set_option maxRecDepth 100000 in
theorem wd_968 : (Jvm.Cond.code ({ cls := "GongHouse$Sights", name := "mayLike", desc := "(II)Z" } : Jvm.MethodName) prog_9_method_4_code (5 : Nat) (Option.some Jvm.ClassFile.FieldType.boolean)) ∈ q_gw := q_gwm 968 rfl rfl
set_option maxRecDepth 100000 in
theorem wd_969 : (Jvm.Cond.methodLink "GongHouse$Sights" (42 : Nat) ({ cls := "GongHouse$Sights", name := "hasJoy", desc := "(IIIII)Z" } : Jvm.MethodName)) ∈ q_gw := q_gwm 969 rfl rfl
set_option maxRecDepth 100000 in
theorem wd_971 : (Jvm.Cond.instanceMethod ({ cls := "GongHouse$Sights", name := "hasJoy", desc := "(IIIII)Z" } : Jvm.MethodName)) ∈ q_gw := q_gwm 971 rfl rfl
set_option maxRecDepth 100000 in
theorem wd_972 : (Jvm.Cond.code ({ cls := "GongHouse$Sights", name := "hasJoy", desc := "(IIIII)Z" } : Jvm.MethodName) prog_9_method_3_code (7 : Nat) (Option.some Jvm.ClassFile.FieldType.boolean)) ∈ q_gw := q_gwm 972 rfl rfl
set_option maxRecDepth 100000 in
theorem wd_976 : (Jvm.Cond.methodLink "GongHouseLaw" (145 : Nat) ({ cls := "GongHouse", name := "probe", desc := "(III)I" } : Jvm.MethodName)) ∈ q_gw := q_gwm 976 rfl rfl
set_option maxRecDepth 100000 in
theorem wd_977 : (Jvm.Cond.instanceMethod ({ cls := "GongHouse", name := "probe", desc := "(III)I" } : Jvm.MethodName)) ∈ q_gw := q_gwm 977 rfl rfl
set_option maxRecDepth 100000 in
theorem wd_978 : (Jvm.Cond.selects "GongHouse" ({ cls := "GongHouse", name := "probe", desc := "(III)I" } : Jvm.MethodName) ({ cls := "GongHouse", name := "probe", desc := "(III)I" } : Jvm.MethodName)) ∈ q_gw := q_gwm 978 rfl rfl
set_option maxRecDepth 100000 in
theorem wd_979 : (Jvm.Cond.code ({ cls := "GongHouse", name := "probe", desc := "(III)I" } : Jvm.MethodName) prog_1_method_30_code (4 : Nat) (Option.some Jvm.ClassFile.FieldType.int)) ∈ q_gw := q_gwm 979 rfl rfl
set_option maxRecDepth 100000 in
theorem wd_982 : (Jvm.Cond.instanceMethod ({ cls := "GongHouse$Sights", name := "dishToTry", desc := "(III)I" } : Jvm.MethodName)) ∈ q_gw := q_gwm 982 rfl rfl
set_option maxRecDepth 100000 in
theorem wd_983 : (Jvm.Cond.code ({ cls := "GongHouse$Sights", name := "dishToTry", desc := "(III)I" } : Jvm.MethodName) prog_9_method_6_code (9 : Nat) (Option.some Jvm.ClassFile.FieldType.int)) ∈ q_gw := q_gwm 983 rfl rfl
set_option maxRecDepth 100000 in
theorem wd_984 : (Jvm.Cond.methodLink "GongHouse$Sights" (50 : Nat) ({ cls := "GongHouse$Sights", name := "kindsLeft", desc := "(I)I" } : Jvm.MethodName)) ∈ q_gw := q_gwm 984 rfl rfl
set_option maxRecDepth 100000 in
theorem wd_985 : (Jvm.Cond.methodLink "GongHouse$Sights" (57 : Nat) ({ cls := "GongHouse$Sights", name := "lean", desc := "(IIIII)I" } : Jvm.MethodName)) ∈ q_gw := q_gwm 985 rfl rfl
set_option maxRecDepth 100000 in
theorem wd_987 : (Jvm.Cond.instanceMethod ({ cls := "GongHouse$Sights", name := "lean", desc := "(IIIII)I" } : Jvm.MethodName)) ∈ q_gw := q_gwm 987 rfl rfl
set_option maxRecDepth 100000 in
theorem wd_988 : (Jvm.Cond.code ({ cls := "GongHouse$Sights", name := "lean", desc := "(IIIII)I" } : Jvm.MethodName) prog_9_method_7_code (8 : Nat) (Option.some Jvm.ClassFile.FieldType.int)) ∈ q_gw := q_gwm 988 rfl rfl
set_option maxRecDepth 100000 in
theorem wd_989 : (Jvm.Cond.methodLink "GongHouse$Sights" (61 : Nat) ({ cls := "java/lang/Math", name := "abs", desc := "(I)I" } : Jvm.MethodName)) ∈ q_gw := q_gwm 989 rfl rfl
set_option maxRecDepth 100000 in
theorem wd_990 : (Jvm.Cond.static ({ cls := "java/lang/Math", name := "abs", desc := "(I)I" } : Jvm.MethodName)) ∈ q_gw := q_gwm 990 rfl rfl
set_option maxRecDepth 100000 in
theorem wd_991 : (Jvm.Cond.code ({ cls := "java/lang/Math", name := "abs", desc := "(I)I" } : Jvm.MethodName) prog_22_method_59_code (1 : Nat) (Option.some Jvm.ClassFile.FieldType.int)) ∈ q_gw := q_gwm 991 rfl rfl
set_option maxRecDepth 100000 in
theorem wd_992 : (Jvm.Cond.methodLink "GongHouseLaw" (149 : Nat) ({ cls := "GongHouse", name := "leaves", desc := "(I)I" } : Jvm.MethodName)) ∈ q_gw := q_gwm 992 rfl rfl
set_option maxRecDepth 100000 in
theorem wd_993 : (Jvm.Cond.instanceMethod ({ cls := "GongHouse", name := "leaves", desc := "(I)I" } : Jvm.MethodName)) ∈ q_gw := q_gwm 993 rfl rfl
set_option maxRecDepth 100000 in
theorem wd_994 : (Jvm.Cond.selects "GongHouse" ({ cls := "GongHouse", name := "leaves", desc := "(I)I" } : Jvm.MethodName) ({ cls := "GongHouse", name := "leaves", desc := "(I)I" } : Jvm.MethodName)) ∈ q_gw := q_gwm 994 rfl rfl
set_option maxRecDepth 100000 in
theorem wd_995 : (Jvm.Cond.code ({ cls := "GongHouse", name := "leaves", desc := "(I)I" } : Jvm.MethodName) prog_1_method_31_code (2 : Nat) (Option.some Jvm.ClassFile.FieldType.int)) ∈ q_gw := q_gwm 995 rfl rfl
set_option maxRecDepth 100000 in
theorem wd_999 : (Jvm.Cond.instanceMethod ({ cls := "GongHouse$Foresight", name := "daysToLeaving", desc := "(LGongHouse$State;I)I" } : Jvm.MethodName)) ∈ q_gw := q_gwm 999 rfl rfl
set_option maxRecDepth 100000 in
theorem wd_1000 : (Jvm.Cond.code ({ cls := "GongHouse$Foresight", name := "daysToLeaving", desc := "(LGongHouse$State;I)I" } : Jvm.MethodName) prog_4_method_8_code (4 : Nat) (Option.some Jvm.ClassFile.FieldType.int)) ∈ q_gw := q_gwm 1000 rfl rfl
set_option maxRecDepth 100000 in
theorem wd_1002 : (Jvm.Cond.methodLink "GongHouseLaw" (153 : Nat) ({ cls := "GongHouse", name := "game", desc := "(IIIII)I" } : Jvm.MethodName)) ∈ q_gw := q_gwm 1002 rfl rfl
set_option maxRecDepth 100000 in
theorem wd_1003 : (Jvm.Cond.instanceMethod ({ cls := "GongHouse", name := "game", desc := "(IIIII)I" } : Jvm.MethodName)) ∈ q_gw := q_gwm 1003 rfl rfl
set_option maxRecDepth 100000 in
theorem wd_1004 : (Jvm.Cond.selects "GongHouse" ({ cls := "GongHouse", name := "game", desc := "(IIIII)I" } : Jvm.MethodName) ({ cls := "GongHouse", name := "game", desc := "(IIIII)I" } : Jvm.MethodName)) ∈ q_gw := q_gwm 1004 rfl rfl
set_option maxRecDepth 100000 in
theorem wd_1005 : (Jvm.Cond.code ({ cls := "GongHouse", name := "game", desc := "(IIIII)I" } : Jvm.MethodName) prog_1_method_32_code (6 : Nat) (Option.some Jvm.ClassFile.FieldType.int)) ∈ q_gw := q_gwm 1005 rfl rfl
set_option maxRecDepth 100000 in
theorem wd_1006 : (Jvm.Cond.methodLink "GongHouse" (309 : Nat) ({ cls := "GongHouse", name := "canPlay", desc := "(II)Z" } : Jvm.MethodName)) ∈ q_gw := q_gwm 1006 rfl rfl
set_option maxRecDepth 100000 in
theorem wd_1008 : (Jvm.Cond.instanceMethod ({ cls := "GongHouse", name := "canPlay", desc := "(II)Z" } : Jvm.MethodName)) ∈ q_gw := q_gwm 1008 rfl rfl
set_option maxRecDepth 100000 in
theorem wd_1009 : (Jvm.Cond.code ({ cls := "GongHouse", name := "canPlay", desc := "(II)Z" } : Jvm.MethodName) prog_1_method_49_code (3 : Nat) (Option.some Jvm.ClassFile.FieldType.boolean)) ∈ q_gw := q_gwm 1009 rfl rfl
set_option maxRecDepth 100000 in
theorem wd_1012 : (Jvm.Cond.instanceMethod ({ cls := "GongHouse$Foresight", name := "play", desc := "(LGongHouse$State;IIII)V" } : Jvm.MethodName)) ∈ q_gw := q_gwm 1012 rfl rfl
set_option maxRecDepth 100000 in
theorem wd_1013 : (Jvm.Cond.code ({ cls := "GongHouse$Foresight", name := "play", desc := "(LGongHouse$State;IIII)V" } : Jvm.MethodName) prog_4_method_11_code (7 : Nat) (Option.none : Option Jvm.ClassFile.FieldType)) ∈ q_gw := q_gwm 1013 rfl rfl
set_option maxRecDepth 100000 in
theorem wd_1014 : (Jvm.Cond.methodLink "GongHouse$Foresight" (124 : Nat) ({ cls := "GongHouse$Foresight", name := "gainBesideJoy", desc := "(I)I" } : Jvm.MethodName)) ∈ q_gw := q_gwm 1014 rfl rfl
set_option maxRecDepth 100000 in
theorem wd_1016 : (Jvm.Cond.instanceMethod ({ cls := "GongHouse$Foresight", name := "gainBesideJoy", desc := "(I)I" } : Jvm.MethodName)) ∈ q_gw := q_gwm 1016 rfl rfl
set_option maxRecDepth 100000 in
theorem wd_1017 : (Jvm.Cond.code ({ cls := "GongHouse$Foresight", name := "gainBesideJoy", desc := "(I)I" } : Jvm.MethodName) prog_4_method_12_code (3 : Nat) (Option.some Jvm.ClassFile.FieldType.int)) ∈ q_gw := q_gwm 1017 rfl rfl
set_option maxRecDepth 100000 in
theorem wd_1019 : (Jvm.Cond.methodLink "GongHouseLaw" (157 : Nat) ({ cls := "GongHouse", name := "rests", desc := "(III)I" } : Jvm.MethodName)) ∈ q_gw := q_gwm 1019 rfl rfl
set_option maxRecDepth 100000 in
theorem wd_1020 : (Jvm.Cond.instanceMethod ({ cls := "GongHouse", name := "rests", desc := "(III)I" } : Jvm.MethodName)) ∈ q_gw := q_gwm 1020 rfl rfl
set_option maxRecDepth 100000 in
theorem wd_1021 : (Jvm.Cond.selects "GongHouse" ({ cls := "GongHouse", name := "rests", desc := "(III)I" } : Jvm.MethodName) ({ cls := "GongHouse", name := "rests", desc := "(III)I" } : Jvm.MethodName)) ∈ q_gw := q_gwm 1021 rfl rfl
set_option maxRecDepth 100000 in
theorem wd_1022 : (Jvm.Cond.code ({ cls := "GongHouse", name := "rests", desc := "(III)I" } : Jvm.MethodName) prog_1_method_33_code (4 : Nat) (Option.some Jvm.ClassFile.FieldType.int)) ∈ q_gw := q_gwm 1022 rfl rfl
set_option maxRecDepth 100000 in
theorem wd_1025 : (Jvm.Cond.instanceMethod ({ cls := "GongHouse$Foresight", name := "playAll", desc := "(LGongHouse$State;II)V" } : Jvm.MethodName)) ∈ q_gw := q_gwm 1025 rfl rfl
set_option maxRecDepth 100000 in
theorem wd_1026 : (Jvm.Cond.code ({ cls := "GongHouse$Foresight", name := "playAll", desc := "(LGongHouse$State;II)V" } : Jvm.MethodName) prog_4_method_13_code (5 : Nat) (Option.none : Option Jvm.ClassFile.FieldType)) ∈ q_gw := q_gwm 1026 rfl rfl
set_option maxRecDepth 100000 in
theorem wd_1027 : (Jvm.Cond.methodLink "GongHouse$Foresight" (131 : Nat) ({ cls := "GongHouse$Foresight", name := "play", desc := "(LGongHouse$State;IIII)V" } : Jvm.MethodName)) ∈ q_gw := q_gwm 1027 rfl rfl
set_option maxRecDepth 100000 in
theorem wd_1030 : (Jvm.Cond.instanceMethod ({ cls := "GongHouse$Foresight", name := "restCount", desc := "()I" } : Jvm.MethodName)) ∈ q_gw := q_gwm 1030 rfl rfl
set_option maxRecDepth 100000 in
theorem wd_1031 : (Jvm.Cond.code ({ cls := "GongHouse$Foresight", name := "restCount", desc := "()I" } : Jvm.MethodName) prog_4_method_15_code (3 : Nat) (Option.some Jvm.ClassFile.FieldType.int)) ∈ q_gw := q_gwm 1031 rfl rfl
set_option maxRecDepth 100000 in
theorem wd_1032 : (Jvm.Cond.methodLink "GongHouse$Foresight" (135 : Nat) ({ cls := "GongHouse$Foresight", name := "isRest", desc := "(II)Z" } : Jvm.MethodName)) ∈ q_gw := q_gwm 1032 rfl rfl
set_option maxRecDepth 100000 in
theorem wd_1034 : (Jvm.Cond.instanceMethod ({ cls := "GongHouse$Foresight", name := "isRest", desc := "(II)Z" } : Jvm.MethodName)) ∈ q_gw := q_gwm 1034 rfl rfl
set_option maxRecDepth 100000 in
theorem wd_1035 : (Jvm.Cond.code ({ cls := "GongHouse$Foresight", name := "isRest", desc := "(II)Z" } : Jvm.MethodName) prog_4_method_14_code (5 : Nat) (Option.some Jvm.ClassFile.FieldType.boolean)) ∈ q_gw := q_gwm 1035 rfl rfl
set_option maxRecDepth 100000 in
theorem wd_1038 : (Jvm.Cond.instanceMethod ({ cls := "GongHouse$Foresight", name := "restAt", desc := "(I)I" } : Jvm.MethodName)) ∈ q_gw := q_gwm 1038 rfl rfl
set_option maxRecDepth 100000 in
theorem wd_1039 : (Jvm.Cond.code ({ cls := "GongHouse$Foresight", name := "restAt", desc := "(I)I" } : Jvm.MethodName) prog_4_method_16_code (6 : Nat) (Option.some Jvm.ClassFile.FieldType.int)) ∈ q_gw := q_gwm 1039 rfl rfl
set_option maxRecDepth 100000 in
theorem wd_1040 : (Jvm.Cond.methodLink "GongHouseLaw" (161 : Nat) ({ cls := "GongHouse", name := "odds", desc := "(III)I" } : Jvm.MethodName)) ∈ q_gw := q_gwm 1040 rfl rfl
set_option maxRecDepth 100000 in
theorem wd_1041 : (Jvm.Cond.instanceMethod ({ cls := "GongHouse", name := "odds", desc := "(III)I" } : Jvm.MethodName)) ∈ q_gw := q_gwm 1041 rfl rfl
set_option maxRecDepth 100000 in
theorem wd_1042 : (Jvm.Cond.selects "GongHouse" ({ cls := "GongHouse", name := "odds", desc := "(III)I" } : Jvm.MethodName) ({ cls := "GongHouse", name := "odds", desc := "(III)I" } : Jvm.MethodName)) ∈ q_gw := q_gwm 1042 rfl rfl
set_option maxRecDepth 100000 in
theorem wd_1043 : (Jvm.Cond.code ({ cls := "GongHouse", name := "odds", desc := "(III)I" } : Jvm.MethodName) prog_1_method_34_code (4 : Nat) (Option.some Jvm.ClassFile.FieldType.int)) ∈ q_gw := q_gwm 1043 rfl rfl
set_option maxRecDepth 100000 in
theorem wd_1046 : (Jvm.Cond.instanceMethod ({ cls := "GongHouse$Foresight", name := "oddsOf", desc := "(LGongHouse$State;III)J" } : Jvm.MethodName)) ∈ q_gw := q_gwm 1046 rfl rfl
set_option maxRecDepth 100000 in
theorem wd_1047 : (Jvm.Cond.code ({ cls := "GongHouse$Foresight", name := "oddsOf", desc := "(LGongHouse$State;III)J" } : Jvm.MethodName) prog_4_method_17_code (5 : Nat) (Option.some Jvm.ClassFile.FieldType.long)) ∈ q_gw := q_gwm 1047 rfl rfl
set_option maxRecDepth 100000 in
theorem wd_1048 : (Jvm.Cond.constantLong "GongHouse$Foresight" (139 : Nat) (1000000000 : Int64)) ∈ q_gw := q_gwm 1048 rfl rfl
set_option maxRecDepth 100000 in
theorem wd_1049 : (Jvm.Cond.methodLink "GongHouse$Foresight" (141 : Nat) ({ cls := "GongHouse$Foresight", name := "partsFed", desc := "(IIIIJ)J" } : Jvm.MethodName)) ∈ q_gw := q_gwm 1049 rfl rfl
set_option maxRecDepth 100000 in
theorem wd_1051 : (Jvm.Cond.instanceMethod ({ cls := "GongHouse$Foresight", name := "partsFed", desc := "(IIIIJ)J" } : Jvm.MethodName)) ∈ q_gw := q_gwm 1051 rfl rfl
set_option maxRecDepth 100000 in
theorem wd_1052 : (Jvm.Cond.code ({ cls := "GongHouse$Foresight", name := "partsFed", desc := "(IIIIJ)J" } : Jvm.MethodName) prog_4_method_18_code (12 : Nat) (Option.some Jvm.ClassFile.FieldType.long)) ∈ q_gw := q_gwm 1052 rfl rfl
set_option maxRecDepth 100000 in
theorem wd_1053 : (Jvm.Cond.constantLong "GongHouse$Foresight" (145 : Nat) (100 : Int64)) ∈ q_gw := q_gwm 1053 rfl rfl
set_option maxRecDepth 100000 in
theorem wd_1054 : (Jvm.Cond.methodLink "GongHouseLaw" (165 : Nat) ({ cls := "GongHouse", name := "all", desc := "(I)I" } : Jvm.MethodName)) ∈ q_gw := q_gwm 1054 rfl rfl
set_option maxRecDepth 100000 in
theorem wd_1055 : (Jvm.Cond.instanceMethod ({ cls := "GongHouse", name := "all", desc := "(I)I" } : Jvm.MethodName)) ∈ q_gw := q_gwm 1055 rfl rfl
set_option maxRecDepth 100000 in
theorem wd_1056 : (Jvm.Cond.selects "GongHouse" ({ cls := "GongHouse", name := "all", desc := "(I)I" } : Jvm.MethodName) ({ cls := "GongHouse", name := "all", desc := "(I)I" } : Jvm.MethodName)) ∈ q_gw := q_gwm 1056 rfl rfl
set_option maxRecDepth 100000 in
theorem wd_1057 : (Jvm.Cond.code ({ cls := "GongHouse", name := "all", desc := "(I)I" } : Jvm.MethodName) prog_1_method_35_code (2 : Nat) (Option.some Jvm.ClassFile.FieldType.int)) ∈ q_gw := q_gwm 1057 rfl rfl
set_option maxRecDepth 100000 in
theorem wd_1058 : (Jvm.Cond.methodLink "GongHouse" (339 : Nat) ({ cls := "GongHouse", name := "firstMost", desc := "([IIII)I" } : Jvm.MethodName)) ∈ q_gw := q_gwm 1058 rfl rfl
set_option maxRecDepth 100000 in
theorem wd_1059 : (Jvm.Cond.static ({ cls := "GongHouse", name := "firstMost", desc := "([IIII)I" } : Jvm.MethodName)) ∈ q_gw := q_gwm 1059 rfl rfl
set_option maxRecDepth 100000 in
theorem wd_1060 : (Jvm.Cond.code ({ cls := "GongHouse", name := "firstMost", desc := "([IIII)I" } : Jvm.MethodName) prog_1_method_50_code (6 : Nat) (Option.some Jvm.ClassFile.FieldType.int)) ∈ q_gw := q_gwm 1060 rfl rfl
set_option maxRecDepth 100000 in
theorem wd_1061 : (Jvm.Cond.methodLink "GongHouse" (352 : Nat) ({ cls := "GongHouse", name := "cheapest", desc := "()I" } : Jvm.MethodName)) ∈ q_gw := q_gwm 1061 rfl rfl
set_option maxRecDepth 100000 in
theorem wd_1063 : (Jvm.Cond.instanceMethod ({ cls := "GongHouse", name := "cheapest", desc := "()I" } : Jvm.MethodName)) ∈ q_gw := q_gwm 1063 rfl rfl
set_option maxRecDepth 100000 in
theorem wd_1064 : (Jvm.Cond.code ({ cls := "GongHouse", name := "cheapest", desc := "()I" } : Jvm.MethodName) prog_1_method_51_code (3 : Nat) (Option.some Jvm.ClassFile.FieldType.int)) ∈ q_gw := q_gwm 1064 rfl rfl
set_option maxRecDepth 100000 in
theorem wd_1065 : (Jvm.Cond.methodLink "GongHouse" (355 : Nat) ({ cls := "GongHouse", name := "mostLiked", desc := "()I" } : Jvm.MethodName)) ∈ q_gw := q_gwm 1065 rfl rfl
set_option maxRecDepth 100000 in
theorem wd_1067 : (Jvm.Cond.instanceMethod ({ cls := "GongHouse", name := "mostLiked", desc := "()I" } : Jvm.MethodName)) ∈ q_gw := q_gwm 1067 rfl rfl
set_option maxRecDepth 100000 in
theorem wd_1068 : (Jvm.Cond.code ({ cls := "GongHouse", name := "mostLiked", desc := "()I" } : Jvm.MethodName) prog_1_method_52_code (6 : Nat) (Option.some Jvm.ClassFile.FieldType.int)) ∈ q_gw := q_gwm 1068 rfl rfl
set_option maxRecDepth 100000 in
theorem wd_1069 : (Jvm.Cond.methodLink "GongHouse" (361 : Nat) ({ cls := "GongHouse", name := "lastDay", desc := "()I" } : Jvm.MethodName)) ∈ q_gw := q_gwm 1069 rfl rfl
set_option maxRecDepth 100000 in
theorem wd_1071 : (Jvm.Cond.instanceMethod ({ cls := "GongHouse", name := "lastDay", desc := "()I" } : Jvm.MethodName)) ∈ q_gw := q_gwm 1071 rfl rfl
set_option maxRecDepth 100000 in
theorem wd_1072 : (Jvm.Cond.code ({ cls := "GongHouse", name := "lastDay", desc := "()I" } : Jvm.MethodName) prog_1_method_53_code (3 : Nat) (Option.some Jvm.ClassFile.FieldType.int)) ∈ q_gw := q_gwm 1072 rfl rfl
set_option maxRecDepth 100000 in
theorem wd_1074 : (Jvm.Cond.methodLink "GongHouse" (377 : Nat) ({ cls := "java/lang/Math", name := "max", desc := "(II)I" } : Jvm.MethodName)) ∈ q_gw := q_gwm 1074 rfl rfl
set_option maxRecDepth 100000 in
theorem wd_1075 : (Jvm.Cond.methodLink "GongHouse" (364 : Nat) ({ cls := "GongHouse", name := "takings", desc := "()I" } : Jvm.MethodName)) ∈ q_gw := q_gwm 1075 rfl rfl
set_option maxRecDepth 100000 in
theorem wd_1077 : (Jvm.Cond.instanceMethod ({ cls := "GongHouse", name := "takings", desc := "()I" } : Jvm.MethodName)) ∈ q_gw := q_gwm 1077 rfl rfl
set_option maxRecDepth 100000 in
theorem wd_1078 : (Jvm.Cond.code ({ cls := "GongHouse", name := "takings", desc := "()I" } : Jvm.MethodName) prog_1_method_54_code (3 : Nat) (Option.some Jvm.ClassFile.FieldType.int)) ∈ q_gw := q_gwm 1078 rfl rfl
set_option maxRecDepth 100000 in
theorem wd_1081 : (Jvm.Cond.instanceMethod ({ cls := "GongHouse$Foresight", name := "daysToNothing", desc := "(LGongHouse$State;)I" } : Jvm.MethodName)) ∈ q_gw := q_gwm 1081 rfl rfl
set_option maxRecDepth 100000 in
theorem wd_1082 : (Jvm.Cond.code ({ cls := "GongHouse$Foresight", name := "daysToNothing", desc := "(LGongHouse$State;)I" } : Jvm.MethodName) prog_4_method_9_code (3 : Nat) (Option.some Jvm.ClassFile.FieldType.int)) ∈ q_gw := q_gwm 1082 rfl rfl
set_option maxRecDepth 100000 in
theorem wd_1085 : (Jvm.Cond.instanceMethod ({ cls := "GongHouse$Foresight", name := "fullestDay", desc := "(LGongHouse$State;)I" } : Jvm.MethodName)) ∈ q_gw := q_gwm 1085 rfl rfl
set_option maxRecDepth 100000 in
theorem wd_1086 : (Jvm.Cond.code ({ cls := "GongHouse$Foresight", name := "fullestDay", desc := "(LGongHouse$State;)I" } : Jvm.MethodName) prog_4_method_10_code (5 : Nat) (Option.some Jvm.ClassFile.FieldType.int)) ∈ q_gw := q_gwm 1086 rfl rfl
set_option maxRecDepth 100000 in
theorem wd_1087 : (Jvm.Cond.methodLink "GongHouseLaw" (169 : Nat) ({ cls := "GongHouse", name := "kinds", desc := "(I)I" } : Jvm.MethodName)) ∈ q_gw := q_gwm 1087 rfl rfl
set_option maxRecDepth 100000 in
theorem wd_1088 : (Jvm.Cond.instanceMethod ({ cls := "GongHouse", name := "kinds", desc := "(I)I" } : Jvm.MethodName)) ∈ q_gw := q_gwm 1088 rfl rfl
set_option maxRecDepth 100000 in
theorem wd_1089 : (Jvm.Cond.selects "GongHouse" ({ cls := "GongHouse", name := "kinds", desc := "(I)I" } : Jvm.MethodName) ({ cls := "GongHouse", name := "kinds", desc := "(I)I" } : Jvm.MethodName)) ∈ q_gw := q_gwm 1089 rfl rfl
set_option maxRecDepth 100000 in
theorem wd_1090 : (Jvm.Cond.code ({ cls := "GongHouse", name := "kinds", desc := "(I)I" } : Jvm.MethodName) prog_1_method_36_code (4 : Nat) (Option.some Jvm.ClassFile.FieldType.int)) ∈ q_gw := q_gwm 1090 rfl rfl
set_option maxRecDepth 100000 in
theorem wd_1091 : (Jvm.Cond.methodLink "GongHouseLaw" (173 : Nat) ({ cls := "GongHouse", name := "staying", desc := "(I)I" } : Jvm.MethodName)) ∈ q_gw := q_gwm 1091 rfl rfl
set_option maxRecDepth 100000 in
theorem wd_1092 : (Jvm.Cond.instanceMethod ({ cls := "GongHouse", name := "staying", desc := "(I)I" } : Jvm.MethodName)) ∈ q_gw := q_gwm 1092 rfl rfl
set_option maxRecDepth 100000 in
theorem wd_1093 : (Jvm.Cond.selects "GongHouse" ({ cls := "GongHouse", name := "staying", desc := "(I)I" } : Jvm.MethodName) ({ cls := "GongHouse", name := "staying", desc := "(I)I" } : Jvm.MethodName)) ∈ q_gw := q_gwm 1093 rfl rfl
set_option maxRecDepth 100000 in
theorem wd_1094 : (Jvm.Cond.code ({ cls := "GongHouse", name := "staying", desc := "(I)I" } : Jvm.MethodName) prog_1_method_37_code (4 : Nat) (Option.some Jvm.ClassFile.FieldType.int)) ∈ q_gw := q_gwm 1094 rfl rfl
set_option maxRecDepth 100000 in
theorem wd_1095 : (Jvm.Cond.methodLink "GongHouseLaw" (177 : Nat) ({ cls := "GongHouse", name := "image", desc := "()I" } : Jvm.MethodName)) ∈ q_gw := q_gwm 1095 rfl rfl
set_option maxRecDepth 100000 in
theorem wd_1096 : (Jvm.Cond.instanceMethod ({ cls := "GongHouse", name := "image", desc := "()I" } : Jvm.MethodName)) ∈ q_gw := q_gwm 1096 rfl rfl
set_option maxRecDepth 100000 in
theorem wd_1097 : (Jvm.Cond.selects "GongHouse" ({ cls := "GongHouse", name := "image", desc := "()I" } : Jvm.MethodName) ({ cls := "GongHouse", name := "image", desc := "()I" } : Jvm.MethodName)) ∈ q_gw := q_gwm 1097 rfl rfl
set_option maxRecDepth 100000 in
theorem wd_1098 : (Jvm.Cond.code ({ cls := "GongHouse", name := "image", desc := "()I" } : Jvm.MethodName) prog_1_method_38_code (1 : Nat) (Option.some Jvm.ClassFile.FieldType.int)) ∈ q_gw := q_gwm 1098 rfl rfl
set_option maxRecDepth 100000 in
theorem wd_1101 : (Jvm.Cond.instanceMethod ({ cls := "GongHouse$Past", name := "takePicture", desc := "(LGongHouse$State;)V" } : Jvm.MethodName)) ∈ q_gw := q_gwm 1101 rfl rfl
set_option maxRecDepth 100000 in
theorem wd_1102 : (Jvm.Cond.code ({ cls := "GongHouse$Past", name := "takePicture", desc := "(LGongHouse$State;)V" } : Jvm.MethodName) prog_8_method_9_code (2 : Nat) (Option.none : Option Jvm.ClassFile.FieldType)) ∈ q_gw := q_gwm 1102 rfl rfl
set_option maxRecDepth 100000 in
theorem wd_1104 : (Jvm.Cond.methodLink "GongHouseLaw" (181 : Nat) ({ cls := "GongHouse", name := "back", desc := "()I" } : Jvm.MethodName)) ∈ q_gw := q_gwm 1104 rfl rfl
set_option maxRecDepth 100000 in
theorem wd_1105 : (Jvm.Cond.instanceMethod ({ cls := "GongHouse", name := "back", desc := "()I" } : Jvm.MethodName)) ∈ q_gw := q_gwm 1105 rfl rfl
set_option maxRecDepth 100000 in
theorem wd_1106 : (Jvm.Cond.selects "GongHouse" ({ cls := "GongHouse", name := "back", desc := "()I" } : Jvm.MethodName) ({ cls := "GongHouse", name := "back", desc := "()I" } : Jvm.MethodName)) ∈ q_gw := q_gwm 1106 rfl rfl
set_option maxRecDepth 100000 in
theorem wd_1107 : (Jvm.Cond.code ({ cls := "GongHouse", name := "back", desc := "()I" } : Jvm.MethodName) prog_1_method_39_code (1 : Nat) (Option.some Jvm.ClassFile.FieldType.int)) ∈ q_gw := q_gwm 1107 rfl rfl
set_option maxRecDepth 100000 in
theorem wd_1110 : (Jvm.Cond.instanceMethod ({ cls := "GongHouse$Past", name := "showPicture", desc := "(LGongHouse$State;)Z" } : Jvm.MethodName)) ∈ q_gw := q_gwm 1110 rfl rfl
set_option maxRecDepth 100000 in
theorem wd_1111 : (Jvm.Cond.code ({ cls := "GongHouse$Past", name := "showPicture", desc := "(LGongHouse$State;)Z" } : Jvm.MethodName) prog_8_method_10_code (2 : Nat) (Option.some Jvm.ClassFile.FieldType.boolean)) ∈ q_gw := q_gwm 1111 rfl rfl
set_option maxRecDepth 100000 in
theorem wd_1112 : (Jvm.Cond.methodLink "GongHouseLaw" (185 : Nat) ({ cls := "GongHouse", name := "count", desc := "(I)I" } : Jvm.MethodName)) ∈ q_gw := q_gwm 1112 rfl rfl
set_option maxRecDepth 100000 in
theorem wd_1113 : (Jvm.Cond.instanceMethod ({ cls := "GongHouse", name := "count", desc := "(I)I" } : Jvm.MethodName)) ∈ q_gw := q_gwm 1113 rfl rfl
set_option maxRecDepth 100000 in
theorem wd_1114 : (Jvm.Cond.selects "GongHouse" ({ cls := "GongHouse", name := "count", desc := "(I)I" } : Jvm.MethodName) ({ cls := "GongHouse", name := "count", desc := "(I)I" } : Jvm.MethodName)) ∈ q_gw := q_gwm 1114 rfl rfl
set_option maxRecDepth 100000 in
theorem wd_1115 : (Jvm.Cond.code ({ cls := "GongHouse", name := "count", desc := "(I)I" } : Jvm.MethodName) prog_1_method_40_code (2 : Nat) (Option.some Jvm.ClassFile.FieldType.int)) ∈ q_gw := q_gwm 1115 rfl rfl
set_option maxRecDepth 100000 in
theorem wd_1117 : (Jvm.Cond.methodLink "GongHouseLaw" (46 : Nat) ({ cls := "GongHouseLaw", name := "guest", desc := "(LGongHouse;II[J)I" } : Jvm.MethodName)) ∈ q_gw := q_gwm 1117 rfl rfl
set_option maxRecDepth 100000 in
theorem wd_1121 : (Jvm.Cond.methodLink "GongHouseLaw" (7 : Nat) ({ cls := "GongHouse", name := "guest", desc := "(II)I" } : Jvm.MethodName)) ∈ q_gw := q_gwm 1121 rfl rfl
set_option maxRecDepth 100000 in
theorem wd_1122 : (Jvm.Cond.instanceMethod ({ cls := "GongHouse", name := "guest", desc := "(II)I" } : Jvm.MethodName)) ∈ q_gw := q_gwm 1122 rfl rfl
set_option maxRecDepth 100000 in
theorem wd_1123 : (Jvm.Cond.selects "GongHouse" ({ cls := "GongHouse", name := "guest", desc := "(II)I" } : Jvm.MethodName) ({ cls := "GongHouse", name := "guest", desc := "(II)I" } : Jvm.MethodName)) ∈ q_gw := q_gwm 1123 rfl rfl
set_option maxRecDepth 100000 in
theorem wd_1124 : (Jvm.Cond.code ({ cls := "GongHouse", name := "guest", desc := "(II)I" } : Jvm.MethodName) prog_1_method_8_code (3 : Nat) (Option.some Jvm.ClassFile.FieldType.int)) ∈ q_gw := q_gwm 1124 rfl rfl
set_option maxRecDepth 100000 in
theorem wd_1191 : (Jvm.Cond.classLink "GongHouseLaw" (16 : Nat) "GongHouseModel") ∈ q_gw := q_gwm 1191 rfl rfl
set_option maxRecDepth 100000 in
theorem wd_1192 : (Jvm.Cond.instantiable "GongHouseModel" (50 : Nat)) ∈ q_gw := q_gwm 1192 rfl rfl
set_option maxRecDepth 100000 in
theorem wd_1193 : (Jvm.Cond.methodLink "GongHouseLaw" (18 : Nat) ({ cls := "GongHouseModel", name := "<init>", desc := "()V" } : Jvm.MethodName)) ∈ q_gw := q_gwm 1193 rfl rfl
set_option maxRecDepth 100000 in
theorem wd_1194 : (Jvm.Cond.instanceMethod ({ cls := "GongHouseModel", name := "<init>", desc := "()V" } : Jvm.MethodName)) ∈ q_gw := q_gwm 1194 rfl rfl
set_option maxRecDepth 100000 in
theorem wd_1195 : (Jvm.Cond.code ({ cls := "GongHouseModel", name := "<init>", desc := "()V" } : Jvm.MethodName) prog_14_method_1_code (1 : Nat) (Option.none : Option Jvm.ClassFile.FieldType)) ∈ q_gw := q_gwm 1195 rfl rfl
set_option maxRecDepth 100000 in
theorem wd_1196 : (Jvm.Cond.methodLink "GongHouseModel" (3 : Nat) ({ cls := "java/lang/Object", name := "<init>", desc := "()V" } : Jvm.MethodName)) ∈ q_gw := q_gwm 1196 rfl rfl
set_option maxRecDepth 100000 in
theorem wd_1199 : (Jvm.Cond.fieldLink "GongHouseModel" (92 : Nat) "GongHouseModel" "thrown" "I") ∈ q_gw := q_gwm 1199 rfl rfl
set_option maxRecDepth 100000 in
theorem wd_1200 : (Jvm.Cond.fieldLink "GongHouseModel" (9 : Nat) "GongHouseModel" "tape" "[B") ∈ q_gw := q_gwm 1200 rfl rfl
set_option maxRecDepth 100000 in
theorem wd_1201 : (Jvm.Cond.fieldLink "GongHouseModel" (13 : Nat) "GongHouseModel" "texts" "[B") ∈ q_gw := q_gwm 1201 rfl rfl
set_option maxRecDepth 100000 in
theorem wd_1202 : (Jvm.Cond.fieldLink "GongHouseModel" (16 : Nat) "GongHouseModel" "textLong" "[I") ∈ q_gw := q_gwm 1202 rfl rfl
set_option maxRecDepth 100000 in
theorem wd_1203 : (Jvm.Cond.fieldLink "GongHouseModel" (20 : Nat) "GongHouseModel" "letters" "[I") ∈ q_gw := q_gwm 1203 rfl rfl
set_option maxRecDepth 100000 in
theorem wd_1204 : (Jvm.Cond.fieldLink "GongHouseModel" (23 : Nat) "GongHouseModel" "text" "[B") ∈ q_gw := q_gwm 1204 rfl rfl
set_option maxRecDepth 100000 in
theorem wd_1205 : (Jvm.Cond.fieldLink "GongHouseModel" (105 : Nat) "GongHouseModel" "length" "I") ∈ q_gw := q_gwm 1205 rfl rfl
set_option maxRecDepth 100000 in
theorem wd_1206 : (Jvm.Cond.fieldLink "GongHouseModel" (276 : Nat) "GongHouseModel" "lawMany" "I") ∈ q_gw := q_gwm 1206 rfl rfl
set_option maxRecDepth 100000 in
theorem wd_1207 : (Jvm.Cond.fieldLink "GongHouseModel" (121 : Nat) "GongHouseModel" "begins" "I") ∈ q_gw := q_gwm 1207 rfl rfl
set_option maxRecDepth 100000 in
theorem wd_1208 : (Jvm.Cond.fieldLink "GongHouseModel" (118 : Nat) "GongHouseModel" "ends" "I") ∈ q_gw := q_gwm 1208 rfl rfl
set_option maxRecDepth 100000 in
theorem wd_1209 : (Jvm.Cond.fieldLink "GongHouseModel" (115 : Nat) "GongHouseModel" "at" "I") ∈ q_gw := q_gwm 1209 rfl rfl
set_option maxRecDepth 100000 in
theorem wd_1210 : (Jvm.Cond.fieldLink "GongHouseModel" (124 : Nat) "GongHouseModel" "fault" "I") ∈ q_gw := q_gwm 1210 rfl rfl
set_option maxRecDepth 100000 in
theorem wd_1211 : (Jvm.Cond.fieldLink "GongHouseModel" (127 : Nat) "GongHouseModel" "deep" "I") ∈ q_gw := q_gwm 1211 rfl rfl
set_option maxRecDepth 100000 in
theorem wd_1212 : (Jvm.Cond.fieldLink "GongHouseModel" (197 : Nat) "GongHouseModel" "label" "I") ∈ q_gw := q_gwm 1212 rfl rfl
set_option maxRecDepth 100000 in
theorem wd_1213 : (Jvm.Cond.fieldLink "GongHouseModel" (200 : Nat) "GongHouseModel" "found" "I") ∈ q_gw := q_gwm 1213 rfl rfl
set_option maxRecDepth 100000 in
theorem wd_1214 : (Jvm.Cond.fieldLink "GongHouseModel" (28 : Nat) "GongHouseModel" "labels" "Ljava/lang/String;") ∈ q_gw := q_gwm 1214 rfl rfl
set_option maxRecDepth 100000 in
theorem wd_1215 : (Jvm.Cond.fieldLink "GongHouseModel" (34 : Nat) "GongHouseModel" "allowed" "Ljava/lang/String;") ∈ q_gw := q_gwm 1215 rfl rfl
set_option maxRecDepth 100000 in
theorem wd_1216 : (Jvm.Cond.fieldLink "GongHouseModel" (193 : Nat) "GongHouseModel" "hasFound" "Z") ∈ q_gw := q_gwm 1216 rfl rfl
set_option maxRecDepth 100000 in
theorem wd_1217 : (Jvm.Cond.fieldLink "GongHouseModel" (37 : Nat) "GongHouseModel" "rule" "[I") ∈ q_gw := q_gwm 1217 rfl rfl
set_option maxRecDepth 100000 in
theorem wd_1218 : (Jvm.Cond.fieldLink "GongHouseModel" (40 : Nat) "GongHouseModel" "ruleRead" "[I") ∈ q_gw := q_gwm 1218 rfl rfl
set_option maxRecDepth 100000 in
theorem wd_1219 : (Jvm.Cond.fieldLink "GongHouseModel" (43 : Nat) "GongHouseModel" "dish" "[I") ∈ q_gw := q_gwm 1219 rfl rfl
set_option maxRecDepth 100000 in
theorem wd_1220 : (Jvm.Cond.fieldLink "GongHouseModel" (46 : Nat) "GongHouseModel" "dishRead" "[I") ∈ q_gw := q_gwm 1220 rfl rfl
set_option maxRecDepth 100000 in
theorem wd_1221 : (Jvm.Cond.fieldLink "GongHouseModel" (49 : Nat) "GongHouseModel" "guest" "[I") ∈ q_gw := q_gwm 1221 rfl rfl
set_option maxRecDepth 100000 in
theorem wd_1222 : (Jvm.Cond.fieldLink "GongHouseModel" (52 : Nat) "GongHouseModel" "guestRead" "[I") ∈ q_gw := q_gwm 1222 rfl rfl
set_option maxRecDepth 100000 in
theorem wd_1223 : (Jvm.Cond.fieldLink "GongHouseModel" (55 : Nat) "GongHouseModel" "week" "[I") ∈ q_gw := q_gwm 1223 rfl rfl
set_option maxRecDepth 100000 in
theorem wd_1224 : (Jvm.Cond.fieldLink "GongHouseModel" (58 : Nat) "GongHouseModel" "weekLong" "[I") ∈ q_gw := q_gwm 1224 rfl rfl
set_option maxRecDepth 100000 in
theorem wd_1225 : (Jvm.Cond.fieldLink "GongHouseModel" (284 : Nat) "GongHouseModel" "dishes" "I") ∈ q_gw := q_gwm 1225 rfl rfl
set_option maxRecDepth 100000 in
theorem wd_1226 : (Jvm.Cond.fieldLink "GongHouseModel" (287 : Nat) "GongHouseModel" "guests" "I") ∈ q_gw := q_gwm 1226 rfl rfl
set_option maxRecDepth 100000 in
theorem wd_1227 : (Jvm.Cond.fieldLink "GongHouseModel" (238 : Nat) "GongHouseModel" "dishesRead" "I") ∈ q_gw := q_gwm 1227 rfl rfl
set_option maxRecDepth 100000 in
theorem wd_1228 : (Jvm.Cond.fieldLink "GongHouseModel" (241 : Nat) "GongHouseModel" "guestsRead" "I") ∈ q_gw := q_gwm 1228 rfl rfl
set_option maxRecDepth 100000 in
theorem wd_1229 : (Jvm.Cond.fieldLink "GongHouseModel" (279 : Nat) "GongHouseModel" "weeks" "I") ∈ q_gw := q_gwm 1229 rfl rfl
set_option maxRecDepth 100000 in
theorem wd_1230 : (Jvm.Cond.fieldLink "GongHouseModel" (235 : Nat) "GongHouseModel" "hasRules" "Z") ∈ q_gw := q_gwm 1230 rfl rfl
set_option maxRecDepth 100000 in
theorem wd_1231 : (Jvm.Cond.fieldLink "GongHouseModel" (61 : Nat) "GongHouseModel" "now" "[I") ∈ q_gw := q_gwm 1231 rfl rfl
set_option maxRecDepth 100000 in
theorem wd_1232 : (Jvm.Cond.fieldLink "GongHouseModel" (64 : Nat) "GongHouseModel" "trial" "[I") ∈ q_gw := q_gwm 1232 rfl rfl
set_option maxRecDepth 100000 in
theorem wd_1233 : (Jvm.Cond.fieldLink "GongHouseModel" (67 : Nat) "GongHouseModel" "law" "I") ∈ q_gw := q_gwm 1233 rfl rfl
set_option maxRecDepth 100000 in
theorem wd_1234 : (Jvm.Cond.fieldLink "GongHouseModel" (71 : Nat) "GongHouseModel" "feverish" "I") ∈ q_gw := q_gwm 1234 rfl rfl
set_option maxRecDepth 100000 in
theorem wd_1235 : (Jvm.Cond.fieldLink "GongHouseModel" (74 : Nat) "GongHouseModel" "plate" "[I") ∈ q_gw := q_gwm 1235 rfl rfl
set_option maxRecDepth 100000 in
theorem wd_1236 : (Jvm.Cond.fieldLink "GongHouseModel" (313 : Nat) "GongHouseModel" "servedDish" "I") ∈ q_gw := q_gwm 1236 rfl rfl
set_option maxRecDepth 100000 in
theorem wd_1237 : (Jvm.Cond.fieldLink "GongHouseModel" (319 : Nat) "GongHouseModel" "servedWarmth" "I") ∈ q_gw := q_gwm 1237 rfl rfl
set_option maxRecDepth 100000 in
theorem wd_1238 : (Jvm.Cond.fieldLink "GongHouseModel" (316 : Nat) "GongHouseModel" "servedMany" "I") ∈ q_gw := q_gwm 1238 rfl rfl
set_option maxRecDepth 100000 in
theorem wd_1239 : (Jvm.Cond.fieldLink "GongHouseModel" (338 : Nat) "GongHouseModel" "waste" "I") ∈ q_gw := q_gwm 1239 rfl rfl
set_option maxRecDepth 100000 in
theorem wd_1240 : (Jvm.Cond.fieldLink "GongHouseModel" (77 : Nat) "GongHouseModel" "undoRow" "[I") ∈ q_gw := q_gwm 1240 rfl rfl
set_option maxRecDepth 100000 in
theorem wd_1241 : (Jvm.Cond.fieldLink "GongHouseModel" (293 : Nat) "GongHouseModel" "acts" "I") ∈ q_gw := q_gwm 1241 rfl rfl
set_option maxRecDepth 100000 in
theorem wd_1242 : (Jvm.Cond.fieldLink "GongHouseModel" (392 : Nat) "GongHouseModel" "x" "J") ∈ q_gw := q_gwm 1242 rfl rfl
set_option maxRecDepth 100000 in
theorem wd_1243 : (Jvm.Cond.fieldLink "GongHouseModel" (80 : Nat) "GongHouseModel" "sight" "[I") ∈ q_gw := q_gwm 1243 rfl rfl
set_option maxRecDepth 100000 in
theorem wd_1244 : (Jvm.Cond.fieldLink "GongHouseModel" (290 : Nat) "GongHouseModel" "sights" "I") ∈ q_gw := q_gwm 1244 rfl rfl
set_option maxRecDepth 100000 in
theorem wd_1245 : (Jvm.Cond.fieldLink "GongHouseModel" (83 : Nat) "GongHouseModel" "gains" "[I") ∈ q_gw := q_gwm 1245 rfl rfl
set_option maxRecDepth 100000 in
theorem wd_1246 : (Jvm.Cond.fieldLink "GongHouseModel" (86 : Nat) "GongHouseModel" "saved" "[I") ∈ q_gw := q_gwm 1246 rfl rfl
set_option maxRecDepth 100000 in
theorem wd_1247 : (Jvm.Cond.fieldLink "GongHouseModel" (89 : Nat) "GongHouseModel" "imageRow" "[I") ∈ q_gw := q_gwm 1247 rfl rfl
set_option maxRecDepth 100000 in
theorem wd_1248 : (Jvm.Cond.fieldLink "GongHouseModel" (296 : Nat) "GongHouseModel" "hasImage" "Z") ∈ q_gw := q_gwm 1248 rfl rfl
set_option maxRecDepth 100000 in
theorem wd_1350 : (Jvm.Cond.methodLink "GongHouseLaw" (52 : Nat) ({ cls := "GongHouseModel", name := "thrown", desc := "()I" } : Jvm.MethodName)) ∈ q_gw := q_gwm 1350 rfl rfl
set_option maxRecDepth 100000 in
theorem wd_1351 : (Jvm.Cond.instanceMethod ({ cls := "GongHouseModel", name := "thrown", desc := "()I" } : Jvm.MethodName)) ∈ q_gw := q_gwm 1351 rfl rfl
set_option maxRecDepth 100000 in
theorem wd_1352 : (Jvm.Cond.selects "GongHouseModel" ({ cls := "GongHouseModel", name := "thrown", desc := "()I" } : Jvm.MethodName) ({ cls := "GongHouseModel", name := "thrown", desc := "()I" } : Jvm.MethodName)) ∈ q_gw := q_gwm 1352 rfl rfl
set_option maxRecDepth 100000 in
theorem wd_1353 : (Jvm.Cond.code ({ cls := "GongHouseModel", name := "thrown", desc := "()I" } : Jvm.MethodName) prog_14_method_2_code (1 : Nat) (Option.some Jvm.ClassFile.FieldType.int)) ∈ q_gw := q_gwm 1353 rfl rfl
set_option maxRecDepth 100000 in
theorem wd_1354 : (Jvm.Cond.methodLink "GongHouseLaw" (23 : Nat) ({ cls := "GongHouseModel", name := "feed", desc := "(IIIII)I" } : Jvm.MethodName)) ∈ q_gw := q_gwm 1354 rfl rfl
set_option maxRecDepth 100000 in
theorem wd_1355 : (Jvm.Cond.instanceMethod ({ cls := "GongHouseModel", name := "feed", desc := "(IIIII)I" } : Jvm.MethodName)) ∈ q_gw := q_gwm 1355 rfl rfl
set_option maxRecDepth 100000 in
theorem wd_1356 : (Jvm.Cond.selects "GongHouseModel" ({ cls := "GongHouseModel", name := "feed", desc := "(IIIII)I" } : Jvm.MethodName) ({ cls := "GongHouseModel", name := "feed", desc := "(IIIII)I" } : Jvm.MethodName)) ∈ q_gw := q_gwm 1356 rfl rfl
set_option maxRecDepth 100000 in
theorem wd_1357 : (Jvm.Cond.code ({ cls := "GongHouseModel", name := "feed", desc := "(IIIII)I" } : Jvm.MethodName) prog_14_method_8_code (6 : Nat) (Option.some Jvm.ClassFile.FieldType.int)) ∈ q_gw := q_gwm 1357 rfl rfl
set_option maxRecDepth 100000 in
theorem wd_1358 : (Jvm.Cond.methodLink "GongHouseModel" (107 : Nat) ({ cls := "GongHouseModel", name := "bytesIn", desc := "(I)I" } : Jvm.MethodName)) ∈ q_gw := q_gwm 1358 rfl rfl
set_option maxRecDepth 100000 in
theorem wd_1359 : (Jvm.Cond.static ({ cls := "GongHouseModel", name := "bytesIn", desc := "(I)I" } : Jvm.MethodName)) ∈ q_gw := q_gwm 1359 rfl rfl
set_option maxRecDepth 100000 in
theorem wd_1360 : (Jvm.Cond.code ({ cls := "GongHouseModel", name := "bytesIn", desc := "(I)I" } : Jvm.MethodName) prog_14_method_6_code (3 : Nat) (Option.some Jvm.ClassFile.FieldType.int)) ∈ q_gw := q_gwm 1360 rfl rfl
set_option maxRecDepth 100000 in
theorem wd_1361 : (Jvm.Cond.methodLink "GongHouseModel" (111 : Nat) ({ cls := "GongHouseModel", name := "put", desc := "(I)V" } : Jvm.MethodName)) ∈ q_gw := q_gwm 1361 rfl rfl
set_option maxRecDepth 100000 in
theorem wd_1363 : (Jvm.Cond.instanceMethod ({ cls := "GongHouseModel", name := "put", desc := "(I)V" } : Jvm.MethodName)) ∈ q_gw := q_gwm 1363 rfl rfl
set_option maxRecDepth 100000 in
theorem wd_1364 : (Jvm.Cond.code ({ cls := "GongHouseModel", name := "put", desc := "(I)V" } : Jvm.MethodName) prog_14_method_7_code (3 : Nat) (Option.none : Option Jvm.ClassFile.FieldType)) ∈ q_gw := q_gwm 1364 rfl rfl
set_option maxRecDepth 100000 in
theorem wd_1365 : (Jvm.Cond.methodLink "GongHouseLaw" (28 : Nat) ({ cls := "GongHouseModel", name := "end", desc := "(I)Z" } : Jvm.MethodName)) ∈ q_gw := q_gwm 1365 rfl rfl
set_option maxRecDepth 100000 in
theorem wd_1366 : (Jvm.Cond.instanceMethod ({ cls := "GongHouseModel", name := "end", desc := "(I)Z" } : Jvm.MethodName)) ∈ q_gw := q_gwm 1366 rfl rfl
set_option maxRecDepth 100000 in
theorem wd_1367 : (Jvm.Cond.selects "GongHouseModel" ({ cls := "GongHouseModel", name := "end", desc := "(I)Z" } : Jvm.MethodName) ({ cls := "GongHouseModel", name := "end", desc := "(I)Z" } : Jvm.MethodName)) ∈ q_gw := q_gwm 1367 rfl rfl
set_option maxRecDepth 100000 in
theorem wd_1368 : (Jvm.Cond.code ({ cls := "GongHouseModel", name := "end", desc := "(I)Z" } : Jvm.MethodName) prog_14_method_9_code (2 : Nat) (Option.some Jvm.ClassFile.FieldType.boolean)) ∈ q_gw := q_gwm 1368 rfl rfl
set_option maxRecDepth 100000 in
theorem wd_1369 : (Jvm.Cond.methodLink "GongHouseLaw" (33 : Nat) ({ cls := "GongHouseModel", name := "fault", desc := "(I)I" } : Jvm.MethodName)) ∈ q_gw := q_gwm 1369 rfl rfl
set_option maxRecDepth 100000 in
theorem wd_1370 : (Jvm.Cond.instanceMethod ({ cls := "GongHouseModel", name := "fault", desc := "(I)I" } : Jvm.MethodName)) ∈ q_gw := q_gwm 1370 rfl rfl
set_option maxRecDepth 100000 in
theorem wd_1371 : (Jvm.Cond.selects "GongHouseModel" ({ cls := "GongHouseModel", name := "fault", desc := "(I)I" } : Jvm.MethodName) ({ cls := "GongHouseModel", name := "fault", desc := "(I)I" } : Jvm.MethodName)) ∈ q_gw := q_gwm 1371 rfl rfl
set_option maxRecDepth 100000 in
theorem wd_1372 : (Jvm.Cond.code ({ cls := "GongHouseModel", name := "fault", desc := "(I)I" } : Jvm.MethodName) prog_14_method_38_code (2 : Nat) (Option.some Jvm.ClassFile.FieldType.int)) ∈ q_gw := q_gwm 1372 rfl rfl
set_option maxRecDepth 100000 in
theorem wd_1373 : (Jvm.Cond.constantLong "GongHouseModel" (265 : Nat) (2 : Int64)) ∈ q_gw := q_gwm 1373 rfl rfl
set_option maxRecDepth 100000 in
theorem wd_1374 : (Jvm.Cond.methodLink "GongHouseModel" (213 : Nat) ({ cls := "GongHouseModel", name := "isIn", desc := "(JJJ)Z" } : Jvm.MethodName)) ∈ q_gw := q_gwm 1374 rfl rfl
set_option maxRecDepth 100000 in
theorem wd_1375 : (Jvm.Cond.static ({ cls := "GongHouseModel", name := "isIn", desc := "(JJJ)Z" } : Jvm.MethodName)) ∈ q_gw := q_gwm 1375 rfl rfl
set_option maxRecDepth 100000 in
theorem wd_1376 : (Jvm.Cond.code ({ cls := "GongHouseModel", name := "isIn", desc := "(JJJ)Z" } : Jvm.MethodName) prog_14_method_3_code (6 : Nat) (Option.some Jvm.ClassFile.FieldType.boolean)) ∈ q_gw := q_gwm 1376 rfl rfl
set_option maxRecDepth 100000 in
theorem wd_1377 : (Jvm.Cond.methodLink "GongHouseModel" (267 : Nat) ({ cls := "GongHouseModel", name := "readHouse", desc := "()V" } : Jvm.MethodName)) ∈ q_gw := q_gwm 1377 rfl rfl
set_option maxRecDepth 100000 in
theorem wd_1379 : (Jvm.Cond.instanceMethod ({ cls := "GongHouseModel", name := "readHouse", desc := "()V" } : Jvm.MethodName)) ∈ q_gw := q_gwm 1379 rfl rfl
set_option maxRecDepth 100000 in
theorem wd_1380 : (Jvm.Cond.code ({ cls := "GongHouseModel", name := "readHouse", desc := "()V" } : Jvm.MethodName) prog_14_method_34_code (2 : Nat) (Option.none : Option Jvm.ClassFile.FieldType)) ∈ q_gw := q_gwm 1380 rfl rfl
set_option maxRecDepth 100000 in
theorem wd_1381 : (Jvm.Cond.methodLink "GongHouseModel" (203 : Nat) ({ cls := "GongHouseModel", name := "starts", desc := "([BII)V" } : Jvm.MethodName)) ∈ q_gw := q_gwm 1381 rfl rfl
set_option maxRecDepth 100000 in
theorem wd_1383 : (Jvm.Cond.instanceMethod ({ cls := "GongHouseModel", name := "starts", desc := "([BII)V" } : Jvm.MethodName)) ∈ q_gw := q_gwm 1383 rfl rfl
set_option maxRecDepth 100000 in
theorem wd_1384 : (Jvm.Cond.code ({ cls := "GongHouseModel", name := "starts", desc := "([BII)V" } : Jvm.MethodName) prog_14_method_25_code (4 : Nat) (Option.none : Option Jvm.ClassFile.FieldType)) ∈ q_gw := q_gwm 1384 rfl rfl
set_option maxRecDepth 100000 in
theorem wd_1385 : (Jvm.Cond.methodLink "GongHouseModel" (217 : Nat) ({ cls := "GongHouseModel", name := "usual", desc := "(II)I" } : Jvm.MethodName)) ∈ q_gw := q_gwm 1385 rfl rfl
set_option maxRecDepth 100000 in
theorem wd_1386 : (Jvm.Cond.static ({ cls := "GongHouseModel", name := "usual", desc := "(II)I" } : Jvm.MethodName)) ∈ q_gw := q_gwm 1386 rfl rfl
set_option maxRecDepth 100000 in
theorem wd_1387 : (Jvm.Cond.code ({ cls := "GongHouseModel", name := "usual", desc := "(II)I" } : Jvm.MethodName) prog_14_method_31_code (2 : Nat) (Option.some Jvm.ClassFile.FieldType.int)) ∈ q_gw := q_gwm 1387 rfl rfl
set_option maxRecDepth 100000 in
theorem wd_1388 : (Jvm.Cond.methodLink "GongHouseModel" (254 : Nat) ({ cls := "GongHouseModel", name := "readClause", desc := "()V" } : Jvm.MethodName)) ∈ q_gw := q_gwm 1388 rfl rfl
set_option maxRecDepth 100000 in
theorem wd_1390 : (Jvm.Cond.instanceMethod ({ cls := "GongHouseModel", name := "readClause", desc := "()V" } : Jvm.MethodName)) ∈ q_gw := q_gwm 1390 rfl rfl
set_option maxRecDepth 100000 in
theorem wd_1391 : (Jvm.Cond.code ({ cls := "GongHouseModel", name := "readClause", desc := "()V" } : Jvm.MethodName) prog_14_method_33_code (3 : Nat) (Option.none : Option Jvm.ClassFile.FieldType)) ∈ q_gw := q_gwm 1391 rfl rfl
set_option maxRecDepth 100000 in
theorem wd_1392 : (Jvm.Cond.methodLink "GongHouseModel" (134 : Nat) ({ cls := "GongHouseModel", name := "look", desc := "()I" } : Jvm.MethodName)) ∈ q_gw := q_gwm 1392 rfl rfl
set_option maxRecDepth 100000 in
theorem wd_1394 : (Jvm.Cond.instanceMethod ({ cls := "GongHouseModel", name := "look", desc := "()I" } : Jvm.MethodName)) ∈ q_gw := q_gwm 1394 rfl rfl
set_option maxRecDepth 100000 in
theorem wd_1395 : (Jvm.Cond.code ({ cls := "GongHouseModel", name := "look", desc := "()I" } : Jvm.MethodName) prog_14_method_10_code (1 : Nat) (Option.some Jvm.ClassFile.FieldType.int)) ∈ q_gw := q_gwm 1395 rfl rfl
set_option maxRecDepth 100000 in
theorem wd_1396 : (Jvm.Cond.methodLink "GongHouseModel" (130 : Nat) ({ cls := "GongHouseModel", name := "fails", desc := "()Z" } : Jvm.MethodName)) ∈ q_gw := q_gwm 1396 rfl rfl
set_option maxRecDepth 100000 in
theorem wd_1398 : (Jvm.Cond.instanceMethod ({ cls := "GongHouseModel", name := "fails", desc := "()Z" } : Jvm.MethodName)) ∈ q_gw := q_gwm 1398 rfl rfl
set_option maxRecDepth 100000 in
theorem wd_1399 : (Jvm.Cond.code ({ cls := "GongHouseModel", name := "fails", desc := "()Z" } : Jvm.MethodName) prog_14_method_11_code (1 : Nat) (Option.some Jvm.ClassFile.FieldType.boolean)) ∈ q_gw := q_gwm 1399 rfl rfl
set_option maxRecDepth 100000 in
theorem wd_1401 : (Jvm.Cond.methodLink "GongHouseModel" (246 : Nat) ({ cls := "GongHouseModel", name := "readItems", desc := "(I[IILjava/lang/String;)V" } : Jvm.MethodName)) ∈ q_gw := q_gwm 1401 rfl rfl
set_option maxRecDepth 100000 in
theorem wd_1403 : (Jvm.Cond.instanceMethod ({ cls := "GongHouseModel", name := "readItems", desc := "(I[IILjava/lang/String;)V" } : Jvm.MethodName)) ∈ q_gw := q_gwm 1403 rfl rfl
set_option maxRecDepth 100000 in
theorem wd_1404 : (Jvm.Cond.code ({ cls := "GongHouseModel", name := "readItems", desc := "(I[IILjava/lang/String;)V" } : Jvm.MethodName) prog_14_method_32_code (7 : Nat) (Option.none : Option Jvm.ClassFile.FieldType)) ∈ q_gw := q_gwm 1404 rfl rfl
set_option maxRecDepth 100000 in
theorem wd_1405 : (Jvm.Cond.methodLink "GongHouseModel" (95 : Nat) ({ cls := "java/lang/String", name := "length", desc := "()I" } : Jvm.MethodName)) ∈ q_gw := q_gwm 1405 rfl rfl
set_option maxRecDepth 100000 in
theorem wd_1406 : (Jvm.Cond.methodLink "GongHouseModel" (221 : Nat) ({ cls := "GongHouseModel", name := "spotOf", desc := "(Ljava/lang/String;I)I" } : Jvm.MethodName)) ∈ q_gw := q_gwm 1406 rfl rfl
set_option maxRecDepth 100000 in
theorem wd_1407 : (Jvm.Cond.static ({ cls := "GongHouseModel", name := "spotOf", desc := "(Ljava/lang/String;I)I" } : Jvm.MethodName)) ∈ q_gw := q_gwm 1407 rfl rfl
set_option maxRecDepth 100000 in
theorem wd_1408 : (Jvm.Cond.code ({ cls := "GongHouseModel", name := "spotOf", desc := "(Ljava/lang/String;I)I" } : Jvm.MethodName) prog_14_method_28_code (3 : Nat) (Option.some Jvm.ClassFile.FieldType.int)) ∈ q_gw := q_gwm 1408 rfl rfl
set_option maxRecDepth 100000 in
theorem wd_1409 : (Jvm.Cond.methodLink "GongHouseModel" (101 : Nat) ({ cls := "java/lang/String", name := "charAt", desc := "(I)C" } : Jvm.MethodName)) ∈ q_gw := q_gwm 1409 rfl rfl
set_option maxRecDepth 100000 in
theorem wd_1410 : (Jvm.Cond.instanceMethod ({ cls := "java/lang/String", name := "charAt", desc := "(I)C" } : Jvm.MethodName)) ∈ q_gw := q_gwm 1410 rfl rfl
set_option maxRecDepth 100000 in
theorem wd_1411 : (Jvm.Cond.selects "java/lang/String" ({ cls := "java/lang/String", name := "charAt", desc := "(I)C" } : Jvm.MethodName) ({ cls := "java/lang/String", name := "charAt", desc := "(I)C" } : Jvm.MethodName)) ∈ q_gw := q_gwm 1411 rfl rfl
set_option maxRecDepth 100000 in
theorem wd_1412 : (Jvm.Cond.code ({ cls := "java/lang/String", name := "charAt", desc := "(I)C" } : Jvm.MethodName) prog_24_method_56_code (2 : Nat) (Option.some Jvm.ClassFile.FieldType.char)) ∈ q_gw := q_gwm 1412 rfl rfl
set_option maxRecDepth 100000 in
theorem wd_1429 : (Jvm.Cond.methodLink "GongHouseModel" (225 : Nat) ({ cls := "GongHouseModel", name := "has", desc := "(II)Z" } : Jvm.MethodName)) ∈ q_gw := q_gwm 1429 rfl rfl
set_option maxRecDepth 100000 in
theorem wd_1430 : (Jvm.Cond.static ({ cls := "GongHouseModel", name := "has", desc := "(II)Z" } : Jvm.MethodName)) ∈ q_gw := q_gwm 1430 rfl rfl
set_option maxRecDepth 100000 in
theorem wd_1431 : (Jvm.Cond.code ({ cls := "GongHouseModel", name := "has", desc := "(II)Z" } : Jvm.MethodName) prog_14_method_4_code (2 : Nat) (Option.some Jvm.ClassFile.FieldType.boolean)) ∈ q_gw := q_gwm 1431 rfl rfl
set_option maxRecDepth 100000 in
theorem wd_1432 : (Jvm.Cond.methodLink "GongHouseModel" (229 : Nat) ({ cls := "GongHouseModel", name := "mostOf", desc := "(II)I" } : Jvm.MethodName)) ∈ q_gw := q_gwm 1432 rfl rfl
set_option maxRecDepth 100000 in
theorem wd_1433 : (Jvm.Cond.static ({ cls := "GongHouseModel", name := "mostOf", desc := "(II)I" } : Jvm.MethodName)) ∈ q_gw := q_gwm 1433 rfl rfl
set_option maxRecDepth 100000 in
theorem wd_1434 : (Jvm.Cond.code ({ cls := "GongHouseModel", name := "mostOf", desc := "(II)I" } : Jvm.MethodName) prog_14_method_30_code (2 : Nat) (Option.some Jvm.ClassFile.FieldType.int)) ∈ q_gw := q_gwm 1434 rfl rfl
set_option maxRecDepth 100000 in
theorem wd_1435 : (Jvm.Cond.methodLink "GongHouseModel" (232 : Nat) ({ cls := "GongHouseModel", name := "number", desc := "(II)I" } : Jvm.MethodName)) ∈ q_gw := q_gwm 1435 rfl rfl
set_option maxRecDepth 100000 in
theorem wd_1437 : (Jvm.Cond.instanceMethod ({ cls := "GongHouseModel", name := "number", desc := "(II)I" } : Jvm.MethodName)) ∈ q_gw := q_gwm 1437 rfl rfl
set_option maxRecDepth 100000 in
theorem wd_1438 : (Jvm.Cond.code ({ cls := "GongHouseModel", name := "number", desc := "(II)I" } : Jvm.MethodName) prog_14_method_29_code (5 : Nat) (Option.some Jvm.ClassFile.FieldType.int)) ∈ q_gw := q_gwm 1438 rfl rfl
set_option maxRecDepth 100000 in
theorem wd_1439 : (Jvm.Cond.methodLink "GongHouseModel" (164 : Nat) ({ cls := "GongHouseModel", name := "isDigit", desc := "()Z" } : Jvm.MethodName)) ∈ q_gw := q_gwm 1439 rfl rfl
set_option maxRecDepth 100000 in
theorem wd_1441 : (Jvm.Cond.instanceMethod ({ cls := "GongHouseModel", name := "isDigit", desc := "()Z" } : Jvm.MethodName)) ∈ q_gw := q_gwm 1441 rfl rfl
set_option maxRecDepth 100000 in
theorem wd_1442 : (Jvm.Cond.code ({ cls := "GongHouseModel", name := "isDigit", desc := "()Z" } : Jvm.MethodName) prog_14_method_14_code (1 : Nat) (Option.some Jvm.ClassFile.FieldType.boolean)) ∈ q_gw := q_gwm 1442 rfl rfl
set_option maxRecDepth 100000 in
theorem wd_1443 : (Jvm.Cond.methodLink "GongHouseModel" (210 : Nat) ({ cls := "GongHouseModel", name := "here", desc := "()I" } : Jvm.MethodName)) ∈ q_gw := q_gwm 1443 rfl rfl
set_option maxRecDepth 100000 in
theorem wd_1445 : (Jvm.Cond.instanceMethod ({ cls := "GongHouseModel", name := "here", desc := "()I" } : Jvm.MethodName)) ∈ q_gw := q_gwm 1445 rfl rfl
set_option maxRecDepth 100000 in
theorem wd_1446 : (Jvm.Cond.code ({ cls := "GongHouseModel", name := "here", desc := "()I" } : Jvm.MethodName) prog_14_method_27_code (1 : Nat) (Option.some Jvm.ClassFile.FieldType.int)) ∈ q_gw := q_gwm 1446 rfl rfl
set_option maxRecDepth 100000 in
theorem wd_1449 : (Jvm.Cond.methodLink "GongHouseModel" (270 : Nat) ({ cls := "GongHouseModel", name := "goThrough", desc := "([BII)V" } : Jvm.MethodName)) ∈ q_gw := q_gwm 1449 rfl rfl
set_option maxRecDepth 100000 in
theorem wd_1451 : (Jvm.Cond.instanceMethod ({ cls := "GongHouseModel", name := "goThrough", desc := "([BII)V" } : Jvm.MethodName)) ∈ q_gw := q_gwm 1451 rfl rfl
set_option maxRecDepth 100000 in
theorem wd_1452 : (Jvm.Cond.code ({ cls := "GongHouseModel", name := "goThrough", desc := "([BII)V" } : Jvm.MethodName) prog_14_method_26_code (4 : Nat) (Option.none : Option Jvm.ClassFile.FieldType)) ∈ q_gw := q_gwm 1452 rfl rfl
set_option maxRecDepth 100000 in
theorem wd_1453 : (Jvm.Cond.methodLink "GongHouseModel" (207 : Nat) ({ cls := "GongHouseModel", name := "clause", desc := "()V" } : Jvm.MethodName)) ∈ q_gw := q_gwm 1453 rfl rfl
set_option maxRecDepth 100000 in
theorem wd_1455 : (Jvm.Cond.instanceMethod ({ cls := "GongHouseModel", name := "clause", desc := "()V" } : Jvm.MethodName)) ∈ q_gw := q_gwm 1455 rfl rfl
set_option maxRecDepth 100000 in
theorem wd_1456 : (Jvm.Cond.code ({ cls := "GongHouseModel", name := "clause", desc := "()V" } : Jvm.MethodName) prog_14_method_24_code (5 : Nat) (Option.none : Option Jvm.ClassFile.FieldType)) ∈ q_gw := q_gwm 1456 rfl rfl
set_option maxRecDepth 100000 in
theorem wd_1457 : (Jvm.Cond.methodLink "GongHouseModel" (150 : Nat) ({ cls := "GongHouseModel", name := "isAmong", desc := "(Ljava/lang/String;I)Z" } : Jvm.MethodName)) ∈ q_gw := q_gwm 1457 rfl rfl
set_option maxRecDepth 100000 in
theorem wd_1458 : (Jvm.Cond.static ({ cls := "GongHouseModel", name := "isAmong", desc := "(Ljava/lang/String;I)Z" } : Jvm.MethodName)) ∈ q_gw := q_gwm 1458 rfl rfl
set_option maxRecDepth 100000 in
theorem wd_1459 : (Jvm.Cond.code ({ cls := "GongHouseModel", name := "isAmong", desc := "(Ljava/lang/String;I)Z" } : Jvm.MethodName) prog_14_method_5_code (3 : Nat) (Option.some Jvm.ClassFile.FieldType.boolean)) ∈ q_gw := q_gwm 1459 rfl rfl
set_option maxRecDepth 100000 in
theorem wd_1460 : (Jvm.Cond.methodLink "GongHouseModel" (160 : Nat) ({ cls := "GongHouseModel", name := "takes", desc := "(I)Z" } : Jvm.MethodName)) ∈ q_gw := q_gwm 1460 rfl rfl
set_option maxRecDepth 100000 in
theorem wd_1462 : (Jvm.Cond.instanceMethod ({ cls := "GongHouseModel", name := "takes", desc := "(I)Z" } : Jvm.MethodName)) ∈ q_gw := q_gwm 1462 rfl rfl
set_option maxRecDepth 100000 in
theorem wd_1463 : (Jvm.Cond.code ({ cls := "GongHouseModel", name := "takes", desc := "(I)Z" } : Jvm.MethodName) prog_14_method_13_code (2 : Nat) (Option.some Jvm.ClassFile.FieldType.boolean)) ∈ q_gw := q_gwm 1463 rfl rfl
set_option maxRecDepth 100000 in
theorem wd_1464 : (Jvm.Cond.methodLink "GongHouseModel" (183 : Nat) ({ cls := "GongHouseModel", name := "condition", desc := "(ZI)Z" } : Jvm.MethodName)) ∈ q_gw := q_gwm 1464 rfl rfl
set_option maxRecDepth 100000 in
theorem wd_1466 : (Jvm.Cond.instanceMethod ({ cls := "GongHouseModel", name := "condition", desc := "(ZI)Z" } : Jvm.MethodName)) ∈ q_gw := q_gwm 1466 rfl rfl
set_option maxRecDepth 100000 in
theorem wd_1467 : (Jvm.Cond.code ({ cls := "GongHouseModel", name := "condition", desc := "(ZI)Z" } : Jvm.MethodName) prog_14_method_23_code (5 : Nat) (Option.some Jvm.ClassFile.FieldType.boolean)) ∈ q_gw := q_gwm 1467 rfl rfl
set_option maxRecDepth 100000 in
theorem wd_1468 : (Jvm.Cond.methodLink "GongHouseModel" (190 : Nat) ({ cls := "GongHouseModel", name := "part", desc := "(ZI)Z" } : Jvm.MethodName)) ∈ q_gw := q_gwm 1468 rfl rfl
set_option maxRecDepth 100000 in
theorem wd_1470 : (Jvm.Cond.instanceMethod ({ cls := "GongHouseModel", name := "part", desc := "(ZI)Z" } : Jvm.MethodName)) ∈ q_gw := q_gwm 1470 rfl rfl
set_option maxRecDepth 100000 in
theorem wd_1471 : (Jvm.Cond.code ({ cls := "GongHouseModel", name := "part", desc := "(ZI)Z" } : Jvm.MethodName) prog_14_method_22_code (5 : Nat) (Option.some Jvm.ClassFile.FieldType.boolean)) ∈ q_gw := q_gwm 1471 rfl rfl
set_option maxRecDepth 100000 in
theorem wd_1472 : (Jvm.Cond.methodLink "GongHouseModel" (187 : Nat) ({ cls := "GongHouseModel", name := "compares", desc := "(ZI)Z" } : Jvm.MethodName)) ∈ q_gw := q_gwm 1472 rfl rfl
set_option maxRecDepth 100000 in
theorem wd_1474 : (Jvm.Cond.instanceMethod ({ cls := "GongHouseModel", name := "compares", desc := "(ZI)Z" } : Jvm.MethodName)) ∈ q_gw := q_gwm 1474 rfl rfl
set_option maxRecDepth 100000 in
theorem wd_1475 : (Jvm.Cond.code ({ cls := "GongHouseModel", name := "compares", desc := "(ZI)Z" } : Jvm.MethodName) prog_14_method_20_code (6 : Nat) (Option.some Jvm.ClassFile.FieldType.boolean)) ∈ q_gw := q_gwm 1475 rfl rfl
set_option maxRecDepth 100000 in
theorem wd_1476 : (Jvm.Cond.methodLink "GongHouseModel" (157 : Nat) ({ cls := "GongHouseModel", name := "sum", desc := "()I" } : Jvm.MethodName)) ∈ q_gw := q_gwm 1476 rfl rfl
set_option maxRecDepth 100000 in
theorem wd_1478 : (Jvm.Cond.instanceMethod ({ cls := "GongHouseModel", name := "sum", desc := "()I" } : Jvm.MethodName)) ∈ q_gw := q_gwm 1478 rfl rfl
set_option maxRecDepth 100000 in
theorem wd_1479 : (Jvm.Cond.code ({ cls := "GongHouseModel", name := "sum", desc := "()I" } : Jvm.MethodName) prog_14_method_18_code (5 : Nat) (Option.some Jvm.ClassFile.FieldType.int)) ∈ q_gw := q_gwm 1479 rfl rfl
set_option maxRecDepth 100000 in
theorem wd_1480 : (Jvm.Cond.methodLink "GongHouseModel" (174 : Nat) ({ cls := "GongHouseModel", name := "term", desc := "()I" } : Jvm.MethodName)) ∈ q_gw := q_gwm 1480 rfl rfl
set_option maxRecDepth 100000 in
theorem wd_1482 : (Jvm.Cond.instanceMethod ({ cls := "GongHouseModel", name := "term", desc := "()I" } : Jvm.MethodName)) ∈ q_gw := q_gwm 1482 rfl rfl
set_option maxRecDepth 100000 in
theorem wd_1483 : (Jvm.Cond.code ({ cls := "GongHouseModel", name := "term", desc := "()I" } : Jvm.MethodName) prog_14_method_17_code (5 : Nat) (Option.some Jvm.ClassFile.FieldType.int)) ∈ q_gw := q_gwm 1483 rfl rfl
set_option maxRecDepth 100000 in
theorem wd_1484 : (Jvm.Cond.methodLink "GongHouseModel" (167 : Nat) ({ cls := "GongHouseModel", name := "atom", desc := "()I" } : Jvm.MethodName)) ∈ q_gw := q_gwm 1484 rfl rfl
set_option maxRecDepth 100000 in
theorem wd_1486 : (Jvm.Cond.instanceMethod ({ cls := "GongHouseModel", name := "atom", desc := "()I" } : Jvm.MethodName)) ∈ q_gw := q_gwm 1486 rfl rfl
set_option maxRecDepth 100000 in
theorem wd_1487 : (Jvm.Cond.code ({ cls := "GongHouseModel", name := "atom", desc := "()I" } : Jvm.MethodName) prog_14_method_16_code (4 : Nat) (Option.some Jvm.ClassFile.FieldType.int)) ∈ q_gw := q_gwm 1487 rfl rfl
set_option maxRecDepth 100000 in
theorem wd_1488 : (Jvm.Cond.methodLink "GongHouseModel" (154 : Nat) ({ cls := "GongHouseModel", name := "goesIn", desc := "()Z" } : Jvm.MethodName)) ∈ q_gw := q_gwm 1488 rfl rfl
set_option maxRecDepth 100000 in
theorem wd_1490 : (Jvm.Cond.instanceMethod ({ cls := "GongHouseModel", name := "goesIn", desc := "()Z" } : Jvm.MethodName)) ∈ q_gw := q_gwm 1490 rfl rfl
set_option maxRecDepth 100000 in
theorem wd_1491 : (Jvm.Cond.code ({ cls := "GongHouseModel", name := "goesIn", desc := "()Z" } : Jvm.MethodName) prog_14_method_12_code (1 : Nat) (Option.some Jvm.ClassFile.FieldType.boolean)) ∈ q_gw := q_gwm 1491 rfl rfl
set_option maxRecDepth 100000 in
theorem wd_1492 : (Jvm.Cond.methodLink "GongHouseModel" (170 : Nat) ({ cls := "GongHouseModel", name := "within", desc := "(J)I" } : Jvm.MethodName)) ∈ q_gw := q_gwm 1492 rfl rfl
set_option maxRecDepth 100000 in
theorem wd_1493 : (Jvm.Cond.static ({ cls := "GongHouseModel", name := "within", desc := "(J)I" } : Jvm.MethodName)) ∈ q_gw := q_gwm 1493 rfl rfl
set_option maxRecDepth 100000 in
theorem wd_1494 : (Jvm.Cond.code ({ cls := "GongHouseModel", name := "within", desc := "(J)I" } : Jvm.MethodName) prog_14_method_15_code (2 : Nat) (Option.some Jvm.ClassFile.FieldType.int)) ∈ q_gw := q_gwm 1494 rfl rfl
set_option maxRecDepth 100000 in
theorem wd_1495 : (Jvm.Cond.constantLong "GongHouseModel" (137 : Nat) (-1000000 : Int64)) ∈ q_gw := q_gwm 1495 rfl rfl
set_option maxRecDepth 100000 in
theorem wd_1496 : (Jvm.Cond.constantLong "GongHouseModel" (139 : Nat) (1000000 : Int64)) ∈ q_gw := q_gwm 1496 rfl rfl
set_option maxRecDepth 100000 in
theorem wd_1497 : (Jvm.Cond.methodLink "GongHouseModel" (141 : Nat) ({ cls := "java/lang/Math", name := "min", desc := "(JJ)J" } : Jvm.MethodName)) ∈ q_gw := q_gwm 1497 rfl rfl
set_option maxRecDepth 100000 in
theorem wd_1498 : (Jvm.Cond.static ({ cls := "java/lang/Math", name := "min", desc := "(JJ)J" } : Jvm.MethodName)) ∈ q_gw := q_gwm 1498 rfl rfl
set_option maxRecDepth 100000 in
theorem wd_1499 : (Jvm.Cond.code ({ cls := "java/lang/Math", name := "min", desc := "(JJ)J" } : Jvm.MethodName) prog_22_method_70_code (4 : Nat) (Option.some Jvm.ClassFile.FieldType.long)) ∈ q_gw := q_gwm 1499 rfl rfl
set_option maxRecDepth 100000 in
theorem wd_1500 : (Jvm.Cond.methodLink "GongHouseModel" (147 : Nat) ({ cls := "java/lang/Math", name := "max", desc := "(JJ)J" } : Jvm.MethodName)) ∈ q_gw := q_gwm 1500 rfl rfl
set_option maxRecDepth 100000 in
theorem wd_1501 : (Jvm.Cond.static ({ cls := "java/lang/Math", name := "max", desc := "(JJ)J" } : Jvm.MethodName)) ∈ q_gw := q_gwm 1501 rfl rfl
set_option maxRecDepth 100000 in
theorem wd_1502 : (Jvm.Cond.code ({ cls := "java/lang/Math", name := "max", desc := "(JJ)J" } : Jvm.MethodName) prog_22_method_66_code (4 : Nat) (Option.some Jvm.ClassFile.FieldType.long)) ∈ q_gw := q_gwm 1502 rfl rfl
set_option maxRecDepth 100000 in
theorem wd_1503 : (Jvm.Cond.methodLink "GongHouseModel" (177 : Nat) ({ cls := "GongHouseModel", name := "isSign", desc := "(I)Z" } : Jvm.MethodName)) ∈ q_gw := q_gwm 1503 rfl rfl
set_option maxRecDepth 100000 in
theorem wd_1504 : (Jvm.Cond.static ({ cls := "GongHouseModel", name := "isSign", desc := "(I)Z" } : Jvm.MethodName)) ∈ q_gw := q_gwm 1504 rfl rfl
set_option maxRecDepth 100000 in
theorem wd_1505 : (Jvm.Cond.code ({ cls := "GongHouseModel", name := "isSign", desc := "(I)Z" } : Jvm.MethodName) prog_14_method_19_code (1 : Nat) (Option.some Jvm.ClassFile.FieldType.boolean)) ∈ q_gw := q_gwm 1505 rfl rfl
set_option maxRecDepth 100000 in
theorem wd_1506 : (Jvm.Cond.methodLink "GongHouseModel" (180 : Nat) ({ cls := "GongHouseModel", name := "unit", desc := "()Z" } : Jvm.MethodName)) ∈ q_gw := q_gwm 1506 rfl rfl
set_option maxRecDepth 100000 in
theorem wd_1508 : (Jvm.Cond.instanceMethod ({ cls := "GongHouseModel", name := "unit", desc := "()Z" } : Jvm.MethodName)) ∈ q_gw := q_gwm 1508 rfl rfl
set_option maxRecDepth 100000 in
theorem wd_1509 : (Jvm.Cond.code ({ cls := "GongHouseModel", name := "unit", desc := "()Z" } : Jvm.MethodName) prog_14_method_21_code (3 : Nat) (Option.some Jvm.ClassFile.FieldType.boolean)) ∈ q_gw := q_gwm 1509 rfl rfl
set_option maxRecDepth 100000 in
theorem wd_1510 : (Jvm.Cond.methodLink "GongHouseModel" (273 : Nat) ({ cls := "GongHouseModel", name := "readWeek", desc := "()V" } : Jvm.MethodName)) ∈ q_gw := q_gwm 1510 rfl rfl
set_option maxRecDepth 100000 in
theorem wd_1512 : (Jvm.Cond.instanceMethod ({ cls := "GongHouseModel", name := "readWeek", desc := "()V" } : Jvm.MethodName)) ∈ q_gw := q_gwm 1512 rfl rfl
set_option maxRecDepth 100000 in
theorem wd_1513 : (Jvm.Cond.code ({ cls := "GongHouseModel", name := "readWeek", desc := "()V" } : Jvm.MethodName) prog_14_method_37_code (3 : Nat) (Option.none : Option Jvm.ClassFile.FieldType)) ∈ q_gw := q_gwm 1513 rfl rfl
set_option maxRecDepth 100000 in
theorem wd_1514 : (Jvm.Cond.methodLink "GongHouseModel" (262 : Nat) ({ cls := "GongHouseModel", name := "readStep", desc := "(I)V" } : Jvm.MethodName)) ∈ q_gw := q_gwm 1514 rfl rfl
set_option maxRecDepth 100000 in
theorem wd_1516 : (Jvm.Cond.instanceMethod ({ cls := "GongHouseModel", name := "readStep", desc := "(I)V" } : Jvm.MethodName)) ∈ q_gw := q_gwm 1516 rfl rfl
set_option maxRecDepth 100000 in
theorem wd_1517 : (Jvm.Cond.code ({ cls := "GongHouseModel", name := "readStep", desc := "(I)V" } : Jvm.MethodName) prog_14_method_36_code (3 : Nat) (Option.none : Option Jvm.ClassFile.FieldType)) ∈ q_gw := q_gwm 1517 rfl rfl
set_option maxRecDepth 100000 in
theorem wd_1519 : (Jvm.Cond.methodLink "GongHouseModel" (259 : Nat) ({ cls := "GongHouseModel", name := "digit", desc := "()I" } : Jvm.MethodName)) ∈ q_gw := q_gwm 1519 rfl rfl
set_option maxRecDepth 100000 in
theorem wd_1521 : (Jvm.Cond.instanceMethod ({ cls := "GongHouseModel", name := "digit", desc := "()I" } : Jvm.MethodName)) ∈ q_gw := q_gwm 1521 rfl rfl
set_option maxRecDepth 100000 in
theorem wd_1522 : (Jvm.Cond.code ({ cls := "GongHouseModel", name := "digit", desc := "()I" } : Jvm.MethodName) prog_14_method_35_code (2 : Nat) (Option.some Jvm.ClassFile.FieldType.int)) ∈ q_gw := q_gwm 1522 rfl rfl
set_option maxRecDepth 100000 in
theorem wd_1523 : (Jvm.Cond.methodLink "GongHouseLaw" (37 : Nat) ({ cls := "GongHouseModel", name := "text", desc := "(I)I" } : Jvm.MethodName)) ∈ q_gw := q_gwm 1523 rfl rfl
set_option maxRecDepth 100000 in
theorem wd_1524 : (Jvm.Cond.instanceMethod ({ cls := "GongHouseModel", name := "text", desc := "(I)I" } : Jvm.MethodName)) ∈ q_gw := q_gwm 1524 rfl rfl
set_option maxRecDepth 100000 in
theorem wd_1525 : (Jvm.Cond.selects "GongHouseModel" ({ cls := "GongHouseModel", name := "text", desc := "(I)I" } : Jvm.MethodName) ({ cls := "GongHouseModel", name := "text", desc := "(I)I" } : Jvm.MethodName)) ∈ q_gw := q_gwm 1525 rfl rfl
set_option maxRecDepth 100000 in
theorem wd_1526 : (Jvm.Cond.code ({ cls := "GongHouseModel", name := "text", desc := "(I)I" } : Jvm.MethodName) prog_14_method_39_code (4 : Nat) (Option.some Jvm.ClassFile.FieldType.int)) ∈ q_gw := q_gwm 1526 rfl rfl
set_option maxRecDepth 100000 in
theorem wd_1527 : (Jvm.Cond.methodLink "GongHouseModel" (282 : Nat) ({ cls := "GongHouseModel", name := "fault", desc := "(I)I" } : Jvm.MethodName)) ∈ q_gw := q_gwm 1527 rfl rfl
set_option maxRecDepth 100000 in
theorem wd_1528 : (Jvm.Cond.methodLink "GongHouseLaw" (41 : Nat) ({ cls := "GongHouseModel", name := "rule", desc := "(I)I" } : Jvm.MethodName)) ∈ q_gw := q_gwm 1528 rfl rfl
set_option maxRecDepth 100000 in
theorem wd_1529 : (Jvm.Cond.instanceMethod ({ cls := "GongHouseModel", name := "rule", desc := "(I)I" } : Jvm.MethodName)) ∈ q_gw := q_gwm 1529 rfl rfl
set_option maxRecDepth 100000 in
theorem wd_1530 : (Jvm.Cond.selects "GongHouseModel" ({ cls := "GongHouseModel", name := "rule", desc := "(I)I" } : Jvm.MethodName) ({ cls := "GongHouseModel", name := "rule", desc := "(I)I" } : Jvm.MethodName)) ∈ q_gw := q_gwm 1530 rfl rfl
set_option maxRecDepth 100000 in
theorem wd_1531 : (Jvm.Cond.code ({ cls := "GongHouseModel", name := "rule", desc := "(I)I" } : Jvm.MethodName) prog_14_method_55_code (2 : Nat) (Option.some Jvm.ClassFile.FieldType.int)) ∈ q_gw := q_gwm 1531 rfl rfl
set_option maxRecDepth 100000 in
theorem wd_1532 : (Jvm.Cond.methodLink "GongHouseLaw" (45 : Nat) ({ cls := "GongHouseModel", name := "dish", desc := "(II)I" } : Jvm.MethodName)) ∈ q_gw := q_gwm 1532 rfl rfl
set_option maxRecDepth 100000 in
theorem wd_1533 : (Jvm.Cond.instanceMethod ({ cls := "GongHouseModel", name := "dish", desc := "(II)I" } : Jvm.MethodName)) ∈ q_gw := q_gwm 1533 rfl rfl
set_option maxRecDepth 100000 in
theorem wd_1534 : (Jvm.Cond.selects "GongHouseModel" ({ cls := "GongHouseModel", name := "dish", desc := "(II)I" } : Jvm.MethodName) ({ cls := "GongHouseModel", name := "dish", desc := "(II)I" } : Jvm.MethodName)) ∈ q_gw := q_gwm 1534 rfl rfl
set_option maxRecDepth 100000 in
theorem wd_1535 : (Jvm.Cond.code ({ cls := "GongHouseModel", name := "dish", desc := "(II)I" } : Jvm.MethodName) prog_14_method_56_code (3 : Nat) (Option.some Jvm.ClassFile.FieldType.int)) ∈ q_gw := q_gwm 1535 rfl rfl
set_option maxRecDepth 100000 in
theorem wd_1536 : (Jvm.Cond.methodLink "GongHouseModel" (357 : Nat) ({ cls := "GongHouseModel", name := "isDish", desc := "(I)Z" } : Jvm.MethodName)) ∈ q_gw := q_gwm 1536 rfl rfl
set_option maxRecDepth 100000 in
theorem wd_1538 : (Jvm.Cond.instanceMethod ({ cls := "GongHouseModel", name := "isDish", desc := "(I)Z" } : Jvm.MethodName)) ∈ q_gw := q_gwm 1538 rfl rfl
set_option maxRecDepth 100000 in
theorem wd_1539 : (Jvm.Cond.code ({ cls := "GongHouseModel", name := "isDish", desc := "(I)Z" } : Jvm.MethodName) prog_14_method_41_code (2 : Nat) (Option.some Jvm.ClassFile.FieldType.boolean)) ∈ q_gw := q_gwm 1539 rfl rfl
set_option maxRecDepth 100000 in
theorem wd_1540 : (Jvm.Cond.methodLink "GongHouseLaw" (51 : Nat) ({ cls := "GongHouseModel", name := "guest", desc := "(II)I" } : Jvm.MethodName)) ∈ q_gw := q_gwm 1540 rfl rfl
set_option maxRecDepth 100000 in
theorem wd_1541 : (Jvm.Cond.instanceMethod ({ cls := "GongHouseModel", name := "guest", desc := "(II)I" } : Jvm.MethodName)) ∈ q_gw := q_gwm 1541 rfl rfl
set_option maxRecDepth 100000 in
theorem wd_1542 : (Jvm.Cond.selects "GongHouseModel" ({ cls := "GongHouseModel", name := "guest", desc := "(II)I" } : Jvm.MethodName) ({ cls := "GongHouseModel", name := "guest", desc := "(II)I" } : Jvm.MethodName)) ∈ q_gw := q_gwm 1542 rfl rfl
set_option maxRecDepth 100000 in
theorem wd_1543 : (Jvm.Cond.code ({ cls := "GongHouseModel", name := "guest", desc := "(II)I" } : Jvm.MethodName) prog_14_method_57_code (3 : Nat) (Option.some Jvm.ClassFile.FieldType.int)) ∈ q_gw := q_gwm 1543 rfl rfl
set_option maxRecDepth 100000 in
theorem wd_1544 : (Jvm.Cond.methodLink "GongHouseModel" (360 : Nat) ({ cls := "GongHouseModel", name := "isGuest", desc := "(I)Z" } : Jvm.MethodName)) ∈ q_gw := q_gwm 1544 rfl rfl
set_option maxRecDepth 100000 in
theorem wd_1546 : (Jvm.Cond.instanceMethod ({ cls := "GongHouseModel", name := "isGuest", desc := "(I)Z" } : Jvm.MethodName)) ∈ q_gw := q_gwm 1546 rfl rfl
set_option maxRecDepth 100000 in
theorem wd_1547 : (Jvm.Cond.code ({ cls := "GongHouseModel", name := "isGuest", desc := "(I)Z" } : Jvm.MethodName) prog_14_method_42_code (2 : Nat) (Option.some Jvm.ClassFile.FieldType.boolean)) ∈ q_gw := q_gwm 1547 rfl rfl
set_option maxRecDepth 100000 in
theorem wd_1548 : (Jvm.Cond.constantLong "GongHouseModel" (363 : Nat) (5 : Int64)) ∈ q_gw := q_gwm 1548 rfl rfl
set_option maxRecDepth 100000 in
theorem wd_1549 : (Jvm.Cond.methodLink "GongHouseModel" (299 : Nat) ({ cls := "GongHouseModel", name := "comes", desc := "(I)I" } : Jvm.MethodName)) ∈ q_gw := q_gwm 1549 rfl rfl
set_option maxRecDepth 100000 in
theorem wd_1551 : (Jvm.Cond.instanceMethod ({ cls := "GongHouseModel", name := "comes", desc := "(I)I" } : Jvm.MethodName)) ∈ q_gw := q_gwm 1551 rfl rfl
set_option maxRecDepth 100000 in
theorem wd_1552 : (Jvm.Cond.code ({ cls := "GongHouseModel", name := "comes", desc := "(I)I" } : Jvm.MethodName) prog_14_method_43_code (2 : Nat) (Option.some Jvm.ClassFile.FieldType.int)) ∈ q_gw := q_gwm 1552 rfl rfl
set_option maxRecDepth 100000 in
theorem wd_1553 : (Jvm.Cond.methodLink "GongHouseModel" (306 : Nat) ({ cls := "GongHouseModel", name := "pays", desc := "(I)I" } : Jvm.MethodName)) ∈ q_gw := q_gwm 1553 rfl rfl
set_option maxRecDepth 100000 in
theorem wd_1555 : (Jvm.Cond.instanceMethod ({ cls := "GongHouseModel", name := "pays", desc := "(I)I" } : Jvm.MethodName)) ∈ q_gw := q_gwm 1555 rfl rfl
set_option maxRecDepth 100000 in
theorem wd_1556 : (Jvm.Cond.code ({ cls := "GongHouseModel", name := "pays", desc := "(I)I" } : Jvm.MethodName) prog_14_method_44_code (2 : Nat) (Option.some Jvm.ClassFile.FieldType.int)) ∈ q_gw := q_gwm 1556 rfl rfl
set_option maxRecDepth 100000 in
theorem wd_1557 : (Jvm.Cond.methodLink "GongHouseLaw" (59 : Nat) ({ cls := "GongHouseModel", name := "law", desc := "(I)Z" } : Jvm.MethodName)) ∈ q_gw := q_gwm 1557 rfl rfl
set_option maxRecDepth 100000 in
theorem wd_1558 : (Jvm.Cond.instanceMethod ({ cls := "GongHouseModel", name := "law", desc := "(I)Z" } : Jvm.MethodName)) ∈ q_gw := q_gwm 1558 rfl rfl
set_option maxRecDepth 100000 in
theorem wd_1559 : (Jvm.Cond.selects "GongHouseModel" ({ cls := "GongHouseModel", name := "law", desc := "(I)Z" } : Jvm.MethodName) ({ cls := "GongHouseModel", name := "law", desc := "(I)Z" } : Jvm.MethodName)) ∈ q_gw := q_gwm 1559 rfl rfl
set_option maxRecDepth 100000 in
theorem wd_1560 : (Jvm.Cond.code ({ cls := "GongHouseModel", name := "law", desc := "(I)Z" } : Jvm.MethodName) prog_14_method_58_code (2 : Nat) (Option.some Jvm.ClassFile.FieldType.boolean)) ∈ q_gw := q_gwm 1560 rfl rfl
set_option maxRecDepth 100000 in
theorem wd_1561 : (Jvm.Cond.methodLink "GongHouseLaw" (63 : Nat) ({ cls := "GongHouseModel", name := "fever", desc := "(I)Z" } : Jvm.MethodName)) ∈ q_gw := q_gwm 1561 rfl rfl
set_option maxRecDepth 100000 in
theorem wd_1562 : (Jvm.Cond.instanceMethod ({ cls := "GongHouseModel", name := "fever", desc := "(I)Z" } : Jvm.MethodName)) ∈ q_gw := q_gwm 1562 rfl rfl
set_option maxRecDepth 100000 in
theorem wd_1563 : (Jvm.Cond.selects "GongHouseModel" ({ cls := "GongHouseModel", name := "fever", desc := "(I)Z" } : Jvm.MethodName) ({ cls := "GongHouseModel", name := "fever", desc := "(I)Z" } : Jvm.MethodName)) ∈ q_gw := q_gwm 1563 rfl rfl
set_option maxRecDepth 100000 in
theorem wd_1564 : (Jvm.Cond.code ({ cls := "GongHouseModel", name := "fever", desc := "(I)Z" } : Jvm.MethodName) prog_14_method_59_code (2 : Nat) (Option.some Jvm.ClassFile.FieldType.boolean)) ∈ q_gw := q_gwm 1564 rfl rfl
set_option maxRecDepth 100000 in
theorem wd_1565 : (Jvm.Cond.constantLong "GongHouseModel" (365 : Nat) (9 : Int64)) ∈ q_gw := q_gwm 1565 rfl rfl
set_option maxRecDepth 100000 in
theorem wd_1566 : (Jvm.Cond.methodLink "GongHouseLaw" (67 : Nat) ({ cls := "GongHouseModel", name := "day", desc := "()I" } : Jvm.MethodName)) ∈ q_gw := q_gwm 1566 rfl rfl
set_option maxRecDepth 100000 in
theorem wd_1567 : (Jvm.Cond.instanceMethod ({ cls := "GongHouseModel", name := "day", desc := "()I" } : Jvm.MethodName)) ∈ q_gw := q_gwm 1567 rfl rfl
set_option maxRecDepth 100000 in
theorem wd_1568 : (Jvm.Cond.selects "GongHouseModel" ({ cls := "GongHouseModel", name := "day", desc := "()I" } : Jvm.MethodName) ({ cls := "GongHouseModel", name := "day", desc := "()I" } : Jvm.MethodName)) ∈ q_gw := q_gwm 1568 rfl rfl
set_option maxRecDepth 100000 in
theorem wd_1569 : (Jvm.Cond.code ({ cls := "GongHouseModel", name := "day", desc := "()I" } : Jvm.MethodName) prog_14_method_61_code (1 : Nat) (Option.some Jvm.ClassFile.FieldType.int)) ∈ q_gw := q_gwm 1569 rfl rfl
set_option maxRecDepth 100000 in
theorem wd_1570 : (Jvm.Cond.methodLink "GongHouseModel" (367 : Nat) ({ cls := "GongHouseModel", name := "remember", desc := "()V" } : Jvm.MethodName)) ∈ q_gw := q_gwm 1570 rfl rfl
set_option maxRecDepth 100000 in
theorem wd_1572 : (Jvm.Cond.instanceMethod ({ cls := "GongHouseModel", name := "remember", desc := "()V" } : Jvm.MethodName)) ∈ q_gw := q_gwm 1572 rfl rfl
set_option maxRecDepth 100000 in
theorem wd_1573 : (Jvm.Cond.code ({ cls := "GongHouseModel", name := "remember", desc := "()V" } : Jvm.MethodName) prog_14_method_60_code (2 : Nat) (Option.none : Option Jvm.ClassFile.FieldType)) ∈ q_gw := q_gwm 1573 rfl rfl
set_option maxRecDepth 100000 in
theorem wd_1574 : (Jvm.Cond.methodLink "GongHouseModel" (370 : Nat) ({ cls := "GongHouseModel", name := "goDay", desc := "([I)I" } : Jvm.MethodName)) ∈ q_gw := q_gwm 1574 rfl rfl
set_option maxRecDepth 100000 in
theorem wd_1576 : (Jvm.Cond.instanceMethod ({ cls := "GongHouseModel", name := "goDay", desc := "([I)I" } : Jvm.MethodName)) ∈ q_gw := q_gwm 1576 rfl rfl
set_option maxRecDepth 100000 in
theorem wd_1577 : (Jvm.Cond.code ({ cls := "GongHouseModel", name := "goDay", desc := "([I)I" } : Jvm.MethodName) prog_14_method_54_code (6 : Nat) (Option.some Jvm.ClassFile.FieldType.int)) ∈ q_gw := q_gwm 1577 rfl rfl
set_option maxRecDepth 100000 in
theorem wd_1578 : (Jvm.Cond.methodLink "GongHouseModel" (326 : Nat) ({ cls := "GongHouseModel", name := "thereBits", desc := "([I)I" } : Jvm.MethodName)) ∈ q_gw := q_gwm 1578 rfl rfl
set_option maxRecDepth 100000 in
theorem wd_1580 : (Jvm.Cond.instanceMethod ({ cls := "GongHouseModel", name := "thereBits", desc := "([I)I" } : Jvm.MethodName)) ∈ q_gw := q_gwm 1580 rfl rfl
set_option maxRecDepth 100000 in
theorem wd_1581 : (Jvm.Cond.code ({ cls := "GongHouseModel", name := "thereBits", desc := "([I)I" } : Jvm.MethodName) prog_14_method_47_code (4 : Nat) (Option.some Jvm.ClassFile.FieldType.int)) ∈ q_gw := q_gwm 1581 rfl rfl
set_option maxRecDepth 100000 in
theorem wd_1582 : (Jvm.Cond.methodLink "GongHouseModel" (302 : Nat) ({ cls := "GongHouseModel", name := "isThere", desc := "([II)Z" } : Jvm.MethodName)) ∈ q_gw := q_gwm 1582 rfl rfl
set_option maxRecDepth 100000 in
theorem wd_1584 : (Jvm.Cond.instanceMethod ({ cls := "GongHouseModel", name := "isThere", desc := "([II)Z" } : Jvm.MethodName)) ∈ q_gw := q_gwm 1584 rfl rfl
set_option maxRecDepth 100000 in
theorem wd_1585 : (Jvm.Cond.code ({ cls := "GongHouseModel", name := "isThere", desc := "([II)Z" } : Jvm.MethodName) prog_14_method_46_code (3 : Nat) (Option.some Jvm.ClassFile.FieldType.boolean)) ∈ q_gw := q_gwm 1585 rfl rfl
set_option maxRecDepth 100000 in
theorem wd_1586 : (Jvm.Cond.methodLink "GongHouseModel" (341 : Nat) ({ cls := "GongHouseModel", name := "goTable", desc := "([I)V" } : Jvm.MethodName)) ∈ q_gw := q_gwm 1586 rfl rfl
set_option maxRecDepth 100000 in
theorem wd_1588 : (Jvm.Cond.instanceMethod ({ cls := "GongHouseModel", name := "goTable", desc := "([I)V" } : Jvm.MethodName)) ∈ q_gw := q_gwm 1588 rfl rfl
set_option maxRecDepth 100000 in
theorem wd_1589 : (Jvm.Cond.code ({ cls := "GongHouseModel", name := "goTable", desc := "([I)V" } : Jvm.MethodName) prog_14_method_51_code (8 : Nat) (Option.none : Option Jvm.ClassFile.FieldType)) ∈ q_gw := q_gwm 1589 rfl rfl
set_option maxRecDepth 100000 in
theorem wd_1590 : (Jvm.Cond.methodLink "GongHouseModel" (322 : Nat) ({ cls := "GongHouseModel", name := "cooks", desc := "([I)I" } : Jvm.MethodName)) ∈ q_gw := q_gwm 1590 rfl rfl
set_option maxRecDepth 100000 in
theorem wd_1592 : (Jvm.Cond.instanceMethod ({ cls := "GongHouseModel", name := "cooks", desc := "([I)I" } : Jvm.MethodName)) ∈ q_gw := q_gwm 1592 rfl rfl
set_option maxRecDepth 100000 in
theorem wd_1593 : (Jvm.Cond.code ({ cls := "GongHouseModel", name := "cooks", desc := "([I)I" } : Jvm.MethodName) prog_14_method_49_code (2 : Nat) (Option.some Jvm.ClassFile.FieldType.int)) ∈ q_gw := q_gwm 1593 rfl rfl
set_option maxRecDepth 100000 in
theorem wd_1594 : (Jvm.Cond.methodLink "GongHouseModel" (329 : Nat) ({ cls := "java/lang/Integer", name := "bitCount", desc := "(I)I" } : Jvm.MethodName)) ∈ q_gw := q_gwm 1594 rfl rfl
set_option maxRecDepth 100000 in
theorem wd_1595 : (Jvm.Cond.methodLink "GongHouseModel" (334 : Nat) ({ cls := "GongHouseModel", name := "serves", desc := "([I)V" } : Jvm.MethodName)) ∈ q_gw := q_gwm 1595 rfl rfl
set_option maxRecDepth 100000 in
theorem wd_1597 : (Jvm.Cond.instanceMethod ({ cls := "GongHouseModel", name := "serves", desc := "([I)V" } : Jvm.MethodName)) ∈ q_gw := q_gwm 1597 rfl rfl
set_option maxRecDepth 100000 in
theorem wd_1598 : (Jvm.Cond.code ({ cls := "GongHouseModel", name := "serves", desc := "([I)V" } : Jvm.MethodName) prog_14_method_50_code (4 : Nat) (Option.none : Option Jvm.ClassFile.FieldType)) ∈ q_gw := q_gwm 1598 rfl rfl
set_option maxRecDepth 100000 in
theorem wd_1599 : (Jvm.Cond.methodLink "GongHouseModel" (311 : Nat) ({ cls := "java/lang/Math", name := "max", desc := "(II)I" } : Jvm.MethodName)) ∈ q_gw := q_gwm 1599 rfl rfl
set_option maxRecDepth 100000 in
theorem wd_1600 : (Jvm.Cond.methodLink "GongHouseModel" (344 : Nat) ({ cls := "GongHouseModel", name := "kindOf", desc := "(I)I" } : Jvm.MethodName)) ∈ q_gw := q_gwm 1600 rfl rfl
set_option maxRecDepth 100000 in
theorem wd_1602 : (Jvm.Cond.instanceMethod ({ cls := "GongHouseModel", name := "kindOf", desc := "(I)I" } : Jvm.MethodName)) ∈ q_gw := q_gwm 1602 rfl rfl
set_option maxRecDepth 100000 in
theorem wd_1603 : (Jvm.Cond.code ({ cls := "GongHouseModel", name := "kindOf", desc := "(I)I" } : Jvm.MethodName) prog_14_method_45_code (2 : Nat) (Option.some Jvm.ClassFile.FieldType.int)) ∈ q_gw := q_gwm 1603 rfl rfl
set_option maxRecDepth 100000 in
theorem wd_1604 : (Jvm.Cond.methodLink "GongHouseModel" (347 : Nat) ({ cls := "GongHouseModel", name := "joyOf", desc := "(IIZIII)I" } : Jvm.MethodName)) ∈ q_gw := q_gwm 1604 rfl rfl
set_option maxRecDepth 100000 in
theorem wd_1606 : (Jvm.Cond.instanceMethod ({ cls := "GongHouseModel", name := "joyOf", desc := "(IIZIII)I" } : Jvm.MethodName)) ∈ q_gw := q_gwm 1606 rfl rfl
set_option maxRecDepth 100000 in
theorem wd_1607 : (Jvm.Cond.code ({ cls := "GongHouseModel", name := "joyOf", desc := "(IIZIII)I" } : Jvm.MethodName) prog_14_method_48_code (8 : Nat) (Option.some Jvm.ClassFile.FieldType.int)) ∈ q_gw := q_gwm 1607 rfl rfl
set_option maxRecDepth 100000 in
theorem wd_1608 : (Jvm.Cond.methodLink "GongHouseModel" (309 : Nat) ({ cls := "java/lang/Math", name := "min", desc := "(II)I" } : Jvm.MethodName)) ∈ q_gw := q_gwm 1608 rfl rfl
set_option maxRecDepth 100000 in
theorem wd_1609 : (Jvm.Cond.methodLink "GongHouseModel" (351 : Nat) ({ cls := "GongHouseModel", name := "fedBits", desc := "()I" } : Jvm.MethodName)) ∈ q_gw := q_gwm 1609 rfl rfl
set_option maxRecDepth 100000 in
theorem wd_1611 : (Jvm.Cond.instanceMethod ({ cls := "GongHouseModel", name := "fedBits", desc := "()I" } : Jvm.MethodName)) ∈ q_gw := q_gwm 1611 rfl rfl
set_option maxRecDepth 100000 in
theorem wd_1612 : (Jvm.Cond.code ({ cls := "GongHouseModel", name := "fedBits", desc := "()I" } : Jvm.MethodName) prog_14_method_52_code (3 : Nat) (Option.some Jvm.ClassFile.FieldType.int)) ∈ q_gw := q_gwm 1612 rfl rfl
set_option maxRecDepth 100000 in
theorem wd_1613 : (Jvm.Cond.methodLink "GongHouseModel" (354 : Nat) ({ cls := "GongHouseModel", name := "joys", desc := "([I)I" } : Jvm.MethodName)) ∈ q_gw := q_gwm 1613 rfl rfl
set_option maxRecDepth 100000 in
theorem wd_1615 : (Jvm.Cond.instanceMethod ({ cls := "GongHouseModel", name := "joys", desc := "([I)I" } : Jvm.MethodName)) ∈ q_gw := q_gwm 1615 rfl rfl
set_option maxRecDepth 100000 in
theorem wd_1616 : (Jvm.Cond.code ({ cls := "GongHouseModel", name := "joys", desc := "([I)I" } : Jvm.MethodName) prog_14_method_53_code (4 : Nat) (Option.some Jvm.ClassFile.FieldType.int)) ∈ q_gw := q_gwm 1616 rfl rfl
set_option maxRecDepth 100000 in
theorem wd_1617 : (Jvm.Cond.methodLink "GongHouseLaw" (71 : Nat) ({ cls := "GongHouseModel", name := "choose", desc := "(I)I" } : Jvm.MethodName)) ∈ q_gw := q_gwm 1617 rfl rfl
set_option maxRecDepth 100000 in
theorem wd_1618 : (Jvm.Cond.instanceMethod ({ cls := "GongHouseModel", name := "choose", desc := "(I)I" } : Jvm.MethodName)) ∈ q_gw := q_gwm 1618 rfl rfl
set_option maxRecDepth 100000 in
theorem wd_1619 : (Jvm.Cond.selects "GongHouseModel" ({ cls := "GongHouseModel", name := "choose", desc := "(I)I" } : Jvm.MethodName) ({ cls := "GongHouseModel", name := "choose", desc := "(I)I" } : Jvm.MethodName)) ∈ q_gw := q_gwm 1619 rfl rfl
set_option maxRecDepth 100000 in
theorem wd_1620 : (Jvm.Cond.code ({ cls := "GongHouseModel", name := "choose", desc := "(I)I" } : Jvm.MethodName) prog_14_method_63_code (3 : Nat) (Option.some Jvm.ClassFile.FieldType.int)) ∈ q_gw := q_gwm 1620 rfl rfl
set_option maxRecDepth 100000 in
theorem wd_1621 : (Jvm.Cond.methodLink "GongHouseModel" (373 : Nat) ({ cls := "GongHouseModel", name := "canChoose", desc := "([II)Z" } : Jvm.MethodName)) ∈ q_gw := q_gwm 1621 rfl rfl
set_option maxRecDepth 100000 in
theorem wd_1623 : (Jvm.Cond.instanceMethod ({ cls := "GongHouseModel", name := "canChoose", desc := "([II)Z" } : Jvm.MethodName)) ∈ q_gw := q_gwm 1623 rfl rfl
set_option maxRecDepth 100000 in
theorem wd_1624 : (Jvm.Cond.code ({ cls := "GongHouseModel", name := "canChoose", desc := "([II)Z" } : Jvm.MethodName) prog_14_method_62_code (3 : Nat) (Option.some Jvm.ClassFile.FieldType.boolean)) ∈ q_gw := q_gwm 1624 rfl rfl
set_option maxRecDepth 100000 in
theorem wd_1625 : (Jvm.Cond.methodLink "GongHouseLaw" (75 : Nat) ({ cls := "GongHouseModel", name := "ill", desc := "()I" } : Jvm.MethodName)) ∈ q_gw := q_gwm 1625 rfl rfl
set_option maxRecDepth 100000 in
theorem wd_1626 : (Jvm.Cond.instanceMethod ({ cls := "GongHouseModel", name := "ill", desc := "()I" } : Jvm.MethodName)) ∈ q_gw := q_gwm 1626 rfl rfl
set_option maxRecDepth 100000 in
theorem wd_1627 : (Jvm.Cond.selects "GongHouseModel" ({ cls := "GongHouseModel", name := "ill", desc := "()I" } : Jvm.MethodName) ({ cls := "GongHouseModel", name := "ill", desc := "()I" } : Jvm.MethodName)) ∈ q_gw := q_gwm 1627 rfl rfl
set_option maxRecDepth 100000 in
theorem wd_1628 : (Jvm.Cond.code ({ cls := "GongHouseModel", name := "ill", desc := "()I" } : Jvm.MethodName) prog_14_method_65_code (1 : Nat) (Option.some Jvm.ClassFile.FieldType.int)) ∈ q_gw := q_gwm 1628 rfl rfl
set_option maxRecDepth 100000 in
theorem wd_1629 : (Jvm.Cond.methodLink "GongHouseModel" (376 : Nat) ({ cls := "GongHouseModel", name := "canBeIll", desc := "([I)Z" } : Jvm.MethodName)) ∈ q_gw := q_gwm 1629 rfl rfl
set_option maxRecDepth 100000 in
theorem wd_1630 : (Jvm.Cond.static ({ cls := "GongHouseModel", name := "canBeIll", desc := "([I)Z" } : Jvm.MethodName)) ∈ q_gw := q_gwm 1630 rfl rfl
set_option maxRecDepth 100000 in
theorem wd_1631 : (Jvm.Cond.code ({ cls := "GongHouseModel", name := "canBeIll", desc := "([I)Z" } : Jvm.MethodName) prog_14_method_64_code (1 : Nat) (Option.some Jvm.ClassFile.FieldType.boolean)) ∈ q_gw := q_gwm 1631 rfl rfl
set_option maxRecDepth 100000 in
theorem wd_1632 : (Jvm.Cond.methodLink "GongHouseLaw" (79 : Nat) ({ cls := "GongHouseModel", name := "makeUp", desc := "()I" } : Jvm.MethodName)) ∈ q_gw := q_gwm 1632 rfl rfl
set_option maxRecDepth 100000 in
theorem wd_1633 : (Jvm.Cond.instanceMethod ({ cls := "GongHouseModel", name := "makeUp", desc := "()I" } : Jvm.MethodName)) ∈ q_gw := q_gwm 1633 rfl rfl
set_option maxRecDepth 100000 in
theorem wd_1634 : (Jvm.Cond.selects "GongHouseModel" ({ cls := "GongHouseModel", name := "makeUp", desc := "()I" } : Jvm.MethodName) ({ cls := "GongHouseModel", name := "makeUp", desc := "()I" } : Jvm.MethodName)) ∈ q_gw := q_gwm 1634 rfl rfl
set_option maxRecDepth 100000 in
theorem wd_1635 : (Jvm.Cond.code ({ cls := "GongHouseModel", name := "makeUp", desc := "()I" } : Jvm.MethodName) prog_14_method_68_code (1 : Nat) (Option.some Jvm.ClassFile.FieldType.int)) ∈ q_gw := q_gwm 1635 rfl rfl
set_option maxRecDepth 100000 in
theorem wd_1636 : (Jvm.Cond.methodLink "GongHouseModel" (380 : Nat) ({ cls := "GongHouseModel", name := "canMakeUp", desc := "([I)Z" } : Jvm.MethodName)) ∈ q_gw := q_gwm 1636 rfl rfl
set_option maxRecDepth 100000 in
theorem wd_1637 : (Jvm.Cond.static ({ cls := "GongHouseModel", name := "canMakeUp", desc := "([I)Z" } : Jvm.MethodName)) ∈ q_gw := q_gwm 1637 rfl rfl
set_option maxRecDepth 100000 in
theorem wd_1638 : (Jvm.Cond.code ({ cls := "GongHouseModel", name := "canMakeUp", desc := "([I)Z" } : Jvm.MethodName) prog_14_method_66_code (1 : Nat) (Option.some Jvm.ClassFile.FieldType.boolean)) ∈ q_gw := q_gwm 1638 rfl rfl
set_option maxRecDepth 100000 in
theorem wd_1639 : (Jvm.Cond.methodLink "GongHouseModel" (383 : Nat) ({ cls := "GongHouseModel", name := "makesUp", desc := "([I)V" } : Jvm.MethodName)) ∈ q_gw := q_gwm 1639 rfl rfl
set_option maxRecDepth 100000 in
theorem wd_1640 : (Jvm.Cond.static ({ cls := "GongHouseModel", name := "makesUp", desc := "([I)V" } : Jvm.MethodName)) ∈ q_gw := q_gwm 1640 rfl rfl
set_option maxRecDepth 100000 in
theorem wd_1641 : (Jvm.Cond.code ({ cls := "GongHouseModel", name := "makesUp", desc := "([I)V" } : Jvm.MethodName) prog_14_method_67_code (1 : Nat) (Option.none : Option Jvm.ClassFile.FieldType)) ∈ q_gw := q_gwm 1641 rfl rfl
set_option maxRecDepth 100000 in
theorem wd_1642 : (Jvm.Cond.methodLink "GongHouseLaw" (83 : Nat) ({ cls := "GongHouseModel", name := "stay", desc := "(II)I" } : Jvm.MethodName)) ∈ q_gw := q_gwm 1642 rfl rfl
set_option maxRecDepth 100000 in
theorem wd_1643 : (Jvm.Cond.instanceMethod ({ cls := "GongHouseModel", name := "stay", desc := "(II)I" } : Jvm.MethodName)) ∈ q_gw := q_gwm 1643 rfl rfl
set_option maxRecDepth 100000 in
theorem wd_1644 : (Jvm.Cond.selects "GongHouseModel" ({ cls := "GongHouseModel", name := "stay", desc := "(II)I" } : Jvm.MethodName) ({ cls := "GongHouseModel", name := "stay", desc := "(II)I" } : Jvm.MethodName)) ∈ q_gw := q_gwm 1644 rfl rfl
set_option maxRecDepth 100000 in
theorem wd_1645 : (Jvm.Cond.code ({ cls := "GongHouseModel", name := "stay", desc := "(II)I" } : Jvm.MethodName) prog_14_method_70_code (3 : Nat) (Option.some Jvm.ClassFile.FieldType.int)) ∈ q_gw := q_gwm 1645 rfl rfl
set_option maxRecDepth 100000 in
theorem wd_1646 : (Jvm.Cond.methodLink "GongHouseModel" (386 : Nat) ({ cls := "GongHouseModel", name := "canStay", desc := "([III)Z" } : Jvm.MethodName)) ∈ q_gw := q_gwm 1646 rfl rfl
set_option maxRecDepth 100000 in
theorem wd_1648 : (Jvm.Cond.instanceMethod ({ cls := "GongHouseModel", name := "canStay", desc := "([III)Z" } : Jvm.MethodName)) ∈ q_gw := q_gwm 1648 rfl rfl
set_option maxRecDepth 100000 in
theorem wd_1649 : (Jvm.Cond.code ({ cls := "GongHouseModel", name := "canStay", desc := "([III)Z" } : Jvm.MethodName) prog_14_method_69_code (4 : Nat) (Option.some Jvm.ClassFile.FieldType.boolean)) ∈ q_gw := q_gwm 1649 rfl rfl
set_option maxRecDepth 100000 in
theorem wd_1650 : (Jvm.Cond.methodLink "GongHouseLaw" (87 : Nat) ({ cls := "GongHouseModel", name := "sign", desc := "(II)I" } : Jvm.MethodName)) ∈ q_gw := q_gwm 1650 rfl rfl
set_option maxRecDepth 100000 in
theorem wd_1651 : (Jvm.Cond.instanceMethod ({ cls := "GongHouseModel", name := "sign", desc := "(II)I" } : Jvm.MethodName)) ∈ q_gw := q_gwm 1651 rfl rfl
set_option maxRecDepth 100000 in
theorem wd_1652 : (Jvm.Cond.selects "GongHouseModel" ({ cls := "GongHouseModel", name := "sign", desc := "(II)I" } : Jvm.MethodName) ({ cls := "GongHouseModel", name := "sign", desc := "(II)I" } : Jvm.MethodName)) ∈ q_gw := q_gwm 1652 rfl rfl
set_option maxRecDepth 100000 in
theorem wd_1653 : (Jvm.Cond.code ({ cls := "GongHouseModel", name := "sign", desc := "(II)I" } : Jvm.MethodName) prog_14_method_71_code (4 : Nat) (Option.some Jvm.ClassFile.FieldType.int)) ∈ q_gw := q_gwm 1653 rfl rfl
set_option maxRecDepth 100000 in
theorem wd_1654 : (Jvm.Cond.constantLong "GongHouseModel" (390 : Nat) (3 : Int64)) ∈ q_gw := q_gwm 1654 rfl rfl
set_option maxRecDepth 100000 in
theorem wd_1655 : (Jvm.Cond.methodLink "GongHouseLaw" (94 : Nat) ({ cls := "GongHouseModel", name := "years", desc := "(IJ)I" } : Jvm.MethodName)) ∈ q_gw := q_gwm 1655 rfl rfl
set_option maxRecDepth 100000 in
theorem wd_1656 : (Jvm.Cond.instanceMethod ({ cls := "GongHouseModel", name := "years", desc := "(IJ)I" } : Jvm.MethodName)) ∈ q_gw := q_gwm 1656 rfl rfl
set_option maxRecDepth 100000 in
theorem wd_1657 : (Jvm.Cond.selects "GongHouseModel" ({ cls := "GongHouseModel", name := "years", desc := "(IJ)I" } : Jvm.MethodName) ({ cls := "GongHouseModel", name := "years", desc := "(IJ)I" } : Jvm.MethodName)) ∈ q_gw := q_gwm 1657 rfl rfl
set_option maxRecDepth 100000 in
theorem wd_1658 : (Jvm.Cond.code ({ cls := "GongHouseModel", name := "years", desc := "(IJ)I" } : Jvm.MethodName) prog_14_method_73_code (6 : Nat) (Option.some Jvm.ClassFile.FieldType.int)) ∈ q_gw := q_gwm 1658 rfl rfl
set_option maxRecDepth 100000 in
theorem wd_1659 : (Jvm.Cond.constantLong "GongHouseModel" (400 : Nat) (30 : Int64)) ∈ q_gw := q_gwm 1659 rfl rfl
set_option maxRecDepth 100000 in
theorem wd_1660 : (Jvm.Cond.methodLink "GongHouseModel" (402 : Nat) ({ cls := "GongHouseModel", name := "draw", desc := "(I)I" } : Jvm.MethodName)) ∈ q_gw := q_gwm 1660 rfl rfl
set_option maxRecDepth 100000 in
theorem wd_1662 : (Jvm.Cond.instanceMethod ({ cls := "GongHouseModel", name := "draw", desc := "(I)I" } : Jvm.MethodName)) ∈ q_gw := q_gwm 1662 rfl rfl
set_option maxRecDepth 100000 in
theorem wd_1663 : (Jvm.Cond.code ({ cls := "GongHouseModel", name := "draw", desc := "(I)I" } : Jvm.MethodName) prog_14_method_72_code (2 : Nat) (Option.some Jvm.ClassFile.FieldType.int)) ∈ q_gw := q_gwm 1663 rfl rfl
set_option maxRecDepth 100000 in
theorem wd_1664 : (Jvm.Cond.constantLong "GongHouseModel" (396 : Nat) (6364136223846793005 : Int64)) ∈ q_gw := q_gwm 1664 rfl rfl
set_option maxRecDepth 100000 in
theorem wd_1665 : (Jvm.Cond.constantLong "GongHouseModel" (398 : Nat) (1442695040888963407 : Int64)) ∈ q_gw := q_gwm 1665 rfl rfl
set_option maxRecDepth 100000 in
theorem wd_1666 : (Jvm.Cond.methodLink "GongHouseLaw" (98 : Nat) ({ cls := "GongHouseModel", name := "undo", desc := "()I" } : Jvm.MethodName)) ∈ q_gw := q_gwm 1666 rfl rfl
set_option maxRecDepth 100000 in
theorem wd_1667 : (Jvm.Cond.instanceMethod ({ cls := "GongHouseModel", name := "undo", desc := "()I" } : Jvm.MethodName)) ∈ q_gw := q_gwm 1667 rfl rfl
set_option maxRecDepth 100000 in
theorem wd_1668 : (Jvm.Cond.selects "GongHouseModel" ({ cls := "GongHouseModel", name := "undo", desc := "()I" } : Jvm.MethodName) ({ cls := "GongHouseModel", name := "undo", desc := "()I" } : Jvm.MethodName)) ∈ q_gw := q_gwm 1668 rfl rfl
set_option maxRecDepth 100000 in
theorem wd_1669 : (Jvm.Cond.code ({ cls := "GongHouseModel", name := "undo", desc := "()I" } : Jvm.MethodName) prog_14_method_74_code (2 : Nat) (Option.some Jvm.ClassFile.FieldType.int)) ∈ q_gw := q_gwm 1669 rfl rfl
set_option maxRecDepth 100000 in
theorem wd_1670 : (Jvm.Cond.methodLink "GongHouseLaw" (102 : Nat) ({ cls := "GongHouseModel", name := "log", desc := "(II)I" } : Jvm.MethodName)) ∈ q_gw := q_gwm 1670 rfl rfl
set_option maxRecDepth 100000 in
theorem wd_1671 : (Jvm.Cond.instanceMethod ({ cls := "GongHouseModel", name := "log", desc := "(II)I" } : Jvm.MethodName)) ∈ q_gw := q_gwm 1671 rfl rfl
set_option maxRecDepth 100000 in
theorem wd_1672 : (Jvm.Cond.selects "GongHouseModel" ({ cls := "GongHouseModel", name := "log", desc := "(II)I" } : Jvm.MethodName) ({ cls := "GongHouseModel", name := "log", desc := "(II)I" } : Jvm.MethodName)) ∈ q_gw := q_gwm 1672 rfl rfl
set_option maxRecDepth 100000 in
theorem wd_1673 : (Jvm.Cond.code ({ cls := "GongHouseModel", name := "log", desc := "(II)I" } : Jvm.MethodName) prog_14_method_75_code (3 : Nat) (Option.some Jvm.ClassFile.FieldType.int)) ∈ q_gw := q_gwm 1673 rfl rfl
set_option maxRecDepth 100000 in
theorem wd_1674 : (Jvm.Cond.constant "GongHouseModel" (405 : Nat) (-1000000 : Int32)) ∈ q_gw := q_gwm 1674 rfl rfl
set_option maxRecDepth 100000 in
theorem wd_1675 : (Jvm.Cond.methodLink "GongHouseLaw" (107 : Nat) ({ cls := "GongHouseModel", name := "step", desc := "(III)I" } : Jvm.MethodName)) ∈ q_gw := q_gwm 1675 rfl rfl
set_option maxRecDepth 100000 in
theorem wd_1676 : (Jvm.Cond.instanceMethod ({ cls := "GongHouseModel", name := "step", desc := "(III)I" } : Jvm.MethodName)) ∈ q_gw := q_gwm 1676 rfl rfl
set_option maxRecDepth 100000 in
theorem wd_1677 : (Jvm.Cond.selects "GongHouseModel" ({ cls := "GongHouseModel", name := "step", desc := "(III)I" } : Jvm.MethodName) ({ cls := "GongHouseModel", name := "step", desc := "(III)I" } : Jvm.MethodName)) ∈ q_gw := q_gwm 1677 rfl rfl
set_option maxRecDepth 100000 in
theorem wd_1678 : (Jvm.Cond.code ({ cls := "GongHouseModel", name := "step", desc := "(III)I" } : Jvm.MethodName) prog_14_method_77_code (4 : Nat) (Option.some Jvm.ClassFile.FieldType.int)) ∈ q_gw := q_gwm 1678 rfl rfl
set_option maxRecDepth 100000 in
theorem wd_1679 : (Jvm.Cond.methodLink "GongHouseModel" (406 : Nat) ({ cls := "GongHouseModel", name := "isWeek", desc := "(I)Z" } : Jvm.MethodName)) ∈ q_gw := q_gwm 1679 rfl rfl
set_option maxRecDepth 100000 in
theorem wd_1681 : (Jvm.Cond.instanceMethod ({ cls := "GongHouseModel", name := "isWeek", desc := "(I)Z" } : Jvm.MethodName)) ∈ q_gw := q_gwm 1681 rfl rfl
set_option maxRecDepth 100000 in
theorem wd_1682 : (Jvm.Cond.code ({ cls := "GongHouseModel", name := "isWeek", desc := "(I)Z" } : Jvm.MethodName) prog_14_method_76_code (2 : Nat) (Option.some Jvm.ClassFile.FieldType.boolean)) ∈ q_gw := q_gwm 1682 rfl rfl
set_option maxRecDepth 100000 in
theorem wd_1683 : (Jvm.Cond.methodLink "GongHouseLaw" (111 : Nat) ({ cls := "GongHouseModel", name := "run", desc := "(II)I" } : Jvm.MethodName)) ∈ q_gw := q_gwm 1683 rfl rfl
set_option maxRecDepth 100000 in
theorem wd_1684 : (Jvm.Cond.instanceMethod ({ cls := "GongHouseModel", name := "run", desc := "(II)I" } : Jvm.MethodName)) ∈ q_gw := q_gwm 1684 rfl rfl
set_option maxRecDepth 100000 in
theorem wd_1685 : (Jvm.Cond.selects "GongHouseModel" ({ cls := "GongHouseModel", name := "run", desc := "(II)I" } : Jvm.MethodName) ({ cls := "GongHouseModel", name := "run", desc := "(II)I" } : Jvm.MethodName)) ∈ q_gw := q_gwm 1685 rfl rfl
set_option maxRecDepth 100000 in
theorem wd_1686 : (Jvm.Cond.code ({ cls := "GongHouseModel", name := "run", desc := "(II)I" } : Jvm.MethodName) prog_14_method_80_code (4 : Nat) (Option.some Jvm.ClassFile.FieldType.int)) ∈ q_gw := q_gwm 1686 rfl rfl
set_option maxRecDepth 100000 in
theorem wd_1687 : (Jvm.Cond.methodLink "GongHouseModel" (409 : Nat) ({ cls := "GongHouseModel", name := "copy", desc := "([I[I)V" } : Jvm.MethodName)) ∈ q_gw := q_gwm 1687 rfl rfl
set_option maxRecDepth 100000 in
theorem wd_1688 : (Jvm.Cond.static ({ cls := "GongHouseModel", name := "copy", desc := "([I[I)V" } : Jvm.MethodName)) ∈ q_gw := q_gwm 1688 rfl rfl
set_option maxRecDepth 100000 in
theorem wd_1689 : (Jvm.Cond.code ({ cls := "GongHouseModel", name := "copy", desc := "([I[I)V" } : Jvm.MethodName) prog_14_method_40_code (3 : Nat) (Option.none : Option Jvm.ClassFile.FieldType)) ∈ q_gw := q_gwm 1689 rfl rfl
set_option maxRecDepth 100000 in
theorem wd_1690 : (Jvm.Cond.methodLink "GongHouseModel" (413 : Nat) ({ cls := "GongHouseModel", name := "canStep", desc := "([II)Z" } : Jvm.MethodName)) ∈ q_gw := q_gwm 1690 rfl rfl
set_option maxRecDepth 100000 in
theorem wd_1692 : (Jvm.Cond.instanceMethod ({ cls := "GongHouseModel", name := "canStep", desc := "([II)Z" } : Jvm.MethodName)) ∈ q_gw := q_gwm 1692 rfl rfl
set_option maxRecDepth 100000 in
theorem wd_1693 : (Jvm.Cond.code ({ cls := "GongHouseModel", name := "canStep", desc := "([II)Z" } : Jvm.MethodName) prog_14_method_78_code (3 : Nat) (Option.some Jvm.ClassFile.FieldType.boolean)) ∈ q_gw := q_gwm 1693 rfl rfl
set_option maxRecDepth 100000 in
theorem wd_1694 : (Jvm.Cond.methodLink "GongHouseModel" (416 : Nat) ({ cls := "GongHouseModel", name := "goStep", desc := "([II)V" } : Jvm.MethodName)) ∈ q_gw := q_gwm 1694 rfl rfl
set_option maxRecDepth 100000 in
theorem wd_1696 : (Jvm.Cond.instanceMethod ({ cls := "GongHouseModel", name := "goStep", desc := "([II)V" } : Jvm.MethodName)) ∈ q_gw := q_gwm 1696 rfl rfl
set_option maxRecDepth 100000 in
theorem wd_1697 : (Jvm.Cond.code ({ cls := "GongHouseModel", name := "goStep", desc := "([II)V" } : Jvm.MethodName) prog_14_method_79_code (4 : Nat) (Option.none : Option Jvm.ClassFile.FieldType)) ∈ q_gw := q_gwm 1697 rfl rfl
set_option maxRecDepth 100000 in
theorem wd_1698 : (Jvm.Cond.methodLink "GongHouseLaw" (115 : Nat) ({ cls := "GongHouseModel", name := "perform", desc := "(I)I" } : Jvm.MethodName)) ∈ q_gw := q_gwm 1698 rfl rfl
set_option maxRecDepth 100000 in
theorem wd_1699 : (Jvm.Cond.instanceMethod ({ cls := "GongHouseModel", name := "perform", desc := "(I)I" } : Jvm.MethodName)) ∈ q_gw := q_gwm 1699 rfl rfl
set_option maxRecDepth 100000 in
theorem wd_1700 : (Jvm.Cond.selects "GongHouseModel" ({ cls := "GongHouseModel", name := "perform", desc := "(I)I" } : Jvm.MethodName) ({ cls := "GongHouseModel", name := "perform", desc := "(I)I" } : Jvm.MethodName)) ∈ q_gw := q_gwm 1700 rfl rfl
set_option maxRecDepth 100000 in
theorem wd_1701 : (Jvm.Cond.code ({ cls := "GongHouseModel", name := "perform", desc := "(I)I" } : Jvm.MethodName) prog_14_method_81_code (3 : Nat) (Option.some Jvm.ClassFile.FieldType.int)) ∈ q_gw := q_gwm 1701 rfl rfl
set_option maxRecDepth 100000 in
theorem wd_1702 : (Jvm.Cond.methodLink "GongHouseLaw" (119 : Nat) ({ cls := "GongHouseModel", name := "serves", desc := "(II)I" } : Jvm.MethodName)) ∈ q_gw := q_gwm 1702 rfl rfl
set_option maxRecDepth 100000 in
theorem wd_1703 : (Jvm.Cond.instanceMethod ({ cls := "GongHouseModel", name := "serves", desc := "(II)I" } : Jvm.MethodName)) ∈ q_gw := q_gwm 1703 rfl rfl
set_option maxRecDepth 100000 in
theorem wd_1704 : (Jvm.Cond.selects "GongHouseModel" ({ cls := "GongHouseModel", name := "serves", desc := "(II)I" } : Jvm.MethodName) ({ cls := "GongHouseModel", name := "serves", desc := "(II)I" } : Jvm.MethodName)) ∈ q_gw := q_gwm 1704 rfl rfl
set_option maxRecDepth 100000 in
theorem wd_1705 : (Jvm.Cond.code ({ cls := "GongHouseModel", name := "serves", desc := "(II)I" } : Jvm.MethodName) prog_14_method_83_code (3 : Nat) (Option.some Jvm.ClassFile.FieldType.int)) ∈ q_gw := q_gwm 1705 rfl rfl
set_option maxRecDepth 100000 in
theorem wd_1706 : (Jvm.Cond.constantLong "GongHouseModel" (420 : Nat) (20 : Int64)) ∈ q_gw := q_gwm 1706 rfl rfl
set_option maxRecDepth 100000 in
theorem wd_1707 : (Jvm.Cond.methodLink "GongHouseModel" (422 : Nat) ({ cls := "GongHouseModel", name := "goOn", desc := "(I)V" } : Jvm.MethodName)) ∈ q_gw := q_gwm 1707 rfl rfl
set_option maxRecDepth 100000 in
theorem wd_1709 : (Jvm.Cond.instanceMethod ({ cls := "GongHouseModel", name := "goOn", desc := "(I)V" } : Jvm.MethodName)) ∈ q_gw := q_gwm 1709 rfl rfl
set_option maxRecDepth 100000 in
theorem wd_1710 : (Jvm.Cond.code ({ cls := "GongHouseModel", name := "goOn", desc := "(I)V" } : Jvm.MethodName) prog_14_method_82_code (4 : Nat) (Option.none : Option Jvm.ClassFile.FieldType)) ∈ q_gw := q_gwm 1710 rfl rfl
set_option maxRecDepth 100000 in
theorem wd_1711 : (Jvm.Cond.methodLink "GongHouseLaw" (123 : Nat) ({ cls := "GongHouseModel", name := "there", desc := "(I)I" } : Jvm.MethodName)) ∈ q_gw := q_gwm 1711 rfl rfl
set_option maxRecDepth 100000 in
theorem wd_1712 : (Jvm.Cond.instanceMethod ({ cls := "GongHouseModel", name := "there", desc := "(I)I" } : Jvm.MethodName)) ∈ q_gw := q_gwm 1712 rfl rfl
set_option maxRecDepth 100000 in
theorem wd_1713 : (Jvm.Cond.selects "GongHouseModel" ({ cls := "GongHouseModel", name := "there", desc := "(I)I" } : Jvm.MethodName) ({ cls := "GongHouseModel", name := "there", desc := "(I)I" } : Jvm.MethodName)) ∈ q_gw := q_gwm 1713 rfl rfl
set_option maxRecDepth 100000 in
theorem wd_1714 : (Jvm.Cond.code ({ cls := "GongHouseModel", name := "there", desc := "(I)I" } : Jvm.MethodName) prog_14_method_84_code (2 : Nat) (Option.some Jvm.ClassFile.FieldType.int)) ∈ q_gw := q_gwm 1714 rfl rfl
set_option maxRecDepth 100000 in
theorem wd_1715 : (Jvm.Cond.methodLink "GongHouseLaw" (127 : Nat) ({ cls := "GongHouseModel", name := "fed", desc := "(I)I" } : Jvm.MethodName)) ∈ q_gw := q_gwm 1715 rfl rfl
set_option maxRecDepth 100000 in
theorem wd_1716 : (Jvm.Cond.instanceMethod ({ cls := "GongHouseModel", name := "fed", desc := "(I)I" } : Jvm.MethodName)) ∈ q_gw := q_gwm 1716 rfl rfl
set_option maxRecDepth 100000 in
theorem wd_1717 : (Jvm.Cond.selects "GongHouseModel" ({ cls := "GongHouseModel", name := "fed", desc := "(I)I" } : Jvm.MethodName) ({ cls := "GongHouseModel", name := "fed", desc := "(I)I" } : Jvm.MethodName)) ∈ q_gw := q_gwm 1717 rfl rfl
set_option maxRecDepth 100000 in
theorem wd_1718 : (Jvm.Cond.code ({ cls := "GongHouseModel", name := "fed", desc := "(I)I" } : Jvm.MethodName) prog_14_method_86_code (2 : Nat) (Option.some Jvm.ClassFile.FieldType.int)) ∈ q_gw := q_gwm 1718 rfl rfl
set_option maxRecDepth 100000 in
theorem wd_1719 : (Jvm.Cond.methodLink "GongHouseModel" (425 : Nat) ({ cls := "GongHouseModel", name := "tableNow", desc := "()V" } : Jvm.MethodName)) ∈ q_gw := q_gwm 1719 rfl rfl
set_option maxRecDepth 100000 in
theorem wd_1721 : (Jvm.Cond.instanceMethod ({ cls := "GongHouseModel", name := "tableNow", desc := "()V" } : Jvm.MethodName)) ∈ q_gw := q_gwm 1721 rfl rfl
set_option maxRecDepth 100000 in
theorem wd_1722 : (Jvm.Cond.code ({ cls := "GongHouseModel", name := "tableNow", desc := "()V" } : Jvm.MethodName) prog_14_method_85_code (1 : Nat) (Option.none : Option Jvm.ClassFile.FieldType)) ∈ q_gw := q_gwm 1722 rfl rfl
set_option maxRecDepth 100000 in
theorem wd_1723 : (Jvm.Cond.methodLink "GongHouseLaw" (131 : Nat) ({ cls := "GongHouseModel", name := "best", desc := "(II)I" } : Jvm.MethodName)) ∈ q_gw := q_gwm 1723 rfl rfl
set_option maxRecDepth 100000 in
theorem wd_1724 : (Jvm.Cond.instanceMethod ({ cls := "GongHouseModel", name := "best", desc := "(II)I" } : Jvm.MethodName)) ∈ q_gw := q_gwm 1724 rfl rfl
set_option maxRecDepth 100000 in
theorem wd_1725 : (Jvm.Cond.selects "GongHouseModel" ({ cls := "GongHouseModel", name := "best", desc := "(II)I" } : Jvm.MethodName) ({ cls := "GongHouseModel", name := "best", desc := "(II)I" } : Jvm.MethodName)) ∈ q_gw := q_gwm 1725 rfl rfl
set_option maxRecDepth 100000 in
theorem wd_1726 : (Jvm.Cond.code ({ cls := "GongHouseModel", name := "best", desc := "(II)I" } : Jvm.MethodName) prog_14_method_87_code (11 : Nat) (Option.some Jvm.ClassFile.FieldType.int)) ∈ q_gw := q_gwm 1726 rfl rfl
set_option maxRecDepth 100000 in
theorem wd_1727 : (Jvm.Cond.methodLink "GongHouseLaw" (135 : Nat) ({ cls := "GongHouseModel", name := "madeUp", desc := "(I)I" } : Jvm.MethodName)) ∈ q_gw := q_gwm 1727 rfl rfl
set_option maxRecDepth 100000 in
theorem wd_1728 : (Jvm.Cond.instanceMethod ({ cls := "GongHouseModel", name := "madeUp", desc := "(I)I" } : Jvm.MethodName)) ∈ q_gw := q_gwm 1728 rfl rfl
set_option maxRecDepth 100000 in
theorem wd_1729 : (Jvm.Cond.selects "GongHouseModel" ({ cls := "GongHouseModel", name := "madeUp", desc := "(I)I" } : Jvm.MethodName) ({ cls := "GongHouseModel", name := "madeUp", desc := "(I)I" } : Jvm.MethodName)) ∈ q_gw := q_gwm 1729 rfl rfl
set_option maxRecDepth 100000 in
theorem wd_1730 : (Jvm.Cond.code ({ cls := "GongHouseModel", name := "madeUp", desc := "(I)I" } : Jvm.MethodName) prog_14_method_88_code (3 : Nat) (Option.some Jvm.ClassFile.FieldType.int)) ∈ q_gw := q_gwm 1730 rfl rfl
set_option maxRecDepth 100000 in
theorem wd_1731 : (Jvm.Cond.methodLink "GongHouseLaw" (140 : Nat) ({ cls := "GongHouseModel", name := "seen", desc := "(IIIIZ)I" } : Jvm.MethodName)) ∈ q_gw := q_gwm 1731 rfl rfl
set_option maxRecDepth 100000 in
theorem wd_1732 : (Jvm.Cond.instanceMethod ({ cls := "GongHouseModel", name := "seen", desc := "(IIIIZ)I" } : Jvm.MethodName)) ∈ q_gw := q_gwm 1732 rfl rfl
set_option maxRecDepth 100000 in
theorem wd_1733 : (Jvm.Cond.selects "GongHouseModel" ({ cls := "GongHouseModel", name := "seen", desc := "(IIIIZ)I" } : Jvm.MethodName) ({ cls := "GongHouseModel", name := "seen", desc := "(IIIIZ)I" } : Jvm.MethodName)) ∈ q_gw := q_gwm 1733 rfl rfl
set_option maxRecDepth 100000 in
theorem wd_1734 : (Jvm.Cond.code ({ cls := "GongHouseModel", name := "seen", desc := "(IIIIZ)I" } : Jvm.MethodName) prog_14_method_89_code (7 : Nat) (Option.some Jvm.ClassFile.FieldType.int)) ∈ q_gw := q_gwm 1734 rfl rfl
set_option maxRecDepth 100000 in
theorem wd_1735 : (Jvm.Cond.constantLong "GongHouseModel" (428 : Nat) (-9 : Int64)) ∈ q_gw := q_gwm 1735 rfl rfl
set_option maxRecDepth 100000 in
theorem wd_1736 : (Jvm.Cond.methodLink "GongHouseLaw" (144 : Nat) ({ cls := "GongHouseModel", name := "likes", desc := "(I)I" } : Jvm.MethodName)) ∈ q_gw := q_gwm 1736 rfl rfl
set_option maxRecDepth 100000 in
theorem wd_1737 : (Jvm.Cond.instanceMethod ({ cls := "GongHouseModel", name := "likes", desc := "(I)I" } : Jvm.MethodName)) ∈ q_gw := q_gwm 1737 rfl rfl
set_option maxRecDepth 100000 in
theorem wd_1738 : (Jvm.Cond.selects "GongHouseModel" ({ cls := "GongHouseModel", name := "likes", desc := "(I)I" } : Jvm.MethodName) ({ cls := "GongHouseModel", name := "likes", desc := "(I)I" } : Jvm.MethodName)) ∈ q_gw := q_gwm 1738 rfl rfl
set_option maxRecDepth 100000 in
theorem wd_1739 : (Jvm.Cond.code ({ cls := "GongHouseModel", name := "likes", desc := "(I)I" } : Jvm.MethodName) prog_14_method_92_code (2 : Nat) (Option.some Jvm.ClassFile.FieldType.int)) ∈ q_gw := q_gwm 1739 rfl rfl
set_option maxRecDepth 100000 in
theorem wd_1740 : (Jvm.Cond.methodLink "GongHouseModel" (434 : Nat) ({ cls := "GongHouseModel", name := "liked", desc := "(I)I" } : Jvm.MethodName)) ∈ q_gw := q_gwm 1740 rfl rfl
set_option maxRecDepth 100000 in
theorem wd_1742 : (Jvm.Cond.instanceMethod ({ cls := "GongHouseModel", name := "liked", desc := "(I)I" } : Jvm.MethodName)) ∈ q_gw := q_gwm 1742 rfl rfl
set_option maxRecDepth 100000 in
theorem wd_1743 : (Jvm.Cond.code ({ cls := "GongHouseModel", name := "liked", desc := "(I)I" } : Jvm.MethodName) prog_14_method_91_code (6 : Nat) (Option.some Jvm.ClassFile.FieldType.int)) ∈ q_gw := q_gwm 1743 rfl rfl
set_option maxRecDepth 100000 in
theorem wd_1744 : (Jvm.Cond.methodLink "GongHouseModel" (430 : Nat) ({ cls := "GongHouseModel", name := "hasJoy", desc := "(IIIII)Z" } : Jvm.MethodName)) ∈ q_gw := q_gwm 1744 rfl rfl
set_option maxRecDepth 100000 in
theorem wd_1746 : (Jvm.Cond.instanceMethod ({ cls := "GongHouseModel", name := "hasJoy", desc := "(IIIII)Z" } : Jvm.MethodName)) ∈ q_gw := q_gwm 1746 rfl rfl
set_option maxRecDepth 100000 in
theorem wd_1747 : (Jvm.Cond.code ({ cls := "GongHouseModel", name := "hasJoy", desc := "(IIIII)Z" } : Jvm.MethodName) prog_14_method_90_code (6 : Nat) (Option.some Jvm.ClassFile.FieldType.boolean)) ∈ q_gw := q_gwm 1747 rfl rfl
set_option maxRecDepth 100000 in
theorem wd_1748 : (Jvm.Cond.methodLink "GongHouseLaw" (148 : Nat) ({ cls := "GongHouseModel", name := "probe", desc := "(III)I" } : Jvm.MethodName)) ∈ q_gw := q_gwm 1748 rfl rfl
set_option maxRecDepth 100000 in
theorem wd_1749 : (Jvm.Cond.instanceMethod ({ cls := "GongHouseModel", name := "probe", desc := "(III)I" } : Jvm.MethodName)) ∈ q_gw := q_gwm 1749 rfl rfl
set_option maxRecDepth 100000 in
theorem wd_1750 : (Jvm.Cond.selects "GongHouseModel" ({ cls := "GongHouseModel", name := "probe", desc := "(III)I" } : Jvm.MethodName) ({ cls := "GongHouseModel", name := "probe", desc := "(III)I" } : Jvm.MethodName)) ∈ q_gw := q_gwm 1750 rfl rfl
set_option maxRecDepth 100000 in
theorem wd_1751 : (Jvm.Cond.code ({ cls := "GongHouseModel", name := "probe", desc := "(III)I" } : Jvm.MethodName) prog_14_method_93_code (10 : Nat) (Option.some Jvm.ClassFile.FieldType.int)) ∈ q_gw := q_gwm 1751 rfl rfl
set_option maxRecDepth 100000 in
theorem wd_1752 : (Jvm.Cond.methodLink "GongHouseModel" (437 : Nat) ({ cls := "java/lang/Math", name := "abs", desc := "(I)I" } : Jvm.MethodName)) ∈ q_gw := q_gwm 1752 rfl rfl
set_option maxRecDepth 100000 in
theorem wd_1753 : (Jvm.Cond.methodLink "GongHouseLaw" (152 : Nat) ({ cls := "GongHouseModel", name := "leaves", desc := "(I)I" } : Jvm.MethodName)) ∈ q_gw := q_gwm 1753 rfl rfl
set_option maxRecDepth 100000 in
theorem wd_1754 : (Jvm.Cond.instanceMethod ({ cls := "GongHouseModel", name := "leaves", desc := "(I)I" } : Jvm.MethodName)) ∈ q_gw := q_gwm 1754 rfl rfl
set_option maxRecDepth 100000 in
theorem wd_1755 : (Jvm.Cond.selects "GongHouseModel" ({ cls := "GongHouseModel", name := "leaves", desc := "(I)I" } : Jvm.MethodName) ({ cls := "GongHouseModel", name := "leaves", desc := "(I)I" } : Jvm.MethodName)) ∈ q_gw := q_gwm 1755 rfl rfl
set_option maxRecDepth 100000 in
theorem wd_1756 : (Jvm.Cond.code ({ cls := "GongHouseModel", name := "leaves", desc := "(I)I" } : Jvm.MethodName) prog_14_method_94_code (4 : Nat) (Option.some Jvm.ClassFile.FieldType.int)) ∈ q_gw := q_gwm 1756 rfl rfl
set_option maxRecDepth 100000 in
theorem wd_1757 : (Jvm.Cond.methodLink "GongHouseLaw" (156 : Nat) ({ cls := "GongHouseModel", name := "game", desc := "(IIIII)I" } : Jvm.MethodName)) ∈ q_gw := q_gwm 1757 rfl rfl
set_option maxRecDepth 100000 in
theorem wd_1758 : (Jvm.Cond.instanceMethod ({ cls := "GongHouseModel", name := "game", desc := "(IIIII)I" } : Jvm.MethodName)) ∈ q_gw := q_gwm 1758 rfl rfl
set_option maxRecDepth 100000 in
theorem wd_1759 : (Jvm.Cond.selects "GongHouseModel" ({ cls := "GongHouseModel", name := "game", desc := "(IIIII)I" } : Jvm.MethodName) ({ cls := "GongHouseModel", name := "game", desc := "(IIIII)I" } : Jvm.MethodName)) ∈ q_gw := q_gwm 1759 rfl rfl
set_option maxRecDepth 100000 in
theorem wd_1760 : (Jvm.Cond.code ({ cls := "GongHouseModel", name := "game", desc := "(IIIII)I" } : Jvm.MethodName) prog_14_method_97_code (6 : Nat) (Option.some Jvm.ClassFile.FieldType.int)) ∈ q_gw := q_gwm 1760 rfl rfl
set_option maxRecDepth 100000 in
theorem wd_1761 : (Jvm.Cond.methodLink "GongHouseModel" (440 : Nat) ({ cls := "GongHouseModel", name := "isGame", desc := "(II)Z" } : Jvm.MethodName)) ∈ q_gw := q_gwm 1761 rfl rfl
set_option maxRecDepth 100000 in
theorem wd_1763 : (Jvm.Cond.instanceMethod ({ cls := "GongHouseModel", name := "isGame", desc := "(II)Z" } : Jvm.MethodName)) ∈ q_gw := q_gwm 1763 rfl rfl
set_option maxRecDepth 100000 in
theorem wd_1764 : (Jvm.Cond.code ({ cls := "GongHouseModel", name := "isGame", desc := "(II)Z" } : Jvm.MethodName) prog_14_method_95_code (3 : Nat) (Option.some Jvm.ClassFile.FieldType.boolean)) ∈ q_gw := q_gwm 1764 rfl rfl
set_option maxRecDepth 100000 in
theorem wd_1765 : (Jvm.Cond.methodLink "GongHouseModel" (443 : Nat) ({ cls := "GongHouseModel", name := "gameOf", desc := "(IIIII)I" } : Jvm.MethodName)) ∈ q_gw := q_gwm 1765 rfl rfl
set_option maxRecDepth 100000 in
theorem wd_1767 : (Jvm.Cond.instanceMethod ({ cls := "GongHouseModel", name := "gameOf", desc := "(IIIII)I" } : Jvm.MethodName)) ∈ q_gw := q_gwm 1767 rfl rfl
set_option maxRecDepth 100000 in
theorem wd_1768 : (Jvm.Cond.code ({ cls := "GongHouseModel", name := "gameOf", desc := "(IIIII)I" } : Jvm.MethodName) prog_14_method_96_code (11 : Nat) (Option.some Jvm.ClassFile.FieldType.int)) ∈ q_gw := q_gwm 1768 rfl rfl
set_option maxRecDepth 100000 in
theorem wd_1769 : (Jvm.Cond.methodLink "GongHouseLaw" (160 : Nat) ({ cls := "GongHouseModel", name := "rests", desc := "(III)I" } : Jvm.MethodName)) ∈ q_gw := q_gwm 1769 rfl rfl
set_option maxRecDepth 100000 in
theorem wd_1770 : (Jvm.Cond.instanceMethod ({ cls := "GongHouseModel", name := "rests", desc := "(III)I" } : Jvm.MethodName)) ∈ q_gw := q_gwm 1770 rfl rfl
set_option maxRecDepth 100000 in
theorem wd_1771 : (Jvm.Cond.selects "GongHouseModel" ({ cls := "GongHouseModel", name := "rests", desc := "(III)I" } : Jvm.MethodName) ({ cls := "GongHouseModel", name := "rests", desc := "(III)I" } : Jvm.MethodName)) ∈ q_gw := q_gwm 1771 rfl rfl
set_option maxRecDepth 100000 in
theorem wd_1772 : (Jvm.Cond.code ({ cls := "GongHouseModel", name := "rests", desc := "(III)I" } : Jvm.MethodName) prog_14_method_98_code (9 : Nat) (Option.some Jvm.ClassFile.FieldType.int)) ∈ q_gw := q_gwm 1772 rfl rfl
set_option maxRecDepth 100000 in
theorem wd_1773 : (Jvm.Cond.methodLink "GongHouseLaw" (164 : Nat) ({ cls := "GongHouseModel", name := "odds", desc := "(III)I" } : Jvm.MethodName)) ∈ q_gw := q_gwm 1773 rfl rfl
set_option maxRecDepth 100000 in
theorem wd_1774 : (Jvm.Cond.instanceMethod ({ cls := "GongHouseModel", name := "odds", desc := "(III)I" } : Jvm.MethodName)) ∈ q_gw := q_gwm 1774 rfl rfl
set_option maxRecDepth 100000 in
theorem wd_1775 : (Jvm.Cond.selects "GongHouseModel" ({ cls := "GongHouseModel", name := "odds", desc := "(III)I" } : Jvm.MethodName) ({ cls := "GongHouseModel", name := "odds", desc := "(III)I" } : Jvm.MethodName)) ∈ q_gw := q_gwm 1775 rfl rfl
set_option maxRecDepth 100000 in
theorem wd_1776 : (Jvm.Cond.code ({ cls := "GongHouseModel", name := "odds", desc := "(III)I" } : Jvm.MethodName) prog_14_method_100_code (4 : Nat) (Option.some Jvm.ClassFile.FieldType.int)) ∈ q_gw := q_gwm 1776 rfl rfl
set_option maxRecDepth 100000 in
theorem wd_1777 : (Jvm.Cond.constantLong "GongHouseModel" (453 : Nat) (4 : Int64)) ∈ q_gw := q_gwm 1777 rfl rfl
set_option maxRecDepth 100000 in
theorem wd_1778 : (Jvm.Cond.constantLong "GongHouseModel" (447 : Nat) (100 : Int64)) ∈ q_gw := q_gwm 1778 rfl rfl
set_option maxRecDepth 100000 in
theorem wd_1779 : (Jvm.Cond.constant "GongHouseModel" (455 : Nat) (1000000000 : Int32)) ∈ q_gw := q_gwm 1779 rfl rfl
set_option maxRecDepth 100000 in
theorem wd_1780 : (Jvm.Cond.methodLink "GongHouseModel" (449 : Nat) ({ cls := "GongHouseModel", name := "oddsFrom", desc := "(IIII)I" } : Jvm.MethodName)) ∈ q_gw := q_gwm 1780 rfl rfl
set_option maxRecDepth 100000 in
theorem wd_1782 : (Jvm.Cond.instanceMethod ({ cls := "GongHouseModel", name := "oddsFrom", desc := "(IIII)I" } : Jvm.MethodName)) ∈ q_gw := q_gwm 1782 rfl rfl
set_option maxRecDepth 100000 in
theorem wd_1783 : (Jvm.Cond.code ({ cls := "GongHouseModel", name := "oddsFrom", desc := "(IIII)I" } : Jvm.MethodName) prog_14_method_99_code (9 : Nat) (Option.some Jvm.ClassFile.FieldType.int)) ∈ q_gw := q_gwm 1783 rfl rfl
set_option maxRecDepth 100000 in
theorem wd_1784 : (Jvm.Cond.methodLink "GongHouseLaw" (168 : Nat) ({ cls := "GongHouseModel", name := "all", desc := "(I)I" } : Jvm.MethodName)) ∈ q_gw := q_gwm 1784 rfl rfl
set_option maxRecDepth 100000 in
theorem wd_1785 : (Jvm.Cond.instanceMethod ({ cls := "GongHouseModel", name := "all", desc := "(I)I" } : Jvm.MethodName)) ∈ q_gw := q_gwm 1785 rfl rfl
set_option maxRecDepth 100000 in
theorem wd_1786 : (Jvm.Cond.selects "GongHouseModel" ({ cls := "GongHouseModel", name := "all", desc := "(I)I" } : Jvm.MethodName) ({ cls := "GongHouseModel", name := "all", desc := "(I)I" } : Jvm.MethodName)) ∈ q_gw := q_gwm 1786 rfl rfl
set_option maxRecDepth 100000 in
theorem wd_1787 : (Jvm.Cond.code ({ cls := "GongHouseModel", name := "all", desc := "(I)I" } : Jvm.MethodName) prog_14_method_109_code (2 : Nat) (Option.some Jvm.ClassFile.FieldType.int)) ∈ q_gw := q_gwm 1787 rfl rfl
set_option maxRecDepth 100000 in
theorem wd_1788 : (Jvm.Cond.methodLink "GongHouseModel" (462 : Nat) ({ cls := "GongHouseModel", name := "greatest", desc := "(I)I" } : Jvm.MethodName)) ∈ q_gw := q_gwm 1788 rfl rfl
set_option maxRecDepth 100000 in
theorem wd_1790 : (Jvm.Cond.instanceMethod ({ cls := "GongHouseModel", name := "greatest", desc := "(I)I" } : Jvm.MethodName)) ∈ q_gw := q_gwm 1790 rfl rfl
set_option maxRecDepth 100000 in
theorem wd_1791 : (Jvm.Cond.code ({ cls := "GongHouseModel", name := "greatest", desc := "(I)I" } : Jvm.MethodName) prog_14_method_102_code (4 : Nat) (Option.some Jvm.ClassFile.FieldType.int)) ∈ q_gw := q_gwm 1791 rfl rfl
set_option maxRecDepth 100000 in
theorem wd_1792 : (Jvm.Cond.methodLink "GongHouseModel" (456 : Nat) ({ cls := "GongHouseModel", name := "valueOf", desc := "(II)I" } : Jvm.MethodName)) ∈ q_gw := q_gwm 1792 rfl rfl
set_option maxRecDepth 100000 in
theorem wd_1794 : (Jvm.Cond.instanceMethod ({ cls := "GongHouseModel", name := "valueOf", desc := "(II)I" } : Jvm.MethodName)) ∈ q_gw := q_gwm 1794 rfl rfl
set_option maxRecDepth 100000 in
theorem wd_1795 : (Jvm.Cond.code ({ cls := "GongHouseModel", name := "valueOf", desc := "(II)I" } : Jvm.MethodName) prog_14_method_101_code (3 : Nat) (Option.some Jvm.ClassFile.FieldType.int)) ∈ q_gw := q_gwm 1795 rfl rfl
set_option maxRecDepth 100000 in
theorem wd_1796 : (Jvm.Cond.methodLink "GongHouseModel" (465 : Nat) ({ cls := "GongHouseModel", name := "ofDish", desc := "(I)I" } : Jvm.MethodName)) ∈ q_gw := q_gwm 1796 rfl rfl
set_option maxRecDepth 100000 in
theorem wd_1798 : (Jvm.Cond.instanceMethod ({ cls := "GongHouseModel", name := "ofDish", desc := "(I)I" } : Jvm.MethodName)) ∈ q_gw := q_gwm 1798 rfl rfl
set_option maxRecDepth 100000 in
theorem wd_1799 : (Jvm.Cond.code ({ cls := "GongHouseModel", name := "ofDish", desc := "(I)I" } : Jvm.MethodName) prog_14_method_104_code (5 : Nat) (Option.some Jvm.ClassFile.FieldType.int)) ∈ q_gw := q_gwm 1799 rfl rfl
set_option maxRecDepth 100000 in
theorem wd_1800 : (Jvm.Cond.methodLink "GongHouseModel" (459 : Nat) ({ cls := "GongHouseModel", name := "likers", desc := "(I)I" } : Jvm.MethodName)) ∈ q_gw := q_gwm 1800 rfl rfl
set_option maxRecDepth 100000 in
theorem wd_1802 : (Jvm.Cond.instanceMethod ({ cls := "GongHouseModel", name := "likers", desc := "(I)I" } : Jvm.MethodName)) ∈ q_gw := q_gwm 1802 rfl rfl
set_option maxRecDepth 100000 in
theorem wd_1803 : (Jvm.Cond.code ({ cls := "GongHouseModel", name := "likers", desc := "(I)I" } : Jvm.MethodName) prog_14_method_103_code (4 : Nat) (Option.some Jvm.ClassFile.FieldType.int)) ∈ q_gw := q_gwm 1803 rfl rfl
set_option maxRecDepth 100000 in
theorem wd_1804 : (Jvm.Cond.methodLink "GongHouseModel" (468 : Nat) ({ cls := "GongHouseModel", name := "last", desc := "()I" } : Jvm.MethodName)) ∈ q_gw := q_gwm 1804 rfl rfl
set_option maxRecDepth 100000 in
theorem wd_1806 : (Jvm.Cond.instanceMethod ({ cls := "GongHouseModel", name := "last", desc := "()I" } : Jvm.MethodName)) ∈ q_gw := q_gwm 1806 rfl rfl
set_option maxRecDepth 100000 in
theorem wd_1807 : (Jvm.Cond.code ({ cls := "GongHouseModel", name := "last", desc := "()I" } : Jvm.MethodName) prog_14_method_105_code (3 : Nat) (Option.some Jvm.ClassFile.FieldType.int)) ∈ q_gw := q_gwm 1807 rfl rfl
set_option maxRecDepth 100000 in
theorem wd_1808 : (Jvm.Cond.methodLink "GongHouseModel" (471 : Nat) ({ cls := "GongHouseModel", name := "takes", desc := "()I" } : Jvm.MethodName)) ∈ q_gw := q_gwm 1808 rfl rfl
set_option maxRecDepth 100000 in
theorem wd_1810 : (Jvm.Cond.instanceMethod ({ cls := "GongHouseModel", name := "takes", desc := "()I" } : Jvm.MethodName)) ∈ q_gw := q_gwm 1810 rfl rfl
set_option maxRecDepth 100000 in
theorem wd_1811 : (Jvm.Cond.code ({ cls := "GongHouseModel", name := "takes", desc := "()I" } : Jvm.MethodName) prog_14_method_106_code (3 : Nat) (Option.some Jvm.ClassFile.FieldType.int)) ∈ q_gw := q_gwm 1811 rfl rfl
set_option maxRecDepth 100000 in
theorem wd_1812 : (Jvm.Cond.methodLink "GongHouseModel" (473 : Nat) ({ cls := "GongHouseModel", name := "mustard", desc := "()I" } : Jvm.MethodName)) ∈ q_gw := q_gwm 1812 rfl rfl
set_option maxRecDepth 100000 in
theorem wd_1814 : (Jvm.Cond.instanceMethod ({ cls := "GongHouseModel", name := "mustard", desc := "()I" } : Jvm.MethodName)) ∈ q_gw := q_gwm 1814 rfl rfl
set_option maxRecDepth 100000 in
theorem wd_1815 : (Jvm.Cond.code ({ cls := "GongHouseModel", name := "mustard", desc := "()I" } : Jvm.MethodName) prog_14_method_107_code (3 : Nat) (Option.some Jvm.ClassFile.FieldType.int)) ∈ q_gw := q_gwm 1815 rfl rfl
set_option maxRecDepth 100000 in
theorem wd_1816 : (Jvm.Cond.methodLink "GongHouseModel" (476 : Nat) ({ cls := "GongHouseModel", name := "fullest", desc := "()I" } : Jvm.MethodName)) ∈ q_gw := q_gwm 1816 rfl rfl
set_option maxRecDepth 100000 in
theorem wd_1818 : (Jvm.Cond.instanceMethod ({ cls := "GongHouseModel", name := "fullest", desc := "()I" } : Jvm.MethodName)) ∈ q_gw := q_gwm 1818 rfl rfl
set_option maxRecDepth 100000 in
theorem wd_1819 : (Jvm.Cond.code ({ cls := "GongHouseModel", name := "fullest", desc := "()I" } : Jvm.MethodName) prog_14_method_108_code (6 : Nat) (Option.some Jvm.ClassFile.FieldType.int)) ∈ q_gw := q_gwm 1819 rfl rfl
set_option maxRecDepth 100000 in
theorem wd_1820 : (Jvm.Cond.methodLink "GongHouseLaw" (172 : Nat) ({ cls := "GongHouseModel", name := "kinds", desc := "(I)I" } : Jvm.MethodName)) ∈ q_gw := q_gwm 1820 rfl rfl
set_option maxRecDepth 100000 in
theorem wd_1821 : (Jvm.Cond.instanceMethod ({ cls := "GongHouseModel", name := "kinds", desc := "(I)I" } : Jvm.MethodName)) ∈ q_gw := q_gwm 1821 rfl rfl
set_option maxRecDepth 100000 in
theorem wd_1822 : (Jvm.Cond.selects "GongHouseModel" ({ cls := "GongHouseModel", name := "kinds", desc := "(I)I" } : Jvm.MethodName) ({ cls := "GongHouseModel", name := "kinds", desc := "(I)I" } : Jvm.MethodName)) ∈ q_gw := q_gwm 1822 rfl rfl
set_option maxRecDepth 100000 in
theorem wd_1823 : (Jvm.Cond.code ({ cls := "GongHouseModel", name := "kinds", desc := "(I)I" } : Jvm.MethodName) prog_14_method_110_code (4 : Nat) (Option.some Jvm.ClassFile.FieldType.int)) ∈ q_gw := q_gwm 1823 rfl rfl
set_option maxRecDepth 100000 in
theorem wd_1824 : (Jvm.Cond.methodLink "GongHouseLaw" (176 : Nat) ({ cls := "GongHouseModel", name := "staying", desc := "(I)I" } : Jvm.MethodName)) ∈ q_gw := q_gwm 1824 rfl rfl
set_option maxRecDepth 100000 in
theorem wd_1825 : (Jvm.Cond.instanceMethod ({ cls := "GongHouseModel", name := "staying", desc := "(I)I" } : Jvm.MethodName)) ∈ q_gw := q_gwm 1825 rfl rfl
set_option maxRecDepth 100000 in
theorem wd_1826 : (Jvm.Cond.selects "GongHouseModel" ({ cls := "GongHouseModel", name := "staying", desc := "(I)I" } : Jvm.MethodName) ({ cls := "GongHouseModel", name := "staying", desc := "(I)I" } : Jvm.MethodName)) ∈ q_gw := q_gwm 1826 rfl rfl
set_option maxRecDepth 100000 in
theorem wd_1827 : (Jvm.Cond.code ({ cls := "GongHouseModel", name := "staying", desc := "(I)I" } : Jvm.MethodName) prog_14_method_111_code (2 : Nat) (Option.some Jvm.ClassFile.FieldType.int)) ∈ q_gw := q_gwm 1827 rfl rfl
set_option maxRecDepth 100000 in
theorem wd_1828 : (Jvm.Cond.methodLink "GongHouseLaw" (180 : Nat) ({ cls := "GongHouseModel", name := "image", desc := "()I" } : Jvm.MethodName)) ∈ q_gw := q_gwm 1828 rfl rfl
set_option maxRecDepth 100000 in
theorem wd_1829 : (Jvm.Cond.instanceMethod ({ cls := "GongHouseModel", name := "image", desc := "()I" } : Jvm.MethodName)) ∈ q_gw := q_gwm 1829 rfl rfl
set_option maxRecDepth 100000 in
theorem wd_1830 : (Jvm.Cond.selects "GongHouseModel" ({ cls := "GongHouseModel", name := "image", desc := "()I" } : Jvm.MethodName) ({ cls := "GongHouseModel", name := "image", desc := "()I" } : Jvm.MethodName)) ∈ q_gw := q_gwm 1830 rfl rfl
set_option maxRecDepth 100000 in
theorem wd_1831 : (Jvm.Cond.code ({ cls := "GongHouseModel", name := "image", desc := "()I" } : Jvm.MethodName) prog_14_method_112_code (2 : Nat) (Option.some Jvm.ClassFile.FieldType.int)) ∈ q_gw := q_gwm 1831 rfl rfl
set_option maxRecDepth 100000 in
theorem wd_1832 : (Jvm.Cond.methodLink "GongHouseLaw" (184 : Nat) ({ cls := "GongHouseModel", name := "back", desc := "()I" } : Jvm.MethodName)) ∈ q_gw := q_gwm 1832 rfl rfl
set_option maxRecDepth 100000 in
theorem wd_1833 : (Jvm.Cond.instanceMethod ({ cls := "GongHouseModel", name := "back", desc := "()I" } : Jvm.MethodName)) ∈ q_gw := q_gwm 1833 rfl rfl
set_option maxRecDepth 100000 in
theorem wd_1834 : (Jvm.Cond.selects "GongHouseModel" ({ cls := "GongHouseModel", name := "back", desc := "()I" } : Jvm.MethodName) ({ cls := "GongHouseModel", name := "back", desc := "()I" } : Jvm.MethodName)) ∈ q_gw := q_gwm 1834 rfl rfl
set_option maxRecDepth 100000 in
theorem wd_1835 : (Jvm.Cond.code ({ cls := "GongHouseModel", name := "back", desc := "()I" } : Jvm.MethodName) prog_14_method_113_code (2 : Nat) (Option.some Jvm.ClassFile.FieldType.int)) ∈ q_gw := q_gwm 1835 rfl rfl
set_option maxRecDepth 100000 in
theorem wd_1836 : (Jvm.Cond.methodLink "GongHouseLaw" (188 : Nat) ({ cls := "GongHouseModel", name := "count", desc := "(I)I" } : Jvm.MethodName)) ∈ q_gw := q_gwm 1836 rfl rfl
set_option maxRecDepth 100000 in
theorem wd_1837 : (Jvm.Cond.instanceMethod ({ cls := "GongHouseModel", name := "count", desc := "(I)I" } : Jvm.MethodName)) ∈ q_gw := q_gwm 1837 rfl rfl
set_option maxRecDepth 100000 in
theorem wd_1838 : (Jvm.Cond.selects "GongHouseModel" ({ cls := "GongHouseModel", name := "count", desc := "(I)I" } : Jvm.MethodName) ({ cls := "GongHouseModel", name := "count", desc := "(I)I" } : Jvm.MethodName)) ∈ q_gw := q_gwm 1838 rfl rfl
set_option maxRecDepth 100000 in
theorem wd_1839 : (Jvm.Cond.code ({ cls := "GongHouseModel", name := "count", desc := "(I)I" } : Jvm.MethodName) prog_14_method_114_code (4 : Nat) (Option.some Jvm.ClassFile.FieldType.int)) ∈ q_gw := q_gwm 1839 rfl rfl
set_option maxRecDepth 100000 in
theorem wd_1840 : (Jvm.Cond.constantLong "GongHouseLaw" (88 : Nat) (4294967295 : Int64)) ∈ q_gw := q_gwm 1840 rfl rfl
set_option maxRecDepth 100000 in
theorem wd_1841 : (Jvm.Cond.arrayClass Jvm.ClassFile.FieldType.long) ∈ q_gw := q_gwm 1841 rfl rfl
set_option maxRecDepth 100000 in
theorem wn_37 : (Jvm.Cond.methodLinkNest "GongHouse" (11 : Nat) ({ cls := "GongHouse$Tape", name := "<init>", desc := "()V" } : Jvm.MethodName) "GongHouse") ∈ q_nw := q_nwm 37 rfl rfl
set_option maxRecDepth 100000 in
theorem wn_43 : (Jvm.Cond.fieldLinkNest "GongHouse" (128 : Nat) "GongHouse$Tape" "length" "I" "GongHouse") ∈ q_nw := q_nwm 43 rfl rfl
set_option maxRecDepth 100000 in
theorem wn_45 : (Jvm.Cond.fieldLinkNest "GongHouse$Week" (39 : Nat) "GongHouse$Tape" "eye" "I" "GongHouse") ∈ q_nw := q_nwm 45 rfl rfl
set_option maxRecDepth 100000 in
theorem wn_46 : (Jvm.Cond.fieldLinkNest "GongHouse" (139 : Nat) "GongHouse$Tape" "eye" "I" "GongHouse") ∈ q_nw := q_nwm 46 rfl rfl
set_option maxRecDepth 100000 in
theorem wn_47 : (Jvm.Cond.fieldLinkNest "GongHouse$LawReader" (72 : Nat) "GongHouse$Tape" "eye" "I" "GongHouse") ∈ q_nw := q_nwm 47 rfl rfl
set_option maxRecDepth 100000 in
theorem wn_48 : (Jvm.Cond.fieldLinkNest "GongHouse$House" (72 : Nat) "GongHouse$Tape" "eye" "I" "GongHouse") ∈ q_nw := q_nwm 48 rfl rfl
set_option maxRecDepth 100000 in
theorem wn_50 : (Jvm.Cond.fieldLinkNest "GongHouse$Week" (49 : Nat) "GongHouse$Tape" "number" "I" "GongHouse") ∈ q_nw := q_nwm 50 rfl rfl
set_option maxRecDepth 100000 in
theorem wn_51 : (Jvm.Cond.fieldLinkNest "GongHouse$LawReader" (91 : Nat) "GongHouse$Tape" "number" "I" "GongHouse") ∈ q_nw := q_nwm 51 rfl rfl
set_option maxRecDepth 100000 in
theorem wn_52 : (Jvm.Cond.fieldLinkNest "GongHouse$House" (101 : Nat) "GongHouse$Tape" "number" "I" "GongHouse") ∈ q_nw := q_nwm 52 rfl rfl
set_option maxRecDepth 100000 in
theorem wn_65 : (Jvm.Cond.methodLinkNest "GongHouse" (18 : Nat) ({ cls := "GongHouse$House", name := "<init>", desc := "()V" } : Jvm.MethodName) "GongHouse") ∈ q_nw := q_nwm 65 rfl rfl
set_option maxRecDepth 100000 in
theorem wn_70 : (Jvm.Cond.fieldLinkNest "GongHouse$State" (27 : Nat) "GongHouse$House" "rules" "[I" "GongHouse") ∈ q_nw := q_nwm 70 rfl rfl
set_option maxRecDepth 100000 in
theorem wn_71 : (Jvm.Cond.fieldLinkNest "GongHouse$Evening" (92 : Nat) "GongHouse$House" "rules" "[I" "GongHouse") ∈ q_nw := q_nwm 71 rfl rfl
set_option maxRecDepth 100000 in
theorem wn_72 : (Jvm.Cond.fieldLinkNest "GongHouse" (160 : Nat) "GongHouse$House" "rules" "[I" "GongHouse") ∈ q_nw := q_nwm 72 rfl rfl
set_option maxRecDepth 100000 in
theorem wn_74 : (Jvm.Cond.fieldLinkNest "GongHouse" (346 : Nat) "GongHouse$House" "dishes" "[I" "GongHouse") ∈ q_nw := q_nwm 74 rfl rfl
set_option maxRecDepth 100000 in
theorem wn_76 : (Jvm.Cond.fieldLinkNest "GongHouse" (343 : Nat) "GongHouse$House" "guests" "[I" "GongHouse") ∈ q_nw := q_nwm 76 rfl rfl
set_option maxRecDepth 100000 in
theorem wn_78 : (Jvm.Cond.fieldLinkNest "GongHouse$Evening" (100 : Nat) "GongHouse$House" "byComing" "[I" "GongHouse") ∈ q_nw := q_nwm 78 rfl rfl
set_option maxRecDepth 100000 in
theorem wn_80 : (Jvm.Cond.fieldLinkNest "GongHouse$Foresight" (93 : Nat) "GongHouse$House" "dishCount" "I" "GongHouse") ∈ q_nw := q_nwm 80 rfl rfl
set_option maxRecDepth 100000 in
theorem wn_81 : (Jvm.Cond.fieldLinkNest "GongHouse$Sights" (54 : Nat) "GongHouse$House" "dishCount" "I" "GongHouse") ∈ q_nw := q_nwm 81 rfl rfl
set_option maxRecDepth 100000 in
theorem wn_82 : (Jvm.Cond.fieldLinkNest "GongHouse" (349 : Nat) "GongHouse$House" "dishCount" "I" "GongHouse") ∈ q_nw := q_nwm 82 rfl rfl
set_option maxRecDepth 100000 in
theorem wn_84 : (Jvm.Cond.fieldLinkNest "GongHouse$Evening" (66 : Nat) "GongHouse$House" "guestCount" "I" "GongHouse") ∈ q_nw := q_nwm 84 rfl rfl
set_option maxRecDepth 100000 in
theorem wn_85 : (Jvm.Cond.fieldLinkNest "GongHouse$State" (32 : Nat) "GongHouse$House" "guestCount" "I" "GongHouse") ∈ q_nw := q_nwm 85 rfl rfl
set_option maxRecDepth 100000 in
theorem wn_86 : (Jvm.Cond.fieldLinkNest "GongHouse" (336 : Nat) "GongHouse$House" "guestCount" "I" "GongHouse") ∈ q_nw := q_nwm 86 rfl rfl
set_option maxRecDepth 100000 in
theorem wn_106 : (Jvm.Cond.methodLinkNest "GongHouse" (28 : Nat) ({ cls := "GongHouse$LawReader", name := "<init>", desc := "(LGongHouse$Tape;)V" } : Jvm.MethodName) "GongHouse") ∈ q_nw := q_nwm 106 rfl rfl
set_option maxRecDepth 100000 in
theorem wn_126 : (Jvm.Cond.methodLinkNest "GongHouse" (49 : Nat) ({ cls := "GongHouse$State", name := "<init>", desc := "()V" } : Jvm.MethodName) "GongHouse") ∈ q_nw := q_nwm 126 rfl rfl
set_option maxRecDepth 100000 in
theorem wn_131 : (Jvm.Cond.fieldLinkNest "GongHouse$Evening" (51 : Nat) "GongHouse$State" "at" "[I" "GongHouse") ∈ q_nw := q_nwm 131 rfl rfl
set_option maxRecDepth 100000 in
theorem wn_132 : (Jvm.Cond.fieldLinkNest "GongHouse$Deeds" (19 : Nat) "GongHouse$State" "at" "[I" "GongHouse") ∈ q_nw := q_nwm 132 rfl rfl
set_option maxRecDepth 100000 in
theorem wn_133 : (Jvm.Cond.fieldLinkNest "GongHouse$Past" (39 : Nat) "GongHouse$State" "at" "[I" "GongHouse") ∈ q_nw := q_nwm 133 rfl rfl
set_option maxRecDepth 100000 in
theorem wn_134 : (Jvm.Cond.fieldLinkNest "GongHouse$Foresight" (98 : Nat) "GongHouse$State" "at" "[I" "GongHouse") ∈ q_nw := q_nwm 134 rfl rfl
set_option maxRecDepth 100000 in
theorem wn_135 : (Jvm.Cond.fieldLinkNest "GongHouse" (156 : Nat) "GongHouse$State" "at" "[I" "GongHouse") ∈ q_nw := q_nwm 135 rfl rfl
set_option maxRecDepth 100000 in
theorem wn_141 : (Jvm.Cond.methodLinkNest "GongHouse" (59 : Nat) ({ cls := "GongHouse$Past", name := "<init>", desc := "()V" } : Jvm.MethodName) "GongHouse") ∈ q_nw := q_nwm 141 rfl rfl
set_option maxRecDepth 100000 in
theorem wn_146 : (Jvm.Cond.methodLinkNest "GongHouse$Past" (23 : Nat) ({ cls := "GongHouse$State", name := "<init>", desc := "()V" } : Jvm.MethodName) "GongHouse") ∈ q_nw := q_nwm 146 rfl rfl
set_option maxRecDepth 100000 in
theorem wn_154 : (Jvm.Cond.fieldLinkNest "GongHouse" (225 : Nat) "GongHouse$Past" "actCount" "I" "GongHouse") ∈ q_nw := q_nwm 154 rfl rfl
set_option maxRecDepth 100000 in
theorem wn_172 : (Jvm.Cond.methodLinkNest "GongHouse" (66 : Nat) ({ cls := "GongHouse$Evening", name := "<init>", desc := "(LGongHouse$House;)V" } : Jvm.MethodName) "GongHouse") ∈ q_nw := q_nwm 172 rfl rfl
set_option maxRecDepth 100000 in
theorem wn_178 : (Jvm.Cond.fieldLinkNest "GongHouse" (275 : Nat) "GongHouse$Evening" "fedPortions" "[I" "GongHouse") ∈ q_nw := q_nwm 178 rfl rfl
set_option maxRecDepth 100000 in
theorem wn_181 : (Jvm.Cond.fieldLinkNest "GongHouse" (188 : Nat) "GongHouse$Evening" "law" "LGongHouse$Law;" "GongHouse") ∈ q_nw := q_nwm 181 rfl rfl
set_option maxRecDepth 100000 in
theorem wn_183 : (Jvm.Cond.fieldLinkNest "GongHouse$Foresight" (115 : Nat) "GongHouse$Evening" "thereBits" "I" "GongHouse") ∈ q_nw := q_nwm 183 rfl rfl
set_option maxRecDepth 100000 in
theorem wn_184 : (Jvm.Cond.fieldLinkNest "GongHouse" (265 : Nat) "GongHouse$Evening" "thereBits" "I" "GongHouse") ∈ q_nw := q_nwm 184 rfl rfl
set_option maxRecDepth 100000 in
theorem wn_186 : (Jvm.Cond.fieldLinkNest "GongHouse" (367 : Nat) "GongHouse$Evening" "cooks" "I" "GongHouse") ∈ q_nw := q_nwm 186 rfl rfl
set_option maxRecDepth 100000 in
theorem wn_188 : (Jvm.Cond.fieldLinkNest "GongHouse$Foresight" (121 : Nat) "GongHouse$Evening" "portions" "I" "GongHouse") ∈ q_nw := q_nwm 188 rfl rfl
set_option maxRecDepth 100000 in
theorem wn_190 : (Jvm.Cond.fieldLinkNest "GongHouse$Past" (58 : Nat) "GongHouse$Evening" "dish" "I" "GongHouse") ∈ q_nw := q_nwm 190 rfl rfl
set_option maxRecDepth 100000 in
theorem wn_191 : (Jvm.Cond.fieldLinkNest "GongHouse$Foresight" (105 : Nat) "GongHouse$Evening" "dish" "I" "GongHouse") ∈ q_nw := q_nwm 191 rfl rfl
set_option maxRecDepth 100000 in
theorem wn_192 : (Jvm.Cond.fieldLinkNest "GongHouse" (256 : Nat) "GongHouse$Evening" "dish" "I" "GongHouse") ∈ q_nw := q_nwm 192 rfl rfl
set_option maxRecDepth 100000 in
theorem wn_194 : (Jvm.Cond.fieldLinkNest "GongHouse$Foresight" (108 : Nat) "GongHouse$Evening" "warmth" "I" "GongHouse") ∈ q_nw := q_nwm 194 rfl rfl
set_option maxRecDepth 100000 in
theorem wn_195 : (Jvm.Cond.fieldLinkNest "GongHouse" (259 : Nat) "GongHouse$Evening" "warmth" "I" "GongHouse") ∈ q_nw := q_nwm 195 rfl rfl
set_option maxRecDepth 100000 in
theorem wn_197 : (Jvm.Cond.fieldLinkNest "GongHouse" (262 : Nat) "GongHouse$Evening" "servings" "I" "GongHouse") ∈ q_nw := q_nwm 197 rfl rfl
set_option maxRecDepth 100000 in
theorem wn_199 : (Jvm.Cond.fieldLinkNest "GongHouse$Past" (63 : Nat) "GongHouse$Evening" "fedBits" "I" "GongHouse") ∈ q_nw := q_nwm 199 rfl rfl
set_option maxRecDepth 100000 in
theorem wn_200 : (Jvm.Cond.fieldLinkNest "GongHouse$Foresight" (118 : Nat) "GongHouse$Evening" "fedBits" "I" "GongHouse") ∈ q_nw := q_nwm 200 rfl rfl
set_option maxRecDepth 100000 in
theorem wn_201 : (Jvm.Cond.fieldLinkNest "GongHouse" (196 : Nat) "GongHouse$Evening" "fedBits" "I" "GongHouse") ∈ q_nw := q_nwm 201 rfl rfl
set_option maxRecDepth 100000 in
theorem wn_203 : (Jvm.Cond.fieldLinkNest "GongHouse" (358 : Nat) "GongHouse$Evening" "thrownAway" "I" "GongHouse") ∈ q_nw := q_nwm 203 rfl rfl
set_option maxRecDepth 100000 in
theorem wn_231 : (Jvm.Cond.methodLinkNest "GongHouse" (75 : Nat) ({ cls := "GongHouse$Deeds", name := "<init>", desc := "(LGongHouse$House;LGongHouse$Evening;)V" } : Jvm.MethodName) "GongHouse") ∈ q_nw := q_nwm 231 rfl rfl
set_option maxRecDepth 100000 in
theorem wn_244 : (Jvm.Cond.methodLinkNest "GongHouse" (84 : Nat) ({ cls := "GongHouse$Foresight", name := "<init>", desc := "(LGongHouse$House;LGongHouse$Evening;LGongHouse$Deeds;)V" } : Jvm.MethodName) "GongHouse") ∈ q_nw := q_nwm 244 rfl rfl
set_option maxRecDepth 100000 in
theorem wn_249 : (Jvm.Cond.methodLinkNest "GongHouse$Foresight" (13 : Nat) ({ cls := "GongHouse$State", name := "<init>", desc := "()V" } : Jvm.MethodName) "GongHouse") ∈ q_nw := q_nwm 249 rfl rfl
set_option maxRecDepth 100000 in
theorem wn_259 : (Jvm.Cond.fieldLinkNest "GongHouse" (249 : Nat) "GongHouse$Foresight" "joyGained" "I" "GongHouse") ∈ q_nw := q_nwm 259 rfl rfl
set_option maxRecDepth 100000 in
theorem wn_261 : (Jvm.Cond.fieldLinkNest "GongHouse" (281 : Nat) "GongHouse$Foresight" "bestRow" "I" "GongHouse") ∈ q_nw := q_nwm 261 rfl rfl
set_option maxRecDepth 100000 in
theorem wn_263 : (Jvm.Cond.fieldLinkNest "GongHouse" (284 : Nat) "GongHouse$Foresight" "bestJoy" "I" "GongHouse") ∈ q_nw := q_nwm 263 rfl rfl
set_option maxRecDepth 100000 in
theorem wn_265 : (Jvm.Cond.fieldLinkNest "GongHouse" (316 : Nat) "GongHouse$Foresight" "firstHas" "I" "GongHouse") ∈ q_nw := q_nwm 265 rfl rfl
set_option maxRecDepth 100000 in
theorem wn_267 : (Jvm.Cond.fieldLinkNest "GongHouse" (319 : Nat) "GongHouse$Foresight" "secondHas" "I" "GongHouse") ∈ q_nw := q_nwm 267 rfl rfl
set_option maxRecDepth 100000 in
theorem wn_295 : (Jvm.Cond.methodLinkNest "GongHouse" (93 : Nat) ({ cls := "GongHouse$Sights", name := "<init>", desc := "(LGongHouse$House;LGongHouse$Evening;)V" } : Jvm.MethodName) "GongHouse") ∈ q_nw := q_nwm 295 rfl rfl
set_option maxRecDepth 100000 in
theorem wn_303 : (Jvm.Cond.fieldLinkNest "GongHouse" (391 : Nat) "GongHouse$Sights" "count" "I" "GongHouse") ∈ q_nw := q_nwm 303 rfl rfl
set_option maxRecDepth 100000 in
theorem wn_314 : (Jvm.Cond.methodLinkNest "GongHouse" (98 : Nat) ({ cls := "GongHouse$Week", name := "<init>", desc := "()V" } : Jvm.MethodName) "GongHouse") ∈ q_nw := q_nwm 314 rfl rfl
set_option maxRecDepth 100000 in
theorem wn_320 : (Jvm.Cond.fieldLinkNest "GongHouse$Foresight" (61 : Nat) "GongHouse$Week" "size" "I" "GongHouse") ∈ q_nw := q_nwm 320 rfl rfl
set_option maxRecDepth 100000 in
theorem wn_321 : (Jvm.Cond.fieldLinkNest "GongHouse" (239 : Nat) "GongHouse$Week" "size" "I" "GongHouse") ∈ q_nw := q_nwm 321 rfl rfl
set_option maxRecDepth 100000 in
theorem wn_392 : (Jvm.Cond.methodLinkNest "GongHouse" (124 : Nat) ({ cls := "GongHouse$Tape", name := "bytesIn", desc := "(I)I" } : Jvm.MethodName) "GongHouse") ∈ q_nw := q_nwm 392 rfl rfl
set_option maxRecDepth 100000 in
theorem wn_395 : (Jvm.Cond.methodLinkNest "GongHouse" (131 : Nat) ({ cls := "GongHouse$Tape", name := "append", desc := "(I)V" } : Jvm.MethodName) "GongHouse") ∈ q_nw := q_nwm 395 rfl rfl
set_option maxRecDepth 100000 in
theorem wn_411 : (Jvm.Cond.methodLinkNest "GongHouse" (394 : Nat) ({ cls := "GongHouse$House", name := "readFrom", desc := "(LGongHouse$Tape;)Z" } : Jvm.MethodName) "GongHouse") ∈ q_nw := q_nwm 411 rfl rfl
set_option maxRecDepth 100000 in
theorem wn_415 : (Jvm.Cond.fieldLinkNest "GongHouse$House" (51 : Nat) "GongHouse" "RULE_BOUNDS" "[I" "GongHouse") ∈ q_nw := q_nwm 415 rfl rfl
set_option maxRecDepth 100000 in
theorem wn_424 : (Jvm.Cond.methodLinkNest "GongHouse$House" (62 : Nat) ({ cls := "GongHouse$Tape", name := "peek", desc := "()I" } : Jvm.MethodName) "GongHouse") ∈ q_nw := q_nwm 424 rfl rfl
set_option maxRecDepth 100000 in
theorem wn_442 : (Jvm.Cond.methodLinkNest "GongHouse$House" (93 : Nat) ({ cls := "GongHouse$Tape", name := "peekAmong", desc := "(Ljava/lang/String;)I" } : Jvm.MethodName) "GongHouse") ∈ q_nw := q_nwm 442 rfl rfl
set_option maxRecDepth 100000 in
theorem wn_524 : (Jvm.Cond.methodLinkNest "GongHouse$House" (97 : Nat) ({ cls := "GongHouse$Tape", name := "readNumber", desc := "(III)Z" } : Jvm.MethodName) "GongHouse") ∈ q_nw := q_nwm 524 rfl rfl
set_option maxRecDepth 100000 in
theorem wn_532 : (Jvm.Cond.fieldLinkNest "GongHouse$House" (83 : Nat) "GongHouse" "DISH_BOUNDS" "[I" "GongHouse") ∈ q_nw := q_nwm 532 rfl rfl
set_option maxRecDepth 100000 in
theorem wn_535 : (Jvm.Cond.fieldLinkNest "GongHouse$House" (44 : Nat) "GongHouse" "GUEST_BOUNDS" "[I" "GongHouse") ∈ q_nw := q_nwm 535 rfl rfl
set_option maxRecDepth 100000 in
theorem wn_537 : (Jvm.Cond.methodLinkNest "GongHouse$House" (68 : Nat) ({ cls := "GongHouse$Tape", name := "take", desc := "(C)Z" } : Jvm.MethodName) "GongHouse") ∈ q_nw := q_nwm 537 rfl rfl
set_option maxRecDepth 100000 in
theorem wn_541 : (Jvm.Cond.methodLinkNest "GongHouse" (398 : Nat) ({ cls := "GongHouse$LawReader", name := "readLaw", desc := "()Z" } : Jvm.MethodName) "GongHouse") ∈ q_nw := q_nwm 541 rfl rfl
set_option maxRecDepth 100000 in
theorem wn_549 : (Jvm.Cond.methodLinkNest "GongHouse$LawReader" (39 : Nat) ({ cls := "GongHouse$Tape", name := "take", desc := "(C)Z" } : Jvm.MethodName) "GongHouse") ∈ q_nw := q_nwm 549 rfl rfl
set_option maxRecDepth 100000 in
theorem wn_551 : (Jvm.Cond.methodLinkNest "GongHouse$LawReader" (45 : Nat) ({ cls := "GongHouse$Tape", name := "peekAmong", desc := "(Ljava/lang/String;)I" } : Jvm.MethodName) "GongHouse") ∈ q_nw := q_nwm 551 rfl rfl
set_option maxRecDepth 100000 in
theorem wn_569 : (Jvm.Cond.methodLinkNest "GongHouse$LawReader" (87 : Nat) ({ cls := "GongHouse$Tape", name := "readNumber", desc := "(III)Z" } : Jvm.MethodName) "GongHouse") ∈ q_nw := q_nwm 569 rfl rfl
set_option maxRecDepth 100000 in
theorem wn_589 : (Jvm.Cond.methodLinkNest "GongHouse$LawReader" (33 : Nat) ({ cls := "GongHouse$Tape", name := "peek", desc := "()I" } : Jvm.MethodName) "GongHouse") ∈ q_nw := q_nwm 589 rfl rfl
set_option maxRecDepth 100000 in
theorem wn_590 : (Jvm.Cond.methodLinkNest "GongHouse" (402 : Nat) ({ cls := "GongHouse$Week", name := "readFrom", desc := "(LGongHouse$Tape;)Z" } : Jvm.MethodName) "GongHouse") ∈ q_nw := q_nwm 590 rfl rfl
set_option maxRecDepth 100000 in
theorem wn_599 : (Jvm.Cond.methodLinkNest "GongHouse$Week" (35 : Nat) ({ cls := "GongHouse$Tape", name := "peekAmong", desc := "(Ljava/lang/String;)I" } : Jvm.MethodName) "GongHouse") ∈ q_nw := q_nwm 599 rfl rfl
set_option maxRecDepth 100000 in
theorem wn_600 : (Jvm.Cond.fieldLinkNest "GongHouse$Week" (42 : Nat) "GongHouse" "STEP_DIGITS" "[I" "GongHouse") ∈ q_nw := q_nwm 600 rfl rfl
set_option maxRecDepth 100000 in
theorem wn_602 : (Jvm.Cond.methodLinkNest "GongHouse$Week" (45 : Nat) ({ cls := "GongHouse$Tape", name := "readDigit", desc := "()Z" } : Jvm.MethodName) "GongHouse") ∈ q_nw := q_nwm 602 rfl rfl
set_option maxRecDepth 100000 in
theorem wn_606 : (Jvm.Cond.methodLinkNest "GongHouse$Week" (23 : Nat) ({ cls := "GongHouse$Tape", name := "peek", desc := "()I" } : Jvm.MethodName) "GongHouse") ∈ q_nw := q_nwm 606 rfl rfl
set_option maxRecDepth 100000 in
theorem wn_607 : (Jvm.Cond.methodLinkNest "GongHouse$Week" (29 : Nat) ({ cls := "GongHouse$Tape", name := "take", desc := "(C)Z" } : Jvm.MethodName) "GongHouse") ∈ q_nw := q_nwm 607 rfl rfl
set_option maxRecDepth 100000 in
theorem wn_620 : (Jvm.Cond.methodLinkNest "GongHouse" (403 : Nat) ({ cls := "GongHouse$House", name := "copyFrom", desc := "(LGongHouse$House;)V" } : Jvm.MethodName) "GongHouse") ∈ q_nw := q_nwm 620 rfl rfl
set_option maxRecDepth 100000 in
theorem wn_635 : (Jvm.Cond.methodLinkNest "GongHouse" (405 : Nat) ({ cls := "GongHouse$State", name := "begin", desc := "(LGongHouse$House;)V" } : Jvm.MethodName) "GongHouse") ∈ q_nw := q_nwm 635 rfl rfl
set_option maxRecDepth 100000 in
theorem wn_642 : (Jvm.Cond.methodLinkNest "GongHouse$State" (36 : Nat) ({ cls := "GongHouse$House", name := "ofGuest", desc := "(II)I" } : Jvm.MethodName) "GongHouse") ∈ q_nw := q_nwm 642 rfl rfl
set_option maxRecDepth 100000 in
theorem wn_643 : (Jvm.Cond.methodLinkNest "GongHouse" (408 : Nat) ({ cls := "GongHouse$Past", name := "forget", desc := "()V" } : Jvm.MethodName) "GongHouse") ∈ q_nw := q_nwm 643 rfl rfl
set_option maxRecDepth 100000 in
theorem wn_648 : (Jvm.Cond.methodLinkNest "GongHouse" (149 : Nat) ({ cls := "GongHouse$LawReader", name := "written", desc := "()[I" } : Jvm.MethodName) "GongHouse") ∈ q_nw := q_nwm 648 rfl rfl
set_option maxRecDepth 100000 in
theorem wn_664 : (Jvm.Cond.methodLinkNest "GongHouse" (153 : Nat) ({ cls := "GongHouse$Law", name := "<init>", desc := "([I)V" } : Jvm.MethodName) "GongHouse") ∈ q_nw := q_nwm 664 rfl rfl
set_option maxRecDepth 100000 in
theorem wn_683 : (Jvm.Cond.methodLinkNest "GongHouse" (163 : Nat) ({ cls := "GongHouse$House", name := "hasDish", desc := "(I)Z" } : Jvm.MethodName) "GongHouse") ∈ q_nw := q_nwm 683 rfl rfl
set_option maxRecDepth 100000 in
theorem wn_687 : (Jvm.Cond.methodLinkNest "GongHouse" (166 : Nat) ({ cls := "GongHouse$House", name := "ofDish", desc := "(II)I" } : Jvm.MethodName) "GongHouse") ∈ q_nw := q_nwm 687 rfl rfl
set_option maxRecDepth 100000 in
theorem wn_707 : (Jvm.Cond.methodLinkNest "GongHouse" (204 : Nat) ({ cls := "GongHouse$State", name := "copyFrom", desc := "(LGongHouse$State;)V" } : Jvm.MethodName) "GongHouse") ∈ q_nw := q_nwm 707 rfl rfl
set_option maxRecDepth 100000 in
theorem wn_712 : (Jvm.Cond.methodLinkNest "GongHouse" (411 : Nat) ({ cls := "GongHouse$Deeds", name := "carryOut", desc := "(LGongHouse$State;III)Z" } : Jvm.MethodName) "GongHouse") ∈ q_nw := q_nwm 712 rfl rfl
set_option maxRecDepth 100000 in
theorem wn_716 : (Jvm.Cond.methodLinkNest "GongHouse$Deeds" (25 : Nat) ({ cls := "GongHouse$Evening", name := "pass", desc := "(LGongHouse$State;)V" } : Jvm.MethodName) "GongHouse") ∈ q_nw := q_nwm 716 rfl rfl
set_option maxRecDepth 100000 in
theorem wn_728 : (Jvm.Cond.methodLinkNest "GongHouse$Evening" (56 : Nat) ({ cls := "GongHouse$House", name := "ofGuest", desc := "(II)I" } : Jvm.MethodName) "GongHouse") ∈ q_nw := q_nwm 728 rfl rfl
set_option maxRecDepth 100000 in
theorem wn_729 : (Jvm.Cond.methodLinkNest "GongHouse$Evening" (62 : Nat) ({ cls := "GongHouse$State", name := "hasLeft", desc := "(I)Z" } : Jvm.MethodName) "GongHouse") ∈ q_nw := q_nwm 729 rfl rfl
set_option maxRecDepth 100000 in
theorem wn_733 : (Jvm.Cond.methodLinkNest "GongHouse$Evening" (73 : Nat) ({ cls := "GongHouse$House", name := "dishByDay", desc := "(I)I" } : Jvm.MethodName) "GongHouse") ∈ q_nw := q_nwm 733 rfl rfl
set_option maxRecDepth 100000 in
theorem wn_747 : (Jvm.Cond.methodLinkNest "GongHouse$Evening" (89 : Nat) ({ cls := "GongHouse$House", name := "ofDish", desc := "(II)I" } : Jvm.MethodName) "GongHouse") ∈ q_nw := q_nwm 747 rfl rfl
set_option maxRecDepth 100000 in
theorem wn_761 : (Jvm.Cond.methodLinkNest "GongHouse$Evening" (117 : Nat) ({ cls := "GongHouse$Law", name := "worth", desc := "([I)I" } : Jvm.MethodName) "GongHouse") ∈ q_nw := q_nwm 761 rfl rfl
set_option maxRecDepth 100000 in
theorem wn_776 : (Jvm.Cond.methodLinkNest "GongHouse$Deeds" (49 : Nat) ({ cls := "GongHouse$House", name := "hasDish", desc := "(I)Z" } : Jvm.MethodName) "GongHouse") ∈ q_nw := q_nwm 776 rfl rfl
set_option maxRecDepth 100000 in
theorem wn_789 : (Jvm.Cond.methodLinkNest "GongHouse$Deeds" (55 : Nat) ({ cls := "GongHouse$House", name := "hasGuest", desc := "(I)Z" } : Jvm.MethodName) "GongHouse") ∈ q_nw := q_nwm 789 rfl rfl
set_option maxRecDepth 100000 in
theorem wn_793 : (Jvm.Cond.methodLinkNest "GongHouse$Deeds" (58 : Nat) ({ cls := "GongHouse$State", name := "hasLeft", desc := "(I)Z" } : Jvm.MethodName) "GongHouse") ∈ q_nw := q_nwm 793 rfl rfl
set_option maxRecDepth 100000 in
theorem wn_798 : (Jvm.Cond.methodLinkNest "GongHouse" (214 : Nat) ({ cls := "GongHouse$Past", name := "keepAct", desc := "(LGongHouse$State;)V" } : Jvm.MethodName) "GongHouse") ∈ q_nw := q_nwm 798 rfl rfl
set_option maxRecDepth 100000 in
theorem wn_804 : (Jvm.Cond.methodLinkNest "GongHouse" (217 : Nat) ({ cls := "GongHouse$Past", name := "writeLog", desc := "(LGongHouse$State;LGongHouse$Evening;)V" } : Jvm.MethodName) "GongHouse") ∈ q_nw := q_nwm 804 rfl rfl
set_option maxRecDepth 100000 in
theorem wn_811 : (Jvm.Cond.methodLinkNest "GongHouse$Past" (66 : Nat) ({ cls := "GongHouse$State", name := "joyOfAll", desc := "()I" } : Jvm.MethodName) "GongHouse") ∈ q_nw := q_nwm 811 rfl rfl
set_option maxRecDepth 100000 in
theorem wn_850 : (Jvm.Cond.methodLinkNest "GongHouse" (211 : Nat) ({ cls := "GongHouse$Evening", name := "pass", desc := "(LGongHouse$State;)V" } : Jvm.MethodName) "GongHouse") ∈ q_nw := q_nwm 850 rfl rfl
set_option maxRecDepth 100000 in
theorem wn_855 : (Jvm.Cond.methodLinkNest "GongHouse" (221 : Nat) ({ cls := "GongHouse$Past", name := "undoAct", desc := "(LGongHouse$State;)Z" } : Jvm.MethodName) "GongHouse") ∈ q_nw := q_nwm 855 rfl rfl
set_option maxRecDepth 100000 in
theorem wn_863 : (Jvm.Cond.methodLinkNest "GongHouse" (228 : Nat) ({ cls := "GongHouse$Past", name := "logLength", desc := "(I)I" } : Jvm.MethodName) "GongHouse") ∈ q_nw := q_nwm 863 rfl rfl
set_option maxRecDepth 100000 in
theorem wn_867 : (Jvm.Cond.methodLinkNest "GongHouse" (232 : Nat) ({ cls := "GongHouse$Past", name := "ofLog", desc := "(II)I" } : Jvm.MethodName) "GongHouse") ∈ q_nw := q_nwm 867 rfl rfl
set_option maxRecDepth 100000 in
theorem wn_880 : (Jvm.Cond.methodLinkNest "GongHouse" (242 : Nat) ({ cls := "GongHouse$Week", name := "ofStep", desc := "(II)I" } : Jvm.MethodName) "GongHouse") ∈ q_nw := q_nwm 880 rfl rfl
set_option maxRecDepth 100000 in
theorem wn_888 : (Jvm.Cond.methodLinkNest "GongHouse" (245 : Nat) ({ cls := "GongHouse$Foresight", name := "stepsDone", desc := "(LGongHouse$State;LGongHouse$Week;)I" } : Jvm.MethodName) "GongHouse") ∈ q_nw := q_nwm 888 rfl rfl
set_option maxRecDepth 100000 in
theorem wn_892 : (Jvm.Cond.methodLinkNest "GongHouse$Foresight" (57 : Nat) ({ cls := "GongHouse$State", name := "copyFrom", desc := "(LGongHouse$State;)V" } : Jvm.MethodName) "GongHouse") ∈ q_nw := q_nwm 892 rfl rfl
set_option maxRecDepth 100000 in
theorem wn_893 : (Jvm.Cond.methodLinkNest "GongHouse$Foresight" (66 : Nat) ({ cls := "GongHouse$Week", name := "ofStep", desc := "(II)I" } : Jvm.MethodName) "GongHouse") ∈ q_nw := q_nwm 893 rfl rfl
set_option maxRecDepth 100000 in
theorem wn_894 : (Jvm.Cond.methodLinkNest "GongHouse$Foresight" (70 : Nat) ({ cls := "GongHouse$Deeds", name := "carryOut", desc := "(LGongHouse$State;III)Z" } : Jvm.MethodName) "GongHouse") ∈ q_nw := q_nwm 894 rfl rfl
set_option maxRecDepth 100000 in
theorem wn_895 : (Jvm.Cond.methodLinkNest "GongHouse$Foresight" (76 : Nat) ({ cls := "GongHouse$State", name := "joyOfAll", desc := "()I" } : Jvm.MethodName) "GongHouse") ∈ q_nw := q_nwm 895 rfl rfl
set_option maxRecDepth 100000 in
theorem wn_904 : (Jvm.Cond.methodLinkNest "GongHouse" (252 : Nat) ({ cls := "GongHouse$Foresight", name := "layAhead", desc := "(LGongHouse$State;I)V" } : Jvm.MethodName) "GongHouse") ∈ q_nw := q_nwm 904 rfl rfl
set_option maxRecDepth 100000 in
theorem wn_908 : (Jvm.Cond.methodLinkNest "GongHouse$Foresight" (80 : Nat) ({ cls := "GongHouse$Evening", name := "pass", desc := "(LGongHouse$State;)V" } : Jvm.MethodName) "GongHouse") ∈ q_nw := q_nwm 908 rfl rfl
set_option maxRecDepth 100000 in
theorem wn_909 : (Jvm.Cond.methodLinkNest "GongHouse$Foresight" (85 : Nat) ({ cls := "GongHouse$Evening", name := "lay", desc := "(LGongHouse$State;)V" } : Jvm.MethodName) "GongHouse") ∈ q_nw := q_nwm 909 rfl rfl
set_option maxRecDepth 100000 in
theorem wn_918 : (Jvm.Cond.methodLinkNest "GongHouse" (170 : Nat) ({ cls := "GongHouse$House", name := "hasGuest", desc := "(I)Z" } : Jvm.MethodName) "GongHouse") ∈ q_nw := q_nwm 918 rfl rfl
set_option maxRecDepth 100000 in
theorem wn_919 : (Jvm.Cond.methodLinkNest "GongHouse" (268 : Nat) ({ cls := "GongHouse$Evening", name := "isThere", desc := "(LGongHouse$State;I)Z" } : Jvm.MethodName) "GongHouse") ∈ q_nw := q_nwm 919 rfl rfl
set_option maxRecDepth 100000 in
theorem wn_920 : (Jvm.Cond.methodLinkNest "GongHouse" (272 : Nat) ({ cls := "GongHouse$Evening", name := "lay", desc := "(LGongHouse$State;)V" } : Jvm.MethodName) "GongHouse") ∈ q_nw := q_nwm 920 rfl rfl
set_option maxRecDepth 100000 in
theorem wn_925 : (Jvm.Cond.methodLinkNest "GongHouse" (278 : Nat) ({ cls := "GongHouse$Foresight", name := "seekBest", desc := "(LGongHouse$State;I)V" } : Jvm.MethodName) "GongHouse") ∈ q_nw := q_nwm 925 rfl rfl
set_option maxRecDepth 100000 in
theorem wn_942 : (Jvm.Cond.methodLinkNest "GongHouse" (287 : Nat) ({ cls := "GongHouse$Foresight", name := "fewestMadeUp", desc := "(LGongHouse$State;I)I" } : Jvm.MethodName) "GongHouse") ∈ q_nw := q_nwm 942 rfl rfl
set_option maxRecDepth 100000 in
theorem wn_953 : (Jvm.Cond.methodLinkNest "GongHouse" (295 : Nat) ({ cls := "GongHouse$Sights", name := "add", desc := "(IIIIZ)I" } : Jvm.MethodName) "GongHouse") ∈ q_nw := q_nwm 953 rfl rfl
set_option maxRecDepth 100000 in
theorem wn_961 : (Jvm.Cond.methodLinkNest "GongHouse" (299 : Nat) ({ cls := "GongHouse$Sights", name := "kindsLeft", desc := "(I)I" } : Jvm.MethodName) "GongHouse") ∈ q_nw := q_nwm 961 rfl rfl
set_option maxRecDepth 100000 in
theorem wn_973 : (Jvm.Cond.methodLinkNest "GongHouse$Sights" (27 : Nat) ({ cls := "GongHouse$House", name := "ofDish", desc := "(II)I" } : Jvm.MethodName) "GongHouse") ∈ q_nw := q_nwm 973 rfl rfl
set_option maxRecDepth 100000 in
theorem wn_974 : (Jvm.Cond.methodLinkNest "GongHouse$Sights" (33 : Nat) ({ cls := "GongHouse$House", name := "ofGuest", desc := "(II)I" } : Jvm.MethodName) "GongHouse") ∈ q_nw := q_nwm 974 rfl rfl
set_option maxRecDepth 100000 in
theorem wn_975 : (Jvm.Cond.methodLinkNest "GongHouse$Sights" (36 : Nat) ({ cls := "GongHouse$Evening", name := "joyBy", desc := "(IZIIII)I" } : Jvm.MethodName) "GongHouse") ∈ q_nw := q_nwm 975 rfl rfl
set_option maxRecDepth 100000 in
theorem wn_980 : (Jvm.Cond.methodLinkNest "GongHouse" (302 : Nat) ({ cls := "GongHouse$Sights", name := "dishToTry", desc := "(III)I" } : Jvm.MethodName) "GongHouse") ∈ q_nw := q_nwm 980 rfl rfl
set_option maxRecDepth 100000 in
theorem wn_996 : (Jvm.Cond.methodLinkNest "GongHouse" (183 : Nat) ({ cls := "GongHouse$State", name := "hasLeft", desc := "(I)Z" } : Jvm.MethodName) "GongHouse") ∈ q_nw := q_nwm 996 rfl rfl
set_option maxRecDepth 100000 in
theorem wn_997 : (Jvm.Cond.methodLinkNest "GongHouse" (306 : Nat) ({ cls := "GongHouse$Foresight", name := "daysToLeaving", desc := "(LGongHouse$State;I)I" } : Jvm.MethodName) "GongHouse") ∈ q_nw := q_nwm 997 rfl rfl
set_option maxRecDepth 100000 in
theorem wn_1001 : (Jvm.Cond.methodLinkNest "GongHouse$Foresight" (111 : Nat) ({ cls := "GongHouse$State", name := "hasLeft", desc := "(I)Z" } : Jvm.MethodName) "GongHouse") ∈ q_nw := q_nwm 1001 rfl rfl
set_option maxRecDepth 100000 in
theorem wn_1010 : (Jvm.Cond.methodLinkNest "GongHouse" (312 : Nat) ({ cls := "GongHouse$Foresight", name := "play", desc := "(LGongHouse$State;IIII)V" } : Jvm.MethodName) "GongHouse") ∈ q_nw := q_nwm 1010 rfl rfl
set_option maxRecDepth 100000 in
theorem wn_1018 : (Jvm.Cond.methodLinkNest "GongHouse$Foresight" (128 : Nat) ({ cls := "GongHouse$House", name := "ofGuest", desc := "(II)I" } : Jvm.MethodName) "GongHouse") ∈ q_nw := q_nwm 1018 rfl rfl
set_option maxRecDepth 100000 in
theorem wn_1023 : (Jvm.Cond.methodLinkNest "GongHouse" (322 : Nat) ({ cls := "GongHouse$Foresight", name := "playAll", desc := "(LGongHouse$State;II)V" } : Jvm.MethodName) "GongHouse") ∈ q_nw := q_nwm 1023 rfl rfl
set_option maxRecDepth 100000 in
theorem wn_1028 : (Jvm.Cond.methodLinkNest "GongHouse" (326 : Nat) ({ cls := "GongHouse$Foresight", name := "restCount", desc := "()I" } : Jvm.MethodName) "GongHouse") ∈ q_nw := q_nwm 1028 rfl rfl
set_option maxRecDepth 100000 in
theorem wn_1036 : (Jvm.Cond.methodLinkNest "GongHouse" (329 : Nat) ({ cls := "GongHouse$Foresight", name := "restAt", desc := "(I)I" } : Jvm.MethodName) "GongHouse") ∈ q_nw := q_nwm 1036 rfl rfl
set_option maxRecDepth 100000 in
theorem wn_1044 : (Jvm.Cond.methodLinkNest "GongHouse" (332 : Nat) ({ cls := "GongHouse$Foresight", name := "oddsOf", desc := "(LGongHouse$State;III)J" } : Jvm.MethodName) "GongHouse") ∈ q_nw := q_nwm 1044 rfl rfl
set_option maxRecDepth 100000 in
theorem wn_1073 : (Jvm.Cond.methodLinkNest "GongHouse" (180 : Nat) ({ cls := "GongHouse$House", name := "ofGuest", desc := "(II)I" } : Jvm.MethodName) "GongHouse") ∈ q_nw := q_nwm 1073 rfl rfl
set_option maxRecDepth 100000 in
theorem wn_1079 : (Jvm.Cond.methodLinkNest "GongHouse" (370 : Nat) ({ cls := "GongHouse$Foresight", name := "daysToNothing", desc := "(LGongHouse$State;)I" } : Jvm.MethodName) "GongHouse") ∈ q_nw := q_nwm 1079 rfl rfl
set_option maxRecDepth 100000 in
theorem wn_1083 : (Jvm.Cond.methodLinkNest "GongHouse" (374 : Nat) ({ cls := "GongHouse$Foresight", name := "fullestDay", desc := "(LGongHouse$State;)I" } : Jvm.MethodName) "GongHouse") ∈ q_nw := q_nwm 1083 rfl rfl
set_option maxRecDepth 100000 in
theorem wn_1099 : (Jvm.Cond.methodLinkNest "GongHouse" (382 : Nat) ({ cls := "GongHouse$Past", name := "takePicture", desc := "(LGongHouse$State;)V" } : Jvm.MethodName) "GongHouse") ∈ q_nw := q_nwm 1099 rfl rfl
set_option maxRecDepth 100000 in
theorem wn_1103 : (Jvm.Cond.methodLinkNest "GongHouse$Past" (71 : Nat) ({ cls := "GongHouse$State", name := "copyFrom", desc := "(LGongHouse$State;)V" } : Jvm.MethodName) "GongHouse") ∈ q_nw := q_nwm 1103 rfl rfl
set_option maxRecDepth 100000 in
theorem wn_1108 : (Jvm.Cond.methodLinkNest "GongHouse" (385 : Nat) ({ cls := "GongHouse$Past", name := "showPicture", desc := "(LGongHouse$State;)Z" } : Jvm.MethodName) "GongHouse") ∈ q_nw := q_nwm 1108 rfl rfl
set_option maxRecDepth 100000 in
theorem wn_1116 : (Jvm.Cond.methodLinkNest "GongHouse" (388 : Nat) ({ cls := "GongHouse$State", name := "joyOfAll", desc := "()I" } : Jvm.MethodName) "GongHouse") ∈ q_nw := q_nwm 1116 rfl rfl
theorem clw_0 : ∀ w ∈ u_ws RX0 TX0 2, w ∈ tables_1 ∧ goodWord w = true := by decide +kernel
theorem clok_0 : q_clok 0 := by
  intro r hr
  obtain rfl : (RX0, TX0, 2) = r := Option.some.inj hr
  exact ⟨fun w hw => List.mem_filter.mpr ⟨List.mem_append_right _ (clw_0 w hw).1, (clw_0 w hw).2⟩, tyX0_ok, nmX0⟩
theorem df_0 : ∀ j, j < 2 → q_ty 0 j = .int ∨ q_ty 0 j = .boolean ∨ q_ty 0 j = .long ∨ (∃ n, q_ty 0 j = .object n) ∨ ∃ t, q_ty 0 j = .array t := by
  intro j hj
  rcases (show j = 0 ∨ j = 1 by omega) with rfl | rfl
  · exact Or.inr (Or.inr (Or.inr (Or.inl ⟨_, rfl⟩)))
  · exact Or.inr (Or.inr (Or.inr (Or.inl ⟨_, rfl⟩)))
theorem clw_1 : ∀ w ∈ u_ws RX1 TX1 12, w ∈ tables_1 ∧ goodWord w = true := by decide +kernel
theorem clok_1 : q_clok 1 := by
  intro r hr
  obtain rfl : (RX1, TX1, 12) = r := Option.some.inj hr
  exact ⟨fun w hw => List.mem_filter.mpr ⟨List.mem_append_right _ (clw_1 w hw).1, (clw_1 w hw).2⟩, tyX1_ok, nmX1⟩
theorem df_1 : ∀ j, j < 12 → q_ty 1 j = .int ∨ q_ty 1 j = .boolean ∨ q_ty 1 j = .long ∨ (∃ n, q_ty 1 j = .object n) ∨ ∃ t, q_ty 1 j = .array t := by
  intro j hj
  rcases (show j = 0 ∨ j = 1 ∨ j = 2 ∨ j = 3 ∨ j = 4 ∨ j = 5 ∨ j = 6 ∨ j = 7 ∨ j = 8 ∨ j = 9 ∨ j = 10 ∨ j = 11 by omega) with rfl | rfl | rfl | rfl | rfl | rfl | rfl | rfl | rfl | rfl | rfl | rfl
  · exact Or.inr (Or.inr (Or.inr (Or.inl ⟨_, rfl⟩)))
  · exact Or.inr (Or.inr (Or.inr (Or.inr ⟨_, rfl⟩)))
  · exact Or.inr (Or.inr (Or.inr (Or.inr ⟨_, rfl⟩)))
  · exact Or.inr (Or.inr (Or.inr (Or.inl ⟨_, rfl⟩)))
  · exact Or.inl rfl
  · exact Or.inl rfl
  · exact Or.inl rfl
  · exact Or.inl rfl
  · exact Or.inl rfl
  · exact Or.inl rfl
  · exact Or.inl rfl
  · exact Or.inl rfl
theorem clw_2 : ∀ w ∈ u_ws RX2 TX2 12, w ∈ tables_1 ∧ goodWord w = true := by decide +kernel
theorem clok_2 : q_clok 2 := by
  intro r hr
  obtain rfl : (RX2, TX2, 12) = r := Option.some.inj hr
  exact ⟨fun w hw => List.mem_filter.mpr ⟨List.mem_append_right _ (clw_2 w hw).1, (clw_2 w hw).2⟩, tyX2_ok, nmX2⟩
theorem df_2 : ∀ j, j < 12 → q_ty 2 j = .int ∨ q_ty 2 j = .boolean ∨ q_ty 2 j = .long ∨ (∃ n, q_ty 2 j = .object n) ∨ ∃ t, q_ty 2 j = .array t := by
  intro j hj
  rcases (show j = 0 ∨ j = 1 ∨ j = 2 ∨ j = 3 ∨ j = 4 ∨ j = 5 ∨ j = 6 ∨ j = 7 ∨ j = 8 ∨ j = 9 ∨ j = 10 ∨ j = 11 by omega) with rfl | rfl | rfl | rfl | rfl | rfl | rfl | rfl | rfl | rfl | rfl | rfl
  · exact Or.inr (Or.inr (Or.inr (Or.inl ⟨_, rfl⟩)))
  · exact Or.inr (Or.inr (Or.inr (Or.inl ⟨_, rfl⟩)))
  · exact Or.inr (Or.inr (Or.inr (Or.inl ⟨_, rfl⟩)))
  · exact Or.inr (Or.inr (Or.inr (Or.inl ⟨_, rfl⟩)))
  · exact Or.inr (Or.inr (Or.inr (Or.inr ⟨_, rfl⟩)))
  · exact Or.inr (Or.inr (Or.inr (Or.inr ⟨_, rfl⟩)))
  · exact Or.inr (Or.inr (Or.inr (Or.inr ⟨_, rfl⟩)))
  · exact Or.inl rfl
  · exact Or.inl rfl
  · exact Or.inl rfl
  · exact Or.inl rfl
  · exact Or.inl rfl
theorem clw_3 : ∀ w ∈ u_ws RX3 TX3 7, w ∈ tables_1 ∧ goodWord w = true := by decide +kernel
theorem clok_3 : q_clok 3 := by
  intro r hr
  obtain rfl : (RX3, TX3, 7) = r := Option.some.inj hr
  exact ⟨fun w hw => List.mem_filter.mpr ⟨List.mem_append_right _ (clw_3 w hw).1, (clw_3 w hw).2⟩, tyX3_ok, nmX3⟩
theorem df_3 : ∀ j, j < 7 → q_ty 3 j = .int ∨ q_ty 3 j = .boolean ∨ q_ty 3 j = .long ∨ (∃ n, q_ty 3 j = .object n) ∨ ∃ t, q_ty 3 j = .array t := by
  intro j hj
  rcases (show j = 0 ∨ j = 1 ∨ j = 2 ∨ j = 3 ∨ j = 4 ∨ j = 5 ∨ j = 6 by omega) with rfl | rfl | rfl | rfl | rfl | rfl | rfl
  · exact Or.inr (Or.inr (Or.inr (Or.inr ⟨_, rfl⟩)))
  · exact Or.inr (Or.inr (Or.inr (Or.inr ⟨_, rfl⟩)))
  · exact Or.inr (Or.inr (Or.inr (Or.inr ⟨_, rfl⟩)))
  · exact Or.inr (Or.inr (Or.inr (Or.inr ⟨_, rfl⟩)))
  · exact Or.inl rfl
  · exact Or.inl rfl
  · exact Or.inr (Or.inl rfl)
theorem clw_4 : ∀ w ∈ u_ws RX4 TX4 2, w ∈ tables_1 ∧ goodWord w = true := by decide +kernel
theorem clok_4 : q_clok 4 := by
  intro r hr
  obtain rfl : (RX4, TX4, 2) = r := Option.some.inj hr
  exact ⟨fun w hw => List.mem_filter.mpr ⟨List.mem_append_right _ (clw_4 w hw).1, (clw_4 w hw).2⟩, tyX4_ok, nmX4⟩
theorem df_4 : ∀ j, j < 2 → q_ty 4 j = .int ∨ q_ty 4 j = .boolean ∨ q_ty 4 j = .long ∨ (∃ n, q_ty 4 j = .object n) ∨ ∃ t, q_ty 4 j = .array t := by
  intro j hj
  rcases (show j = 0 ∨ j = 1 by omega) with rfl | rfl
  · exact Or.inr (Or.inr (Or.inr (Or.inr ⟨_, rfl⟩)))
  · exact Or.inr (Or.inr (Or.inr (Or.inr ⟨_, rfl⟩)))
theorem clw_5 : ∀ w ∈ u_ws RX5 TX5 3, w ∈ tables_1 ∧ goodWord w = true := by decide +kernel
theorem clok_5 : q_clok 5 := by
  intro r hr
  obtain rfl : (RX5, TX5, 3) = r := Option.some.inj hr
  exact ⟨fun w hw => List.mem_filter.mpr ⟨List.mem_append_right _ (clw_5 w hw).1, (clw_5 w hw).2⟩, tyX5_ok, nmX5⟩
theorem df_5 : ∀ j, j < 3 → q_ty 5 j = .int ∨ q_ty 5 j = .boolean ∨ q_ty 5 j = .long ∨ (∃ n, q_ty 5 j = .object n) ∨ ∃ t, q_ty 5 j = .array t := by
  intro j hj
  rcases (show j = 0 ∨ j = 1 ∨ j = 2 by omega) with rfl | rfl | rfl
  · exact Or.inr (Or.inr (Or.inr (Or.inl ⟨_, rfl⟩)))
  · exact Or.inr (Or.inr (Or.inr (Or.inr ⟨_, rfl⟩)))
  · exact Or.inl rfl
theorem clw_6 : ∀ w ∈ u_ws RX6 TX6 7, w ∈ tables_1 ∧ goodWord w = true := by decide +kernel
theorem clok_6 : q_clok 6 := by
  intro r hr
  obtain rfl : (RX6, TX6, 7) = r := Option.some.inj hr
  exact ⟨fun w hw => List.mem_filter.mpr ⟨List.mem_append_right _ (clw_6 w hw).1, (clw_6 w hw).2⟩, tyX6_ok, nmX6⟩
theorem df_6 : ∀ j, j < 7 → q_ty 6 j = .int ∨ q_ty 6 j = .boolean ∨ q_ty 6 j = .long ∨ (∃ n, q_ty 6 j = .object n) ∨ ∃ t, q_ty 6 j = .array t := by
  intro j hj
  rcases (show j = 0 ∨ j = 1 ∨ j = 2 ∨ j = 3 ∨ j = 4 ∨ j = 5 ∨ j = 6 by omega) with rfl | rfl | rfl | rfl | rfl | rfl | rfl
  · exact Or.inr (Or.inr (Or.inr (Or.inr ⟨_, rfl⟩)))
  · exact Or.inr (Or.inr (Or.inr (Or.inr ⟨_, rfl⟩)))
  · exact Or.inr (Or.inr (Or.inr (Or.inr ⟨_, rfl⟩)))
  · exact Or.inr (Or.inr (Or.inr (Or.inl ⟨_, rfl⟩)))
  · exact Or.inr (Or.inl rfl)
  · exact Or.inl rfl
  · exact Or.inl rfl
theorem clw_7 : ∀ w ∈ u_ws RX7 TX7 4, w ∈ tables_1 ∧ goodWord w = true := by decide +kernel
theorem clok_7 : q_clok 7 := by
  intro r hr
  obtain rfl : (RX7, TX7, 4) = r := Option.some.inj hr
  exact ⟨fun w hw => List.mem_filter.mpr ⟨List.mem_append_right _ (clw_7 w hw).1, (clw_7 w hw).2⟩, tyX7_ok, nmX7⟩
theorem df_7 : ∀ j, j < 4 → q_ty 7 j = .int ∨ q_ty 7 j = .boolean ∨ q_ty 7 j = .long ∨ (∃ n, q_ty 7 j = .object n) ∨ ∃ t, q_ty 7 j = .array t := by
  intro j hj
  rcases (show j = 0 ∨ j = 1 ∨ j = 2 ∨ j = 3 by omega) with rfl | rfl | rfl | rfl
  · exact Or.inr (Or.inr (Or.inr (Or.inl ⟨_, rfl⟩)))
  · exact Or.inr (Or.inr (Or.inr (Or.inl ⟨_, rfl⟩)))
  · exact Or.inr (Or.inr (Or.inr (Or.inr ⟨_, rfl⟩)))
  · exact Or.inl rfl
theorem clw_8 : ∀ w ∈ u_ws RX8 TX8 1, w ∈ tables_1 ∧ goodWord w = true := by decide +kernel
theorem clok_8 : q_clok 8 := by
  intro r hr
  obtain rfl : (RX8, TX8, 1) = r := Option.some.inj hr
  exact ⟨fun w hw => List.mem_filter.mpr ⟨List.mem_append_right _ (clw_8 w hw).1, (clw_8 w hw).2⟩, tyX8_ok, nmX8⟩
theorem df_8 : ∀ j, j < 1 → q_ty 8 j = .int ∨ q_ty 8 j = .boolean ∨ q_ty 8 j = .long ∨ (∃ n, q_ty 8 j = .object n) ∨ ∃ t, q_ty 8 j = .array t := by
  intro j hj
  rcases (show j = 0 by omega) with rfl
  · exact Or.inr (Or.inr (Or.inr (Or.inr ⟨_, rfl⟩)))
theorem clw_9 : ∀ w ∈ u_ws RX9 TX9 4, w ∈ tables_1 ∧ goodWord w = true := by decide +kernel
theorem clok_9 : q_clok 9 := by
  intro r hr
  obtain rfl : (RX9, TX9, 4) = r := Option.some.inj hr
  exact ⟨fun w hw => List.mem_filter.mpr ⟨List.mem_append_right _ (clw_9 w hw).1, (clw_9 w hw).2⟩, tyX9_ok, nmX9⟩
theorem df_9 : ∀ j, j < 4 → q_ty 9 j = .int ∨ q_ty 9 j = .boolean ∨ q_ty 9 j = .long ∨ (∃ n, q_ty 9 j = .object n) ∨ ∃ t, q_ty 9 j = .array t := by
  intro j hj
  rcases (show j = 0 ∨ j = 1 ∨ j = 2 ∨ j = 3 by omega) with rfl | rfl | rfl | rfl
  · exact Or.inr (Or.inr (Or.inr (Or.inr ⟨_, rfl⟩)))
  · exact Or.inl rfl
  · exact Or.inl rfl
  · exact Or.inl rfl
theorem clw_10 : ∀ w ∈ u_ws RX10 TX10 2, w ∈ tables_1 ∧ goodWord w = true := by decide +kernel
theorem clok_10 : q_clok 10 := by
  intro r hr
  obtain rfl : (RX10, TX10, 2) = r := Option.some.inj hr
  exact ⟨fun w hw => List.mem_filter.mpr ⟨List.mem_append_right _ (clw_10 w hw).1, (clw_10 w hw).2⟩, tyX10_ok, nmX10⟩
theorem df_10 : ∀ j, j < 2 → q_ty 10 j = .int ∨ q_ty 10 j = .boolean ∨ q_ty 10 j = .long ∨ (∃ n, q_ty 10 j = .object n) ∨ ∃ t, q_ty 10 j = .array t := by
  intro j hj
  rcases (show j = 0 ∨ j = 1 by omega) with rfl | rfl
  · exact Or.inr (Or.inr (Or.inr (Or.inr ⟨_, rfl⟩)))
  · exact Or.inl rfl
theorem clw_11 : ∀ w ∈ u_ws RX11 TX11 20, w ∈ tables_1 ∧ goodWord w = true := by decide +kernel
theorem clok_11 : q_clok 11 := by
  intro r hr
  obtain rfl : (RX11, TX11, 20) = r := Option.some.inj hr
  exact ⟨fun w hw => List.mem_filter.mpr ⟨List.mem_append_right _ (clw_11 w hw).1, (clw_11 w hw).2⟩, tyX11_ok, nmX11⟩
theorem df_11 : ∀ j, j < 20 → q_ty 11 j = .int ∨ q_ty 11 j = .boolean ∨ q_ty 11 j = .long ∨ (∃ n, q_ty 11 j = .object n) ∨ ∃ t, q_ty 11 j = .array t := by
  intro j hj
  rcases (show j = 0 ∨ j = 1 ∨ j = 2 ∨ j = 3 ∨ j = 4 ∨ j = 5 ∨ j = 6 ∨ j = 7 ∨ j = 8 ∨ j = 9 ∨ j = 10 ∨ j = 11 ∨ j = 12 ∨ j = 13 ∨ j = 14 ∨ j = 15 ∨ j = 16 ∨ j = 17 ∨ j = 18 ∨ j = 19 by omega) with rfl | rfl | rfl | rfl | rfl | rfl | rfl | rfl | rfl | rfl | rfl | rfl | rfl | rfl | rfl | rfl | rfl | rfl | rfl | rfl
  · exact Or.inr (Or.inr (Or.inr (Or.inl ⟨_, rfl⟩)))
  · exact Or.inr (Or.inr (Or.inr (Or.inl ⟨_, rfl⟩)))
  · exact Or.inr (Or.inr (Or.inr (Or.inl ⟨_, rfl⟩)))
  · exact Or.inr (Or.inr (Or.inr (Or.inl ⟨_, rfl⟩)))
  · exact Or.inr (Or.inr (Or.inr (Or.inr ⟨_, rfl⟩)))
  · exact Or.inr (Or.inr (Or.inr (Or.inr ⟨_, rfl⟩)))
  · exact Or.inr (Or.inr (Or.inr (Or.inl ⟨_, rfl⟩)))
  · exact Or.inr (Or.inr (Or.inr (Or.inl ⟨_, rfl⟩)))
  · exact Or.inr (Or.inr (Or.inr (Or.inl ⟨_, rfl⟩)))
  · exact Or.inr (Or.inr (Or.inr (Or.inl ⟨_, rfl⟩)))
  · exact Or.inr (Or.inr (Or.inr (Or.inl ⟨_, rfl⟩)))
  · exact Or.inr (Or.inr (Or.inr (Or.inl ⟨_, rfl⟩)))
  · exact Or.inr (Or.inr (Or.inr (Or.inl ⟨_, rfl⟩)))
  · exact Or.inr (Or.inr (Or.inr (Or.inl ⟨_, rfl⟩)))
  · exact Or.inl rfl
  · exact Or.inl rfl
  · exact Or.inl rfl
  · exact Or.inl rfl
  · exact Or.inr (Or.inl rfl)
  · exact Or.inr (Or.inr (Or.inl rfl))
theorem clw_12 : ∀ w ∈ u_ws RX12 TX12 50, w ∈ tables_1 ∧ goodWord w = true := by decide +kernel
theorem clok_12 : q_clok 12 := by
  intro r hr
  obtain rfl : (RX12, TX12, 50) = r := Option.some.inj hr
  exact ⟨fun w hw => List.mem_filter.mpr ⟨List.mem_append_right _ (clw_12 w hw).1, (clw_12 w hw).2⟩, tyX12_ok, nmX12⟩
theorem df_12 : ∀ j, j < 50 → q_ty 12 j = .int ∨ q_ty 12 j = .boolean ∨ q_ty 12 j = .long ∨ (∃ n, q_ty 12 j = .object n) ∨ ∃ t, q_ty 12 j = .array t := by
  intro j hj
  rcases (show j = 0 ∨ j = 1 ∨ j = 2 ∨ j = 3 ∨ j = 4 ∨ j = 5 ∨ j = 6 ∨ j = 7 ∨ j = 8 ∨ j = 9 ∨ j = 10 ∨ j = 11 ∨ j = 12 ∨ j = 13 ∨ j = 14 ∨ j = 15 ∨ j = 16 ∨ j = 17 ∨ j = 18 ∨ j = 19 ∨ j = 20 ∨ j = 21 ∨ j = 22 ∨ j = 23 ∨ j = 24 ∨ j = 25 ∨ j = 26 ∨ j = 27 ∨ j = 28 ∨ j = 29 ∨ j = 30 ∨ j = 31 ∨ j = 32 ∨ j = 33 ∨ j = 34 ∨ j = 35 ∨ j = 36 ∨ j = 37 ∨ j = 38 ∨ j = 39 ∨ j = 40 ∨ j = 41 ∨ j = 42 ∨ j = 43 ∨ j = 44 ∨ j = 45 ∨ j = 46 ∨ j = 47 ∨ j = 48 ∨ j = 49 by omega) with rfl | rfl | rfl | rfl | rfl | rfl | rfl | rfl | rfl | rfl | rfl | rfl | rfl | rfl | rfl | rfl | rfl | rfl | rfl | rfl | rfl | rfl | rfl | rfl | rfl | rfl | rfl | rfl | rfl | rfl | rfl | rfl | rfl | rfl | rfl | rfl | rfl | rfl | rfl | rfl | rfl | rfl | rfl | rfl | rfl | rfl | rfl | rfl | rfl | rfl
  · exact Or.inl rfl
  · exact Or.inr (Or.inr (Or.inr (Or.inr ⟨_, rfl⟩)))
  · exact Or.inr (Or.inr (Or.inr (Or.inr ⟨_, rfl⟩)))
  · exact Or.inr (Or.inr (Or.inr (Or.inr ⟨_, rfl⟩)))
  · exact Or.inr (Or.inr (Or.inr (Or.inr ⟨_, rfl⟩)))
  · exact Or.inr (Or.inr (Or.inr (Or.inr ⟨_, rfl⟩)))
  · exact Or.inl rfl
  · exact Or.inl rfl
  · exact Or.inl rfl
  · exact Or.inl rfl
  · exact Or.inl rfl
  · exact Or.inl rfl
  · exact Or.inl rfl
  · exact Or.inl rfl
  · exact Or.inl rfl
  · exact Or.inr (Or.inr (Or.inr (Or.inl ⟨_, rfl⟩)))
  · exact Or.inr (Or.inr (Or.inr (Or.inl ⟨_, rfl⟩)))
  · exact Or.inr (Or.inl rfl)
  · exact Or.inr (Or.inr (Or.inr (Or.inr ⟨_, rfl⟩)))
  · exact Or.inr (Or.inr (Or.inr (Or.inr ⟨_, rfl⟩)))
  · exact Or.inr (Or.inr (Or.inr (Or.inr ⟨_, rfl⟩)))
  · exact Or.inr (Or.inr (Or.inr (Or.inr ⟨_, rfl⟩)))
  · exact Or.inr (Or.inr (Or.inr (Or.inr ⟨_, rfl⟩)))
  · exact Or.inr (Or.inr (Or.inr (Or.inr ⟨_, rfl⟩)))
  · exact Or.inr (Or.inr (Or.inr (Or.inr ⟨_, rfl⟩)))
  · exact Or.inr (Or.inr (Or.inr (Or.inr ⟨_, rfl⟩)))
  · exact Or.inl rfl
  · exact Or.inl rfl
  · exact Or.inl rfl
  · exact Or.inl rfl
  · exact Or.inl rfl
  · exact Or.inr (Or.inl rfl)
  · exact Or.inr (Or.inr (Or.inr (Or.inr ⟨_, rfl⟩)))
  · exact Or.inr (Or.inr (Or.inr (Or.inr ⟨_, rfl⟩)))
  · exact Or.inl rfl
  · exact Or.inl rfl
  · exact Or.inr (Or.inr (Or.inr (Or.inr ⟨_, rfl⟩)))
  · exact Or.inl rfl
  · exact Or.inl rfl
  · exact Or.inl rfl
  · exact Or.inl rfl
  · exact Or.inr (Or.inr (Or.inr (Or.inr ⟨_, rfl⟩)))
  · exact Or.inl rfl
  · exact Or.inr (Or.inr (Or.inl rfl))
  · exact Or.inr (Or.inr (Or.inr (Or.inr ⟨_, rfl⟩)))
  · exact Or.inl rfl
  · exact Or.inr (Or.inr (Or.inr (Or.inr ⟨_, rfl⟩)))
  · exact Or.inr (Or.inr (Or.inr (Or.inr ⟨_, rfl⟩)))
  · exact Or.inr (Or.inr (Or.inr (Or.inr ⟨_, rfl⟩)))
  · exact Or.inr (Or.inl rfl)
theorem lkF_X11_12 : q_lkF RX11 12 11 0 := ⟨(RX11, TX11, 20), rfl, clok_11, by decide, rfl, Or.inl wd_327⟩
theorem lkF_X11_19 : q_lkF RX11 19 11 1 := ⟨(RX11, TX11, 20), rfl, clok_11, by decide, rfl, Or.inl wd_328⟩
theorem lkF_X11_23 : q_lkF RX11 23 11 2 := ⟨(RX11, TX11, 20), rfl, clok_11, by decide, rfl, Or.inl wd_329⟩
theorem lkF_X11_31 : q_lkF RX11 31 11 3 := ⟨(RX11, TX11, 20), rfl, clok_11, by decide, rfl, Or.inl wd_330⟩
theorem lkF_X11_37 : q_lkF RX11 37 11 4 := ⟨(RX11, TX11, 20), rfl, clok_11, by decide, rfl, Or.inl wd_331⟩
theorem lkF_X11_43 : q_lkF RX11 43 11 5 := ⟨(RX11, TX11, 20), rfl, clok_11, by decide, rfl, Or.inl wd_332⟩
theorem lkF_X11_50 : q_lkF RX11 50 11 6 := ⟨(RX11, TX11, 20), rfl, clok_11, by decide, rfl, Or.inl wd_333⟩
theorem lkF_X11_54 : q_lkF RX11 54 11 7 := ⟨(RX11, TX11, 20), rfl, clok_11, by decide, rfl, Or.inl wd_334⟩
theorem lkF_X11_60 : q_lkF RX11 60 11 8 := ⟨(RX11, TX11, 20), rfl, clok_11, by decide, rfl, Or.inl wd_335⟩
theorem lkF_X11_69 : q_lkF RX11 69 11 9 := ⟨(RX11, TX11, 20), rfl, clok_11, by decide, rfl, Or.inl wd_336⟩
theorem lkF_X11_78 : q_lkF RX11 78 11 10 := ⟨(RX11, TX11, 20), rfl, clok_11, by decide, rfl, Or.inl wd_337⟩
theorem lkF_X11_87 : q_lkF RX11 87 11 11 := ⟨(RX11, TX11, 20), rfl, clok_11, by decide, rfl, Or.inl wd_338⟩
theorem lkF_X11_94 : q_lkF RX11 94 11 12 := ⟨(RX11, TX11, 20), rfl, clok_11, by decide, rfl, Or.inl wd_339⟩
theorem lkF_X11_99 : q_lkF RX11 99 11 13 := ⟨(RX11, TX11, 20), rfl, clok_11, by decide, rfl, Or.inl wd_340⟩
theorem lkF_X11_103 : q_lkF RX11 103 11 14 := ⟨(RX11, TX11, 20), rfl, clok_11, by decide, rfl, Or.inl wd_341⟩
theorem lkF_X11_107 : q_lkF RX11 107 11 15 := ⟨(RX11, TX11, 20), rfl, clok_11, by decide, rfl, Or.inl wd_342⟩
theorem lkF_X11_110 : q_lkF RX11 110 11 16 := ⟨(RX11, TX11, 20), rfl, clok_11, by decide, rfl, Or.inl wd_343⟩
theorem lkF_X11_113 : q_lkF RX11 113 11 17 := ⟨(RX11, TX11, 20), rfl, clok_11, by decide, rfl, Or.inl wd_344⟩
theorem lkF_X11_116 : q_lkF RX11 116 11 18 := ⟨(RX11, TX11, 20), rfl, clok_11, by decide, rfl, Or.inl wd_345⟩
theorem lkF_X11_120 : q_lkF RX11 120 11 19 := ⟨(RX11, TX11, 20), rfl, clok_11, by decide, rfl, Or.inl wd_346⟩
theorem lkF_X11_128 : q_lkF RX11 128 9 1 := ⟨(RX9, TX9, 4), rfl, clok_9, by decide, rfl, Or.inr ⟨_, wn_43⟩⟩
theorem lkF_X11_139 : q_lkF RX11 139 9 2 := ⟨(RX9, TX9, 4), rfl, clok_9, by decide, rfl, Or.inr ⟨_, wn_46⟩⟩
theorem lkF_X11_156 : q_lkF RX11 156 8 0 := ⟨(RX8, TX8, 1), rfl, clok_8, by decide, rfl, Or.inr ⟨_, wn_135⟩⟩
theorem lkF_X11_160 : q_lkF RX11 160 3 0 := ⟨(RX3, TX3, 7), rfl, clok_3, by decide, rfl, Or.inr ⟨_, wn_72⟩⟩
theorem lkF_X11_188 : q_lkF RX11 188 1 3 := ⟨(RX1, TX1, 12), rfl, clok_1, by decide, rfl, Or.inr ⟨_, wn_181⟩⟩
theorem lkF_X11_196 : q_lkF RX11 196 1 10 := ⟨(RX1, TX1, 12), rfl, clok_1, by decide, rfl, Or.inr ⟨_, wn_201⟩⟩
theorem lkF_X11_225 : q_lkF RX11 225 6 6 := ⟨(RX6, TX6, 7), rfl, clok_6, by decide, rfl, Or.inr ⟨_, wn_154⟩⟩
theorem lkF_X11_239 : q_lkF RX11 239 10 1 := ⟨(RX10, TX10, 2), rfl, clok_10, by decide, rfl, Or.inr ⟨_, wn_321⟩⟩
theorem lkF_X11_249 : q_lkF RX11 249 2 7 := ⟨(RX2, TX2, 12), rfl, clok_2, by decide, rfl, Or.inr ⟨_, wn_259⟩⟩
theorem lkF_X11_256 : q_lkF RX11 256 1 7 := ⟨(RX1, TX1, 12), rfl, clok_1, by decide, rfl, Or.inr ⟨_, wn_192⟩⟩
theorem lkF_X11_259 : q_lkF RX11 259 1 8 := ⟨(RX1, TX1, 12), rfl, clok_1, by decide, rfl, Or.inr ⟨_, wn_195⟩⟩
theorem lkF_X11_262 : q_lkF RX11 262 1 9 := ⟨(RX1, TX1, 12), rfl, clok_1, by decide, rfl, Or.inr ⟨_, wn_197⟩⟩
theorem lkF_X11_265 : q_lkF RX11 265 1 4 := ⟨(RX1, TX1, 12), rfl, clok_1, by decide, rfl, Or.inr ⟨_, wn_184⟩⟩
theorem lkF_X11_275 : q_lkF RX11 275 1 1 := ⟨(RX1, TX1, 12), rfl, clok_1, by decide, rfl, Or.inr ⟨_, wn_178⟩⟩
theorem lkF_X11_281 : q_lkF RX11 281 2 8 := ⟨(RX2, TX2, 12), rfl, clok_2, by decide, rfl, Or.inr ⟨_, wn_261⟩⟩
theorem lkF_X11_284 : q_lkF RX11 284 2 9 := ⟨(RX2, TX2, 12), rfl, clok_2, by decide, rfl, Or.inr ⟨_, wn_263⟩⟩
theorem lkF_X11_316 : q_lkF RX11 316 2 10 := ⟨(RX2, TX2, 12), rfl, clok_2, by decide, rfl, Or.inr ⟨_, wn_265⟩⟩
theorem lkF_X11_319 : q_lkF RX11 319 2 11 := ⟨(RX2, TX2, 12), rfl, clok_2, by decide, rfl, Or.inr ⟨_, wn_267⟩⟩
theorem lkF_X11_336 : q_lkF RX11 336 3 5 := ⟨(RX3, TX3, 7), rfl, clok_3, by decide, rfl, Or.inr ⟨_, wn_86⟩⟩
theorem lkF_X11_343 : q_lkF RX11 343 3 2 := ⟨(RX3, TX3, 7), rfl, clok_3, by decide, rfl, Or.inr ⟨_, wn_76⟩⟩
theorem lkF_X11_346 : q_lkF RX11 346 3 1 := ⟨(RX3, TX3, 7), rfl, clok_3, by decide, rfl, Or.inr ⟨_, wn_74⟩⟩
theorem lkF_X11_349 : q_lkF RX11 349 3 4 := ⟨(RX3, TX3, 7), rfl, clok_3, by decide, rfl, Or.inr ⟨_, wn_82⟩⟩
theorem lkF_X11_358 : q_lkF RX11 358 1 11 := ⟨(RX1, TX1, 12), rfl, clok_1, by decide, rfl, Or.inr ⟨_, wn_203⟩⟩
theorem lkF_X11_367 : q_lkF RX11 367 1 5 := ⟨(RX1, TX1, 12), rfl, clok_1, by decide, rfl, Or.inr ⟨_, wn_186⟩⟩
theorem lkF_X11_391 : q_lkF RX11 391 7 3 := ⟨(RX7, TX7, 4), rfl, clok_7, by decide, rfl, Or.inr ⟨_, wn_303⟩⟩
theorem lkF_X0_9 : q_lkF RX0 9 0 0 := ⟨(RX0, TX0, 2), rfl, clok_0, by decide, rfl, Or.inl wd_235⟩
theorem lkF_X0_15 : q_lkF RX0 15 0 1 := ⟨(RX0, TX0, 2), rfl, clok_0, by decide, rfl, Or.inl wd_236⟩
theorem lkF_X0_19 : q_lkF RX0 19 8 0 := ⟨(RX8, TX8, 1), rfl, clok_8, by decide, rfl, Or.inr ⟨_, wn_132⟩⟩
theorem lkF_X1_9 : q_lkF RX1 9 1 1 := ⟨(RX1, TX1, 12), rfl, clok_1, by decide, rfl, Or.inl wd_177⟩
theorem lkF_X1_15 : q_lkF RX1 15 1 2 := ⟨(RX1, TX1, 12), rfl, clok_1, by decide, rfl, Or.inl wd_179⟩
theorem lkF_X1_18 : q_lkF RX1 18 1 3 := ⟨(RX1, TX1, 12), rfl, clok_1, by decide, rfl, Or.inl wd_180⟩
theorem lkF_X1_22 : q_lkF RX1 22 1 4 := ⟨(RX1, TX1, 12), rfl, clok_1, by decide, rfl, Or.inl wd_182⟩
theorem lkF_X1_26 : q_lkF RX1 26 1 5 := ⟨(RX1, TX1, 12), rfl, clok_1, by decide, rfl, Or.inl wd_185⟩
theorem lkF_X1_29 : q_lkF RX1 29 1 6 := ⟨(RX1, TX1, 12), rfl, clok_1, by decide, rfl, Or.inl wd_187⟩
theorem lkF_X1_32 : q_lkF RX1 32 1 7 := ⟨(RX1, TX1, 12), rfl, clok_1, by decide, rfl, Or.inl wd_189⟩
theorem lkF_X1_35 : q_lkF RX1 35 1 8 := ⟨(RX1, TX1, 12), rfl, clok_1, by decide, rfl, Or.inl wd_193⟩
theorem lkF_X1_38 : q_lkF RX1 38 1 9 := ⟨(RX1, TX1, 12), rfl, clok_1, by decide, rfl, Or.inl wd_196⟩
theorem lkF_X1_41 : q_lkF RX1 41 1 10 := ⟨(RX1, TX1, 12), rfl, clok_1, by decide, rfl, Or.inl wd_198⟩
theorem lkF_X1_44 : q_lkF RX1 44 1 11 := ⟨(RX1, TX1, 12), rfl, clok_1, by decide, rfl, Or.inl wd_202⟩
theorem lkF_X1_47 : q_lkF RX1 47 1 0 := ⟨(RX1, TX1, 12), rfl, clok_1, by decide, rfl, Or.inl wd_176⟩
theorem lkF_X1_51 : q_lkF RX1 51 8 0 := ⟨(RX8, TX8, 1), rfl, clok_8, by decide, rfl, Or.inr ⟨_, wn_131⟩⟩
theorem lkF_X1_66 : q_lkF RX1 66 3 5 := ⟨(RX3, TX3, 7), rfl, clok_3, by decide, rfl, Or.inr ⟨_, wn_84⟩⟩
theorem lkF_X1_92 : q_lkF RX1 92 3 0 := ⟨(RX3, TX3, 7), rfl, clok_3, by decide, rfl, Or.inr ⟨_, wn_71⟩⟩
theorem lkF_X1_100 : q_lkF RX1 100 3 3 := ⟨(RX3, TX3, 7), rfl, clok_3, by decide, rfl, Or.inr ⟨_, wn_78⟩⟩
theorem lkF_X2_14 : q_lkF RX2 14 2 3 := ⟨(RX2, TX2, 12), rfl, clok_2, by decide, rfl, Or.inl wd_254⟩
theorem lkF_X2_18 : q_lkF RX2 18 2 4 := ⟨(RX2, TX2, 12), rfl, clok_2, by decide, rfl, Or.inl wd_255⟩
theorem lkF_X2_22 : q_lkF RX2 22 2 5 := ⟨(RX2, TX2, 12), rfl, clok_2, by decide, rfl, Or.inl wd_256⟩
theorem lkF_X2_26 : q_lkF RX2 26 2 6 := ⟨(RX2, TX2, 12), rfl, clok_2, by decide, rfl, Or.inl wd_257⟩
theorem lkF_X2_29 : q_lkF RX2 29 2 7 := ⟨(RX2, TX2, 12), rfl, clok_2, by decide, rfl, Or.inl wd_258⟩
theorem lkF_X2_33 : q_lkF RX2 33 2 8 := ⟨(RX2, TX2, 12), rfl, clok_2, by decide, rfl, Or.inl wd_260⟩
theorem lkF_X2_36 : q_lkF RX2 36 2 9 := ⟨(RX2, TX2, 12), rfl, clok_2, by decide, rfl, Or.inl wd_262⟩
theorem lkF_X2_39 : q_lkF RX2 39 2 10 := ⟨(RX2, TX2, 12), rfl, clok_2, by decide, rfl, Or.inl wd_264⟩
theorem lkF_X2_42 : q_lkF RX2 42 2 11 := ⟨(RX2, TX2, 12), rfl, clok_2, by decide, rfl, Or.inl wd_266⟩
theorem lkF_X2_45 : q_lkF RX2 45 2 0 := ⟨(RX2, TX2, 12), rfl, clok_2, by decide, rfl, Or.inl wd_251⟩
theorem lkF_X2_49 : q_lkF RX2 49 2 1 := ⟨(RX2, TX2, 12), rfl, clok_2, by decide, rfl, Or.inl wd_252⟩
theorem lkF_X2_53 : q_lkF RX2 53 2 2 := ⟨(RX2, TX2, 12), rfl, clok_2, by decide, rfl, Or.inl wd_253⟩
theorem lkF_X2_61 : q_lkF RX2 61 10 1 := ⟨(RX10, TX10, 2), rfl, clok_10, by decide, rfl, Or.inr ⟨_, wn_320⟩⟩
theorem lkF_X2_93 : q_lkF RX2 93 3 4 := ⟨(RX3, TX3, 7), rfl, clok_3, by decide, rfl, Or.inr ⟨_, wn_80⟩⟩
theorem lkF_X2_98 : q_lkF RX2 98 8 0 := ⟨(RX8, TX8, 1), rfl, clok_8, by decide, rfl, Or.inr ⟨_, wn_134⟩⟩
theorem lkF_X2_105 : q_lkF RX2 105 1 7 := ⟨(RX1, TX1, 12), rfl, clok_1, by decide, rfl, Or.inr ⟨_, wn_191⟩⟩
theorem lkF_X2_108 : q_lkF RX2 108 1 8 := ⟨(RX1, TX1, 12), rfl, clok_1, by decide, rfl, Or.inr ⟨_, wn_194⟩⟩
theorem lkF_X2_115 : q_lkF RX2 115 1 4 := ⟨(RX1, TX1, 12), rfl, clok_1, by decide, rfl, Or.inr ⟨_, wn_183⟩⟩
theorem lkF_X2_118 : q_lkF RX2 118 1 10 := ⟨(RX1, TX1, 12), rfl, clok_1, by decide, rfl, Or.inr ⟨_, wn_200⟩⟩
theorem lkF_X2_121 : q_lkF RX2 121 1 6 := ⟨(RX1, TX1, 12), rfl, clok_1, by decide, rfl, Or.inr ⟨_, wn_188⟩⟩
theorem lkF_X3_9 : q_lkF RX3 9 3 0 := ⟨(RX3, TX3, 7), rfl, clok_3, by decide, rfl, Or.inl wd_69⟩
theorem lkF_X3_15 : q_lkF RX3 15 3 1 := ⟨(RX3, TX3, 7), rfl, clok_3, by decide, rfl, Or.inl wd_73⟩
theorem lkF_X3_18 : q_lkF RX3 18 3 2 := ⟨(RX3, TX3, 7), rfl, clok_3, by decide, rfl, Or.inl wd_75⟩
theorem lkF_X3_21 : q_lkF RX3 21 3 3 := ⟨(RX3, TX3, 7), rfl, clok_3, by decide, rfl, Or.inl wd_77⟩
theorem lkF_X3_24 : q_lkF RX3 24 3 4 := ⟨(RX3, TX3, 7), rfl, clok_3, by decide, rfl, Or.inl wd_79⟩
theorem lkF_X3_28 : q_lkF RX3 28 3 5 := ⟨(RX3, TX3, 7), rfl, clok_3, by decide, rfl, Or.inl wd_83⟩
theorem lkF_X3_31 : q_lkF RX3 31 3 6 := ⟨(RX3, TX3, 7), rfl, clok_3, by decide, rfl, Or.inl wd_87⟩
theorem lkF_X3_72 : q_lkF RX3 72 9 2 := ⟨(RX9, TX9, 4), rfl, clok_9, by decide, rfl, Or.inr ⟨_, wn_48⟩⟩
theorem lkF_X3_101 : q_lkF RX3 101 9 3 := ⟨(RX9, TX9, 4), rfl, clok_9, by decide, rfl, Or.inr ⟨_, wn_52⟩⟩
theorem lkF_X4_9 : q_lkF RX4 9 4 1 := ⟨(RX4, TX4, 2), rfl, clok_4, by decide, rfl, Or.inl wd_669⟩
theorem lkF_X4_15 : q_lkF RX4 15 4 0 := ⟨(RX4, TX4, 2), rfl, clok_4, by decide, rfl, Or.inl wd_668⟩
theorem lkF_X5_9 : q_lkF RX5 9 5 1 := ⟨(RX5, TX5, 3), rfl, clok_5, by decide, rfl, Or.inl wd_111⟩
theorem lkF_X5_15 : q_lkF RX5 15 5 2 := ⟨(RX5, TX5, 3), rfl, clok_5, by decide, rfl, Or.inl wd_112⟩
theorem lkF_X5_19 : q_lkF RX5 19 5 0 := ⟨(RX5, TX5, 3), rfl, clok_5, by decide, rfl, Or.inl wd_110⟩
theorem lkF_X5_72 : q_lkF RX5 72 9 2 := ⟨(RX9, TX9, 4), rfl, clok_9, by decide, rfl, Or.inr ⟨_, wn_47⟩⟩
theorem lkF_X5_91 : q_lkF RX5 91 9 3 := ⟨(RX9, TX9, 4), rfl, clok_9, by decide, rfl, Or.inr ⟨_, wn_51⟩⟩
theorem lkF_X6_9 : q_lkF RX6 9 6 0 := ⟨(RX6, TX6, 7), rfl, clok_6, by decide, rfl, Or.inl wd_147⟩
theorem lkF_X6_15 : q_lkF RX6 15 6 1 := ⟨(RX6, TX6, 7), rfl, clok_6, by decide, rfl, Or.inl wd_148⟩
theorem lkF_X6_18 : q_lkF RX6 18 6 2 := ⟨(RX6, TX6, 7), rfl, clok_6, by decide, rfl, Or.inl wd_149⟩
theorem lkF_X6_24 : q_lkF RX6 24 6 3 := ⟨(RX6, TX6, 7), rfl, clok_6, by decide, rfl, Or.inl wd_150⟩
theorem lkF_X6_28 : q_lkF RX6 28 6 4 := ⟨(RX6, TX6, 7), rfl, clok_6, by decide, rfl, Or.inl wd_151⟩
theorem lkF_X6_32 : q_lkF RX6 32 6 5 := ⟨(RX6, TX6, 7), rfl, clok_6, by decide, rfl, Or.inl wd_152⟩
theorem lkF_X6_36 : q_lkF RX6 36 6 6 := ⟨(RX6, TX6, 7), rfl, clok_6, by decide, rfl, Or.inl wd_153⟩
theorem lkF_X6_39 : q_lkF RX6 39 8 0 := ⟨(RX8, TX8, 1), rfl, clok_8, by decide, rfl, Or.inr ⟨_, wn_133⟩⟩
theorem lkF_X6_58 : q_lkF RX6 58 1 7 := ⟨(RX1, TX1, 12), rfl, clok_1, by decide, rfl, Or.inr ⟨_, wn_190⟩⟩
theorem lkF_X6_63 : q_lkF RX6 63 1 10 := ⟨(RX1, TX1, 12), rfl, clok_1, by decide, rfl, Or.inr ⟨_, wn_199⟩⟩
theorem lkF_X7_11 : q_lkF RX7 11 7 2 := ⟨(RX7, TX7, 4), rfl, clok_7, by decide, rfl, Or.inl wd_301⟩
theorem lkF_X7_15 : q_lkF RX7 15 7 3 := ⟨(RX7, TX7, 4), rfl, clok_7, by decide, rfl, Or.inl wd_302⟩
theorem lkF_X7_19 : q_lkF RX7 19 7 0 := ⟨(RX7, TX7, 4), rfl, clok_7, by decide, rfl, Or.inl wd_299⟩
theorem lkF_X7_23 : q_lkF RX7 23 7 1 := ⟨(RX7, TX7, 4), rfl, clok_7, by decide, rfl, Or.inl wd_300⟩
theorem lkF_X7_54 : q_lkF RX7 54 3 4 := ⟨(RX3, TX3, 7), rfl, clok_3, by decide, rfl, Or.inr ⟨_, wn_81⟩⟩
theorem lkF_X8_9 : q_lkF RX8 9 8 0 := ⟨(RX8, TX8, 1), rfl, clok_8, by decide, rfl, Or.inl wd_130⟩
theorem lkF_X8_27 : q_lkF RX8 27 3 0 := ⟨(RX3, TX3, 7), rfl, clok_3, by decide, rfl, Or.inr ⟨_, wn_70⟩⟩
theorem lkF_X8_32 : q_lkF RX8 32 3 5 := ⟨(RX3, TX3, 7), rfl, clok_3, by decide, rfl, Or.inr ⟨_, wn_85⟩⟩
theorem lkF_X9_9 : q_lkF RX9 9 9 0 := ⟨(RX9, TX9, 4), rfl, clok_9, by decide, rfl, Or.inl wd_41⟩
theorem lkF_X9_15 : q_lkF RX9 15 9 1 := ⟨(RX9, TX9, 4), rfl, clok_9, by decide, rfl, Or.inl wd_42⟩
theorem lkF_X9_19 : q_lkF RX9 19 9 2 := ⟨(RX9, TX9, 4), rfl, clok_9, by decide, rfl, Or.inl wd_44⟩
theorem lkF_X9_22 : q_lkF RX9 22 9 3 := ⟨(RX9, TX9, 4), rfl, clok_9, by decide, rfl, Or.inl wd_49⟩
theorem lkF_X10_11 : q_lkF RX10 11 10 0 := ⟨(RX10, TX10, 2), rfl, clok_10, by decide, rfl, Or.inl wd_318⟩
theorem lkF_X10_15 : q_lkF RX10 15 10 1 := ⟨(RX10, TX10, 2), rfl, clok_10, by decide, rfl, Or.inl wd_319⟩
theorem lkF_X10_39 : q_lkF RX10 39 9 2 := ⟨(RX9, TX9, 4), rfl, clok_9, by decide, rfl, Or.inr ⟨_, wn_45⟩⟩
theorem lkF_X10_49 : q_lkF RX10 49 9 3 := ⟨(RX9, TX9, 4), rfl, clok_9, by decide, rfl, Or.inr ⟨_, wn_50⟩⟩
theorem lkF_X12_9 : q_lkF RX12 9 12 1 := ⟨(RX12, TX12, 50), rfl, clok_12, by decide, rfl, Or.inl wd_1200⟩
theorem lkF_X12_13 : q_lkF RX12 13 12 2 := ⟨(RX12, TX12, 50), rfl, clok_12, by decide, rfl, Or.inl wd_1201⟩
theorem lkF_X12_16 : q_lkF RX12 16 12 3 := ⟨(RX12, TX12, 50), rfl, clok_12, by decide, rfl, Or.inl wd_1202⟩
theorem lkF_X12_20 : q_lkF RX12 20 12 4 := ⟨(RX12, TX12, 50), rfl, clok_12, by decide, rfl, Or.inl wd_1203⟩
theorem lkF_X12_23 : q_lkF RX12 23 12 5 := ⟨(RX12, TX12, 50), rfl, clok_12, by decide, rfl, Or.inl wd_1204⟩
theorem lkF_X12_28 : q_lkF RX12 28 12 15 := ⟨(RX12, TX12, 50), rfl, clok_12, by decide, rfl, Or.inl wd_1214⟩
theorem lkF_X12_34 : q_lkF RX12 34 12 16 := ⟨(RX12, TX12, 50), rfl, clok_12, by decide, rfl, Or.inl wd_1215⟩
theorem lkF_X12_37 : q_lkF RX12 37 12 18 := ⟨(RX12, TX12, 50), rfl, clok_12, by decide, rfl, Or.inl wd_1217⟩
theorem lkF_X12_40 : q_lkF RX12 40 12 19 := ⟨(RX12, TX12, 50), rfl, clok_12, by decide, rfl, Or.inl wd_1218⟩
theorem lkF_X12_43 : q_lkF RX12 43 12 20 := ⟨(RX12, TX12, 50), rfl, clok_12, by decide, rfl, Or.inl wd_1219⟩
theorem lkF_X12_46 : q_lkF RX12 46 12 21 := ⟨(RX12, TX12, 50), rfl, clok_12, by decide, rfl, Or.inl wd_1220⟩
theorem lkF_X12_49 : q_lkF RX12 49 12 22 := ⟨(RX12, TX12, 50), rfl, clok_12, by decide, rfl, Or.inl wd_1221⟩
theorem lkF_X12_52 : q_lkF RX12 52 12 23 := ⟨(RX12, TX12, 50), rfl, clok_12, by decide, rfl, Or.inl wd_1222⟩
theorem lkF_X12_55 : q_lkF RX12 55 12 24 := ⟨(RX12, TX12, 50), rfl, clok_12, by decide, rfl, Or.inl wd_1223⟩
theorem lkF_X12_58 : q_lkF RX12 58 12 25 := ⟨(RX12, TX12, 50), rfl, clok_12, by decide, rfl, Or.inl wd_1224⟩
theorem lkF_X12_61 : q_lkF RX12 61 12 32 := ⟨(RX12, TX12, 50), rfl, clok_12, by decide, rfl, Or.inl wd_1231⟩
theorem lkF_X12_64 : q_lkF RX12 64 12 33 := ⟨(RX12, TX12, 50), rfl, clok_12, by decide, rfl, Or.inl wd_1232⟩
theorem lkF_X12_67 : q_lkF RX12 67 12 34 := ⟨(RX12, TX12, 50), rfl, clok_12, by decide, rfl, Or.inl wd_1233⟩
theorem lkF_X12_71 : q_lkF RX12 71 12 35 := ⟨(RX12, TX12, 50), rfl, clok_12, by decide, rfl, Or.inl wd_1234⟩
theorem lkF_X12_74 : q_lkF RX12 74 12 36 := ⟨(RX12, TX12, 50), rfl, clok_12, by decide, rfl, Or.inl wd_1235⟩
theorem lkF_X12_77 : q_lkF RX12 77 12 41 := ⟨(RX12, TX12, 50), rfl, clok_12, by decide, rfl, Or.inl wd_1240⟩
theorem lkF_X12_80 : q_lkF RX12 80 12 44 := ⟨(RX12, TX12, 50), rfl, clok_12, by decide, rfl, Or.inl wd_1243⟩
theorem lkF_X12_83 : q_lkF RX12 83 12 46 := ⟨(RX12, TX12, 50), rfl, clok_12, by decide, rfl, Or.inl wd_1245⟩
theorem lkF_X12_86 : q_lkF RX12 86 12 47 := ⟨(RX12, TX12, 50), rfl, clok_12, by decide, rfl, Or.inl wd_1246⟩
theorem lkF_X12_89 : q_lkF RX12 89 12 48 := ⟨(RX12, TX12, 50), rfl, clok_12, by decide, rfl, Or.inl wd_1247⟩
theorem lkF_X12_92 : q_lkF RX12 92 12 0 := ⟨(RX12, TX12, 50), rfl, clok_12, by decide, rfl, Or.inl wd_1199⟩
theorem lkF_X12_105 : q_lkF RX12 105 12 6 := ⟨(RX12, TX12, 50), rfl, clok_12, by decide, rfl, Or.inl wd_1205⟩
theorem lkF_X12_115 : q_lkF RX12 115 12 10 := ⟨(RX12, TX12, 50), rfl, clok_12, by decide, rfl, Or.inl wd_1209⟩
theorem lkF_X12_118 : q_lkF RX12 118 12 9 := ⟨(RX12, TX12, 50), rfl, clok_12, by decide, rfl, Or.inl wd_1208⟩
theorem lkF_X12_121 : q_lkF RX12 121 12 8 := ⟨(RX12, TX12, 50), rfl, clok_12, by decide, rfl, Or.inl wd_1207⟩
theorem lkF_X12_124 : q_lkF RX12 124 12 11 := ⟨(RX12, TX12, 50), rfl, clok_12, by decide, rfl, Or.inl wd_1210⟩
theorem lkF_X12_127 : q_lkF RX12 127 12 12 := ⟨(RX12, TX12, 50), rfl, clok_12, by decide, rfl, Or.inl wd_1211⟩
theorem lkF_X12_193 : q_lkF RX12 193 12 17 := ⟨(RX12, TX12, 50), rfl, clok_12, by decide, rfl, Or.inl wd_1216⟩
theorem lkF_X12_197 : q_lkF RX12 197 12 13 := ⟨(RX12, TX12, 50), rfl, clok_12, by decide, rfl, Or.inl wd_1212⟩
theorem lkF_X12_200 : q_lkF RX12 200 12 14 := ⟨(RX12, TX12, 50), rfl, clok_12, by decide, rfl, Or.inl wd_1213⟩
theorem lkF_X12_235 : q_lkF RX12 235 12 31 := ⟨(RX12, TX12, 50), rfl, clok_12, by decide, rfl, Or.inl wd_1230⟩
theorem lkF_X12_238 : q_lkF RX12 238 12 28 := ⟨(RX12, TX12, 50), rfl, clok_12, by decide, rfl, Or.inl wd_1227⟩
theorem lkF_X12_241 : q_lkF RX12 241 12 29 := ⟨(RX12, TX12, 50), rfl, clok_12, by decide, rfl, Or.inl wd_1228⟩
theorem lkF_X12_276 : q_lkF RX12 276 12 7 := ⟨(RX12, TX12, 50), rfl, clok_12, by decide, rfl, Or.inl wd_1206⟩
theorem lkF_X12_279 : q_lkF RX12 279 12 30 := ⟨(RX12, TX12, 50), rfl, clok_12, by decide, rfl, Or.inl wd_1229⟩
theorem lkF_X12_284 : q_lkF RX12 284 12 26 := ⟨(RX12, TX12, 50), rfl, clok_12, by decide, rfl, Or.inl wd_1225⟩
theorem lkF_X12_287 : q_lkF RX12 287 12 27 := ⟨(RX12, TX12, 50), rfl, clok_12, by decide, rfl, Or.inl wd_1226⟩
theorem lkF_X12_290 : q_lkF RX12 290 12 45 := ⟨(RX12, TX12, 50), rfl, clok_12, by decide, rfl, Or.inl wd_1244⟩
theorem lkF_X12_293 : q_lkF RX12 293 12 42 := ⟨(RX12, TX12, 50), rfl, clok_12, by decide, rfl, Or.inl wd_1241⟩
theorem lkF_X12_296 : q_lkF RX12 296 12 49 := ⟨(RX12, TX12, 50), rfl, clok_12, by decide, rfl, Or.inl wd_1248⟩
theorem lkF_X12_313 : q_lkF RX12 313 12 37 := ⟨(RX12, TX12, 50), rfl, clok_12, by decide, rfl, Or.inl wd_1236⟩
theorem lkF_X12_316 : q_lkF RX12 316 12 39 := ⟨(RX12, TX12, 50), rfl, clok_12, by decide, rfl, Or.inl wd_1238⟩
theorem lkF_X12_319 : q_lkF RX12 319 12 38 := ⟨(RX12, TX12, 50), rfl, clok_12, by decide, rfl, Or.inl wd_1237⟩
theorem lkF_X12_338 : q_lkF RX12 338 12 40 := ⟨(RX12, TX12, 50), rfl, clok_12, by decide, rfl, Or.inl wd_1239⟩
theorem lkF_X12_392 : q_lkF RX12 392 12 43 := ⟨(RX12, TX12, 50), rfl, clok_12, by decide, rfl, Or.inl wd_1242⟩
theorem lkM_X11_11 : q_lM RX11 11 yX9_init := Or.inr ⟨_, wn_37⟩
theorem lkM_X11_18 : q_lM RX11 18 yX3_init := Or.inr ⟨_, wn_65⟩
theorem lkM_X11_28 : q_lM RX11 28 yX5_init := Or.inr ⟨_, wn_106⟩
theorem lkM_X11_49 : q_lM RX11 49 yX8_init := Or.inr ⟨_, wn_126⟩
theorem lkM_X11_59 : q_lM RX11 59 yX6_init := Or.inr ⟨_, wn_141⟩
theorem lkM_X11_66 : q_lM RX11 66 yX1_init := Or.inr ⟨_, wn_172⟩
theorem lkM_X11_75 : q_lM RX11 75 yX0_init := Or.inr ⟨_, wn_231⟩
theorem lkM_X11_84 : q_lM RX11 84 yX2_init := Or.inr ⟨_, wn_244⟩
theorem lkM_X11_93 : q_lM RX11 93 yX7_init := Or.inr ⟨_, wn_295⟩
theorem lkM_X11_98 : q_lM RX11 98 yX10_init := Or.inr ⟨_, wn_314⟩
theorem lkM_X11_124 : q_lM RX11 124 yX9_bytesIn := Or.inr ⟨_, wn_392⟩
theorem lkM_X11_131 : q_lM RX11 131 yX9_append := Or.inr ⟨_, wn_395⟩
theorem lkM_X11_135 : q_lM RX11 135 yX11_readTape := Or.inl wd_407
theorem lkM_X11_142 : q_lM RX11 142 yX11_hasRoomFor := Or.inl wd_612
theorem lkM_X11_145 : q_lM RX11 145 yX11_moveIn := Or.inl wd_616
theorem lkM_X11_149 : q_lM RX11 149 yX5_written := Or.inr ⟨_, wn_648⟩
theorem lkM_X11_153 : q_lM RX11 153 yX4_init := Or.inr ⟨_, wn_664⟩
theorem lkM_X11_163 : q_lM RX11 163 yX3_hasDish := Or.inr ⟨_, wn_683⟩
theorem lkM_X11_166 : q_lM RX11 166 yX3_ofDish := Or.inr ⟨_, wn_687⟩
theorem lkM_X11_170 : q_lM RX11 170 yX3_hasGuest := Or.inr ⟨_, wn_918⟩
theorem lkM_X11_180 : q_lM RX11 180 yX3_ofGuest := Or.inr ⟨_, wn_1073⟩
theorem lkM_X11_183 : q_lM RX11 183 yX8_hasLeft := Or.inr ⟨_, wn_996⟩
theorem lkM_X11_192 : q_lM RX11 192 yX11_act := Or.inl wd_703
theorem lkM_X11_199 : q_lM RX11 199 yJ6_bitCount_0f7a4 := Or.inl wd_815
theorem lkM_X11_204 : q_lM RX11 204 yX8_copyFrom := Or.inr ⟨_, wn_707⟩
theorem lkM_X11_208 : q_lM RX11 208 yX11_meetChance := Or.inl wd_840
theorem lkM_X11_211 : q_lM RX11 211 yX1_pass := Or.inr ⟨_, wn_850⟩
theorem lkM_X11_214 : q_lM RX11 214 yX6_keepAct := Or.inr ⟨_, wn_798⟩
theorem lkM_X11_217 : q_lM RX11 217 yX6_writeLog := Or.inr ⟨_, wn_804⟩
theorem lkM_X11_221 : q_lM RX11 221 yX6_undoAct := Or.inr ⟨_, wn_855⟩
theorem lkM_X11_228 : q_lM RX11 228 yX6_logLength := Or.inr ⟨_, wn_863⟩
theorem lkM_X11_232 : q_lM RX11 232 yX6_ofLog := Or.inr ⟨_, wn_867⟩
theorem lkM_X11_235 : q_lM RX11 235 yX11_weekAt := Or.inl wd_876
theorem lkM_X11_242 : q_lM RX11 242 yX10_ofStep := Or.inr ⟨_, wn_880⟩
theorem lkM_X11_245 : q_lM RX11 245 yX2_stepsDone := Or.inr ⟨_, wn_888⟩
theorem lkM_X11_252 : q_lM RX11 252 yX2_layAhead := Or.inr ⟨_, wn_904⟩
theorem lkM_X11_268 : q_lM RX11 268 yX1_isThere := Or.inr ⟨_, wn_919⟩
theorem lkM_X11_272 : q_lM RX11 272 yX1_lay := Or.inr ⟨_, wn_920⟩
theorem lkM_X11_278 : q_lM RX11 278 yX2_seekBest := Or.inr ⟨_, wn_925⟩
theorem lkM_X11_287 : q_lM RX11 287 yX2_fewestMadeUp := Or.inr ⟨_, wn_942⟩
theorem lkM_X11_291 : q_lM RX11 291 yX11_areWarmthAndJoy := Or.inl wd_950
theorem lkM_X11_295 : q_lM RX11 295 yX7_add := Or.inr ⟨_, wn_953⟩
theorem lkM_X11_299 : q_lM RX11 299 yX7_kindsLeft := Or.inr ⟨_, wn_961⟩
theorem lkM_X11_302 : q_lM RX11 302 yX7_dishToTry := Or.inr ⟨_, wn_980⟩
theorem lkM_X11_306 : q_lM RX11 306 yX2_daysToLeaving := Or.inr ⟨_, wn_997⟩
theorem lkM_X11_309 : q_lM RX11 309 yX11_canPlay := Or.inl wd_1006
theorem lkM_X11_312 : q_lM RX11 312 yX2_play := Or.inr ⟨_, wn_1010⟩
theorem lkM_X11_322 : q_lM RX11 322 yX2_playAll := Or.inr ⟨_, wn_1023⟩
theorem lkM_X11_326 : q_lM RX11 326 yX2_restCount := Or.inr ⟨_, wn_1028⟩
theorem lkM_X11_329 : q_lM RX11 329 yX2_restAt := Or.inr ⟨_, wn_1036⟩
theorem lkM_X11_332 : q_lM RX11 332 yX2_oddsOf := Or.inr ⟨_, wn_1044⟩
theorem lkM_X11_339 : q_lM RX11 339 yX11_firstMost := Or.inl wd_1058
theorem lkM_X11_352 : q_lM RX11 352 yX11_cheapest := Or.inl wd_1061
theorem lkM_X11_355 : q_lM RX11 355 yX11_mostLiked := Or.inl wd_1065
theorem lkM_X11_361 : q_lM RX11 361 yX11_lastDay := Or.inl wd_1069
theorem lkM_X11_364 : q_lM RX11 364 yX11_takings := Or.inl wd_1075
theorem lkM_X11_370 : q_lM RX11 370 yX2_daysToNothing := Or.inr ⟨_, wn_1079⟩
theorem lkM_X11_374 : q_lM RX11 374 yX2_fullestDay := Or.inr ⟨_, wn_1083⟩
theorem lkM_X11_382 : q_lM RX11 382 yX6_takePicture := Or.inr ⟨_, wn_1099⟩
theorem lkM_X11_385 : q_lM RX11 385 yX6_showPicture := Or.inr ⟨_, wn_1108⟩
theorem lkM_X11_388 : q_lM RX11 388 yX8_joyOfAll := Or.inr ⟨_, wn_1116⟩
theorem lkM_X11_394 : q_lM RX11 394 yX3_readFrom := Or.inr ⟨_, wn_411⟩
theorem lkM_X11_398 : q_lM RX11 398 yX5_readLaw := Or.inr ⟨_, wn_541⟩
theorem lkM_X11_402 : q_lM RX11 402 yX10_readFrom := Or.inr ⟨_, wn_590⟩
theorem lkM_X11_403 : q_lM RX11 403 yX3_copyFrom := Or.inr ⟨_, wn_620⟩
theorem lkM_X11_405 : q_lM RX11 405 yX8_begin := Or.inr ⟨_, wn_635⟩
theorem lkM_X11_408 : q_lM RX11 408 yX6_forget := Or.inr ⟨_, wn_643⟩
theorem lkM_X11_411 : q_lM RX11 411 yX0_carryOut := Or.inr ⟨_, wn_712⟩
theorem lkM_X11_415 : q_lM RX11 415 yX11_draw := Or.inl wd_844
theorem lkM_X0_25 : q_lM RX0 25 yX1_pass := Or.inr ⟨_, wn_716⟩
theorem lkM_X0_31 : q_lM RX0 31 yX0_chooseDish := Or.inl wd_772
theorem lkM_X0_35 : q_lM RX0 35 yX0_fallIll := Or.inl wd_777
theorem lkM_X0_39 : q_lM RX0 39 yX0_makeHandUp := Or.inl wd_781
theorem lkM_X0_42 : q_lM RX0 42 yX0_stayLonger := Or.inl wd_785
theorem lkM_X0_46 : q_lM RX0 46 yX0_likeAnother := Or.inl wd_794
theorem lkM_X0_49 : q_lM RX0 49 yX3_hasDish := Or.inr ⟨_, wn_776⟩
theorem lkM_X0_55 : q_lM RX0 55 yX3_hasGuest := Or.inr ⟨_, wn_789⟩
theorem lkM_X0_58 : q_lM RX0 58 yX8_hasLeft := Or.inr ⟨_, wn_793⟩
theorem lkM_X1_56 : q_lM RX1 56 yX3_ofGuest := Or.inr ⟨_, wn_728⟩
theorem lkM_X1_62 : q_lM RX1 62 yX8_hasLeft := Or.inr ⟨_, wn_729⟩
theorem lkM_X1_69 : q_lM RX1 69 yX1_isThere := Or.inl wd_724
theorem lkM_X1_73 : q_lM RX1 73 yX3_dishByDay := Or.inr ⟨_, wn_733⟩
theorem lkM_X1_77 : q_lM RX1 77 yJ6_bitCount_0f7a4 := Or.inl wd_737
theorem lkM_X1_82 : q_lM RX1 82 yX1_serve := Or.inl wd_743
theorem lkM_X1_86 : q_lM RX1 86 yX1_feedThose := Or.inl wd_749
theorem lkM_X1_89 : q_lM RX1 89 yX3_ofDish := Or.inr ⟨_, wn_747⟩
theorem lkM_X1_103 : q_lM RX1 103 yX1_lay := Or.inl wd_720
theorem lkM_X1_106 : q_lM RX1 106 yX1_gladden := Or.inl wd_753
theorem lkM_X1_110 : q_lM RX1 110 yX1_joyBy := Or.inl wd_757
theorem lkM_X1_117 : q_lM RX1 117 yX4_worth := Or.inr ⟨_, wn_761⟩
theorem lkM_X2_13 : q_lM RX2 13 yX8_init := Or.inr ⟨_, wn_249⟩
theorem lkM_X2_57 : q_lM RX2 57 yX8_copyFrom := Or.inr ⟨_, wn_892⟩
theorem lkM_X2_66 : q_lM RX2 66 yX10_ofStep := Or.inr ⟨_, wn_893⟩
theorem lkM_X2_70 : q_lM RX2 70 yX0_carryOut := Or.inr ⟨_, wn_894⟩
theorem lkM_X2_76 : q_lM RX2 76 yX8_joyOfAll := Or.inr ⟨_, wn_895⟩
theorem lkM_X2_80 : q_lM RX2 80 yX1_pass := Or.inr ⟨_, wn_908⟩
theorem lkM_X2_85 : q_lM RX2 85 yX1_lay := Or.inr ⟨_, wn_909⟩
theorem lkM_X2_89 : q_lM RX2 89 yX2_tryRows := Or.inl wd_930
theorem lkM_X2_101 : q_lM RX2 101 yX2_weighRow := Or.inl wd_934
theorem lkM_X2_111 : q_lM RX2 111 yX8_hasLeft := Or.inr ⟨_, wn_1001⟩
theorem lkM_X2_124 : q_lM RX2 124 yX2_gainBesideJoy := Or.inl wd_1014
theorem lkM_X2_128 : q_lM RX2 128 yX3_ofGuest := Or.inr ⟨_, wn_1018⟩
theorem lkM_X2_131 : q_lM RX2 131 yX2_play := Or.inl wd_1027
theorem lkM_X2_135 : q_lM RX2 135 yX2_isRest := Or.inl wd_1032
theorem lkM_X2_141 : q_lM RX2 141 yX2_partsFed := Or.inl wd_1049
theorem lkM_X3_41 : q_lM RX3 41 yX3_orderByComing := Or.inl wd_627
theorem lkM_X3_47 : q_lM RX3 47 yX3_ofGuest := Or.inl wd_631
theorem lkM_X3_54 : q_lM RX3 54 yX3_setUsual := Or.inl wd_417
theorem lkM_X3_58 : q_lM RX3 58 yX3_readClause := Or.inl wd_420
theorem lkM_X3_62 : q_lM RX3 62 yX9_peek := Or.inr ⟨_, wn_424⟩
theorem lkM_X3_68 : q_lM RX3 68 yX9_take := Or.inr ⟨_, wn_537⟩
theorem lkM_X3_77 : q_lM RX3 77 yX3_readItems := Or.inl wd_429
theorem lkM_X3_88 : q_lM RX3 88 yJ0_length_8abf5 := Or.inl wd_432
theorem lkM_X3_93 : q_lM RX3 93 yX9_peekAmong := Or.inr ⟨_, wn_442⟩
theorem lkM_X3_97 : q_lM RX3 97 yX9_readNumber := Or.inr ⟨_, wn_524⟩
theorem lkM_X4_24 : q_lM RX4 24 yX4_joined := Or.inl wd_766
theorem lkM_X5_23 : q_lM RX5 23 yJ7_copyOf_59c91 := Or.inl wd_652
theorem lkM_X5_29 : q_lM RX5 29 yX5_readClause := Or.inl wd_545
theorem lkM_X5_33 : q_lM RX5 33 yX9_peek := Or.inr ⟨_, wn_589⟩
theorem lkM_X5_39 : q_lM RX5 39 yX9_take := Or.inr ⟨_, wn_549⟩
theorem lkM_X5_45 : q_lM RX5 45 yX9_peekAmong := Or.inr ⟨_, wn_551⟩
theorem lkM_X5_49 : q_lM RX5 49 yX5_readSum := Or.inl wd_552
theorem lkM_X5_55 : q_lM RX5 55 yX5_write := Or.inl wd_565
theorem lkM_X5_59 : q_lM RX5 59 yX5_readCondition := Or.inl wd_573
theorem lkM_X5_63 : q_lM RX5 63 yX5_readTruth := Or.inl wd_577
theorem lkM_X5_66 : q_lM RX5 66 yX5_readUnit := Or.inl wd_581
theorem lkM_X5_69 : q_lM RX5 69 yX5_readNested := Or.inl wd_585
theorem lkM_X5_75 : q_lM RX5 75 yX5_readTerm := Or.inl wd_556
theorem lkM_X5_80 : q_lM RX5 80 yX5_readAtom := Or.inl wd_560
theorem lkM_X5_87 : q_lM RX5 87 yX9_readNumber := Or.inr ⟨_, wn_569⟩
theorem lkM_X6_23 : q_lM RX6 23 yX8_init := Or.inr ⟨_, wn_146⟩
theorem lkM_X6_54 : q_lM RX6 54 yX6_logRow := Or.inl wd_808
theorem lkM_X6_66 : q_lM RX6 66 yX8_joyOfAll := Or.inr ⟨_, wn_811⟩
theorem lkM_X6_71 : q_lM RX6 71 yX8_copyFrom := Or.inr ⟨_, wn_1103⟩
theorem lkM_X7_27 : q_lM RX7 27 yX3_ofDish := Or.inr ⟨_, wn_973⟩
theorem lkM_X7_33 : q_lM RX7 33 yX3_ofGuest := Or.inr ⟨_, wn_974⟩
theorem lkM_X7_36 : q_lM RX7 36 yX1_joyBy := Or.inr ⟨_, wn_975⟩
theorem lkM_X7_42 : q_lM RX7 42 yX7_hasJoy := Or.inl wd_969
theorem lkM_X7_46 : q_lM RX7 46 yX7_mayLike := Or.inl wd_965
theorem lkM_X7_50 : q_lM RX7 50 yX7_kindsLeft := Or.inl wd_984
theorem lkM_X7_57 : q_lM RX7 57 yX7_lean := Or.inl wd_985
theorem lkM_X8_21 : q_lM RX8 21 yJ7_fill_53178 := Or.inl wd_639
theorem lkM_X8_36 : q_lM RX8 36 yX3_ofGuest := Or.inr ⟨_, wn_642⟩
theorem lkM_X9_25 : q_lM RX9 25 yX9_peek := Or.inl wd_446
theorem lkM_X9_29 : q_lM RX9 29 yJ0_indexOf_0f7a4 := Or.inl wd_447
theorem lkM_X9_35 : q_lM RX9 35 yX9_isDigit := Or.inl wd_528
theorem lkM_X10_19 : q_lM RX10 19 yX10_readStep := Or.inl wd_594
theorem lkM_X10_23 : q_lM RX10 23 yX9_peek := Or.inr ⟨_, wn_606⟩
theorem lkM_X10_29 : q_lM RX10 29 yX9_take := Or.inr ⟨_, wn_607⟩
theorem lkM_X10_35 : q_lM RX10 35 yX9_peekAmong := Or.inr ⟨_, wn_599⟩
theorem lkM_X10_45 : q_lM RX10 45 yX9_readDigit := Or.inr ⟨_, wn_602⟩
theorem lkM_L_7 : q_lM RL 7 yX11_guest := Or.inl wd_1121
theorem lkM_L_15 : q_lM RL 15 yX11_init := Or.inl wd_29
theorem lkM_L_18 : q_lM RL 18 yX12_init := Or.inl wd_1193
theorem lkM_L_19 : q_lM RL 19 yX11_feed := Or.inl wd_388
theorem lkM_L_23 : q_lM RL 23 yX12_feed := Or.inl wd_1354
theorem lkM_L_24 : q_lM RL 24 yX11_end := Or.inl wd_399
theorem lkM_L_28 : q_lM RL 28 yX12_end := Or.inl wd_1365
theorem lkM_L_29 : q_lM RL 29 yX11_fault := Or.inl wd_403
theorem lkM_L_33 : q_lM RL 33 yX12_fault := Or.inl wd_1369
theorem lkM_L_34 : q_lM RL 34 yX11_text := Or.inl wd_608
theorem lkM_L_37 : q_lM RL 37 yX12_text := Or.inl wd_1523
theorem lkM_L_38 : q_lM RL 38 yX11_rule := Or.inl wd_675
theorem lkM_L_41 : q_lM RL 41 yX12_rule := Or.inl wd_1528
theorem lkM_L_42 : q_lM RL 42 yX11_dish := Or.inl wd_679
theorem lkM_L_45 : q_lM RL 45 yX12_dish := Or.inl wd_1532
theorem lkM_L_46 : q_lM RL 46 yL_guest := Or.inl wd_1117
theorem lkM_L_51 : q_lM RL 51 yX12_guest := Or.inl wd_1540
theorem lkM_L_52 : q_lM RL 52 yX12_thrown := Or.inl wd_1350
theorem lkM_L_56 : q_lM RL 56 yX11_law := Or.inl wd_691
theorem lkM_L_59 : q_lM RL 59 yX12_law := Or.inl wd_1557
theorem lkM_L_60 : q_lM RL 60 yX11_fever := Or.inl wd_695
theorem lkM_L_63 : q_lM RL 63 yX12_fever := Or.inl wd_1561
theorem lkM_L_64 : q_lM RL 64 yX11_day := Or.inl wd_699
theorem lkM_L_67 : q_lM RL 67 yX12_day := Or.inl wd_1566
theorem lkM_L_68 : q_lM RL 68 yX11_choose := Or.inl wd_816
theorem lkM_L_71 : q_lM RL 71 yX12_choose := Or.inl wd_1617
theorem lkM_L_72 : q_lM RL 72 yX11_ill := Or.inl wd_820
theorem lkM_L_75 : q_lM RL 75 yX12_ill := Or.inl wd_1625
theorem lkM_L_76 : q_lM RL 76 yX11_makeUp := Or.inl wd_824
theorem lkM_L_79 : q_lM RL 79 yX12_makeUp := Or.inl wd_1632
theorem lkM_L_80 : q_lM RL 80 yX11_stay := Or.inl wd_828
theorem lkM_L_83 : q_lM RL 83 yX12_stay := Or.inl wd_1642
theorem lkM_L_84 : q_lM RL 84 yX11_sign := Or.inl wd_832
theorem lkM_L_87 : q_lM RL 87 yX12_sign := Or.inl wd_1650
theorem lkM_L_90 : q_lM RL 90 yX11_years := Or.inl wd_836
theorem lkM_L_94 : q_lM RL 94 yX12_years := Or.inl wd_1655
theorem lkM_L_95 : q_lM RL 95 yX11_undo := Or.inl wd_851
theorem lkM_L_98 : q_lM RL 98 yX12_undo := Or.inl wd_1666
theorem lkM_L_99 : q_lM RL 99 yX11_log := Or.inl wd_859
theorem lkM_L_102 : q_lM RL 102 yX12_log := Or.inl wd_1670
theorem lkM_L_103 : q_lM RL 103 yX11_step := Or.inl wd_872
theorem lkM_L_107 : q_lM RL 107 yX12_step := Or.inl wd_1675
theorem lkM_L_108 : q_lM RL 108 yX11_run := Or.inl wd_884
theorem lkM_L_111 : q_lM RL 111 yX12_run := Or.inl wd_1683
theorem lkM_L_112 : q_lM RL 112 yX11_perform := Or.inl wd_896
theorem lkM_L_115 : q_lM RL 115 yX12_perform := Or.inl wd_1698
theorem lkM_L_116 : q_lM RL 116 yX11_serves := Or.inl wd_900
theorem lkM_L_119 : q_lM RL 119 yX12_serves_ := Or.inl wd_1702
theorem lkM_L_120 : q_lM RL 120 yX11_there := Or.inl wd_910
theorem lkM_L_123 : q_lM RL 123 yX12_there := Or.inl wd_1711
theorem lkM_L_124 : q_lM RL 124 yX11_fed := Or.inl wd_914
theorem lkM_L_127 : q_lM RL 127 yX12_fed := Or.inl wd_1715
theorem lkM_L_128 : q_lM RL 128 yX11_best := Or.inl wd_921
theorem lkM_L_131 : q_lM RL 131 yX12_best := Or.inl wd_1723
theorem lkM_L_132 : q_lM RL 132 yX11_madeUp := Or.inl wd_938
theorem lkM_L_135 : q_lM RL 135 yX12_madeUp := Or.inl wd_1727
theorem lkM_L_136 : q_lM RL 136 yX11_seen := Or.inl wd_946
theorem lkM_L_140 : q_lM RL 140 yX12_seen := Or.inl wd_1731
theorem lkM_L_141 : q_lM RL 141 yX11_likes := Or.inl wd_957
theorem lkM_L_144 : q_lM RL 144 yX12_likes := Or.inl wd_1736
theorem lkM_L_145 : q_lM RL 145 yX11_probe := Or.inl wd_976
theorem lkM_L_148 : q_lM RL 148 yX12_probe := Or.inl wd_1748
theorem lkM_L_149 : q_lM RL 149 yX11_leaves := Or.inl wd_992
theorem lkM_L_152 : q_lM RL 152 yX12_leaves := Or.inl wd_1753
theorem lkM_L_153 : q_lM RL 153 yX11_game := Or.inl wd_1002
theorem lkM_L_156 : q_lM RL 156 yX12_game := Or.inl wd_1757
theorem lkM_L_157 : q_lM RL 157 yX11_rests := Or.inl wd_1019
theorem lkM_L_160 : q_lM RL 160 yX12_rests := Or.inl wd_1769
theorem lkM_L_161 : q_lM RL 161 yX11_odds := Or.inl wd_1040
theorem lkM_L_164 : q_lM RL 164 yX12_odds := Or.inl wd_1773
theorem lkM_L_165 : q_lM RL 165 yX11_all := Or.inl wd_1054
theorem lkM_L_168 : q_lM RL 168 yX12_all := Or.inl wd_1784
theorem lkM_L_169 : q_lM RL 169 yX11_kinds := Or.inl wd_1087
theorem lkM_L_172 : q_lM RL 172 yX12_kinds := Or.inl wd_1820
theorem lkM_L_173 : q_lM RL 173 yX11_staying := Or.inl wd_1091
theorem lkM_L_176 : q_lM RL 176 yX12_staying := Or.inl wd_1824
theorem lkM_L_177 : q_lM RL 177 yX11_image := Or.inl wd_1095
theorem lkM_L_180 : q_lM RL 180 yX12_image := Or.inl wd_1828
theorem lkM_L_181 : q_lM RL 181 yX11_back := Or.inl wd_1104
theorem lkM_L_184 : q_lM RL 184 yX12_back := Or.inl wd_1832
theorem lkM_L_185 : q_lM RL 185 yX11_count := Or.inl wd_1112
theorem lkM_L_188 : q_lM RL 188 yX12_count := Or.inl wd_1836
theorem lkM_X12_95 : q_lM RX12 95 yJ0_length_8abf5 := Or.inl wd_1405
theorem lkM_X12_101 : q_lM RX12 101 yJ0_charAt_5068e := Or.inl wd_1409
theorem lkM_X12_107 : q_lM RX12 107 yX12_bytesIn := Or.inl wd_1358
theorem lkM_X12_111 : q_lM RX12 111 yX12_put := Or.inl wd_1361
theorem lkM_X12_130 : q_lM RX12 130 yX12_fails := Or.inl wd_1396
theorem lkM_X12_134 : q_lM RX12 134 yX12_look := Or.inl wd_1392
theorem lkM_X12_150 : q_lM RX12 150 yX12_isAmong := Or.inl wd_1457
theorem lkM_X12_154 : q_lM RX12 154 yX12_goesIn := Or.inl wd_1488
theorem lkM_X12_157 : q_lM RX12 157 yX12_sum := Or.inl wd_1476
theorem lkM_X12_160 : q_lM RX12 160 yX12_takes := Or.inl wd_1460
theorem lkM_X12_164 : q_lM RX12 164 yX12_isDigit := Or.inl wd_1439
theorem lkM_X12_167 : q_lM RX12 167 yX12_atom := Or.inl wd_1484
theorem lkM_X12_170 : q_lM RX12 170 yX12_within := Or.inl wd_1492
theorem lkM_X12_174 : q_lM RX12 174 yX12_term := Or.inl wd_1480
theorem lkM_X12_177 : q_lM RX12 177 yX12_isSign := Or.inl wd_1503
theorem lkM_X12_180 : q_lM RX12 180 yX12_unit := Or.inl wd_1506
theorem lkM_X12_183 : q_lM RX12 183 yX12_condition := Or.inl wd_1464
theorem lkM_X12_187 : q_lM RX12 187 yX12_compares := Or.inl wd_1472
theorem lkM_X12_190 : q_lM RX12 190 yX12_part := Or.inl wd_1468
theorem lkM_X12_203 : q_lM RX12 203 yX12_starts := Or.inl wd_1381
theorem lkM_X12_207 : q_lM RX12 207 yX12_clause := Or.inl wd_1453
theorem lkM_X12_210 : q_lM RX12 210 yX12_here := Or.inl wd_1443
theorem lkM_X12_213 : q_lM RX12 213 yX12_isIn := Or.inl wd_1374
theorem lkM_X12_217 : q_lM RX12 217 yX12_usual := Or.inl wd_1385
theorem lkM_X12_221 : q_lM RX12 221 yX12_spotOf := Or.inl wd_1406
theorem lkM_X12_225 : q_lM RX12 225 yX12_has := Or.inl wd_1429
theorem lkM_X12_229 : q_lM RX12 229 yX12_mostOf := Or.inl wd_1432
theorem lkM_X12_232 : q_lM RX12 232 yX12_number := Or.inl wd_1435
theorem lkM_X12_246 : q_lM RX12 246 yX12_readItems := Or.inl wd_1401
theorem lkM_X12_254 : q_lM RX12 254 yX12_readClause := Or.inl wd_1388
theorem lkM_X12_259 : q_lM RX12 259 yX12_digit := Or.inl wd_1519
theorem lkM_X12_262 : q_lM RX12 262 yX12_readStep := Or.inl wd_1514
theorem lkM_X12_267 : q_lM RX12 267 yX12_readHouse := Or.inl wd_1377
theorem lkM_X12_270 : q_lM RX12 270 yX12_goThrough := Or.inl wd_1449
theorem lkM_X12_273 : q_lM RX12 273 yX12_readWeek := Or.inl wd_1510
theorem lkM_X12_282 : q_lM RX12 282 yX12_fault := Or.inl wd_1527
theorem lkM_X12_299 : q_lM RX12 299 yX12_comes := Or.inl wd_1549
theorem lkM_X12_302 : q_lM RX12 302 yX12_isThere := Or.inl wd_1582
theorem lkM_X12_306 : q_lM RX12 306 yX12_pays := Or.inl wd_1553
theorem lkM_X12_322 : q_lM RX12 322 yX12_cooks := Or.inl wd_1590
theorem lkM_X12_326 : q_lM RX12 326 yX12_thereBits := Or.inl wd_1578
theorem lkM_X12_329 : q_lM RX12 329 yJ6_bitCount_0f7a4 := Or.inl wd_1594
theorem lkM_X12_334 : q_lM RX12 334 yX12_serves := Or.inl wd_1595
theorem lkM_X12_341 : q_lM RX12 341 yX12_goTable := Or.inl wd_1586
theorem lkM_X12_344 : q_lM RX12 344 yX12_kindOf := Or.inl wd_1600
theorem lkM_X12_347 : q_lM RX12 347 yX12_joyOf := Or.inl wd_1604
theorem lkM_X12_351 : q_lM RX12 351 yX12_fedBits := Or.inl wd_1609
theorem lkM_X12_354 : q_lM RX12 354 yX12_joys := Or.inl wd_1613
theorem lkM_X12_357 : q_lM RX12 357 yX12_isDish := Or.inl wd_1536
theorem lkM_X12_360 : q_lM RX12 360 yX12_isGuest := Or.inl wd_1544
theorem lkM_X12_367 : q_lM RX12 367 yX12_remember := Or.inl wd_1570
theorem lkM_X12_370 : q_lM RX12 370 yX12_goDay := Or.inl wd_1574
theorem lkM_X12_373 : q_lM RX12 373 yX12_canChoose := Or.inl wd_1621
theorem lkM_X12_376 : q_lM RX12 376 yX12_canBeIll := Or.inl wd_1629
theorem lkM_X12_380 : q_lM RX12 380 yX12_canMakeUp := Or.inl wd_1636
theorem lkM_X12_383 : q_lM RX12 383 yX12_makesUp := Or.inl wd_1639
theorem lkM_X12_386 : q_lM RX12 386 yX12_canStay := Or.inl wd_1646
theorem lkM_X12_402 : q_lM RX12 402 yX12_draw := Or.inl wd_1660
theorem lkM_X12_406 : q_lM RX12 406 yX12_isWeek := Or.inl wd_1679
theorem lkM_X12_409 : q_lM RX12 409 yX12_copy := Or.inl wd_1687
theorem lkM_X12_413 : q_lM RX12 413 yX12_canStep := Or.inl wd_1690
theorem lkM_X12_416 : q_lM RX12 416 yX12_goStep := Or.inl wd_1694
theorem lkM_X12_422 : q_lM RX12 422 yX12_goOn := Or.inl wd_1707
theorem lkM_X12_425 : q_lM RX12 425 yX12_tableNow := Or.inl wd_1719
theorem lkM_X12_430 : q_lM RX12 430 yX12_hasJoy := Or.inl wd_1744
theorem lkM_X12_434 : q_lM RX12 434 yX12_liked := Or.inl wd_1740
theorem lkM_X12_440 : q_lM RX12 440 yX12_isGame := Or.inl wd_1761
theorem lkM_X12_443 : q_lM RX12 443 yX12_gameOf := Or.inl wd_1765
theorem lkM_X12_449 : q_lM RX12 449 yX12_oddsFrom := Or.inl wd_1780
theorem lkM_X12_456 : q_lM RX12 456 yX12_valueOf := Or.inl wd_1792
theorem lkM_X12_459 : q_lM RX12 459 yX12_likers := Or.inl wd_1800
theorem lkM_X12_462 : q_lM RX12 462 yX12_greatest := Or.inl wd_1788
theorem lkM_X12_465 : q_lM RX12 465 yX12_ofDish := Or.inl wd_1796
theorem lkM_X12_468 : q_lM RX12 468 yX12_last := Or.inl wd_1804
theorem lkM_X12_471 : q_lM RX12 471 yX12_takes_ := Or.inl wd_1808
theorem lkM_X12_473 : q_lM RX12 473 yX12_mustard := Or.inl wd_1812
theorem lkM_X12_476 : q_lM RX12 476 yX12_fullest := Or.inl wd_1816
theorem mV_J0_charAt_5068e : q_mV yJ0_charAt_5068e cJ0_charAt_5068e 2 (Option.some Jvm.ClassFile.FieldType.char) 1 := ⟨⟨wd_13, wd_1412, by decide, by decide, by decide +kernel⟩, wd_1410, wd_1411⟩
theorem mV_J0_indexOf_0f7a4 : q_mV yJ0_indexOf_0f7a4 cJ0_indexOf_0f7a4 2 (Option.some Jvm.ClassFile.FieldType.int) 1 := ⟨⟨wd_13, wd_450, by decide, by decide, by decide +kernel⟩, wd_448, wd_449⟩
theorem mV_J0_length_8abf5 : q_mV yJ0_length_8abf5 cJ0_length_8abf5 1 (Option.some Jvm.ClassFile.FieldType.int) 0 := ⟨⟨wd_13, wd_435, by decide, by decide, by decide +kernel⟩, wd_433, wd_434⟩
theorem mS_J6_bitCount_0f7a4 : q_mS yJ6_bitCount_0f7a4 cJ6_bitCount_0f7a4 1 (Option.some Jvm.ClassFile.FieldType.int) 1 := ⟨⟨wd_26, wd_739, by decide, by decide, by decide +kernel⟩, wd_738⟩
theorem mS_J7_copyOf_59c91 : q_mS yJ7_copyOf_59c91 cJ7_copyOf_59c91 3 (Option.some (Jvm.ClassFile.FieldType.array Jvm.ClassFile.FieldType.int)) 2 := ⟨⟨wd_20, wd_654, by decide, by decide, by decide +kernel⟩, wd_653⟩
theorem mS_J7_fill_53178 : q_mS yJ7_fill_53178 cJ7_fill_53178 4 (Option.none : Option Jvm.ClassFile.FieldType) 2 := ⟨⟨wd_20, wd_641, by decide, by decide, by decide +kernel⟩, wd_640⟩
theorem mV_X0_carryOut : q_mV yX0_carryOut cX0_carryOut 5 (Option.some Jvm.ClassFile.FieldType.boolean) 4 := ⟨⟨wd_8, wd_715, by decide, by decide, by decide +kernel⟩, wd_714, q_gws (by decide +kernel)⟩
theorem mV_X0_chooseDish : q_mV yX0_chooseDish cX0_chooseDish 3 (Option.some Jvm.ClassFile.FieldType.boolean) 2 := ⟨⟨wd_8, wd_775, by decide, by decide, by decide +kernel⟩, wd_774, q_gws (by decide +kernel)⟩
theorem mV_X0_fallIll : q_mV yX0_fallIll cX0_fallIll 2 (Option.some Jvm.ClassFile.FieldType.boolean) 1 := ⟨⟨wd_8, wd_780, by decide, by decide, by decide +kernel⟩, wd_779, q_gws (by decide +kernel)⟩
theorem mI_X0_init : q_mI yX0_init cX0_init 3 2 := ⟨⟨wd_8, wd_233, by decide, by decide, by decide +kernel⟩, wd_232, rfl⟩
theorem mV_X0_likeAnother : q_mV yX0_likeAnother cX0_likeAnother 4 (Option.some Jvm.ClassFile.FieldType.boolean) 3 := ⟨⟨wd_8, wd_797, by decide, by decide, by decide +kernel⟩, wd_796, q_gws (by decide +kernel)⟩
theorem mV_X0_makeHandUp : q_mV yX0_makeHandUp cX0_makeHandUp 2 (Option.some Jvm.ClassFile.FieldType.boolean) 1 := ⟨⟨wd_8, wd_784, by decide, by decide, by decide +kernel⟩, wd_783, q_gws (by decide +kernel)⟩
theorem mV_X0_stayLonger : q_mV yX0_stayLonger cX0_stayLonger 4 (Option.some Jvm.ClassFile.FieldType.boolean) 3 := ⟨⟨wd_8, wd_788, by decide, by decide, by decide +kernel⟩, wd_787, q_gws (by decide +kernel)⟩
theorem mI_X10_init : q_mI yX10_init cX10_init 1 0 := ⟨⟨wd_11, wd_316, by decide, by decide, by decide +kernel⟩, wd_315, rfl⟩
theorem mV_X10_ofStep : q_mV yX10_ofStep cX10_ofStep 4 (Option.some Jvm.ClassFile.FieldType.int) 2 := ⟨⟨wd_11, wd_883, by decide, by decide, by decide +kernel⟩, wd_882, q_gws (by decide +kernel)⟩
theorem mV_X10_readFrom : q_mV yX10_readFrom cX10_readFrom 3 (Option.some Jvm.ClassFile.FieldType.boolean) 1 := ⟨⟨wd_11, wd_593, by decide, by decide, by decide +kernel⟩, wd_592, q_gws (by decide +kernel)⟩
theorem mV_X10_readStep : q_mV yX10_readStep cX10_readStep 5 (Option.some Jvm.ClassFile.FieldType.boolean) 2 := ⟨⟨wd_11, wd_597, by decide, by decide, by decide +kernel⟩, wd_596, q_gws (by decide +kernel)⟩
theorem mV_X11_act : q_mV yX11_act cX11_act 4 (Option.some Jvm.ClassFile.FieldType.boolean) 3 := ⟨⟨wd_1, wd_706, by decide, by decide, by decide +kernel⟩, wd_705, q_gws (by decide +kernel)⟩
theorem mV_X11_all : q_mV yX11_all cX11_all 2 (Option.some Jvm.ClassFile.FieldType.int) 1 := ⟨⟨wd_1, wd_1057, by decide, by decide, by decide +kernel⟩, wd_1055, wd_1056⟩
theorem mS_X11_areWarmthAndJoy : q_mS yX11_areWarmthAndJoy cX11_areWarmthAndJoy 2 (Option.some Jvm.ClassFile.FieldType.boolean) 2 := ⟨⟨wd_1, wd_952, by decide, by decide, by decide +kernel⟩, wd_951⟩
theorem mV_X11_back : q_mV yX11_back cX11_back 1 (Option.some Jvm.ClassFile.FieldType.int) 0 := ⟨⟨wd_1, wd_1107, by decide, by decide, by decide +kernel⟩, wd_1105, wd_1106⟩
theorem mV_X11_best : q_mV yX11_best cX11_best 3 (Option.some Jvm.ClassFile.FieldType.int) 2 := ⟨⟨wd_1, wd_924, by decide, by decide, by decide +kernel⟩, wd_922, wd_923⟩
theorem mV_X11_canPlay : q_mV yX11_canPlay cX11_canPlay 3 (Option.some Jvm.ClassFile.FieldType.boolean) 2 := ⟨⟨wd_1, wd_1009, by decide, by decide, by decide +kernel⟩, wd_1008, q_gws (by decide +kernel)⟩
theorem mV_X11_cheapest : q_mV yX11_cheapest cX11_cheapest 3 (Option.some Jvm.ClassFile.FieldType.int) 0 := ⟨⟨wd_1, wd_1064, by decide, by decide, by decide +kernel⟩, wd_1063, q_gws (by decide +kernel)⟩
theorem mV_X11_choose : q_mV yX11_choose cX11_choose 3 (Option.some Jvm.ClassFile.FieldType.int) 1 := ⟨⟨wd_1, wd_819, by decide, by decide, by decide +kernel⟩, wd_817, wd_818⟩
theorem mV_X11_count : q_mV yX11_count cX11_count 2 (Option.some Jvm.ClassFile.FieldType.int) 1 := ⟨⟨wd_1, wd_1115, by decide, by decide, by decide +kernel⟩, wd_1113, wd_1114⟩
theorem mV_X11_day : q_mV yX11_day cX11_day 1 (Option.some Jvm.ClassFile.FieldType.int) 0 := ⟨⟨wd_1, wd_702, by decide, by decide, by decide +kernel⟩, wd_700, wd_701⟩
theorem mV_X11_dish : q_mV yX11_dish cX11_dish 3 (Option.some Jvm.ClassFile.FieldType.int) 2 := ⟨⟨wd_1, wd_682, by decide, by decide, by decide +kernel⟩, wd_680, wd_681⟩
theorem mV_X11_draw : q_mV yX11_draw cX11_draw 2 (Option.some Jvm.ClassFile.FieldType.int) 1 := ⟨⟨wd_1, wd_847, by decide, by decide, by decide +kernel⟩, wd_846, q_gws (by decide +kernel)⟩
theorem mV_X11_end : q_mV yX11_end cX11_end 2 (Option.some Jvm.ClassFile.FieldType.boolean) 1 := ⟨⟨wd_1, wd_402, by decide, by decide, by decide +kernel⟩, wd_400, wd_401⟩
theorem mV_X11_fault : q_mV yX11_fault cX11_fault 2 (Option.some Jvm.ClassFile.FieldType.int) 1 := ⟨⟨wd_1, wd_406, by decide, by decide, by decide +kernel⟩, wd_404, wd_405⟩
theorem mV_X11_fed : q_mV yX11_fed cX11_fed 2 (Option.some Jvm.ClassFile.FieldType.int) 1 := ⟨⟨wd_1, wd_917, by decide, by decide, by decide +kernel⟩, wd_915, wd_916⟩
theorem mV_X11_feed : q_mV yX11_feed cX11_feed 7 (Option.some Jvm.ClassFile.FieldType.int) 5 := ⟨⟨wd_1, wd_391, by decide, by decide, by decide +kernel⟩, wd_389, wd_390⟩
theorem mV_X11_fever : q_mV yX11_fever cX11_fever 2 (Option.some Jvm.ClassFile.FieldType.boolean) 1 := ⟨⟨wd_1, wd_698, by decide, by decide, by decide +kernel⟩, wd_696, wd_697⟩
theorem mS_X11_firstMost : q_mS yX11_firstMost cX11_firstMost 6 (Option.some Jvm.ClassFile.FieldType.int) 4 := ⟨⟨wd_1, wd_1060, by decide, by decide, by decide +kernel⟩, wd_1059⟩
theorem mV_X11_game : q_mV yX11_game cX11_game 6 (Option.some Jvm.ClassFile.FieldType.int) 5 := ⟨⟨wd_1, wd_1005, by decide, by decide, by decide +kernel⟩, wd_1003, wd_1004⟩
theorem mV_X11_guest : q_mV yX11_guest cX11_guest 3 (Option.some Jvm.ClassFile.FieldType.int) 2 := ⟨⟨wd_1, wd_1124, by decide, by decide, by decide +kernel⟩, wd_1122, wd_1123⟩
theorem mV_X11_hasRoomFor : q_mV yX11_hasRoomFor cX11_hasRoomFor 2 (Option.some Jvm.ClassFile.FieldType.boolean) 1 := ⟨⟨wd_1, wd_615, by decide, by decide, by decide +kernel⟩, wd_614, q_gws (by decide +kernel)⟩
theorem mV_X11_ill : q_mV yX11_ill cX11_ill 1 (Option.some Jvm.ClassFile.FieldType.int) 0 := ⟨⟨wd_1, wd_823, by decide, by decide, by decide +kernel⟩, wd_821, wd_822⟩
theorem mV_X11_image : q_mV yX11_image cX11_image 1 (Option.some Jvm.ClassFile.FieldType.int) 0 := ⟨⟨wd_1, wd_1098, by decide, by decide, by decide +kernel⟩, wd_1096, wd_1097⟩
theorem mI_X11_init : q_mI yX11_init cX11_init 1 0 := ⟨⟨wd_1, wd_31, by decide, by decide, by decide +kernel⟩, wd_30, rfl⟩
theorem mV_X11_kinds : q_mV yX11_kinds cX11_kinds 4 (Option.some Jvm.ClassFile.FieldType.int) 1 := ⟨⟨wd_1, wd_1090, by decide, by decide, by decide +kernel⟩, wd_1088, wd_1089⟩
theorem mV_X11_lastDay : q_mV yX11_lastDay cX11_lastDay 3 (Option.some Jvm.ClassFile.FieldType.int) 0 := ⟨⟨wd_1, wd_1072, by decide, by decide, by decide +kernel⟩, wd_1071, q_gws (by decide +kernel)⟩
theorem mV_X11_law : q_mV yX11_law cX11_law 2 (Option.some Jvm.ClassFile.FieldType.boolean) 1 := ⟨⟨wd_1, wd_694, by decide, by decide, by decide +kernel⟩, wd_692, wd_693⟩
theorem mV_X11_leaves : q_mV yX11_leaves cX11_leaves 2 (Option.some Jvm.ClassFile.FieldType.int) 1 := ⟨⟨wd_1, wd_995, by decide, by decide, by decide +kernel⟩, wd_993, wd_994⟩
theorem mV_X11_likes : q_mV yX11_likes cX11_likes 2 (Option.some Jvm.ClassFile.FieldType.int) 1 := ⟨⟨wd_1, wd_960, by decide, by decide, by decide +kernel⟩, wd_958, wd_959⟩
theorem mV_X11_log : q_mV yX11_log cX11_log 4 (Option.some Jvm.ClassFile.FieldType.int) 2 := ⟨⟨wd_1, wd_862, by decide, by decide, by decide +kernel⟩, wd_860, wd_861⟩
theorem mV_X11_madeUp : q_mV yX11_madeUp cX11_madeUp 2 (Option.some Jvm.ClassFile.FieldType.int) 1 := ⟨⟨wd_1, wd_941, by decide, by decide, by decide +kernel⟩, wd_939, wd_940⟩
theorem mV_X11_makeUp : q_mV yX11_makeUp cX11_makeUp 1 (Option.some Jvm.ClassFile.FieldType.int) 0 := ⟨⟨wd_1, wd_827, by decide, by decide, by decide +kernel⟩, wd_825, wd_826⟩
theorem mV_X11_meetChance : q_mV yX11_meetChance cX11_meetChance 1 (Option.none : Option Jvm.ClassFile.FieldType) 0 := ⟨⟨wd_1, wd_843, by decide, by decide, by decide +kernel⟩, wd_842, q_gws (by decide +kernel)⟩
theorem mV_X11_mostLiked : q_mV yX11_mostLiked cX11_mostLiked 6 (Option.some Jvm.ClassFile.FieldType.int) 0 := ⟨⟨wd_1, wd_1068, by decide, by decide, by decide +kernel⟩, wd_1067, q_gws (by decide +kernel)⟩
theorem mV_X11_moveIn : q_mV yX11_moveIn cX11_moveIn 1 (Option.some Jvm.ClassFile.FieldType.int) 0 := ⟨⟨wd_1, wd_619, by decide, by decide, by decide +kernel⟩, wd_618, q_gws (by decide +kernel)⟩
theorem mV_X11_odds : q_mV yX11_odds cX11_odds 4 (Option.some Jvm.ClassFile.FieldType.int) 3 := ⟨⟨wd_1, wd_1043, by decide, by decide, by decide +kernel⟩, wd_1041, wd_1042⟩
theorem mV_X11_perform : q_mV yX11_perform cX11_perform 4 (Option.some Jvm.ClassFile.FieldType.int) 1 := ⟨⟨wd_1, wd_899, by decide, by decide, by decide +kernel⟩, wd_897, wd_898⟩
theorem mV_X11_probe : q_mV yX11_probe cX11_probe 4 (Option.some Jvm.ClassFile.FieldType.int) 3 := ⟨⟨wd_1, wd_979, by decide, by decide, by decide +kernel⟩, wd_977, wd_978⟩
theorem mV_X11_readTape : q_mV yX11_readTape cX11_readTape 2 (Option.some Jvm.ClassFile.FieldType.boolean) 1 := ⟨⟨wd_1, wd_410, by decide, by decide, by decide +kernel⟩, wd_409, q_gws (by decide +kernel)⟩
theorem mV_X11_rests : q_mV yX11_rests cX11_rests 4 (Option.some Jvm.ClassFile.FieldType.int) 3 := ⟨⟨wd_1, wd_1022, by decide, by decide, by decide +kernel⟩, wd_1020, wd_1021⟩
theorem mV_X11_rule : q_mV yX11_rule cX11_rule 2 (Option.some Jvm.ClassFile.FieldType.int) 1 := ⟨⟨wd_1, wd_678, by decide, by decide, by decide +kernel⟩, wd_676, wd_677⟩
theorem mV_X11_run : q_mV yX11_run cX11_run 5 (Option.some Jvm.ClassFile.FieldType.int) 2 := ⟨⟨wd_1, wd_887, by decide, by decide, by decide +kernel⟩, wd_885, wd_886⟩
theorem mV_X11_seen : q_mV yX11_seen cX11_seen 6 (Option.some Jvm.ClassFile.FieldType.int) 5 := ⟨⟨wd_1, wd_949, by decide, by decide, by decide +kernel⟩, wd_947, wd_948⟩
theorem mV_X11_serves : q_mV yX11_serves cX11_serves 3 (Option.some Jvm.ClassFile.FieldType.int) 2 := ⟨⟨wd_1, wd_903, by decide, by decide, by decide +kernel⟩, wd_901, wd_902⟩
theorem mV_X11_sign : q_mV yX11_sign cX11_sign 3 (Option.some Jvm.ClassFile.FieldType.int) 2 := ⟨⟨wd_1, wd_835, by decide, by decide, by decide +kernel⟩, wd_833, wd_834⟩
theorem mV_X11_stay : q_mV yX11_stay cX11_stay 3 (Option.some Jvm.ClassFile.FieldType.int) 2 := ⟨⟨wd_1, wd_831, by decide, by decide, by decide +kernel⟩, wd_829, wd_830⟩
theorem mV_X11_staying : q_mV yX11_staying cX11_staying 4 (Option.some Jvm.ClassFile.FieldType.int) 1 := ⟨⟨wd_1, wd_1094, by decide, by decide, by decide +kernel⟩, wd_1092, wd_1093⟩
theorem mV_X11_step : q_mV yX11_step cX11_step 5 (Option.some Jvm.ClassFile.FieldType.int) 3 := ⟨⟨wd_1, wd_875, by decide, by decide, by decide +kernel⟩, wd_873, wd_874⟩
theorem mV_X11_takings : q_mV yX11_takings cX11_takings 3 (Option.some Jvm.ClassFile.FieldType.int) 0 := ⟨⟨wd_1, wd_1078, by decide, by decide, by decide +kernel⟩, wd_1077, q_gws (by decide +kernel)⟩
theorem mV_X11_text : q_mV yX11_text cX11_text 2 (Option.some Jvm.ClassFile.FieldType.int) 1 := ⟨⟨wd_1, wd_611, by decide, by decide, by decide +kernel⟩, wd_609, wd_610⟩
theorem mV_X11_there : q_mV yX11_there cX11_there 2 (Option.some Jvm.ClassFile.FieldType.int) 1 := ⟨⟨wd_1, wd_913, by decide, by decide, by decide +kernel⟩, wd_911, wd_912⟩
theorem mV_X11_undo : q_mV yX11_undo cX11_undo 1 (Option.some Jvm.ClassFile.FieldType.int) 0 := ⟨⟨wd_1, wd_854, by decide, by decide, by decide +kernel⟩, wd_852, wd_853⟩
theorem mV_X11_weekAt : q_mV yX11_weekAt cX11_weekAt 2 (Option.some (Jvm.ClassFile.FieldType.object "GongHouse$Week")) 1 := ⟨⟨wd_1, wd_879, by decide, by decide, by decide +kernel⟩, wd_878, q_gws (by decide +kernel)⟩
theorem mV_X11_years : q_mV yX11_years cX11_years 5 (Option.some Jvm.ClassFile.FieldType.int) 2 := ⟨⟨wd_1, wd_839, by decide, by decide, by decide +kernel⟩, wd_837, wd_838⟩
theorem mV_X12_all : q_mV yX12_all cX12_all 2 (Option.some Jvm.ClassFile.FieldType.int) 1 := ⟨⟨wd_12, wd_1787, by decide, by decide, by decide +kernel⟩, wd_1785, wd_1786⟩
theorem mV_X12_atom : q_mV yX12_atom cX12_atom 4 (Option.some Jvm.ClassFile.FieldType.int) 0 := ⟨⟨wd_12, wd_1487, by decide, by decide, by decide +kernel⟩, wd_1486, q_gws (by decide +kernel)⟩
theorem mV_X12_back : q_mV yX12_back cX12_back 2 (Option.some Jvm.ClassFile.FieldType.int) 0 := ⟨⟨wd_12, wd_1835, by decide, by decide, by decide +kernel⟩, wd_1833, wd_1834⟩
theorem mV_X12_best : q_mV yX12_best cX12_best 11 (Option.some Jvm.ClassFile.FieldType.int) 2 := ⟨⟨wd_12, wd_1726, by decide, by decide, by decide +kernel⟩, wd_1724, wd_1725⟩
theorem mS_X12_bytesIn : q_mS yX12_bytesIn cX12_bytesIn 3 (Option.some Jvm.ClassFile.FieldType.int) 1 := ⟨⟨wd_12, wd_1360, by decide, by decide, by decide +kernel⟩, wd_1359⟩
theorem mS_X12_canBeIll : q_mS yX12_canBeIll cX12_canBeIll 1 (Option.some Jvm.ClassFile.FieldType.boolean) 1 := ⟨⟨wd_12, wd_1631, by decide, by decide, by decide +kernel⟩, wd_1630⟩
theorem mV_X12_canChoose : q_mV yX12_canChoose cX12_canChoose 3 (Option.some Jvm.ClassFile.FieldType.boolean) 2 := ⟨⟨wd_12, wd_1624, by decide, by decide, by decide +kernel⟩, wd_1623, q_gws (by decide +kernel)⟩
theorem mS_X12_canMakeUp : q_mS yX12_canMakeUp cX12_canMakeUp 1 (Option.some Jvm.ClassFile.FieldType.boolean) 1 := ⟨⟨wd_12, wd_1638, by decide, by decide, by decide +kernel⟩, wd_1637⟩
theorem mV_X12_canStay : q_mV yX12_canStay cX12_canStay 4 (Option.some Jvm.ClassFile.FieldType.boolean) 3 := ⟨⟨wd_12, wd_1649, by decide, by decide, by decide +kernel⟩, wd_1648, q_gws (by decide +kernel)⟩
theorem mV_X12_canStep : q_mV yX12_canStep cX12_canStep 3 (Option.some Jvm.ClassFile.FieldType.boolean) 2 := ⟨⟨wd_12, wd_1693, by decide, by decide, by decide +kernel⟩, wd_1692, q_gws (by decide +kernel)⟩
theorem mV_X12_choose : q_mV yX12_choose cX12_choose 3 (Option.some Jvm.ClassFile.FieldType.int) 1 := ⟨⟨wd_12, wd_1620, by decide, by decide, by decide +kernel⟩, wd_1618, wd_1619⟩
theorem mV_X12_clause : q_mV yX12_clause cX12_clause 5 (Option.none : Option Jvm.ClassFile.FieldType) 0 := ⟨⟨wd_12, wd_1456, by decide, by decide, by decide +kernel⟩, wd_1455, q_gws (by decide +kernel)⟩
theorem mV_X12_comes : q_mV yX12_comes cX12_comes 2 (Option.some Jvm.ClassFile.FieldType.int) 1 := ⟨⟨wd_12, wd_1552, by decide, by decide, by decide +kernel⟩, wd_1551, q_gws (by decide +kernel)⟩
theorem mV_X12_compares : q_mV yX12_compares cX12_compares 6 (Option.some Jvm.ClassFile.FieldType.boolean) 2 := ⟨⟨wd_12, wd_1475, by decide, by decide, by decide +kernel⟩, wd_1474, q_gws (by decide +kernel)⟩
theorem mV_X12_condition : q_mV yX12_condition cX12_condition 5 (Option.some Jvm.ClassFile.FieldType.boolean) 2 := ⟨⟨wd_12, wd_1467, by decide, by decide, by decide +kernel⟩, wd_1466, q_gws (by decide +kernel)⟩
theorem mV_X12_cooks : q_mV yX12_cooks cX12_cooks 2 (Option.some Jvm.ClassFile.FieldType.int) 1 := ⟨⟨wd_12, wd_1593, by decide, by decide, by decide +kernel⟩, wd_1592, q_gws (by decide +kernel)⟩
theorem mS_X12_copy : q_mS yX12_copy cX12_copy 3 (Option.none : Option Jvm.ClassFile.FieldType) 2 := ⟨⟨wd_12, wd_1689, by decide, by decide, by decide +kernel⟩, wd_1688⟩
theorem mV_X12_count : q_mV yX12_count cX12_count 4 (Option.some Jvm.ClassFile.FieldType.int) 1 := ⟨⟨wd_12, wd_1839, by decide, by decide, by decide +kernel⟩, wd_1837, wd_1838⟩
theorem mV_X12_day : q_mV yX12_day cX12_day 1 (Option.some Jvm.ClassFile.FieldType.int) 0 := ⟨⟨wd_12, wd_1569, by decide, by decide, by decide +kernel⟩, wd_1567, wd_1568⟩
theorem mV_X12_digit : q_mV yX12_digit cX12_digit 2 (Option.some Jvm.ClassFile.FieldType.int) 0 := ⟨⟨wd_12, wd_1522, by decide, by decide, by decide +kernel⟩, wd_1521, q_gws (by decide +kernel)⟩
theorem mV_X12_dish : q_mV yX12_dish cX12_dish 3 (Option.some Jvm.ClassFile.FieldType.int) 2 := ⟨⟨wd_12, wd_1535, by decide, by decide, by decide +kernel⟩, wd_1533, wd_1534⟩
theorem mV_X12_draw : q_mV yX12_draw cX12_draw 2 (Option.some Jvm.ClassFile.FieldType.int) 1 := ⟨⟨wd_12, wd_1663, by decide, by decide, by decide +kernel⟩, wd_1662, q_gws (by decide +kernel)⟩
theorem mV_X12_end : q_mV yX12_end cX12_end 2 (Option.some Jvm.ClassFile.FieldType.boolean) 1 := ⟨⟨wd_12, wd_1368, by decide, by decide, by decide +kernel⟩, wd_1366, wd_1367⟩
theorem mV_X12_fails : q_mV yX12_fails cX12_fails 1 (Option.some Jvm.ClassFile.FieldType.boolean) 0 := ⟨⟨wd_12, wd_1399, by decide, by decide, by decide +kernel⟩, wd_1398, q_gws (by decide +kernel)⟩
theorem mV_X12_fault : q_mV yX12_fault cX12_fault 2 (Option.some Jvm.ClassFile.FieldType.int) 1 := ⟨⟨wd_12, wd_1372, by decide, by decide, by decide +kernel⟩, wd_1370, wd_1371⟩
theorem mV_X12_fed : q_mV yX12_fed cX12_fed 2 (Option.some Jvm.ClassFile.FieldType.int) 1 := ⟨⟨wd_12, wd_1718, by decide, by decide, by decide +kernel⟩, wd_1716, wd_1717⟩
theorem mV_X12_fedBits : q_mV yX12_fedBits cX12_fedBits 3 (Option.some Jvm.ClassFile.FieldType.int) 0 := ⟨⟨wd_12, wd_1612, by decide, by decide, by decide +kernel⟩, wd_1611, q_gws (by decide +kernel)⟩
theorem mV_X12_feed : q_mV yX12_feed cX12_feed 6 (Option.some Jvm.ClassFile.FieldType.int) 5 := ⟨⟨wd_12, wd_1357, by decide, by decide, by decide +kernel⟩, wd_1355, wd_1356⟩
theorem mV_X12_fever : q_mV yX12_fever cX12_fever 2 (Option.some Jvm.ClassFile.FieldType.boolean) 1 := ⟨⟨wd_12, wd_1564, by decide, by decide, by decide +kernel⟩, wd_1562, wd_1563⟩
theorem mV_X12_fullest : q_mV yX12_fullest cX12_fullest 6 (Option.some Jvm.ClassFile.FieldType.int) 0 := ⟨⟨wd_12, wd_1819, by decide, by decide, by decide +kernel⟩, wd_1818, q_gws (by decide +kernel)⟩
theorem mV_X12_game : q_mV yX12_game cX12_game 6 (Option.some Jvm.ClassFile.FieldType.int) 5 := ⟨⟨wd_12, wd_1760, by decide, by decide, by decide +kernel⟩, wd_1758, wd_1759⟩
theorem mV_X12_gameOf : q_mV yX12_gameOf cX12_gameOf 11 (Option.some Jvm.ClassFile.FieldType.int) 5 := ⟨⟨wd_12, wd_1768, by decide, by decide, by decide +kernel⟩, wd_1767, q_gws (by decide +kernel)⟩
theorem mV_X12_goDay : q_mV yX12_goDay cX12_goDay 6 (Option.some Jvm.ClassFile.FieldType.int) 1 := ⟨⟨wd_12, wd_1577, by decide, by decide, by decide +kernel⟩, wd_1576, q_gws (by decide +kernel)⟩
theorem mV_X12_goOn : q_mV yX12_goOn cX12_goOn 4 (Option.none : Option Jvm.ClassFile.FieldType) 1 := ⟨⟨wd_12, wd_1710, by decide, by decide, by decide +kernel⟩, wd_1709, q_gws (by decide +kernel)⟩
theorem mV_X12_goStep : q_mV yX12_goStep cX12_goStep 4 (Option.none : Option Jvm.ClassFile.FieldType) 2 := ⟨⟨wd_12, wd_1697, by decide, by decide, by decide +kernel⟩, wd_1696, q_gws (by decide +kernel)⟩
theorem mV_X12_goTable : q_mV yX12_goTable cX12_goTable 8 (Option.none : Option Jvm.ClassFile.FieldType) 1 := ⟨⟨wd_12, wd_1589, by decide, by decide, by decide +kernel⟩, wd_1588, q_gws (by decide +kernel)⟩
theorem mV_X12_goThrough : q_mV yX12_goThrough cX12_goThrough 4 (Option.none : Option Jvm.ClassFile.FieldType) 3 := ⟨⟨wd_12, wd_1452, by decide, by decide, by decide +kernel⟩, wd_1451, q_gws (by decide +kernel)⟩
theorem mV_X12_goesIn : q_mV yX12_goesIn cX12_goesIn 1 (Option.some Jvm.ClassFile.FieldType.boolean) 0 := ⟨⟨wd_12, wd_1491, by decide, by decide, by decide +kernel⟩, wd_1490, q_gws (by decide +kernel)⟩
theorem mV_X12_greatest : q_mV yX12_greatest cX12_greatest 4 (Option.some Jvm.ClassFile.FieldType.int) 1 := ⟨⟨wd_12, wd_1791, by decide, by decide, by decide +kernel⟩, wd_1790, q_gws (by decide +kernel)⟩
theorem mV_X12_guest : q_mV yX12_guest cX12_guest 3 (Option.some Jvm.ClassFile.FieldType.int) 2 := ⟨⟨wd_12, wd_1543, by decide, by decide, by decide +kernel⟩, wd_1541, wd_1542⟩
theorem mS_X12_has : q_mS yX12_has cX12_has 2 (Option.some Jvm.ClassFile.FieldType.boolean) 2 := ⟨⟨wd_12, wd_1431, by decide, by decide, by decide +kernel⟩, wd_1430⟩
theorem mV_X12_hasJoy : q_mV yX12_hasJoy cX12_hasJoy 6 (Option.some Jvm.ClassFile.FieldType.boolean) 5 := ⟨⟨wd_12, wd_1747, by decide, by decide, by decide +kernel⟩, wd_1746, q_gws (by decide +kernel)⟩
theorem mV_X12_here : q_mV yX12_here cX12_here 1 (Option.some Jvm.ClassFile.FieldType.int) 0 := ⟨⟨wd_12, wd_1446, by decide, by decide, by decide +kernel⟩, wd_1445, q_gws (by decide +kernel)⟩
theorem mV_X12_ill : q_mV yX12_ill cX12_ill 1 (Option.some Jvm.ClassFile.FieldType.int) 0 := ⟨⟨wd_12, wd_1628, by decide, by decide, by decide +kernel⟩, wd_1626, wd_1627⟩
theorem mV_X12_image : q_mV yX12_image cX12_image 2 (Option.some Jvm.ClassFile.FieldType.int) 0 := ⟨⟨wd_12, wd_1831, by decide, by decide, by decide +kernel⟩, wd_1829, wd_1830⟩
theorem mI_X12_init : q_mI yX12_init cX12_init 1 0 := ⟨⟨wd_12, wd_1195, by decide, by decide, by decide +kernel⟩, wd_1194, rfl⟩
theorem mS_X12_isAmong : q_mS yX12_isAmong cX12_isAmong 3 (Option.some Jvm.ClassFile.FieldType.boolean) 2 := ⟨⟨wd_12, wd_1459, by decide, by decide, by decide +kernel⟩, wd_1458⟩
theorem mV_X12_isDigit : q_mV yX12_isDigit cX12_isDigit 1 (Option.some Jvm.ClassFile.FieldType.boolean) 0 := ⟨⟨wd_12, wd_1442, by decide, by decide, by decide +kernel⟩, wd_1441, q_gws (by decide +kernel)⟩
theorem mV_X12_isDish : q_mV yX12_isDish cX12_isDish 2 (Option.some Jvm.ClassFile.FieldType.boolean) 1 := ⟨⟨wd_12, wd_1539, by decide, by decide, by decide +kernel⟩, wd_1538, q_gws (by decide +kernel)⟩
theorem mV_X12_isGame : q_mV yX12_isGame cX12_isGame 3 (Option.some Jvm.ClassFile.FieldType.boolean) 2 := ⟨⟨wd_12, wd_1764, by decide, by decide, by decide +kernel⟩, wd_1763, q_gws (by decide +kernel)⟩
theorem mV_X12_isGuest : q_mV yX12_isGuest cX12_isGuest 2 (Option.some Jvm.ClassFile.FieldType.boolean) 1 := ⟨⟨wd_12, wd_1547, by decide, by decide, by decide +kernel⟩, wd_1546, q_gws (by decide +kernel)⟩
theorem mS_X12_isIn : q_mS yX12_isIn cX12_isIn 6 (Option.some Jvm.ClassFile.FieldType.boolean) 3 := ⟨⟨wd_12, wd_1376, by decide, by decide, by decide +kernel⟩, wd_1375⟩
theorem mS_X12_isSign : q_mS yX12_isSign cX12_isSign 1 (Option.some Jvm.ClassFile.FieldType.boolean) 1 := ⟨⟨wd_12, wd_1505, by decide, by decide, by decide +kernel⟩, wd_1504⟩
theorem mV_X12_isThere : q_mV yX12_isThere cX12_isThere 3 (Option.some Jvm.ClassFile.FieldType.boolean) 2 := ⟨⟨wd_12, wd_1585, by decide, by decide, by decide +kernel⟩, wd_1584, q_gws (by decide +kernel)⟩
theorem mV_X12_isWeek : q_mV yX12_isWeek cX12_isWeek 2 (Option.some Jvm.ClassFile.FieldType.boolean) 1 := ⟨⟨wd_12, wd_1682, by decide, by decide, by decide +kernel⟩, wd_1681, q_gws (by decide +kernel)⟩
theorem mV_X12_joyOf : q_mV yX12_joyOf cX12_joyOf 8 (Option.some Jvm.ClassFile.FieldType.int) 6 := ⟨⟨wd_12, wd_1607, by decide, by decide, by decide +kernel⟩, wd_1606, q_gws (by decide +kernel)⟩
theorem mV_X12_joys : q_mV yX12_joys cX12_joys 4 (Option.some Jvm.ClassFile.FieldType.int) 1 := ⟨⟨wd_12, wd_1616, by decide, by decide, by decide +kernel⟩, wd_1615, q_gws (by decide +kernel)⟩
theorem mV_X12_kindOf : q_mV yX12_kindOf cX12_kindOf 2 (Option.some Jvm.ClassFile.FieldType.int) 1 := ⟨⟨wd_12, wd_1603, by decide, by decide, by decide +kernel⟩, wd_1602, q_gws (by decide +kernel)⟩
theorem mV_X12_kinds : q_mV yX12_kinds cX12_kinds 4 (Option.some Jvm.ClassFile.FieldType.int) 1 := ⟨⟨wd_12, wd_1823, by decide, by decide, by decide +kernel⟩, wd_1821, wd_1822⟩
theorem mV_X12_last : q_mV yX12_last cX12_last 3 (Option.some Jvm.ClassFile.FieldType.int) 0 := ⟨⟨wd_12, wd_1807, by decide, by decide, by decide +kernel⟩, wd_1806, q_gws (by decide +kernel)⟩
theorem mV_X12_law : q_mV yX12_law cX12_law 2 (Option.some Jvm.ClassFile.FieldType.boolean) 1 := ⟨⟨wd_12, wd_1560, by decide, by decide, by decide +kernel⟩, wd_1558, wd_1559⟩
theorem mV_X12_leaves : q_mV yX12_leaves cX12_leaves 4 (Option.some Jvm.ClassFile.FieldType.int) 1 := ⟨⟨wd_12, wd_1756, by decide, by decide, by decide +kernel⟩, wd_1754, wd_1755⟩
theorem mV_X12_liked : q_mV yX12_liked cX12_liked 6 (Option.some Jvm.ClassFile.FieldType.int) 1 := ⟨⟨wd_12, wd_1743, by decide, by decide, by decide +kernel⟩, wd_1742, q_gws (by decide +kernel)⟩
theorem mV_X12_likers : q_mV yX12_likers cX12_likers 4 (Option.some Jvm.ClassFile.FieldType.int) 1 := ⟨⟨wd_12, wd_1803, by decide, by decide, by decide +kernel⟩, wd_1802, q_gws (by decide +kernel)⟩
theorem mV_X12_likes : q_mV yX12_likes cX12_likes 2 (Option.some Jvm.ClassFile.FieldType.int) 1 := ⟨⟨wd_12, wd_1739, by decide, by decide, by decide +kernel⟩, wd_1737, wd_1738⟩
theorem mV_X12_log : q_mV yX12_log cX12_log 3 (Option.some Jvm.ClassFile.FieldType.int) 2 := ⟨⟨wd_12, wd_1673, by decide, by decide, by decide +kernel⟩, wd_1671, wd_1672⟩
theorem mV_X12_look : q_mV yX12_look cX12_look 1 (Option.some Jvm.ClassFile.FieldType.int) 0 := ⟨⟨wd_12, wd_1395, by decide, by decide, by decide +kernel⟩, wd_1394, q_gws (by decide +kernel)⟩
theorem mV_X12_madeUp : q_mV yX12_madeUp cX12_madeUp 3 (Option.some Jvm.ClassFile.FieldType.int) 1 := ⟨⟨wd_12, wd_1730, by decide, by decide, by decide +kernel⟩, wd_1728, wd_1729⟩
theorem mV_X12_makeUp : q_mV yX12_makeUp cX12_makeUp 1 (Option.some Jvm.ClassFile.FieldType.int) 0 := ⟨⟨wd_12, wd_1635, by decide, by decide, by decide +kernel⟩, wd_1633, wd_1634⟩
theorem mS_X12_makesUp : q_mS yX12_makesUp cX12_makesUp 1 (Option.none : Option Jvm.ClassFile.FieldType) 1 := ⟨⟨wd_12, wd_1641, by decide, by decide, by decide +kernel⟩, wd_1640⟩
theorem mS_X12_mostOf : q_mS yX12_mostOf cX12_mostOf 2 (Option.some Jvm.ClassFile.FieldType.int) 2 := ⟨⟨wd_12, wd_1434, by decide, by decide, by decide +kernel⟩, wd_1433⟩
theorem mV_X12_mustard : q_mV yX12_mustard cX12_mustard 3 (Option.some Jvm.ClassFile.FieldType.int) 0 := ⟨⟨wd_12, wd_1815, by decide, by decide, by decide +kernel⟩, wd_1814, q_gws (by decide +kernel)⟩
theorem mV_X12_number : q_mV yX12_number cX12_number 5 (Option.some Jvm.ClassFile.FieldType.int) 2 := ⟨⟨wd_12, wd_1438, by decide, by decide, by decide +kernel⟩, wd_1437, q_gws (by decide +kernel)⟩
theorem mV_X12_odds : q_mV yX12_odds cX12_odds 4 (Option.some Jvm.ClassFile.FieldType.int) 3 := ⟨⟨wd_12, wd_1776, by decide, by decide, by decide +kernel⟩, wd_1774, wd_1775⟩
theorem mV_X12_oddsFrom : q_mV yX12_oddsFrom cX12_oddsFrom 9 (Option.some Jvm.ClassFile.FieldType.int) 4 := ⟨⟨wd_12, wd_1783, by decide, by decide, by decide +kernel⟩, wd_1782, q_gws (by decide +kernel)⟩
theorem mV_X12_ofDish : q_mV yX12_ofDish cX12_ofDish 5 (Option.some Jvm.ClassFile.FieldType.int) 1 := ⟨⟨wd_12, wd_1799, by decide, by decide, by decide +kernel⟩, wd_1798, q_gws (by decide +kernel)⟩
theorem mV_X12_part : q_mV yX12_part cX12_part 5 (Option.some Jvm.ClassFile.FieldType.boolean) 2 := ⟨⟨wd_12, wd_1471, by decide, by decide, by decide +kernel⟩, wd_1470, q_gws (by decide +kernel)⟩
theorem mV_X12_pays : q_mV yX12_pays cX12_pays 2 (Option.some Jvm.ClassFile.FieldType.int) 1 := ⟨⟨wd_12, wd_1556, by decide, by decide, by decide +kernel⟩, wd_1555, q_gws (by decide +kernel)⟩
theorem mV_X12_perform : q_mV yX12_perform cX12_perform 3 (Option.some Jvm.ClassFile.FieldType.int) 1 := ⟨⟨wd_12, wd_1701, by decide, by decide, by decide +kernel⟩, wd_1699, wd_1700⟩
theorem mV_X12_probe : q_mV yX12_probe cX12_probe 10 (Option.some Jvm.ClassFile.FieldType.int) 3 := ⟨⟨wd_12, wd_1751, by decide, by decide, by decide +kernel⟩, wd_1749, wd_1750⟩
theorem mV_X12_put : q_mV yX12_put cX12_put 3 (Option.none : Option Jvm.ClassFile.FieldType) 1 := ⟨⟨wd_12, wd_1364, by decide, by decide, by decide +kernel⟩, wd_1363, q_gws (by decide +kernel)⟩
theorem mV_X12_readClause : q_mV yX12_readClause cX12_readClause 3 (Option.none : Option Jvm.ClassFile.FieldType) 0 := ⟨⟨wd_12, wd_1391, by decide, by decide, by decide +kernel⟩, wd_1390, q_gws (by decide +kernel)⟩
theorem mV_X12_readHouse : q_mV yX12_readHouse cX12_readHouse 2 (Option.none : Option Jvm.ClassFile.FieldType) 0 := ⟨⟨wd_12, wd_1380, by decide, by decide, by decide +kernel⟩, wd_1379, q_gws (by decide +kernel)⟩
theorem mV_X12_readItems : q_mV yX12_readItems cX12_readItems 7 (Option.none : Option Jvm.ClassFile.FieldType) 4 := ⟨⟨wd_12, wd_1404, by decide, by decide, by decide +kernel⟩, wd_1403, q_gws (by decide +kernel)⟩
theorem mV_X12_readStep : q_mV yX12_readStep cX12_readStep 3 (Option.none : Option Jvm.ClassFile.FieldType) 1 := ⟨⟨wd_12, wd_1517, by decide, by decide, by decide +kernel⟩, wd_1516, q_gws (by decide +kernel)⟩
theorem mV_X12_readWeek : q_mV yX12_readWeek cX12_readWeek 3 (Option.none : Option Jvm.ClassFile.FieldType) 0 := ⟨⟨wd_12, wd_1513, by decide, by decide, by decide +kernel⟩, wd_1512, q_gws (by decide +kernel)⟩
theorem mV_X12_remember : q_mV yX12_remember cX12_remember 2 (Option.none : Option Jvm.ClassFile.FieldType) 0 := ⟨⟨wd_12, wd_1573, by decide, by decide, by decide +kernel⟩, wd_1572, q_gws (by decide +kernel)⟩
theorem mV_X12_rests : q_mV yX12_rests cX12_rests 9 (Option.some Jvm.ClassFile.FieldType.int) 3 := ⟨⟨wd_12, wd_1772, by decide, by decide, by decide +kernel⟩, wd_1770, wd_1771⟩
theorem mV_X12_rule : q_mV yX12_rule cX12_rule 2 (Option.some Jvm.ClassFile.FieldType.int) 1 := ⟨⟨wd_12, wd_1531, by decide, by decide, by decide +kernel⟩, wd_1529, wd_1530⟩
theorem mV_X12_run : q_mV yX12_run cX12_run 4 (Option.some Jvm.ClassFile.FieldType.int) 2 := ⟨⟨wd_12, wd_1686, by decide, by decide, by decide +kernel⟩, wd_1684, wd_1685⟩
theorem mV_X12_seen : q_mV yX12_seen cX12_seen 7 (Option.some Jvm.ClassFile.FieldType.int) 5 := ⟨⟨wd_12, wd_1734, by decide, by decide, by decide +kernel⟩, wd_1732, wd_1733⟩
theorem mV_X12_serves : q_mV yX12_serves cX12_serves 4 (Option.none : Option Jvm.ClassFile.FieldType) 1 := ⟨⟨wd_12, wd_1598, by decide, by decide, by decide +kernel⟩, wd_1597, q_gws (by decide +kernel)⟩
theorem mV_X12_serves_ : q_mV yX12_serves_ cX12_serves_ 3 (Option.some Jvm.ClassFile.FieldType.int) 2 := ⟨⟨wd_12, wd_1705, by decide, by decide, by decide +kernel⟩, wd_1703, wd_1704⟩
theorem mV_X12_sign : q_mV yX12_sign cX12_sign 4 (Option.some Jvm.ClassFile.FieldType.int) 2 := ⟨⟨wd_12, wd_1653, by decide, by decide, by decide +kernel⟩, wd_1651, wd_1652⟩
theorem mS_X12_spotOf : q_mS yX12_spotOf cX12_spotOf 3 (Option.some Jvm.ClassFile.FieldType.int) 2 := ⟨⟨wd_12, wd_1408, by decide, by decide, by decide +kernel⟩, wd_1407⟩
theorem mV_X12_starts : q_mV yX12_starts cX12_starts 4 (Option.none : Option Jvm.ClassFile.FieldType) 3 := ⟨⟨wd_12, wd_1384, by decide, by decide, by decide +kernel⟩, wd_1383, q_gws (by decide +kernel)⟩
theorem mV_X12_stay : q_mV yX12_stay cX12_stay 3 (Option.some Jvm.ClassFile.FieldType.int) 2 := ⟨⟨wd_12, wd_1645, by decide, by decide, by decide +kernel⟩, wd_1643, wd_1644⟩
theorem mV_X12_staying : q_mV yX12_staying cX12_staying 2 (Option.some Jvm.ClassFile.FieldType.int) 1 := ⟨⟨wd_12, wd_1827, by decide, by decide, by decide +kernel⟩, wd_1825, wd_1826⟩
theorem mV_X12_step : q_mV yX12_step cX12_step 4 (Option.some Jvm.ClassFile.FieldType.int) 3 := ⟨⟨wd_12, wd_1678, by decide, by decide, by decide +kernel⟩, wd_1676, wd_1677⟩
theorem mV_X12_sum : q_mV yX12_sum cX12_sum 5 (Option.some Jvm.ClassFile.FieldType.int) 0 := ⟨⟨wd_12, wd_1479, by decide, by decide, by decide +kernel⟩, wd_1478, q_gws (by decide +kernel)⟩
theorem mV_X12_tableNow : q_mV yX12_tableNow cX12_tableNow 1 (Option.none : Option Jvm.ClassFile.FieldType) 0 := ⟨⟨wd_12, wd_1722, by decide, by decide, by decide +kernel⟩, wd_1721, q_gws (by decide +kernel)⟩
theorem mV_X12_takes : q_mV yX12_takes cX12_takes 2 (Option.some Jvm.ClassFile.FieldType.boolean) 1 := ⟨⟨wd_12, wd_1463, by decide, by decide, by decide +kernel⟩, wd_1462, q_gws (by decide +kernel)⟩
theorem mV_X12_takes_ : q_mV yX12_takes_ cX12_takes_ 3 (Option.some Jvm.ClassFile.FieldType.int) 0 := ⟨⟨wd_12, wd_1811, by decide, by decide, by decide +kernel⟩, wd_1810, q_gws (by decide +kernel)⟩
theorem mV_X12_term : q_mV yX12_term cX12_term 5 (Option.some Jvm.ClassFile.FieldType.int) 0 := ⟨⟨wd_12, wd_1483, by decide, by decide, by decide +kernel⟩, wd_1482, q_gws (by decide +kernel)⟩
theorem mV_X12_text : q_mV yX12_text cX12_text 4 (Option.some Jvm.ClassFile.FieldType.int) 1 := ⟨⟨wd_12, wd_1526, by decide, by decide, by decide +kernel⟩, wd_1524, wd_1525⟩
theorem mV_X12_there : q_mV yX12_there cX12_there 2 (Option.some Jvm.ClassFile.FieldType.int) 1 := ⟨⟨wd_12, wd_1714, by decide, by decide, by decide +kernel⟩, wd_1712, wd_1713⟩
theorem mV_X12_thereBits : q_mV yX12_thereBits cX12_thereBits 4 (Option.some Jvm.ClassFile.FieldType.int) 1 := ⟨⟨wd_12, wd_1581, by decide, by decide, by decide +kernel⟩, wd_1580, q_gws (by decide +kernel)⟩
theorem mV_X12_thrown : q_mV yX12_thrown cX12_thrown 1 (Option.some Jvm.ClassFile.FieldType.int) 0 := ⟨⟨wd_12, wd_1353, by decide, by decide, by decide +kernel⟩, wd_1351, wd_1352⟩
theorem mV_X12_undo : q_mV yX12_undo cX12_undo 2 (Option.some Jvm.ClassFile.FieldType.int) 0 := ⟨⟨wd_12, wd_1669, by decide, by decide, by decide +kernel⟩, wd_1667, wd_1668⟩
theorem mV_X12_unit : q_mV yX12_unit cX12_unit 3 (Option.some Jvm.ClassFile.FieldType.boolean) 0 := ⟨⟨wd_12, wd_1509, by decide, by decide, by decide +kernel⟩, wd_1508, q_gws (by decide +kernel)⟩
theorem mS_X12_usual : q_mS yX12_usual cX12_usual 2 (Option.some Jvm.ClassFile.FieldType.int) 2 := ⟨⟨wd_12, wd_1387, by decide, by decide, by decide +kernel⟩, wd_1386⟩
theorem mV_X12_valueOf : q_mV yX12_valueOf cX12_valueOf 3 (Option.some Jvm.ClassFile.FieldType.int) 2 := ⟨⟨wd_12, wd_1795, by decide, by decide, by decide +kernel⟩, wd_1794, q_gws (by decide +kernel)⟩
theorem mS_X12_within : q_mS yX12_within cX12_within 2 (Option.some Jvm.ClassFile.FieldType.int) 1 := ⟨⟨wd_12, wd_1494, by decide, by decide, by decide +kernel⟩, wd_1493⟩
theorem mV_X12_years : q_mV yX12_years cX12_years 6 (Option.some Jvm.ClassFile.FieldType.int) 2 := ⟨⟨wd_12, wd_1658, by decide, by decide, by decide +kernel⟩, wd_1656, wd_1657⟩
theorem mV_X1_feedThose : q_mV yX1_feedThose cX1_feedThose 6 (Option.none : Option Jvm.ClassFile.FieldType) 1 := ⟨⟨wd_7, wd_752, by decide, by decide, by decide +kernel⟩, wd_751, q_gws (by decide +kernel)⟩
theorem mV_X1_gladden : q_mV yX1_gladden cX1_gladden 8 (Option.none : Option Jvm.ClassFile.FieldType) 2 := ⟨⟨wd_7, wd_756, by decide, by decide, by decide +kernel⟩, wd_755, q_gws (by decide +kernel)⟩
theorem mI_X1_init : q_mI yX1_init cX1_init 2 1 := ⟨⟨wd_7, wd_174, by decide, by decide, by decide +kernel⟩, wd_173, rfl⟩
theorem mV_X1_isThere : q_mV yX1_isThere cX1_isThere 4 (Option.some Jvm.ClassFile.FieldType.boolean) 2 := ⟨⟨wd_7, wd_727, by decide, by decide, by decide +kernel⟩, wd_726, q_gws (by decide +kernel)⟩
theorem mV_X1_joyBy : q_mV yX1_joyBy cX1_joyBy 8 (Option.some Jvm.ClassFile.FieldType.int) 6 := ⟨⟨wd_7, wd_760, by decide, by decide, by decide +kernel⟩, wd_759, q_gws (by decide +kernel)⟩
theorem mV_X1_lay : q_mV yX1_lay cX1_lay 3 (Option.none : Option Jvm.ClassFile.FieldType) 1 := ⟨⟨wd_7, wd_723, by decide, by decide, by decide +kernel⟩, wd_722, q_gws (by decide +kernel)⟩
theorem mV_X1_pass : q_mV yX1_pass cX1_pass 4 (Option.none : Option Jvm.ClassFile.FieldType) 1 := ⟨⟨wd_7, wd_719, by decide, by decide, by decide +kernel⟩, wd_718, q_gws (by decide +kernel)⟩
theorem mV_X1_serve : q_mV yX1_serve cX1_serve 4 (Option.none : Option Jvm.ClassFile.FieldType) 1 := ⟨⟨wd_7, wd_746, by decide, by decide, by decide +kernel⟩, wd_745, q_gws (by decide +kernel)⟩
theorem mV_X2_daysToLeaving : q_mV yX2_daysToLeaving cX2_daysToLeaving 4 (Option.some Jvm.ClassFile.FieldType.int) 2 := ⟨⟨wd_9, wd_1000, by decide, by decide, by decide +kernel⟩, wd_999, q_gws (by decide +kernel)⟩
theorem mV_X2_daysToNothing : q_mV yX2_daysToNothing cX2_daysToNothing 3 (Option.some Jvm.ClassFile.FieldType.int) 1 := ⟨⟨wd_9, wd_1082, by decide, by decide, by decide +kernel⟩, wd_1081, q_gws (by decide +kernel)⟩
theorem mV_X2_fewestMadeUp : q_mV yX2_fewestMadeUp cX2_fewestMadeUp 4 (Option.some Jvm.ClassFile.FieldType.int) 2 := ⟨⟨wd_9, wd_945, by decide, by decide, by decide +kernel⟩, wd_944, q_gws (by decide +kernel)⟩
theorem mV_X2_fullestDay : q_mV yX2_fullestDay cX2_fullestDay 5 (Option.some Jvm.ClassFile.FieldType.int) 1 := ⟨⟨wd_9, wd_1086, by decide, by decide, by decide +kernel⟩, wd_1085, q_gws (by decide +kernel)⟩
theorem mV_X2_gainBesideJoy : q_mV yX2_gainBesideJoy cX2_gainBesideJoy 3 (Option.some Jvm.ClassFile.FieldType.int) 1 := ⟨⟨wd_9, wd_1017, by decide, by decide, by decide +kernel⟩, wd_1016, q_gws (by decide +kernel)⟩
theorem mI_X2_init : q_mI yX2_init cX2_init 5 3 := ⟨⟨wd_9, wd_246, by decide, by decide, by decide +kernel⟩, wd_245, rfl⟩
theorem mV_X2_isRest : q_mV yX2_isRest cX2_isRest 5 (Option.some Jvm.ClassFile.FieldType.boolean) 2 := ⟨⟨wd_9, wd_1035, by decide, by decide, by decide +kernel⟩, wd_1034, q_gws (by decide +kernel)⟩
theorem mV_X2_layAhead : q_mV yX2_layAhead cX2_layAhead 4 (Option.none : Option Jvm.ClassFile.FieldType) 2 := ⟨⟨wd_9, wd_907, by decide, by decide, by decide +kernel⟩, wd_906, q_gws (by decide +kernel)⟩
theorem mV_X2_oddsOf : q_mV yX2_oddsOf cX2_oddsOf 5 (Option.some Jvm.ClassFile.FieldType.long) 4 := ⟨⟨wd_9, wd_1047, by decide, by decide, by decide +kernel⟩, wd_1046, q_gws (by decide +kernel)⟩
theorem mV_X2_partsFed : q_mV yX2_partsFed cX2_partsFed 12 (Option.some Jvm.ClassFile.FieldType.long) 5 := ⟨⟨wd_9, wd_1052, by decide, by decide, by decide +kernel⟩, wd_1051, q_gws (by decide +kernel)⟩
theorem mV_X2_play : q_mV yX2_play cX2_play 7 (Option.none : Option Jvm.ClassFile.FieldType) 5 := ⟨⟨wd_9, wd_1013, by decide, by decide, by decide +kernel⟩, wd_1012, q_gws (by decide +kernel)⟩
theorem mV_X2_playAll : q_mV yX2_playAll cX2_playAll 5 (Option.none : Option Jvm.ClassFile.FieldType) 3 := ⟨⟨wd_9, wd_1026, by decide, by decide, by decide +kernel⟩, wd_1025, q_gws (by decide +kernel)⟩
theorem mV_X2_restAt : q_mV yX2_restAt cX2_restAt 6 (Option.some Jvm.ClassFile.FieldType.int) 1 := ⟨⟨wd_9, wd_1039, by decide, by decide, by decide +kernel⟩, wd_1038, q_gws (by decide +kernel)⟩
theorem mV_X2_restCount : q_mV yX2_restCount cX2_restCount 3 (Option.some Jvm.ClassFile.FieldType.int) 0 := ⟨⟨wd_9, wd_1031, by decide, by decide, by decide +kernel⟩, wd_1030, q_gws (by decide +kernel)⟩
theorem mV_X2_seekBest : q_mV yX2_seekBest cX2_seekBest 3 (Option.none : Option Jvm.ClassFile.FieldType) 2 := ⟨⟨wd_9, wd_928, by decide, by decide, by decide +kernel⟩, wd_927, q_gws (by decide +kernel)⟩
theorem mV_X2_stepsDone : q_mV yX2_stepsDone cX2_stepsDone 5 (Option.some Jvm.ClassFile.FieldType.int) 2 := ⟨⟨wd_9, wd_891, by decide, by decide, by decide +kernel⟩, wd_890, q_gws (by decide +kernel)⟩
theorem mV_X2_tryRows : q_mV yX2_tryRows cX2_tryRows 8 (Option.none : Option Jvm.ClassFile.FieldType) 3 := ⟨⟨wd_9, wd_933, by decide, by decide, by decide +kernel⟩, wd_932, q_gws (by decide +kernel)⟩
theorem mV_X2_weighRow : q_mV yX2_weighRow cX2_weighRow 3 (Option.none : Option Jvm.ClassFile.FieldType) 2 := ⟨⟨wd_9, wd_937, by decide, by decide, by decide +kernel⟩, wd_936, q_gws (by decide +kernel)⟩
theorem mV_X3_copyFrom : q_mV yX3_copyFrom cX3_copyFrom 2 (Option.none : Option Jvm.ClassFile.FieldType) 1 := ⟨⟨wd_3, wd_623, by decide, by decide, by decide +kernel⟩, wd_622, q_gws (by decide +kernel)⟩
theorem mV_X3_dishByDay : q_mV yX3_dishByDay cX3_dishByDay 2 (Option.some Jvm.ClassFile.FieldType.int) 1 := ⟨⟨wd_3, wd_736, by decide, by decide, by decide +kernel⟩, wd_735, q_gws (by decide +kernel)⟩
theorem mV_X3_hasDish : q_mV yX3_hasDish cX3_hasDish 2 (Option.some Jvm.ClassFile.FieldType.boolean) 1 := ⟨⟨wd_3, wd_686, by decide, by decide, by decide +kernel⟩, wd_685, q_gws (by decide +kernel)⟩
theorem mV_X3_hasGuest : q_mV yX3_hasGuest cX3_hasGuest 2 (Option.some Jvm.ClassFile.FieldType.boolean) 1 := ⟨⟨wd_3, wd_792, by decide, by decide, by decide +kernel⟩, wd_791, q_gws (by decide +kernel)⟩
theorem mI_X3_init : q_mI yX3_init cX3_init 1 0 := ⟨⟨wd_3, wd_67, by decide, by decide, by decide +kernel⟩, wd_66, rfl⟩
theorem mV_X3_ofDish : q_mV yX3_ofDish cX3_ofDish 4 (Option.some Jvm.ClassFile.FieldType.int) 2 := ⟨⟨wd_3, wd_690, by decide, by decide, by decide +kernel⟩, wd_689, q_gws (by decide +kernel)⟩
theorem mV_X3_ofGuest : q_mV yX3_ofGuest cX3_ofGuest 4 (Option.some Jvm.ClassFile.FieldType.int) 2 := ⟨⟨wd_3, wd_634, by decide, by decide, by decide +kernel⟩, wd_633, q_gws (by decide +kernel)⟩
theorem mV_X3_orderByComing : q_mV yX3_orderByComing cX3_orderByComing 4 (Option.none : Option Jvm.ClassFile.FieldType) 0 := ⟨⟨wd_3, wd_630, by decide, by decide, by decide +kernel⟩, wd_629, q_gws (by decide +kernel)⟩
theorem mV_X3_readClause : q_mV yX3_readClause cX3_readClause 3 (Option.some Jvm.ClassFile.FieldType.boolean) 1 := ⟨⟨wd_3, wd_423, by decide, by decide, by decide +kernel⟩, wd_422, q_gws (by decide +kernel)⟩
theorem mV_X3_readFrom : q_mV yX3_readFrom cX3_readFrom 3 (Option.some Jvm.ClassFile.FieldType.boolean) 1 := ⟨⟨wd_3, wd_414, by decide, by decide, by decide +kernel⟩, wd_413, q_gws (by decide +kernel)⟩
theorem mS_X3_readItems : q_mS yX3_readItems cX3_readItems 8 (Option.some Jvm.ClassFile.FieldType.boolean) 5 := ⟨⟨wd_3, wd_431, by decide, by decide, by decide +kernel⟩, wd_430⟩
theorem mS_X3_setUsual : q_mS yX3_setUsual cX3_setUsual 5 (Option.none : Option Jvm.ClassFile.FieldType) 4 := ⟨⟨wd_3, wd_419, by decide, by decide, by decide +kernel⟩, wd_418⟩
theorem mI_X4_init : q_mI yX4_init cX4_init 2 1 := ⟨⟨wd_21, wd_666, by decide, by decide, by decide +kernel⟩, wd_665, rfl⟩
theorem mS_X4_joined : q_mS yX4_joined cX4_joined 5 (Option.some Jvm.ClassFile.FieldType.int) 3 := ⟨⟨wd_21, wd_768, by decide, by decide, by decide +kernel⟩, wd_767⟩
theorem mV_X4_worth : q_mV yX4_worth cX4_worth 5 (Option.some Jvm.ClassFile.FieldType.int) 1 := ⟨⟨wd_21, wd_764, by decide, by decide, by decide +kernel⟩, wd_763, q_gws (by decide +kernel)⟩
theorem mI_X5_init : q_mI yX5_init cX5_init 2 1 := ⟨⟨wd_4, wd_108, by decide, by decide, by decide +kernel⟩, wd_107, rfl⟩
theorem mV_X5_readAtom : q_mV yX5_readAtom cX5_readAtom 3 (Option.some Jvm.ClassFile.FieldType.boolean) 1 := ⟨⟨wd_4, wd_563, by decide, by decide, by decide +kernel⟩, wd_562, q_gws (by decide +kernel)⟩
theorem mV_X5_readClause : q_mV yX5_readClause cX5_readClause 3 (Option.some Jvm.ClassFile.FieldType.boolean) 0 := ⟨⟨wd_4, wd_548, by decide, by decide, by decide +kernel⟩, wd_547, q_gws (by decide +kernel)⟩
theorem mV_X5_readCondition : q_mV yX5_readCondition cX5_readCondition 4 (Option.some Jvm.ClassFile.FieldType.boolean) 2 := ⟨⟨wd_4, wd_576, by decide, by decide, by decide +kernel⟩, wd_575, q_gws (by decide +kernel)⟩
theorem mV_X5_readLaw : q_mV yX5_readLaw cX5_readLaw 2 (Option.some Jvm.ClassFile.FieldType.boolean) 0 := ⟨⟨wd_4, wd_544, by decide, by decide, by decide +kernel⟩, wd_543, q_gws (by decide +kernel)⟩
theorem mV_X5_readNested : q_mV yX5_readNested cX5_readNested 2 (Option.some Jvm.ClassFile.FieldType.boolean) 1 := ⟨⟨wd_4, wd_588, by decide, by decide, by decide +kernel⟩, wd_587, q_gws (by decide +kernel)⟩
theorem mV_X5_readSum : q_mV yX5_readSum cX5_readSum 4 (Option.some Jvm.ClassFile.FieldType.boolean) 1 := ⟨⟨wd_4, wd_555, by decide, by decide, by decide +kernel⟩, wd_554, q_gws (by decide +kernel)⟩
theorem mV_X5_readTerm : q_mV yX5_readTerm cX5_readTerm 4 (Option.some Jvm.ClassFile.FieldType.boolean) 1 := ⟨⟨wd_4, wd_559, by decide, by decide, by decide +kernel⟩, wd_558, q_gws (by decide +kernel)⟩
theorem mV_X5_readTruth : q_mV yX5_readTruth cX5_readTruth 4 (Option.some Jvm.ClassFile.FieldType.boolean) 2 := ⟨⟨wd_4, wd_580, by decide, by decide, by decide +kernel⟩, wd_579, q_gws (by decide +kernel)⟩
theorem mV_X5_readUnit : q_mV yX5_readUnit cX5_readUnit 4 (Option.some Jvm.ClassFile.FieldType.boolean) 2 := ⟨⟨wd_4, wd_584, by decide, by decide, by decide +kernel⟩, wd_583, q_gws (by decide +kernel)⟩
theorem mV_X5_write : q_mV yX5_write cX5_write 2 (Option.none : Option Jvm.ClassFile.FieldType) 1 := ⟨⟨wd_4, wd_568, by decide, by decide, by decide +kernel⟩, wd_567, q_gws (by decide +kernel)⟩
theorem mV_X5_written : q_mV yX5_written cX5_written 1 (Option.some (Jvm.ClassFile.FieldType.array Jvm.ClassFile.FieldType.int)) 0 := ⟨⟨wd_4, wd_651, by decide, by decide, by decide +kernel⟩, wd_650, q_gws (by decide +kernel)⟩
theorem mV_X6_forget : q_mV yX6_forget cX6_forget 1 (Option.none : Option Jvm.ClassFile.FieldType) 0 := ⟨⟨wd_6, wd_646, by decide, by decide, by decide +kernel⟩, wd_645, q_gws (by decide +kernel)⟩
theorem mI_X6_init : q_mI yX6_init cX6_init 1 0 := ⟨⟨wd_6, wd_143, by decide, by decide, by decide +kernel⟩, wd_142, rfl⟩
theorem mV_X6_keepAct : q_mV yX6_keepAct cX6_keepAct 2 (Option.none : Option Jvm.ClassFile.FieldType) 1 := ⟨⟨wd_6, wd_801, by decide, by decide, by decide +kernel⟩, wd_800, q_gws (by decide +kernel)⟩
theorem mS_X6_logLength : q_mS yX6_logLength cX6_logLength 1 (Option.some Jvm.ClassFile.FieldType.int) 1 := ⟨⟨wd_6, wd_865, by decide, by decide, by decide +kernel⟩, wd_864⟩
theorem mS_X6_logRow : q_mS yX6_logRow cX6_logRow 1 (Option.some Jvm.ClassFile.FieldType.int) 1 := ⟨⟨wd_6, wd_810, by decide, by decide, by decide +kernel⟩, wd_809⟩
theorem mV_X6_ofLog : q_mV yX6_ofLog cX6_ofLog 4 (Option.some Jvm.ClassFile.FieldType.int) 2 := ⟨⟨wd_6, wd_870, by decide, by decide, by decide +kernel⟩, wd_869, q_gws (by decide +kernel)⟩
theorem mV_X6_showPicture : q_mV yX6_showPicture cX6_showPicture 2 (Option.some Jvm.ClassFile.FieldType.boolean) 1 := ⟨⟨wd_6, wd_1111, by decide, by decide, by decide +kernel⟩, wd_1110, q_gws (by decide +kernel)⟩
theorem mV_X6_takePicture : q_mV yX6_takePicture cX6_takePicture 2 (Option.none : Option Jvm.ClassFile.FieldType) 1 := ⟨⟨wd_6, wd_1102, by decide, by decide, by decide +kernel⟩, wd_1101, q_gws (by decide +kernel)⟩
theorem mV_X6_undoAct : q_mV yX6_undoAct cX6_undoAct 2 (Option.some Jvm.ClassFile.FieldType.boolean) 1 := ⟨⟨wd_6, wd_858, by decide, by decide, by decide +kernel⟩, wd_857, q_gws (by decide +kernel)⟩
theorem mV_X6_writeLog : q_mV yX6_writeLog cX6_writeLog 4 (Option.none : Option Jvm.ClassFile.FieldType) 2 := ⟨⟨wd_6, wd_807, by decide, by decide, by decide +kernel⟩, wd_806, q_gws (by decide +kernel)⟩
theorem mV_X7_add : q_mV yX7_add cX7_add 7 (Option.some Jvm.ClassFile.FieldType.int) 5 := ⟨⟨wd_10, wd_956, by decide, by decide, by decide +kernel⟩, wd_955, q_gws (by decide +kernel)⟩
theorem mV_X7_dishToTry : q_mV yX7_dishToTry cX7_dishToTry 9 (Option.some Jvm.ClassFile.FieldType.int) 3 := ⟨⟨wd_10, wd_983, by decide, by decide, by decide +kernel⟩, wd_982, q_gws (by decide +kernel)⟩
theorem mV_X7_hasJoy : q_mV yX7_hasJoy cX7_hasJoy 7 (Option.some Jvm.ClassFile.FieldType.boolean) 5 := ⟨⟨wd_10, wd_972, by decide, by decide, by decide +kernel⟩, wd_971, q_gws (by decide +kernel)⟩
theorem mI_X7_init : q_mI yX7_init cX7_init 3 2 := ⟨⟨wd_10, wd_297, by decide, by decide, by decide +kernel⟩, wd_296, rfl⟩
theorem mV_X7_kindsLeft : q_mV yX7_kindsLeft cX7_kindsLeft 4 (Option.some Jvm.ClassFile.FieldType.int) 1 := ⟨⟨wd_10, wd_964, by decide, by decide, by decide +kernel⟩, wd_963, q_gws (by decide +kernel)⟩
theorem mV_X7_lean : q_mV yX7_lean cX7_lean 8 (Option.some Jvm.ClassFile.FieldType.int) 5 := ⟨⟨wd_10, wd_988, by decide, by decide, by decide +kernel⟩, wd_987, q_gws (by decide +kernel)⟩
theorem mV_X7_mayLike : q_mV yX7_mayLike cX7_mayLike 5 (Option.some Jvm.ClassFile.FieldType.boolean) 2 := ⟨⟨wd_10, wd_968, by decide, by decide, by decide +kernel⟩, wd_967, q_gws (by decide +kernel)⟩
theorem mV_X8_begin : q_mV yX8_begin cX8_begin 3 (Option.none : Option Jvm.ClassFile.FieldType) 1 := ⟨⟨wd_5, wd_638, by decide, by decide, by decide +kernel⟩, wd_637, q_gws (by decide +kernel)⟩
theorem mV_X8_copyFrom : q_mV yX8_copyFrom cX8_copyFrom 2 (Option.none : Option Jvm.ClassFile.FieldType) 1 := ⟨⟨wd_5, wd_710, by decide, by decide, by decide +kernel⟩, wd_709, q_gws (by decide +kernel)⟩
theorem mV_X8_hasLeft : q_mV yX8_hasLeft cX8_hasLeft 2 (Option.some Jvm.ClassFile.FieldType.boolean) 1 := ⟨⟨wd_5, wd_732, by decide, by decide, by decide +kernel⟩, wd_731, q_gws (by decide +kernel)⟩
theorem mI_X8_init : q_mI yX8_init cX8_init 1 0 := ⟨⟨wd_5, wd_128, by decide, by decide, by decide +kernel⟩, wd_127, rfl⟩
theorem mV_X8_joyOfAll : q_mV yX8_joyOfAll cX8_joyOfAll 3 (Option.some Jvm.ClassFile.FieldType.int) 0 := ⟨⟨wd_5, wd_814, by decide, by decide, by decide +kernel⟩, wd_813, q_gws (by decide +kernel)⟩
theorem mV_X9_append : q_mV yX9_append cX9_append 4 (Option.none : Option Jvm.ClassFile.FieldType) 1 := ⟨⟨wd_2, wd_398, by decide, by decide, by decide +kernel⟩, wd_397, q_gws (by decide +kernel)⟩
theorem mS_X9_bytesIn : q_mS yX9_bytesIn cX9_bytesIn 3 (Option.some Jvm.ClassFile.FieldType.int) 1 := ⟨⟨wd_2, wd_394, by decide, by decide, by decide +kernel⟩, wd_393⟩
theorem mI_X9_init : q_mI yX9_init cX9_init 1 0 := ⟨⟨wd_2, wd_39, by decide, by decide, by decide +kernel⟩, wd_38, rfl⟩
theorem mS_X9_isDigit : q_mS yX9_isDigit cX9_isDigit 1 (Option.some Jvm.ClassFile.FieldType.boolean) 1 := ⟨⟨wd_2, wd_530, by decide, by decide, by decide +kernel⟩, wd_529⟩
theorem mV_X9_peek : q_mV yX9_peek cX9_peek 2 (Option.some Jvm.ClassFile.FieldType.int) 0 := ⟨⟨wd_2, wd_427, by decide, by decide, by decide +kernel⟩, wd_426, q_gws (by decide +kernel)⟩
theorem mV_X9_peekAmong : q_mV yX9_peekAmong cX9_peekAmong 3 (Option.some Jvm.ClassFile.FieldType.int) 1 := ⟨⟨wd_2, wd_445, by decide, by decide, by decide +kernel⟩, wd_444, q_gws (by decide +kernel)⟩
theorem mV_X9_readDigit : q_mV yX9_readDigit cX9_readDigit 2 (Option.some Jvm.ClassFile.FieldType.boolean) 0 := ⟨⟨wd_2, wd_605, by decide, by decide, by decide +kernel⟩, wd_604, q_gws (by decide +kernel)⟩
theorem mV_X9_readNumber : q_mV yX9_readNumber cX9_readNumber 8 (Option.some Jvm.ClassFile.FieldType.boolean) 3 := ⟨⟨wd_2, wd_527, by decide, by decide, by decide +kernel⟩, wd_526, q_gws (by decide +kernel)⟩
theorem mV_X9_take : q_mV yX9_take cX9_take 2 (Option.some Jvm.ClassFile.FieldType.boolean) 1 := ⟨⟨wd_2, wd_540, by decide, by decide, by decide +kernel⟩, wd_539, q_gws (by decide +kernel)⟩
