theorem tk_1 : (Jvm.Cond.initialized "NearSeats") ∈ tw := tw_t 1 (by decide +kernel) (by decide +kernel)
theorem tk_2 : (Jvm.Cond.initialized "NearSeats$Land") ∈ tw := tw_t 2 (by decide +kernel) (by decide +kernel)
theorem tk_3 : (Jvm.Cond.initialized "NearSeats$LandText") ∈ tw := tw_t 3 (by decide +kernel) (by decide +kernel)
theorem tk_4 : (Jvm.Cond.initialized "NearSeats$Sender") ∈ tw := tw_t 4 (by decide +kernel) (by decide +kernel)
theorem tk_5 : (Jvm.Cond.initialized "NearSeats$Families") ∈ tw := tw_t 5 (by decide +kernel) (by decide +kernel)
theorem tk_6 : (Jvm.Cond.initialized "NearSeats$Teller") ∈ tw := tw_t 6 (by decide +kernel) (by decide +kernel)
theorem tk_7 : (Jvm.Cond.initialized "NearSeats$Sheet") ∈ tw := tw_t 7 (by decide +kernel) (by decide +kernel)
theorem tk_8 : (Jvm.Cond.initialized "NearSeatsModel") ∈ tw := tw_t 8 (by decide +kernel) (by decide +kernel)
theorem tk_9 : (Jvm.Cond.initialized "java/lang/System") ∈ tw := tw_t 9 (by decide +kernel) (by decide +kernel)
theorem tk_10 : (Jvm.Cond.initialized "java/lang/Math") ∈ tw := tw_t 10 (by decide +kernel) (by decide +kernel)
theorem tk_11 : (Jvm.Cond.initialized "java/lang/Integer") ∈ tw := tw_t 11 (by decide +kernel) (by decide +kernel)
theorem tk_12 : (Jvm.Cond.classLink "NearSeatsLaw" (7 : Nat) "NearSeats") ∈ tw := tw_t 12 (by decide +kernel) (by decide +kernel)
theorem tk_13 : (Jvm.Cond.instantiable "NearSeats" (17 : Nat)) ∈ tw := tw_t 13 (by decide +kernel) (by decide +kernel)
theorem tk_14 : (Jvm.Cond.methodLink "NearSeatsLaw" (9 : Nat) ({ cls := "NearSeats", name := "<init>", desc := "()V" } : Jvm.MethodName)) ∈ tw := tw_t 14 (by decide +kernel) (by decide +kernel)
theorem tk_15 : (Jvm.Cond.instanceMethod ({ cls := "NearSeats", name := "<init>", desc := "()V" } : Jvm.MethodName)) ∈ tw := tw_t 15 (by decide +kernel) (by decide +kernel)
theorem tk_16 : (Jvm.Cond.code ({ cls := "NearSeats", name := "<init>", desc := "()V" } : Jvm.MethodName) prog_1_method_1_code (2 : Nat) (Option.none : Option Jvm.ClassFile.FieldType)) ∈ tw := tw_t 16 (by decide +kernel) (by decide +kernel)
theorem tk_17 : (Jvm.Cond.methodLink "NearSeats" (3 : Nat) ({ cls := "java/lang/Object", name := "<init>", desc := "()V" } : Jvm.MethodName)) ∈ tw := tw_t 17 (by decide +kernel) (by decide +kernel)
theorem tk_18 : (Jvm.Cond.instanceMethod ({ cls := "java/lang/Object", name := "<init>", desc := "()V" } : Jvm.MethodName)) ∈ tw := tw_t 18 (by decide +kernel) (by decide +kernel)
theorem tk_19 : (Jvm.Cond.code ({ cls := "java/lang/Object", name := "<init>", desc := "()V" } : Jvm.MethodName) object_method_1_code (1 : Nat) (Option.none : Option Jvm.ClassFile.FieldType)) ∈ tw := tw_t 19 (by decide +kernel) (by decide +kernel)
theorem tk_20 : (Jvm.Cond.classLink "NearSeats" (9 : Nat) "NearSeats$Land") ∈ tw := tw_t 20 (by decide +kernel) (by decide +kernel)
theorem tk_21 : (Jvm.Cond.instantiable "NearSeats$Land" (12 : Nat)) ∈ tw := tw_t 21 (by decide +kernel) (by decide +kernel)
theorem tk_23 : (Jvm.Cond.instanceMethod ({ cls := "NearSeats$Land", name := "<init>", desc := "()V" } : Jvm.MethodName)) ∈ tw := tw_t 23 (by decide +kernel) (by decide +kernel)
theorem tk_24 : (Jvm.Cond.code ({ cls := "NearSeats$Land", name := "<init>", desc := "()V" } : Jvm.MethodName) prog_3_method_1_code (1 : Nat) (Option.none : Option Jvm.ClassFile.FieldType)) ∈ tw := tw_t 24 (by decide +kernel) (by decide +kernel)
theorem tk_25 : (Jvm.Cond.methodLink "NearSeats$Land" (3 : Nat) ({ cls := "java/lang/Object", name := "<init>", desc := "()V" } : Jvm.MethodName)) ∈ tw := tw_t 25 (by decide +kernel) (by decide +kernel)
theorem tk_26 : (Jvm.Cond.fieldLink "NearSeats$Land" (9 : Nat) "NearSeats$Land" "homeX" "[I") ∈ tw := tw_t 26 (by decide +kernel) (by decide +kernel)
theorem tk_27 : (Jvm.Cond.fieldLink "NearSeats$Families" (63 : Nat) "NearSeats$Land" "homeX" "[I") ∈ tw := tw_t 27 (by decide +kernel) (by decide +kernel)
theorem tk_28 : (Jvm.Cond.fieldLink "NearSeats$Sender" (70 : Nat) "NearSeats$Land" "homeX" "[I") ∈ tw := tw_t 28 (by decide +kernel) (by decide +kernel)
theorem tk_29 : (Jvm.Cond.fieldLink "NearSeats" (116 : Nat) "NearSeats$Land" "homeX" "[I") ∈ tw := tw_t 29 (by decide +kernel) (by decide +kernel)
theorem tk_30 : (Jvm.Cond.fieldLink "NearSeats$Land" (15 : Nat) "NearSeats$Land" "homeY" "[I") ∈ tw := tw_t 30 (by decide +kernel) (by decide +kernel)
theorem tk_31 : (Jvm.Cond.fieldLink "NearSeats$Families" (66 : Nat) "NearSeats$Land" "homeY" "[I") ∈ tw := tw_t 31 (by decide +kernel) (by decide +kernel)
theorem tk_32 : (Jvm.Cond.fieldLink "NearSeats$Sender" (73 : Nat) "NearSeats$Land" "homeY" "[I") ∈ tw := tw_t 32 (by decide +kernel) (by decide +kernel)
theorem tk_33 : (Jvm.Cond.fieldLink "NearSeats" (119 : Nat) "NearSeats$Land" "homeY" "[I") ∈ tw := tw_t 33 (by decide +kernel) (by decide +kernel)
theorem tk_34 : (Jvm.Cond.fieldLink "NearSeats$Land" (18 : Nat) "NearSeats$Land" "heads" "[I") ∈ tw := tw_t 34 (by decide +kernel) (by decide +kernel)
theorem tk_35 : (Jvm.Cond.fieldLink "NearSeats$Sender" (53 : Nat) "NearSeats$Land" "heads" "[I") ∈ tw := tw_t 35 (by decide +kernel) (by decide +kernel)
theorem tk_36 : (Jvm.Cond.fieldLink "NearSeats$Families" (50 : Nat) "NearSeats$Land" "heads" "[I") ∈ tw := tw_t 36 (by decide +kernel) (by decide +kernel)
theorem tk_37 : (Jvm.Cond.fieldLink "NearSeats" (122 : Nat) "NearSeats$Land" "heads" "[I") ∈ tw := tw_t 37 (by decide +kernel) (by decide +kernel)
theorem tk_38 : (Jvm.Cond.fieldLink "NearSeats$Land" (21 : Nat) "NearSeats$Land" "barred" "[I") ∈ tw := tw_t 38 (by decide +kernel) (by decide +kernel)
theorem tk_39 : (Jvm.Cond.fieldLink "NearSeats$Land" (24 : Nat) "NearSeats$Land" "kind" "[I") ∈ tw := tw_t 39 (by decide +kernel) (by decide +kernel)
theorem tk_40 : (Jvm.Cond.fieldLink "NearSeats$Sender" (67 : Nat) "NearSeats$Land" "kind" "[I") ∈ tw := tw_t 40 (by decide +kernel) (by decide +kernel)
theorem tk_41 : (Jvm.Cond.fieldLink "NearSeats" (128 : Nat) "NearSeats$Land" "kind" "[I") ∈ tw := tw_t 41 (by decide +kernel) (by decide +kernel)
theorem tk_42 : (Jvm.Cond.fieldLink "NearSeats$Land" (27 : Nat) "NearSeats$Land" "churchX" "[I") ∈ tw := tw_t 42 (by decide +kernel) (by decide +kernel)
theorem tk_43 : (Jvm.Cond.fieldLink "NearSeats$Sender" (57 : Nat) "NearSeats$Land" "churchX" "[I") ∈ tw := tw_t 43 (by decide +kernel) (by decide +kernel)
theorem tk_44 : (Jvm.Cond.fieldLink "NearSeats" (131 : Nat) "NearSeats$Land" "churchX" "[I") ∈ tw := tw_t 44 (by decide +kernel) (by decide +kernel)
theorem tk_45 : (Jvm.Cond.fieldLink "NearSeats$Land" (30 : Nat) "NearSeats$Land" "churchY" "[I") ∈ tw := tw_t 45 (by decide +kernel) (by decide +kernel)
theorem tk_46 : (Jvm.Cond.fieldLink "NearSeats$Sender" (60 : Nat) "NearSeats$Land" "churchY" "[I") ∈ tw := tw_t 46 (by decide +kernel) (by decide +kernel)
theorem tk_47 : (Jvm.Cond.fieldLink "NearSeats" (134 : Nat) "NearSeats$Land" "churchY" "[I") ∈ tw := tw_t 47 (by decide +kernel) (by decide +kernel)
theorem tk_48 : (Jvm.Cond.fieldLink "NearSeats$Land" (33 : Nat) "NearSeats$Land" "seats" "[I") ∈ tw := tw_t 48 (by decide +kernel) (by decide +kernel)
theorem tk_49 : (Jvm.Cond.fieldLink "NearSeats$Families" (47 : Nat) "NearSeats$Land" "seats" "[I") ∈ tw := tw_t 49 (by decide +kernel) (by decide +kernel)
theorem tk_50 : (Jvm.Cond.fieldLink "NearSeats$Sender" (54 : Nat) "NearSeats$Land" "seats" "[I") ∈ tw := tw_t 50 (by decide +kernel) (by decide +kernel)
theorem tk_51 : (Jvm.Cond.fieldLink "NearSeats" (137 : Nat) "NearSeats$Land" "seats" "[I") ∈ tw := tw_t 51 (by decide +kernel) (by decide +kernel)
theorem tk_52 : (Jvm.Cond.fieldLink "NearSeats$Sender" (42 : Nat) "NearSeats$Land" "homes" "I") ∈ tw := tw_t 52 (by decide +kernel) (by decide +kernel)
theorem tk_53 : (Jvm.Cond.fieldLink "NearSeats$Families" (30 : Nat) "NearSeats$Land" "homes" "I") ∈ tw := tw_t 53 (by decide +kernel) (by decide +kernel)
theorem tk_54 : (Jvm.Cond.fieldLink "NearSeats$Land" (40 : Nat) "NearSeats$Land" "homes" "I") ∈ tw := tw_t 54 (by decide +kernel) (by decide +kernel)
theorem tk_55 : (Jvm.Cond.fieldLink "NearSeats" (81 : Nat) "NearSeats$Land" "homes" "I") ∈ tw := tw_t 55 (by decide +kernel) (by decide +kernel)
theorem tk_56 : (Jvm.Cond.fieldLink "NearSeats$Sender" (49 : Nat) "NearSeats$Land" "churches" "I") ∈ tw := tw_t 56 (by decide +kernel) (by decide +kernel)
theorem tk_57 : (Jvm.Cond.fieldLink "NearSeats$Families" (43 : Nat) "NearSeats$Land" "churches" "I") ∈ tw := tw_t 57 (by decide +kernel) (by decide +kernel)
theorem tk_58 : (Jvm.Cond.fieldLink "NearSeats$Land" (43 : Nat) "NearSeats$Land" "churches" "I") ∈ tw := tw_t 58 (by decide +kernel) (by decide +kernel)
theorem tk_59 : (Jvm.Cond.fieldLink "NearSeats" (88 : Nat) "NearSeats$Land" "churches" "I") ∈ tw := tw_t 59 (by decide +kernel) (by decide +kernel)
theorem tk_60 : (Jvm.Cond.fieldLink "NearSeats$Land" (36 : Nat) "NearSeats$Land" "ferryToll" "I") ∈ tw := tw_t 60 (by decide +kernel) (by decide +kernel)
theorem tk_61 : (Jvm.Cond.fieldLink "NearSeats$Land" (46 : Nat) "NearSeats$Land" "changes" "I") ∈ tw := tw_t 61 (by decide +kernel) (by decide +kernel)
theorem tk_62 : (Jvm.Cond.fieldLink "NearSeats" (274 : Nat) "NearSeats$Land" "changes" "I") ∈ tw := tw_t 62 (by decide +kernel) (by decide +kernel)
theorem tk_88 : (Jvm.Cond.arrayClass Jvm.ClassFile.FieldType.int) ∈ tw := tw_t 88 (by decide +kernel) (by decide +kernel)
theorem tk_89 : (Jvm.Cond.classLink "NearSeats" (18 : Nat) "NearSeats$LandText") ∈ tw := tw_t 89 (by decide +kernel) (by decide +kernel)
theorem tk_90 : (Jvm.Cond.instantiable "NearSeats$LandText" (11 : Nat)) ∈ tw := tw_t 90 (by decide +kernel) (by decide +kernel)
theorem tk_92 : (Jvm.Cond.instanceMethod ({ cls := "NearSeats$LandText", name := "<init>", desc := "()V" } : Jvm.MethodName)) ∈ tw := tw_t 92 (by decide +kernel) (by decide +kernel)
theorem tk_93 : (Jvm.Cond.code ({ cls := "NearSeats$LandText", name := "<init>", desc := "()V" } : Jvm.MethodName) prog_4_method_1_code (1 : Nat) (Option.none : Option Jvm.ClassFile.FieldType)) ∈ tw := tw_t 93 (by decide +kernel) (by decide +kernel)
theorem tk_94 : (Jvm.Cond.methodLink "NearSeats$LandText" (3 : Nat) ({ cls := "java/lang/Object", name := "<init>", desc := "()V" } : Jvm.MethodName)) ∈ tw := tw_t 94 (by decide +kernel) (by decide +kernel)
theorem tk_95 : (Jvm.Cond.fieldLink "NearSeats$LandText" (9 : Nat) "NearSeats$LandText" "kinds" "[I") ∈ tw := tw_t 95 (by decide +kernel) (by decide +kernel)
theorem tk_96 : (Jvm.Cond.fieldLink "NearSeats$LandText" (15 : Nat) "NearSeats$LandText" "xs" "[I") ∈ tw := tw_t 96 (by decide +kernel) (by decide +kernel)
theorem tk_97 : (Jvm.Cond.fieldLink "NearSeats$LandText" (18 : Nat) "NearSeats$LandText" "ys" "[I") ∈ tw := tw_t 97 (by decide +kernel) (by decide +kernel)
theorem tk_98 : (Jvm.Cond.fieldLink "NearSeats$LandText" (21 : Nat) "NearSeats$LandText" "numbers" "[I") ∈ tw := tw_t 98 (by decide +kernel) (by decide +kernel)
theorem tk_99 : (Jvm.Cond.fieldLink "NearSeats$LandText" (24 : Nat) "NearSeats$LandText" "codes" "[I") ∈ tw := tw_t 99 (by decide +kernel) (by decide +kernel)
theorem tk_100 : (Jvm.Cond.fieldLink "NearSeats$LandText" (43 : Nat) "NearSeats$LandText" "length" "I") ∈ tw := tw_t 100 (by decide +kernel) (by decide +kernel)
theorem tk_101 : (Jvm.Cond.fieldLink "NearSeats$LandText" (39 : Nat) "NearSeats$LandText" "at" "I") ∈ tw := tw_t 101 (by decide +kernel) (by decide +kernel)
theorem tk_102 : (Jvm.Cond.fieldLink "NearSeats$LandText" (58 : Nat) "NearSeats$LandText" "homes" "I") ∈ tw := tw_t 102 (by decide +kernel) (by decide +kernel)
theorem tk_103 : (Jvm.Cond.fieldLink "NearSeats$LandText" (61 : Nat) "NearSeats$LandText" "churches" "I") ∈ tw := tw_t 103 (by decide +kernel) (by decide +kernel)
theorem tk_104 : (Jvm.Cond.fieldLink "NearSeats$LandText" (31 : Nat) "NearSeats$LandText" "ok" "Z") ∈ tw := tw_t 104 (by decide +kernel) (by decide +kernel)
theorem tk_105 : (Jvm.Cond.fieldLink "NearSeats" (105 : Nat) "NearSeats$LandText" "firstFault" "I") ∈ tw := tw_t 105 (by decide +kernel) (by decide +kernel)
theorem tk_106 : (Jvm.Cond.fieldLink "NearSeats$LandText" (100 : Nat) "NearSeats$LandText" "firstFault" "I") ∈ tw := tw_t 106 (by decide +kernel) (by decide +kernel)
theorem tk_130 : (Jvm.Cond.classLink "NearSeats" (25 : Nat) "NearSeats$Sender") ∈ tw := tw_t 130 (by decide +kernel) (by decide +kernel)
theorem tk_131 : (Jvm.Cond.instantiable "NearSeats$Sender" (12 : Nat)) ∈ tw := tw_t 131 (by decide +kernel) (by decide +kernel)
theorem tk_133 : (Jvm.Cond.instanceMethod ({ cls := "NearSeats$Sender", name := "<init>", desc := "()V" } : Jvm.MethodName)) ∈ tw := tw_t 133 (by decide +kernel) (by decide +kernel)
theorem tk_134 : (Jvm.Cond.code ({ cls := "NearSeats$Sender", name := "<init>", desc := "()V" } : Jvm.MethodName) prog_5_method_1_code (1 : Nat) (Option.none : Option Jvm.ClassFile.FieldType)) ∈ tw := tw_t 134 (by decide +kernel) (by decide +kernel)
theorem tk_135 : (Jvm.Cond.methodLink "NearSeats$Sender" (3 : Nat) ({ cls := "java/lang/Object", name := "<init>", desc := "()V" } : Jvm.MethodName)) ∈ tw := tw_t 135 (by decide +kernel) (by decide +kernel)
theorem tk_136 : (Jvm.Cond.fieldLink "NearSeats$Sender" (9 : Nat) "NearSeats$Sender" "far" "[I") ∈ tw := tw_t 136 (by decide +kernel) (by decide +kernel)
theorem tk_137 : (Jvm.Cond.fieldLink "NearSeats$Sender" (15 : Nat) "NearSeats$Sender" "sent" "[I") ∈ tw := tw_t 137 (by decide +kernel) (by decide +kernel)
theorem tk_138 : (Jvm.Cond.fieldLink "NearSeats$Sender" (18 : Nat) "NearSeats$Sender" "heads" "[I") ∈ tw := tw_t 138 (by decide +kernel) (by decide +kernel)
theorem tk_139 : (Jvm.Cond.fieldLink "NearSeats$Sender" (21 : Nat) "NearSeats$Sender" "room" "[I") ∈ tw := tw_t 139 (by decide +kernel) (by decide +kernel)
theorem tk_140 : (Jvm.Cond.fieldLink "NearSeats$Sender" (24 : Nat) "NearSeats$Sender" "taken" "[I") ∈ tw := tw_t 140 (by decide +kernel) (by decide +kernel)
theorem tk_141 : (Jvm.Cond.fieldLink "NearSeats$Sender" (27 : Nat) "NearSeats$Sender" "step" "[I") ∈ tw := tw_t 141 (by decide +kernel) (by decide +kernel)
theorem tk_142 : (Jvm.Cond.fieldLink "NearSeats$Sender" (30 : Nat) "NearSeats$Sender" "stepHome" "[I") ∈ tw := tw_t 142 (by decide +kernel) (by decide +kernel)
theorem tk_143 : (Jvm.Cond.fieldLink "NearSeats$Sender" (33 : Nat) "NearSeats$Sender" "cost" "[I") ∈ tw := tw_t 143 (by decide +kernel) (by decide +kernel)
theorem tk_144 : (Jvm.Cond.fieldLink "NearSeats$Sender" (36 : Nat) "NearSeats$Sender" "before" "[I") ∈ tw := tw_t 144 (by decide +kernel) (by decide +kernel)
theorem tk_145 : (Jvm.Cond.fieldLink "NearSeats$Sender" (39 : Nat) "NearSeats$Sender" "weights" "[I") ∈ tw := tw_t 145 (by decide +kernel) (by decide +kernel)
theorem tk_146 : (Jvm.Cond.fieldLink "NearSeats" (165 : Nat) "NearSeats$Sender" "weights" "[I") ∈ tw := tw_t 146 (by decide +kernel) (by decide +kernel)
theorem tk_147 : (Jvm.Cond.fieldLink "NearSeats$Sender" (48 : Nat) "NearSeats$Sender" "homes" "I") ∈ tw := tw_t 147 (by decide +kernel) (by decide +kernel)
theorem tk_148 : (Jvm.Cond.fieldLink "NearSeats$Sender" (52 : Nat) "NearSeats$Sender" "churches" "I") ∈ tw := tw_t 148 (by decide +kernel) (by decide +kernel)
theorem tk_174 : (Jvm.Cond.classLink "NearSeats" (35 : Nat) "NearSeats$Families") ∈ tw := tw_t 174 (by decide +kernel) (by decide +kernel)
theorem tk_175 : (Jvm.Cond.instantiable "NearSeats$Families" (9 : Nat)) ∈ tw := tw_t 175 (by decide +kernel) (by decide +kernel)
theorem tk_177 : (Jvm.Cond.instanceMethod ({ cls := "NearSeats$Families", name := "<init>", desc := "()V" } : Jvm.MethodName)) ∈ tw := tw_t 177 (by decide +kernel) (by decide +kernel)
theorem tk_178 : (Jvm.Cond.code ({ cls := "NearSeats$Families", name := "<init>", desc := "()V" } : Jvm.MethodName) prog_2_method_1_code (1 : Nat) (Option.none : Option Jvm.ClassFile.FieldType)) ∈ tw := tw_t 178 (by decide +kernel) (by decide +kernel)
theorem tk_179 : (Jvm.Cond.methodLink "NearSeats$Families" (3 : Nat) ({ cls := "java/lang/Object", name := "<init>", desc := "()V" } : Jvm.MethodName)) ∈ tw := tw_t 179 (by decide +kernel) (by decide +kernel)
theorem tk_180 : (Jvm.Cond.fieldLink "NearSeats$Families" (9 : Nat) "NearSeats$Families" "cost" "[I") ∈ tw := tw_t 180 (by decide +kernel) (by decide +kernel)
theorem tk_181 : (Jvm.Cond.fieldLink "NearSeats$Families" (15 : Nat) "NearSeats$Families" "heads" "[I") ∈ tw := tw_t 181 (by decide +kernel) (by decide +kernel)
theorem tk_182 : (Jvm.Cond.fieldLink "NearSeats$Families" (18 : Nat) "NearSeats$Families" "left" "[I") ∈ tw := tw_t 182 (by decide +kernel) (by decide +kernel)
theorem tk_183 : (Jvm.Cond.fieldLink "NearSeats$Families" (21 : Nat) "NearSeats$Families" "atLeast" "[I") ∈ tw := tw_t 183 (by decide +kernel) (by decide +kernel)
theorem tk_184 : (Jvm.Cond.fieldLink "NearSeats$Families" (24 : Nat) "NearSeats$Families" "tried" "[I") ∈ tw := tw_t 184 (by decide +kernel) (by decide +kernel)
theorem tk_185 : (Jvm.Cond.fieldLink "NearSeats$Families" (27 : Nat) "NearSeats$Families" "chosen" "[I") ∈ tw := tw_t 185 (by decide +kernel) (by decide +kernel)
theorem tk_186 : (Jvm.Cond.fieldLink "NearSeats" (182 : Nat) "NearSeats$Families" "chosen" "[I") ∈ tw := tw_t 186 (by decide +kernel) (by decide +kernel)
theorem tk_187 : (Jvm.Cond.fieldLink "NearSeats$Families" (42 : Nat) "NearSeats$Families" "homes" "I") ∈ tw := tw_t 187 (by decide +kernel) (by decide +kernel)
theorem tk_188 : (Jvm.Cond.fieldLink "NearSeats$Families" (46 : Nat) "NearSeats$Families" "churches" "I") ∈ tw := tw_t 188 (by decide +kernel) (by decide +kernel)
theorem tk_189 : (Jvm.Cond.fieldLink "NearSeats$Families" (56 : Nat) "NearSeats$Families" "least" "I") ∈ tw := tw_t 189 (by decide +kernel) (by decide +kernel)
theorem tk_190 : (Jvm.Cond.fieldLink "NearSeats" (178 : Nat) "NearSeats$Families" "least" "I") ∈ tw := tw_t 190 (by decide +kernel) (by decide +kernel)
theorem tk_210 : (Jvm.Cond.classLink "NearSeats" (42 : Nat) "NearSeats$Teller") ∈ tw := tw_t 210 (by decide +kernel) (by decide +kernel)
theorem tk_211 : (Jvm.Cond.instantiable "NearSeats$Teller" (1 : Nat)) ∈ tw := tw_t 211 (by decide +kernel) (by decide +kernel)
theorem tk_213 : (Jvm.Cond.instanceMethod ({ cls := "NearSeats$Teller", name := "<init>", desc := "()V" } : Jvm.MethodName)) ∈ tw := tw_t 213 (by decide +kernel) (by decide +kernel)
theorem tk_214 : (Jvm.Cond.code ({ cls := "NearSeats$Teller", name := "<init>", desc := "()V" } : Jvm.MethodName) prog_7_method_1_code (1 : Nat) (Option.none : Option Jvm.ClassFile.FieldType)) ∈ tw := tw_t 214 (by decide +kernel) (by decide +kernel)
theorem tk_215 : (Jvm.Cond.methodLink "NearSeats$Teller" (3 : Nat) ({ cls := "java/lang/Object", name := "<init>", desc := "()V" } : Jvm.MethodName)) ∈ tw := tw_t 215 (by decide +kernel) (by decide +kernel)
theorem tk_216 : (Jvm.Cond.fieldLink "NearSeats$Teller" (25 : Nat) "NearSeats$Teller" "left" "I") ∈ tw := tw_t 216 (by decide +kernel) (by decide +kernel)
theorem tk_217 : (Jvm.Cond.fieldLink "NearSeats" (267 : Nat) "NearSeats$Teller" "left" "I") ∈ tw := tw_t 217 (by decide +kernel) (by decide +kernel)
theorem tk_221 : (Jvm.Cond.classLink "NearSeats" (49 : Nat) "NearSeats$Sheet") ∈ tw := tw_t 221 (by decide +kernel) (by decide +kernel)
theorem tk_223 : (Jvm.Cond.instantiable "NearSeats$Sheet" (4 : Nat)) ∈ tw := tw_t 223 (by decide +kernel) (by decide +kernel)
theorem tk_225 : (Jvm.Cond.instanceMethod ({ cls := "NearSeats$Sheet", name := "<init>", desc := "()V" } : Jvm.MethodName)) ∈ tw := tw_t 225 (by decide +kernel) (by decide +kernel)
theorem tk_226 : (Jvm.Cond.code ({ cls := "NearSeats$Sheet", name := "<init>", desc := "()V" } : Jvm.MethodName) prog_6_method_1_code (1 : Nat) (Option.none : Option Jvm.ClassFile.FieldType)) ∈ tw := tw_t 226 (by decide +kernel) (by decide +kernel)
theorem tk_227 : (Jvm.Cond.methodLink "NearSeats$Sheet" (3 : Nat) ({ cls := "java/lang/Object", name := "<init>", desc := "()V" } : Jvm.MethodName)) ∈ tw := tw_t 227 (by decide +kernel) (by decide +kernel)
theorem tk_228 : (Jvm.Cond.fieldLink "NearSeats$Sheet" (9 : Nat) "NearSeats$Sheet" "cells" "[I") ∈ tw := tw_t 228 (by decide +kernel) (by decide +kernel)
theorem tk_229 : (Jvm.Cond.fieldLink "NearSeats" (98 : Nat) "NearSeats$Sheet" "cells" "[I") ∈ tw := tw_t 229 (by decide +kernel) (by decide +kernel)
theorem tk_230 : (Jvm.Cond.fieldLink "NearSeats$Sheet" (15 : Nat) "NearSeats$Sheet" "hasRow" "Z") ∈ tw := tw_t 230 (by decide +kernel) (by decide +kernel)
theorem tk_231 : (Jvm.Cond.fieldLink "NearSeats" (239 : Nat) "NearSeats$Sheet" "hasRow" "Z") ∈ tw := tw_t 231 (by decide +kernel) (by decide +kernel)
theorem tk_232 : (Jvm.Cond.fieldLink "NearSeats$Sheet" (19 : Nat) "NearSeats$Sheet" "lane" "I") ∈ tw := tw_t 232 (by decide +kernel) (by decide +kernel)
theorem tk_233 : (Jvm.Cond.fieldLink "NearSeats" (249 : Nat) "NearSeats$Sheet" "lane" "I") ∈ tw := tw_t 233 (by decide +kernel) (by decide +kernel)
theorem tk_234 : (Jvm.Cond.fieldLink "NearSeats$Sheet" (23 : Nat) "NearSeats$Sheet" "size" "I") ∈ tw := tw_t 234 (by decide +kernel) (by decide +kernel)
theorem tk_244 : (Jvm.Cond.fieldLink "NearSeats" (12 : Nat) "NearSeats" "land" "LNearSeats$Land;") ∈ tw := tw_t 244 (by decide +kernel) (by decide +kernel)
theorem tk_245 : (Jvm.Cond.fieldLink "NearSeats" (21 : Nat) "NearSeats" "text" "LNearSeats$LandText;") ∈ tw := tw_t 245 (by decide +kernel) (by decide +kernel)
theorem tk_246 : (Jvm.Cond.fieldLink "NearSeats" (28 : Nat) "NearSeats" "now" "LNearSeats$Sender;") ∈ tw := tw_t 246 (by decide +kernel) (by decide +kernel)
theorem tk_247 : (Jvm.Cond.fieldLink "NearSeats" (32 : Nat) "NearSeats" "trial" "LNearSeats$Sender;") ∈ tw := tw_t 247 (by decide +kernel) (by decide +kernel)
theorem tk_248 : (Jvm.Cond.fieldLink "NearSeats" (38 : Nat) "NearSeats" "families" "LNearSeats$Families;") ∈ tw := tw_t 248 (by decide +kernel) (by decide +kernel)
theorem tk_249 : (Jvm.Cond.fieldLink "NearSeats" (45 : Nat) "NearSeats" "teller" "LNearSeats$Teller;") ∈ tw := tw_t 249 (by decide +kernel) (by decide +kernel)
theorem tk_250 : (Jvm.Cond.fieldLink "NearSeats" (51 : Nat) "NearSeats" "sheets" "[LNearSeats$Sheet;") ∈ tw := tw_t 250 (by decide +kernel) (by decide +kernel)
theorem tk_251 : (Jvm.Cond.fieldLink "NearSeats" (55 : Nat) "NearSeats" "placeX" "[I") ∈ tw := tw_t 251 (by decide +kernel) (by decide +kernel)
theorem tk_252 : (Jvm.Cond.fieldLink "NearSeats" (59 : Nat) "NearSeats" "placeY" "[I") ∈ tw := tw_t 252 (by decide +kernel) (by decide +kernel)
theorem tk_253 : (Jvm.Cond.fieldLink "NearSeats" (206 : Nat) "NearSeats" "places" "I") ∈ tw := tw_t 253 (by decide +kernel) (by decide +kernel)
theorem tk_254 : (Jvm.Cond.fieldLink "NearSeats" (224 : Nat) "NearSeats" "fault" "I") ∈ tw := tw_t 254 (by decide +kernel) (by decide +kernel)
theorem tk_255 : (Jvm.Cond.fieldLink "NearSeats" (62 : Nat) "NearSeats" "sentAt" "I") ∈ tw := tw_t 255 (by decide +kernel) (by decide +kernel)
theorem tk_256 : (Jvm.Cond.fieldLink "NearSeats" (66 : Nat) "NearSeats" "evenAt" "I") ∈ tw := tw_t 256 (by decide +kernel) (by decide +kernel)
theorem tk_257 : (Jvm.Cond.fieldLink "NearSeats" (69 : Nat) "NearSeats" "familiesAt" "I") ∈ tw := tw_t 257 (by decide +kernel) (by decide +kernel)
theorem tk_258 : (Jvm.Cond.fieldLink "NearSeats" (284 : Nat) "NearSeats" "nowMiles" "I") ∈ tw := tw_t 258 (by decide +kernel) (by decide +kernel)
theorem tk_259 : (Jvm.Cond.fieldLink "NearSeats" (188 : Nat) "NearSeats" "evenLongest" "I") ∈ tw := tw_t 259 (by decide +kernel) (by decide +kernel)
theorem tk_260 : (Jvm.Cond.fieldLink "NearSeats" (191 : Nat) "NearSeats" "evenMiles" "I") ∈ tw := tw_t 260 (by decide +kernel) (by decide +kernel)
theorem tk_296 : (Jvm.Cond.methodLink "NearSeatsLaw" (13 : Nat) ({ cls := "NearSeats", name := "home", desc := "(III)I" } : Jvm.MethodName)) ∈ tw := tw_t 296 (by decide +kernel) (by decide +kernel)
theorem tk_297 : (Jvm.Cond.instanceMethod ({ cls := "NearSeats", name := "home", desc := "(III)I" } : Jvm.MethodName)) ∈ tw := tw_t 297 (by decide +kernel) (by decide +kernel)
theorem tk_298 : (Jvm.Cond.selects "NearSeats" ({ cls := "NearSeats", name := "home", desc := "(III)I" } : Jvm.MethodName) ({ cls := "NearSeats", name := "home", desc := "(III)I" } : Jvm.MethodName)) ∈ tw := tw_t 298 (by decide +kernel) (by decide +kernel)
theorem tk_299 : (Jvm.Cond.code ({ cls := "NearSeats", name := "home", desc := "(III)I" } : Jvm.MethodName) prog_1_method_2_code (4 : Nat) (Option.some Jvm.ClassFile.FieldType.int)) ∈ tw := tw_t 299 (by decide +kernel) (by decide +kernel)
theorem tk_300 : (Jvm.Cond.methodLink "NearSeats" (73 : Nat) ({ cls := "NearSeats", name := "isSpot", desc := "(II)Z" } : Jvm.MethodName)) ∈ tw := tw_t 300 (by decide +kernel) (by decide +kernel)
theorem tk_301 : (Jvm.Cond.static ({ cls := "NearSeats", name := "isSpot", desc := "(II)Z" } : Jvm.MethodName)) ∈ tw := tw_t 301 (by decide +kernel) (by decide +kernel)
theorem tk_302 : (Jvm.Cond.code ({ cls := "NearSeats", name := "isSpot", desc := "(II)Z" } : Jvm.MethodName) prog_1_method_36_code (2 : Nat) (Option.some Jvm.ClassFile.FieldType.boolean)) ∈ tw := tw_t 302 (by decide +kernel) (by decide +kernel)
theorem tk_303 : (Jvm.Cond.methodLink "NearSeats" (77 : Nat) ({ cls := "NearSeats", name := "isWithin", desc := "(III)Z" } : Jvm.MethodName)) ∈ tw := tw_t 303 (by decide +kernel) (by decide +kernel)
theorem tk_304 : (Jvm.Cond.static ({ cls := "NearSeats", name := "isWithin", desc := "(III)Z" } : Jvm.MethodName)) ∈ tw := tw_t 304 (by decide +kernel) (by decide +kernel)
theorem tk_305 : (Jvm.Cond.code ({ cls := "NearSeats", name := "isWithin", desc := "(III)Z" } : Jvm.MethodName) prog_1_method_35_code (3 : Nat) (Option.some Jvm.ClassFile.FieldType.boolean)) ∈ tw := tw_t 305 (by decide +kernel) (by decide +kernel)
theorem tk_306 : (Jvm.Cond.methodLink "NearSeats" (84 : Nat) ({ cls := "NearSeats$Land", name := "addHome", desc := "(III)I" } : Jvm.MethodName)) ∈ tw := tw_t 306 (by decide +kernel) (by decide +kernel)
theorem tk_307 : (Jvm.Cond.instanceMethod ({ cls := "NearSeats$Land", name := "addHome", desc := "(III)I" } : Jvm.MethodName)) ∈ tw := tw_t 307 (by decide +kernel) (by decide +kernel)
theorem tk_308 : (Jvm.Cond.selects "NearSeats$Land" ({ cls := "NearSeats$Land", name := "addHome", desc := "(III)I" } : Jvm.MethodName) ({ cls := "NearSeats$Land", name := "addHome", desc := "(III)I" } : Jvm.MethodName)) ∈ tw := tw_t 308 (by decide +kernel) (by decide +kernel)
theorem tk_309 : (Jvm.Cond.code ({ cls := "NearSeats$Land", name := "addHome", desc := "(III)I" } : Jvm.MethodName) prog_3_method_5_code (5 : Nat) (Option.some Jvm.ClassFile.FieldType.int)) ∈ tw := tw_t 309 (by decide +kernel) (by decide +kernel)
theorem tk_310 : (Jvm.Cond.methodLink "NearSeatsLaw" (18 : Nat) ({ cls := "NearSeats", name := "church", desc := "(IIII)I" } : Jvm.MethodName)) ∈ tw := tw_t 310 (by decide +kernel) (by decide +kernel)
theorem tk_311 : (Jvm.Cond.instanceMethod ({ cls := "NearSeats", name := "church", desc := "(IIII)I" } : Jvm.MethodName)) ∈ tw := tw_t 311 (by decide +kernel) (by decide +kernel)
theorem tk_312 : (Jvm.Cond.selects "NearSeats" ({ cls := "NearSeats", name := "church", desc := "(IIII)I" } : Jvm.MethodName) ({ cls := "NearSeats", name := "church", desc := "(IIII)I" } : Jvm.MethodName)) ∈ tw := tw_t 312 (by decide +kernel) (by decide +kernel)
theorem tk_313 : (Jvm.Cond.code ({ cls := "NearSeats", name := "church", desc := "(IIII)I" } : Jvm.MethodName) prog_1_method_3_code (5 : Nat) (Option.some Jvm.ClassFile.FieldType.int)) ∈ tw := tw_t 313 (by decide +kernel) (by decide +kernel)
theorem tk_314 : (Jvm.Cond.methodLink "NearSeats" (91 : Nat) ({ cls := "NearSeats$Land", name := "addChurch", desc := "(IIII)I" } : Jvm.MethodName)) ∈ tw := tw_t 314 (by decide +kernel) (by decide +kernel)
theorem tk_315 : (Jvm.Cond.instanceMethod ({ cls := "NearSeats$Land", name := "addChurch", desc := "(IIII)I" } : Jvm.MethodName)) ∈ tw := tw_t 315 (by decide +kernel) (by decide +kernel)
theorem tk_316 : (Jvm.Cond.selects "NearSeats$Land" ({ cls := "NearSeats$Land", name := "addChurch", desc := "(IIII)I" } : Jvm.MethodName) ({ cls := "NearSeats$Land", name := "addChurch", desc := "(IIII)I" } : Jvm.MethodName)) ∈ tw := tw_t 316 (by decide +kernel) (by decide +kernel)
theorem tk_317 : (Jvm.Cond.code ({ cls := "NearSeats$Land", name := "addChurch", desc := "(IIII)I" } : Jvm.MethodName) prog_3_method_6_code (6 : Nat) (Option.some Jvm.ClassFile.FieldType.int)) ∈ tw := tw_t 317 (by decide +kernel) (by decide +kernel)
theorem tk_318 : (Jvm.Cond.methodLink "NearSeatsLaw" (23 : Nat) ({ cls := "NearSeats", name := "land", desc := "(IIII)I" } : Jvm.MethodName)) ∈ tw := tw_t 318 (by decide +kernel) (by decide +kernel)
theorem tk_319 : (Jvm.Cond.instanceMethod ({ cls := "NearSeats", name := "land", desc := "(IIII)I" } : Jvm.MethodName)) ∈ tw := tw_t 319 (by decide +kernel) (by decide +kernel)
theorem tk_320 : (Jvm.Cond.selects "NearSeats" ({ cls := "NearSeats", name := "land", desc := "(IIII)I" } : Jvm.MethodName) ({ cls := "NearSeats", name := "land", desc := "(IIII)I" } : Jvm.MethodName)) ∈ tw := tw_t 320 (by decide +kernel) (by decide +kernel)
theorem tk_321 : (Jvm.Cond.code ({ cls := "NearSeats", name := "land", desc := "(IIII)I" } : Jvm.MethodName) prog_1_method_4_code (7 : Nat) (Option.some Jvm.ClassFile.FieldType.int)) ∈ tw := tw_t 321 (by decide +kernel) (by decide +kernel)
theorem tk_322 : (Jvm.Cond.methodLink "NearSeats" (95 : Nat) ({ cls := "NearSeats", name := "refusalOfRow", desc := "(IIII)I" } : Jvm.MethodName)) ∈ tw := tw_t 322 (by decide +kernel) (by decide +kernel)
theorem tk_324 : (Jvm.Cond.instanceMethod ({ cls := "NearSeats", name := "refusalOfRow", desc := "(IIII)I" } : Jvm.MethodName)) ∈ tw := tw_t 324 (by decide +kernel) (by decide +kernel)
theorem tk_325 : (Jvm.Cond.code ({ cls := "NearSeats", name := "refusalOfRow", desc := "(IIII)I" } : Jvm.MethodName) prog_1_method_41_code (6 : Nat) (Option.some Jvm.ClassFile.FieldType.int)) ∈ tw := tw_t 325 (by decide +kernel) (by decide +kernel)
theorem tk_326 : (Jvm.Cond.methodLink "NearSeats" (227 : Nat) ({ cls := "NearSeats", name := "isSheet", desc := "(I)Z" } : Jvm.MethodName)) ∈ tw := tw_t 326 (by decide +kernel) (by decide +kernel)
theorem tk_327 : (Jvm.Cond.static ({ cls := "NearSeats", name := "isSheet", desc := "(I)Z" } : Jvm.MethodName)) ∈ tw := tw_t 327 (by decide +kernel) (by decide +kernel)
theorem tk_328 : (Jvm.Cond.code ({ cls := "NearSeats", name := "isSheet", desc := "(I)Z" } : Jvm.MethodName) prog_1_method_37_code (1 : Nat) (Option.some Jvm.ClassFile.FieldType.boolean)) ∈ tw := tw_t 328 (by decide +kernel) (by decide +kernel)
theorem tk_329 : (Jvm.Cond.methodLink "NearSeats" (230 : Nat) ({ cls := "NearSeats", name := "isLane", desc := "(I)Z" } : Jvm.MethodName)) ∈ tw := tw_t 329 (by decide +kernel) (by decide +kernel)
theorem tk_330 : (Jvm.Cond.static ({ cls := "NearSeats", name := "isLane", desc := "(I)Z" } : Jvm.MethodName)) ∈ tw := tw_t 330 (by decide +kernel) (by decide +kernel)
theorem tk_331 : (Jvm.Cond.code ({ cls := "NearSeats", name := "isLane", desc := "(I)Z" } : Jvm.MethodName) prog_1_method_38_code (1 : Nat) (Option.some Jvm.ClassFile.FieldType.boolean)) ∈ tw := tw_t 331 (by decide +kernel) (by decide +kernel)
theorem tk_332 : (Jvm.Cond.methodLink "NearSeats" (233 : Nat) ({ cls := "NearSeats", name := "faulty", desc := "(I)I" } : Jvm.MethodName)) ∈ tw := tw_t 332 (by decide +kernel) (by decide +kernel)
theorem tk_334 : (Jvm.Cond.instanceMethod ({ cls := "NearSeats", name := "faulty", desc := "(I)I" } : Jvm.MethodName)) ∈ tw := tw_t 334 (by decide +kernel) (by decide +kernel)
theorem tk_335 : (Jvm.Cond.code ({ cls := "NearSeats", name := "faulty", desc := "(I)I" } : Jvm.MethodName) prog_1_method_40_code (2 : Nat) (Option.some Jvm.ClassFile.FieldType.int)) ∈ tw := tw_t 335 (by decide +kernel) (by decide +kernel)
theorem tk_336 : (Jvm.Cond.methodLink "NearSeats" (252 : Nat) ({ cls := "NearSeats$Sheet", name := "hasCells", desc := "(II)Z" } : Jvm.MethodName)) ∈ tw := tw_t 336 (by decide +kernel) (by decide +kernel)
theorem tk_337 : (Jvm.Cond.instanceMethod ({ cls := "NearSeats$Sheet", name := "hasCells", desc := "(II)Z" } : Jvm.MethodName)) ∈ tw := tw_t 337 (by decide +kernel) (by decide +kernel)
theorem tk_338 : (Jvm.Cond.selects "NearSeats$Sheet" ({ cls := "NearSeats$Sheet", name := "hasCells", desc := "(II)Z" } : Jvm.MethodName) ({ cls := "NearSeats$Sheet", name := "hasCells", desc := "(II)Z" } : Jvm.MethodName)) ∈ tw := tw_t 338 (by decide +kernel) (by decide +kernel)
theorem tk_339 : (Jvm.Cond.code ({ cls := "NearSeats$Sheet", name := "hasCells", desc := "(II)Z" } : Jvm.MethodName) prog_6_method_4_code (3 : Nat) (Option.some Jvm.ClassFile.FieldType.boolean)) ∈ tw := tw_t 339 (by decide +kernel) (by decide +kernel)
theorem tk_340 : (Jvm.Cond.methodLink "NearSeats" (101 : Nat) ({ cls := "NearSeats$LandText", name := "readItems", desc := "([III)I" } : Jvm.MethodName)) ∈ tw := tw_t 340 (by decide +kernel) (by decide +kernel)
theorem tk_341 : (Jvm.Cond.instanceMethod ({ cls := "NearSeats$LandText", name := "readItems", desc := "([III)I" } : Jvm.MethodName)) ∈ tw := tw_t 341 (by decide +kernel) (by decide +kernel)
theorem tk_342 : (Jvm.Cond.selects "NearSeats$LandText" ({ cls := "NearSeats$LandText", name := "readItems", desc := "([III)I" } : Jvm.MethodName) ({ cls := "NearSeats$LandText", name := "readItems", desc := "([III)I" } : Jvm.MethodName)) ∈ tw := tw_t 342 (by decide +kernel) (by decide +kernel)
theorem tk_343 : (Jvm.Cond.code ({ cls := "NearSeats$LandText", name := "readItems", desc := "([III)I" } : Jvm.MethodName) prog_4_method_2_code (5 : Nat) (Option.some Jvm.ClassFile.FieldType.int)) ∈ tw := tw_t 343 (by decide +kernel) (by decide +kernel)
theorem tk_344 : (Jvm.Cond.methodLink "NearSeats$LandText" (27 : Nat) ({ cls := "NearSeats$LandText", name := "begin", desc := "([III)V" } : Jvm.MethodName)) ∈ tw := tw_t 344 (by decide +kernel) (by decide +kernel)
theorem tk_346 : (Jvm.Cond.instanceMethod ({ cls := "NearSeats$LandText", name := "begin", desc := "([III)V" } : Jvm.MethodName)) ∈ tw := tw_t 346 (by decide +kernel) (by decide +kernel)
theorem tk_347 : (Jvm.Cond.code ({ cls := "NearSeats$LandText", name := "begin", desc := "([III)V" } : Jvm.MethodName) prog_4_method_3_code (4 : Nat) (Option.none : Option Jvm.ClassFile.FieldType)) ∈ tw := tw_t 347 (by decide +kernel) (by decide +kernel)
theorem tk_348 : (Jvm.Cond.methodLink "NearSeats$LandText" (52 : Nat) ({ cls := "java/lang/System", name := "arraycopy", desc := "(Ljava/lang/Object;ILjava/lang/Object;II)V" } : Jvm.MethodName)) ∈ tw := tw_t 348 (by decide +kernel) (by decide +kernel)
theorem tk_349 : (Jvm.Cond.static ({ cls := "java/lang/System", name := "arraycopy", desc := "(Ljava/lang/Object;ILjava/lang/Object;II)V" } : Jvm.MethodName)) ∈ tw := tw_t 349 (by decide +kernel) (by decide +kernel)
theorem tk_350 : (Jvm.Cond.native ({ cls := "java/lang/System", name := "arraycopy", desc := "(Ljava/lang/Object;ILjava/lang/Object;II)V" } : Jvm.MethodName)) ∈ tw := tw_t 350 (by decide +kernel) (by decide +kernel)
theorem tk_351 : (Jvm.Cond.methodLink "NearSeats$LandText" (35 : Nat) ({ cls := "NearSeats$LandText", name := "readItem", desc := "(I)V" } : Jvm.MethodName)) ∈ tw := tw_t 351 (by decide +kernel) (by decide +kernel)
theorem tk_353 : (Jvm.Cond.instanceMethod ({ cls := "NearSeats$LandText", name := "readItem", desc := "(I)V" } : Jvm.MethodName)) ∈ tw := tw_t 353 (by decide +kernel) (by decide +kernel)
theorem tk_354 : (Jvm.Cond.code ({ cls := "NearSeats$LandText", name := "readItem", desc := "(I)V" } : Jvm.MethodName) prog_4_method_5_code (2 : Nat) (Option.none : Option Jvm.ClassFile.FieldType)) ∈ tw := tw_t 354 (by decide +kernel) (by decide +kernel)
theorem tk_355 : (Jvm.Cond.methodLink "NearSeats$LandText" (77 : Nat) ({ cls := "NearSeats$LandText", name := "readKind", desc := "(I)V" } : Jvm.MethodName)) ∈ tw := tw_t 355 (by decide +kernel) (by decide +kernel)
theorem tk_357 : (Jvm.Cond.instanceMethod ({ cls := "NearSeats$LandText", name := "readKind", desc := "(I)V" } : Jvm.MethodName)) ∈ tw := tw_t 357 (by decide +kernel) (by decide +kernel)
theorem tk_358 : (Jvm.Cond.code ({ cls := "NearSeats$LandText", name := "readKind", desc := "(I)V" } : Jvm.MethodName) prog_4_method_6_code (3 : Nat) (Option.none : Option Jvm.ClassFile.FieldType)) ∈ tw := tw_t 358 (by decide +kernel) (by decide +kernel)
theorem tk_359 : (Jvm.Cond.methodLink "NearSeats$LandText" (84 : Nat) ({ cls := "NearSeats$LandText", name := "codeHere", desc := "()I" } : Jvm.MethodName)) ∈ tw := tw_t 359 (by decide +kernel) (by decide +kernel)
theorem tk_361 : (Jvm.Cond.instanceMethod ({ cls := "NearSeats$LandText", name := "codeHere", desc := "()I" } : Jvm.MethodName)) ∈ tw := tw_t 361 (by decide +kernel) (by decide +kernel)
theorem tk_362 : (Jvm.Cond.code ({ cls := "NearSeats$LandText", name := "codeHere", desc := "()I" } : Jvm.MethodName) prog_4_method_11_code (1 : Nat) (Option.some Jvm.ClassFile.FieldType.int)) ∈ tw := tw_t 362 (by decide +kernel) (by decide +kernel)
theorem tk_363 : (Jvm.Cond.methodLink "NearSeats$LandText" (88 : Nat) ({ cls := "NearSeats$LandText", name := "kindOf", desc := "(I)I" } : Jvm.MethodName)) ∈ tw := tw_t 363 (by decide +kernel) (by decide +kernel)
theorem tk_364 : (Jvm.Cond.static ({ cls := "NearSeats$LandText", name := "kindOf", desc := "(I)I" } : Jvm.MethodName)) ∈ tw := tw_t 364 (by decide +kernel) (by decide +kernel)
theorem tk_365 : (Jvm.Cond.code ({ cls := "NearSeats$LandText", name := "kindOf", desc := "(I)I" } : Jvm.MethodName) prog_4_method_7_code (1 : Nat) (Option.some Jvm.ClassFile.FieldType.int)) ∈ tw := tw_t 365 (by decide +kernel) (by decide +kernel)
theorem tk_366 : (Jvm.Cond.methodLink "NearSeats$LandText" (46 : Nat) ({ cls := "NearSeats$LandText", name := "failAt", desc := "(I)V" } : Jvm.MethodName)) ∈ tw := tw_t 366 (by decide +kernel) (by decide +kernel)
theorem tk_368 : (Jvm.Cond.instanceMethod ({ cls := "NearSeats$LandText", name := "failAt", desc := "(I)V" } : Jvm.MethodName)) ∈ tw := tw_t 368 (by decide +kernel) (by decide +kernel)
theorem tk_369 : (Jvm.Cond.code ({ cls := "NearSeats$LandText", name := "failAt", desc := "(I)V" } : Jvm.MethodName) prog_4_method_12_code (2 : Nat) (Option.none : Option Jvm.ClassFile.FieldType)) ∈ tw := tw_t 369 (by decide +kernel) (by decide +kernel)
theorem tk_370 : (Jvm.Cond.methodLink "NearSeats$LandText" (80 : Nat) ({ cls := "NearSeats$LandText", name := "readNumber", desc := "(II)I" } : Jvm.MethodName)) ∈ tw := tw_t 370 (by decide +kernel) (by decide +kernel)
theorem tk_372 : (Jvm.Cond.instanceMethod ({ cls := "NearSeats$LandText", name := "readNumber", desc := "(II)I" } : Jvm.MethodName)) ∈ tw := tw_t 372 (by decide +kernel) (by decide +kernel)
theorem tk_373 : (Jvm.Cond.code ({ cls := "NearSeats$LandText", name := "readNumber", desc := "(II)I" } : Jvm.MethodName) prog_4_method_8_code (5 : Nat) (Option.some Jvm.ClassFile.FieldType.int)) ∈ tw := tw_t 373 (by decide +kernel) (by decide +kernel)
theorem tk_374 : (Jvm.Cond.methodLink "NearSeats$LandText" (92 : Nat) ({ cls := "NearSeats$LandText", name := "isDigit", desc := "(I)Z" } : Jvm.MethodName)) ∈ tw := tw_t 374 (by decide +kernel) (by decide +kernel)
theorem tk_375 : (Jvm.Cond.static ({ cls := "NearSeats$LandText", name := "isDigit", desc := "(I)Z" } : Jvm.MethodName)) ∈ tw := tw_t 375 (by decide +kernel) (by decide +kernel)
theorem tk_376 : (Jvm.Cond.code ({ cls := "NearSeats$LandText", name := "isDigit", desc := "(I)Z" } : Jvm.MethodName) prog_4_method_10_code (1 : Nat) (Option.some Jvm.ClassFile.FieldType.boolean)) ∈ tw := tw_t 376 (by decide +kernel) (by decide +kernel)
theorem tk_378 : (Jvm.Cond.methodLink "NearSeats$LandText" (49 : Nat) ({ cls := "NearSeats$LandText", name := "takeCode", desc := "(I)V" } : Jvm.MethodName)) ∈ tw := tw_t 378 (by decide +kernel) (by decide +kernel)
theorem tk_380 : (Jvm.Cond.instanceMethod ({ cls := "NearSeats$LandText", name := "takeCode", desc := "(I)V" } : Jvm.MethodName)) ∈ tw := tw_t 380 (by decide +kernel) (by decide +kernel)
theorem tk_381 : (Jvm.Cond.code ({ cls := "NearSeats$LandText", name := "takeCode", desc := "(I)V" } : Jvm.MethodName) prog_4_method_9_code (2 : Nat) (Option.none : Option Jvm.ClassFile.FieldType)) ∈ tw := tw_t 381 (by decide +kernel) (by decide +kernel)
theorem tk_382 : (Jvm.Cond.methodLink "NearSeats" (108 : Nat) ({ cls := "NearSeats$LandText", name := "layOut", desc := "(LNearSeats$Land;I)V" } : Jvm.MethodName)) ∈ tw := tw_t 382 (by decide +kernel) (by decide +kernel)
theorem tk_383 : (Jvm.Cond.instanceMethod ({ cls := "NearSeats$LandText", name := "layOut", desc := "(LNearSeats$Land;I)V" } : Jvm.MethodName)) ∈ tw := tw_t 383 (by decide +kernel) (by decide +kernel)
theorem tk_384 : (Jvm.Cond.selects "NearSeats$LandText" ({ cls := "NearSeats$LandText", name := "layOut", desc := "(LNearSeats$Land;I)V" } : Jvm.MethodName) ({ cls := "NearSeats$LandText", name := "layOut", desc := "(LNearSeats$Land;I)V" } : Jvm.MethodName)) ∈ tw := tw_t 384 (by decide +kernel) (by decide +kernel)
theorem tk_385 : (Jvm.Cond.code ({ cls := "NearSeats$LandText", name := "layOut", desc := "(LNearSeats$Land;I)V" } : Jvm.MethodName) prog_4_method_4_code (4 : Nat) (Option.none : Option Jvm.ClassFile.FieldType)) ∈ tw := tw_t 385 (by decide +kernel) (by decide +kernel)
theorem tk_386 : (Jvm.Cond.methodLink "NearSeats$LandText" (64 : Nat) ({ cls := "NearSeats$Land", name := "empty", desc := "()V" } : Jvm.MethodName)) ∈ tw := tw_t 386 (by decide +kernel) (by decide +kernel)
theorem tk_387 : (Jvm.Cond.instanceMethod ({ cls := "NearSeats$Land", name := "empty", desc := "()V" } : Jvm.MethodName)) ∈ tw := tw_t 387 (by decide +kernel) (by decide +kernel)
theorem tk_388 : (Jvm.Cond.selects "NearSeats$Land" ({ cls := "NearSeats$Land", name := "empty", desc := "()V" } : Jvm.MethodName) ({ cls := "NearSeats$Land", name := "empty", desc := "()V" } : Jvm.MethodName)) ∈ tw := tw_t 388 (by decide +kernel) (by decide +kernel)
theorem tk_389 : (Jvm.Cond.code ({ cls := "NearSeats$Land", name := "empty", desc := "()V" } : Jvm.MethodName) prog_3_method_4_code (1 : Nat) (Option.none : Option Jvm.ClassFile.FieldType)) ∈ tw := tw_t 389 (by decide +kernel) (by decide +kernel)
theorem tk_390 : (Jvm.Cond.methodLink "NearSeats$LandText" (69 : Nat) ({ cls := "NearSeats$Land", name := "addHome", desc := "(III)I" } : Jvm.MethodName)) ∈ tw := tw_t 390 (by decide +kernel) (by decide +kernel)
theorem tk_391 : (Jvm.Cond.methodLink "NearSeats$LandText" (73 : Nat) ({ cls := "NearSeats$Land", name := "addChurch", desc := "(IIII)I" } : Jvm.MethodName)) ∈ tw := tw_t 391 (by decide +kernel) (by decide +kernel)
theorem tk_392 : (Jvm.Cond.methodLink "NearSeatsLaw" (27 : Nat) ({ cls := "NearSeats", name := "ofHome", desc := "(II)I" } : Jvm.MethodName)) ∈ tw := tw_t 392 (by decide +kernel) (by decide +kernel)
theorem tk_393 : (Jvm.Cond.instanceMethod ({ cls := "NearSeats", name := "ofHome", desc := "(II)I" } : Jvm.MethodName)) ∈ tw := tw_t 393 (by decide +kernel) (by decide +kernel)
theorem tk_394 : (Jvm.Cond.selects "NearSeats" ({ cls := "NearSeats", name := "ofHome", desc := "(II)I" } : Jvm.MethodName) ({ cls := "NearSeats", name := "ofHome", desc := "(II)I" } : Jvm.MethodName)) ∈ tw := tw_t 394 (by decide +kernel) (by decide +kernel)
theorem tk_395 : (Jvm.Cond.code ({ cls := "NearSeats", name := "ofHome", desc := "(II)I" } : Jvm.MethodName) prog_1_method_5_code (3 : Nat) (Option.some Jvm.ClassFile.FieldType.int)) ∈ tw := tw_t 395 (by decide +kernel) (by decide +kernel)
theorem tk_396 : (Jvm.Cond.methodLink "NearSeats" (112 : Nat) ({ cls := "NearSeats$Land", name := "hasHome", desc := "(I)Z" } : Jvm.MethodName)) ∈ tw := tw_t 396 (by decide +kernel) (by decide +kernel)
theorem tk_397 : (Jvm.Cond.instanceMethod ({ cls := "NearSeats$Land", name := "hasHome", desc := "(I)Z" } : Jvm.MethodName)) ∈ tw := tw_t 397 (by decide +kernel) (by decide +kernel)
theorem tk_398 : (Jvm.Cond.selects "NearSeats$Land" ({ cls := "NearSeats$Land", name := "hasHome", desc := "(I)Z" } : Jvm.MethodName) ({ cls := "NearSeats$Land", name := "hasHome", desc := "(I)Z" } : Jvm.MethodName)) ∈ tw := tw_t 398 (by decide +kernel) (by decide +kernel)
theorem tk_399 : (Jvm.Cond.code ({ cls := "NearSeats$Land", name := "hasHome", desc := "(I)Z" } : Jvm.MethodName) prog_3_method_2_code (2 : Nat) (Option.some Jvm.ClassFile.FieldType.boolean)) ∈ tw := tw_t 399 (by decide +kernel) (by decide +kernel)
theorem tk_400 : (Jvm.Cond.methodLink "NearSeatsLaw" (32 : Nat) ({ cls := "NearSeats", name := "ofChurch", desc := "(II)I" } : Jvm.MethodName)) ∈ tw := tw_t 400 (by decide +kernel) (by decide +kernel)
theorem tk_401 : (Jvm.Cond.instanceMethod ({ cls := "NearSeats", name := "ofChurch", desc := "(II)I" } : Jvm.MethodName)) ∈ tw := tw_t 401 (by decide +kernel) (by decide +kernel)
theorem tk_402 : (Jvm.Cond.selects "NearSeats" ({ cls := "NearSeats", name := "ofChurch", desc := "(II)I" } : Jvm.MethodName) ({ cls := "NearSeats", name := "ofChurch", desc := "(II)I" } : Jvm.MethodName)) ∈ tw := tw_t 402 (by decide +kernel) (by decide +kernel)
theorem tk_403 : (Jvm.Cond.code ({ cls := "NearSeats", name := "ofChurch", desc := "(II)I" } : Jvm.MethodName) prog_1_method_6_code (3 : Nat) (Option.some Jvm.ClassFile.FieldType.int)) ∈ tw := tw_t 403 (by decide +kernel) (by decide +kernel)
theorem tk_404 : (Jvm.Cond.methodLink "NearSeats" (125 : Nat) ({ cls := "NearSeats$Land", name := "hasChurch", desc := "(I)Z" } : Jvm.MethodName)) ∈ tw := tw_t 404 (by decide +kernel) (by decide +kernel)
theorem tk_405 : (Jvm.Cond.instanceMethod ({ cls := "NearSeats$Land", name := "hasChurch", desc := "(I)Z" } : Jvm.MethodName)) ∈ tw := tw_t 405 (by decide +kernel) (by decide +kernel)
theorem tk_406 : (Jvm.Cond.selects "NearSeats$Land" ({ cls := "NearSeats$Land", name := "hasChurch", desc := "(I)Z" } : Jvm.MethodName) ({ cls := "NearSeats$Land", name := "hasChurch", desc := "(I)Z" } : Jvm.MethodName)) ∈ tw := tw_t 406 (by decide +kernel) (by decide +kernel)
theorem tk_407 : (Jvm.Cond.code ({ cls := "NearSeats$Land", name := "hasChurch", desc := "(I)Z" } : Jvm.MethodName) prog_3_method_3_code (2 : Nat) (Option.some Jvm.ClassFile.FieldType.boolean)) ∈ tw := tw_t 407 (by decide +kernel) (by decide +kernel)
theorem tk_408 : (Jvm.Cond.methodLink "NearSeatsLaw" (36 : Nat) ({ cls := "NearSeats", name := "bar", desc := "(IIZ)I" } : Jvm.MethodName)) ∈ tw := tw_t 408 (by decide +kernel) (by decide +kernel)
theorem tk_409 : (Jvm.Cond.instanceMethod ({ cls := "NearSeats", name := "bar", desc := "(IIZ)I" } : Jvm.MethodName)) ∈ tw := tw_t 409 (by decide +kernel) (by decide +kernel)
theorem tk_410 : (Jvm.Cond.selects "NearSeats" ({ cls := "NearSeats", name := "bar", desc := "(IIZ)I" } : Jvm.MethodName) ({ cls := "NearSeats", name := "bar", desc := "(IIZ)I" } : Jvm.MethodName)) ∈ tw := tw_t 410 (by decide +kernel) (by decide +kernel)
theorem tk_411 : (Jvm.Cond.code ({ cls := "NearSeats", name := "bar", desc := "(IIZ)I" } : Jvm.MethodName) prog_1_method_7_code (4 : Nat) (Option.some Jvm.ClassFile.FieldType.int)) ∈ tw := tw_t 411 (by decide +kernel) (by decide +kernel)
theorem tk_412 : (Jvm.Cond.methodLink "NearSeats" (140 : Nat) ({ cls := "NearSeats$Land", name := "isBarred", desc := "(II)Z" } : Jvm.MethodName)) ∈ tw := tw_t 412 (by decide +kernel) (by decide +kernel)
theorem tk_413 : (Jvm.Cond.instanceMethod ({ cls := "NearSeats$Land", name := "isBarred", desc := "(II)Z" } : Jvm.MethodName)) ∈ tw := tw_t 413 (by decide +kernel) (by decide +kernel)
theorem tk_414 : (Jvm.Cond.selects "NearSeats$Land" ({ cls := "NearSeats$Land", name := "isBarred", desc := "(II)Z" } : Jvm.MethodName) ({ cls := "NearSeats$Land", name := "isBarred", desc := "(II)Z" } : Jvm.MethodName)) ∈ tw := tw_t 414 (by decide +kernel) (by decide +kernel)
theorem tk_415 : (Jvm.Cond.code ({ cls := "NearSeats$Land", name := "isBarred", desc := "(II)Z" } : Jvm.MethodName) prog_3_method_7_code (3 : Nat) (Option.some Jvm.ClassFile.FieldType.boolean)) ∈ tw := tw_t 415 (by decide +kernel) (by decide +kernel)
theorem tk_416 : (Jvm.Cond.methodLink "NearSeats" (143 : Nat) ({ cls := "NearSeats$Land", name := "turnBar", desc := "(II)V" } : Jvm.MethodName)) ∈ tw := tw_t 416 (by decide +kernel) (by decide +kernel)
theorem tk_417 : (Jvm.Cond.instanceMethod ({ cls := "NearSeats$Land", name := "turnBar", desc := "(II)V" } : Jvm.MethodName)) ∈ tw := tw_t 417 (by decide +kernel) (by decide +kernel)
theorem tk_418 : (Jvm.Cond.selects "NearSeats$Land" ({ cls := "NearSeats$Land", name := "turnBar", desc := "(II)V" } : Jvm.MethodName) ({ cls := "NearSeats$Land", name := "turnBar", desc := "(II)V" } : Jvm.MethodName)) ∈ tw := tw_t 418 (by decide +kernel) (by decide +kernel)
theorem tk_419 : (Jvm.Cond.code ({ cls := "NearSeats$Land", name := "turnBar", desc := "(II)V" } : Jvm.MethodName) prog_3_method_8_code (3 : Nat) (Option.none : Option Jvm.ClassFile.FieldType)) ∈ tw := tw_t 419 (by decide +kernel) (by decide +kernel)
theorem tk_420 : (Jvm.Cond.methodLink "NearSeatsLaw" (41 : Nat) ({ cls := "NearSeats", name := "seats", desc := "(II)I" } : Jvm.MethodName)) ∈ tw := tw_t 420 (by decide +kernel) (by decide +kernel)
theorem tk_421 : (Jvm.Cond.instanceMethod ({ cls := "NearSeats", name := "seats", desc := "(II)I" } : Jvm.MethodName)) ∈ tw := tw_t 421 (by decide +kernel) (by decide +kernel)
theorem tk_422 : (Jvm.Cond.selects "NearSeats" ({ cls := "NearSeats", name := "seats", desc := "(II)I" } : Jvm.MethodName) ({ cls := "NearSeats", name := "seats", desc := "(II)I" } : Jvm.MethodName)) ∈ tw := tw_t 422 (by decide +kernel) (by decide +kernel)
theorem tk_423 : (Jvm.Cond.code ({ cls := "NearSeats", name := "seats", desc := "(II)I" } : Jvm.MethodName) prog_1_method_8_code (3 : Nat) (Option.some Jvm.ClassFile.FieldType.int)) ∈ tw := tw_t 423 (by decide +kernel) (by decide +kernel)
theorem tk_424 : (Jvm.Cond.methodLink "NearSeats" (147 : Nat) ({ cls := "NearSeats$Land", name := "changeSeats", desc := "(II)I" } : Jvm.MethodName)) ∈ tw := tw_t 424 (by decide +kernel) (by decide +kernel)
theorem tk_425 : (Jvm.Cond.instanceMethod ({ cls := "NearSeats$Land", name := "changeSeats", desc := "(II)I" } : Jvm.MethodName)) ∈ tw := tw_t 425 (by decide +kernel) (by decide +kernel)
theorem tk_426 : (Jvm.Cond.selects "NearSeats$Land" ({ cls := "NearSeats$Land", name := "changeSeats", desc := "(II)I" } : Jvm.MethodName) ({ cls := "NearSeats$Land", name := "changeSeats", desc := "(II)I" } : Jvm.MethodName)) ∈ tw := tw_t 426 (by decide +kernel) (by decide +kernel)
theorem tk_427 : (Jvm.Cond.code ({ cls := "NearSeats$Land", name := "changeSeats", desc := "(II)I" } : Jvm.MethodName) prog_3_method_9_code (4 : Nat) (Option.some Jvm.ClassFile.FieldType.int)) ∈ tw := tw_t 427 (by decide +kernel) (by decide +kernel)
theorem tk_428 : (Jvm.Cond.methodLink "NearSeatsLaw" (45 : Nat) ({ cls := "NearSeats", name := "toll", desc := "(I)I" } : Jvm.MethodName)) ∈ tw := tw_t 428 (by decide +kernel) (by decide +kernel)
theorem tk_429 : (Jvm.Cond.instanceMethod ({ cls := "NearSeats", name := "toll", desc := "(I)I" } : Jvm.MethodName)) ∈ tw := tw_t 429 (by decide +kernel) (by decide +kernel)
theorem tk_430 : (Jvm.Cond.selects "NearSeats" ({ cls := "NearSeats", name := "toll", desc := "(I)I" } : Jvm.MethodName) ({ cls := "NearSeats", name := "toll", desc := "(I)I" } : Jvm.MethodName)) ∈ tw := tw_t 430 (by decide +kernel) (by decide +kernel)
theorem tk_431 : (Jvm.Cond.code ({ cls := "NearSeats", name := "toll", desc := "(I)I" } : Jvm.MethodName) prog_1_method_9_code (2 : Nat) (Option.some Jvm.ClassFile.FieldType.int)) ∈ tw := tw_t 431 (by decide +kernel) (by decide +kernel)
theorem tk_432 : (Jvm.Cond.methodLink "NearSeats" (151 : Nat) ({ cls := "NearSeats$Land", name := "changeToll", desc := "(I)I" } : Jvm.MethodName)) ∈ tw := tw_t 432 (by decide +kernel) (by decide +kernel)
theorem tk_433 : (Jvm.Cond.instanceMethod ({ cls := "NearSeats$Land", name := "changeToll", desc := "(I)I" } : Jvm.MethodName)) ∈ tw := tw_t 433 (by decide +kernel) (by decide +kernel)
theorem tk_434 : (Jvm.Cond.selects "NearSeats$Land" ({ cls := "NearSeats$Land", name := "changeToll", desc := "(I)I" } : Jvm.MethodName) ({ cls := "NearSeats$Land", name := "changeToll", desc := "(I)I" } : Jvm.MethodName)) ∈ tw := tw_t 434 (by decide +kernel) (by decide +kernel)
theorem tk_435 : (Jvm.Cond.code ({ cls := "NearSeats$Land", name := "changeToll", desc := "(I)I" } : Jvm.MethodName) prog_3_method_10_code (3 : Nat) (Option.some Jvm.ClassFile.FieldType.int)) ∈ tw := tw_t 435 (by decide +kernel) (by decide +kernel)
theorem tk_436 : (Jvm.Cond.methodLink "NearSeatsLaw" (50 : Nat) ({ cls := "NearSeats", name := "far", desc := "(III)I" } : Jvm.MethodName)) ∈ tw := tw_t 436 (by decide +kernel) (by decide +kernel)
theorem tk_437 : (Jvm.Cond.instanceMethod ({ cls := "NearSeats", name := "far", desc := "(III)I" } : Jvm.MethodName)) ∈ tw := tw_t 437 (by decide +kernel) (by decide +kernel)
theorem tk_438 : (Jvm.Cond.selects "NearSeats" ({ cls := "NearSeats", name := "far", desc := "(III)I" } : Jvm.MethodName) ({ cls := "NearSeats", name := "far", desc := "(III)I" } : Jvm.MethodName)) ∈ tw := tw_t 438 (by decide +kernel) (by decide +kernel)
theorem tk_439 : (Jvm.Cond.code ({ cls := "NearSeats", name := "far", desc := "(III)I" } : Jvm.MethodName) prog_1_method_10_code (4 : Nat) (Option.some Jvm.ClassFile.FieldType.int)) ∈ tw := tw_t 439 (by decide +kernel) (by decide +kernel)
theorem tk_440 : (Jvm.Cond.methodLink "NearSeats" (155 : Nat) ({ cls := "NearSeats$Land", name := "farTo", desc := "(III)I" } : Jvm.MethodName)) ∈ tw := tw_t 440 (by decide +kernel) (by decide +kernel)
theorem tk_441 : (Jvm.Cond.instanceMethod ({ cls := "NearSeats$Land", name := "farTo", desc := "(III)I" } : Jvm.MethodName)) ∈ tw := tw_t 441 (by decide +kernel) (by decide +kernel)
theorem tk_442 : (Jvm.Cond.selects "NearSeats$Land" ({ cls := "NearSeats$Land", name := "farTo", desc := "(III)I" } : Jvm.MethodName) ({ cls := "NearSeats$Land", name := "farTo", desc := "(III)I" } : Jvm.MethodName)) ∈ tw := tw_t 442 (by decide +kernel) (by decide +kernel)
theorem tk_443 : (Jvm.Cond.code ({ cls := "NearSeats$Land", name := "farTo", desc := "(III)I" } : Jvm.MethodName) prog_3_method_13_code (4 : Nat) (Option.some Jvm.ClassFile.FieldType.int)) ∈ tw := tw_t 443 (by decide +kernel) (by decide +kernel)
theorem tk_444 : (Jvm.Cond.methodLink "NearSeats$Land" (49 : Nat) ({ cls := "NearSeats$Land", name := "farBetween", desc := "(IIIII)I" } : Jvm.MethodName)) ∈ tw := tw_t 444 (by decide +kernel) (by decide +kernel)
theorem tk_445 : (Jvm.Cond.instanceMethod ({ cls := "NearSeats$Land", name := "farBetween", desc := "(IIIII)I" } : Jvm.MethodName)) ∈ tw := tw_t 445 (by decide +kernel) (by decide +kernel)
theorem tk_446 : (Jvm.Cond.selects "NearSeats$Land" ({ cls := "NearSeats$Land", name := "farBetween", desc := "(IIIII)I" } : Jvm.MethodName) ({ cls := "NearSeats$Land", name := "farBetween", desc := "(IIIII)I" } : Jvm.MethodName)) ∈ tw := tw_t 446 (by decide +kernel) (by decide +kernel)
theorem tk_447 : (Jvm.Cond.code ({ cls := "NearSeats$Land", name := "farBetween", desc := "(IIIII)I" } : Jvm.MethodName) prog_3_method_14_code (9 : Nat) (Option.some Jvm.ClassFile.FieldType.int)) ∈ tw := tw_t 447 (by decide +kernel) (by decide +kernel)
theorem tk_448 : (Jvm.Cond.methodLink "NearSeats$Land" (53 : Nat) ({ cls := "java/lang/Math", name := "abs", desc := "(I)I" } : Jvm.MethodName)) ∈ tw := tw_t 448 (by decide +kernel) (by decide +kernel)
theorem tk_449 : (Jvm.Cond.static ({ cls := "java/lang/Math", name := "abs", desc := "(I)I" } : Jvm.MethodName)) ∈ tw := tw_t 449 (by decide +kernel) (by decide +kernel)
theorem tk_450 : (Jvm.Cond.code ({ cls := "java/lang/Math", name := "abs", desc := "(I)I" } : Jvm.MethodName) prog_11_method_59_code (1 : Nat) (Option.some Jvm.ClassFile.FieldType.int)) ∈ tw := tw_t 450 (by decide +kernel) (by decide +kernel)
theorem tk_451 : (Jvm.Cond.methodLink "NearSeatsLaw" (54 : Nat) ({ cls := "NearSeats", name := "miles", desc := "()I" } : Jvm.MethodName)) ∈ tw := tw_t 451 (by decide +kernel) (by decide +kernel)
theorem tk_452 : (Jvm.Cond.instanceMethod ({ cls := "NearSeats", name := "miles", desc := "()I" } : Jvm.MethodName)) ∈ tw := tw_t 452 (by decide +kernel) (by decide +kernel)
theorem tk_453 : (Jvm.Cond.selects "NearSeats" ({ cls := "NearSeats", name := "miles", desc := "()I" } : Jvm.MethodName) ({ cls := "NearSeats", name := "miles", desc := "()I" } : Jvm.MethodName)) ∈ tw := tw_t 453 (by decide +kernel) (by decide +kernel)
theorem tk_454 : (Jvm.Cond.code ({ cls := "NearSeats", name := "miles", desc := "()I" } : Jvm.MethodName) prog_1_method_11_code (1 : Nat) (Option.some Jvm.ClassFile.FieldType.int)) ∈ tw := tw_t 454 (by decide +kernel) (by decide +kernel)
theorem tk_455 : (Jvm.Cond.methodLink "NearSeats" (158 : Nat) ({ cls := "NearSeats", name := "leastMiles", desc := "()I" } : Jvm.MethodName)) ∈ tw := tw_t 455 (by decide +kernel) (by decide +kernel)
theorem tk_457 : (Jvm.Cond.instanceMethod ({ cls := "NearSeats", name := "leastMiles", desc := "()I" } : Jvm.MethodName)) ∈ tw := tw_t 457 (by decide +kernel) (by decide +kernel)
theorem tk_458 : (Jvm.Cond.code ({ cls := "NearSeats", name := "leastMiles", desc := "()I" } : Jvm.MethodName) prog_1_method_42_code (1 : Nat) (Option.some Jvm.ClassFile.FieldType.int)) ∈ tw := tw_t 458 (by decide +kernel) (by decide +kernel)
theorem tk_459 : (Jvm.Cond.methodLink "NearSeats" (277 : Nat) ({ cls := "NearSeats$Sender", name := "load", desc := "(LNearSeats$Land;)V" } : Jvm.MethodName)) ∈ tw := tw_t 459 (by decide +kernel) (by decide +kernel)
theorem tk_460 : (Jvm.Cond.instanceMethod ({ cls := "NearSeats$Sender", name := "load", desc := "(LNearSeats$Land;)V" } : Jvm.MethodName)) ∈ tw := tw_t 460 (by decide +kernel) (by decide +kernel)
theorem tk_461 : (Jvm.Cond.selects "NearSeats$Sender" ({ cls := "NearSeats$Sender", name := "load", desc := "(LNearSeats$Land;)V" } : Jvm.MethodName) ({ cls := "NearSeats$Sender", name := "load", desc := "(LNearSeats$Land;)V" } : Jvm.MethodName)) ∈ tw := tw_t 461 (by decide +kernel) (by decide +kernel)
theorem tk_462 : (Jvm.Cond.code ({ cls := "NearSeats$Sender", name := "load", desc := "(LNearSeats$Land;)V" } : Jvm.MethodName) prog_5_method_2_code (3 : Nat) (Option.none : Option Jvm.ClassFile.FieldType)) ∈ tw := tw_t 462 (by decide +kernel) (by decide +kernel)
theorem tk_463 : (Jvm.Cond.methodLink "NearSeats$Sender" (63 : Nat) ({ cls := "NearSeats$Sender", name := "putChurch", desc := "(LNearSeats$Land;III)V" } : Jvm.MethodName)) ∈ tw := tw_t 463 (by decide +kernel) (by decide +kernel)
theorem tk_464 : (Jvm.Cond.instanceMethod ({ cls := "NearSeats$Sender", name := "putChurch", desc := "(LNearSeats$Land;III)V" } : Jvm.MethodName)) ∈ tw := tw_t 464 (by decide +kernel) (by decide +kernel)
theorem tk_465 : (Jvm.Cond.selects "NearSeats$Sender" ({ cls := "NearSeats$Sender", name := "putChurch", desc := "(LNearSeats$Land;III)V" } : Jvm.MethodName) ({ cls := "NearSeats$Sender", name := "putChurch", desc := "(LNearSeats$Land;III)V" } : Jvm.MethodName)) ∈ tw := tw_t 465 (by decide +kernel) (by decide +kernel)
theorem tk_466 : (Jvm.Cond.code ({ cls := "NearSeats$Sender", name := "putChurch", desc := "(LNearSeats$Land;III)V" } : Jvm.MethodName) prog_5_method_3_code (7 : Nat) (Option.none : Option Jvm.ClassFile.FieldType)) ∈ tw := tw_t 466 (by decide +kernel) (by decide +kernel)
theorem tk_467 : (Jvm.Cond.methodLink "NearSeats$Sender" (76 : Nat) ({ cls := "NearSeats$Land", name := "farBetween", desc := "(IIIII)I" } : Jvm.MethodName)) ∈ tw := tw_t 467 (by decide +kernel) (by decide +kernel)
theorem tk_468 : (Jvm.Cond.methodLink "NearSeats$Sender" (80 : Nat) ({ cls := "NearSeats$Land", name := "isBarred", desc := "(II)Z" } : Jvm.MethodName)) ∈ tw := tw_t 468 (by decide +kernel) (by decide +kernel)
theorem tk_469 : (Jvm.Cond.constant "NearSeats$Sender" (84 : Nat) (500000000 : Int32)) ∈ tw := tw_t 469 (by decide +kernel) (by decide +kernel)
theorem tk_470 : (Jvm.Cond.methodLink "NearSeats" (281 : Nat) ({ cls := "NearSeats$Sender", name := "send", desc := "()I" } : Jvm.MethodName)) ∈ tw := tw_t 470 (by decide +kernel) (by decide +kernel)
theorem tk_471 : (Jvm.Cond.instanceMethod ({ cls := "NearSeats$Sender", name := "send", desc := "()I" } : Jvm.MethodName)) ∈ tw := tw_t 471 (by decide +kernel) (by decide +kernel)
theorem tk_472 : (Jvm.Cond.selects "NearSeats$Sender" ({ cls := "NearSeats$Sender", name := "send", desc := "()I" } : Jvm.MethodName) ({ cls := "NearSeats$Sender", name := "send", desc := "()I" } : Jvm.MethodName)) ∈ tw := tw_t 472 (by decide +kernel) (by decide +kernel)
theorem tk_473 : (Jvm.Cond.code ({ cls := "NearSeats$Sender", name := "send", desc := "()I" } : Jvm.MethodName) prog_5_method_6_code (2 : Nat) (Option.some Jvm.ClassFile.FieldType.int)) ∈ tw := tw_t 473 (by decide +kernel) (by decide +kernel)
theorem tk_474 : (Jvm.Cond.methodLink "NearSeats$Sender" (85 : Nat) ({ cls := "NearSeats$Sender", name := "seatHome", desc := "(I)Z" } : Jvm.MethodName)) ∈ tw := tw_t 474 (by decide +kernel) (by decide +kernel)
theorem tk_476 : (Jvm.Cond.instanceMethod ({ cls := "NearSeats$Sender", name := "seatHome", desc := "(I)Z" } : Jvm.MethodName)) ∈ tw := tw_t 476 (by decide +kernel) (by decide +kernel)
theorem tk_477 : (Jvm.Cond.code ({ cls := "NearSeats$Sender", name := "seatHome", desc := "(I)Z" } : Jvm.MethodName) prog_5_method_8_code (5 : Nat) (Option.some Jvm.ClassFile.FieldType.boolean)) ∈ tw := tw_t 477 (by decide +kernel) (by decide +kernel)
theorem tk_478 : (Jvm.Cond.methodLink "NearSeats$Sender" (93 : Nat) ({ cls := "NearSeats$Sender", name := "findSteps", desc := "()V" } : Jvm.MethodName)) ∈ tw := tw_t 478 (by decide +kernel) (by decide +kernel)
theorem tk_480 : (Jvm.Cond.instanceMethod ({ cls := "NearSeats$Sender", name := "findSteps", desc := "()V" } : Jvm.MethodName)) ∈ tw := tw_t 480 (by decide +kernel) (by decide +kernel)
theorem tk_481 : (Jvm.Cond.code ({ cls := "NearSeats$Sender", name := "findSteps", desc := "()V" } : Jvm.MethodName) prog_5_method_9_code (3 : Nat) (Option.none : Option Jvm.ClassFile.FieldType)) ∈ tw := tw_t 481 (by decide +kernel) (by decide +kernel)
theorem tk_482 : (Jvm.Cond.methodLink "NearSeats$Sender" (110 : Nat) ({ cls := "NearSeats$Sender", name := "findStepsOf", desc := "(II)V" } : Jvm.MethodName)) ∈ tw := tw_t 482 (by decide +kernel) (by decide +kernel)
theorem tk_484 : (Jvm.Cond.instanceMethod ({ cls := "NearSeats$Sender", name := "findStepsOf", desc := "(II)V" } : Jvm.MethodName)) ∈ tw := tw_t 484 (by decide +kernel) (by decide +kernel)
theorem tk_485 : (Jvm.Cond.code ({ cls := "NearSeats$Sender", name := "findStepsOf", desc := "(II)V" } : Jvm.MethodName) prog_5_method_10_code (6 : Nat) (Option.none : Option Jvm.ClassFile.FieldType)) ∈ tw := tw_t 485 (by decide +kernel) (by decide +kernel)
theorem tk_486 : (Jvm.Cond.methodLink "NearSeats$Sender" (96 : Nat) ({ cls := "NearSeats$Sender", name := "startAt", desc := "(I)V" } : Jvm.MethodName)) ∈ tw := tw_t 486 (by decide +kernel) (by decide +kernel)
theorem tk_488 : (Jvm.Cond.instanceMethod ({ cls := "NearSeats$Sender", name := "startAt", desc := "(I)V" } : Jvm.MethodName)) ∈ tw := tw_t 488 (by decide +kernel) (by decide +kernel)
theorem tk_489 : (Jvm.Cond.code ({ cls := "NearSeats$Sender", name := "startAt", desc := "(I)V" } : Jvm.MethodName) prog_5_method_11_code (3 : Nat) (Option.none : Option Jvm.ClassFile.FieldType)) ∈ tw := tw_t 489 (by decide +kernel) (by decide +kernel)
theorem tk_490 : (Jvm.Cond.methodLink "NearSeats$Sender" (100 : Nat) ({ cls := "NearSeats$Sender", name := "spread", desc := "()V" } : Jvm.MethodName)) ∈ tw := tw_t 490 (by decide +kernel) (by decide +kernel)
theorem tk_492 : (Jvm.Cond.instanceMethod ({ cls := "NearSeats$Sender", name := "spread", desc := "()V" } : Jvm.MethodName)) ∈ tw := tw_t 492 (by decide +kernel) (by decide +kernel)
theorem tk_493 : (Jvm.Cond.code ({ cls := "NearSeats$Sender", name := "spread", desc := "()V" } : Jvm.MethodName) prog_5_method_12_code (4 : Nat) (Option.none : Option Jvm.ClassFile.FieldType)) ∈ tw := tw_t 493 (by decide +kernel) (by decide +kernel)
theorem tk_494 : (Jvm.Cond.methodLink "NearSeats$Sender" (114 : Nat) ({ cls := "NearSeats$Sender", name := "spreadFrom", desc := "(I)Z" } : Jvm.MethodName)) ∈ tw := tw_t 494 (by decide +kernel) (by decide +kernel)
theorem tk_496 : (Jvm.Cond.instanceMethod ({ cls := "NearSeats$Sender", name := "spreadFrom", desc := "(I)Z" } : Jvm.MethodName)) ∈ tw := tw_t 496 (by decide +kernel) (by decide +kernel)
theorem tk_497 : (Jvm.Cond.code ({ cls := "NearSeats$Sender", name := "spreadFrom", desc := "(I)Z" } : Jvm.MethodName) prog_5_method_13_code (5 : Nat) (Option.some Jvm.ClassFile.FieldType.boolean)) ∈ tw := tw_t 497 (by decide +kernel) (by decide +kernel)
theorem tk_498 : (Jvm.Cond.methodLink "NearSeats$Sender" (103 : Nat) ({ cls := "NearSeats$Sender", name := "cheapestWithRoom", desc := "()I" } : Jvm.MethodName)) ∈ tw := tw_t 498 (by decide +kernel) (by decide +kernel)
theorem tk_500 : (Jvm.Cond.instanceMethod ({ cls := "NearSeats$Sender", name := "cheapestWithRoom", desc := "()I" } : Jvm.MethodName)) ∈ tw := tw_t 500 (by decide +kernel) (by decide +kernel)
theorem tk_501 : (Jvm.Cond.code ({ cls := "NearSeats$Sender", name := "cheapestWithRoom", desc := "()I" } : Jvm.MethodName) prog_5_method_14_code (4 : Nat) (Option.some Jvm.ClassFile.FieldType.int)) ∈ tw := tw_t 501 (by decide +kernel) (by decide +kernel)
theorem tk_502 : (Jvm.Cond.methodLink "NearSeats$Sender" (106 : Nat) ({ cls := "NearSeats$Sender", name := "seatAlong", desc := "(III)I" } : Jvm.MethodName)) ∈ tw := tw_t 502 (by decide +kernel) (by decide +kernel)
theorem tk_504 : (Jvm.Cond.instanceMethod ({ cls := "NearSeats$Sender", name := "seatAlong", desc := "(III)I" } : Jvm.MethodName)) ∈ tw := tw_t 504 (by decide +kernel) (by decide +kernel)
theorem tk_505 : (Jvm.Cond.code ({ cls := "NearSeats$Sender", name := "seatAlong", desc := "(III)I" } : Jvm.MethodName) prog_5_method_15_code (8 : Nat) (Option.some Jvm.ClassFile.FieldType.int)) ∈ tw := tw_t 505 (by decide +kernel) (by decide +kernel)
theorem tk_506 : (Jvm.Cond.methodLink "NearSeats$Sender" (117 : Nat) ({ cls := "java/lang/Math", name := "min", desc := "(II)I" } : Jvm.MethodName)) ∈ tw := tw_t 506 (by decide +kernel) (by decide +kernel)
theorem tk_507 : (Jvm.Cond.static ({ cls := "java/lang/Math", name := "min", desc := "(II)I" } : Jvm.MethodName)) ∈ tw := tw_t 507 (by decide +kernel) (by decide +kernel)
theorem tk_508 : (Jvm.Cond.code ({ cls := "java/lang/Math", name := "min", desc := "(II)I" } : Jvm.MethodName) prog_11_method_69_code (2 : Nat) (Option.some Jvm.ClassFile.FieldType.int)) ∈ tw := tw_t 508 (by decide +kernel) (by decide +kernel)
theorem tk_509 : (Jvm.Cond.methodLink "NearSeats$Sender" (123 : Nat) ({ cls := "NearSeats$Sender", name := "moverTo", desc := "(I)I" } : Jvm.MethodName)) ∈ tw := tw_t 509 (by decide +kernel) (by decide +kernel)
theorem tk_511 : (Jvm.Cond.instanceMethod ({ cls := "NearSeats$Sender", name := "moverTo", desc := "(I)I" } : Jvm.MethodName)) ∈ tw := tw_t 511 (by decide +kernel) (by decide +kernel)
theorem tk_512 : (Jvm.Cond.code ({ cls := "NearSeats$Sender", name := "moverTo", desc := "(I)I" } : Jvm.MethodName) prog_5_method_16_code (2 : Nat) (Option.some Jvm.ClassFile.FieldType.int)) ∈ tw := tw_t 512 (by decide +kernel) (by decide +kernel)
theorem tk_513 : (Jvm.Cond.methodLink "NearSeats$Sender" (89 : Nat) ({ cls := "NearSeats$Sender", name := "sumOfMiles", desc := "()I" } : Jvm.MethodName)) ∈ tw := tw_t 513 (by decide +kernel) (by decide +kernel)
theorem tk_515 : (Jvm.Cond.instanceMethod ({ cls := "NearSeats$Sender", name := "sumOfMiles", desc := "()I" } : Jvm.MethodName)) ∈ tw := tw_t 515 (by decide +kernel) (by decide +kernel)
theorem tk_516 : (Jvm.Cond.code ({ cls := "NearSeats$Sender", name := "sumOfMiles", desc := "()I" } : Jvm.MethodName) prog_5_method_7_code (4 : Nat) (Option.some Jvm.ClassFile.FieldType.int)) ∈ tw := tw_t 516 (by decide +kernel) (by decide +kernel)
theorem tk_517 : (Jvm.Cond.methodLink "NearSeats" (287 : Nat) ({ cls := "NearSeats$Sender", name := "weigh", desc := "()V" } : Jvm.MethodName)) ∈ tw := tw_t 517 (by decide +kernel) (by decide +kernel)
theorem tk_518 : (Jvm.Cond.instanceMethod ({ cls := "NearSeats$Sender", name := "weigh", desc := "()V" } : Jvm.MethodName)) ∈ tw := tw_t 518 (by decide +kernel) (by decide +kernel)
theorem tk_519 : (Jvm.Cond.selects "NearSeats$Sender" ({ cls := "NearSeats$Sender", name := "weigh", desc := "()V" } : Jvm.MethodName) ({ cls := "NearSeats$Sender", name := "weigh", desc := "()V" } : Jvm.MethodName)) ∈ tw := tw_t 519 (by decide +kernel) (by decide +kernel)
theorem tk_520 : (Jvm.Cond.code ({ cls := "NearSeats$Sender", name := "weigh", desc := "()V" } : Jvm.MethodName) prog_5_method_17_code (2 : Nat) (Option.none : Option Jvm.ClassFile.FieldType)) ∈ tw := tw_t 520 (by decide +kernel) (by decide +kernel)
theorem tk_521 : (Jvm.Cond.methodLink "NearSeats$Sender" (127 : Nat) ({ cls := "java/lang/Math", name := "max", desc := "(II)I" } : Jvm.MethodName)) ∈ tw := tw_t 521 (by decide +kernel) (by decide +kernel)
theorem tk_522 : (Jvm.Cond.static ({ cls := "java/lang/Math", name := "max", desc := "(II)I" } : Jvm.MethodName)) ∈ tw := tw_t 522 (by decide +kernel) (by decide +kernel)
theorem tk_523 : (Jvm.Cond.code ({ cls := "java/lang/Math", name := "max", desc := "(II)I" } : Jvm.MethodName) prog_11_method_65_code (2 : Nat) (Option.some Jvm.ClassFile.FieldType.int)) ∈ tw := tw_t 523 (by decide +kernel) (by decide +kernel)
theorem tk_524 : (Jvm.Cond.methodLink "NearSeatsLaw" (59 : Nat) ({ cls := "NearSeats", name := "few", desc := "()I" } : Jvm.MethodName)) ∈ tw := tw_t 524 (by decide +kernel) (by decide +kernel)
theorem tk_525 : (Jvm.Cond.instanceMethod ({ cls := "NearSeats", name := "few", desc := "()I" } : Jvm.MethodName)) ∈ tw := tw_t 525 (by decide +kernel) (by decide +kernel)
theorem tk_526 : (Jvm.Cond.selects "NearSeats" ({ cls := "NearSeats", name := "few", desc := "()I" } : Jvm.MethodName) ({ cls := "NearSeats", name := "few", desc := "()I" } : Jvm.MethodName)) ∈ tw := tw_t 526 (by decide +kernel) (by decide +kernel)
theorem tk_527 : (Jvm.Cond.code ({ cls := "NearSeats", name := "few", desc := "()I" } : Jvm.MethodName) prog_1_method_12_code (2 : Nat) (Option.some Jvm.ClassFile.FieldType.int)) ∈ tw := tw_t 527 (by decide +kernel) (by decide +kernel)
theorem tk_528 : (Jvm.Cond.methodLink "NearSeats" (162 : Nat) ({ cls := "NearSeats$Land", name := "cannotSit", desc := "(I)Z" } : Jvm.MethodName)) ∈ tw := tw_t 528 (by decide +kernel) (by decide +kernel)
theorem tk_529 : (Jvm.Cond.instanceMethod ({ cls := "NearSeats$Land", name := "cannotSit", desc := "(I)Z" } : Jvm.MethodName)) ∈ tw := tw_t 529 (by decide +kernel) (by decide +kernel)
theorem tk_530 : (Jvm.Cond.selects "NearSeats$Land" ({ cls := "NearSeats$Land", name := "cannotSit", desc := "(I)Z" } : Jvm.MethodName) ({ cls := "NearSeats$Land", name := "cannotSit", desc := "(I)Z" } : Jvm.MethodName)) ∈ tw := tw_t 530 (by decide +kernel) (by decide +kernel)
theorem tk_531 : (Jvm.Cond.code ({ cls := "NearSeats$Land", name := "cannotSit", desc := "(I)Z" } : Jvm.MethodName) prog_3_method_15_code (5 : Nat) (Option.some Jvm.ClassFile.FieldType.boolean)) ∈ tw := tw_t 531 (by decide +kernel) (by decide +kernel)
theorem tk_532 : (Jvm.Cond.methodLink "NearSeatsLaw" (63 : Nat) ({ cls := "NearSeats", name := "weight", desc := "(I)I" } : Jvm.MethodName)) ∈ tw := tw_t 532 (by decide +kernel) (by decide +kernel)
theorem tk_533 : (Jvm.Cond.instanceMethod ({ cls := "NearSeats", name := "weight", desc := "(I)I" } : Jvm.MethodName)) ∈ tw := tw_t 533 (by decide +kernel) (by decide +kernel)
theorem tk_534 : (Jvm.Cond.selects "NearSeats" ({ cls := "NearSeats", name := "weight", desc := "(I)I" } : Jvm.MethodName) ({ cls := "NearSeats", name := "weight", desc := "(I)I" } : Jvm.MethodName)) ∈ tw := tw_t 534 (by decide +kernel) (by decide +kernel)
theorem tk_535 : (Jvm.Cond.code ({ cls := "NearSeats", name := "weight", desc := "(I)I" } : Jvm.MethodName) prog_1_method_13_code (2 : Nat) (Option.some Jvm.ClassFile.FieldType.int)) ∈ tw := tw_t 535 (by decide +kernel) (by decide +kernel)
theorem tk_536 : (Jvm.Cond.methodLink "NearSeatsLaw" (67 : Nat) ({ cls := "NearSeats", name := "line", desc := "(I)I" } : Jvm.MethodName)) ∈ tw := tw_t 536 (by decide +kernel) (by decide +kernel)
theorem tk_537 : (Jvm.Cond.instanceMethod ({ cls := "NearSeats", name := "line", desc := "(I)I" } : Jvm.MethodName)) ∈ tw := tw_t 537 (by decide +kernel) (by decide +kernel)
theorem tk_538 : (Jvm.Cond.selects "NearSeats" ({ cls := "NearSeats", name := "line", desc := "(I)I" } : Jvm.MethodName) ({ cls := "NearSeats", name := "line", desc := "(I)I" } : Jvm.MethodName)) ∈ tw := tw_t 538 (by decide +kernel) (by decide +kernel)
theorem tk_539 : (Jvm.Cond.code ({ cls := "NearSeats", name := "line", desc := "(I)I" } : Jvm.MethodName) prog_1_method_14_code (2 : Nat) (Option.some Jvm.ClassFile.FieldType.int)) ∈ tw := tw_t 539 (by decide +kernel) (by decide +kernel)
theorem tk_540 : (Jvm.Cond.methodLink "NearSeats" (168 : Nat) ({ cls := "NearSeats$Sender", name := "lineOf", desc := "(I)I" } : Jvm.MethodName)) ∈ tw := tw_t 540 (by decide +kernel) (by decide +kernel)
theorem tk_541 : (Jvm.Cond.instanceMethod ({ cls := "NearSeats$Sender", name := "lineOf", desc := "(I)I" } : Jvm.MethodName)) ∈ tw := tw_t 541 (by decide +kernel) (by decide +kernel)
theorem tk_542 : (Jvm.Cond.selects "NearSeats$Sender" ({ cls := "NearSeats$Sender", name := "lineOf", desc := "(I)I" } : Jvm.MethodName) ({ cls := "NearSeats$Sender", name := "lineOf", desc := "(I)I" } : Jvm.MethodName)) ∈ tw := tw_t 542 (by decide +kernel) (by decide +kernel)
theorem tk_543 : (Jvm.Cond.code ({ cls := "NearSeats$Sender", name := "lineOf", desc := "(I)I" } : Jvm.MethodName) prog_5_method_18_code (6 : Nat) (Option.some Jvm.ClassFile.FieldType.int)) ∈ tw := tw_t 543 (by decide +kernel) (by decide +kernel)
theorem tk_544 : (Jvm.Cond.methodLink "NearSeatsLaw" (71 : Nat) ({ cls := "NearSeats", name := "check", desc := "(IIII)I" } : Jvm.MethodName)) ∈ tw := tw_t 544 (by decide +kernel) (by decide +kernel)
theorem tk_545 : (Jvm.Cond.instanceMethod ({ cls := "NearSeats", name := "check", desc := "(IIII)I" } : Jvm.MethodName)) ∈ tw := tw_t 545 (by decide +kernel) (by decide +kernel)
theorem tk_546 : (Jvm.Cond.selects "NearSeats" ({ cls := "NearSeats", name := "check", desc := "(IIII)I" } : Jvm.MethodName) ({ cls := "NearSeats", name := "check", desc := "(IIII)I" } : Jvm.MethodName)) ∈ tw := tw_t 546 (by decide +kernel) (by decide +kernel)
theorem tk_547 : (Jvm.Cond.code ({ cls := "NearSeats", name := "check", desc := "(IIII)I" } : Jvm.MethodName) prog_1_method_15_code (6 : Nat) (Option.some Jvm.ClassFile.FieldType.int)) ∈ tw := tw_t 547 (by decide +kernel) (by decide +kernel)
theorem tk_548 : (Jvm.Cond.methodLink "NearSeats" (171 : Nat) ({ cls := "NearSeats$Land", name := "proofHolds", desc := "([II)Z" } : Jvm.MethodName)) ∈ tw := tw_t 548 (by decide +kernel) (by decide +kernel)
theorem tk_549 : (Jvm.Cond.instanceMethod ({ cls := "NearSeats$Land", name := "proofHolds", desc := "([II)Z" } : Jvm.MethodName)) ∈ tw := tw_t 549 (by decide +kernel) (by decide +kernel)
theorem tk_550 : (Jvm.Cond.selects "NearSeats$Land" ({ cls := "NearSeats$Land", name := "proofHolds", desc := "([II)Z" } : Jvm.MethodName) ({ cls := "NearSeats$Land", name := "proofHolds", desc := "([II)Z" } : Jvm.MethodName)) ∈ tw := tw_t 550 (by decide +kernel) (by decide +kernel)
theorem tk_551 : (Jvm.Cond.code ({ cls := "NearSeats$Land", name := "proofHolds", desc := "([II)Z" } : Jvm.MethodName) prog_3_method_16_code (5 : Nat) (Option.some Jvm.ClassFile.FieldType.boolean)) ∈ tw := tw_t 551 (by decide +kernel) (by decide +kernel)
theorem tk_552 : (Jvm.Cond.methodLink "NearSeats$Land" (59 : Nat) ({ cls := "NearSeats$Land", name := "allOfHomeGo", desc := "(I[II)Z" } : Jvm.MethodName)) ∈ tw := tw_t 552 (by decide +kernel) (by decide +kernel)
theorem tk_554 : (Jvm.Cond.instanceMethod ({ cls := "NearSeats$Land", name := "allOfHomeGo", desc := "(I[II)Z" } : Jvm.MethodName)) ∈ tw := tw_t 554 (by decide +kernel) (by decide +kernel)
theorem tk_555 : (Jvm.Cond.code ({ cls := "NearSeats$Land", name := "allOfHomeGo", desc := "(I[II)Z" } : Jvm.MethodName) prog_3_method_17_code (7 : Nat) (Option.some Jvm.ClassFile.FieldType.boolean)) ∈ tw := tw_t 555 (by decide +kernel) (by decide +kernel)
theorem tk_556 : (Jvm.Cond.methodLink "NearSeats$Land" (70 : Nat) ({ cls := "NearSeats$Land", name := "isBarred", desc := "(II)Z" } : Jvm.MethodName)) ∈ tw := tw_t 556 (by decide +kernel) (by decide +kernel)
theorem tk_557 : (Jvm.Cond.methodLink "NearSeats$Land" (63 : Nat) ({ cls := "NearSeats$Land", name := "numberFits", desc := "(I[III)Z" } : Jvm.MethodName)) ∈ tw := tw_t 557 (by decide +kernel) (by decide +kernel)
theorem tk_559 : (Jvm.Cond.instanceMethod ({ cls := "NearSeats$Land", name := "numberFits", desc := "(I[III)Z" } : Jvm.MethodName)) ∈ tw := tw_t 559 (by decide +kernel) (by decide +kernel)
theorem tk_560 : (Jvm.Cond.code ({ cls := "NearSeats$Land", name := "numberFits", desc := "(I[III)Z" } : Jvm.MethodName) prog_3_method_18_code (7 : Nat) (Option.some Jvm.ClassFile.FieldType.boolean)) ∈ tw := tw_t 560 (by decide +kernel) (by decide +kernel)
theorem tk_561 : (Jvm.Cond.constant "NearSeats$Land" (74 : Nat) (1000000000 : Int32)) ∈ tw := tw_t 561 (by decide +kernel) (by decide +kernel)
theorem tk_562 : (Jvm.Cond.methodLink "NearSeats$Land" (67 : Nat) ({ cls := "NearSeats$Land", name := "goesToLeast", desc := "(I[III)Z" } : Jvm.MethodName)) ∈ tw := tw_t 562 (by decide +kernel) (by decide +kernel)
theorem tk_564 : (Jvm.Cond.instanceMethod ({ cls := "NearSeats$Land", name := "goesToLeast", desc := "(I[III)Z" } : Jvm.MethodName)) ∈ tw := tw_t 564 (by decide +kernel) (by decide +kernel)
theorem tk_565 : (Jvm.Cond.code ({ cls := "NearSeats$Land", name := "goesToLeast", desc := "(I[III)Z" } : Jvm.MethodName) prog_3_method_19_code (9 : Nat) (Option.some Jvm.ClassFile.FieldType.boolean)) ∈ tw := tw_t 565 (by decide +kernel) (by decide +kernel)
theorem tk_566 : (Jvm.Cond.constant "NearSeats$Land" (75 : Nat) (1500000000 : Int32)) ∈ tw := tw_t 566 (by decide +kernel) (by decide +kernel)
theorem tk_567 : (Jvm.Cond.methodLink "NearSeats$Land" (76 : Nat) ({ cls := "NearSeats$Land", name := "farTo", desc := "(III)I" } : Jvm.MethodName)) ∈ tw := tw_t 567 (by decide +kernel) (by decide +kernel)
theorem tk_568 : (Jvm.Cond.methodLink "NearSeats$Land" (80 : Nat) ({ cls := "java/lang/Math", name := "min", desc := "(II)I" } : Jvm.MethodName)) ∈ tw := tw_t 568 (by decide +kernel) (by decide +kernel)
theorem tk_569 : (Jvm.Cond.methodLink "NearSeats$Land" (84 : Nat) ({ cls := "java/lang/Math", name := "max", desc := "(II)I" } : Jvm.MethodName)) ∈ tw := tw_t 569 (by decide +kernel) (by decide +kernel)
theorem tk_570 : (Jvm.Cond.methodLink "NearSeatsLaw" (75 : Nat) ({ cls := "NearSeats", name := "family", desc := "(I)I" } : Jvm.MethodName)) ∈ tw := tw_t 570 (by decide +kernel) (by decide +kernel)
theorem tk_571 : (Jvm.Cond.instanceMethod ({ cls := "NearSeats", name := "family", desc := "(I)I" } : Jvm.MethodName)) ∈ tw := tw_t 571 (by decide +kernel) (by decide +kernel)
theorem tk_572 : (Jvm.Cond.selects "NearSeats" ({ cls := "NearSeats", name := "family", desc := "(I)I" } : Jvm.MethodName) ({ cls := "NearSeats", name := "family", desc := "(I)I" } : Jvm.MethodName)) ∈ tw := tw_t 572 (by decide +kernel) (by decide +kernel)
theorem tk_573 : (Jvm.Cond.code ({ cls := "NearSeats", name := "family", desc := "(I)I" } : Jvm.MethodName) prog_1_method_16_code (2 : Nat) (Option.some Jvm.ClassFile.FieldType.int)) ∈ tw := tw_t 573 (by decide +kernel) (by decide +kernel)
theorem tk_574 : (Jvm.Cond.methodLink "NearSeats" (175 : Nat) ({ cls := "NearSeats", name := "seekFamilies", desc := "()V" } : Jvm.MethodName)) ∈ tw := tw_t 574 (by decide +kernel) (by decide +kernel)
theorem tk_576 : (Jvm.Cond.instanceMethod ({ cls := "NearSeats", name := "seekFamilies", desc := "()V" } : Jvm.MethodName)) ∈ tw := tw_t 576 (by decide +kernel) (by decide +kernel)
theorem tk_577 : (Jvm.Cond.code ({ cls := "NearSeats", name := "seekFamilies", desc := "()V" } : Jvm.MethodName) prog_1_method_43_code (1 : Nat) (Option.none : Option Jvm.ClassFile.FieldType)) ∈ tw := tw_t 577 (by decide +kernel) (by decide +kernel)
theorem tk_578 : (Jvm.Cond.methodLink "NearSeats" (290 : Nat) ({ cls := "NearSeats$Families", name := "seek", desc := "(LNearSeats$Land;)V" } : Jvm.MethodName)) ∈ tw := tw_t 578 (by decide +kernel) (by decide +kernel)
theorem tk_579 : (Jvm.Cond.instanceMethod ({ cls := "NearSeats$Families", name := "seek", desc := "(LNearSeats$Land;)V" } : Jvm.MethodName)) ∈ tw := tw_t 579 (by decide +kernel) (by decide +kernel)
theorem tk_580 : (Jvm.Cond.selects "NearSeats$Families" ({ cls := "NearSeats$Families", name := "seek", desc := "(LNearSeats$Land;)V" } : Jvm.MethodName) ({ cls := "NearSeats$Families", name := "seek", desc := "(LNearSeats$Land;)V" } : Jvm.MethodName)) ∈ tw := tw_t 580 (by decide +kernel) (by decide +kernel)
theorem tk_581 : (Jvm.Cond.code ({ cls := "NearSeats$Families", name := "seek", desc := "(LNearSeats$Land;)V" } : Jvm.MethodName) prog_2_method_2_code (3 : Nat) (Option.none : Option Jvm.ClassFile.FieldType)) ∈ tw := tw_t 581 (by decide +kernel) (by decide +kernel)
theorem tk_582 : (Jvm.Cond.methodLink "NearSeats$Families" (36 : Nat) ({ cls := "java/lang/Math", name := "min", desc := "(II)I" } : Jvm.MethodName)) ∈ tw := tw_t 582 (by decide +kernel) (by decide +kernel)
theorem tk_583 : (Jvm.Cond.constant "NearSeats$Families" (51 : Nat) (500000000 : Int32)) ∈ tw := tw_t 583 (by decide +kernel) (by decide +kernel)
theorem tk_584 : (Jvm.Cond.methodLink "NearSeats$Families" (52 : Nat) ({ cls := "NearSeats$Families", name := "loadHome", desc := "(LNearSeats$Land;I)I" } : Jvm.MethodName)) ∈ tw := tw_t 584 (by decide +kernel) (by decide +kernel)
theorem tk_586 : (Jvm.Cond.instanceMethod ({ cls := "NearSeats$Families", name := "loadHome", desc := "(LNearSeats$Land;I)I" } : Jvm.MethodName)) ∈ tw := tw_t 586 (by decide +kernel) (by decide +kernel)
theorem tk_587 : (Jvm.Cond.code ({ cls := "NearSeats$Families", name := "loadHome", desc := "(LNearSeats$Land;I)I" } : Jvm.MethodName) prog_2_method_3_code (7 : Nat) (Option.some Jvm.ClassFile.FieldType.int)) ∈ tw := tw_t 587 (by decide +kernel) (by decide +kernel)
theorem tk_588 : (Jvm.Cond.methodLink "NearSeats$Families" (69 : Nat) ({ cls := "NearSeats$Land", name := "farTo", desc := "(III)I" } : Jvm.MethodName)) ∈ tw := tw_t 588 (by decide +kernel) (by decide +kernel)
theorem tk_589 : (Jvm.Cond.methodLink "NearSeats$Families" (73 : Nat) ({ cls := "NearSeats$Land", name := "isBarred", desc := "(II)Z" } : Jvm.MethodName)) ∈ tw := tw_t 589 (by decide +kernel) (by decide +kernel)
theorem tk_590 : (Jvm.Cond.methodLink "NearSeats$Families" (59 : Nat) ({ cls := "NearSeats$Families", name := "tryHome", desc := "(II)V" } : Jvm.MethodName)) ∈ tw := tw_t 590 (by decide +kernel) (by decide +kernel)
theorem tk_592 : (Jvm.Cond.instanceMethod ({ cls := "NearSeats$Families", name := "tryHome", desc := "(II)V" } : Jvm.MethodName)) ∈ tw := tw_t 592 (by decide +kernel) (by decide +kernel)
theorem tk_593 : (Jvm.Cond.code ({ cls := "NearSeats$Families", name := "tryHome", desc := "(II)V" } : Jvm.MethodName) prog_2_method_4_code (5 : Nat) (Option.none : Option Jvm.ClassFile.FieldType)) ∈ tw := tw_t 593 (by decide +kernel) (by decide +kernel)
theorem tk_594 : (Jvm.Cond.methodLink "NearSeats$Families" (77 : Nat) ({ cls := "NearSeats$Families", name := "keep", desc := "(I)V" } : Jvm.MethodName)) ∈ tw := tw_t 594 (by decide +kernel) (by decide +kernel)
theorem tk_596 : (Jvm.Cond.instanceMethod ({ cls := "NearSeats$Families", name := "keep", desc := "(I)V" } : Jvm.MethodName)) ∈ tw := tw_t 596 (by decide +kernel) (by decide +kernel)
theorem tk_597 : (Jvm.Cond.code ({ cls := "NearSeats$Families", name := "keep", desc := "(I)V" } : Jvm.MethodName) prog_2_method_5_code (3 : Nat) (Option.none : Option Jvm.ClassFile.FieldType)) ∈ tw := tw_t 597 (by decide +kernel) (by decide +kernel)
theorem tk_598 : (Jvm.Cond.constant "NearSeats" (181 : Nat) (500000000 : Int32)) ∈ tw := tw_t 598 (by decide +kernel) (by decide +kernel)
theorem tk_599 : (Jvm.Cond.methodLink "NearSeatsLaw" (79 : Nat) ({ cls := "NearSeats", name := "even", desc := "(I)I" } : Jvm.MethodName)) ∈ tw := tw_t 599 (by decide +kernel) (by decide +kernel)
theorem tk_600 : (Jvm.Cond.instanceMethod ({ cls := "NearSeats", name := "even", desc := "(I)I" } : Jvm.MethodName)) ∈ tw := tw_t 600 (by decide +kernel) (by decide +kernel)
theorem tk_601 : (Jvm.Cond.selects "NearSeats" ({ cls := "NearSeats", name := "even", desc := "(I)I" } : Jvm.MethodName) ({ cls := "NearSeats", name := "even", desc := "(I)I" } : Jvm.MethodName)) ∈ tw := tw_t 601 (by decide +kernel) (by decide +kernel)
theorem tk_602 : (Jvm.Cond.code ({ cls := "NearSeats", name := "even", desc := "(I)I" } : Jvm.MethodName) prog_1_method_17_code (2 : Nat) (Option.some Jvm.ClassFile.FieldType.int)) ∈ tw := tw_t 602 (by decide +kernel) (by decide +kernel)
theorem tk_603 : (Jvm.Cond.methodLink "NearSeats" (185 : Nat) ({ cls := "NearSeats", name := "seekEven", desc := "()V" } : Jvm.MethodName)) ∈ tw := tw_t 603 (by decide +kernel) (by decide +kernel)
theorem tk_605 : (Jvm.Cond.instanceMethod ({ cls := "NearSeats", name := "seekEven", desc := "()V" } : Jvm.MethodName)) ∈ tw := tw_t 605 (by decide +kernel) (by decide +kernel)
theorem tk_606 : (Jvm.Cond.code ({ cls := "NearSeats", name := "seekEven", desc := "()V" } : Jvm.MethodName) prog_1_method_44_code (1 : Nat) (Option.none : Option Jvm.ClassFile.FieldType)) ∈ tw := tw_t 606 (by decide +kernel) (by decide +kernel)
theorem tk_607 : (Jvm.Cond.methodLink "NearSeats" (293 : Nat) ({ cls := "NearSeats$Sender", name := "longest", desc := "()I" } : Jvm.MethodName)) ∈ tw := tw_t 607 (by decide +kernel) (by decide +kernel)
theorem tk_608 : (Jvm.Cond.instanceMethod ({ cls := "NearSeats$Sender", name := "longest", desc := "()I" } : Jvm.MethodName)) ∈ tw := tw_t 608 (by decide +kernel) (by decide +kernel)
theorem tk_609 : (Jvm.Cond.selects "NearSeats$Sender" ({ cls := "NearSeats$Sender", name := "longest", desc := "()I" } : Jvm.MethodName) ({ cls := "NearSeats$Sender", name := "longest", desc := "()I" } : Jvm.MethodName)) ∈ tw := tw_t 609 (by decide +kernel) (by decide +kernel)
theorem tk_610 : (Jvm.Cond.code ({ cls := "NearSeats$Sender", name := "longest", desc := "()I" } : Jvm.MethodName) prog_5_method_19_code (3 : Nat) (Option.some Jvm.ClassFile.FieldType.int)) ∈ tw := tw_t 610 (by decide +kernel) (by decide +kernel)
theorem tk_611 : (Jvm.Cond.methodLink "NearSeats" (296 : Nat) ({ cls := "NearSeats", name := "shortenLongest", desc := "()V" } : Jvm.MethodName)) ∈ tw := tw_t 611 (by decide +kernel) (by decide +kernel)
theorem tk_613 : (Jvm.Cond.instanceMethod ({ cls := "NearSeats", name := "shortenLongest", desc := "()V" } : Jvm.MethodName)) ∈ tw := tw_t 613 (by decide +kernel) (by decide +kernel)
theorem tk_614 : (Jvm.Cond.code ({ cls := "NearSeats", name := "shortenLongest", desc := "()V" } : Jvm.MethodName) prog_1_method_45_code (5 : Nat) (Option.none : Option Jvm.ClassFile.FieldType)) ∈ tw := tw_t 614 (by decide +kernel) (by decide +kernel)
theorem tk_615 : (Jvm.Cond.methodLink "NearSeats" (299 : Nat) ({ cls := "NearSeats$Sender", name := "forbidBeyond", desc := "(I)V" } : Jvm.MethodName)) ∈ tw := tw_t 615 (by decide +kernel) (by decide +kernel)
theorem tk_616 : (Jvm.Cond.instanceMethod ({ cls := "NearSeats$Sender", name := "forbidBeyond", desc := "(I)V" } : Jvm.MethodName)) ∈ tw := tw_t 616 (by decide +kernel) (by decide +kernel)
theorem tk_617 : (Jvm.Cond.selects "NearSeats$Sender" ({ cls := "NearSeats$Sender", name := "forbidBeyond", desc := "(I)V" } : Jvm.MethodName) ({ cls := "NearSeats$Sender", name := "forbidBeyond", desc := "(I)V" } : Jvm.MethodName)) ∈ tw := tw_t 617 (by decide +kernel) (by decide +kernel)
theorem tk_618 : (Jvm.Cond.code ({ cls := "NearSeats$Sender", name := "forbidBeyond", desc := "(I)V" } : Jvm.MethodName) prog_5_method_5_code (4 : Nat) (Option.none : Option Jvm.ClassFile.FieldType)) ∈ tw := tw_t 618 (by decide +kernel) (by decide +kernel)
theorem tk_619 : (Jvm.Cond.methodLink "NearSeatsLaw" (83 : Nat) ({ cls := "NearSeats", name := "border", desc := "(III)J" } : Jvm.MethodName)) ∈ tw := tw_t 619 (by decide +kernel) (by decide +kernel)
theorem tk_620 : (Jvm.Cond.instanceMethod ({ cls := "NearSeats", name := "border", desc := "(III)J" } : Jvm.MethodName)) ∈ tw := tw_t 620 (by decide +kernel) (by decide +kernel)
theorem tk_621 : (Jvm.Cond.selects "NearSeats" ({ cls := "NearSeats", name := "border", desc := "(III)J" } : Jvm.MethodName) ({ cls := "NearSeats", name := "border", desc := "(III)J" } : Jvm.MethodName)) ∈ tw := tw_t 621 (by decide +kernel) (by decide +kernel)
theorem tk_622 : (Jvm.Cond.code ({ cls := "NearSeats", name := "border", desc := "(III)J" } : Jvm.MethodName) prog_1_method_18_code (4 : Nat) (Option.some Jvm.ClassFile.FieldType.long)) ∈ tw := tw_t 622 (by decide +kernel) (by decide +kernel)
theorem tk_623 : (Jvm.Cond.constantLong "NearSeats" (194 : Nat) (-9223372036854775808 : Int64)) ∈ tw := tw_t 623 (by decide +kernel) (by decide +kernel)
theorem tk_624 : (Jvm.Cond.methodLink "NearSeats" (196 : Nat) ({ cls := "NearSeats$Land", name := "atOneSpot", desc := "(II)Z" } : Jvm.MethodName)) ∈ tw := tw_t 624 (by decide +kernel) (by decide +kernel)
theorem tk_625 : (Jvm.Cond.instanceMethod ({ cls := "NearSeats$Land", name := "atOneSpot", desc := "(II)Z" } : Jvm.MethodName)) ∈ tw := tw_t 625 (by decide +kernel) (by decide +kernel)
theorem tk_626 : (Jvm.Cond.selects "NearSeats$Land" ({ cls := "NearSeats$Land", name := "atOneSpot", desc := "(II)Z" } : Jvm.MethodName) ({ cls := "NearSeats$Land", name := "atOneSpot", desc := "(II)Z" } : Jvm.MethodName)) ∈ tw := tw_t 626 (by decide +kernel) (by decide +kernel)
theorem tk_627 : (Jvm.Cond.code ({ cls := "NearSeats$Land", name := "atOneSpot", desc := "(II)Z" } : Jvm.MethodName) prog_3_method_12_code (3 : Nat) (Option.some Jvm.ClassFile.FieldType.boolean)) ∈ tw := tw_t 627 (by decide +kernel) (by decide +kernel)
theorem tk_628 : (Jvm.Cond.methodLink "NearSeats" (199 : Nat) ({ cls := "NearSeats", name := "partOfBorder", desc := "(III)J" } : Jvm.MethodName)) ∈ tw := tw_t 628 (by decide +kernel) (by decide +kernel)
theorem tk_630 : (Jvm.Cond.instanceMethod ({ cls := "NearSeats", name := "partOfBorder", desc := "(III)J" } : Jvm.MethodName)) ∈ tw := tw_t 630 (by decide +kernel) (by decide +kernel)
theorem tk_631 : (Jvm.Cond.code ({ cls := "NearSeats", name := "partOfBorder", desc := "(III)J" } : Jvm.MethodName) prog_1_method_49_code (9 : Nat) (Option.some Jvm.ClassFile.FieldType.long)) ∈ tw := tw_t 631 (by decide +kernel) (by decide +kernel)
theorem tk_632 : (Jvm.Cond.methodLink "NearSeats" (310 : Nat) ({ cls := "NearSeats", name := "sideOfBorder", desc := "(I)I" } : Jvm.MethodName)) ∈ tw := tw_t 632 (by decide +kernel) (by decide +kernel)
theorem tk_634 : (Jvm.Cond.instanceMethod ({ cls := "NearSeats", name := "sideOfBorder", desc := "(I)I" } : Jvm.MethodName)) ∈ tw := tw_t 634 (by decide +kernel) (by decide +kernel)
theorem tk_635 : (Jvm.Cond.code ({ cls := "NearSeats", name := "sideOfBorder", desc := "(I)I" } : Jvm.MethodName) prog_1_method_50_code (2 : Nat) (Option.some Jvm.ClassFile.FieldType.int)) ∈ tw := tw_t 635 (by decide +kernel) (by decide +kernel)
theorem tk_636 : (Jvm.Cond.methodLink "NearSeats" (313 : Nat) ({ cls := "java/lang/Math", name := "abs", desc := "(I)I" } : Jvm.MethodName)) ∈ tw := tw_t 636 (by decide +kernel) (by decide +kernel)
theorem tk_637 : (Jvm.Cond.methodLink "NearSeats" (318 : Nat) ({ cls := "NearSeats", name := "commonDivisor", desc := "(II)I" } : Jvm.MethodName)) ∈ tw := tw_t 637 (by decide +kernel) (by decide +kernel)
theorem tk_638 : (Jvm.Cond.static ({ cls := "NearSeats", name := "commonDivisor", desc := "(II)I" } : Jvm.MethodName)) ∈ tw := tw_t 638 (by decide +kernel) (by decide +kernel)
theorem tk_639 : (Jvm.Cond.code ({ cls := "NearSeats", name := "commonDivisor", desc := "(II)I" } : Jvm.MethodName) prog_1_method_51_code (6 : Nat) (Option.some Jvm.ClassFile.FieldType.int)) ∈ tw := tw_t 639 (by decide +kernel) (by decide +kernel)
theorem tk_640 : (Jvm.Cond.methodLink "NearSeatsLaw" (88 : Nat) ({ cls := "NearSeats", name := "who", desc := "(II)I" } : Jvm.MethodName)) ∈ tw := tw_t 640 (by decide +kernel) (by decide +kernel)
theorem tk_641 : (Jvm.Cond.instanceMethod ({ cls := "NearSeats", name := "who", desc := "(II)I" } : Jvm.MethodName)) ∈ tw := tw_t 641 (by decide +kernel) (by decide +kernel)
theorem tk_642 : (Jvm.Cond.selects "NearSeats" ({ cls := "NearSeats", name := "who", desc := "(II)I" } : Jvm.MethodName) ({ cls := "NearSeats", name := "who", desc := "(II)I" } : Jvm.MethodName)) ∈ tw := tw_t 642 (by decide +kernel) (by decide +kernel)
theorem tk_643 : (Jvm.Cond.code ({ cls := "NearSeats", name := "who", desc := "(II)I" } : Jvm.MethodName) prog_1_method_19_code (3 : Nat) (Option.some Jvm.ClassFile.FieldType.int)) ∈ tw := tw_t 643 (by decide +kernel) (by decide +kernel)
theorem tk_644 : (Jvm.Cond.methodLink "NearSeats" (203 : Nat) ({ cls := "NearSeats", name := "leastChurch", desc := "(II)I" } : Jvm.MethodName)) ∈ tw := tw_t 644 (by decide +kernel) (by decide +kernel)
theorem tk_646 : (Jvm.Cond.instanceMethod ({ cls := "NearSeats", name := "leastChurch", desc := "(II)I" } : Jvm.MethodName)) ∈ tw := tw_t 646 (by decide +kernel) (by decide +kernel)
theorem tk_647 : (Jvm.Cond.code ({ cls := "NearSeats", name := "leastChurch", desc := "(II)I" } : Jvm.MethodName) prog_1_method_48_code (7 : Nat) (Option.some Jvm.ClassFile.FieldType.int)) ∈ tw := tw_t 647 (by decide +kernel) (by decide +kernel)
theorem tk_648 : (Jvm.Cond.methodLink "NearSeatsLaw" (92 : Nat) ({ cls := "NearSeats", name := "place", desc := "(II)I" } : Jvm.MethodName)) ∈ tw := tw_t 648 (by decide +kernel) (by decide +kernel)
theorem tk_649 : (Jvm.Cond.instanceMethod ({ cls := "NearSeats", name := "place", desc := "(II)I" } : Jvm.MethodName)) ∈ tw := tw_t 649 (by decide +kernel) (by decide +kernel)
theorem tk_650 : (Jvm.Cond.selects "NearSeats" ({ cls := "NearSeats", name := "place", desc := "(II)I" } : Jvm.MethodName) ({ cls := "NearSeats", name := "place", desc := "(II)I" } : Jvm.MethodName)) ∈ tw := tw_t 650 (by decide +kernel) (by decide +kernel)
theorem tk_651 : (Jvm.Cond.code ({ cls := "NearSeats", name := "place", desc := "(II)I" } : Jvm.MethodName) prog_1_method_20_code (3 : Nat) (Option.some Jvm.ClassFile.FieldType.int)) ∈ tw := tw_t 651 (by decide +kernel) (by decide +kernel)
theorem tk_652 : (Jvm.Cond.methodLink "NearSeatsLaw" (96 : Nat) ({ cls := "NearSeats", name := "move", desc := "(I)I" } : Jvm.MethodName)) ∈ tw := tw_t 652 (by decide +kernel) (by decide +kernel)
theorem tk_653 : (Jvm.Cond.instanceMethod ({ cls := "NearSeats", name := "move", desc := "(I)I" } : Jvm.MethodName)) ∈ tw := tw_t 653 (by decide +kernel) (by decide +kernel)
theorem tk_654 : (Jvm.Cond.selects "NearSeats" ({ cls := "NearSeats", name := "move", desc := "(I)I" } : Jvm.MethodName) ({ cls := "NearSeats", name := "move", desc := "(I)I" } : Jvm.MethodName)) ∈ tw := tw_t 654 (by decide +kernel) (by decide +kernel)
theorem tk_655 : (Jvm.Cond.code ({ cls := "NearSeats", name := "move", desc := "(I)I" } : Jvm.MethodName) prog_1_method_21_code (3 : Nat) (Option.some Jvm.ClassFile.FieldType.int)) ∈ tw := tw_t 655 (by decide +kernel) (by decide +kernel)
theorem tk_656 : (Jvm.Cond.methodLink "NearSeats" (209 : Nat) ({ cls := "NearSeats", name := "bestPlace", desc := "(I)I" } : Jvm.MethodName)) ∈ tw := tw_t 656 (by decide +kernel) (by decide +kernel)
theorem tk_658 : (Jvm.Cond.instanceMethod ({ cls := "NearSeats", name := "bestPlace", desc := "(I)I" } : Jvm.MethodName)) ∈ tw := tw_t 658 (by decide +kernel) (by decide +kernel)
theorem tk_659 : (Jvm.Cond.code ({ cls := "NearSeats", name := "bestPlace", desc := "(I)I" } : Jvm.MethodName) prog_1_method_47_code (6 : Nat) (Option.some Jvm.ClassFile.FieldType.int)) ∈ tw := tw_t 659 (by decide +kernel) (by decide +kernel)
theorem tk_660 : (Jvm.Cond.methodLink "NearSeats" (306 : Nat) ({ cls := "NearSeats$Sender", name := "putChurch", desc := "(LNearSeats$Land;III)V" } : Jvm.MethodName)) ∈ tw := tw_t 660 (by decide +kernel) (by decide +kernel)
theorem tk_661 : (Jvm.Cond.methodLink "NearSeats" (212 : Nat) ({ cls := "NearSeats$Land", name := "moveChurch", desc := "(III)V" } : Jvm.MethodName)) ∈ tw := tw_t 661 (by decide +kernel) (by decide +kernel)
theorem tk_662 : (Jvm.Cond.instanceMethod ({ cls := "NearSeats$Land", name := "moveChurch", desc := "(III)V" } : Jvm.MethodName)) ∈ tw := tw_t 662 (by decide +kernel) (by decide +kernel)
theorem tk_663 : (Jvm.Cond.selects "NearSeats$Land" ({ cls := "NearSeats$Land", name := "moveChurch", desc := "(III)V" } : Jvm.MethodName) ({ cls := "NearSeats$Land", name := "moveChurch", desc := "(III)V" } : Jvm.MethodName)) ∈ tw := tw_t 663 (by decide +kernel) (by decide +kernel)
theorem tk_664 : (Jvm.Cond.code ({ cls := "NearSeats$Land", name := "moveChurch", desc := "(III)V" } : Jvm.MethodName) prog_3_method_11_code (4 : Nat) (Option.none : Option Jvm.ClassFile.FieldType)) ∈ tw := tw_t 664 (by decide +kernel) (by decide +kernel)
theorem tk_665 : (Jvm.Cond.methodLink "NearSeatsLaw" (100 : Nat) ({ cls := "NearSeats", name := "open", desc := "(I)I" } : Jvm.MethodName)) ∈ tw := tw_t 665 (by decide +kernel) (by decide +kernel)
theorem tk_666 : (Jvm.Cond.instanceMethod ({ cls := "NearSeats", name := "open", desc := "(I)I" } : Jvm.MethodName)) ∈ tw := tw_t 666 (by decide +kernel) (by decide +kernel)
theorem tk_667 : (Jvm.Cond.selects "NearSeats" ({ cls := "NearSeats", name := "open", desc := "(I)I" } : Jvm.MethodName) ({ cls := "NearSeats", name := "open", desc := "(I)I" } : Jvm.MethodName)) ∈ tw := tw_t 667 (by decide +kernel) (by decide +kernel)
theorem tk_668 : (Jvm.Cond.code ({ cls := "NearSeats", name := "open", desc := "(I)I" } : Jvm.MethodName) prog_1_method_22_code (2 : Nat) (Option.some Jvm.ClassFile.FieldType.int)) ∈ tw := tw_t 668 (by decide +kernel) (by decide +kernel)
theorem tk_669 : (Jvm.Cond.methodLink "NearSeats" (216 : Nat) ({ cls := "NearSeats", name := "milesOfSet", desc := "(I)I" } : Jvm.MethodName)) ∈ tw := tw_t 669 (by decide +kernel) (by decide +kernel)
theorem tk_671 : (Jvm.Cond.instanceMethod ({ cls := "NearSeats", name := "milesOfSet", desc := "(I)I" } : Jvm.MethodName)) ∈ tw := tw_t 671 (by decide +kernel) (by decide +kernel)
theorem tk_672 : (Jvm.Cond.code ({ cls := "NearSeats", name := "milesOfSet", desc := "(I)I" } : Jvm.MethodName) prog_1_method_46_code (2 : Nat) (Option.some Jvm.ClassFile.FieldType.int)) ∈ tw := tw_t 672 (by decide +kernel) (by decide +kernel)
theorem tk_673 : (Jvm.Cond.methodLink "NearSeats" (303 : Nat) ({ cls := "NearSeats$Sender", name := "shutAllBut", desc := "(I)V" } : Jvm.MethodName)) ∈ tw := tw_t 673 (by decide +kernel) (by decide +kernel)
theorem tk_674 : (Jvm.Cond.instanceMethod ({ cls := "NearSeats$Sender", name := "shutAllBut", desc := "(I)V" } : Jvm.MethodName)) ∈ tw := tw_t 674 (by decide +kernel) (by decide +kernel)
theorem tk_675 : (Jvm.Cond.selects "NearSeats$Sender" ({ cls := "NearSeats$Sender", name := "shutAllBut", desc := "(I)V" } : Jvm.MethodName) ({ cls := "NearSeats$Sender", name := "shutAllBut", desc := "(I)V" } : Jvm.MethodName)) ∈ tw := tw_t 675 (by decide +kernel) (by decide +kernel)
theorem tk_676 : (Jvm.Cond.code ({ cls := "NearSeats$Sender", name := "shutAllBut", desc := "(I)V" } : Jvm.MethodName) prog_5_method_4_code (3 : Nat) (Option.none : Option Jvm.ClassFile.FieldType)) ∈ tw := tw_t 676 (by decide +kernel) (by decide +kernel)
theorem tk_677 : (Jvm.Cond.methodLink "NearSeatsLaw" (104 : Nat) ({ cls := "NearSeats", name := "best", desc := "(I)I" } : Jvm.MethodName)) ∈ tw := tw_t 677 (by decide +kernel) (by decide +kernel)
theorem tk_678 : (Jvm.Cond.instanceMethod ({ cls := "NearSeats", name := "best", desc := "(I)I" } : Jvm.MethodName)) ∈ tw := tw_t 678 (by decide +kernel) (by decide +kernel)
theorem tk_679 : (Jvm.Cond.selects "NearSeats" ({ cls := "NearSeats", name := "best", desc := "(I)I" } : Jvm.MethodName) ({ cls := "NearSeats", name := "best", desc := "(I)I" } : Jvm.MethodName)) ∈ tw := tw_t 679 (by decide +kernel) (by decide +kernel)
theorem tk_680 : (Jvm.Cond.code ({ cls := "NearSeats", name := "best", desc := "(I)I" } : Jvm.MethodName) prog_1_method_23_code (6 : Nat) (Option.some Jvm.ClassFile.FieldType.int)) ∈ tw := tw_t 680 (by decide +kernel) (by decide +kernel)
theorem tk_681 : (Jvm.Cond.methodLink "NearSeats" (219 : Nat) ({ cls := "java/lang/Integer", name := "bitCount", desc := "(I)I" } : Jvm.MethodName)) ∈ tw := tw_t 681 (by decide +kernel) (by decide +kernel)
theorem tk_682 : (Jvm.Cond.static ({ cls := "java/lang/Integer", name := "bitCount", desc := "(I)I" } : Jvm.MethodName)) ∈ tw := tw_t 682 (by decide +kernel) (by decide +kernel)
theorem tk_683 : (Jvm.Cond.code ({ cls := "java/lang/Integer", name := "bitCount", desc := "(I)I" } : Jvm.MethodName) prog_10_method_49_code (1 : Nat) (Option.some Jvm.ClassFile.FieldType.int)) ∈ tw := tw_t 683 (by decide +kernel) (by decide +kernel)
theorem tk_684 : (Jvm.Cond.constant "java/lang/Integer" (265 : Nat) (1431655765 : Int32)) ∈ tw := tw_t 684 (by decide +kernel) (by decide +kernel)
theorem tk_685 : (Jvm.Cond.constant "java/lang/Integer" (266 : Nat) (858993459 : Int32)) ∈ tw := tw_t 685 (by decide +kernel) (by decide +kernel)
theorem tk_686 : (Jvm.Cond.constant "java/lang/Integer" (267 : Nat) (252645135 : Int32)) ∈ tw := tw_t 686 (by decide +kernel) (by decide +kernel)
theorem tk_687 : (Jvm.Cond.methodLink "NearSeatsLaw" (108 : Nat) ({ cls := "NearSeats", name := "sheet", desc := "(III)I" } : Jvm.MethodName)) ∈ tw := tw_t 687 (by decide +kernel) (by decide +kernel)
theorem tk_688 : (Jvm.Cond.instanceMethod ({ cls := "NearSeats", name := "sheet", desc := "(III)I" } : Jvm.MethodName)) ∈ tw := tw_t 688 (by decide +kernel) (by decide +kernel)
theorem tk_689 : (Jvm.Cond.selects "NearSeats" ({ cls := "NearSeats", name := "sheet", desc := "(III)I" } : Jvm.MethodName) ({ cls := "NearSeats", name := "sheet", desc := "(III)I" } : Jvm.MethodName)) ∈ tw := tw_t 689 (by decide +kernel) (by decide +kernel)
theorem tk_690 : (Jvm.Cond.code ({ cls := "NearSeats", name := "sheet", desc := "(III)I" } : Jvm.MethodName) prog_1_method_24_code (4 : Nat) (Option.some Jvm.ClassFile.FieldType.int)) ∈ tw := tw_t 690 (by decide +kernel) (by decide +kernel)
theorem tk_691 : (Jvm.Cond.methodLink "NearSeats" (236 : Nat) ({ cls := "NearSeats$Sheet", name := "renew", desc := "(II)V" } : Jvm.MethodName)) ∈ tw := tw_t 691 (by decide +kernel) (by decide +kernel)
theorem tk_692 : (Jvm.Cond.instanceMethod ({ cls := "NearSeats$Sheet", name := "renew", desc := "(II)V" } : Jvm.MethodName)) ∈ tw := tw_t 692 (by decide +kernel) (by decide +kernel)
theorem tk_693 : (Jvm.Cond.selects "NearSeats$Sheet" ({ cls := "NearSeats$Sheet", name := "renew", desc := "(II)V" } : Jvm.MethodName) ({ cls := "NearSeats$Sheet", name := "renew", desc := "(II)V" } : Jvm.MethodName)) ∈ tw := tw_t 693 (by decide +kernel) (by decide +kernel)
theorem tk_694 : (Jvm.Cond.code ({ cls := "NearSeats$Sheet", name := "renew", desc := "(II)V" } : Jvm.MethodName) prog_6_method_2_code (4 : Nat) (Option.none : Option Jvm.ClassFile.FieldType)) ∈ tw := tw_t 694 (by decide +kernel) (by decide +kernel)
theorem tk_695 : (Jvm.Cond.methodLink "NearSeatsLaw" (112 : Nat) ({ cls := "NearSeats", name := "lose", desc := "(I)I" } : Jvm.MethodName)) ∈ tw := tw_t 695 (by decide +kernel) (by decide +kernel)
theorem tk_696 : (Jvm.Cond.instanceMethod ({ cls := "NearSeats", name := "lose", desc := "(I)I" } : Jvm.MethodName)) ∈ tw := tw_t 696 (by decide +kernel) (by decide +kernel)
theorem tk_697 : (Jvm.Cond.selects "NearSeats" ({ cls := "NearSeats", name := "lose", desc := "(I)I" } : Jvm.MethodName) ({ cls := "NearSeats", name := "lose", desc := "(I)I" } : Jvm.MethodName)) ∈ tw := tw_t 697 (by decide +kernel) (by decide +kernel)
theorem tk_698 : (Jvm.Cond.code ({ cls := "NearSeats", name := "lose", desc := "(I)I" } : Jvm.MethodName) prog_1_method_25_code (2 : Nat) (Option.some Jvm.ClassFile.FieldType.int)) ∈ tw := tw_t 698 (by decide +kernel) (by decide +kernel)
theorem tk_699 : (Jvm.Cond.methodLink "NearSeatsLaw" (116 : Nat) ({ cls := "NearSeats", name := "put", desc := "(III)I" } : Jvm.MethodName)) ∈ tw := tw_t 699 (by decide +kernel) (by decide +kernel)
theorem tk_700 : (Jvm.Cond.instanceMethod ({ cls := "NearSeats", name := "put", desc := "(III)I" } : Jvm.MethodName)) ∈ tw := tw_t 700 (by decide +kernel) (by decide +kernel)
theorem tk_701 : (Jvm.Cond.selects "NearSeats" ({ cls := "NearSeats", name := "put", desc := "(III)I" } : Jvm.MethodName) ({ cls := "NearSeats", name := "put", desc := "(III)I" } : Jvm.MethodName)) ∈ tw := tw_t 701 (by decide +kernel) (by decide +kernel)
theorem tk_702 : (Jvm.Cond.code ({ cls := "NearSeats", name := "put", desc := "(III)I" } : Jvm.MethodName) prog_1_method_26_code (4 : Nat) (Option.some Jvm.ClassFile.FieldType.int)) ∈ tw := tw_t 702 (by decide +kernel) (by decide +kernel)
theorem tk_703 : (Jvm.Cond.methodLink "NearSeats" (243 : Nat) ({ cls := "NearSeats$Sheet", name := "hasCell", desc := "(I)Z" } : Jvm.MethodName)) ∈ tw := tw_t 703 (by decide +kernel) (by decide +kernel)
theorem tk_704 : (Jvm.Cond.instanceMethod ({ cls := "NearSeats$Sheet", name := "hasCell", desc := "(I)Z" } : Jvm.MethodName)) ∈ tw := tw_t 704 (by decide +kernel) (by decide +kernel)
theorem tk_705 : (Jvm.Cond.selects "NearSeats$Sheet" ({ cls := "NearSeats$Sheet", name := "hasCell", desc := "(I)Z" } : Jvm.MethodName) ({ cls := "NearSeats$Sheet", name := "hasCell", desc := "(I)Z" } : Jvm.MethodName)) ∈ tw := tw_t 705 (by decide +kernel) (by decide +kernel)
theorem tk_706 : (Jvm.Cond.code ({ cls := "NearSeats$Sheet", name := "hasCell", desc := "(I)Z" } : Jvm.MethodName) prog_6_method_3_code (2 : Nat) (Option.some Jvm.ClassFile.FieldType.boolean)) ∈ tw := tw_t 706 (by decide +kernel) (by decide +kernel)
theorem tk_707 : (Jvm.Cond.methodLink "NearSeats" (246 : Nat) ({ cls := "NearSeats$Sheet", name := "setCell", desc := "(II)V" } : Jvm.MethodName)) ∈ tw := tw_t 707 (by decide +kernel) (by decide +kernel)
theorem tk_708 : (Jvm.Cond.instanceMethod ({ cls := "NearSeats$Sheet", name := "setCell", desc := "(II)V" } : Jvm.MethodName)) ∈ tw := tw_t 708 (by decide +kernel) (by decide +kernel)
theorem tk_709 : (Jvm.Cond.selects "NearSeats$Sheet" ({ cls := "NearSeats$Sheet", name := "setCell", desc := "(II)V" } : Jvm.MethodName) ({ cls := "NearSeats$Sheet", name := "setCell", desc := "(II)V" } : Jvm.MethodName)) ∈ tw := tw_t 709 (by decide +kernel) (by decide +kernel)
theorem tk_710 : (Jvm.Cond.code ({ cls := "NearSeats$Sheet", name := "setCell", desc := "(II)V" } : Jvm.MethodName) prog_6_method_5_code (3 : Nat) (Option.none : Option Jvm.ClassFile.FieldType)) ∈ tw := tw_t 710 (by decide +kernel) (by decide +kernel)
theorem tk_711 : (Jvm.Cond.methodLink "NearSeatsLaw" (120 : Nat) ({ cls := "NearSeats", name := "cell", desc := "(III)J" } : Jvm.MethodName)) ∈ tw := tw_t 711 (by decide +kernel) (by decide +kernel)
theorem tk_712 : (Jvm.Cond.instanceMethod ({ cls := "NearSeats", name := "cell", desc := "(III)J" } : Jvm.MethodName)) ∈ tw := tw_t 712 (by decide +kernel) (by decide +kernel)
theorem tk_713 : (Jvm.Cond.selects "NearSeats" ({ cls := "NearSeats", name := "cell", desc := "(III)J" } : Jvm.MethodName) ({ cls := "NearSeats", name := "cell", desc := "(III)J" } : Jvm.MethodName)) ∈ tw := tw_t 713 (by decide +kernel) (by decide +kernel)
theorem tk_714 : (Jvm.Cond.code ({ cls := "NearSeats", name := "cell", desc := "(III)J" } : Jvm.MethodName) prog_1_method_27_code (5 : Nat) (Option.some Jvm.ClassFile.FieldType.long)) ∈ tw := tw_t 714 (by decide +kernel) (by decide +kernel)
theorem tk_715 : (Jvm.Cond.methodLink "NearSeatsLaw" (124 : Nat) ({ cls := "NearSeats", name := "copy", desc := "(IIIII)I" } : Jvm.MethodName)) ∈ tw := tw_t 715 (by decide +kernel) (by decide +kernel)
theorem tk_716 : (Jvm.Cond.instanceMethod ({ cls := "NearSeats", name := "copy", desc := "(IIIII)I" } : Jvm.MethodName)) ∈ tw := tw_t 716 (by decide +kernel) (by decide +kernel)
theorem tk_717 : (Jvm.Cond.selects "NearSeats" ({ cls := "NearSeats", name := "copy", desc := "(IIIII)I" } : Jvm.MethodName) ({ cls := "NearSeats", name := "copy", desc := "(IIIII)I" } : Jvm.MethodName)) ∈ tw := tw_t 717 (by decide +kernel) (by decide +kernel)
theorem tk_718 : (Jvm.Cond.code ({ cls := "NearSeats", name := "copy", desc := "(IIIII)I" } : Jvm.MethodName) prog_1_method_28_code (8 : Nat) (Option.some Jvm.ClassFile.FieldType.int)) ∈ tw := tw_t 718 (by decide +kernel) (by decide +kernel)
theorem tk_719 : (Jvm.Cond.methodLink "NearSeats" (255 : Nat) ({ cls := "java/lang/System", name := "arraycopy", desc := "(Ljava/lang/Object;ILjava/lang/Object;II)V" } : Jvm.MethodName)) ∈ tw := tw_t 719 (by decide +kernel) (by decide +kernel)
theorem tk_720 : (Jvm.Cond.methodLink "NearSeatsLaw" (129 : Nat) ({ cls := "NearSeats", name := "tell", desc := "(I)I" } : Jvm.MethodName)) ∈ tw := tw_t 720 (by decide +kernel) (by decide +kernel)
theorem tk_721 : (Jvm.Cond.instanceMethod ({ cls := "NearSeats", name := "tell", desc := "(I)I" } : Jvm.MethodName)) ∈ tw := tw_t 721 (by decide +kernel) (by decide +kernel)
theorem tk_722 : (Jvm.Cond.selects "NearSeats" ({ cls := "NearSeats", name := "tell", desc := "(I)I" } : Jvm.MethodName) ({ cls := "NearSeats", name := "tell", desc := "(I)I" } : Jvm.MethodName)) ∈ tw := tw_t 722 (by decide +kernel) (by decide +kernel)
theorem tk_723 : (Jvm.Cond.code ({ cls := "NearSeats", name := "tell", desc := "(I)I" } : Jvm.MethodName) prog_1_method_29_code (2 : Nat) (Option.some Jvm.ClassFile.FieldType.int)) ∈ tw := tw_t 723 (by decide +kernel) (by decide +kernel)
theorem tk_724 : (Jvm.Cond.methodLink "NearSeats" (261 : Nat) ({ cls := "NearSeats$Teller", name := "tellOf", desc := "(II)I" } : Jvm.MethodName)) ∈ tw := tw_t 724 (by decide +kernel) (by decide +kernel)
theorem tk_725 : (Jvm.Cond.instanceMethod ({ cls := "NearSeats$Teller", name := "tellOf", desc := "(II)I" } : Jvm.MethodName)) ∈ tw := tw_t 725 (by decide +kernel) (by decide +kernel)
theorem tk_726 : (Jvm.Cond.selects "NearSeats$Teller" ({ cls := "NearSeats$Teller", name := "tellOf", desc := "(II)I" } : Jvm.MethodName) ({ cls := "NearSeats$Teller", name := "tellOf", desc := "(II)I" } : Jvm.MethodName)) ∈ tw := tw_t 726 (by decide +kernel) (by decide +kernel)
theorem tk_727 : (Jvm.Cond.code ({ cls := "NearSeats$Teller", name := "tellOf", desc := "(II)I" } : Jvm.MethodName) prog_7_method_2_code (3 : Nat) (Option.some Jvm.ClassFile.FieldType.int)) ∈ tw := tw_t 727 (by decide +kernel) (by decide +kernel)
theorem tk_728 : (Jvm.Cond.methodLink "NearSeats$Teller" (9 : Nat) ({ cls := "NearSeats$Teller", name := "squareTells", desc := "(I)I" } : Jvm.MethodName)) ∈ tw := tw_t 728 (by decide +kernel) (by decide +kernel)
theorem tk_730 : (Jvm.Cond.instanceMethod ({ cls := "NearSeats$Teller", name := "squareTells", desc := "(I)I" } : Jvm.MethodName)) ∈ tw := tw_t 730 (by decide +kernel) (by decide +kernel)
theorem tk_731 : (Jvm.Cond.code ({ cls := "NearSeats$Teller", name := "squareTells", desc := "(I)I" } : Jvm.MethodName) prog_7_method_4_code (2 : Nat) (Option.some Jvm.ClassFile.FieldType.int)) ∈ tw := tw_t 731 (by decide +kernel) (by decide +kernel)
theorem tk_732 : (Jvm.Cond.methodLink "NearSeats$Teller" (21 : Nat) ({ cls := "NearSeats$Teller", name := "leave", desc := "(I)V" } : Jvm.MethodName)) ∈ tw := tw_t 732 (by decide +kernel) (by decide +kernel)
theorem tk_734 : (Jvm.Cond.instanceMethod ({ cls := "NearSeats$Teller", name := "leave", desc := "(I)V" } : Jvm.MethodName)) ∈ tw := tw_t 734 (by decide +kernel) (by decide +kernel)
theorem tk_735 : (Jvm.Cond.code ({ cls := "NearSeats$Teller", name := "leave", desc := "(I)V" } : Jvm.MethodName) prog_7_method_7_code (2 : Nat) (Option.none : Option Jvm.ClassFile.FieldType)) ∈ tw := tw_t 735 (by decide +kernel) (by decide +kernel)
theorem tk_736 : (Jvm.Cond.methodLink "NearSeats$Teller" (15 : Nat) ({ cls := "NearSeats$Teller", name := "stepsTells", desc := "(I)I" } : Jvm.MethodName)) ∈ tw := tw_t 736 (by decide +kernel) (by decide +kernel)
theorem tk_738 : (Jvm.Cond.instanceMethod ({ cls := "NearSeats$Teller", name := "stepsTells", desc := "(I)I" } : Jvm.MethodName)) ∈ tw := tw_t 738 (by decide +kernel) (by decide +kernel)
theorem tk_739 : (Jvm.Cond.code ({ cls := "NearSeats$Teller", name := "stepsTells", desc := "(I)I" } : Jvm.MethodName) prog_7_method_5_code (2 : Nat) (Option.some Jvm.ClassFile.FieldType.int)) ∈ tw := tw_t 739 (by decide +kernel) (by decide +kernel)
theorem tk_740 : (Jvm.Cond.methodLink "NearSeats$Teller" (18 : Nat) ({ cls := "NearSeats$Teller", name := "ferryTells", desc := "(I)I" } : Jvm.MethodName)) ∈ tw := tw_t 740 (by decide +kernel) (by decide +kernel)
theorem tk_742 : (Jvm.Cond.instanceMethod ({ cls := "NearSeats$Teller", name := "ferryTells", desc := "(I)I" } : Jvm.MethodName)) ∈ tw := tw_t 742 (by decide +kernel) (by decide +kernel)
theorem tk_743 : (Jvm.Cond.code ({ cls := "NearSeats$Teller", name := "ferryTells", desc := "(I)I" } : Jvm.MethodName) prog_7_method_6_code (2 : Nat) (Option.some Jvm.ClassFile.FieldType.int)) ∈ tw := tw_t 743 (by decide +kernel) (by decide +kernel)
theorem tk_744 : (Jvm.Cond.methodLink "NearSeatsLaw" (133 : Nat) ({ cls := "NearSeats", name := "ring", desc := "(I)I" } : Jvm.MethodName)) ∈ tw := tw_t 744 (by decide +kernel) (by decide +kernel)
theorem tk_745 : (Jvm.Cond.instanceMethod ({ cls := "NearSeats", name := "ring", desc := "(I)I" } : Jvm.MethodName)) ∈ tw := tw_t 745 (by decide +kernel) (by decide +kernel)
theorem tk_746 : (Jvm.Cond.selects "NearSeats" ({ cls := "NearSeats", name := "ring", desc := "(I)I" } : Jvm.MethodName) ({ cls := "NearSeats", name := "ring", desc := "(I)I" } : Jvm.MethodName)) ∈ tw := tw_t 746 (by decide +kernel) (by decide +kernel)
theorem tk_747 : (Jvm.Cond.code ({ cls := "NearSeats", name := "ring", desc := "(I)I" } : Jvm.MethodName) prog_1_method_30_code (2 : Nat) (Option.some Jvm.ClassFile.FieldType.int)) ∈ tw := tw_t 747 (by decide +kernel) (by decide +kernel)
theorem tk_748 : (Jvm.Cond.methodLink "NearSeats" (264 : Nat) ({ cls := "NearSeats$Teller", name := "ringOf", desc := "(II)I" } : Jvm.MethodName)) ∈ tw := tw_t 748 (by decide +kernel) (by decide +kernel)
theorem tk_749 : (Jvm.Cond.instanceMethod ({ cls := "NearSeats$Teller", name := "ringOf", desc := "(II)I" } : Jvm.MethodName)) ∈ tw := tw_t 749 (by decide +kernel) (by decide +kernel)
theorem tk_750 : (Jvm.Cond.selects "NearSeats$Teller" ({ cls := "NearSeats$Teller", name := "ringOf", desc := "(II)I" } : Jvm.MethodName) ({ cls := "NearSeats$Teller", name := "ringOf", desc := "(II)I" } : Jvm.MethodName)) ∈ tw := tw_t 750 (by decide +kernel) (by decide +kernel)
theorem tk_751 : (Jvm.Cond.code ({ cls := "NearSeats$Teller", name := "ringOf", desc := "(II)I" } : Jvm.MethodName) prog_7_method_3_code (3 : Nat) (Option.some Jvm.ClassFile.FieldType.int)) ∈ tw := tw_t 751 (by decide +kernel) (by decide +kernel)
theorem tk_752 : (Jvm.Cond.methodLink "NearSeatsLaw" (137 : Nat) ({ cls := "NearSeats", name := "as", desc := "(II)I" } : Jvm.MethodName)) ∈ tw := tw_t 752 (by decide +kernel) (by decide +kernel)
theorem tk_753 : (Jvm.Cond.instanceMethod ({ cls := "NearSeats", name := "as", desc := "(II)I" } : Jvm.MethodName)) ∈ tw := tw_t 753 (by decide +kernel) (by decide +kernel)
theorem tk_754 : (Jvm.Cond.selects "NearSeats" ({ cls := "NearSeats", name := "as", desc := "(II)I" } : Jvm.MethodName) ({ cls := "NearSeats", name := "as", desc := "(II)I" } : Jvm.MethodName)) ∈ tw := tw_t 754 (by decide +kernel) (by decide +kernel)
theorem tk_755 : (Jvm.Cond.code ({ cls := "NearSeats", name := "as", desc := "(II)I" } : Jvm.MethodName) prog_1_method_31_code (3 : Nat) (Option.some Jvm.ClassFile.FieldType.int)) ∈ tw := tw_t 755 (by decide +kernel) (by decide +kernel)
theorem tk_756 : (Jvm.Cond.methodLink "NearSeatsLaw" (141 : Nat) ({ cls := "NearSeats", name := "trace", desc := "()I" } : Jvm.MethodName)) ∈ tw := tw_t 756 (by decide +kernel) (by decide +kernel)
theorem tk_757 : (Jvm.Cond.instanceMethod ({ cls := "NearSeats", name := "trace", desc := "()I" } : Jvm.MethodName)) ∈ tw := tw_t 757 (by decide +kernel) (by decide +kernel)
theorem tk_758 : (Jvm.Cond.selects "NearSeats" ({ cls := "NearSeats", name := "trace", desc := "()I" } : Jvm.MethodName) ({ cls := "NearSeats", name := "trace", desc := "()I" } : Jvm.MethodName)) ∈ tw := tw_t 758 (by decide +kernel) (by decide +kernel)
theorem tk_759 : (Jvm.Cond.code ({ cls := "NearSeats", name := "trace", desc := "()I" } : Jvm.MethodName) prog_1_method_32_code (1 : Nat) (Option.some Jvm.ClassFile.FieldType.int)) ∈ tw := tw_t 759 (by decide +kernel) (by decide +kernel)
theorem tk_760 : (Jvm.Cond.methodLink "NearSeatsLaw" (145 : Nat) ({ cls := "NearSeats", name := "fault", desc := "()I" } : Jvm.MethodName)) ∈ tw := tw_t 760 (by decide +kernel) (by decide +kernel)
theorem tk_761 : (Jvm.Cond.instanceMethod ({ cls := "NearSeats", name := "fault", desc := "()I" } : Jvm.MethodName)) ∈ tw := tw_t 761 (by decide +kernel) (by decide +kernel)
theorem tk_762 : (Jvm.Cond.selects "NearSeats" ({ cls := "NearSeats", name := "fault", desc := "()I" } : Jvm.MethodName) ({ cls := "NearSeats", name := "fault", desc := "()I" } : Jvm.MethodName)) ∈ tw := tw_t 762 (by decide +kernel) (by decide +kernel)
theorem tk_763 : (Jvm.Cond.code ({ cls := "NearSeats", name := "fault", desc := "()I" } : Jvm.MethodName) prog_1_method_33_code (1 : Nat) (Option.some Jvm.ClassFile.FieldType.int)) ∈ tw := tw_t 763 (by decide +kernel) (by decide +kernel)
theorem tk_764 : (Jvm.Cond.methodLink "NearSeatsLaw" (149 : Nat) ({ cls := "NearSeats", name := "many", desc := "(I)I" } : Jvm.MethodName)) ∈ tw := tw_t 764 (by decide +kernel) (by decide +kernel)
theorem tk_765 : (Jvm.Cond.instanceMethod ({ cls := "NearSeats", name := "many", desc := "(I)I" } : Jvm.MethodName)) ∈ tw := tw_t 765 (by decide +kernel) (by decide +kernel)
theorem tk_766 : (Jvm.Cond.selects "NearSeats" ({ cls := "NearSeats", name := "many", desc := "(I)I" } : Jvm.MethodName) ({ cls := "NearSeats", name := "many", desc := "(I)I" } : Jvm.MethodName)) ∈ tw := tw_t 766 (by decide +kernel) (by decide +kernel)
theorem tk_767 : (Jvm.Cond.code ({ cls := "NearSeats", name := "many", desc := "(I)I" } : Jvm.MethodName) prog_1_method_34_code (2 : Nat) (Option.some Jvm.ClassFile.FieldType.int)) ∈ tw := tw_t 767 (by decide +kernel) (by decide +kernel)
theorem tk_768 : (Jvm.Cond.methodLink "NearSeats" (270 : Nat) ({ cls := "NearSeats", name := "sumOf", desc := "([II)I" } : Jvm.MethodName)) ∈ tw := tw_t 768 (by decide +kernel) (by decide +kernel)
theorem tk_769 : (Jvm.Cond.static ({ cls := "NearSeats", name := "sumOf", desc := "([II)I" } : Jvm.MethodName)) ∈ tw := tw_t 769 (by decide +kernel) (by decide +kernel)
theorem tk_770 : (Jvm.Cond.code ({ cls := "NearSeats", name := "sumOf", desc := "([II)I" } : Jvm.MethodName) prog_1_method_39_code (4 : Nat) (Option.some Jvm.ClassFile.FieldType.int)) ∈ tw := tw_t 770 (by decide +kernel) (by decide +kernel)
theorem tk_771 : (Jvm.Cond.classLink "NearSeatsLaw" (10 : Nat) "NearSeatsModel") ∈ tw := tw_t 771 (by decide +kernel) (by decide +kernel)
theorem tk_772 : (Jvm.Cond.instantiable "NearSeatsModel" (31 : Nat)) ∈ tw := tw_t 772 (by decide +kernel) (by decide +kernel)
theorem tk_773 : (Jvm.Cond.methodLink "NearSeatsLaw" (12 : Nat) ({ cls := "NearSeatsModel", name := "<init>", desc := "()V" } : Jvm.MethodName)) ∈ tw := tw_t 773 (by decide +kernel) (by decide +kernel)
theorem tk_774 : (Jvm.Cond.instanceMethod ({ cls := "NearSeatsModel", name := "<init>", desc := "()V" } : Jvm.MethodName)) ∈ tw := tw_t 774 (by decide +kernel) (by decide +kernel)
theorem tk_775 : (Jvm.Cond.code ({ cls := "NearSeatsModel", name := "<init>", desc := "()V" } : Jvm.MethodName) prog_9_method_1_code (2 : Nat) (Option.none : Option Jvm.ClassFile.FieldType)) ∈ tw := tw_t 775 (by decide +kernel) (by decide +kernel)
theorem tk_776 : (Jvm.Cond.methodLink "NearSeatsModel" (1 : Nat) ({ cls := "java/lang/Object", name := "<init>", desc := "()V" } : Jvm.MethodName)) ∈ tw := tw_t 776 (by decide +kernel) (by decide +kernel)
theorem tk_777 : (Jvm.Cond.fieldLink "NearSeatsModel" (92 : Nat) "NearSeatsModel" "fault" "I") ∈ tw := tw_t 777 (by decide +kernel) (by decide +kernel)
theorem tk_778 : (Jvm.Cond.fieldLink "NearSeatsModel" (112 : Nat) "NearSeatsModel" "homes" "I") ∈ tw := tw_t 778 (by decide +kernel) (by decide +kernel)
theorem tk_779 : (Jvm.Cond.fieldLink "NearSeatsModel" (7 : Nat) "NearSeatsModel" "homeX" "[I") ∈ tw := tw_t 779 (by decide +kernel) (by decide +kernel)
theorem tk_780 : (Jvm.Cond.fieldLink "NearSeatsModel" (13 : Nat) "NearSeatsModel" "homeY" "[I") ∈ tw := tw_t 780 (by decide +kernel) (by decide +kernel)
theorem tk_781 : (Jvm.Cond.fieldLink "NearSeatsModel" (16 : Nat) "NearSeatsModel" "headsOf" "[I") ∈ tw := tw_t 781 (by decide +kernel) (by decide +kernel)
theorem tk_782 : (Jvm.Cond.fieldLink "NearSeatsModel" (115 : Nat) "NearSeatsModel" "churches" "I") ∈ tw := tw_t 782 (by decide +kernel) (by decide +kernel)
theorem tk_783 : (Jvm.Cond.fieldLink "NearSeatsModel" (19 : Nat) "NearSeatsModel" "kindOf" "[I") ∈ tw := tw_t 783 (by decide +kernel) (by decide +kernel)
theorem tk_784 : (Jvm.Cond.fieldLink "NearSeatsModel" (22 : Nat) "NearSeatsModel" "churchX" "[I") ∈ tw := tw_t 784 (by decide +kernel) (by decide +kernel)
theorem tk_785 : (Jvm.Cond.fieldLink "NearSeatsModel" (25 : Nat) "NearSeatsModel" "churchY" "[I") ∈ tw := tw_t 785 (by decide +kernel) (by decide +kernel)
theorem tk_786 : (Jvm.Cond.fieldLink "NearSeatsModel" (28 : Nat) "NearSeatsModel" "seatsOf" "[I") ∈ tw := tw_t 786 (by decide +kernel) (by decide +kernel)
theorem tk_787 : (Jvm.Cond.fieldLink "NearSeatsModel" (31 : Nat) "NearSeatsModel" "isBarred" "[Z") ∈ tw := tw_t 787 (by decide +kernel) (by decide +kernel)
theorem tk_788 : (Jvm.Cond.fieldLink "NearSeatsModel" (80 : Nat) "NearSeatsModel" "toll" "I") ∈ tw := tw_t 788 (by decide +kernel) (by decide +kernel)
theorem tk_789 : (Jvm.Cond.fieldLink "NearSeatsModel" (144 : Nat) "NearSeatsModel" "readMany" "I") ∈ tw := tw_t 789 (by decide +kernel) (by decide +kernel)
theorem tk_790 : (Jvm.Cond.fieldLink "NearSeatsModel" (35 : Nat) "NearSeatsModel" "readKind" "[I") ∈ tw := tw_t 790 (by decide +kernel) (by decide +kernel)
theorem tk_791 : (Jvm.Cond.fieldLink "NearSeatsModel" (38 : Nat) "NearSeatsModel" "readNumber" "[I") ∈ tw := tw_t 791 (by decide +kernel) (by decide +kernel)
theorem tk_792 : (Jvm.Cond.fieldLink "NearSeatsModel" (134 : Nat) "NearSeatsModel" "readAt" "I") ∈ tw := tw_t 792 (by decide +kernel) (by decide +kernel)
theorem tk_793 : (Jvm.Cond.fieldLink "NearSeatsModel" (41 : Nat) "NearSeatsModel" "room" "[I") ∈ tw := tw_t 793 (by decide +kernel) (by decide +kernel)
theorem tk_794 : (Jvm.Cond.fieldLink "NearSeatsModel" (44 : Nat) "NearSeatsModel" "cost" "[I") ∈ tw := tw_t 794 (by decide +kernel) (by decide +kernel)
theorem tk_795 : (Jvm.Cond.fieldLink "NearSeatsModel" (47 : Nat) "NearSeatsModel" "sits" "[I") ∈ tw := tw_t 795 (by decide +kernel) (by decide +kernel)
theorem tk_796 : (Jvm.Cond.fieldLink "NearSeatsModel" (50 : Nat) "NearSeatsModel" "dear" "[I") ∈ tw := tw_t 796 (by decide +kernel) (by decide +kernel)
theorem tk_797 : (Jvm.Cond.fieldLink "NearSeatsModel" (53 : Nat) "NearSeatsModel" "cameFrom" "[I") ∈ tw := tw_t 797 (by decide +kernel) (by decide +kernel)
theorem tk_798 : (Jvm.Cond.fieldLink "NearSeatsModel" (56 : Nat) "NearSeatsModel" "whoMoves" "[I") ∈ tw := tw_t 798 (by decide +kernel) (by decide +kernel)
theorem tk_799 : (Jvm.Cond.fieldLink "NearSeatsModel" (59 : Nat) "NearSeatsModel" "weights" "[I") ∈ tw := tw_t 799 (by decide +kernel) (by decide +kernel)
theorem tk_800 : (Jvm.Cond.fieldLink "NearSeatsModel" (239 : Nat) "NearSeatsModel" "places" "I") ∈ tw := tw_t 800 (by decide +kernel) (by decide +kernel)
theorem tk_801 : (Jvm.Cond.fieldLink "NearSeatsModel" (62 : Nat) "NearSeatsModel" "placeX" "[I") ∈ tw := tw_t 801 (by decide +kernel) (by decide +kernel)
theorem tk_802 : (Jvm.Cond.fieldLink "NearSeatsModel" (65 : Nat) "NearSeatsModel" "placeY" "[I") ∈ tw := tw_t 802 (by decide +kernel) (by decide +kernel)
theorem tk_803 : (Jvm.Cond.fieldLink "NearSeatsModel" (68 : Nat) "NearSeatsModel" "sheetSize" "[I") ∈ tw := tw_t 803 (by decide +kernel) (by decide +kernel)
theorem tk_804 : (Jvm.Cond.fieldLink "NearSeatsModel" (71 : Nat) "NearSeatsModel" "sheetLane" "[I") ∈ tw := tw_t 804 (by decide +kernel) (by decide +kernel)
theorem tk_805 : (Jvm.Cond.fieldLink "NearSeatsModel" (74 : Nat) "NearSeatsModel" "sheet" "[I") ∈ tw := tw_t 805 (by decide +kernel) (by decide +kernel)
theorem tk_806 : (Jvm.Cond.fieldLink "NearSeatsModel" (77 : Nat) "NearSeatsModel" "hands" "[I") ∈ tw := tw_t 806 (by decide +kernel) (by decide +kernel)
theorem tk_807 : (Jvm.Cond.fieldLink "NearSeatsModel" (257 : Nat) "NearSeatsModel" "traceNow" "I") ∈ tw := tw_t 807 (by decide +kernel) (by decide +kernel)
theorem tk_871 : (Jvm.Cond.arrayClass Jvm.ClassFile.FieldType.boolean) ∈ tw := tw_t 871 (by decide +kernel) (by decide +kernel)
theorem tk_872 : (Jvm.Cond.methodLink "NearSeatsLaw" (17 : Nat) ({ cls := "NearSeatsModel", name := "home", desc := "(III)I" } : Jvm.MethodName)) ∈ tw := tw_t 872 (by decide +kernel) (by decide +kernel)
theorem tk_873 : (Jvm.Cond.instanceMethod ({ cls := "NearSeatsModel", name := "home", desc := "(III)I" } : Jvm.MethodName)) ∈ tw := tw_t 873 (by decide +kernel) (by decide +kernel)
theorem tk_874 : (Jvm.Cond.selects "NearSeatsModel" ({ cls := "NearSeatsModel", name := "home", desc := "(III)I" } : Jvm.MethodName) ({ cls := "NearSeatsModel", name := "home", desc := "(III)I" } : Jvm.MethodName)) ∈ tw := tw_t 874 (by decide +kernel) (by decide +kernel)
theorem tk_875 : (Jvm.Cond.code ({ cls := "NearSeatsModel", name := "home", desc := "(III)I" } : Jvm.MethodName) prog_9_method_16_code (4 : Nat) (Option.some Jvm.ClassFile.FieldType.int)) ∈ tw := tw_t 875 (by decide +kernel) (by decide +kernel)
theorem tk_876 : (Jvm.Cond.methodLink "NearSeatsModel" (118 : Nat) ({ cls := "NearSeatsModel", name := "isSpot", desc := "(II)Z" } : Jvm.MethodName)) ∈ tw := tw_t 876 (by decide +kernel) (by decide +kernel)
theorem tk_877 : (Jvm.Cond.static ({ cls := "NearSeatsModel", name := "isSpot", desc := "(II)Z" } : Jvm.MethodName)) ∈ tw := tw_t 877 (by decide +kernel) (by decide +kernel)
theorem tk_878 : (Jvm.Cond.code ({ cls := "NearSeatsModel", name := "isSpot", desc := "(II)Z" } : Jvm.MethodName) prog_9_method_7_code (2 : Nat) (Option.some Jvm.ClassFile.FieldType.boolean)) ∈ tw := tw_t 878 (by decide +kernel) (by decide +kernel)
theorem tk_879 : (Jvm.Cond.constantLong "NearSeatsModel" (86 : Nat) (60 : Int64)) ∈ tw := tw_t 879 (by decide +kernel) (by decide +kernel)
theorem tk_880 : (Jvm.Cond.methodLink "NearSeatsModel" (88 : Nat) ({ cls := "NearSeatsModel", name := "in", desc := "(JJJ)Z" } : Jvm.MethodName)) ∈ tw := tw_t 880 (by decide +kernel) (by decide +kernel)
theorem tk_881 : (Jvm.Cond.static ({ cls := "NearSeatsModel", name := "in", desc := "(JJJ)Z" } : Jvm.MethodName)) ∈ tw := tw_t 881 (by decide +kernel) (by decide +kernel)
theorem tk_882 : (Jvm.Cond.code ({ cls := "NearSeatsModel", name := "in", desc := "(JJJ)Z" } : Jvm.MethodName) prog_9_method_2_code (6 : Nat) (Option.some Jvm.ClassFile.FieldType.boolean)) ∈ tw := tw_t 882 (by decide +kernel) (by decide +kernel)
theorem tk_883 : (Jvm.Cond.constantLong "NearSeatsModel" (122 : Nat) (5 : Int64)) ∈ tw := tw_t 883 (by decide +kernel) (by decide +kernel)
theorem tk_884 : (Jvm.Cond.methodLink "NearSeatsModel" (124 : Nat) ({ cls := "NearSeatsModel", name := "addHome", desc := "(III)V" } : Jvm.MethodName)) ∈ tw := tw_t 884 (by decide +kernel) (by decide +kernel)
theorem tk_886 : (Jvm.Cond.instanceMethod ({ cls := "NearSeatsModel", name := "addHome", desc := "(III)V" } : Jvm.MethodName)) ∈ tw := tw_t 886 (by decide +kernel) (by decide +kernel)
theorem tk_887 : (Jvm.Cond.code ({ cls := "NearSeatsModel", name := "addHome", desc := "(III)V" } : Jvm.MethodName) prog_9_method_14_code (4 : Nat) (Option.none : Option Jvm.ClassFile.FieldType)) ∈ tw := tw_t 887 (by decide +kernel) (by decide +kernel)
theorem tk_888 : (Jvm.Cond.methodLink "NearSeatsLaw" (22 : Nat) ({ cls := "NearSeatsModel", name := "church", desc := "(IIII)I" } : Jvm.MethodName)) ∈ tw := tw_t 888 (by decide +kernel) (by decide +kernel)
theorem tk_889 : (Jvm.Cond.instanceMethod ({ cls := "NearSeatsModel", name := "church", desc := "(IIII)I" } : Jvm.MethodName)) ∈ tw := tw_t 889 (by decide +kernel) (by decide +kernel)
theorem tk_890 : (Jvm.Cond.selects "NearSeatsModel" ({ cls := "NearSeatsModel", name := "church", desc := "(IIII)I" } : Jvm.MethodName) ({ cls := "NearSeatsModel", name := "church", desc := "(IIII)I" } : Jvm.MethodName)) ∈ tw := tw_t 890 (by decide +kernel) (by decide +kernel)
theorem tk_891 : (Jvm.Cond.code ({ cls := "NearSeatsModel", name := "church", desc := "(IIII)I" } : Jvm.MethodName) prog_9_method_17_code (5 : Nat) (Option.some Jvm.ClassFile.FieldType.int)) ∈ tw := tw_t 891 (by decide +kernel) (by decide +kernel)
theorem tk_892 : (Jvm.Cond.constantLong "NearSeatsModel" (99 : Nat) (2 : Int64)) ∈ tw := tw_t 892 (by decide +kernel) (by decide +kernel)
theorem tk_893 : (Jvm.Cond.constantLong "NearSeatsModel" (128 : Nat) (50 : Int64)) ∈ tw := tw_t 893 (by decide +kernel) (by decide +kernel)
theorem tk_894 : (Jvm.Cond.methodLink "NearSeatsModel" (130 : Nat) ({ cls := "NearSeatsModel", name := "addChurch", desc := "(IIII)V" } : Jvm.MethodName)) ∈ tw := tw_t 894 (by decide +kernel) (by decide +kernel)
theorem tk_896 : (Jvm.Cond.instanceMethod ({ cls := "NearSeatsModel", name := "addChurch", desc := "(IIII)V" } : Jvm.MethodName)) ∈ tw := tw_t 896 (by decide +kernel) (by decide +kernel)
theorem tk_897 : (Jvm.Cond.code ({ cls := "NearSeatsModel", name := "addChurch", desc := "(IIII)V" } : Jvm.MethodName) prog_9_method_15_code (5 : Nat) (Option.none : Option Jvm.ClassFile.FieldType)) ∈ tw := tw_t 897 (by decide +kernel) (by decide +kernel)
theorem tk_898 : (Jvm.Cond.methodLink "NearSeatsLaw" (26 : Nat) ({ cls := "NearSeatsModel", name := "land", desc := "(IIII)I" } : Jvm.MethodName)) ∈ tw := tw_t 898 (by decide +kernel) (by decide +kernel)
theorem tk_899 : (Jvm.Cond.instanceMethod ({ cls := "NearSeatsModel", name := "land", desc := "(IIII)I" } : Jvm.MethodName)) ∈ tw := tw_t 899 (by decide +kernel) (by decide +kernel)
theorem tk_900 : (Jvm.Cond.selects "NearSeatsModel" ({ cls := "NearSeatsModel", name := "land", desc := "(IIII)I" } : Jvm.MethodName) ({ cls := "NearSeatsModel", name := "land", desc := "(IIII)I" } : Jvm.MethodName)) ∈ tw := tw_t 900 (by decide +kernel) (by decide +kernel)
theorem tk_901 : (Jvm.Cond.code ({ cls := "NearSeatsModel", name := "land", desc := "(IIII)I" } : Jvm.MethodName) prog_9_method_23_code (8 : Nat) (Option.some Jvm.ClassFile.FieldType.int)) ∈ tw := tw_t 901 (by decide +kernel) (by decide +kernel)
theorem tk_902 : (Jvm.Cond.methodLink "NearSeatsModel" (158 : Nat) ({ cls := "NearSeatsModel", name := "noSheet", desc := "(I)Z" } : Jvm.MethodName)) ∈ tw := tw_t 902 (by decide +kernel) (by decide +kernel)
theorem tk_903 : (Jvm.Cond.static ({ cls := "NearSeatsModel", name := "noSheet", desc := "(I)Z" } : Jvm.MethodName)) ∈ tw := tw_t 903 (by decide +kernel) (by decide +kernel)
theorem tk_904 : (Jvm.Cond.code ({ cls := "NearSeatsModel", name := "noSheet", desc := "(I)Z" } : Jvm.MethodName) prog_9_method_58_code (1 : Nat) (Option.some Jvm.ClassFile.FieldType.boolean)) ∈ tw := tw_t 904 (by decide +kernel) (by decide +kernel)
theorem tk_905 : (Jvm.Cond.constantLong "NearSeatsModel" (248 : Nat) (3 : Int64)) ∈ tw := tw_t 905 (by decide +kernel) (by decide +kernel)
theorem tk_906 : (Jvm.Cond.methodLink "NearSeatsModel" (101 : Nat) ({ cls := "NearSeatsModel", name := "refused", desc := "(I)I" } : Jvm.MethodName)) ∈ tw := tw_t 906 (by decide +kernel) (by decide +kernel)
theorem tk_908 : (Jvm.Cond.instanceMethod ({ cls := "NearSeatsModel", name := "refused", desc := "(I)I" } : Jvm.MethodName)) ∈ tw := tw_t 908 (by decide +kernel) (by decide +kernel)
theorem tk_909 : (Jvm.Cond.code ({ cls := "NearSeatsModel", name := "refused", desc := "(I)I" } : Jvm.MethodName) prog_9_method_8_code (2 : Nat) (Option.some Jvm.ClassFile.FieldType.int)) ∈ tw := tw_t 909 (by decide +kernel) (by decide +kernel)
theorem tk_910 : (Jvm.Cond.methodLink "NearSeatsModel" (162 : Nat) ({ cls := "NearSeatsModel", name := "refusal", desc := "(IIIJ)I" } : Jvm.MethodName)) ∈ tw := tw_t 910 (by decide +kernel) (by decide +kernel)
theorem tk_912 : (Jvm.Cond.instanceMethod ({ cls := "NearSeatsModel", name := "refusal", desc := "(IIIJ)I" } : Jvm.MethodName)) ∈ tw := tw_t 912 (by decide +kernel) (by decide +kernel)
theorem tk_913 : (Jvm.Cond.code ({ cls := "NearSeatsModel", name := "refusal", desc := "(IIIJ)I" } : Jvm.MethodName) prog_9_method_11_code (6 : Nat) (Option.some Jvm.ClassFile.FieldType.int)) ∈ tw := tw_t 913 (by decide +kernel) (by decide +kernel)
theorem tk_914 : (Jvm.Cond.methodLink "NearSeatsModel" (105 : Nat) ({ cls := "NearSeatsModel", name := "failed", desc := "(I)I" } : Jvm.MethodName)) ∈ tw := tw_t 914 (by decide +kernel) (by decide +kernel)
theorem tk_916 : (Jvm.Cond.instanceMethod ({ cls := "NearSeatsModel", name := "failed", desc := "(I)I" } : Jvm.MethodName)) ∈ tw := tw_t 916 (by decide +kernel) (by decide +kernel)
theorem tk_917 : (Jvm.Cond.code ({ cls := "NearSeatsModel", name := "failed", desc := "(I)I" } : Jvm.MethodName) prog_9_method_9_code (2 : Nat) (Option.some Jvm.ClassFile.FieldType.int)) ∈ tw := tw_t 917 (by decide +kernel) (by decide +kernel)
theorem tk_918 : (Jvm.Cond.methodLink "NearSeatsModel" (108 : Nat) ({ cls := "NearSeatsModel", name := "isBeyond", desc := "(IJI)Z" } : Jvm.MethodName)) ∈ tw := tw_t 918 (by decide +kernel) (by decide +kernel)
theorem tk_919 : (Jvm.Cond.static ({ cls := "NearSeatsModel", name := "isBeyond", desc := "(IJI)Z" } : Jvm.MethodName)) ∈ tw := tw_t 919 (by decide +kernel) (by decide +kernel)
theorem tk_920 : (Jvm.Cond.code ({ cls := "NearSeatsModel", name := "isBeyond", desc := "(IJI)Z" } : Jvm.MethodName) prog_9_method_64_code (4 : Nat) (Option.some Jvm.ClassFile.FieldType.boolean)) ∈ tw := tw_t 920 (by decide +kernel) (by decide +kernel)
theorem tk_921 : (Jvm.Cond.methodLink "NearSeatsModel" (166 : Nat) ({ cls := "NearSeatsModel", name := "read", desc := "(II)I" } : Jvm.MethodName)) ∈ tw := tw_t 921 (by decide +kernel) (by decide +kernel)
theorem tk_923 : (Jvm.Cond.instanceMethod ({ cls := "NearSeatsModel", name := "read", desc := "(II)I" } : Jvm.MethodName)) ∈ tw := tw_t 923 (by decide +kernel) (by decide +kernel)
theorem tk_924 : (Jvm.Cond.code ({ cls := "NearSeatsModel", name := "read", desc := "(II)I" } : Jvm.MethodName) prog_9_method_22_code (4 : Nat) (Option.some Jvm.ClassFile.FieldType.int)) ∈ tw := tw_t 924 (by decide +kernel) (by decide +kernel)
theorem tk_925 : (Jvm.Cond.methodLink "NearSeatsModel" (155 : Nat) ({ cls := "NearSeatsModel", name := "readsItem", desc := "(II)Z" } : Jvm.MethodName)) ∈ tw := tw_t 925 (by decide +kernel) (by decide +kernel)
theorem tk_927 : (Jvm.Cond.instanceMethod ({ cls := "NearSeatsModel", name := "readsItem", desc := "(II)Z" } : Jvm.MethodName)) ∈ tw := tw_t 927 (by decide +kernel) (by decide +kernel)
theorem tk_928 : (Jvm.Cond.code ({ cls := "NearSeatsModel", name := "readsItem", desc := "(II)Z" } : Jvm.MethodName) prog_9_method_21_code (7 : Nat) (Option.some Jvm.ClassFile.FieldType.boolean)) ∈ tw := tw_t 928 (by decide +kernel) (by decide +kernel)
theorem tk_929 : (Jvm.Cond.methodLink "NearSeatsModel" (141 : Nat) ({ cls := "NearSeatsModel", name := "kindBy", desc := "(I)I" } : Jvm.MethodName)) ∈ tw := tw_t 929 (by decide +kernel) (by decide +kernel)
theorem tk_930 : (Jvm.Cond.static ({ cls := "NearSeatsModel", name := "kindBy", desc := "(I)I" } : Jvm.MethodName)) ∈ tw := tw_t 930 (by decide +kernel) (by decide +kernel)
theorem tk_931 : (Jvm.Cond.code ({ cls := "NearSeatsModel", name := "kindBy", desc := "(I)I" } : Jvm.MethodName) prog_9_method_18_code (1 : Nat) (Option.some Jvm.ClassFile.FieldType.int)) ∈ tw := tw_t 931 (by decide +kernel) (by decide +kernel)
theorem tk_932 : (Jvm.Cond.methodLink "NearSeatsModel" (147 : Nat) ({ cls := "NearSeatsModel", name := "readsNumber", desc := "(IIIII)Z" } : Jvm.MethodName)) ∈ tw := tw_t 932 (by decide +kernel) (by decide +kernel)
theorem tk_934 : (Jvm.Cond.instanceMethod ({ cls := "NearSeatsModel", name := "readsNumber", desc := "(IIIII)Z" } : Jvm.MethodName)) ∈ tw := tw_t 934 (by decide +kernel) (by decide +kernel)
theorem tk_935 : (Jvm.Cond.code ({ cls := "NearSeatsModel", name := "readsNumber", desc := "(IIIII)Z" } : Jvm.MethodName) prog_9_method_19_code (8 : Nat) (Option.some Jvm.ClassFile.FieldType.boolean)) ∈ tw := tw_t 935 (by decide +kernel) (by decide +kernel)
theorem tk_936 : (Jvm.Cond.constantLong "NearSeatsModel" (137 : Nat) (48 : Int64)) ∈ tw := tw_t 936 (by decide +kernel) (by decide +kernel)
theorem tk_937 : (Jvm.Cond.constantLong "NearSeatsModel" (139 : Nat) (57 : Int64)) ∈ tw := tw_t 937 (by decide +kernel) (by decide +kernel)
theorem tk_938 : (Jvm.Cond.methodLink "NearSeatsModel" (151 : Nat) ({ cls := "NearSeatsModel", name := "readsSign", desc := "(III)Z" } : Jvm.MethodName)) ∈ tw := tw_t 938 (by decide +kernel) (by decide +kernel)
theorem tk_940 : (Jvm.Cond.instanceMethod ({ cls := "NearSeatsModel", name := "readsSign", desc := "(III)Z" } : Jvm.MethodName)) ∈ tw := tw_t 940 (by decide +kernel) (by decide +kernel)
theorem tk_941 : (Jvm.Cond.code ({ cls := "NearSeatsModel", name := "readsSign", desc := "(III)Z" } : Jvm.MethodName) prog_9_method_20_code (5 : Nat) (Option.some Jvm.ClassFile.FieldType.boolean)) ∈ tw := tw_t 941 (by decide +kernel) (by decide +kernel)
theorem tk_942 : (Jvm.Cond.methodLink "NearSeatsLaw" (31 : Nat) ({ cls := "NearSeatsModel", name := "ofHome", desc := "(II)I" } : Jvm.MethodName)) ∈ tw := tw_t 942 (by decide +kernel) (by decide +kernel)
theorem tk_943 : (Jvm.Cond.instanceMethod ({ cls := "NearSeatsModel", name := "ofHome", desc := "(II)I" } : Jvm.MethodName)) ∈ tw := tw_t 943 (by decide +kernel) (by decide +kernel)
theorem tk_944 : (Jvm.Cond.selects "NearSeatsModel" ({ cls := "NearSeatsModel", name := "ofHome", desc := "(II)I" } : Jvm.MethodName) ({ cls := "NearSeatsModel", name := "ofHome", desc := "(II)I" } : Jvm.MethodName)) ∈ tw := tw_t 944 (by decide +kernel) (by decide +kernel)
theorem tk_945 : (Jvm.Cond.code ({ cls := "NearSeatsModel", name := "ofHome", desc := "(II)I" } : Jvm.MethodName) prog_9_method_24_code (3 : Nat) (Option.some Jvm.ClassFile.FieldType.int)) ∈ tw := tw_t 945 (by decide +kernel) (by decide +kernel)
theorem tk_946 : (Jvm.Cond.methodLink "NearSeatsModel" (170 : Nat) ({ cls := "NearSeatsModel", name := "noHome", desc := "(I)Z" } : Jvm.MethodName)) ∈ tw := tw_t 946 (by decide +kernel) (by decide +kernel)
theorem tk_948 : (Jvm.Cond.instanceMethod ({ cls := "NearSeatsModel", name := "noHome", desc := "(I)Z" } : Jvm.MethodName)) ∈ tw := tw_t 948 (by decide +kernel) (by decide +kernel)
theorem tk_949 : (Jvm.Cond.code ({ cls := "NearSeatsModel", name := "noHome", desc := "(I)Z" } : Jvm.MethodName) prog_9_method_12_code (2 : Nat) (Option.some Jvm.ClassFile.FieldType.boolean)) ∈ tw := tw_t 949 (by decide +kernel) (by decide +kernel)
theorem tk_950 : (Jvm.Cond.methodLink "NearSeatsLaw" (35 : Nat) ({ cls := "NearSeatsModel", name := "ofChurch", desc := "(II)I" } : Jvm.MethodName)) ∈ tw := tw_t 950 (by decide +kernel) (by decide +kernel)
theorem tk_951 : (Jvm.Cond.instanceMethod ({ cls := "NearSeatsModel", name := "ofChurch", desc := "(II)I" } : Jvm.MethodName)) ∈ tw := tw_t 951 (by decide +kernel) (by decide +kernel)
theorem tk_952 : (Jvm.Cond.selects "NearSeatsModel" ({ cls := "NearSeatsModel", name := "ofChurch", desc := "(II)I" } : Jvm.MethodName) ({ cls := "NearSeatsModel", name := "ofChurch", desc := "(II)I" } : Jvm.MethodName)) ∈ tw := tw_t 952 (by decide +kernel) (by decide +kernel)
theorem tk_953 : (Jvm.Cond.code ({ cls := "NearSeatsModel", name := "ofChurch", desc := "(II)I" } : Jvm.MethodName) prog_9_method_25_code (3 : Nat) (Option.some Jvm.ClassFile.FieldType.int)) ∈ tw := tw_t 953 (by decide +kernel) (by decide +kernel)
theorem tk_954 : (Jvm.Cond.methodLink "NearSeatsModel" (173 : Nat) ({ cls := "NearSeatsModel", name := "noChurch", desc := "(I)Z" } : Jvm.MethodName)) ∈ tw := tw_t 954 (by decide +kernel) (by decide +kernel)
theorem tk_956 : (Jvm.Cond.instanceMethod ({ cls := "NearSeatsModel", name := "noChurch", desc := "(I)Z" } : Jvm.MethodName)) ∈ tw := tw_t 956 (by decide +kernel) (by decide +kernel)
theorem tk_957 : (Jvm.Cond.code ({ cls := "NearSeatsModel", name := "noChurch", desc := "(I)Z" } : Jvm.MethodName) prog_9_method_13_code (2 : Nat) (Option.some Jvm.ClassFile.FieldType.boolean)) ∈ tw := tw_t 957 (by decide +kernel) (by decide +kernel)
theorem tk_958 : (Jvm.Cond.methodLink "NearSeatsLaw" (40 : Nat) ({ cls := "NearSeatsModel", name := "bar", desc := "(IIZ)I" } : Jvm.MethodName)) ∈ tw := tw_t 958 (by decide +kernel) (by decide +kernel)
theorem tk_959 : (Jvm.Cond.instanceMethod ({ cls := "NearSeatsModel", name := "bar", desc := "(IIZ)I" } : Jvm.MethodName)) ∈ tw := tw_t 959 (by decide +kernel) (by decide +kernel)
theorem tk_960 : (Jvm.Cond.selects "NearSeatsModel" ({ cls := "NearSeatsModel", name := "bar", desc := "(IIZ)I" } : Jvm.MethodName) ({ cls := "NearSeatsModel", name := "bar", desc := "(IIZ)I" } : Jvm.MethodName)) ∈ tw := tw_t 960 (by decide +kernel) (by decide +kernel)
theorem tk_961 : (Jvm.Cond.code ({ cls := "NearSeatsModel", name := "bar", desc := "(IIZ)I" } : Jvm.MethodName) prog_9_method_26_code (5 : Nat) (Option.some Jvm.ClassFile.FieldType.int)) ∈ tw := tw_t 961 (by decide +kernel) (by decide +kernel)
theorem tk_962 : (Jvm.Cond.methodLink "NearSeatsLaw" (44 : Nat) ({ cls := "NearSeatsModel", name := "seats", desc := "(II)I" } : Jvm.MethodName)) ∈ tw := tw_t 962 (by decide +kernel) (by decide +kernel)
theorem tk_963 : (Jvm.Cond.instanceMethod ({ cls := "NearSeatsModel", name := "seats", desc := "(II)I" } : Jvm.MethodName)) ∈ tw := tw_t 963 (by decide +kernel) (by decide +kernel)
theorem tk_964 : (Jvm.Cond.selects "NearSeatsModel" ({ cls := "NearSeatsModel", name := "seats", desc := "(II)I" } : Jvm.MethodName) ({ cls := "NearSeatsModel", name := "seats", desc := "(II)I" } : Jvm.MethodName)) ∈ tw := tw_t 964 (by decide +kernel) (by decide +kernel)
theorem tk_965 : (Jvm.Cond.code ({ cls := "NearSeatsModel", name := "seats", desc := "(II)I" } : Jvm.MethodName) prog_9_method_27_code (4 : Nat) (Option.some Jvm.ClassFile.FieldType.int)) ∈ tw := tw_t 965 (by decide +kernel) (by decide +kernel)
theorem tk_966 : (Jvm.Cond.methodLink "NearSeatsLaw" (49 : Nat) ({ cls := "NearSeatsModel", name := "toll", desc := "(I)I" } : Jvm.MethodName)) ∈ tw := tw_t 966 (by decide +kernel) (by decide +kernel)
theorem tk_967 : (Jvm.Cond.instanceMethod ({ cls := "NearSeatsModel", name := "toll", desc := "(I)I" } : Jvm.MethodName)) ∈ tw := tw_t 967 (by decide +kernel) (by decide +kernel)
theorem tk_968 : (Jvm.Cond.selects "NearSeatsModel" ({ cls := "NearSeatsModel", name := "toll", desc := "(I)I" } : Jvm.MethodName) ({ cls := "NearSeatsModel", name := "toll", desc := "(I)I" } : Jvm.MethodName)) ∈ tw := tw_t 968 (by decide +kernel) (by decide +kernel)
theorem tk_969 : (Jvm.Cond.code ({ cls := "NearSeatsModel", name := "toll", desc := "(I)I" } : Jvm.MethodName) prog_9_method_28_code (3 : Nat) (Option.some Jvm.ClassFile.FieldType.int)) ∈ tw := tw_t 969 (by decide +kernel) (by decide +kernel)
theorem tk_970 : (Jvm.Cond.constantLong "NearSeatsModel" (176 : Nat) (999 : Int64)) ∈ tw := tw_t 970 (by decide +kernel) (by decide +kernel)
theorem tk_971 : (Jvm.Cond.methodLink "NearSeatsLaw" (53 : Nat) ({ cls := "NearSeatsModel", name := "far", desc := "(III)I" } : Jvm.MethodName)) ∈ tw := tw_t 971 (by decide +kernel) (by decide +kernel)
theorem tk_972 : (Jvm.Cond.instanceMethod ({ cls := "NearSeatsModel", name := "far", desc := "(III)I" } : Jvm.MethodName)) ∈ tw := tw_t 972 (by decide +kernel) (by decide +kernel)
theorem tk_973 : (Jvm.Cond.selects "NearSeatsModel" ({ cls := "NearSeatsModel", name := "far", desc := "(III)I" } : Jvm.MethodName) ({ cls := "NearSeatsModel", name := "far", desc := "(III)I" } : Jvm.MethodName)) ∈ tw := tw_t 973 (by decide +kernel) (by decide +kernel)
theorem tk_974 : (Jvm.Cond.code ({ cls := "NearSeatsModel", name := "far", desc := "(III)I" } : Jvm.MethodName) prog_9_method_30_code (4 : Nat) (Option.some Jvm.ClassFile.FieldType.int)) ∈ tw := tw_t 974 (by decide +kernel) (by decide +kernel)
theorem tk_975 : (Jvm.Cond.methodLink "NearSeatsModel" (181 : Nat) ({ cls := "NearSeatsModel", name := "farOf", desc := "(III)I" } : Jvm.MethodName)) ∈ tw := tw_t 975 (by decide +kernel) (by decide +kernel)
theorem tk_977 : (Jvm.Cond.instanceMethod ({ cls := "NearSeatsModel", name := "farOf", desc := "(III)I" } : Jvm.MethodName)) ∈ tw := tw_t 977 (by decide +kernel) (by decide +kernel)
theorem tk_978 : (Jvm.Cond.code ({ cls := "NearSeatsModel", name := "farOf", desc := "(III)I" } : Jvm.MethodName) prog_9_method_29_code (7 : Nat) (Option.some Jvm.ClassFile.FieldType.int)) ∈ tw := tw_t 978 (by decide +kernel) (by decide +kernel)
theorem tk_979 : (Jvm.Cond.methodLink "NearSeatsModel" (178 : Nat) ({ cls := "NearSeatsModel", name := "sizeOf", desc := "(I)I" } : Jvm.MethodName)) ∈ tw := tw_t 979 (by decide +kernel) (by decide +kernel)
theorem tk_980 : (Jvm.Cond.static ({ cls := "NearSeatsModel", name := "sizeOf", desc := "(I)I" } : Jvm.MethodName)) ∈ tw := tw_t 980 (by decide +kernel) (by decide +kernel)
theorem tk_981 : (Jvm.Cond.code ({ cls := "NearSeatsModel", name := "sizeOf", desc := "(I)I" } : Jvm.MethodName) prog_9_method_6_code (1 : Nat) (Option.some Jvm.ClassFile.FieldType.int)) ∈ tw := tw_t 981 (by decide +kernel) (by decide +kernel)
theorem tk_982 : (Jvm.Cond.methodLink "NearSeatsLaw" (58 : Nat) ({ cls := "NearSeatsModel", name := "miles", desc := "()I" } : Jvm.MethodName)) ∈ tw := tw_t 982 (by decide +kernel) (by decide +kernel)
theorem tk_983 : (Jvm.Cond.instanceMethod ({ cls := "NearSeatsModel", name := "miles", desc := "()I" } : Jvm.MethodName)) ∈ tw := tw_t 983 (by decide +kernel) (by decide +kernel)
theorem tk_984 : (Jvm.Cond.selects "NearSeatsModel" ({ cls := "NearSeatsModel", name := "miles", desc := "()I" } : Jvm.MethodName) ({ cls := "NearSeatsModel", name := "miles", desc := "()I" } : Jvm.MethodName)) ∈ tw := tw_t 984 (by decide +kernel) (by decide +kernel)
theorem tk_985 : (Jvm.Cond.code ({ cls := "NearSeatsModel", name := "miles", desc := "()I" } : Jvm.MethodName) prog_9_method_38_code (1 : Nat) (Option.some Jvm.ClassFile.FieldType.int)) ∈ tw := tw_t 985 (by decide +kernel) (by decide +kernel)
theorem tk_986 : (Jvm.Cond.methodLink "NearSeatsModel" (207 : Nat) ({ cls := "NearSeatsModel", name := "milesNow", desc := "()I" } : Jvm.MethodName)) ∈ tw := tw_t 986 (by decide +kernel) (by decide +kernel)
theorem tk_988 : (Jvm.Cond.instanceMethod ({ cls := "NearSeatsModel", name := "milesNow", desc := "()I" } : Jvm.MethodName)) ∈ tw := tw_t 988 (by decide +kernel) (by decide +kernel)
theorem tk_989 : (Jvm.Cond.code ({ cls := "NearSeatsModel", name := "milesNow", desc := "()I" } : Jvm.MethodName) prog_9_method_37_code (1 : Nat) (Option.some Jvm.ClassFile.FieldType.int)) ∈ tw := tw_t 989 (by decide +kernel) (by decide +kernel)
theorem tk_990 : (Jvm.Cond.constant "NearSeatsModel" (199 : Nat) (99999999 : Int32)) ∈ tw := tw_t 990 (by decide +kernel) (by decide +kernel)
theorem tk_991 : (Jvm.Cond.methodLink "NearSeatsModel" (200 : Nat) ({ cls := "NearSeatsModel", name := "layCosts", desc := "(I)V" } : Jvm.MethodName)) ∈ tw := tw_t 991 (by decide +kernel) (by decide +kernel)
theorem tk_993 : (Jvm.Cond.instanceMethod ({ cls := "NearSeatsModel", name := "layCosts", desc := "(I)V" } : Jvm.MethodName)) ∈ tw := tw_t 993 (by decide +kernel) (by decide +kernel)
theorem tk_994 : (Jvm.Cond.code ({ cls := "NearSeatsModel", name := "layCosts", desc := "(I)V" } : Jvm.MethodName) prog_9_method_31_code (5 : Nat) (Option.none : Option Jvm.ClassFile.FieldType)) ∈ tw := tw_t 994 (by decide +kernel) (by decide +kernel)
theorem tk_995 : (Jvm.Cond.constant "NearSeatsModel" (185 : Nat) (100000000 : Int32)) ∈ tw := tw_t 995 (by decide +kernel) (by decide +kernel)
theorem tk_996 : (Jvm.Cond.methodLink "NearSeatsModel" (203 : Nat) ({ cls := "NearSeatsModel", name := "leastMiles", desc := "()I" } : Jvm.MethodName)) ∈ tw := tw_t 996 (by decide +kernel) (by decide +kernel)
theorem tk_998 : (Jvm.Cond.instanceMethod ({ cls := "NearSeatsModel", name := "leastMiles", desc := "()I" } : Jvm.MethodName)) ∈ tw := tw_t 998 (by decide +kernel) (by decide +kernel)
theorem tk_999 : (Jvm.Cond.code ({ cls := "NearSeatsModel", name := "leastMiles", desc := "()I" } : Jvm.MethodName) prog_9_method_36_code (5 : Nat) (Option.some Jvm.ClassFile.FieldType.int)) ∈ tw := tw_t 999 (by decide +kernel) (by decide +kernel)
theorem tk_1000 : (Jvm.Cond.methodLink "NearSeatsModel" (196 : Nat) ({ cls := "NearSeatsModel", name := "seatOne", desc := "(I)I" } : Jvm.MethodName)) ∈ tw := tw_t 1000 (by decide +kernel) (by decide +kernel)
theorem tk_1002 : (Jvm.Cond.instanceMethod ({ cls := "NearSeatsModel", name := "seatOne", desc := "(I)I" } : Jvm.MethodName)) ∈ tw := tw_t 1002 (by decide +kernel) (by decide +kernel)
theorem tk_1003 : (Jvm.Cond.code ({ cls := "NearSeatsModel", name := "seatOne", desc := "(I)I" } : Jvm.MethodName) prog_9_method_35_code (5 : Nat) (Option.some Jvm.ClassFile.FieldType.int)) ∈ tw := tw_t 1003 (by decide +kernel) (by decide +kernel)
theorem tk_1004 : (Jvm.Cond.methodLink "NearSeatsModel" (189 : Nat) ({ cls := "NearSeatsModel", name := "layDear", desc := "(I)V" } : Jvm.MethodName)) ∈ tw := tw_t 1004 (by decide +kernel) (by decide +kernel)
theorem tk_1006 : (Jvm.Cond.instanceMethod ({ cls := "NearSeatsModel", name := "layDear", desc := "(I)V" } : Jvm.MethodName)) ∈ tw := tw_t 1006 (by decide +kernel) (by decide +kernel)
theorem tk_1007 : (Jvm.Cond.code ({ cls := "NearSeatsModel", name := "layDear", desc := "(I)V" } : Jvm.MethodName) prog_9_method_34_code (7 : Nat) (Option.none : Option Jvm.ClassFile.FieldType)) ∈ tw := tw_t 1007 (by decide +kernel) (by decide +kernel)
theorem tk_1008 : (Jvm.Cond.methodLink "NearSeatsModel" (186 : Nat) ({ cls := "NearSeatsModel", name := "moverOf", desc := "(II)I" } : Jvm.MethodName)) ∈ tw := tw_t 1008 (by decide +kernel) (by decide +kernel)
theorem tk_1010 : (Jvm.Cond.instanceMethod ({ cls := "NearSeatsModel", name := "moverOf", desc := "(II)I" } : Jvm.MethodName)) ∈ tw := tw_t 1010 (by decide +kernel) (by decide +kernel)
theorem tk_1011 : (Jvm.Cond.code ({ cls := "NearSeatsModel", name := "moverOf", desc := "(II)I" } : Jvm.MethodName) prog_9_method_33_code (7 : Nat) (Option.some Jvm.ClassFile.FieldType.int)) ∈ tw := tw_t 1011 (by decide +kernel) (by decide +kernel)
theorem tk_1012 : (Jvm.Cond.methodLink "NearSeatsModel" (193 : Nat) ({ cls := "NearSeatsModel", name := "takenIn", desc := "(I)I" } : Jvm.MethodName)) ∈ tw := tw_t 1012 (by decide +kernel) (by decide +kernel)
theorem tk_1014 : (Jvm.Cond.instanceMethod ({ cls := "NearSeatsModel", name := "takenIn", desc := "(I)I" } : Jvm.MethodName)) ∈ tw := tw_t 1014 (by decide +kernel) (by decide +kernel)
theorem tk_1015 : (Jvm.Cond.code ({ cls := "NearSeatsModel", name := "takenIn", desc := "(I)I" } : Jvm.MethodName) prog_9_method_32_code (4 : Nat) (Option.some Jvm.ClassFile.FieldType.int)) ∈ tw := tw_t 1015 (by decide +kernel) (by decide +kernel)
theorem tk_1016 : (Jvm.Cond.methodLink "NearSeatsLaw" (62 : Nat) ({ cls := "NearSeatsModel", name := "few", desc := "()I" } : Jvm.MethodName)) ∈ tw := tw_t 1016 (by decide +kernel) (by decide +kernel)
theorem tk_1017 : (Jvm.Cond.instanceMethod ({ cls := "NearSeatsModel", name := "few", desc := "()I" } : Jvm.MethodName)) ∈ tw := tw_t 1017 (by decide +kernel) (by decide +kernel)
theorem tk_1018 : (Jvm.Cond.selects "NearSeatsModel" ({ cls := "NearSeatsModel", name := "few", desc := "()I" } : Jvm.MethodName) ({ cls := "NearSeatsModel", name := "few", desc := "()I" } : Jvm.MethodName)) ∈ tw := tw_t 1018 (by decide +kernel) (by decide +kernel)
theorem tk_1019 : (Jvm.Cond.code ({ cls := "NearSeatsModel", name := "few", desc := "()I" } : Jvm.MethodName) prog_9_method_39_code (7 : Nat) (Option.some Jvm.ClassFile.FieldType.int)) ∈ tw := tw_t 1019 (by decide +kernel) (by decide +kernel)
theorem tk_1020 : (Jvm.Cond.methodLink "NearSeatsModel" (210 : Nat) ({ cls := "NearSeatsModel", name := "hasBit", desc := "(II)Z" } : Jvm.MethodName)) ∈ tw := tw_t 1020 (by decide +kernel) (by decide +kernel)
theorem tk_1021 : (Jvm.Cond.static ({ cls := "NearSeatsModel", name := "hasBit", desc := "(II)Z" } : Jvm.MethodName)) ∈ tw := tw_t 1021 (by decide +kernel) (by decide +kernel)
theorem tk_1022 : (Jvm.Cond.code ({ cls := "NearSeatsModel", name := "hasBit", desc := "(II)Z" } : Jvm.MethodName) prog_9_method_4_code (2 : Nat) (Option.some Jvm.ClassFile.FieldType.boolean)) ∈ tw := tw_t 1022 (by decide +kernel) (by decide +kernel)
theorem tk_1023 : (Jvm.Cond.methodLink "NearSeatsLaw" (66 : Nat) ({ cls := "NearSeatsModel", name := "weight", desc := "(I)I" } : Jvm.MethodName)) ∈ tw := tw_t 1023 (by decide +kernel) (by decide +kernel)
theorem tk_1024 : (Jvm.Cond.instanceMethod ({ cls := "NearSeatsModel", name := "weight", desc := "(I)I" } : Jvm.MethodName)) ∈ tw := tw_t 1024 (by decide +kernel) (by decide +kernel)
theorem tk_1025 : (Jvm.Cond.selects "NearSeatsModel" ({ cls := "NearSeatsModel", name := "weight", desc := "(I)I" } : Jvm.MethodName) ({ cls := "NearSeatsModel", name := "weight", desc := "(I)I" } : Jvm.MethodName)) ∈ tw := tw_t 1025 (by decide +kernel) (by decide +kernel)
theorem tk_1026 : (Jvm.Cond.code ({ cls := "NearSeatsModel", name := "weight", desc := "(I)I" } : Jvm.MethodName) prog_9_method_41_code (2 : Nat) (Option.some Jvm.ClassFile.FieldType.int)) ∈ tw := tw_t 1026 (by decide +kernel) (by decide +kernel)
theorem tk_1027 : (Jvm.Cond.methodLink "NearSeatsModel" (213 : Nat) ({ cls := "NearSeatsModel", name := "layWeights", desc := "()Z" } : Jvm.MethodName)) ∈ tw := tw_t 1027 (by decide +kernel) (by decide +kernel)
theorem tk_1029 : (Jvm.Cond.instanceMethod ({ cls := "NearSeatsModel", name := "layWeights", desc := "()Z" } : Jvm.MethodName)) ∈ tw := tw_t 1029 (by decide +kernel) (by decide +kernel)
theorem tk_1030 : (Jvm.Cond.code ({ cls := "NearSeatsModel", name := "layWeights", desc := "()Z" } : Jvm.MethodName) prog_9_method_40_code (3 : Nat) (Option.some Jvm.ClassFile.FieldType.boolean)) ∈ tw := tw_t 1030 (by decide +kernel) (by decide +kernel)
theorem tk_1031 : (Jvm.Cond.methodLink "NearSeatsLaw" (70 : Nat) ({ cls := "NearSeatsModel", name := "line", desc := "(I)I" } : Jvm.MethodName)) ∈ tw := tw_t 1031 (by decide +kernel) (by decide +kernel)
theorem tk_1032 : (Jvm.Cond.instanceMethod ({ cls := "NearSeatsModel", name := "line", desc := "(I)I" } : Jvm.MethodName)) ∈ tw := tw_t 1032 (by decide +kernel) (by decide +kernel)
theorem tk_1033 : (Jvm.Cond.selects "NearSeatsModel" ({ cls := "NearSeatsModel", name := "line", desc := "(I)I" } : Jvm.MethodName) ({ cls := "NearSeatsModel", name := "line", desc := "(I)I" } : Jvm.MethodName)) ∈ tw := tw_t 1033 (by decide +kernel) (by decide +kernel)
theorem tk_1034 : (Jvm.Cond.code ({ cls := "NearSeatsModel", name := "line", desc := "(I)I" } : Jvm.MethodName) prog_9_method_42_code (6 : Nat) (Option.some Jvm.ClassFile.FieldType.int)) ∈ tw := tw_t 1034 (by decide +kernel) (by decide +kernel)
theorem tk_1035 : (Jvm.Cond.methodLink "NearSeatsLaw" (74 : Nat) ({ cls := "NearSeatsModel", name := "check", desc := "(IIII)I" } : Jvm.MethodName)) ∈ tw := tw_t 1035 (by decide +kernel) (by decide +kernel)
theorem tk_1036 : (Jvm.Cond.instanceMethod ({ cls := "NearSeatsModel", name := "check", desc := "(IIII)I" } : Jvm.MethodName)) ∈ tw := tw_t 1036 (by decide +kernel) (by decide +kernel)
theorem tk_1037 : (Jvm.Cond.selects "NearSeatsModel" ({ cls := "NearSeatsModel", name := "check", desc := "(IIII)I" } : Jvm.MethodName) ({ cls := "NearSeatsModel", name := "check", desc := "(IIII)I" } : Jvm.MethodName)) ∈ tw := tw_t 1037 (by decide +kernel) (by decide +kernel)
theorem tk_1038 : (Jvm.Cond.code ({ cls := "NearSeatsModel", name := "check", desc := "(IIII)I" } : Jvm.MethodName) prog_9_method_45_code (10 : Nat) (Option.some Jvm.ClassFile.FieldType.int)) ∈ tw := tw_t 1038 (by decide +kernel) (by decide +kernel)
theorem tk_1039 : (Jvm.Cond.methodLink "NearSeatsModel" (221 : Nat) ({ cls := "NearSeatsModel", name := "holdsIn", desc := "(III)Z" } : Jvm.MethodName)) ∈ tw := tw_t 1039 (by decide +kernel) (by decide +kernel)
theorem tk_1041 : (Jvm.Cond.instanceMethod ({ cls := "NearSeatsModel", name := "holdsIn", desc := "(III)Z" } : Jvm.MethodName)) ∈ tw := tw_t 1041 (by decide +kernel) (by decide +kernel)
theorem tk_1042 : (Jvm.Cond.code ({ cls := "NearSeatsModel", name := "holdsIn", desc := "(III)Z" } : Jvm.MethodName) prog_9_method_44_code (7 : Nat) (Option.some Jvm.ClassFile.FieldType.boolean)) ∈ tw := tw_t 1042 (by decide +kernel) (by decide +kernel)
theorem tk_1043 : (Jvm.Cond.constantLong "NearSeatsModel" (219 : Nat) (1000000000 : Int64)) ∈ tw := tw_t 1043 (by decide +kernel) (by decide +kernel)
theorem tk_1044 : (Jvm.Cond.methodLink "NearSeatsModel" (224 : Nat) ({ cls := "NearSeatsModel", name := "holdsFor", desc := "(III)Z" } : Jvm.MethodName)) ∈ tw := tw_t 1044 (by decide +kernel) (by decide +kernel)
theorem tk_1046 : (Jvm.Cond.instanceMethod ({ cls := "NearSeatsModel", name := "holdsFor", desc := "(III)Z" } : Jvm.MethodName)) ∈ tw := tw_t 1046 (by decide +kernel) (by decide +kernel)
theorem tk_1047 : (Jvm.Cond.code ({ cls := "NearSeatsModel", name := "holdsFor", desc := "(III)Z" } : Jvm.MethodName) prog_9_method_43_code (13 : Nat) (Option.some Jvm.ClassFile.FieldType.boolean)) ∈ tw := tw_t 1047 (by decide +kernel) (by decide +kernel)
theorem tk_1048 : (Jvm.Cond.constantLong "NearSeatsModel" (217 : Nat) (10000000000 : Int64)) ∈ tw := tw_t 1048 (by decide +kernel) (by decide +kernel)
theorem tk_1049 : (Jvm.Cond.methodLink "NearSeatsLaw" (78 : Nat) ({ cls := "NearSeatsModel", name := "family", desc := "(I)I" } : Jvm.MethodName)) ∈ tw := tw_t 1049 (by decide +kernel) (by decide +kernel)
theorem tk_1050 : (Jvm.Cond.instanceMethod ({ cls := "NearSeatsModel", name := "family", desc := "(I)I" } : Jvm.MethodName)) ∈ tw := tw_t 1050 (by decide +kernel) (by decide +kernel)
theorem tk_1051 : (Jvm.Cond.selects "NearSeatsModel" ({ cls := "NearSeatsModel", name := "family", desc := "(I)I" } : Jvm.MethodName) ({ cls := "NearSeatsModel", name := "family", desc := "(I)I" } : Jvm.MethodName)) ∈ tw := tw_t 1051 (by decide +kernel) (by decide +kernel)
theorem tk_1052 : (Jvm.Cond.code ({ cls := "NearSeatsModel", name := "family", desc := "(I)I" } : Jvm.MethodName) prog_9_method_48_code (7 : Nat) (Option.some Jvm.ClassFile.FieldType.int)) ∈ tw := tw_t 1052 (by decide +kernel) (by decide +kernel)
theorem tk_1053 : (Jvm.Cond.constantLong "NearSeatsModel" (230 : Nat) (-1 : Int64)) ∈ tw := tw_t 1053 (by decide +kernel) (by decide +kernel)
theorem tk_1054 : (Jvm.Cond.methodLink "NearSeatsModel" (232 : Nat) ({ cls := "NearSeatsModel", name := "rowMiles", desc := "(I)I" } : Jvm.MethodName)) ∈ tw := tw_t 1054 (by decide +kernel) (by decide +kernel)
theorem tk_1056 : (Jvm.Cond.instanceMethod ({ cls := "NearSeatsModel", name := "rowMiles", desc := "(I)I" } : Jvm.MethodName)) ∈ tw := tw_t 1056 (by decide +kernel) (by decide +kernel)
theorem tk_1057 : (Jvm.Cond.code ({ cls := "NearSeatsModel", name := "rowMiles", desc := "(I)I" } : Jvm.MethodName) prog_9_method_47_code (5 : Nat) (Option.some Jvm.ClassFile.FieldType.int)) ∈ tw := tw_t 1057 (by decide +kernel) (by decide +kernel)
theorem tk_1058 : (Jvm.Cond.methodLink "NearSeatsModel" (227 : Nat) ({ cls := "NearSeatsModel", name := "churchIn", desc := "(II)I" } : Jvm.MethodName)) ∈ tw := tw_t 1058 (by decide +kernel) (by decide +kernel)
theorem tk_1060 : (Jvm.Cond.instanceMethod ({ cls := "NearSeatsModel", name := "churchIn", desc := "(II)I" } : Jvm.MethodName)) ∈ tw := tw_t 1060 (by decide +kernel) (by decide +kernel)
theorem tk_1061 : (Jvm.Cond.code ({ cls := "NearSeatsModel", name := "churchIn", desc := "(II)I" } : Jvm.MethodName) prog_9_method_46_code (5 : Nat) (Option.some Jvm.ClassFile.FieldType.int)) ∈ tw := tw_t 1061 (by decide +kernel) (by decide +kernel)
theorem tk_1062 : (Jvm.Cond.methodLink "NearSeatsLaw" (82 : Nat) ({ cls := "NearSeatsModel", name := "even", desc := "(I)I" } : Jvm.MethodName)) ∈ tw := tw_t 1062 (by decide +kernel) (by decide +kernel)
theorem tk_1063 : (Jvm.Cond.instanceMethod ({ cls := "NearSeatsModel", name := "even", desc := "(I)I" } : Jvm.MethodName)) ∈ tw := tw_t 1063 (by decide +kernel) (by decide +kernel)
theorem tk_1064 : (Jvm.Cond.selects "NearSeatsModel" ({ cls := "NearSeatsModel", name := "even", desc := "(I)I" } : Jvm.MethodName) ({ cls := "NearSeatsModel", name := "even", desc := "(I)I" } : Jvm.MethodName)) ∈ tw := tw_t 1064 (by decide +kernel) (by decide +kernel)
theorem tk_1065 : (Jvm.Cond.code ({ cls := "NearSeatsModel", name := "even", desc := "(I)I" } : Jvm.MethodName) prog_9_method_49_code (8 : Nat) (Option.some Jvm.ClassFile.FieldType.int)) ∈ tw := tw_t 1065 (by decide +kernel) (by decide +kernel)
theorem tk_1066 : (Jvm.Cond.methodLink "NearSeatsLaw" (87 : Nat) ({ cls := "NearSeatsModel", name := "border", desc := "(III)J" } : Jvm.MethodName)) ∈ tw := tw_t 1066 (by decide +kernel) (by decide +kernel)
theorem tk_1067 : (Jvm.Cond.instanceMethod ({ cls := "NearSeatsModel", name := "border", desc := "(III)J" } : Jvm.MethodName)) ∈ tw := tw_t 1067 (by decide +kernel) (by decide +kernel)
theorem tk_1068 : (Jvm.Cond.selects "NearSeatsModel" ({ cls := "NearSeatsModel", name := "border", desc := "(III)J" } : Jvm.MethodName) ({ cls := "NearSeatsModel", name := "border", desc := "(III)J" } : Jvm.MethodName)) ∈ tw := tw_t 1068 (by decide +kernel) (by decide +kernel)
theorem tk_1069 : (Jvm.Cond.code ({ cls := "NearSeatsModel", name := "border", desc := "(III)J" } : Jvm.MethodName) prog_9_method_51_code (12 : Nat) (Option.some Jvm.ClassFile.FieldType.long)) ∈ tw := tw_t 1069 (by decide +kernel) (by decide +kernel)
theorem tk_1070 : (Jvm.Cond.methodLink "NearSeatsModel" (95 : Nat) ({ cls := "NearSeatsModel", name := "lost", desc := "()J" } : Jvm.MethodName)) ∈ tw := tw_t 1070 (by decide +kernel) (by decide +kernel)
theorem tk_1071 : (Jvm.Cond.static ({ cls := "NearSeatsModel", name := "lost", desc := "()J" } : Jvm.MethodName)) ∈ tw := tw_t 1071 (by decide +kernel) (by decide +kernel)
theorem tk_1072 : (Jvm.Cond.code ({ cls := "NearSeatsModel", name := "lost", desc := "()J" } : Jvm.MethodName) prog_9_method_3_code (0 : Nat) (Option.some Jvm.ClassFile.FieldType.long)) ∈ tw := tw_t 1072 (by decide +kernel) (by decide +kernel)
theorem tk_1073 : (Jvm.Cond.constantLong "NearSeatsModel" (84 : Nat) (-9223372036854775808 : Int64)) ∈ tw := tw_t 1073 (by decide +kernel) (by decide +kernel)
theorem tk_1074 : (Jvm.Cond.methodLink "NearSeatsModel" (235 : Nat) ({ cls := "NearSeatsModel", name := "common", desc := "(JJ)J" } : Jvm.MethodName)) ∈ tw := tw_t 1074 (by decide +kernel) (by decide +kernel)
theorem tk_1075 : (Jvm.Cond.static ({ cls := "NearSeatsModel", name := "common", desc := "(JJ)J" } : Jvm.MethodName)) ∈ tw := tw_t 1075 (by decide +kernel) (by decide +kernel)
theorem tk_1076 : (Jvm.Cond.code ({ cls := "NearSeatsModel", name := "common", desc := "(JJ)J" } : Jvm.MethodName) prog_9_method_50_code (10 : Nat) (Option.some Jvm.ClassFile.FieldType.long)) ∈ tw := tw_t 1076 (by decide +kernel) (by decide +kernel)
theorem tk_1077 : (Jvm.Cond.methodLink "NearSeatsLaw" (91 : Nat) ({ cls := "NearSeatsModel", name := "who", desc := "(II)I" } : Jvm.MethodName)) ∈ tw := tw_t 1077 (by decide +kernel) (by decide +kernel)
theorem tk_1078 : (Jvm.Cond.instanceMethod ({ cls := "NearSeatsModel", name := "who", desc := "(II)I" } : Jvm.MethodName)) ∈ tw := tw_t 1078 (by decide +kernel) (by decide +kernel)
theorem tk_1079 : (Jvm.Cond.selects "NearSeatsModel" ({ cls := "NearSeatsModel", name := "who", desc := "(II)I" } : Jvm.MethodName) ({ cls := "NearSeatsModel", name := "who", desc := "(II)I" } : Jvm.MethodName)) ∈ tw := tw_t 1079 (by decide +kernel) (by decide +kernel)
theorem tk_1080 : (Jvm.Cond.code ({ cls := "NearSeatsModel", name := "who", desc := "(II)I" } : Jvm.MethodName) prog_9_method_52_code (7 : Nat) (Option.some Jvm.ClassFile.FieldType.int)) ∈ tw := tw_t 1080 (by decide +kernel) (by decide +kernel)
theorem tk_1081 : (Jvm.Cond.methodLink "NearSeatsLaw" (95 : Nat) ({ cls := "NearSeatsModel", name := "place", desc := "(II)I" } : Jvm.MethodName)) ∈ tw := tw_t 1081 (by decide +kernel) (by decide +kernel)
theorem tk_1082 : (Jvm.Cond.instanceMethod ({ cls := "NearSeatsModel", name := "place", desc := "(II)I" } : Jvm.MethodName)) ∈ tw := tw_t 1082 (by decide +kernel) (by decide +kernel)
theorem tk_1083 : (Jvm.Cond.selects "NearSeatsModel" ({ cls := "NearSeatsModel", name := "place", desc := "(II)I" } : Jvm.MethodName) ({ cls := "NearSeatsModel", name := "place", desc := "(II)I" } : Jvm.MethodName)) ∈ tw := tw_t 1083 (by decide +kernel) (by decide +kernel)
theorem tk_1084 : (Jvm.Cond.code ({ cls := "NearSeatsModel", name := "place", desc := "(II)I" } : Jvm.MethodName) prog_9_method_53_code (3 : Nat) (Option.some Jvm.ClassFile.FieldType.int)) ∈ tw := tw_t 1084 (by decide +kernel) (by decide +kernel)
theorem tk_1085 : (Jvm.Cond.methodLink "NearSeatsLaw" (99 : Nat) ({ cls := "NearSeatsModel", name := "move", desc := "(I)I" } : Jvm.MethodName)) ∈ tw := tw_t 1085 (by decide +kernel) (by decide +kernel)
theorem tk_1086 : (Jvm.Cond.instanceMethod ({ cls := "NearSeatsModel", name := "move", desc := "(I)I" } : Jvm.MethodName)) ∈ tw := tw_t 1086 (by decide +kernel) (by decide +kernel)
theorem tk_1087 : (Jvm.Cond.selects "NearSeatsModel" ({ cls := "NearSeatsModel", name := "move", desc := "(I)I" } : Jvm.MethodName) ({ cls := "NearSeatsModel", name := "move", desc := "(I)I" } : Jvm.MethodName)) ∈ tw := tw_t 1087 (by decide +kernel) (by decide +kernel)
theorem tk_1088 : (Jvm.Cond.code ({ cls := "NearSeatsModel", name := "move", desc := "(I)I" } : Jvm.MethodName) prog_9_method_54_code (8 : Nat) (Option.some Jvm.ClassFile.FieldType.int)) ∈ tw := tw_t 1088 (by decide +kernel) (by decide +kernel)
theorem tk_1089 : (Jvm.Cond.methodLink "NearSeatsLaw" (103 : Nat) ({ cls := "NearSeatsModel", name := "open", desc := "(I)I" } : Jvm.MethodName)) ∈ tw := tw_t 1089 (by decide +kernel) (by decide +kernel)
theorem tk_1090 : (Jvm.Cond.instanceMethod ({ cls := "NearSeatsModel", name := "open", desc := "(I)I" } : Jvm.MethodName)) ∈ tw := tw_t 1090 (by decide +kernel) (by decide +kernel)
theorem tk_1091 : (Jvm.Cond.selects "NearSeatsModel" ({ cls := "NearSeatsModel", name := "open", desc := "(I)I" } : Jvm.MethodName) ({ cls := "NearSeatsModel", name := "open", desc := "(I)I" } : Jvm.MethodName)) ∈ tw := tw_t 1091 (by decide +kernel) (by decide +kernel)
theorem tk_1092 : (Jvm.Cond.code ({ cls := "NearSeatsModel", name := "open", desc := "(I)I" } : Jvm.MethodName) prog_9_method_56_code (2 : Nat) (Option.some Jvm.ClassFile.FieldType.int)) ∈ tw := tw_t 1092 (by decide +kernel) (by decide +kernel)
theorem tk_1093 : (Jvm.Cond.methodLink "NearSeatsModel" (242 : Nat) ({ cls := "NearSeatsModel", name := "openMiles", desc := "(I)I" } : Jvm.MethodName)) ∈ tw := tw_t 1093 (by decide +kernel) (by decide +kernel)
theorem tk_1095 : (Jvm.Cond.instanceMethod ({ cls := "NearSeatsModel", name := "openMiles", desc := "(I)I" } : Jvm.MethodName)) ∈ tw := tw_t 1095 (by decide +kernel) (by decide +kernel)
theorem tk_1096 : (Jvm.Cond.code ({ cls := "NearSeatsModel", name := "openMiles", desc := "(I)I" } : Jvm.MethodName) prog_9_method_55_code (3 : Nat) (Option.some Jvm.ClassFile.FieldType.int)) ∈ tw := tw_t 1096 (by decide +kernel) (by decide +kernel)
theorem tk_1097 : (Jvm.Cond.methodLink "NearSeatsLaw" (107 : Nat) ({ cls := "NearSeatsModel", name := "best", desc := "(I)I" } : Jvm.MethodName)) ∈ tw := tw_t 1097 (by decide +kernel) (by decide +kernel)
theorem tk_1098 : (Jvm.Cond.instanceMethod ({ cls := "NearSeatsModel", name := "best", desc := "(I)I" } : Jvm.MethodName)) ∈ tw := tw_t 1098 (by decide +kernel) (by decide +kernel)
theorem tk_1099 : (Jvm.Cond.selects "NearSeatsModel" ({ cls := "NearSeatsModel", name := "best", desc := "(I)I" } : Jvm.MethodName) ({ cls := "NearSeatsModel", name := "best", desc := "(I)I" } : Jvm.MethodName)) ∈ tw := tw_t 1099 (by decide +kernel) (by decide +kernel)
theorem tk_1100 : (Jvm.Cond.code ({ cls := "NearSeatsModel", name := "best", desc := "(I)I" } : Jvm.MethodName) prog_9_method_57_code (6 : Nat) (Option.some Jvm.ClassFile.FieldType.int)) ∈ tw := tw_t 1100 (by decide +kernel) (by decide +kernel)
theorem tk_1101 : (Jvm.Cond.methodLink "NearSeatsModel" (245 : Nat) ({ cls := "NearSeatsModel", name := "bits", desc := "(I)I" } : Jvm.MethodName)) ∈ tw := tw_t 1101 (by decide +kernel) (by decide +kernel)
theorem tk_1102 : (Jvm.Cond.static ({ cls := "NearSeatsModel", name := "bits", desc := "(I)I" } : Jvm.MethodName)) ∈ tw := tw_t 1102 (by decide +kernel) (by decide +kernel)
theorem tk_1103 : (Jvm.Cond.code ({ cls := "NearSeatsModel", name := "bits", desc := "(I)I" } : Jvm.MethodName) prog_9_method_5_code (3 : Nat) (Option.some Jvm.ClassFile.FieldType.int)) ∈ tw := tw_t 1103 (by decide +kernel) (by decide +kernel)
theorem tk_1104 : (Jvm.Cond.methodLink "NearSeatsLaw" (111 : Nat) ({ cls := "NearSeatsModel", name := "sheet", desc := "(III)I" } : Jvm.MethodName)) ∈ tw := tw_t 1104 (by decide +kernel) (by decide +kernel)
theorem tk_1105 : (Jvm.Cond.instanceMethod ({ cls := "NearSeatsModel", name := "sheet", desc := "(III)I" } : Jvm.MethodName)) ∈ tw := tw_t 1105 (by decide +kernel) (by decide +kernel)
theorem tk_1106 : (Jvm.Cond.selects "NearSeatsModel" ({ cls := "NearSeatsModel", name := "sheet", desc := "(III)I" } : Jvm.MethodName) ({ cls := "NearSeatsModel", name := "sheet", desc := "(III)I" } : Jvm.MethodName)) ∈ tw := tw_t 1106 (by decide +kernel) (by decide +kernel)
theorem tk_1107 : (Jvm.Cond.code ({ cls := "NearSeatsModel", name := "sheet", desc := "(III)I" } : Jvm.MethodName) prog_9_method_59_code (5 : Nat) (Option.some Jvm.ClassFile.FieldType.int)) ∈ tw := tw_t 1107 (by decide +kernel) (by decide +kernel)
theorem tk_1108 : (Jvm.Cond.methodLink "NearSeatsLaw" (115 : Nat) ({ cls := "NearSeatsModel", name := "lose", desc := "(I)I" } : Jvm.MethodName)) ∈ tw := tw_t 1108 (by decide +kernel) (by decide +kernel)
theorem tk_1109 : (Jvm.Cond.instanceMethod ({ cls := "NearSeatsModel", name := "lose", desc := "(I)I" } : Jvm.MethodName)) ∈ tw := tw_t 1109 (by decide +kernel) (by decide +kernel)
theorem tk_1110 : (Jvm.Cond.selects "NearSeatsModel" ({ cls := "NearSeatsModel", name := "lose", desc := "(I)I" } : Jvm.MethodName) ({ cls := "NearSeatsModel", name := "lose", desc := "(I)I" } : Jvm.MethodName)) ∈ tw := tw_t 1110 (by decide +kernel) (by decide +kernel)
theorem tk_1111 : (Jvm.Cond.code ({ cls := "NearSeatsModel", name := "lose", desc := "(I)I" } : Jvm.MethodName) prog_9_method_60_code (3 : Nat) (Option.some Jvm.ClassFile.FieldType.int)) ∈ tw := tw_t 1111 (by decide +kernel) (by decide +kernel)
theorem tk_1112 : (Jvm.Cond.methodLink "NearSeatsLaw" (119 : Nat) ({ cls := "NearSeatsModel", name := "put", desc := "(III)I" } : Jvm.MethodName)) ∈ tw := tw_t 1112 (by decide +kernel) (by decide +kernel)
theorem tk_1113 : (Jvm.Cond.instanceMethod ({ cls := "NearSeatsModel", name := "put", desc := "(III)I" } : Jvm.MethodName)) ∈ tw := tw_t 1113 (by decide +kernel) (by decide +kernel)
theorem tk_1114 : (Jvm.Cond.selects "NearSeatsModel" ({ cls := "NearSeatsModel", name := "put", desc := "(III)I" } : Jvm.MethodName) ({ cls := "NearSeatsModel", name := "put", desc := "(III)I" } : Jvm.MethodName)) ∈ tw := tw_t 1114 (by decide +kernel) (by decide +kernel)
theorem tk_1115 : (Jvm.Cond.code ({ cls := "NearSeatsModel", name := "put", desc := "(III)I" } : Jvm.MethodName) prog_9_method_62_code (4 : Nat) (Option.some Jvm.ClassFile.FieldType.int)) ∈ tw := tw_t 1115 (by decide +kernel) (by decide +kernel)
theorem tk_1116 : (Jvm.Cond.methodLink "NearSeatsModel" (250 : Nat) ({ cls := "NearSeatsModel", name := "noCell", desc := "(II)I" } : Jvm.MethodName)) ∈ tw := tw_t 1116 (by decide +kernel) (by decide +kernel)
theorem tk_1118 : (Jvm.Cond.instanceMethod ({ cls := "NearSeatsModel", name := "noCell", desc := "(II)I" } : Jvm.MethodName)) ∈ tw := tw_t 1118 (by decide +kernel) (by decide +kernel)
theorem tk_1119 : (Jvm.Cond.code ({ cls := "NearSeatsModel", name := "noCell", desc := "(II)I" } : Jvm.MethodName) prog_9_method_61_code (3 : Nat) (Option.some Jvm.ClassFile.FieldType.int)) ∈ tw := tw_t 1119 (by decide +kernel) (by decide +kernel)
theorem tk_1120 : (Jvm.Cond.methodLink "NearSeatsLaw" (123 : Nat) ({ cls := "NearSeatsModel", name := "cell", desc := "(III)J" } : Jvm.MethodName)) ∈ tw := tw_t 1120 (by decide +kernel) (by decide +kernel)
theorem tk_1121 : (Jvm.Cond.instanceMethod ({ cls := "NearSeatsModel", name := "cell", desc := "(III)J" } : Jvm.MethodName)) ∈ tw := tw_t 1121 (by decide +kernel) (by decide +kernel)
theorem tk_1122 : (Jvm.Cond.selects "NearSeatsModel" ({ cls := "NearSeatsModel", name := "cell", desc := "(III)J" } : Jvm.MethodName) ({ cls := "NearSeatsModel", name := "cell", desc := "(III)J" } : Jvm.MethodName)) ∈ tw := tw_t 1122 (by decide +kernel) (by decide +kernel)
theorem tk_1123 : (Jvm.Cond.code ({ cls := "NearSeatsModel", name := "cell", desc := "(III)J" } : Jvm.MethodName) prog_9_method_63_code (4 : Nat) (Option.some Jvm.ClassFile.FieldType.long)) ∈ tw := tw_t 1123 (by decide +kernel) (by decide +kernel)
theorem tk_1124 : (Jvm.Cond.methodLink "NearSeatsModel" (253 : Nat) ({ cls := "NearSeatsModel", name := "failedLong", desc := "(I)J" } : Jvm.MethodName)) ∈ tw := tw_t 1124 (by decide +kernel) (by decide +kernel)
theorem tk_1126 : (Jvm.Cond.instanceMethod ({ cls := "NearSeatsModel", name := "failedLong", desc := "(I)J" } : Jvm.MethodName)) ∈ tw := tw_t 1126 (by decide +kernel) (by decide +kernel)
theorem tk_1127 : (Jvm.Cond.code ({ cls := "NearSeatsModel", name := "failedLong", desc := "(I)J" } : Jvm.MethodName) prog_9_method_10_code (2 : Nat) (Option.some Jvm.ClassFile.FieldType.long)) ∈ tw := tw_t 1127 (by decide +kernel) (by decide +kernel)
theorem tk_1128 : (Jvm.Cond.methodLink "NearSeatsLaw" (128 : Nat) ({ cls := "NearSeatsModel", name := "copy", desc := "(IIIII)I" } : Jvm.MethodName)) ∈ tw := tw_t 1128 (by decide +kernel) (by decide +kernel)
theorem tk_1129 : (Jvm.Cond.instanceMethod ({ cls := "NearSeatsModel", name := "copy", desc := "(IIIII)I" } : Jvm.MethodName)) ∈ tw := tw_t 1129 (by decide +kernel) (by decide +kernel)
theorem tk_1130 : (Jvm.Cond.selects "NearSeatsModel" ({ cls := "NearSeatsModel", name := "copy", desc := "(IIIII)I" } : Jvm.MethodName) ({ cls := "NearSeatsModel", name := "copy", desc := "(IIIII)I" } : Jvm.MethodName)) ∈ tw := tw_t 1130 (by decide +kernel) (by decide +kernel)
theorem tk_1131 : (Jvm.Cond.code ({ cls := "NearSeatsModel", name := "copy", desc := "(IIIII)I" } : Jvm.MethodName) prog_9_method_65_code (7 : Nat) (Option.some Jvm.ClassFile.FieldType.int)) ∈ tw := tw_t 1131 (by decide +kernel) (by decide +kernel)
theorem tk_1132 : (Jvm.Cond.methodLink "NearSeatsLaw" (132 : Nat) ({ cls := "NearSeatsModel", name := "tell", desc := "(I)I" } : Jvm.MethodName)) ∈ tw := tw_t 1132 (by decide +kernel) (by decide +kernel)
theorem tk_1133 : (Jvm.Cond.instanceMethod ({ cls := "NearSeatsModel", name := "tell", desc := "(I)I" } : Jvm.MethodName)) ∈ tw := tw_t 1133 (by decide +kernel) (by decide +kernel)
theorem tk_1134 : (Jvm.Cond.selects "NearSeatsModel" ({ cls := "NearSeatsModel", name := "tell", desc := "(I)I" } : Jvm.MethodName) ({ cls := "NearSeatsModel", name := "tell", desc := "(I)I" } : Jvm.MethodName)) ∈ tw := tw_t 1134 (by decide +kernel) (by decide +kernel)
theorem tk_1135 : (Jvm.Cond.code ({ cls := "NearSeatsModel", name := "tell", desc := "(I)I" } : Jvm.MethodName) prog_9_method_67_code (3 : Nat) (Option.some Jvm.ClassFile.FieldType.int)) ∈ tw := tw_t 1135 (by decide +kernel) (by decide +kernel)
theorem tk_1136 : (Jvm.Cond.methodLink "NearSeatsModel" (260 : Nat) ({ cls := "NearSeatsModel", name := "traced", desc := "(I)V" } : Jvm.MethodName)) ∈ tw := tw_t 1136 (by decide +kernel) (by decide +kernel)
theorem tk_1138 : (Jvm.Cond.instanceMethod ({ cls := "NearSeatsModel", name := "traced", desc := "(I)V" } : Jvm.MethodName)) ∈ tw := tw_t 1138 (by decide +kernel) (by decide +kernel)
theorem tk_1139 : (Jvm.Cond.code ({ cls := "NearSeatsModel", name := "traced", desc := "(I)V" } : Jvm.MethodName) prog_9_method_66_code (2 : Nat) (Option.none : Option Jvm.ClassFile.FieldType)) ∈ tw := tw_t 1139 (by decide +kernel) (by decide +kernel)
theorem tk_1140 : (Jvm.Cond.methodLink "NearSeatsLaw" (136 : Nat) ({ cls := "NearSeatsModel", name := "ring", desc := "(I)I" } : Jvm.MethodName)) ∈ tw := tw_t 1140 (by decide +kernel) (by decide +kernel)
theorem tk_1141 : (Jvm.Cond.instanceMethod ({ cls := "NearSeatsModel", name := "ring", desc := "(I)I" } : Jvm.MethodName)) ∈ tw := tw_t 1141 (by decide +kernel) (by decide +kernel)
theorem tk_1142 : (Jvm.Cond.selects "NearSeatsModel" ({ cls := "NearSeatsModel", name := "ring", desc := "(I)I" } : Jvm.MethodName) ({ cls := "NearSeatsModel", name := "ring", desc := "(I)I" } : Jvm.MethodName)) ∈ tw := tw_t 1142 (by decide +kernel) (by decide +kernel)
theorem tk_1143 : (Jvm.Cond.code ({ cls := "NearSeatsModel", name := "ring", desc := "(I)I" } : Jvm.MethodName) prog_9_method_68_code (2 : Nat) (Option.some Jvm.ClassFile.FieldType.int)) ∈ tw := tw_t 1143 (by decide +kernel) (by decide +kernel)
theorem tk_1144 : (Jvm.Cond.methodLink "NearSeatsLaw" (140 : Nat) ({ cls := "NearSeatsModel", name := "as", desc := "(II)I" } : Jvm.MethodName)) ∈ tw := tw_t 1144 (by decide +kernel) (by decide +kernel)
theorem tk_1145 : (Jvm.Cond.instanceMethod ({ cls := "NearSeatsModel", name := "as", desc := "(II)I" } : Jvm.MethodName)) ∈ tw := tw_t 1145 (by decide +kernel) (by decide +kernel)
theorem tk_1146 : (Jvm.Cond.selects "NearSeatsModel" ({ cls := "NearSeatsModel", name := "as", desc := "(II)I" } : Jvm.MethodName) ({ cls := "NearSeatsModel", name := "as", desc := "(II)I" } : Jvm.MethodName)) ∈ tw := tw_t 1146 (by decide +kernel) (by decide +kernel)
theorem tk_1147 : (Jvm.Cond.code ({ cls := "NearSeatsModel", name := "as", desc := "(II)I" } : Jvm.MethodName) prog_9_method_69_code (3 : Nat) (Option.some Jvm.ClassFile.FieldType.int)) ∈ tw := tw_t 1147 (by decide +kernel) (by decide +kernel)
theorem tk_1148 : (Jvm.Cond.methodLink "NearSeatsLaw" (144 : Nat) ({ cls := "NearSeatsModel", name := "trace", desc := "()I" } : Jvm.MethodName)) ∈ tw := tw_t 1148 (by decide +kernel) (by decide +kernel)
theorem tk_1149 : (Jvm.Cond.instanceMethod ({ cls := "NearSeatsModel", name := "trace", desc := "()I" } : Jvm.MethodName)) ∈ tw := tw_t 1149 (by decide +kernel) (by decide +kernel)
theorem tk_1150 : (Jvm.Cond.selects "NearSeatsModel" ({ cls := "NearSeatsModel", name := "trace", desc := "()I" } : Jvm.MethodName) ({ cls := "NearSeatsModel", name := "trace", desc := "()I" } : Jvm.MethodName)) ∈ tw := tw_t 1150 (by decide +kernel) (by decide +kernel)
theorem tk_1151 : (Jvm.Cond.code ({ cls := "NearSeatsModel", name := "trace", desc := "()I" } : Jvm.MethodName) prog_9_method_70_code (1 : Nat) (Option.some Jvm.ClassFile.FieldType.int)) ∈ tw := tw_t 1151 (by decide +kernel) (by decide +kernel)
theorem tk_1152 : (Jvm.Cond.methodLink "NearSeatsLaw" (148 : Nat) ({ cls := "NearSeatsModel", name := "fault", desc := "()I" } : Jvm.MethodName)) ∈ tw := tw_t 1152 (by decide +kernel) (by decide +kernel)
theorem tk_1153 : (Jvm.Cond.instanceMethod ({ cls := "NearSeatsModel", name := "fault", desc := "()I" } : Jvm.MethodName)) ∈ tw := tw_t 1153 (by decide +kernel) (by decide +kernel)
theorem tk_1154 : (Jvm.Cond.selects "NearSeatsModel" ({ cls := "NearSeatsModel", name := "fault", desc := "()I" } : Jvm.MethodName) ({ cls := "NearSeatsModel", name := "fault", desc := "()I" } : Jvm.MethodName)) ∈ tw := tw_t 1154 (by decide +kernel) (by decide +kernel)
theorem tk_1155 : (Jvm.Cond.code ({ cls := "NearSeatsModel", name := "fault", desc := "()I" } : Jvm.MethodName) prog_9_method_71_code (1 : Nat) (Option.some Jvm.ClassFile.FieldType.int)) ∈ tw := tw_t 1155 (by decide +kernel) (by decide +kernel)
theorem tk_1156 : (Jvm.Cond.methodLink "NearSeatsLaw" (152 : Nat) ({ cls := "NearSeatsModel", name := "many", desc := "(I)I" } : Jvm.MethodName)) ∈ tw := tw_t 1156 (by decide +kernel) (by decide +kernel)
theorem tk_1157 : (Jvm.Cond.instanceMethod ({ cls := "NearSeatsModel", name := "many", desc := "(I)I" } : Jvm.MethodName)) ∈ tw := tw_t 1157 (by decide +kernel) (by decide +kernel)
theorem tk_1158 : (Jvm.Cond.selects "NearSeatsModel" ({ cls := "NearSeatsModel", name := "many", desc := "(I)I" } : Jvm.MethodName) ({ cls := "NearSeatsModel", name := "many", desc := "(I)I" } : Jvm.MethodName)) ∈ tw := tw_t 1158 (by decide +kernel) (by decide +kernel)
theorem tk_1159 : (Jvm.Cond.code ({ cls := "NearSeatsModel", name := "many", desc := "(I)I" } : Jvm.MethodName) prog_9_method_72_code (5 : Nat) (Option.some Jvm.ClassFile.FieldType.int)) ∈ tw := tw_t 1159 (by decide +kernel) (by decide +kernel)
theorem tp_0 : Cond.selects "NearSeats" ⟨"NearSeats", "refusalOfRow", "(IIII)I"⟩ ⟨"NearSeats", "refusalOfRow", "(IIII)I"⟩ ∈ tw := tw_s 0 (by decide +kernel) (by decide +kernel)
theorem tp_1 : Cond.selects "NearSeats" ⟨"NearSeats", "faulty", "(I)I"⟩ ⟨"NearSeats", "faulty", "(I)I"⟩ ∈ tw := tw_s 1 (by decide +kernel) (by decide +kernel)
theorem tp_2 : Cond.selects "NearSeats$LandText" ⟨"NearSeats$LandText", "begin", "([III)V"⟩ ⟨"NearSeats$LandText", "begin", "([III)V"⟩ ∈ tw := tw_s 2 (by decide +kernel) (by decide +kernel)
theorem tp_3 : Cond.selects "NearSeats$LandText" ⟨"NearSeats$LandText", "readItem", "(I)V"⟩ ⟨"NearSeats$LandText", "readItem", "(I)V"⟩ ∈ tw := tw_s 3 (by decide +kernel) (by decide +kernel)
theorem tp_4 : Cond.selects "NearSeats$LandText" ⟨"NearSeats$LandText", "readKind", "(I)V"⟩ ⟨"NearSeats$LandText", "readKind", "(I)V"⟩ ∈ tw := tw_s 4 (by decide +kernel) (by decide +kernel)
theorem tp_5 : Cond.selects "NearSeats$LandText" ⟨"NearSeats$LandText", "codeHere", "()I"⟩ ⟨"NearSeats$LandText", "codeHere", "()I"⟩ ∈ tw := tw_s 5 (by decide +kernel) (by decide +kernel)
theorem tp_6 : Cond.selects "NearSeats$LandText" ⟨"NearSeats$LandText", "failAt", "(I)V"⟩ ⟨"NearSeats$LandText", "failAt", "(I)V"⟩ ∈ tw := tw_s 6 (by decide +kernel) (by decide +kernel)
theorem tp_7 : Cond.selects "NearSeats$LandText" ⟨"NearSeats$LandText", "readNumber", "(II)I"⟩ ⟨"NearSeats$LandText", "readNumber", "(II)I"⟩ ∈ tw := tw_s 7 (by decide +kernel) (by decide +kernel)
theorem tp_8 : Cond.selects "NearSeats$LandText" ⟨"NearSeats$LandText", "takeCode", "(I)V"⟩ ⟨"NearSeats$LandText", "takeCode", "(I)V"⟩ ∈ tw := tw_s 8 (by decide +kernel) (by decide +kernel)
theorem tp_9 : Cond.selects "NearSeats" ⟨"NearSeats", "leastMiles", "()I"⟩ ⟨"NearSeats", "leastMiles", "()I"⟩ ∈ tw := tw_s 9 (by decide +kernel) (by decide +kernel)
theorem tp_10 : Cond.selects "NearSeats$Sender" ⟨"NearSeats$Sender", "seatHome", "(I)Z"⟩ ⟨"NearSeats$Sender", "seatHome", "(I)Z"⟩ ∈ tw := tw_s 10 (by decide +kernel) (by decide +kernel)
theorem tp_11 : Cond.selects "NearSeats$Sender" ⟨"NearSeats$Sender", "findSteps", "()V"⟩ ⟨"NearSeats$Sender", "findSteps", "()V"⟩ ∈ tw := tw_s 11 (by decide +kernel) (by decide +kernel)
theorem tp_12 : Cond.selects "NearSeats$Sender" ⟨"NearSeats$Sender", "findStepsOf", "(II)V"⟩ ⟨"NearSeats$Sender", "findStepsOf", "(II)V"⟩ ∈ tw := tw_s 12 (by decide +kernel) (by decide +kernel)
theorem tp_13 : Cond.selects "NearSeats$Sender" ⟨"NearSeats$Sender", "startAt", "(I)V"⟩ ⟨"NearSeats$Sender", "startAt", "(I)V"⟩ ∈ tw := tw_s 13 (by decide +kernel) (by decide +kernel)
theorem tp_14 : Cond.selects "NearSeats$Sender" ⟨"NearSeats$Sender", "spread", "()V"⟩ ⟨"NearSeats$Sender", "spread", "()V"⟩ ∈ tw := tw_s 14 (by decide +kernel) (by decide +kernel)
theorem tp_15 : Cond.selects "NearSeats$Sender" ⟨"NearSeats$Sender", "spreadFrom", "(I)Z"⟩ ⟨"NearSeats$Sender", "spreadFrom", "(I)Z"⟩ ∈ tw := tw_s 15 (by decide +kernel) (by decide +kernel)
theorem tp_16 : Cond.selects "NearSeats$Sender" ⟨"NearSeats$Sender", "cheapestWithRoom", "()I"⟩ ⟨"NearSeats$Sender", "cheapestWithRoom", "()I"⟩ ∈ tw := tw_s 16 (by decide +kernel) (by decide +kernel)
theorem tp_17 : Cond.selects "NearSeats$Sender" ⟨"NearSeats$Sender", "seatAlong", "(III)I"⟩ ⟨"NearSeats$Sender", "seatAlong", "(III)I"⟩ ∈ tw := tw_s 17 (by decide +kernel) (by decide +kernel)
theorem tp_18 : Cond.selects "NearSeats$Sender" ⟨"NearSeats$Sender", "moverTo", "(I)I"⟩ ⟨"NearSeats$Sender", "moverTo", "(I)I"⟩ ∈ tw := tw_s 18 (by decide +kernel) (by decide +kernel)
theorem tp_19 : Cond.selects "NearSeats$Sender" ⟨"NearSeats$Sender", "sumOfMiles", "()I"⟩ ⟨"NearSeats$Sender", "sumOfMiles", "()I"⟩ ∈ tw := tw_s 19 (by decide +kernel) (by decide +kernel)
theorem tp_20 : Cond.selects "NearSeats$Land" ⟨"NearSeats$Land", "allOfHomeGo", "(I[II)Z"⟩ ⟨"NearSeats$Land", "allOfHomeGo", "(I[II)Z"⟩ ∈ tw := tw_s 20 (by decide +kernel) (by decide +kernel)
theorem tp_21 : Cond.selects "NearSeats$Land" ⟨"NearSeats$Land", "numberFits", "(I[III)Z"⟩ ⟨"NearSeats$Land", "numberFits", "(I[III)Z"⟩ ∈ tw := tw_s 21 (by decide +kernel) (by decide +kernel)
theorem tp_22 : Cond.selects "NearSeats$Land" ⟨"NearSeats$Land", "goesToLeast", "(I[III)Z"⟩ ⟨"NearSeats$Land", "goesToLeast", "(I[III)Z"⟩ ∈ tw := tw_s 22 (by decide +kernel) (by decide +kernel)
theorem tp_23 : Cond.selects "NearSeats" ⟨"NearSeats", "seekFamilies", "()V"⟩ ⟨"NearSeats", "seekFamilies", "()V"⟩ ∈ tw := tw_s 23 (by decide +kernel) (by decide +kernel)
theorem tp_24 : Cond.selects "NearSeats$Families" ⟨"NearSeats$Families", "loadHome", "(LNearSeats$Land;I)I"⟩ ⟨"NearSeats$Families", "loadHome", "(LNearSeats$Land;I)I"⟩ ∈ tw := tw_s 24 (by decide +kernel) (by decide +kernel)
theorem tp_25 : Cond.selects "NearSeats$Families" ⟨"NearSeats$Families", "tryHome", "(II)V"⟩ ⟨"NearSeats$Families", "tryHome", "(II)V"⟩ ∈ tw := tw_s 25 (by decide +kernel) (by decide +kernel)
theorem tp_26 : Cond.selects "NearSeats$Families" ⟨"NearSeats$Families", "keep", "(I)V"⟩ ⟨"NearSeats$Families", "keep", "(I)V"⟩ ∈ tw := tw_s 26 (by decide +kernel) (by decide +kernel)
theorem tp_27 : Cond.selects "NearSeats" ⟨"NearSeats", "seekEven", "()V"⟩ ⟨"NearSeats", "seekEven", "()V"⟩ ∈ tw := tw_s 27 (by decide +kernel) (by decide +kernel)
theorem tp_28 : Cond.selects "NearSeats" ⟨"NearSeats", "shortenLongest", "()V"⟩ ⟨"NearSeats", "shortenLongest", "()V"⟩ ∈ tw := tw_s 28 (by decide +kernel) (by decide +kernel)
theorem tp_29 : Cond.selects "NearSeats" ⟨"NearSeats", "partOfBorder", "(III)J"⟩ ⟨"NearSeats", "partOfBorder", "(III)J"⟩ ∈ tw := tw_s 29 (by decide +kernel) (by decide +kernel)
theorem tp_30 : Cond.selects "NearSeats" ⟨"NearSeats", "sideOfBorder", "(I)I"⟩ ⟨"NearSeats", "sideOfBorder", "(I)I"⟩ ∈ tw := tw_s 30 (by decide +kernel) (by decide +kernel)
theorem tp_31 : Cond.selects "NearSeats" ⟨"NearSeats", "leastChurch", "(II)I"⟩ ⟨"NearSeats", "leastChurch", "(II)I"⟩ ∈ tw := tw_s 31 (by decide +kernel) (by decide +kernel)
theorem tp_32 : Cond.selects "NearSeats" ⟨"NearSeats", "bestPlace", "(I)I"⟩ ⟨"NearSeats", "bestPlace", "(I)I"⟩ ∈ tw := tw_s 32 (by decide +kernel) (by decide +kernel)
theorem tp_33 : Cond.selects "NearSeats" ⟨"NearSeats", "milesOfSet", "(I)I"⟩ ⟨"NearSeats", "milesOfSet", "(I)I"⟩ ∈ tw := tw_s 33 (by decide +kernel) (by decide +kernel)
theorem tp_34 : Cond.selects "NearSeats$Teller" ⟨"NearSeats$Teller", "squareTells", "(I)I"⟩ ⟨"NearSeats$Teller", "squareTells", "(I)I"⟩ ∈ tw := tw_s 34 (by decide +kernel) (by decide +kernel)
theorem tp_35 : Cond.selects "NearSeats$Teller" ⟨"NearSeats$Teller", "leave", "(I)V"⟩ ⟨"NearSeats$Teller", "leave", "(I)V"⟩ ∈ tw := tw_s 35 (by decide +kernel) (by decide +kernel)
theorem tp_36 : Cond.selects "NearSeats$Teller" ⟨"NearSeats$Teller", "stepsTells", "(I)I"⟩ ⟨"NearSeats$Teller", "stepsTells", "(I)I"⟩ ∈ tw := tw_s 36 (by decide +kernel) (by decide +kernel)
theorem tp_37 : Cond.selects "NearSeats$Teller" ⟨"NearSeats$Teller", "ferryTells", "(I)I"⟩ ⟨"NearSeats$Teller", "ferryTells", "(I)I"⟩ ∈ tw := tw_s 37 (by decide +kernel) (by decide +kernel)
theorem tp_38 : Cond.selects "NearSeatsModel" ⟨"NearSeatsModel", "addHome", "(III)V"⟩ ⟨"NearSeatsModel", "addHome", "(III)V"⟩ ∈ tw := tw_s 38 (by decide +kernel) (by decide +kernel)
theorem tp_39 : Cond.selects "NearSeatsModel" ⟨"NearSeatsModel", "addChurch", "(IIII)V"⟩ ⟨"NearSeatsModel", "addChurch", "(IIII)V"⟩ ∈ tw := tw_s 39 (by decide +kernel) (by decide +kernel)
theorem tp_40 : Cond.selects "NearSeatsModel" ⟨"NearSeatsModel", "refused", "(I)I"⟩ ⟨"NearSeatsModel", "refused", "(I)I"⟩ ∈ tw := tw_s 40 (by decide +kernel) (by decide +kernel)
theorem tp_41 : Cond.selects "NearSeatsModel" ⟨"NearSeatsModel", "refusal", "(IIIJ)I"⟩ ⟨"NearSeatsModel", "refusal", "(IIIJ)I"⟩ ∈ tw := tw_s 41 (by decide +kernel) (by decide +kernel)
theorem tp_42 : Cond.selects "NearSeatsModel" ⟨"NearSeatsModel", "failed", "(I)I"⟩ ⟨"NearSeatsModel", "failed", "(I)I"⟩ ∈ tw := tw_s 42 (by decide +kernel) (by decide +kernel)
theorem tp_43 : Cond.selects "NearSeatsModel" ⟨"NearSeatsModel", "read", "(II)I"⟩ ⟨"NearSeatsModel", "read", "(II)I"⟩ ∈ tw := tw_s 43 (by decide +kernel) (by decide +kernel)
theorem tp_44 : Cond.selects "NearSeatsModel" ⟨"NearSeatsModel", "readsItem", "(II)Z"⟩ ⟨"NearSeatsModel", "readsItem", "(II)Z"⟩ ∈ tw := tw_s 44 (by decide +kernel) (by decide +kernel)
theorem tp_45 : Cond.selects "NearSeatsModel" ⟨"NearSeatsModel", "readsNumber", "(IIIII)Z"⟩ ⟨"NearSeatsModel", "readsNumber", "(IIIII)Z"⟩ ∈ tw := tw_s 45 (by decide +kernel) (by decide +kernel)
theorem tp_46 : Cond.selects "NearSeatsModel" ⟨"NearSeatsModel", "readsSign", "(III)Z"⟩ ⟨"NearSeatsModel", "readsSign", "(III)Z"⟩ ∈ tw := tw_s 46 (by decide +kernel) (by decide +kernel)
theorem tp_47 : Cond.selects "NearSeatsModel" ⟨"NearSeatsModel", "noHome", "(I)Z"⟩ ⟨"NearSeatsModel", "noHome", "(I)Z"⟩ ∈ tw := tw_s 47 (by decide +kernel) (by decide +kernel)
theorem tp_48 : Cond.selects "NearSeatsModel" ⟨"NearSeatsModel", "noChurch", "(I)Z"⟩ ⟨"NearSeatsModel", "noChurch", "(I)Z"⟩ ∈ tw := tw_s 48 (by decide +kernel) (by decide +kernel)
theorem tp_49 : Cond.selects "NearSeatsModel" ⟨"NearSeatsModel", "farOf", "(III)I"⟩ ⟨"NearSeatsModel", "farOf", "(III)I"⟩ ∈ tw := tw_s 49 (by decide +kernel) (by decide +kernel)
theorem tp_50 : Cond.selects "NearSeatsModel" ⟨"NearSeatsModel", "milesNow", "()I"⟩ ⟨"NearSeatsModel", "milesNow", "()I"⟩ ∈ tw := tw_s 50 (by decide +kernel) (by decide +kernel)
theorem tp_51 : Cond.selects "NearSeatsModel" ⟨"NearSeatsModel", "layCosts", "(I)V"⟩ ⟨"NearSeatsModel", "layCosts", "(I)V"⟩ ∈ tw := tw_s 51 (by decide +kernel) (by decide +kernel)
theorem tp_52 : Cond.selects "NearSeatsModel" ⟨"NearSeatsModel", "leastMiles", "()I"⟩ ⟨"NearSeatsModel", "leastMiles", "()I"⟩ ∈ tw := tw_s 52 (by decide +kernel) (by decide +kernel)
theorem tp_53 : Cond.selects "NearSeatsModel" ⟨"NearSeatsModel", "seatOne", "(I)I"⟩ ⟨"NearSeatsModel", "seatOne", "(I)I"⟩ ∈ tw := tw_s 53 (by decide +kernel) (by decide +kernel)
theorem tp_54 : Cond.selects "NearSeatsModel" ⟨"NearSeatsModel", "layDear", "(I)V"⟩ ⟨"NearSeatsModel", "layDear", "(I)V"⟩ ∈ tw := tw_s 54 (by decide +kernel) (by decide +kernel)
theorem tp_55 : Cond.selects "NearSeatsModel" ⟨"NearSeatsModel", "moverOf", "(II)I"⟩ ⟨"NearSeatsModel", "moverOf", "(II)I"⟩ ∈ tw := tw_s 55 (by decide +kernel) (by decide +kernel)
theorem tp_56 : Cond.selects "NearSeatsModel" ⟨"NearSeatsModel", "takenIn", "(I)I"⟩ ⟨"NearSeatsModel", "takenIn", "(I)I"⟩ ∈ tw := tw_s 56 (by decide +kernel) (by decide +kernel)
theorem tp_57 : Cond.selects "NearSeatsModel" ⟨"NearSeatsModel", "layWeights", "()Z"⟩ ⟨"NearSeatsModel", "layWeights", "()Z"⟩ ∈ tw := tw_s 57 (by decide +kernel) (by decide +kernel)
theorem tp_58 : Cond.selects "NearSeatsModel" ⟨"NearSeatsModel", "holdsIn", "(III)Z"⟩ ⟨"NearSeatsModel", "holdsIn", "(III)Z"⟩ ∈ tw := tw_s 58 (by decide +kernel) (by decide +kernel)
theorem tp_59 : Cond.selects "NearSeatsModel" ⟨"NearSeatsModel", "holdsFor", "(III)Z"⟩ ⟨"NearSeatsModel", "holdsFor", "(III)Z"⟩ ∈ tw := tw_s 59 (by decide +kernel) (by decide +kernel)
theorem tp_60 : Cond.selects "NearSeatsModel" ⟨"NearSeatsModel", "rowMiles", "(I)I"⟩ ⟨"NearSeatsModel", "rowMiles", "(I)I"⟩ ∈ tw := tw_s 60 (by decide +kernel) (by decide +kernel)
theorem tp_61 : Cond.selects "NearSeatsModel" ⟨"NearSeatsModel", "churchIn", "(II)I"⟩ ⟨"NearSeatsModel", "churchIn", "(II)I"⟩ ∈ tw := tw_s 61 (by decide +kernel) (by decide +kernel)
theorem tp_62 : Cond.selects "NearSeatsModel" ⟨"NearSeatsModel", "openMiles", "(I)I"⟩ ⟨"NearSeatsModel", "openMiles", "(I)I"⟩ ∈ tw := tw_s 62 (by decide +kernel) (by decide +kernel)
theorem tp_63 : Cond.selects "NearSeatsModel" ⟨"NearSeatsModel", "noCell", "(II)I"⟩ ⟨"NearSeatsModel", "noCell", "(II)I"⟩ ∈ tw := tw_s 63 (by decide +kernel) (by decide +kernel)
theorem tp_64 : Cond.selects "NearSeatsModel" ⟨"NearSeatsModel", "failedLong", "(I)J"⟩ ⟨"NearSeatsModel", "failedLong", "(I)J"⟩ ∈ tw := tw_s 64 (by decide +kernel) (by decide +kernel)
theorem tp_65 : Cond.selects "NearSeatsModel" ⟨"NearSeatsModel", "traced", "(I)V"⟩ ⟨"NearSeatsModel", "traced", "(I)V"⟩ ∈ tw := tw_s 65 (by decide +kernel) (by decide +kernel)
abbrev mX0_init : MI := (RX0, cX0_init, 1, none, true)
abbrev mX0_seek : MI := (RX0, cX0_seek, 3, none, false)
abbrev mX0_loadHome : MI := (RX0, cX0_loadHome, 7, some .int, false)
abbrev mX0_tryHome : MI := (RX0, cX0_tryHome, 5, none, false)
abbrev mX0_keep : MI := (RX0, cX0_keep, 3, none, false)
abbrev mX1_init : MI := (RX1, cX1_init, 1, none, true)
abbrev mX1_hasHome : MI := (RX1, cX1_hasHome, 2, some .boolean, false)
abbrev mX1_hasChurch : MI := (RX1, cX1_hasChurch, 2, some .boolean, false)
abbrev mX1_empty : MI := (RX1, cX1_empty, 1, none, false)
abbrev mX1_addHome : MI := (RX1, cX1_addHome, 5, some .int, false)
abbrev mX1_addChurch : MI := (RX1, cX1_addChurch, 6, some .int, false)
abbrev mX1_isBarred : MI := (RX1, cX1_isBarred, 3, some .boolean, false)
abbrev mX1_turnBar : MI := (RX1, cX1_turnBar, 3, none, false)
abbrev mX1_changeSeats : MI := (RX1, cX1_changeSeats, 4, some .int, false)
abbrev mX1_changeToll : MI := (RX1, cX1_changeToll, 3, some .int, false)
abbrev mX1_moveChurch : MI := (RX1, cX1_moveChurch, 4, none, false)
abbrev mX1_atOneSpot : MI := (RX1, cX1_atOneSpot, 3, some .boolean, false)
abbrev mX1_farTo : MI := (RX1, cX1_farTo, 4, some .int, false)
abbrev mX1_farBetween : MI := (RX1, cX1_farBetween, 9, some .int, false)
abbrev mX1_cannotSit : MI := (RX1, cX1_cannotSit, 5, some .boolean, false)
abbrev mX1_proofHolds : MI := (RX1, cX1_proofHolds, 5, some .boolean, false)
abbrev mX1_allOfHomeGo : MI := (RX1, cX1_allOfHomeGo, 7, some .boolean, false)
abbrev mX1_numberFits : MI := (RX1, cX1_numberFits, 7, some .boolean, false)
abbrev mX1_goesToLeast : MI := (RX1, cX1_goesToLeast, 9, some .boolean, false)
abbrev mX2_init : MI := (RX2, cX2_init, 1, none, true)
abbrev mX2_readItems : MI := (RX2, cX2_readItems, 5, some .int, false)
abbrev mX2_begin : MI := (RX2, cX2_begin, 4, none, false)
abbrev mX2_layOut : MI := (RX2, cX2_layOut, 4, none, false)
abbrev mX2_readItem : MI := (RX2, cX2_readItem, 2, none, false)
abbrev mX2_readKind : MI := (RX2, cX2_readKind, 3, none, false)
abbrev mX2_kindOf : MI := (RX2, cX2_kindOf, 1, some .int, false)
abbrev mX2_readNumber : MI := (RX2, cX2_readNumber, 5, some .int, false)
abbrev mX2_takeCode : MI := (RX2, cX2_takeCode, 2, none, false)
abbrev mX2_isDigit : MI := (RX2, cX2_isDigit, 1, some .boolean, false)
abbrev mX2_codeHere : MI := (RX2, cX2_codeHere, 1, some .int, false)
abbrev mX2_failAt : MI := (RX2, cX2_failAt, 2, none, false)
abbrev mX3_init : MI := (RX3, cX3_init, 1, none, true)
abbrev mX3_load : MI := (RX3, cX3_load, 3, none, false)
abbrev mX3_putChurch : MI := (RX3, cX3_putChurch, 7, none, false)
abbrev mX3_shutAllBut : MI := (RX3, cX3_shutAllBut, 3, none, false)
abbrev mX3_forbidBeyond : MI := (RX3, cX3_forbidBeyond, 4, none, false)
abbrev mX3_send : MI := (RX3, cX3_send, 2, some .int, false)
abbrev mX3_sumOfMiles : MI := (RX3, cX3_sumOfMiles, 4, some .int, false)
abbrev mX3_seatHome : MI := (RX3, cX3_seatHome, 5, some .boolean, false)
abbrev mX3_findSteps : MI := (RX3, cX3_findSteps, 3, none, false)
abbrev mX3_findStepsOf : MI := (RX3, cX3_findStepsOf, 6, none, false)
abbrev mX3_startAt : MI := (RX3, cX3_startAt, 3, none, false)
abbrev mX3_spread : MI := (RX3, cX3_spread, 4, none, false)
abbrev mX3_spreadFrom : MI := (RX3, cX3_spreadFrom, 5, some .boolean, false)
abbrev mX3_cheapestWithRoom : MI := (RX3, cX3_cheapestWithRoom, 4, some .int, false)
abbrev mX3_seatAlong : MI := (RX3, cX3_seatAlong, 8, some .int, false)
abbrev mX3_moverTo : MI := (RX3, cX3_moverTo, 2, some .int, false)
abbrev mX3_weigh : MI := (RX3, cX3_weigh, 2, none, false)
abbrev mX3_lineOf : MI := (RX3, cX3_lineOf, 6, some .int, false)
abbrev mX3_longest : MI := (RX3, cX3_longest, 3, some .int, false)
abbrev mX4_init : MI := (RX4, cX4_init, 1, none, true)
abbrev mX4_renew : MI := (RX4, cX4_renew, 4, none, false)
abbrev mX4_hasCell : MI := (RX4, cX4_hasCell, 2, some .boolean, false)
abbrev mX4_hasCells : MI := (RX4, cX4_hasCells, 3, some .boolean, false)
abbrev mX4_setCell : MI := (RX4, cX4_setCell, 3, none, false)
abbrev mX5_init : MI := (RX5, cX5_init, 1, none, true)
abbrev mX5_tellOf : MI := (RX5, cX5_tellOf, 3, some .int, false)
abbrev mX5_ringOf : MI := (RX5, cX5_ringOf, 3, some .int, false)
abbrev mX5_squareTells : MI := (RX5, cX5_squareTells, 2, some .int, false)
abbrev mX5_stepsTells : MI := (RX5, cX5_stepsTells, 2, some .int, false)
abbrev mX5_ferryTells : MI := (RX5, cX5_ferryTells, 2, some .int, false)
abbrev mX5_leave : MI := (RX5, cX5_leave, 2, none, false)
abbrev mX6_init : MI := (RX6, cX6_init, 2, none, true)
abbrev mX6_home : MI := (RX6, cX6_home, 4, some .int, false)
abbrev mX6_church : MI := (RX6, cX6_church, 5, some .int, false)
abbrev mX6_land : MI := (RX6, cX6_land, 7, some .int, false)
abbrev mX6_ofHome : MI := (RX6, cX6_ofHome, 3, some .int, false)
abbrev mX6_ofChurch : MI := (RX6, cX6_ofChurch, 3, some .int, false)
abbrev mX6_bar : MI := (RX6, cX6_bar, 4, some .int, false)
abbrev mX6_seats : MI := (RX6, cX6_seats, 3, some .int, false)
abbrev mX6_toll : MI := (RX6, cX6_toll, 2, some .int, false)
abbrev mX6_far : MI := (RX6, cX6_far, 4, some .int, false)
abbrev mX6_miles : MI := (RX6, cX6_miles, 1, some .int, false)
abbrev mX6_few : MI := (RX6, cX6_few, 2, some .int, false)
abbrev mX6_weight : MI := (RX6, cX6_weight, 2, some .int, false)
abbrev mX6_line : MI := (RX6, cX6_line, 2, some .int, false)
abbrev mX6_check : MI := (RX6, cX6_check, 6, some .int, false)
abbrev mX6_family : MI := (RX6, cX6_family, 2, some .int, false)
abbrev mX6_even : MI := (RX6, cX6_even, 2, some .int, false)
abbrev mX6_border : MI := (RX6, cX6_border, 4, some .long, false)
abbrev mX6_who : MI := (RX6, cX6_who, 3, some .int, false)
abbrev mX6_place : MI := (RX6, cX6_place, 3, some .int, false)
abbrev mX6_move : MI := (RX6, cX6_move, 3, some .int, false)
abbrev mX6_open : MI := (RX6, cX6_open, 2, some .int, false)
abbrev mX6_best : MI := (RX6, cX6_best, 6, some .int, false)
abbrev mX6_sheet : MI := (RX6, cX6_sheet, 4, some .int, false)
abbrev mX6_lose : MI := (RX6, cX6_lose, 2, some .int, false)
abbrev mX6_put : MI := (RX6, cX6_put, 4, some .int, false)
abbrev mX6_cell : MI := (RX6, cX6_cell, 5, some .long, false)
abbrev mX6_copy : MI := (RX6, cX6_copy, 8, some .int, false)
abbrev mX6_tell : MI := (RX6, cX6_tell, 2, some .int, false)
abbrev mX6_ring : MI := (RX6, cX6_ring, 2, some .int, false)
abbrev mX6_as : MI := (RX6, cX6_as, 3, some .int, false)
abbrev mX6_trace : MI := (RX6, cX6_trace, 1, some .int, false)
abbrev mX6_fault : MI := (RX6, cX6_fault, 1, some .int, false)
abbrev mX6_many : MI := (RX6, cX6_many, 2, some .int, false)
abbrev mX6_isWithin : MI := (RX6, cX6_isWithin, 3, some .boolean, false)
abbrev mX6_isSpot : MI := (RX6, cX6_isSpot, 2, some .boolean, false)
abbrev mX6_isSheet : MI := (RX6, cX6_isSheet, 1, some .boolean, false)
abbrev mX6_isLane : MI := (RX6, cX6_isLane, 1, some .boolean, false)
abbrev mX6_sumOf : MI := (RX6, cX6_sumOf, 4, some .int, false)
abbrev mX6_faulty : MI := (RX6, cX6_faulty, 2, some .int, false)
abbrev mX6_refusalOfRow : MI := (RX6, cX6_refusalOfRow, 6, some .int, false)
abbrev mX6_leastMiles : MI := (RX6, cX6_leastMiles, 1, some .int, false)
abbrev mX6_seekFamilies : MI := (RX6, cX6_seekFamilies, 1, none, false)
abbrev mX6_seekEven : MI := (RX6, cX6_seekEven, 1, none, false)
abbrev mX6_shortenLongest : MI := (RX6, cX6_shortenLongest, 5, none, false)
abbrev mX6_milesOfSet : MI := (RX6, cX6_milesOfSet, 2, some .int, false)
abbrev mX6_bestPlace : MI := (RX6, cX6_bestPlace, 6, some .int, false)
abbrev mX6_leastChurch : MI := (RX6, cX6_leastChurch, 7, some .int, false)
abbrev mX6_partOfBorder : MI := (RX6, cX6_partOfBorder, 9, some .long, false)
abbrev mX6_sideOfBorder : MI := (RX6, cX6_sideOfBorder, 2, some .int, false)
abbrev mX6_commonDivisor : MI := (RX6, cX6_commonDivisor, 6, some .int, false)
abbrev mX7_init : MI := (RX7, cX7_init, 2, none, true)
abbrev mX7_in : MI := (RX7, cX7_in, 6, some .boolean, false)
abbrev mX7_lost : MI := (RX7, cX7_lost, 0, some .long, false)
abbrev mX7_hasBit : MI := (RX7, cX7_hasBit, 2, some .boolean, false)
abbrev mX7_bits : MI := (RX7, cX7_bits, 3, some .int, false)
abbrev mX7_sizeOf : MI := (RX7, cX7_sizeOf, 1, some .int, false)
abbrev mX7_isSpot : MI := (RX7, cX7_isSpot, 2, some .boolean, false)
abbrev mX7_refused : MI := (RX7, cX7_refused, 2, some .int, false)
abbrev mX7_failed : MI := (RX7, cX7_failed, 2, some .int, false)
abbrev mX7_failedLong : MI := (RX7, cX7_failedLong, 2, some .long, false)
abbrev mX7_refusal : MI := (RX7, cX7_refusal, 6, some .int, false)
abbrev mX7_noHome : MI := (RX7, cX7_noHome, 2, some .boolean, false)
abbrev mX7_noChurch : MI := (RX7, cX7_noChurch, 2, some .boolean, false)
abbrev mX7_addHome : MI := (RX7, cX7_addHome, 4, none, false)
abbrev mX7_addChurch : MI := (RX7, cX7_addChurch, 5, none, false)
abbrev mX7_home : MI := (RX7, cX7_home, 4, some .int, false)
abbrev mX7_church : MI := (RX7, cX7_church, 5, some .int, false)
abbrev mX7_kindBy : MI := (RX7, cX7_kindBy, 1, some .int, false)
abbrev mX7_readsNumber : MI := (RX7, cX7_readsNumber, 8, some .boolean, false)
abbrev mX7_readsSign : MI := (RX7, cX7_readsSign, 5, some .boolean, false)
abbrev mX7_readsItem : MI := (RX7, cX7_readsItem, 7, some .boolean, false)
abbrev mX7_read : MI := (RX7, cX7_read, 4, some .int, false)
abbrev mX7_land : MI := (RX7, cX7_land, 8, some .int, false)
abbrev mX7_ofHome : MI := (RX7, cX7_ofHome, 3, some .int, false)
abbrev mX7_ofChurch : MI := (RX7, cX7_ofChurch, 3, some .int, false)
abbrev mX7_bar : MI := (RX7, cX7_bar, 5, some .int, false)
abbrev mX7_seats : MI := (RX7, cX7_seats, 4, some .int, false)
abbrev mX7_toll : MI := (RX7, cX7_toll, 3, some .int, false)
abbrev mX7_farOf : MI := (RX7, cX7_farOf, 7, some .int, false)
abbrev mX7_far : MI := (RX7, cX7_far, 4, some .int, false)
abbrev mX7_layCosts : MI := (RX7, cX7_layCosts, 5, none, false)
abbrev mX7_takenIn : MI := (RX7, cX7_takenIn, 4, some .int, false)
abbrev mX7_moverOf : MI := (RX7, cX7_moverOf, 7, some .int, false)
abbrev mX7_layDear : MI := (RX7, cX7_layDear, 7, none, false)
abbrev mX7_seatOne : MI := (RX7, cX7_seatOne, 5, some .int, false)
abbrev mX7_leastMiles : MI := (RX7, cX7_leastMiles, 5, some .int, false)
abbrev mX7_milesNow : MI := (RX7, cX7_milesNow, 1, some .int, false)
abbrev mX7_miles : MI := (RX7, cX7_miles, 1, some .int, false)
abbrev mX7_few : MI := (RX7, cX7_few, 7, some .int, false)
abbrev mX7_layWeights : MI := (RX7, cX7_layWeights, 3, some .boolean, false)
abbrev mX7_weight : MI := (RX7, cX7_weight, 2, some .int, false)
abbrev mX7_line : MI := (RX7, cX7_line, 6, some .int, false)
abbrev mX7_holdsFor : MI := (RX7, cX7_holdsFor, 13, some .boolean, false)
abbrev mX7_holdsIn : MI := (RX7, cX7_holdsIn, 7, some .boolean, false)
abbrev mX7_check : MI := (RX7, cX7_check, 10, some .int, false)
abbrev mX7_churchIn : MI := (RX7, cX7_churchIn, 5, some .int, false)
abbrev mX7_rowMiles : MI := (RX7, cX7_rowMiles, 5, some .int, false)
abbrev mX7_family : MI := (RX7, cX7_family, 7, some .int, false)
abbrev mX7_even : MI := (RX7, cX7_even, 8, some .int, false)
abbrev mX7_common : MI := (RX7, cX7_common, 10, some .long, false)
abbrev mX7_border : MI := (RX7, cX7_border, 12, some .long, false)
abbrev mX7_who : MI := (RX7, cX7_who, 7, some .int, false)
abbrev mX7_place : MI := (RX7, cX7_place, 3, some .int, false)
abbrev mX7_move : MI := (RX7, cX7_move, 8, some .int, false)
abbrev mX7_openMiles : MI := (RX7, cX7_openMiles, 3, some .int, false)
abbrev mX7_open : MI := (RX7, cX7_open, 2, some .int, false)
abbrev mX7_best : MI := (RX7, cX7_best, 6, some .int, false)
abbrev mX7_noSheet : MI := (RX7, cX7_noSheet, 1, some .boolean, false)
abbrev mX7_sheet : MI := (RX7, cX7_sheet, 5, some .int, false)
abbrev mX7_lose : MI := (RX7, cX7_lose, 3, some .int, false)
abbrev mX7_noCell : MI := (RX7, cX7_noCell, 3, some .int, false)
abbrev mX7_put : MI := (RX7, cX7_put, 4, some .int, false)
abbrev mX7_cell : MI := (RX7, cX7_cell, 4, some .long, false)
abbrev mX7_isBeyond : MI := (RX7, cX7_isBeyond, 4, some .boolean, false)
abbrev mX7_copy : MI := (RX7, cX7_copy, 7, some .int, false)
abbrev mX7_traced : MI := (RX7, cX7_traced, 2, none, false)
abbrev mX7_tell : MI := (RX7, cX7_tell, 3, some .int, false)
abbrev mX7_ring : MI := (RX7, cX7_ring, 2, some .int, false)
abbrev mX7_as : MI := (RX7, cX7_as, 3, some .int, false)
abbrev mX7_trace : MI := (RX7, cX7_trace, 1, some .int, false)
abbrev mX7_fault : MI := (RX7, cX7_fault, 1, some .int, false)
abbrev mX7_many : MI := (RX7, cX7_many, 5, some .int, false)
abbrev mJ6_bitCount_0f7a4 : MI := (RJ6, cJ6_bitCount_0f7a4, 1, some .int, false)
abbrev mJ9_abs_0f7a4 : MI := (RJ9, cJ9_abs_0f7a4, 1, some .int, false)
abbrev mJ9_max_7cf53 : MI := (RJ9, cJ9_max_7cf53, 2, some .int, false)
abbrev mJ9_min_7cf53 : MI := (RJ9, cJ9_min_7cf53, 2, some .int, false)
theorem ck0 : CK 0 RX0 TX0 9 tyX0 := ⟨rfl, by decide +kernel, tyX0_ok, nmX0⟩
theorem ck1 : CK 1 RX1 TX1 12 tyX1 := ⟨rfl, by decide +kernel, tyX1_ok, nmX1⟩
theorem ck2 : CK 2 RX2 TX2 11 tyX2 := ⟨rfl, by decide +kernel, tyX2_ok, nmX2⟩
theorem ck3 : CK 3 RX3 TX3 12 tyX3 := ⟨rfl, by decide +kernel, tyX3_ok, nmX3⟩
theorem ck4 : CK 4 RX4 TX4 4 tyX4 := ⟨rfl, by decide +kernel, tyX4_ok, nmX4⟩
theorem ck5 : CK 5 RX5 TX5 1 tyX5 := ⟨rfl, by decide +kernel, tyX5_ok, nmX5⟩
theorem ck6 : CK 6 RX6 TX6 17 tyX6 := ⟨rfl, by decide +kernel, tyX6_ok, nmX6⟩
theorem ck7 : CK 7 RX7 TX7 31 tyX7 := ⟨rfl, by decide +kernel, tyX7_ok, nmX7⟩
theorem nwL_7 : NW RL 7 6 17 [some .null, some .null, some .null, some .null, some .null, some .null, some .null, some .null, some .null, none, none, none, none, none, none, none, none] := ⟨RX6, TX6, tyX6, ck6, tk_12, tk_13, tk_1, rfl, by decide⟩
theorem lbX6_init : LB yX6_init mX6_init 0 := ⟨⟨tk_1, tk_16⟩, ⟨by decide, by decide, by decide +kernel⟩, by decide, rfl, fun _ => rfl, by decide⟩
theorem lkL_9 : LI RL 9 yX6_init mX6_init 0 := ⟨lbX6_init, tk_14, tk_15, rfl, rfl⟩
theorem nwX6_9 : NW RX6 9 1 12 [some .null, some .null, some .null, some .null, some .null, some .null, some .null, some .null, none, none, none, none] := ⟨RX1, TX1, tyX1, ck1, tk_20, tk_21, tk_2, rfl, by decide⟩
theorem lbX1_init : LB yX1_init mX1_init 0 := ⟨⟨tk_2, tk_24⟩, ⟨by decide, by decide, by decide +kernel⟩, by decide, rfl, fun _ => rfl, by decide⟩
theorem lkX6_11 : LIN RX6 11 yX1_init mX1_init 0 "NearSeats" := ⟨lbX1_init, by decide +kernel, tk_23, rfl, rfl⟩
theorem flX1_9 : FL RX1 9 1 0 (.array .int) true := ⟨RX1, TX1, 12, tyX1, ck1, by decide, tk_26, rfl, rfl, rfl⟩
theorem flX0_63 : FL RX0 63 1 0 (.array .int) true := ⟨RX1, TX1, 12, tyX1, ck1, by decide, tk_27, rfl, rfl, rfl⟩
theorem flX3_70 : FL RX3 70 1 0 (.array .int) true := ⟨RX1, TX1, 12, tyX1, ck1, by decide, tk_28, rfl, rfl, rfl⟩
theorem flX6_116 : FL RX6 116 1 0 (.array .int) true := ⟨RX1, TX1, 12, tyX1, ck1, by decide, tk_29, rfl, rfl, rfl⟩
theorem flX1_15 : FL RX1 15 1 1 (.array .int) true := ⟨RX1, TX1, 12, tyX1, ck1, by decide, tk_30, rfl, rfl, rfl⟩
theorem flX0_66 : FL RX0 66 1 1 (.array .int) true := ⟨RX1, TX1, 12, tyX1, ck1, by decide, tk_31, rfl, rfl, rfl⟩
theorem flX3_73 : FL RX3 73 1 1 (.array .int) true := ⟨RX1, TX1, 12, tyX1, ck1, by decide, tk_32, rfl, rfl, rfl⟩
theorem flX6_119 : FL RX6 119 1 1 (.array .int) true := ⟨RX1, TX1, 12, tyX1, ck1, by decide, tk_33, rfl, rfl, rfl⟩
theorem flX1_18 : FL RX1 18 1 2 (.array .int) true := ⟨RX1, TX1, 12, tyX1, ck1, by decide, tk_34, rfl, rfl, rfl⟩
theorem flX3_53 : FL RX3 53 1 2 (.array .int) true := ⟨RX1, TX1, 12, tyX1, ck1, by decide, tk_35, rfl, rfl, rfl⟩
theorem flX0_50 : FL RX0 50 1 2 (.array .int) true := ⟨RX1, TX1, 12, tyX1, ck1, by decide, tk_36, rfl, rfl, rfl⟩
theorem flX6_122 : FL RX6 122 1 2 (.array .int) true := ⟨RX1, TX1, 12, tyX1, ck1, by decide, tk_37, rfl, rfl, rfl⟩
theorem flX1_21 : FL RX1 21 1 3 (.array .int) true := ⟨RX1, TX1, 12, tyX1, ck1, by decide, tk_38, rfl, rfl, rfl⟩
theorem flX1_24 : FL RX1 24 1 4 (.array .int) true := ⟨RX1, TX1, 12, tyX1, ck1, by decide, tk_39, rfl, rfl, rfl⟩
theorem flX3_67 : FL RX3 67 1 4 (.array .int) true := ⟨RX1, TX1, 12, tyX1, ck1, by decide, tk_40, rfl, rfl, rfl⟩
theorem flX6_128 : FL RX6 128 1 4 (.array .int) true := ⟨RX1, TX1, 12, tyX1, ck1, by decide, tk_41, rfl, rfl, rfl⟩
theorem flX1_27 : FL RX1 27 1 5 (.array .int) true := ⟨RX1, TX1, 12, tyX1, ck1, by decide, tk_42, rfl, rfl, rfl⟩
theorem flX3_57 : FL RX3 57 1 5 (.array .int) true := ⟨RX1, TX1, 12, tyX1, ck1, by decide, tk_43, rfl, rfl, rfl⟩
theorem flX6_131 : FL RX6 131 1 5 (.array .int) true := ⟨RX1, TX1, 12, tyX1, ck1, by decide, tk_44, rfl, rfl, rfl⟩
theorem flX1_30 : FL RX1 30 1 6 (.array .int) true := ⟨RX1, TX1, 12, tyX1, ck1, by decide, tk_45, rfl, rfl, rfl⟩
theorem flX3_60 : FL RX3 60 1 6 (.array .int) true := ⟨RX1, TX1, 12, tyX1, ck1, by decide, tk_46, rfl, rfl, rfl⟩
theorem flX6_134 : FL RX6 134 1 6 (.array .int) true := ⟨RX1, TX1, 12, tyX1, ck1, by decide, tk_47, rfl, rfl, rfl⟩
theorem flX1_33 : FL RX1 33 1 7 (.array .int) true := ⟨RX1, TX1, 12, tyX1, ck1, by decide, tk_48, rfl, rfl, rfl⟩
theorem flX0_47 : FL RX0 47 1 7 (.array .int) true := ⟨RX1, TX1, 12, tyX1, ck1, by decide, tk_49, rfl, rfl, rfl⟩
theorem flX3_54 : FL RX3 54 1 7 (.array .int) true := ⟨RX1, TX1, 12, tyX1, ck1, by decide, tk_50, rfl, rfl, rfl⟩
theorem flX6_137 : FL RX6 137 1 7 (.array .int) true := ⟨RX1, TX1, 12, tyX1, ck1, by decide, tk_51, rfl, rfl, rfl⟩
theorem flX3_42 : FL RX3 42 1 8 .int false := ⟨RX1, TX1, 12, tyX1, ck1, by decide, tk_52, rfl, rfl, rfl⟩
theorem flX0_30 : FL RX0 30 1 8 .int false := ⟨RX1, TX1, 12, tyX1, ck1, by decide, tk_53, rfl, rfl, rfl⟩
theorem flX1_40 : FL RX1 40 1 8 .int false := ⟨RX1, TX1, 12, tyX1, ck1, by decide, tk_54, rfl, rfl, rfl⟩
theorem flX6_81 : FL RX6 81 1 8 .int false := ⟨RX1, TX1, 12, tyX1, ck1, by decide, tk_55, rfl, rfl, rfl⟩
theorem flX3_49 : FL RX3 49 1 9 .int false := ⟨RX1, TX1, 12, tyX1, ck1, by decide, tk_56, rfl, rfl, rfl⟩
theorem flX0_43 : FL RX0 43 1 9 .int false := ⟨RX1, TX1, 12, tyX1, ck1, by decide, tk_57, rfl, rfl, rfl⟩
theorem flX1_43 : FL RX1 43 1 9 .int false := ⟨RX1, TX1, 12, tyX1, ck1, by decide, tk_58, rfl, rfl, rfl⟩
theorem flX6_88 : FL RX6 88 1 9 .int false := ⟨RX1, TX1, 12, tyX1, ck1, by decide, tk_59, rfl, rfl, rfl⟩
theorem flX1_36 : FL RX1 36 1 10 .int false := ⟨RX1, TX1, 12, tyX1, ck1, by decide, tk_60, rfl, rfl, rfl⟩
theorem flX1_46 : FL RX1 46 1 11 .int false := ⟨RX1, TX1, 12, tyX1, ck1, by decide, tk_61, rfl, rfl, rfl⟩
theorem flX6_274 : FL RX6 274 1 11 .int false := ⟨RX1, TX1, 12, tyX1, ck1, by decide, tk_62, rfl, rfl, rfl⟩
theorem nwX6_18 : NW RX6 18 2 11 [some .null, some .null, some .null, some .null, some .null, none, none, none, none, none, none] := ⟨RX2, TX2, tyX2, ck2, tk_89, tk_90, tk_3, rfl, by decide⟩
theorem lbX2_init : LB yX2_init mX2_init 0 := ⟨⟨tk_3, tk_93⟩, ⟨by decide, by decide, by decide +kernel⟩, by decide, rfl, fun _ => rfl, by decide⟩
theorem lkX6_20 : LIN RX6 20 yX2_init mX2_init 0 "NearSeats" := ⟨lbX2_init, by decide +kernel, tk_92, rfl, rfl⟩
theorem flX2_9 : FL RX2 9 2 0 (.array .int) true := ⟨RX2, TX2, 11, tyX2, ck2, by decide, tk_95, rfl, rfl, rfl⟩
theorem flX2_15 : FL RX2 15 2 1 (.array .int) true := ⟨RX2, TX2, 11, tyX2, ck2, by decide, tk_96, rfl, rfl, rfl⟩
theorem flX2_18 : FL RX2 18 2 2 (.array .int) true := ⟨RX2, TX2, 11, tyX2, ck2, by decide, tk_97, rfl, rfl, rfl⟩
theorem flX2_21 : FL RX2 21 2 3 (.array .int) true := ⟨RX2, TX2, 11, tyX2, ck2, by decide, tk_98, rfl, rfl, rfl⟩
theorem flX2_24 : FL RX2 24 2 4 (.array .int) true := ⟨RX2, TX2, 11, tyX2, ck2, by decide, tk_99, rfl, rfl, rfl⟩
theorem flX2_43 : FL RX2 43 2 5 .int false := ⟨RX2, TX2, 11, tyX2, ck2, by decide, tk_100, rfl, rfl, rfl⟩
theorem flX2_39 : FL RX2 39 2 6 .int false := ⟨RX2, TX2, 11, tyX2, ck2, by decide, tk_101, rfl, rfl, rfl⟩
theorem flX2_58 : FL RX2 58 2 7 .int false := ⟨RX2, TX2, 11, tyX2, ck2, by decide, tk_102, rfl, rfl, rfl⟩
theorem flX2_61 : FL RX2 61 2 8 .int false := ⟨RX2, TX2, 11, tyX2, ck2, by decide, tk_103, rfl, rfl, rfl⟩
theorem flX2_31 : FL RX2 31 2 9 .boolean false := ⟨RX2, TX2, 11, tyX2, ck2, by decide, tk_104, rfl, rfl, rfl⟩
theorem flX6_105 : FL RX6 105 2 10 .int false := ⟨RX2, TX2, 11, tyX2, ck2, by decide, tk_105, rfl, rfl, rfl⟩
theorem flX2_100 : FL RX2 100 2 10 .int false := ⟨RX2, TX2, 11, tyX2, ck2, by decide, tk_106, rfl, rfl, rfl⟩
theorem nwX6_25 : NW RX6 25 3 12 [some .null, some .null, some .null, some .null, some .null, some .null, some .null, some .null, some .null, some .null, none, none] := ⟨RX3, TX3, tyX3, ck3, tk_130, tk_131, tk_4, rfl, by decide⟩
theorem lbX3_init : LB yX3_init mX3_init 0 := ⟨⟨tk_4, tk_134⟩, ⟨by decide, by decide, by decide +kernel⟩, by decide, rfl, fun _ => rfl, by decide⟩
theorem lkX6_27 : LIN RX6 27 yX3_init mX3_init 0 "NearSeats" := ⟨lbX3_init, by decide +kernel, tk_133, rfl, rfl⟩
theorem flX3_9 : FL RX3 9 3 0 (.array .int) true := ⟨RX3, TX3, 12, tyX3, ck3, by decide, tk_136, rfl, rfl, rfl⟩
theorem flX3_15 : FL RX3 15 3 1 (.array .int) true := ⟨RX3, TX3, 12, tyX3, ck3, by decide, tk_137, rfl, rfl, rfl⟩
theorem flX3_18 : FL RX3 18 3 2 (.array .int) true := ⟨RX3, TX3, 12, tyX3, ck3, by decide, tk_138, rfl, rfl, rfl⟩
theorem flX3_21 : FL RX3 21 3 3 (.array .int) true := ⟨RX3, TX3, 12, tyX3, ck3, by decide, tk_139, rfl, rfl, rfl⟩
theorem flX3_24 : FL RX3 24 3 4 (.array .int) true := ⟨RX3, TX3, 12, tyX3, ck3, by decide, tk_140, rfl, rfl, rfl⟩
theorem flX3_27 : FL RX3 27 3 5 (.array .int) true := ⟨RX3, TX3, 12, tyX3, ck3, by decide, tk_141, rfl, rfl, rfl⟩
theorem flX3_30 : FL RX3 30 3 6 (.array .int) true := ⟨RX3, TX3, 12, tyX3, ck3, by decide, tk_142, rfl, rfl, rfl⟩
theorem flX3_33 : FL RX3 33 3 7 (.array .int) true := ⟨RX3, TX3, 12, tyX3, ck3, by decide, tk_143, rfl, rfl, rfl⟩
theorem flX3_36 : FL RX3 36 3 8 (.array .int) true := ⟨RX3, TX3, 12, tyX3, ck3, by decide, tk_144, rfl, rfl, rfl⟩
theorem flX3_39 : FL RX3 39 3 9 (.array .int) true := ⟨RX3, TX3, 12, tyX3, ck3, by decide, tk_145, rfl, rfl, rfl⟩
theorem flX6_165 : FL RX6 165 3 9 (.array .int) true := ⟨RX3, TX3, 12, tyX3, ck3, by decide, tk_146, rfl, rfl, rfl⟩
theorem flX3_48 : FL RX3 48 3 10 .int false := ⟨RX3, TX3, 12, tyX3, ck3, by decide, tk_147, rfl, rfl, rfl⟩
theorem flX3_52 : FL RX3 52 3 11 .int false := ⟨RX3, TX3, 12, tyX3, ck3, by decide, tk_148, rfl, rfl, rfl⟩
theorem nwX6_35 : NW RX6 35 0 9 [some .null, some .null, some .null, some .null, some .null, some .null, none, none, none] := ⟨RX0, TX0, tyX0, ck0, tk_174, tk_175, tk_5, rfl, by decide⟩
theorem lbX0_init : LB yX0_init mX0_init 0 := ⟨⟨tk_5, tk_178⟩, ⟨by decide, by decide, by decide +kernel⟩, by decide, rfl, fun _ => rfl, by decide⟩
theorem lkX6_37 : LIN RX6 37 yX0_init mX0_init 0 "NearSeats" := ⟨lbX0_init, by decide +kernel, tk_177, rfl, rfl⟩
theorem flX0_9 : FL RX0 9 0 0 (.array .int) true := ⟨RX0, TX0, 9, tyX0, ck0, by decide, tk_180, rfl, rfl, rfl⟩
theorem flX0_15 : FL RX0 15 0 1 (.array .int) true := ⟨RX0, TX0, 9, tyX0, ck0, by decide, tk_181, rfl, rfl, rfl⟩
theorem flX0_18 : FL RX0 18 0 2 (.array .int) true := ⟨RX0, TX0, 9, tyX0, ck0, by decide, tk_182, rfl, rfl, rfl⟩
theorem flX0_21 : FL RX0 21 0 3 (.array .int) true := ⟨RX0, TX0, 9, tyX0, ck0, by decide, tk_183, rfl, rfl, rfl⟩
theorem flX0_24 : FL RX0 24 0 4 (.array .int) true := ⟨RX0, TX0, 9, tyX0, ck0, by decide, tk_184, rfl, rfl, rfl⟩
theorem flX0_27 : FL RX0 27 0 5 (.array .int) true := ⟨RX0, TX0, 9, tyX0, ck0, by decide, tk_185, rfl, rfl, rfl⟩
theorem flX6_182 : FL RX6 182 0 5 (.array .int) true := ⟨RX0, TX0, 9, tyX0, ck0, by decide, tk_186, rfl, rfl, rfl⟩
theorem flX0_42 : FL RX0 42 0 6 .int false := ⟨RX0, TX0, 9, tyX0, ck0, by decide, tk_187, rfl, rfl, rfl⟩
theorem flX0_46 : FL RX0 46 0 7 .int false := ⟨RX0, TX0, 9, tyX0, ck0, by decide, tk_188, rfl, rfl, rfl⟩
theorem flX0_56 : FL RX0 56 0 8 .int false := ⟨RX0, TX0, 9, tyX0, ck0, by decide, tk_189, rfl, rfl, rfl⟩
theorem flX6_178 : FL RX6 178 0 8 .int false := ⟨RX0, TX0, 9, tyX0, ck0, by decide, tk_190, rfl, rfl, rfl⟩
theorem nwX6_42 : NW RX6 42 5 1 [none] := ⟨RX5, TX5, tyX5, ck5, tk_210, tk_211, tk_6, rfl, by decide⟩
theorem lbX5_init : LB yX5_init mX5_init 0 := ⟨⟨tk_6, tk_214⟩, ⟨by decide, by decide, by decide +kernel⟩, by decide, rfl, fun _ => rfl, by decide⟩
theorem lkX6_44 : LIN RX6 44 yX5_init mX5_init 0 "NearSeats" := ⟨lbX5_init, by decide +kernel, tk_213, rfl, rfl⟩
theorem flX5_25 : FL RX5 25 5 0 .int false := ⟨RX5, TX5, 1, tyX5, ck5, by decide, tk_216, rfl, rfl, rfl⟩
theorem flX6_267 : FL RX6 267 5 0 .int false := ⟨RX5, TX5, 1, tyX5, ck5, by decide, tk_217, rfl, rfl, rfl⟩
theorem nwX6_49 : NW RX6 49 4 4 [some .null, none, none, none] := ⟨RX4, TX4, tyX4, ck4, tk_221, tk_223, tk_7, rfl, by decide⟩
theorem lbX4_init : LB yX4_init mX4_init 0 := ⟨⟨tk_7, tk_226⟩, ⟨by decide, by decide, by decide +kernel⟩, by decide, rfl, fun _ => rfl, by decide⟩
theorem lkX6_72 : LIN RX6 72 yX4_init mX4_init 0 "NearSeats" := ⟨lbX4_init, by decide +kernel, tk_225, rfl, rfl⟩
theorem flX4_9 : FL RX4 9 4 0 (.array .int) true := ⟨RX4, TX4, 4, tyX4, ck4, by decide, tk_228, rfl, rfl, rfl⟩
theorem flX6_98 : FL RX6 98 4 0 (.array .int) true := ⟨RX4, TX4, 4, tyX4, ck4, by decide, tk_229, rfl, rfl, rfl⟩
theorem flX4_15 : FL RX4 15 4 1 .boolean false := ⟨RX4, TX4, 4, tyX4, ck4, by decide, tk_230, rfl, rfl, rfl⟩
theorem flX6_239 : FL RX6 239 4 1 .boolean false := ⟨RX4, TX4, 4, tyX4, ck4, by decide, tk_231, rfl, rfl, rfl⟩
theorem flX4_19 : FL RX4 19 4 2 .int false := ⟨RX4, TX4, 4, tyX4, ck4, by decide, tk_232, rfl, rfl, rfl⟩
theorem flX6_249 : FL RX6 249 4 2 .int false := ⟨RX4, TX4, 4, tyX4, ck4, by decide, tk_233, rfl, rfl, rfl⟩
theorem flX4_23 : FL RX4 23 4 3 .int false := ⟨RX4, TX4, 4, tyX4, ck4, by decide, tk_234, rfl, rfl, rfl⟩
theorem flX6_12 : FL RX6 12 6 0 (.object "NearSeats$Land") true := ⟨RX6, TX6, 17, tyX6, ck6, by decide, tk_244, rfl, rfl, rfl⟩
theorem flX6_21 : FL RX6 21 6 1 (.object "NearSeats$LandText") true := ⟨RX6, TX6, 17, tyX6, ck6, by decide, tk_245, rfl, rfl, rfl⟩
theorem flX6_28 : FL RX6 28 6 2 (.object "NearSeats$Sender") true := ⟨RX6, TX6, 17, tyX6, ck6, by decide, tk_246, rfl, rfl, rfl⟩
theorem flX6_32 : FL RX6 32 6 3 (.object "NearSeats$Sender") true := ⟨RX6, TX6, 17, tyX6, ck6, by decide, tk_247, rfl, rfl, rfl⟩
theorem flX6_38 : FL RX6 38 6 4 (.object "NearSeats$Families") true := ⟨RX6, TX6, 17, tyX6, ck6, by decide, tk_248, rfl, rfl, rfl⟩
theorem flX6_45 : FL RX6 45 6 5 (.object "NearSeats$Teller") true := ⟨RX6, TX6, 17, tyX6, ck6, by decide, tk_249, rfl, rfl, rfl⟩
theorem flX6_51 : FL RX6 51 6 6 (.array (.object "NearSeats$Sheet")) true := ⟨RX6, TX6, 17, tyX6, ck6, by decide, tk_250, rfl, rfl, rfl⟩
theorem flX6_55 : FL RX6 55 6 7 (.array .int) true := ⟨RX6, TX6, 17, tyX6, ck6, by decide, tk_251, rfl, rfl, rfl⟩
theorem flX6_59 : FL RX6 59 6 8 (.array .int) true := ⟨RX6, TX6, 17, tyX6, ck6, by decide, tk_252, rfl, rfl, rfl⟩
theorem flX6_206 : FL RX6 206 6 9 .int false := ⟨RX6, TX6, 17, tyX6, ck6, by decide, tk_253, rfl, rfl, rfl⟩
theorem flX6_224 : FL RX6 224 6 10 .int false := ⟨RX6, TX6, 17, tyX6, ck6, by decide, tk_254, rfl, rfl, rfl⟩
theorem flX6_62 : FL RX6 62 6 11 .int false := ⟨RX6, TX6, 17, tyX6, ck6, by decide, tk_255, rfl, rfl, rfl⟩
theorem flX6_66 : FL RX6 66 6 12 .int false := ⟨RX6, TX6, 17, tyX6, ck6, by decide, tk_256, rfl, rfl, rfl⟩
theorem flX6_69 : FL RX6 69 6 13 .int false := ⟨RX6, TX6, 17, tyX6, ck6, by decide, tk_257, rfl, rfl, rfl⟩
theorem flX6_284 : FL RX6 284 6 14 .int false := ⟨RX6, TX6, 17, tyX6, ck6, by decide, tk_258, rfl, rfl, rfl⟩
theorem flX6_188 : FL RX6 188 6 15 .int false := ⟨RX6, TX6, 17, tyX6, ck6, by decide, tk_259, rfl, rfl, rfl⟩
theorem flX6_191 : FL RX6 191 6 16 .int false := ⟨RX6, TX6, 17, tyX6, ck6, by decide, tk_260, rfl, rfl, rfl⟩
theorem lbX6_home : LB yX6_home mX6_home 3 := ⟨⟨tk_1, tk_299⟩, ⟨by decide, by decide, by decide +kernel⟩, by decide, rfl, fun h => Bool.noConfusion h, by decide⟩
theorem lkL_13 : LV RL 13 yX6_home mX6_home 3 6 := ⟨lbX6_home, tk_296, tk_297, tk_298, _, _, rfl⟩
theorem lbX6_isSpot : LB yX6_isSpot mX6_isSpot 2 := ⟨⟨tk_1, tk_302⟩, ⟨by decide, by decide, by decide +kernel⟩, by decide, rfl, fun h => Bool.noConfusion h, by decide⟩
theorem lkX6_73 : LSs RX6 73 yX6_isSpot mX6_isSpot 2 := ⟨lbX6_isSpot, tk_300, tk_301⟩
theorem lbX6_isWithin : LB yX6_isWithin mX6_isWithin 3 := ⟨⟨tk_1, tk_305⟩, ⟨by decide, by decide, by decide +kernel⟩, by decide, rfl, fun h => Bool.noConfusion h, by decide⟩
theorem lkX6_77 : LSs RX6 77 yX6_isWithin mX6_isWithin 3 := ⟨lbX6_isWithin, tk_303, tk_304⟩
theorem lbX1_addHome : LB yX1_addHome mX1_addHome 3 := ⟨⟨tk_2, tk_309⟩, ⟨by decide, by decide, by decide +kernel⟩, by decide, rfl, fun h => Bool.noConfusion h, by decide⟩
theorem lkX6_84 : LV RX6 84 yX1_addHome mX1_addHome 3 1 := ⟨lbX1_addHome, tk_306, tk_307, tk_308, _, _, rfl⟩
theorem lbX6_church : LB yX6_church mX6_church 4 := ⟨⟨tk_1, tk_313⟩, ⟨by decide, by decide, by decide +kernel⟩, by decide, rfl, fun h => Bool.noConfusion h, by decide⟩
theorem lkL_18 : LV RL 18 yX6_church mX6_church 4 6 := ⟨lbX6_church, tk_310, tk_311, tk_312, _, _, rfl⟩
theorem lbX1_addChurch : LB yX1_addChurch mX1_addChurch 4 := ⟨⟨tk_2, tk_317⟩, ⟨by decide, by decide, by decide +kernel⟩, by decide, rfl, fun h => Bool.noConfusion h, by decide⟩
theorem lkX6_91 : LV RX6 91 yX1_addChurch mX1_addChurch 4 1 := ⟨lbX1_addChurch, tk_314, tk_315, tk_316, _, _, rfl⟩
theorem lbX6_land : LB yX6_land mX6_land 4 := ⟨⟨tk_1, tk_321⟩, ⟨by decide, by decide, by decide +kernel⟩, by decide, rfl, fun h => Bool.noConfusion h, by decide⟩
theorem lkL_23 : LV RL 23 yX6_land mX6_land 4 6 := ⟨lbX6_land, tk_318, tk_319, tk_320, _, _, rfl⟩
theorem lbX6_refusalOfRow : LB yX6_refusalOfRow mX6_refusalOfRow 4 := ⟨⟨tk_1, tk_325⟩, ⟨by decide, by decide, by decide +kernel⟩, by decide, rfl, fun h => Bool.noConfusion h, by decide⟩
theorem lkX6_95 : LV RX6 95 yX6_refusalOfRow mX6_refusalOfRow 4 6 := ⟨lbX6_refusalOfRow, tk_322, tk_324, tp_0, _, _, rfl⟩
theorem lbX6_isSheet : LB yX6_isSheet mX6_isSheet 1 := ⟨⟨tk_1, tk_328⟩, ⟨by decide, by decide, by decide +kernel⟩, by decide, rfl, fun h => Bool.noConfusion h, by decide⟩
theorem lkX6_227 : LSs RX6 227 yX6_isSheet mX6_isSheet 1 := ⟨lbX6_isSheet, tk_326, tk_327⟩
theorem lbX6_isLane : LB yX6_isLane mX6_isLane 1 := ⟨⟨tk_1, tk_331⟩, ⟨by decide, by decide, by decide +kernel⟩, by decide, rfl, fun h => Bool.noConfusion h, by decide⟩
theorem lkX6_230 : LSs RX6 230 yX6_isLane mX6_isLane 1 := ⟨lbX6_isLane, tk_329, tk_330⟩
theorem lbX6_faulty : LB yX6_faulty mX6_faulty 1 := ⟨⟨tk_1, tk_335⟩, ⟨by decide, by decide, by decide +kernel⟩, by decide, rfl, fun h => Bool.noConfusion h, by decide⟩
theorem lkX6_233 : LV RX6 233 yX6_faulty mX6_faulty 1 6 := ⟨lbX6_faulty, tk_332, tk_334, tp_1, _, _, rfl⟩
theorem lbX4_hasCells : LB yX4_hasCells mX4_hasCells 2 := ⟨⟨tk_7, tk_339⟩, ⟨by decide, by decide, by decide +kernel⟩, by decide, rfl, fun h => Bool.noConfusion h, by decide⟩
theorem lkX6_252 : LV RX6 252 yX4_hasCells mX4_hasCells 2 4 := ⟨lbX4_hasCells, tk_336, tk_337, tk_338, _, _, rfl⟩
theorem lbX2_readItems : LB yX2_readItems mX2_readItems 3 := ⟨⟨tk_3, tk_343⟩, ⟨by decide, by decide, by decide +kernel⟩, by decide, rfl, fun h => Bool.noConfusion h, by decide⟩
theorem lkX6_101 : LV RX6 101 yX2_readItems mX2_readItems 3 2 := ⟨lbX2_readItems, tk_340, tk_341, tk_342, _, _, rfl⟩
theorem lbX2_begin : LB yX2_begin mX2_begin 3 := ⟨⟨tk_3, tk_347⟩, ⟨by decide, by decide, by decide +kernel⟩, by decide, rfl, fun h => Bool.noConfusion h, by decide⟩
theorem lkX2_27 : LV RX2 27 yX2_begin mX2_begin 3 2 := ⟨lbX2_begin, tk_344, tk_346, tp_2, _, _, rfl⟩
theorem lkX2_52 : Cond.methodLink RX2 52 arraycopyName ∈ tw ∧ Cond.native arraycopyName ∈ tw ∧ Cond.static arraycopyName ∈ tw ∧ Cond.initialized "java/lang/System" ∈ tw := ⟨tk_348, tk_350, tk_349, tk_9⟩
theorem lbX2_readItem : LB yX2_readItem mX2_readItem 1 := ⟨⟨tk_3, tk_354⟩, ⟨by decide, by decide, by decide +kernel⟩, by decide, rfl, fun h => Bool.noConfusion h, by decide⟩
theorem lkX2_35 : LV RX2 35 yX2_readItem mX2_readItem 1 2 := ⟨lbX2_readItem, tk_351, tk_353, tp_3, _, _, rfl⟩
theorem lbX2_readKind : LB yX2_readKind mX2_readKind 1 := ⟨⟨tk_3, tk_358⟩, ⟨by decide, by decide, by decide +kernel⟩, by decide, rfl, fun h => Bool.noConfusion h, by decide⟩
theorem lkX2_77 : LV RX2 77 yX2_readKind mX2_readKind 1 2 := ⟨lbX2_readKind, tk_355, tk_357, tp_4, _, _, rfl⟩
theorem lbX2_codeHere : LB yX2_codeHere mX2_codeHere 0 := ⟨⟨tk_3, tk_362⟩, ⟨by decide, by decide, by decide +kernel⟩, by decide, rfl, fun h => Bool.noConfusion h, by decide⟩
theorem lkX2_84 : LV RX2 84 yX2_codeHere mX2_codeHere 0 2 := ⟨lbX2_codeHere, tk_359, tk_361, tp_5, _, _, rfl⟩
theorem lbX2_kindOf : LB yX2_kindOf mX2_kindOf 1 := ⟨⟨tk_3, tk_365⟩, ⟨by decide, by decide, by decide +kernel⟩, by decide, rfl, fun h => Bool.noConfusion h, by decide⟩
theorem lkX2_88 : LSs RX2 88 yX2_kindOf mX2_kindOf 1 := ⟨lbX2_kindOf, tk_363, tk_364⟩
theorem lbX2_failAt : LB yX2_failAt mX2_failAt 1 := ⟨⟨tk_3, tk_369⟩, ⟨by decide, by decide, by decide +kernel⟩, by decide, rfl, fun h => Bool.noConfusion h, by decide⟩
theorem lkX2_46 : LV RX2 46 yX2_failAt mX2_failAt 1 2 := ⟨lbX2_failAt, tk_366, tk_368, tp_6, _, _, rfl⟩
theorem lbX2_readNumber : LB yX2_readNumber mX2_readNumber 2 := ⟨⟨tk_3, tk_373⟩, ⟨by decide, by decide, by decide +kernel⟩, by decide, rfl, fun h => Bool.noConfusion h, by decide⟩
theorem lkX2_80 : LV RX2 80 yX2_readNumber mX2_readNumber 2 2 := ⟨lbX2_readNumber, tk_370, tk_372, tp_7, _, _, rfl⟩
theorem lbX2_isDigit : LB yX2_isDigit mX2_isDigit 1 := ⟨⟨tk_3, tk_376⟩, ⟨by decide, by decide, by decide +kernel⟩, by decide, rfl, fun h => Bool.noConfusion h, by decide⟩
theorem lkX2_92 : LSs RX2 92 yX2_isDigit mX2_isDigit 1 := ⟨lbX2_isDigit, tk_374, tk_375⟩
theorem lkX2_96 : LSN RX2 96 yX6_isWithin mX6_isWithin 3 "NearSeats" := ⟨lbX6_isWithin, by decide +kernel, tk_304⟩
theorem lbX2_takeCode : LB yX2_takeCode mX2_takeCode 1 := ⟨⟨tk_3, tk_381⟩, ⟨by decide, by decide, by decide +kernel⟩, by decide, rfl, fun h => Bool.noConfusion h, by decide⟩
theorem lkX2_49 : LV RX2 49 yX2_takeCode mX2_takeCode 1 2 := ⟨lbX2_takeCode, tk_378, tk_380, tp_8, _, _, rfl⟩
theorem lbX2_layOut : LB yX2_layOut mX2_layOut 2 := ⟨⟨tk_3, tk_385⟩, ⟨by decide, by decide, by decide +kernel⟩, by decide, rfl, fun h => Bool.noConfusion h, by decide⟩
theorem lkX6_108 : LV RX6 108 yX2_layOut mX2_layOut 2 2 := ⟨lbX2_layOut, tk_382, tk_383, tk_384, _, _, rfl⟩
theorem lbX1_empty : LB yX1_empty mX1_empty 0 := ⟨⟨tk_2, tk_389⟩, ⟨by decide, by decide, by decide +kernel⟩, by decide, rfl, fun h => Bool.noConfusion h, by decide⟩
theorem lkX2_64 : LV RX2 64 yX1_empty mX1_empty 0 1 := ⟨lbX1_empty, tk_386, tk_387, tk_388, _, _, rfl⟩
theorem lkX2_69 : LV RX2 69 yX1_addHome mX1_addHome 3 1 := ⟨lbX1_addHome, tk_390, tk_307, tk_308, _, _, rfl⟩
theorem lkX2_73 : LV RX2 73 yX1_addChurch mX1_addChurch 4 1 := ⟨lbX1_addChurch, tk_391, tk_315, tk_316, _, _, rfl⟩
theorem lbX6_ofHome : LB yX6_ofHome mX6_ofHome 2 := ⟨⟨tk_1, tk_395⟩, ⟨by decide, by decide, by decide +kernel⟩, by decide, rfl, fun h => Bool.noConfusion h, by decide⟩
theorem lkL_27 : LV RL 27 yX6_ofHome mX6_ofHome 2 6 := ⟨lbX6_ofHome, tk_392, tk_393, tk_394, _, _, rfl⟩
theorem lbX1_hasHome : LB yX1_hasHome mX1_hasHome 1 := ⟨⟨tk_2, tk_399⟩, ⟨by decide, by decide, by decide +kernel⟩, by decide, rfl, fun h => Bool.noConfusion h, by decide⟩
theorem lkX6_112 : LV RX6 112 yX1_hasHome mX1_hasHome 1 1 := ⟨lbX1_hasHome, tk_396, tk_397, tk_398, _, _, rfl⟩
theorem lbX6_ofChurch : LB yX6_ofChurch mX6_ofChurch 2 := ⟨⟨tk_1, tk_403⟩, ⟨by decide, by decide, by decide +kernel⟩, by decide, rfl, fun h => Bool.noConfusion h, by decide⟩
theorem lkL_32 : LV RL 32 yX6_ofChurch mX6_ofChurch 2 6 := ⟨lbX6_ofChurch, tk_400, tk_401, tk_402, _, _, rfl⟩
theorem lbX1_hasChurch : LB yX1_hasChurch mX1_hasChurch 1 := ⟨⟨tk_2, tk_407⟩, ⟨by decide, by decide, by decide +kernel⟩, by decide, rfl, fun h => Bool.noConfusion h, by decide⟩
theorem lkX6_125 : LV RX6 125 yX1_hasChurch mX1_hasChurch 1 1 := ⟨lbX1_hasChurch, tk_404, tk_405, tk_406, _, _, rfl⟩
theorem lbX6_bar : LB yX6_bar mX6_bar 3 := ⟨⟨tk_1, tk_411⟩, ⟨by decide, by decide, by decide +kernel⟩, by decide, rfl, fun h => Bool.noConfusion h, by decide⟩
theorem lkL_36 : LV RL 36 yX6_bar mX6_bar 3 6 := ⟨lbX6_bar, tk_408, tk_409, tk_410, _, _, rfl⟩
theorem lbX1_isBarred : LB yX1_isBarred mX1_isBarred 2 := ⟨⟨tk_2, tk_415⟩, ⟨by decide, by decide, by decide +kernel⟩, by decide, rfl, fun h => Bool.noConfusion h, by decide⟩
theorem lkX6_140 : LV RX6 140 yX1_isBarred mX1_isBarred 2 1 := ⟨lbX1_isBarred, tk_412, tk_413, tk_414, _, _, rfl⟩
theorem lbX1_turnBar : LB yX1_turnBar mX1_turnBar 2 := ⟨⟨tk_2, tk_419⟩, ⟨by decide, by decide, by decide +kernel⟩, by decide, rfl, fun h => Bool.noConfusion h, by decide⟩
theorem lkX6_143 : LV RX6 143 yX1_turnBar mX1_turnBar 2 1 := ⟨lbX1_turnBar, tk_416, tk_417, tk_418, _, _, rfl⟩
theorem lbX6_seats : LB yX6_seats mX6_seats 2 := ⟨⟨tk_1, tk_423⟩, ⟨by decide, by decide, by decide +kernel⟩, by decide, rfl, fun h => Bool.noConfusion h, by decide⟩
theorem lkL_41 : LV RL 41 yX6_seats mX6_seats 2 6 := ⟨lbX6_seats, tk_420, tk_421, tk_422, _, _, rfl⟩
theorem lbX1_changeSeats : LB yX1_changeSeats mX1_changeSeats 2 := ⟨⟨tk_2, tk_427⟩, ⟨by decide, by decide, by decide +kernel⟩, by decide, rfl, fun h => Bool.noConfusion h, by decide⟩
theorem lkX6_147 : LV RX6 147 yX1_changeSeats mX1_changeSeats 2 1 := ⟨lbX1_changeSeats, tk_424, tk_425, tk_426, _, _, rfl⟩
theorem lbX6_toll : LB yX6_toll mX6_toll 1 := ⟨⟨tk_1, tk_431⟩, ⟨by decide, by decide, by decide +kernel⟩, by decide, rfl, fun h => Bool.noConfusion h, by decide⟩
theorem lkL_45 : LV RL 45 yX6_toll mX6_toll 1 6 := ⟨lbX6_toll, tk_428, tk_429, tk_430, _, _, rfl⟩
theorem lbX1_changeToll : LB yX1_changeToll mX1_changeToll 1 := ⟨⟨tk_2, tk_435⟩, ⟨by decide, by decide, by decide +kernel⟩, by decide, rfl, fun h => Bool.noConfusion h, by decide⟩
theorem lkX6_151 : LV RX6 151 yX1_changeToll mX1_changeToll 1 1 := ⟨lbX1_changeToll, tk_432, tk_433, tk_434, _, _, rfl⟩
theorem lbX6_far : LB yX6_far mX6_far 3 := ⟨⟨tk_1, tk_439⟩, ⟨by decide, by decide, by decide +kernel⟩, by decide, rfl, fun h => Bool.noConfusion h, by decide⟩
theorem lkL_50 : LV RL 50 yX6_far mX6_far 3 6 := ⟨lbX6_far, tk_436, tk_437, tk_438, _, _, rfl⟩
theorem lbX1_farTo : LB yX1_farTo mX1_farTo 3 := ⟨⟨tk_2, tk_443⟩, ⟨by decide, by decide, by decide +kernel⟩, by decide, rfl, fun h => Bool.noConfusion h, by decide⟩
theorem lkX6_155 : LV RX6 155 yX1_farTo mX1_farTo 3 1 := ⟨lbX1_farTo, tk_440, tk_441, tk_442, _, _, rfl⟩
theorem lbX1_farBetween : LB yX1_farBetween mX1_farBetween 5 := ⟨⟨tk_2, tk_447⟩, ⟨by decide, by decide, by decide +kernel⟩, by decide, rfl, fun h => Bool.noConfusion h, by decide⟩
theorem lkX1_49 : LV RX1 49 yX1_farBetween mX1_farBetween 5 1 := ⟨lbX1_farBetween, tk_444, tk_445, tk_446, _, _, rfl⟩
theorem lkX1_53 : LM RX1 53 Lib.Math.abs.name Lib.Math.abs.code 1 := ⟨tk_448, tk_449, tk_10, tk_450⟩
theorem lbX6_miles : LB yX6_miles mX6_miles 0 := ⟨⟨tk_1, tk_454⟩, ⟨by decide, by decide, by decide +kernel⟩, by decide, rfl, fun h => Bool.noConfusion h, by decide⟩
theorem lkL_54 : LV RL 54 yX6_miles mX6_miles 0 6 := ⟨lbX6_miles, tk_451, tk_452, tk_453, _, _, rfl⟩
theorem lbX6_leastMiles : LB yX6_leastMiles mX6_leastMiles 0 := ⟨⟨tk_1, tk_458⟩, ⟨by decide, by decide, by decide +kernel⟩, by decide, rfl, fun h => Bool.noConfusion h, by decide⟩
theorem lkX6_158 : LV RX6 158 yX6_leastMiles mX6_leastMiles 0 6 := ⟨lbX6_leastMiles, tk_455, tk_457, tp_9, _, _, rfl⟩
theorem lbX3_load : LB yX3_load mX3_load 1 := ⟨⟨tk_4, tk_462⟩, ⟨by decide, by decide, by decide +kernel⟩, by decide, rfl, fun h => Bool.noConfusion h, by decide⟩
theorem lkX6_277 : LV RX6 277 yX3_load mX3_load 1 3 := ⟨lbX3_load, tk_459, tk_460, tk_461, _, _, rfl⟩
theorem lbX3_putChurch : LB yX3_putChurch mX3_putChurch 4 := ⟨⟨tk_4, tk_466⟩, ⟨by decide, by decide, by decide +kernel⟩, by decide, rfl, fun h => Bool.noConfusion h, by decide⟩
theorem lkX3_63 : LV RX3 63 yX3_putChurch mX3_putChurch 4 3 := ⟨lbX3_putChurch, tk_463, tk_464, tk_465, _, _, rfl⟩
theorem lkX3_76 : LV RX3 76 yX1_farBetween mX1_farBetween 5 1 := ⟨lbX1_farBetween, tk_467, tk_445, tk_446, _, _, rfl⟩
theorem lkX3_80 : LV RX3 80 yX1_isBarred mX1_isBarred 2 1 := ⟨lbX1_isBarred, tk_468, tk_413, tk_414, _, _, rfl⟩
theorem lbX3_send : LB yX3_send mX3_send 0 := ⟨⟨tk_4, tk_473⟩, ⟨by decide, by decide, by decide +kernel⟩, by decide, rfl, fun h => Bool.noConfusion h, by decide⟩
theorem lkX6_281 : LV RX6 281 yX3_send mX3_send 0 3 := ⟨lbX3_send, tk_470, tk_471, tk_472, _, _, rfl⟩
theorem lbX3_seatHome : LB yX3_seatHome mX3_seatHome 1 := ⟨⟨tk_4, tk_477⟩, ⟨by decide, by decide, by decide +kernel⟩, by decide, rfl, fun h => Bool.noConfusion h, by decide⟩
theorem lkX3_85 : LV RX3 85 yX3_seatHome mX3_seatHome 1 3 := ⟨lbX3_seatHome, tk_474, tk_476, tp_10, _, _, rfl⟩
theorem lbX3_findSteps : LB yX3_findSteps mX3_findSteps 0 := ⟨⟨tk_4, tk_481⟩, ⟨by decide, by decide, by decide +kernel⟩, by decide, rfl, fun h => Bool.noConfusion h, by decide⟩
theorem lkX3_93 : LV RX3 93 yX3_findSteps mX3_findSteps 0 3 := ⟨lbX3_findSteps, tk_478, tk_480, tp_11, _, _, rfl⟩
theorem lbX3_findStepsOf : LB yX3_findStepsOf mX3_findStepsOf 2 := ⟨⟨tk_4, tk_485⟩, ⟨by decide, by decide, by decide +kernel⟩, by decide, rfl, fun h => Bool.noConfusion h, by decide⟩
theorem lkX3_110 : LV RX3 110 yX3_findStepsOf mX3_findStepsOf 2 3 := ⟨lbX3_findStepsOf, tk_482, tk_484, tp_12, _, _, rfl⟩
theorem lbX3_startAt : LB yX3_startAt mX3_startAt 1 := ⟨⟨tk_4, tk_489⟩, ⟨by decide, by decide, by decide +kernel⟩, by decide, rfl, fun h => Bool.noConfusion h, by decide⟩
theorem lkX3_96 : LV RX3 96 yX3_startAt mX3_startAt 1 3 := ⟨lbX3_startAt, tk_486, tk_488, tp_13, _, _, rfl⟩
theorem lbX3_spread : LB yX3_spread mX3_spread 0 := ⟨⟨tk_4, tk_493⟩, ⟨by decide, by decide, by decide +kernel⟩, by decide, rfl, fun h => Bool.noConfusion h, by decide⟩
theorem lkX3_100 : LV RX3 100 yX3_spread mX3_spread 0 3 := ⟨lbX3_spread, tk_490, tk_492, tp_14, _, _, rfl⟩
theorem lbX3_spreadFrom : LB yX3_spreadFrom mX3_spreadFrom 1 := ⟨⟨tk_4, tk_497⟩, ⟨by decide, by decide, by decide +kernel⟩, by decide, rfl, fun h => Bool.noConfusion h, by decide⟩
theorem lkX3_114 : LV RX3 114 yX3_spreadFrom mX3_spreadFrom 1 3 := ⟨lbX3_spreadFrom, tk_494, tk_496, tp_15, _, _, rfl⟩
theorem lbX3_cheapestWithRoom : LB yX3_cheapestWithRoom mX3_cheapestWithRoom 0 := ⟨⟨tk_4, tk_501⟩, ⟨by decide, by decide, by decide +kernel⟩, by decide, rfl, fun h => Bool.noConfusion h, by decide⟩
theorem lkX3_103 : LV RX3 103 yX3_cheapestWithRoom mX3_cheapestWithRoom 0 3 := ⟨lbX3_cheapestWithRoom, tk_498, tk_500, tp_16, _, _, rfl⟩
theorem lbX3_seatAlong : LB yX3_seatAlong mX3_seatAlong 3 := ⟨⟨tk_4, tk_505⟩, ⟨by decide, by decide, by decide +kernel⟩, by decide, rfl, fun h => Bool.noConfusion h, by decide⟩
theorem lkX3_106 : LV RX3 106 yX3_seatAlong mX3_seatAlong 3 3 := ⟨lbX3_seatAlong, tk_502, tk_504, tp_17, _, _, rfl⟩
theorem lkX3_117 : LM RX3 117 Lib.Math.min.name Lib.Math.min.code 2 := ⟨tk_506, tk_507, tk_10, tk_508⟩
theorem lbX3_moverTo : LB yX3_moverTo mX3_moverTo 1 := ⟨⟨tk_4, tk_512⟩, ⟨by decide, by decide, by decide +kernel⟩, by decide, rfl, fun h => Bool.noConfusion h, by decide⟩
theorem lkX3_123 : LV RX3 123 yX3_moverTo mX3_moverTo 1 3 := ⟨lbX3_moverTo, tk_509, tk_511, tp_18, _, _, rfl⟩
theorem lbX3_sumOfMiles : LB yX3_sumOfMiles mX3_sumOfMiles 0 := ⟨⟨tk_4, tk_516⟩, ⟨by decide, by decide, by decide +kernel⟩, by decide, rfl, fun h => Bool.noConfusion h, by decide⟩
theorem lkX3_89 : LV RX3 89 yX3_sumOfMiles mX3_sumOfMiles 0 3 := ⟨lbX3_sumOfMiles, tk_513, tk_515, tp_19, _, _, rfl⟩
theorem lbX3_weigh : LB yX3_weigh mX3_weigh 0 := ⟨⟨tk_4, tk_520⟩, ⟨by decide, by decide, by decide +kernel⟩, by decide, rfl, fun h => Bool.noConfusion h, by decide⟩
theorem lkX6_287 : LV RX6 287 yX3_weigh mX3_weigh 0 3 := ⟨lbX3_weigh, tk_517, tk_518, tk_519, _, _, rfl⟩
theorem lkX3_127 : LM RX3 127 Lib.Math.max.name Lib.Math.max.code 2 := ⟨tk_521, tk_522, tk_10, tk_523⟩
theorem lbX6_few : LB yX6_few mX6_few 0 := ⟨⟨tk_1, tk_527⟩, ⟨by decide, by decide, by decide +kernel⟩, by decide, rfl, fun h => Bool.noConfusion h, by decide⟩
theorem lkL_59 : LV RL 59 yX6_few mX6_few 0 6 := ⟨lbX6_few, tk_524, tk_525, tk_526, _, _, rfl⟩
theorem lbX1_cannotSit : LB yX1_cannotSit mX1_cannotSit 1 := ⟨⟨tk_2, tk_531⟩, ⟨by decide, by decide, by decide +kernel⟩, by decide, rfl, fun h => Bool.noConfusion h, by decide⟩
theorem lkX6_162 : LV RX6 162 yX1_cannotSit mX1_cannotSit 1 1 := ⟨lbX1_cannotSit, tk_528, tk_529, tk_530, _, _, rfl⟩
theorem lbX6_weight : LB yX6_weight mX6_weight 1 := ⟨⟨tk_1, tk_535⟩, ⟨by decide, by decide, by decide +kernel⟩, by decide, rfl, fun h => Bool.noConfusion h, by decide⟩
theorem lkL_63 : LV RL 63 yX6_weight mX6_weight 1 6 := ⟨lbX6_weight, tk_532, tk_533, tk_534, _, _, rfl⟩
theorem lbX6_line : LB yX6_line mX6_line 1 := ⟨⟨tk_1, tk_539⟩, ⟨by decide, by decide, by decide +kernel⟩, by decide, rfl, fun h => Bool.noConfusion h, by decide⟩
theorem lkL_67 : LV RL 67 yX6_line mX6_line 1 6 := ⟨lbX6_line, tk_536, tk_537, tk_538, _, _, rfl⟩
theorem lbX3_lineOf : LB yX3_lineOf mX3_lineOf 1 := ⟨⟨tk_4, tk_543⟩, ⟨by decide, by decide, by decide +kernel⟩, by decide, rfl, fun h => Bool.noConfusion h, by decide⟩
theorem lkX6_168 : LV RX6 168 yX3_lineOf mX3_lineOf 1 3 := ⟨lbX3_lineOf, tk_540, tk_541, tk_542, _, _, rfl⟩
theorem lbX6_check : LB yX6_check mX6_check 4 := ⟨⟨tk_1, tk_547⟩, ⟨by decide, by decide, by decide +kernel⟩, by decide, rfl, fun h => Bool.noConfusion h, by decide⟩
theorem lkL_71 : LV RL 71 yX6_check mX6_check 4 6 := ⟨lbX6_check, tk_544, tk_545, tk_546, _, _, rfl⟩
theorem lbX1_proofHolds : LB yX1_proofHolds mX1_proofHolds 2 := ⟨⟨tk_2, tk_551⟩, ⟨by decide, by decide, by decide +kernel⟩, by decide, rfl, fun h => Bool.noConfusion h, by decide⟩
theorem lkX6_171 : LV RX6 171 yX1_proofHolds mX1_proofHolds 2 1 := ⟨lbX1_proofHolds, tk_548, tk_549, tk_550, _, _, rfl⟩
theorem lbX1_allOfHomeGo : LB yX1_allOfHomeGo mX1_allOfHomeGo 3 := ⟨⟨tk_2, tk_555⟩, ⟨by decide, by decide, by decide +kernel⟩, by decide, rfl, fun h => Bool.noConfusion h, by decide⟩
theorem lkX1_59 : LV RX1 59 yX1_allOfHomeGo mX1_allOfHomeGo 3 1 := ⟨lbX1_allOfHomeGo, tk_552, tk_554, tp_20, _, _, rfl⟩
theorem lkX1_70 : LV RX1 70 yX1_isBarred mX1_isBarred 2 1 := ⟨lbX1_isBarred, tk_556, tk_413, tk_414, _, _, rfl⟩
theorem lbX1_numberFits : LB yX1_numberFits mX1_numberFits 4 := ⟨⟨tk_2, tk_560⟩, ⟨by decide, by decide, by decide +kernel⟩, by decide, rfl, fun h => Bool.noConfusion h, by decide⟩
theorem lkX1_63 : LV RX1 63 yX1_numberFits mX1_numberFits 4 1 := ⟨lbX1_numberFits, tk_557, tk_559, tp_21, _, _, rfl⟩
theorem lbX1_goesToLeast : LB yX1_goesToLeast mX1_goesToLeast 4 := ⟨⟨tk_2, tk_565⟩, ⟨by decide, by decide, by decide +kernel⟩, by decide, rfl, fun h => Bool.noConfusion h, by decide⟩
theorem lkX1_67 : LV RX1 67 yX1_goesToLeast mX1_goesToLeast 4 1 := ⟨lbX1_goesToLeast, tk_562, tk_564, tp_22, _, _, rfl⟩
theorem lkX1_76 : LV RX1 76 yX1_farTo mX1_farTo 3 1 := ⟨lbX1_farTo, tk_567, tk_441, tk_442, _, _, rfl⟩
theorem lkX1_80 : LM RX1 80 Lib.Math.min.name Lib.Math.min.code 2 := ⟨tk_568, tk_507, tk_10, tk_508⟩
theorem lkX1_84 : LM RX1 84 Lib.Math.max.name Lib.Math.max.code 2 := ⟨tk_569, tk_522, tk_10, tk_523⟩
theorem lbX6_family : LB yX6_family mX6_family 1 := ⟨⟨tk_1, tk_573⟩, ⟨by decide, by decide, by decide +kernel⟩, by decide, rfl, fun h => Bool.noConfusion h, by decide⟩
theorem lkL_75 : LV RL 75 yX6_family mX6_family 1 6 := ⟨lbX6_family, tk_570, tk_571, tk_572, _, _, rfl⟩
theorem lbX6_seekFamilies : LB yX6_seekFamilies mX6_seekFamilies 0 := ⟨⟨tk_1, tk_577⟩, ⟨by decide, by decide, by decide +kernel⟩, by decide, rfl, fun h => Bool.noConfusion h, by decide⟩
theorem lkX6_175 : LV RX6 175 yX6_seekFamilies mX6_seekFamilies 0 6 := ⟨lbX6_seekFamilies, tk_574, tk_576, tp_23, _, _, rfl⟩
theorem lbX0_seek : LB yX0_seek mX0_seek 1 := ⟨⟨tk_5, tk_581⟩, ⟨by decide, by decide, by decide +kernel⟩, by decide, rfl, fun h => Bool.noConfusion h, by decide⟩
theorem lkX6_290 : LV RX6 290 yX0_seek mX0_seek 1 0 := ⟨lbX0_seek, tk_578, tk_579, tk_580, _, _, rfl⟩
theorem lkX0_36 : LM RX0 36 Lib.Math.min.name Lib.Math.min.code 2 := ⟨tk_582, tk_507, tk_10, tk_508⟩
theorem lbX0_loadHome : LB yX0_loadHome mX0_loadHome 2 := ⟨⟨tk_5, tk_587⟩, ⟨by decide, by decide, by decide +kernel⟩, by decide, rfl, fun h => Bool.noConfusion h, by decide⟩
theorem lkX0_52 : LV RX0 52 yX0_loadHome mX0_loadHome 2 0 := ⟨lbX0_loadHome, tk_584, tk_586, tp_24, _, _, rfl⟩
theorem lkX0_69 : LV RX0 69 yX1_farTo mX1_farTo 3 1 := ⟨lbX1_farTo, tk_588, tk_441, tk_442, _, _, rfl⟩
theorem lkX0_73 : LV RX0 73 yX1_isBarred mX1_isBarred 2 1 := ⟨lbX1_isBarred, tk_589, tk_413, tk_414, _, _, rfl⟩
theorem lbX0_tryHome : LB yX0_tryHome mX0_tryHome 2 := ⟨⟨tk_5, tk_593⟩, ⟨by decide, by decide, by decide +kernel⟩, by decide, rfl, fun h => Bool.noConfusion h, by decide⟩
theorem lkX0_59 : LV RX0 59 yX0_tryHome mX0_tryHome 2 0 := ⟨lbX0_tryHome, tk_590, tk_592, tp_25, _, _, rfl⟩
theorem lbX0_keep : LB yX0_keep mX0_keep 1 := ⟨⟨tk_5, tk_597⟩, ⟨by decide, by decide, by decide +kernel⟩, by decide, rfl, fun h => Bool.noConfusion h, by decide⟩
theorem lkX0_77 : LV RX0 77 yX0_keep mX0_keep 1 0 := ⟨lbX0_keep, tk_594, tk_596, tp_26, _, _, rfl⟩
theorem lbX6_even : LB yX6_even mX6_even 1 := ⟨⟨tk_1, tk_602⟩, ⟨by decide, by decide, by decide +kernel⟩, by decide, rfl, fun h => Bool.noConfusion h, by decide⟩
theorem lkL_79 : LV RL 79 yX6_even mX6_even 1 6 := ⟨lbX6_even, tk_599, tk_600, tk_601, _, _, rfl⟩
theorem lbX6_seekEven : LB yX6_seekEven mX6_seekEven 0 := ⟨⟨tk_1, tk_606⟩, ⟨by decide, by decide, by decide +kernel⟩, by decide, rfl, fun h => Bool.noConfusion h, by decide⟩
theorem lkX6_185 : LV RX6 185 yX6_seekEven mX6_seekEven 0 6 := ⟨lbX6_seekEven, tk_603, tk_605, tp_27, _, _, rfl⟩
theorem lbX3_longest : LB yX3_longest mX3_longest 0 := ⟨⟨tk_4, tk_610⟩, ⟨by decide, by decide, by decide +kernel⟩, by decide, rfl, fun h => Bool.noConfusion h, by decide⟩
theorem lkX6_293 : LV RX6 293 yX3_longest mX3_longest 0 3 := ⟨lbX3_longest, tk_607, tk_608, tk_609, _, _, rfl⟩
theorem lbX6_shortenLongest : LB yX6_shortenLongest mX6_shortenLongest 0 := ⟨⟨tk_1, tk_614⟩, ⟨by decide, by decide, by decide +kernel⟩, by decide, rfl, fun h => Bool.noConfusion h, by decide⟩
theorem lkX6_296 : LV RX6 296 yX6_shortenLongest mX6_shortenLongest 0 6 := ⟨lbX6_shortenLongest, tk_611, tk_613, tp_28, _, _, rfl⟩
theorem lbX3_forbidBeyond : LB yX3_forbidBeyond mX3_forbidBeyond 1 := ⟨⟨tk_4, tk_618⟩, ⟨by decide, by decide, by decide +kernel⟩, by decide, rfl, fun h => Bool.noConfusion h, by decide⟩
theorem lkX6_299 : LV RX6 299 yX3_forbidBeyond mX3_forbidBeyond 1 3 := ⟨lbX3_forbidBeyond, tk_615, tk_616, tk_617, _, _, rfl⟩
theorem lbX6_border : LB yX6_border mX6_border 3 := ⟨⟨tk_1, tk_622⟩, ⟨by decide, by decide, by decide +kernel⟩, by decide, rfl, fun h => Bool.noConfusion h, by decide⟩
theorem lkL_83 : LV RL 83 yX6_border mX6_border 3 6 := ⟨lbX6_border, tk_619, tk_620, tk_621, _, _, rfl⟩
theorem lbX1_atOneSpot : LB yX1_atOneSpot mX1_atOneSpot 2 := ⟨⟨tk_2, tk_627⟩, ⟨by decide, by decide, by decide +kernel⟩, by decide, rfl, fun h => Bool.noConfusion h, by decide⟩
theorem lkX6_196 : LV RX6 196 yX1_atOneSpot mX1_atOneSpot 2 1 := ⟨lbX1_atOneSpot, tk_624, tk_625, tk_626, _, _, rfl⟩
theorem lbX6_partOfBorder : LB yX6_partOfBorder mX6_partOfBorder 3 := ⟨⟨tk_1, tk_631⟩, ⟨by decide, by decide, by decide +kernel⟩, by decide, rfl, fun h => Bool.noConfusion h, by decide⟩
theorem lkX6_199 : LV RX6 199 yX6_partOfBorder mX6_partOfBorder 3 6 := ⟨lbX6_partOfBorder, tk_628, tk_630, tp_29, _, _, rfl⟩
theorem lbX6_sideOfBorder : LB yX6_sideOfBorder mX6_sideOfBorder 1 := ⟨⟨tk_1, tk_635⟩, ⟨by decide, by decide, by decide +kernel⟩, by decide, rfl, fun h => Bool.noConfusion h, by decide⟩
theorem lkX6_310 : LV RX6 310 yX6_sideOfBorder mX6_sideOfBorder 1 6 := ⟨lbX6_sideOfBorder, tk_632, tk_634, tp_30, _, _, rfl⟩
theorem lkX6_313 : LM RX6 313 Lib.Math.abs.name Lib.Math.abs.code 1 := ⟨tk_636, tk_449, tk_10, tk_450⟩
theorem lbX6_commonDivisor : LB yX6_commonDivisor mX6_commonDivisor 2 := ⟨⟨tk_1, tk_639⟩, ⟨by decide, by decide, by decide +kernel⟩, by decide, rfl, fun h => Bool.noConfusion h, by decide⟩
theorem lkX6_318 : LSs RX6 318 yX6_commonDivisor mX6_commonDivisor 2 := ⟨lbX6_commonDivisor, tk_637, tk_638⟩
theorem lbX6_who : LB yX6_who mX6_who 2 := ⟨⟨tk_1, tk_643⟩, ⟨by decide, by decide, by decide +kernel⟩, by decide, rfl, fun h => Bool.noConfusion h, by decide⟩
theorem lkL_88 : LV RL 88 yX6_who mX6_who 2 6 := ⟨lbX6_who, tk_640, tk_641, tk_642, _, _, rfl⟩
theorem lbX6_leastChurch : LB yX6_leastChurch mX6_leastChurch 2 := ⟨⟨tk_1, tk_647⟩, ⟨by decide, by decide, by decide +kernel⟩, by decide, rfl, fun h => Bool.noConfusion h, by decide⟩
theorem lkX6_203 : LV RX6 203 yX6_leastChurch mX6_leastChurch 2 6 := ⟨lbX6_leastChurch, tk_644, tk_646, tp_31, _, _, rfl⟩
theorem lbX6_place : LB yX6_place mX6_place 2 := ⟨⟨tk_1, tk_651⟩, ⟨by decide, by decide, by decide +kernel⟩, by decide, rfl, fun h => Bool.noConfusion h, by decide⟩
theorem lkL_92 : LV RL 92 yX6_place mX6_place 2 6 := ⟨lbX6_place, tk_648, tk_649, tk_650, _, _, rfl⟩
theorem lbX6_move : LB yX6_move mX6_move 1 := ⟨⟨tk_1, tk_655⟩, ⟨by decide, by decide, by decide +kernel⟩, by decide, rfl, fun h => Bool.noConfusion h, by decide⟩
theorem lkL_96 : LV RL 96 yX6_move mX6_move 1 6 := ⟨lbX6_move, tk_652, tk_653, tk_654, _, _, rfl⟩
theorem lbX6_bestPlace : LB yX6_bestPlace mX6_bestPlace 1 := ⟨⟨tk_1, tk_659⟩, ⟨by decide, by decide, by decide +kernel⟩, by decide, rfl, fun h => Bool.noConfusion h, by decide⟩
theorem lkX6_209 : LV RX6 209 yX6_bestPlace mX6_bestPlace 1 6 := ⟨lbX6_bestPlace, tk_656, tk_658, tp_32, _, _, rfl⟩
theorem lkX6_306 : LV RX6 306 yX3_putChurch mX3_putChurch 4 3 := ⟨lbX3_putChurch, tk_660, tk_464, tk_465, _, _, rfl⟩
theorem lbX1_moveChurch : LB yX1_moveChurch mX1_moveChurch 3 := ⟨⟨tk_2, tk_664⟩, ⟨by decide, by decide, by decide +kernel⟩, by decide, rfl, fun h => Bool.noConfusion h, by decide⟩
theorem lkX6_212 : LV RX6 212 yX1_moveChurch mX1_moveChurch 3 1 := ⟨lbX1_moveChurch, tk_661, tk_662, tk_663, _, _, rfl⟩
theorem lbX6_open : LB yX6_open mX6_open 1 := ⟨⟨tk_1, tk_668⟩, ⟨by decide, by decide, by decide +kernel⟩, by decide, rfl, fun h => Bool.noConfusion h, by decide⟩
theorem lkL_100 : LV RL 100 yX6_open mX6_open 1 6 := ⟨lbX6_open, tk_665, tk_666, tk_667, _, _, rfl⟩
theorem lbX6_milesOfSet : LB yX6_milesOfSet mX6_milesOfSet 1 := ⟨⟨tk_1, tk_672⟩, ⟨by decide, by decide, by decide +kernel⟩, by decide, rfl, fun h => Bool.noConfusion h, by decide⟩
theorem lkX6_216 : LV RX6 216 yX6_milesOfSet mX6_milesOfSet 1 6 := ⟨lbX6_milesOfSet, tk_669, tk_671, tp_33, _, _, rfl⟩
theorem lbX3_shutAllBut : LB yX3_shutAllBut mX3_shutAllBut 1 := ⟨⟨tk_4, tk_676⟩, ⟨by decide, by decide, by decide +kernel⟩, by decide, rfl, fun h => Bool.noConfusion h, by decide⟩
theorem lkX6_303 : LV RX6 303 yX3_shutAllBut mX3_shutAllBut 1 3 := ⟨lbX3_shutAllBut, tk_673, tk_674, tk_675, _, _, rfl⟩
theorem lbX6_best : LB yX6_best mX6_best 1 := ⟨⟨tk_1, tk_680⟩, ⟨by decide, by decide, by decide +kernel⟩, by decide, rfl, fun h => Bool.noConfusion h, by decide⟩
theorem lkL_104 : LV RL 104 yX6_best mX6_best 1 6 := ⟨lbX6_best, tk_677, tk_678, tk_679, _, _, rfl⟩
theorem lbJ6_bitCount_0f7a4 : LB yJ6_bitCount_0f7a4 mJ6_bitCount_0f7a4 1 := ⟨⟨tk_11, tk_683⟩, ⟨by decide, by decide, by decide +kernel⟩, by decide, rfl, fun h => Bool.noConfusion h, by decide⟩
theorem lkX6_219 : LSs RX6 219 yJ6_bitCount_0f7a4 mJ6_bitCount_0f7a4 1 := ⟨lbJ6_bitCount_0f7a4, tk_681, tk_682⟩
theorem lbX6_sheet : LB yX6_sheet mX6_sheet 3 := ⟨⟨tk_1, tk_690⟩, ⟨by decide, by decide, by decide +kernel⟩, by decide, rfl, fun h => Bool.noConfusion h, by decide⟩
theorem lkL_108 : LV RL 108 yX6_sheet mX6_sheet 3 6 := ⟨lbX6_sheet, tk_687, tk_688, tk_689, _, _, rfl⟩
theorem lbX4_renew : LB yX4_renew mX4_renew 2 := ⟨⟨tk_7, tk_694⟩, ⟨by decide, by decide, by decide +kernel⟩, by decide, rfl, fun h => Bool.noConfusion h, by decide⟩
theorem lkX6_236 : LV RX6 236 yX4_renew mX4_renew 2 4 := ⟨lbX4_renew, tk_691, tk_692, tk_693, _, _, rfl⟩
theorem lbX6_lose : LB yX6_lose mX6_lose 1 := ⟨⟨tk_1, tk_698⟩, ⟨by decide, by decide, by decide +kernel⟩, by decide, rfl, fun h => Bool.noConfusion h, by decide⟩
theorem lkL_112 : LV RL 112 yX6_lose mX6_lose 1 6 := ⟨lbX6_lose, tk_695, tk_696, tk_697, _, _, rfl⟩
theorem lbX6_put : LB yX6_put mX6_put 3 := ⟨⟨tk_1, tk_702⟩, ⟨by decide, by decide, by decide +kernel⟩, by decide, rfl, fun h => Bool.noConfusion h, by decide⟩
theorem lkL_116 : LV RL 116 yX6_put mX6_put 3 6 := ⟨lbX6_put, tk_699, tk_700, tk_701, _, _, rfl⟩
theorem lbX4_hasCell : LB yX4_hasCell mX4_hasCell 1 := ⟨⟨tk_7, tk_706⟩, ⟨by decide, by decide, by decide +kernel⟩, by decide, rfl, fun h => Bool.noConfusion h, by decide⟩
theorem lkX6_243 : LV RX6 243 yX4_hasCell mX4_hasCell 1 4 := ⟨lbX4_hasCell, tk_703, tk_704, tk_705, _, _, rfl⟩
theorem lbX4_setCell : LB yX4_setCell mX4_setCell 2 := ⟨⟨tk_7, tk_710⟩, ⟨by decide, by decide, by decide +kernel⟩, by decide, rfl, fun h => Bool.noConfusion h, by decide⟩
theorem lkX6_246 : LV RX6 246 yX4_setCell mX4_setCell 2 4 := ⟨lbX4_setCell, tk_707, tk_708, tk_709, _, _, rfl⟩
theorem lbX6_cell : LB yX6_cell mX6_cell 3 := ⟨⟨tk_1, tk_714⟩, ⟨by decide, by decide, by decide +kernel⟩, by decide, rfl, fun h => Bool.noConfusion h, by decide⟩
theorem lkL_120 : LV RL 120 yX6_cell mX6_cell 3 6 := ⟨lbX6_cell, tk_711, tk_712, tk_713, _, _, rfl⟩
theorem lbX6_copy : LB yX6_copy mX6_copy 5 := ⟨⟨tk_1, tk_718⟩, ⟨by decide, by decide, by decide +kernel⟩, by decide, rfl, fun h => Bool.noConfusion h, by decide⟩
theorem lkL_124 : LV RL 124 yX6_copy mX6_copy 5 6 := ⟨lbX6_copy, tk_715, tk_716, tk_717, _, _, rfl⟩
theorem lkX6_255 : Cond.methodLink RX6 255 arraycopyName ∈ tw ∧ Cond.native arraycopyName ∈ tw ∧ Cond.static arraycopyName ∈ tw ∧ Cond.initialized "java/lang/System" ∈ tw := ⟨tk_719, tk_350, tk_349, tk_9⟩
theorem lbX6_tell : LB yX6_tell mX6_tell 1 := ⟨⟨tk_1, tk_723⟩, ⟨by decide, by decide, by decide +kernel⟩, by decide, rfl, fun h => Bool.noConfusion h, by decide⟩
theorem lkL_129 : LV RL 129 yX6_tell mX6_tell 1 6 := ⟨lbX6_tell, tk_720, tk_721, tk_722, _, _, rfl⟩
theorem lbX5_tellOf : LB yX5_tellOf mX5_tellOf 2 := ⟨⟨tk_6, tk_727⟩, ⟨by decide, by decide, by decide +kernel⟩, by decide, rfl, fun h => Bool.noConfusion h, by decide⟩
theorem lkX6_261 : LV RX6 261 yX5_tellOf mX5_tellOf 2 5 := ⟨lbX5_tellOf, tk_724, tk_725, tk_726, _, _, rfl⟩
theorem lbX5_squareTells : LB yX5_squareTells mX5_squareTells 1 := ⟨⟨tk_6, tk_731⟩, ⟨by decide, by decide, by decide +kernel⟩, by decide, rfl, fun h => Bool.noConfusion h, by decide⟩
theorem lkX5_9 : LV RX5 9 yX5_squareTells mX5_squareTells 1 5 := ⟨lbX5_squareTells, tk_728, tk_730, tp_34, _, _, rfl⟩
theorem lbX5_leave : LB yX5_leave mX5_leave 1 := ⟨⟨tk_6, tk_735⟩, ⟨by decide, by decide, by decide +kernel⟩, by decide, rfl, fun h => Bool.noConfusion h, by decide⟩
theorem lkX5_21 : LV RX5 21 yX5_leave mX5_leave 1 5 := ⟨lbX5_leave, tk_732, tk_734, tp_35, _, _, rfl⟩
theorem lbX5_stepsTells : LB yX5_stepsTells mX5_stepsTells 1 := ⟨⟨tk_6, tk_739⟩, ⟨by decide, by decide, by decide +kernel⟩, by decide, rfl, fun h => Bool.noConfusion h, by decide⟩
theorem lkX5_15 : LV RX5 15 yX5_stepsTells mX5_stepsTells 1 5 := ⟨lbX5_stepsTells, tk_736, tk_738, tp_36, _, _, rfl⟩
theorem lbX5_ferryTells : LB yX5_ferryTells mX5_ferryTells 1 := ⟨⟨tk_6, tk_743⟩, ⟨by decide, by decide, by decide +kernel⟩, by decide, rfl, fun h => Bool.noConfusion h, by decide⟩
theorem lkX5_18 : LV RX5 18 yX5_ferryTells mX5_ferryTells 1 5 := ⟨lbX5_ferryTells, tk_740, tk_742, tp_37, _, _, rfl⟩
theorem lbX6_ring : LB yX6_ring mX6_ring 1 := ⟨⟨tk_1, tk_747⟩, ⟨by decide, by decide, by decide +kernel⟩, by decide, rfl, fun h => Bool.noConfusion h, by decide⟩
theorem lkL_133 : LV RL 133 yX6_ring mX6_ring 1 6 := ⟨lbX6_ring, tk_744, tk_745, tk_746, _, _, rfl⟩
theorem lbX5_ringOf : LB yX5_ringOf mX5_ringOf 2 := ⟨⟨tk_6, tk_751⟩, ⟨by decide, by decide, by decide +kernel⟩, by decide, rfl, fun h => Bool.noConfusion h, by decide⟩
theorem lkX6_264 : LV RX6 264 yX5_ringOf mX5_ringOf 2 5 := ⟨lbX5_ringOf, tk_748, tk_749, tk_750, _, _, rfl⟩
theorem lbX6_as : LB yX6_as mX6_as 2 := ⟨⟨tk_1, tk_755⟩, ⟨by decide, by decide, by decide +kernel⟩, by decide, rfl, fun h => Bool.noConfusion h, by decide⟩
theorem lkL_137 : LV RL 137 yX6_as mX6_as 2 6 := ⟨lbX6_as, tk_752, tk_753, tk_754, _, _, rfl⟩
theorem lbX6_trace : LB yX6_trace mX6_trace 0 := ⟨⟨tk_1, tk_759⟩, ⟨by decide, by decide, by decide +kernel⟩, by decide, rfl, fun h => Bool.noConfusion h, by decide⟩
theorem lkL_141 : LV RL 141 yX6_trace mX6_trace 0 6 := ⟨lbX6_trace, tk_756, tk_757, tk_758, _, _, rfl⟩
theorem lbX6_fault : LB yX6_fault mX6_fault 0 := ⟨⟨tk_1, tk_763⟩, ⟨by decide, by decide, by decide +kernel⟩, by decide, rfl, fun h => Bool.noConfusion h, by decide⟩
theorem lkL_145 : LV RL 145 yX6_fault mX6_fault 0 6 := ⟨lbX6_fault, tk_760, tk_761, tk_762, _, _, rfl⟩
theorem lbX6_many : LB yX6_many mX6_many 1 := ⟨⟨tk_1, tk_767⟩, ⟨by decide, by decide, by decide +kernel⟩, by decide, rfl, fun h => Bool.noConfusion h, by decide⟩
theorem lkL_149 : LV RL 149 yX6_many mX6_many 1 6 := ⟨lbX6_many, tk_764, tk_765, tk_766, _, _, rfl⟩
theorem lbX6_sumOf : LB yX6_sumOf mX6_sumOf 2 := ⟨⟨tk_1, tk_770⟩, ⟨by decide, by decide, by decide +kernel⟩, by decide, rfl, fun h => Bool.noConfusion h, by decide⟩
theorem lkX6_270 : LSs RX6 270 yX6_sumOf mX6_sumOf 2 := ⟨lbX6_sumOf, tk_768, tk_769⟩
theorem nwL_10 : NW RL 10 7 31 [none, none, some .null, some .null, some .null, none, some .null, some .null, some .null, some .null, some .null, none, none, some .null, some .null, none, some .null, some .null, some .null, some .null, some .null, some .null, some .null, none, some .null, some .null, some .null, some .null, some .null, some .null, none] := ⟨RX7, TX7, tyX7, ck7, tk_771, tk_772, tk_8, rfl, by decide⟩
theorem lbX7_init : LB yX7_init mX7_init 0 := ⟨⟨tk_8, tk_775⟩, ⟨by decide, by decide, by decide +kernel⟩, by decide, rfl, fun _ => rfl, by decide⟩
theorem lkL_12 : LI RL 12 yX7_init mX7_init 0 := ⟨lbX7_init, tk_773, tk_774, rfl, rfl⟩
theorem flX7_92 : FL RX7 92 7 0 .int false := ⟨RX7, TX7, 31, tyX7, ck7, by decide, tk_777, rfl, rfl, rfl⟩
theorem flX7_112 : FL RX7 112 7 1 .int false := ⟨RX7, TX7, 31, tyX7, ck7, by decide, tk_778, rfl, rfl, rfl⟩
theorem flX7_7 : FL RX7 7 7 2 (.array .int) true := ⟨RX7, TX7, 31, tyX7, ck7, by decide, tk_779, rfl, rfl, rfl⟩
theorem flX7_13 : FL RX7 13 7 3 (.array .int) true := ⟨RX7, TX7, 31, tyX7, ck7, by decide, tk_780, rfl, rfl, rfl⟩
theorem flX7_16 : FL RX7 16 7 4 (.array .int) true := ⟨RX7, TX7, 31, tyX7, ck7, by decide, tk_781, rfl, rfl, rfl⟩
theorem flX7_115 : FL RX7 115 7 5 .int false := ⟨RX7, TX7, 31, tyX7, ck7, by decide, tk_782, rfl, rfl, rfl⟩
theorem flX7_19 : FL RX7 19 7 6 (.array .int) true := ⟨RX7, TX7, 31, tyX7, ck7, by decide, tk_783, rfl, rfl, rfl⟩
theorem flX7_22 : FL RX7 22 7 7 (.array .int) true := ⟨RX7, TX7, 31, tyX7, ck7, by decide, tk_784, rfl, rfl, rfl⟩
theorem flX7_25 : FL RX7 25 7 8 (.array .int) true := ⟨RX7, TX7, 31, tyX7, ck7, by decide, tk_785, rfl, rfl, rfl⟩
theorem flX7_28 : FL RX7 28 7 9 (.array .int) true := ⟨RX7, TX7, 31, tyX7, ck7, by decide, tk_786, rfl, rfl, rfl⟩
theorem flX7_31 : FL RX7 31 7 10 (.array .boolean) true := ⟨RX7, TX7, 31, tyX7, ck7, by decide, tk_787, rfl, rfl, rfl⟩
theorem flX7_80 : FL RX7 80 7 11 .int false := ⟨RX7, TX7, 31, tyX7, ck7, by decide, tk_788, rfl, rfl, rfl⟩
theorem flX7_144 : FL RX7 144 7 12 .int false := ⟨RX7, TX7, 31, tyX7, ck7, by decide, tk_789, rfl, rfl, rfl⟩
theorem flX7_35 : FL RX7 35 7 13 (.array .int) true := ⟨RX7, TX7, 31, tyX7, ck7, by decide, tk_790, rfl, rfl, rfl⟩
theorem flX7_38 : FL RX7 38 7 14 (.array .int) true := ⟨RX7, TX7, 31, tyX7, ck7, by decide, tk_791, rfl, rfl, rfl⟩
theorem flX7_134 : FL RX7 134 7 15 .int false := ⟨RX7, TX7, 31, tyX7, ck7, by decide, tk_792, rfl, rfl, rfl⟩
theorem flX7_41 : FL RX7 41 7 16 (.array .int) true := ⟨RX7, TX7, 31, tyX7, ck7, by decide, tk_793, rfl, rfl, rfl⟩
theorem flX7_44 : FL RX7 44 7 17 (.array .int) true := ⟨RX7, TX7, 31, tyX7, ck7, by decide, tk_794, rfl, rfl, rfl⟩
theorem flX7_47 : FL RX7 47 7 18 (.array .int) true := ⟨RX7, TX7, 31, tyX7, ck7, by decide, tk_795, rfl, rfl, rfl⟩
theorem flX7_50 : FL RX7 50 7 19 (.array .int) true := ⟨RX7, TX7, 31, tyX7, ck7, by decide, tk_796, rfl, rfl, rfl⟩
theorem flX7_53 : FL RX7 53 7 20 (.array .int) true := ⟨RX7, TX7, 31, tyX7, ck7, by decide, tk_797, rfl, rfl, rfl⟩
theorem flX7_56 : FL RX7 56 7 21 (.array .int) true := ⟨RX7, TX7, 31, tyX7, ck7, by decide, tk_798, rfl, rfl, rfl⟩
theorem flX7_59 : FL RX7 59 7 22 (.array .int) true := ⟨RX7, TX7, 31, tyX7, ck7, by decide, tk_799, rfl, rfl, rfl⟩
theorem flX7_239 : FL RX7 239 7 23 .int false := ⟨RX7, TX7, 31, tyX7, ck7, by decide, tk_800, rfl, rfl, rfl⟩
theorem flX7_62 : FL RX7 62 7 24 (.array .int) true := ⟨RX7, TX7, 31, tyX7, ck7, by decide, tk_801, rfl, rfl, rfl⟩
theorem flX7_65 : FL RX7 65 7 25 (.array .int) true := ⟨RX7, TX7, 31, tyX7, ck7, by decide, tk_802, rfl, rfl, rfl⟩
theorem flX7_68 : FL RX7 68 7 26 (.array .int) true := ⟨RX7, TX7, 31, tyX7, ck7, by decide, tk_803, rfl, rfl, rfl⟩
theorem flX7_71 : FL RX7 71 7 27 (.array .int) true := ⟨RX7, TX7, 31, tyX7, ck7, by decide, tk_804, rfl, rfl, rfl⟩
theorem flX7_74 : FL RX7 74 7 28 (.array .int) true := ⟨RX7, TX7, 31, tyX7, ck7, by decide, tk_805, rfl, rfl, rfl⟩
theorem flX7_77 : FL RX7 77 7 29 (.array .int) true := ⟨RX7, TX7, 31, tyX7, ck7, by decide, tk_806, rfl, rfl, rfl⟩
theorem flX7_257 : FL RX7 257 7 30 .int false := ⟨RX7, TX7, 31, tyX7, ck7, by decide, tk_807, rfl, rfl, rfl⟩
theorem lbX7_home : LB yX7_home mX7_home 3 := ⟨⟨tk_8, tk_875⟩, ⟨by decide, by decide, by decide +kernel⟩, by decide, rfl, fun h => Bool.noConfusion h, by decide⟩
theorem lkL_17 : LV RL 17 yX7_home mX7_home 3 7 := ⟨lbX7_home, tk_872, tk_873, tk_874, _, _, rfl⟩
theorem lbX7_isSpot : LB yX7_isSpot mX7_isSpot 2 := ⟨⟨tk_8, tk_878⟩, ⟨by decide, by decide, by decide +kernel⟩, by decide, rfl, fun h => Bool.noConfusion h, by decide⟩
theorem lkX7_118 : LSs RX7 118 yX7_isSpot mX7_isSpot 2 := ⟨lbX7_isSpot, tk_876, tk_877⟩
theorem lbX7_in : LB yX7_in mX7_in 3 := ⟨⟨tk_8, tk_882⟩, ⟨by decide, by decide, by decide +kernel⟩, by decide, rfl, fun h => Bool.noConfusion h, by decide⟩
theorem lkX7_88 : LSs RX7 88 yX7_in mX7_in 3 := ⟨lbX7_in, tk_880, tk_881⟩
theorem lbX7_addHome : LB yX7_addHome mX7_addHome 3 := ⟨⟨tk_8, tk_887⟩, ⟨by decide, by decide, by decide +kernel⟩, by decide, rfl, fun h => Bool.noConfusion h, by decide⟩
theorem lkX7_124 : LV RX7 124 yX7_addHome mX7_addHome 3 7 := ⟨lbX7_addHome, tk_884, tk_886, tp_38, _, _, rfl⟩
theorem lbX7_church : LB yX7_church mX7_church 4 := ⟨⟨tk_8, tk_891⟩, ⟨by decide, by decide, by decide +kernel⟩, by decide, rfl, fun h => Bool.noConfusion h, by decide⟩
theorem lkL_22 : LV RL 22 yX7_church mX7_church 4 7 := ⟨lbX7_church, tk_888, tk_889, tk_890, _, _, rfl⟩
theorem lbX7_addChurch : LB yX7_addChurch mX7_addChurch 4 := ⟨⟨tk_8, tk_897⟩, ⟨by decide, by decide, by decide +kernel⟩, by decide, rfl, fun h => Bool.noConfusion h, by decide⟩
theorem lkX7_130 : LV RX7 130 yX7_addChurch mX7_addChurch 4 7 := ⟨lbX7_addChurch, tk_894, tk_896, tp_39, _, _, rfl⟩
theorem lbX7_land : LB yX7_land mX7_land 4 := ⟨⟨tk_8, tk_901⟩, ⟨by decide, by decide, by decide +kernel⟩, by decide, rfl, fun h => Bool.noConfusion h, by decide⟩
theorem lkL_26 : LV RL 26 yX7_land mX7_land 4 7 := ⟨lbX7_land, tk_898, tk_899, tk_900, _, _, rfl⟩
theorem lbX7_noSheet : LB yX7_noSheet mX7_noSheet 1 := ⟨⟨tk_8, tk_904⟩, ⟨by decide, by decide, by decide +kernel⟩, by decide, rfl, fun h => Bool.noConfusion h, by decide⟩
theorem lkX7_158 : LSs RX7 158 yX7_noSheet mX7_noSheet 1 := ⟨lbX7_noSheet, tk_902, tk_903⟩
theorem lbX7_refused : LB yX7_refused mX7_refused 1 := ⟨⟨tk_8, tk_909⟩, ⟨by decide, by decide, by decide +kernel⟩, by decide, rfl, fun h => Bool.noConfusion h, by decide⟩
theorem lkX7_101 : LV RX7 101 yX7_refused mX7_refused 1 7 := ⟨lbX7_refused, tk_906, tk_908, tp_40, _, _, rfl⟩
theorem lbX7_refusal : LB yX7_refusal mX7_refusal 4 := ⟨⟨tk_8, tk_913⟩, ⟨by decide, by decide, by decide +kernel⟩, by decide, rfl, fun h => Bool.noConfusion h, by decide⟩
theorem lkX7_162 : LV RX7 162 yX7_refusal mX7_refusal 4 7 := ⟨lbX7_refusal, tk_910, tk_912, tp_41, _, _, rfl⟩
theorem lbX7_failed : LB yX7_failed mX7_failed 1 := ⟨⟨tk_8, tk_917⟩, ⟨by decide, by decide, by decide +kernel⟩, by decide, rfl, fun h => Bool.noConfusion h, by decide⟩
theorem lkX7_105 : LV RX7 105 yX7_failed mX7_failed 1 7 := ⟨lbX7_failed, tk_914, tk_916, tp_42, _, _, rfl⟩
theorem lbX7_isBeyond : LB yX7_isBeyond mX7_isBeyond 3 := ⟨⟨tk_8, tk_920⟩, ⟨by decide, by decide, by decide +kernel⟩, by decide, rfl, fun h => Bool.noConfusion h, by decide⟩
theorem lkX7_108 : LSs RX7 108 yX7_isBeyond mX7_isBeyond 3 := ⟨lbX7_isBeyond, tk_918, tk_919⟩
theorem lbX7_read : LB yX7_read mX7_read 2 := ⟨⟨tk_8, tk_924⟩, ⟨by decide, by decide, by decide +kernel⟩, by decide, rfl, fun h => Bool.noConfusion h, by decide⟩
theorem lkX7_166 : LV RX7 166 yX7_read mX7_read 2 7 := ⟨lbX7_read, tk_921, tk_923, tp_43, _, _, rfl⟩
theorem lbX7_readsItem : LB yX7_readsItem mX7_readsItem 2 := ⟨⟨tk_8, tk_928⟩, ⟨by decide, by decide, by decide +kernel⟩, by decide, rfl, fun h => Bool.noConfusion h, by decide⟩
theorem lkX7_155 : LV RX7 155 yX7_readsItem mX7_readsItem 2 7 := ⟨lbX7_readsItem, tk_925, tk_927, tp_44, _, _, rfl⟩
theorem lbX7_kindBy : LB yX7_kindBy mX7_kindBy 1 := ⟨⟨tk_8, tk_931⟩, ⟨by decide, by decide, by decide +kernel⟩, by decide, rfl, fun h => Bool.noConfusion h, by decide⟩
theorem lkX7_141 : LSs RX7 141 yX7_kindBy mX7_kindBy 1 := ⟨lbX7_kindBy, tk_929, tk_930⟩
theorem lbX7_readsNumber : LB yX7_readsNumber mX7_readsNumber 5 := ⟨⟨tk_8, tk_935⟩, ⟨by decide, by decide, by decide +kernel⟩, by decide, rfl, fun h => Bool.noConfusion h, by decide⟩
theorem lkX7_147 : LV RX7 147 yX7_readsNumber mX7_readsNumber 5 7 := ⟨lbX7_readsNumber, tk_932, tk_934, tp_45, _, _, rfl⟩
theorem lbX7_readsSign : LB yX7_readsSign mX7_readsSign 3 := ⟨⟨tk_8, tk_941⟩, ⟨by decide, by decide, by decide +kernel⟩, by decide, rfl, fun h => Bool.noConfusion h, by decide⟩
theorem lkX7_151 : LV RX7 151 yX7_readsSign mX7_readsSign 3 7 := ⟨lbX7_readsSign, tk_938, tk_940, tp_46, _, _, rfl⟩
theorem lbX7_ofHome : LB yX7_ofHome mX7_ofHome 2 := ⟨⟨tk_8, tk_945⟩, ⟨by decide, by decide, by decide +kernel⟩, by decide, rfl, fun h => Bool.noConfusion h, by decide⟩
theorem lkL_31 : LV RL 31 yX7_ofHome mX7_ofHome 2 7 := ⟨lbX7_ofHome, tk_942, tk_943, tk_944, _, _, rfl⟩
theorem lbX7_noHome : LB yX7_noHome mX7_noHome 1 := ⟨⟨tk_8, tk_949⟩, ⟨by decide, by decide, by decide +kernel⟩, by decide, rfl, fun h => Bool.noConfusion h, by decide⟩
theorem lkX7_170 : LV RX7 170 yX7_noHome mX7_noHome 1 7 := ⟨lbX7_noHome, tk_946, tk_948, tp_47, _, _, rfl⟩
theorem lbX7_ofChurch : LB yX7_ofChurch mX7_ofChurch 2 := ⟨⟨tk_8, tk_953⟩, ⟨by decide, by decide, by decide +kernel⟩, by decide, rfl, fun h => Bool.noConfusion h, by decide⟩
theorem lkL_35 : LV RL 35 yX7_ofChurch mX7_ofChurch 2 7 := ⟨lbX7_ofChurch, tk_950, tk_951, tk_952, _, _, rfl⟩
theorem lbX7_noChurch : LB yX7_noChurch mX7_noChurch 1 := ⟨⟨tk_8, tk_957⟩, ⟨by decide, by decide, by decide +kernel⟩, by decide, rfl, fun h => Bool.noConfusion h, by decide⟩
theorem lkX7_173 : LV RX7 173 yX7_noChurch mX7_noChurch 1 7 := ⟨lbX7_noChurch, tk_954, tk_956, tp_48, _, _, rfl⟩
theorem lbX7_bar : LB yX7_bar mX7_bar 3 := ⟨⟨tk_8, tk_961⟩, ⟨by decide, by decide, by decide +kernel⟩, by decide, rfl, fun h => Bool.noConfusion h, by decide⟩
theorem lkL_40 : LV RL 40 yX7_bar mX7_bar 3 7 := ⟨lbX7_bar, tk_958, tk_959, tk_960, _, _, rfl⟩
theorem lbX7_seats : LB yX7_seats mX7_seats 2 := ⟨⟨tk_8, tk_965⟩, ⟨by decide, by decide, by decide +kernel⟩, by decide, rfl, fun h => Bool.noConfusion h, by decide⟩
theorem lkL_44 : LV RL 44 yX7_seats mX7_seats 2 7 := ⟨lbX7_seats, tk_962, tk_963, tk_964, _, _, rfl⟩
theorem lbX7_toll : LB yX7_toll mX7_toll 1 := ⟨⟨tk_8, tk_969⟩, ⟨by decide, by decide, by decide +kernel⟩, by decide, rfl, fun h => Bool.noConfusion h, by decide⟩
theorem lkL_49 : LV RL 49 yX7_toll mX7_toll 1 7 := ⟨lbX7_toll, tk_966, tk_967, tk_968, _, _, rfl⟩
theorem lbX7_far : LB yX7_far mX7_far 3 := ⟨⟨tk_8, tk_974⟩, ⟨by decide, by decide, by decide +kernel⟩, by decide, rfl, fun h => Bool.noConfusion h, by decide⟩
theorem lkL_53 : LV RL 53 yX7_far mX7_far 3 7 := ⟨lbX7_far, tk_971, tk_972, tk_973, _, _, rfl⟩
theorem lbX7_farOf : LB yX7_farOf mX7_farOf 3 := ⟨⟨tk_8, tk_978⟩, ⟨by decide, by decide, by decide +kernel⟩, by decide, rfl, fun h => Bool.noConfusion h, by decide⟩
theorem lkX7_181 : LV RX7 181 yX7_farOf mX7_farOf 3 7 := ⟨lbX7_farOf, tk_975, tk_977, tp_49, _, _, rfl⟩
theorem lbX7_sizeOf : LB yX7_sizeOf mX7_sizeOf 1 := ⟨⟨tk_8, tk_981⟩, ⟨by decide, by decide, by decide +kernel⟩, by decide, rfl, fun h => Bool.noConfusion h, by decide⟩
theorem lkX7_178 : LSs RX7 178 yX7_sizeOf mX7_sizeOf 1 := ⟨lbX7_sizeOf, tk_979, tk_980⟩
theorem lbX7_miles : LB yX7_miles mX7_miles 0 := ⟨⟨tk_8, tk_985⟩, ⟨by decide, by decide, by decide +kernel⟩, by decide, rfl, fun h => Bool.noConfusion h, by decide⟩
theorem lkL_58 : LV RL 58 yX7_miles mX7_miles 0 7 := ⟨lbX7_miles, tk_982, tk_983, tk_984, _, _, rfl⟩
theorem lbX7_milesNow : LB yX7_milesNow mX7_milesNow 0 := ⟨⟨tk_8, tk_989⟩, ⟨by decide, by decide, by decide +kernel⟩, by decide, rfl, fun h => Bool.noConfusion h, by decide⟩
theorem lkX7_207 : LV RX7 207 yX7_milesNow mX7_milesNow 0 7 := ⟨lbX7_milesNow, tk_986, tk_988, tp_50, _, _, rfl⟩
theorem lbX7_layCosts : LB yX7_layCosts mX7_layCosts 1 := ⟨⟨tk_8, tk_994⟩, ⟨by decide, by decide, by decide +kernel⟩, by decide, rfl, fun h => Bool.noConfusion h, by decide⟩
theorem lkX7_200 : LV RX7 200 yX7_layCosts mX7_layCosts 1 7 := ⟨lbX7_layCosts, tk_991, tk_993, tp_51, _, _, rfl⟩
theorem lbX7_leastMiles : LB yX7_leastMiles mX7_leastMiles 0 := ⟨⟨tk_8, tk_999⟩, ⟨by decide, by decide, by decide +kernel⟩, by decide, rfl, fun h => Bool.noConfusion h, by decide⟩
theorem lkX7_203 : LV RX7 203 yX7_leastMiles mX7_leastMiles 0 7 := ⟨lbX7_leastMiles, tk_996, tk_998, tp_52, _, _, rfl⟩
theorem lbX7_seatOne : LB yX7_seatOne mX7_seatOne 1 := ⟨⟨tk_8, tk_1003⟩, ⟨by decide, by decide, by decide +kernel⟩, by decide, rfl, fun h => Bool.noConfusion h, by decide⟩
theorem lkX7_196 : LV RX7 196 yX7_seatOne mX7_seatOne 1 7 := ⟨lbX7_seatOne, tk_1000, tk_1002, tp_53, _, _, rfl⟩
theorem lbX7_layDear : LB yX7_layDear mX7_layDear 1 := ⟨⟨tk_8, tk_1007⟩, ⟨by decide, by decide, by decide +kernel⟩, by decide, rfl, fun h => Bool.noConfusion h, by decide⟩
theorem lkX7_189 : LV RX7 189 yX7_layDear mX7_layDear 1 7 := ⟨lbX7_layDear, tk_1004, tk_1006, tp_54, _, _, rfl⟩
theorem lbX7_moverOf : LB yX7_moverOf mX7_moverOf 2 := ⟨⟨tk_8, tk_1011⟩, ⟨by decide, by decide, by decide +kernel⟩, by decide, rfl, fun h => Bool.noConfusion h, by decide⟩
theorem lkX7_186 : LV RX7 186 yX7_moverOf mX7_moverOf 2 7 := ⟨lbX7_moverOf, tk_1008, tk_1010, tp_55, _, _, rfl⟩
theorem lbX7_takenIn : LB yX7_takenIn mX7_takenIn 1 := ⟨⟨tk_8, tk_1015⟩, ⟨by decide, by decide, by decide +kernel⟩, by decide, rfl, fun h => Bool.noConfusion h, by decide⟩
theorem lkX7_193 : LV RX7 193 yX7_takenIn mX7_takenIn 1 7 := ⟨lbX7_takenIn, tk_1012, tk_1014, tp_56, _, _, rfl⟩
theorem lbX7_few : LB yX7_few mX7_few 0 := ⟨⟨tk_8, tk_1019⟩, ⟨by decide, by decide, by decide +kernel⟩, by decide, rfl, fun h => Bool.noConfusion h, by decide⟩
theorem lkL_62 : LV RL 62 yX7_few mX7_few 0 7 := ⟨lbX7_few, tk_1016, tk_1017, tk_1018, _, _, rfl⟩
theorem lbX7_hasBit : LB yX7_hasBit mX7_hasBit 2 := ⟨⟨tk_8, tk_1022⟩, ⟨by decide, by decide, by decide +kernel⟩, by decide, rfl, fun h => Bool.noConfusion h, by decide⟩
theorem lkX7_210 : LSs RX7 210 yX7_hasBit mX7_hasBit 2 := ⟨lbX7_hasBit, tk_1020, tk_1021⟩
theorem lbX7_weight : LB yX7_weight mX7_weight 1 := ⟨⟨tk_8, tk_1026⟩, ⟨by decide, by decide, by decide +kernel⟩, by decide, rfl, fun h => Bool.noConfusion h, by decide⟩
theorem lkL_66 : LV RL 66 yX7_weight mX7_weight 1 7 := ⟨lbX7_weight, tk_1023, tk_1024, tk_1025, _, _, rfl⟩
theorem lbX7_layWeights : LB yX7_layWeights mX7_layWeights 0 := ⟨⟨tk_8, tk_1030⟩, ⟨by decide, by decide, by decide +kernel⟩, by decide, rfl, fun h => Bool.noConfusion h, by decide⟩
theorem lkX7_213 : LV RX7 213 yX7_layWeights mX7_layWeights 0 7 := ⟨lbX7_layWeights, tk_1027, tk_1029, tp_57, _, _, rfl⟩
theorem lbX7_line : LB yX7_line mX7_line 1 := ⟨⟨tk_8, tk_1034⟩, ⟨by decide, by decide, by decide +kernel⟩, by decide, rfl, fun h => Bool.noConfusion h, by decide⟩
theorem lkL_70 : LV RL 70 yX7_line mX7_line 1 7 := ⟨lbX7_line, tk_1031, tk_1032, tk_1033, _, _, rfl⟩
theorem lbX7_check : LB yX7_check mX7_check 4 := ⟨⟨tk_8, tk_1038⟩, ⟨by decide, by decide, by decide +kernel⟩, by decide, rfl, fun h => Bool.noConfusion h, by decide⟩
theorem lkL_74 : LV RL 74 yX7_check mX7_check 4 7 := ⟨lbX7_check, tk_1035, tk_1036, tk_1037, _, _, rfl⟩
theorem lbX7_holdsIn : LB yX7_holdsIn mX7_holdsIn 3 := ⟨⟨tk_8, tk_1042⟩, ⟨by decide, by decide, by decide +kernel⟩, by decide, rfl, fun h => Bool.noConfusion h, by decide⟩
theorem lkX7_221 : LV RX7 221 yX7_holdsIn mX7_holdsIn 3 7 := ⟨lbX7_holdsIn, tk_1039, tk_1041, tp_58, _, _, rfl⟩
theorem lbX7_holdsFor : LB yX7_holdsFor mX7_holdsFor 3 := ⟨⟨tk_8, tk_1047⟩, ⟨by decide, by decide, by decide +kernel⟩, by decide, rfl, fun h => Bool.noConfusion h, by decide⟩
theorem lkX7_224 : LV RX7 224 yX7_holdsFor mX7_holdsFor 3 7 := ⟨lbX7_holdsFor, tk_1044, tk_1046, tp_59, _, _, rfl⟩
theorem lbX7_family : LB yX7_family mX7_family 1 := ⟨⟨tk_8, tk_1052⟩, ⟨by decide, by decide, by decide +kernel⟩, by decide, rfl, fun h => Bool.noConfusion h, by decide⟩
theorem lkL_78 : LV RL 78 yX7_family mX7_family 1 7 := ⟨lbX7_family, tk_1049, tk_1050, tk_1051, _, _, rfl⟩
theorem lbX7_rowMiles : LB yX7_rowMiles mX7_rowMiles 1 := ⟨⟨tk_8, tk_1057⟩, ⟨by decide, by decide, by decide +kernel⟩, by decide, rfl, fun h => Bool.noConfusion h, by decide⟩
theorem lkX7_232 : LV RX7 232 yX7_rowMiles mX7_rowMiles 1 7 := ⟨lbX7_rowMiles, tk_1054, tk_1056, tp_60, _, _, rfl⟩
theorem lbX7_churchIn : LB yX7_churchIn mX7_churchIn 2 := ⟨⟨tk_8, tk_1061⟩, ⟨by decide, by decide, by decide +kernel⟩, by decide, rfl, fun h => Bool.noConfusion h, by decide⟩
theorem lkX7_227 : LV RX7 227 yX7_churchIn mX7_churchIn 2 7 := ⟨lbX7_churchIn, tk_1058, tk_1060, tp_61, _, _, rfl⟩
theorem lbX7_even : LB yX7_even mX7_even 1 := ⟨⟨tk_8, tk_1065⟩, ⟨by decide, by decide, by decide +kernel⟩, by decide, rfl, fun h => Bool.noConfusion h, by decide⟩
theorem lkL_82 : LV RL 82 yX7_even mX7_even 1 7 := ⟨lbX7_even, tk_1062, tk_1063, tk_1064, _, _, rfl⟩
theorem lbX7_border : LB yX7_border mX7_border 3 := ⟨⟨tk_8, tk_1069⟩, ⟨by decide, by decide, by decide +kernel⟩, by decide, rfl, fun h => Bool.noConfusion h, by decide⟩
theorem lkL_87 : LV RL 87 yX7_border mX7_border 3 7 := ⟨lbX7_border, tk_1066, tk_1067, tk_1068, _, _, rfl⟩
theorem lbX7_lost : LB yX7_lost mX7_lost 0 := ⟨⟨tk_8, tk_1072⟩, ⟨by decide, by decide, by decide +kernel⟩, by decide, rfl, fun h => Bool.noConfusion h, by decide⟩
theorem lkX7_95 : LSs RX7 95 yX7_lost mX7_lost 0 := ⟨lbX7_lost, tk_1070, tk_1071⟩
theorem lbX7_common : LB yX7_common mX7_common 2 := ⟨⟨tk_8, tk_1076⟩, ⟨by decide, by decide, by decide +kernel⟩, by decide, rfl, fun h => Bool.noConfusion h, by decide⟩
theorem lkX7_235 : LSs RX7 235 yX7_common mX7_common 2 := ⟨lbX7_common, tk_1074, tk_1075⟩
theorem lbX7_who : LB yX7_who mX7_who 2 := ⟨⟨tk_8, tk_1080⟩, ⟨by decide, by decide, by decide +kernel⟩, by decide, rfl, fun h => Bool.noConfusion h, by decide⟩
theorem lkL_91 : LV RL 91 yX7_who mX7_who 2 7 := ⟨lbX7_who, tk_1077, tk_1078, tk_1079, _, _, rfl⟩
theorem lbX7_place : LB yX7_place mX7_place 2 := ⟨⟨tk_8, tk_1084⟩, ⟨by decide, by decide, by decide +kernel⟩, by decide, rfl, fun h => Bool.noConfusion h, by decide⟩
theorem lkL_95 : LV RL 95 yX7_place mX7_place 2 7 := ⟨lbX7_place, tk_1081, tk_1082, tk_1083, _, _, rfl⟩
theorem lbX7_move : LB yX7_move mX7_move 1 := ⟨⟨tk_8, tk_1088⟩, ⟨by decide, by decide, by decide +kernel⟩, by decide, rfl, fun h => Bool.noConfusion h, by decide⟩
theorem lkL_99 : LV RL 99 yX7_move mX7_move 1 7 := ⟨lbX7_move, tk_1085, tk_1086, tk_1087, _, _, rfl⟩
theorem lbX7_open : LB yX7_open mX7_open 1 := ⟨⟨tk_8, tk_1092⟩, ⟨by decide, by decide, by decide +kernel⟩, by decide, rfl, fun h => Bool.noConfusion h, by decide⟩
theorem lkL_103 : LV RL 103 yX7_open mX7_open 1 7 := ⟨lbX7_open, tk_1089, tk_1090, tk_1091, _, _, rfl⟩
theorem lbX7_openMiles : LB yX7_openMiles mX7_openMiles 1 := ⟨⟨tk_8, tk_1096⟩, ⟨by decide, by decide, by decide +kernel⟩, by decide, rfl, fun h => Bool.noConfusion h, by decide⟩
theorem lkX7_242 : LV RX7 242 yX7_openMiles mX7_openMiles 1 7 := ⟨lbX7_openMiles, tk_1093, tk_1095, tp_62, _, _, rfl⟩
theorem lbX7_best : LB yX7_best mX7_best 1 := ⟨⟨tk_8, tk_1100⟩, ⟨by decide, by decide, by decide +kernel⟩, by decide, rfl, fun h => Bool.noConfusion h, by decide⟩
theorem lkL_107 : LV RL 107 yX7_best mX7_best 1 7 := ⟨lbX7_best, tk_1097, tk_1098, tk_1099, _, _, rfl⟩
theorem lbX7_bits : LB yX7_bits mX7_bits 1 := ⟨⟨tk_8, tk_1103⟩, ⟨by decide, by decide, by decide +kernel⟩, by decide, rfl, fun h => Bool.noConfusion h, by decide⟩
theorem lkX7_245 : LSs RX7 245 yX7_bits mX7_bits 1 := ⟨lbX7_bits, tk_1101, tk_1102⟩
theorem lbX7_sheet : LB yX7_sheet mX7_sheet 3 := ⟨⟨tk_8, tk_1107⟩, ⟨by decide, by decide, by decide +kernel⟩, by decide, rfl, fun h => Bool.noConfusion h, by decide⟩
theorem lkL_111 : LV RL 111 yX7_sheet mX7_sheet 3 7 := ⟨lbX7_sheet, tk_1104, tk_1105, tk_1106, _, _, rfl⟩
theorem lbX7_lose : LB yX7_lose mX7_lose 1 := ⟨⟨tk_8, tk_1111⟩, ⟨by decide, by decide, by decide +kernel⟩, by decide, rfl, fun h => Bool.noConfusion h, by decide⟩
theorem lkL_115 : LV RL 115 yX7_lose mX7_lose 1 7 := ⟨lbX7_lose, tk_1108, tk_1109, tk_1110, _, _, rfl⟩
theorem lbX7_put : LB yX7_put mX7_put 3 := ⟨⟨tk_8, tk_1115⟩, ⟨by decide, by decide, by decide +kernel⟩, by decide, rfl, fun h => Bool.noConfusion h, by decide⟩
theorem lkL_119 : LV RL 119 yX7_put mX7_put 3 7 := ⟨lbX7_put, tk_1112, tk_1113, tk_1114, _, _, rfl⟩
theorem lbX7_noCell : LB yX7_noCell mX7_noCell 2 := ⟨⟨tk_8, tk_1119⟩, ⟨by decide, by decide, by decide +kernel⟩, by decide, rfl, fun h => Bool.noConfusion h, by decide⟩
theorem lkX7_250 : LV RX7 250 yX7_noCell mX7_noCell 2 7 := ⟨lbX7_noCell, tk_1116, tk_1118, tp_63, _, _, rfl⟩
theorem lbX7_cell : LB yX7_cell mX7_cell 3 := ⟨⟨tk_8, tk_1123⟩, ⟨by decide, by decide, by decide +kernel⟩, by decide, rfl, fun h => Bool.noConfusion h, by decide⟩
theorem lkL_123 : LV RL 123 yX7_cell mX7_cell 3 7 := ⟨lbX7_cell, tk_1120, tk_1121, tk_1122, _, _, rfl⟩
theorem lbX7_failedLong : LB yX7_failedLong mX7_failedLong 1 := ⟨⟨tk_8, tk_1127⟩, ⟨by decide, by decide, by decide +kernel⟩, by decide, rfl, fun h => Bool.noConfusion h, by decide⟩
theorem lkX7_253 : LV RX7 253 yX7_failedLong mX7_failedLong 1 7 := ⟨lbX7_failedLong, tk_1124, tk_1126, tp_64, _, _, rfl⟩
theorem lbX7_copy : LB yX7_copy mX7_copy 5 := ⟨⟨tk_8, tk_1131⟩, ⟨by decide, by decide, by decide +kernel⟩, by decide, rfl, fun h => Bool.noConfusion h, by decide⟩
theorem lkL_128 : LV RL 128 yX7_copy mX7_copy 5 7 := ⟨lbX7_copy, tk_1128, tk_1129, tk_1130, _, _, rfl⟩
theorem lbX7_tell : LB yX7_tell mX7_tell 1 := ⟨⟨tk_8, tk_1135⟩, ⟨by decide, by decide, by decide +kernel⟩, by decide, rfl, fun h => Bool.noConfusion h, by decide⟩
theorem lkL_132 : LV RL 132 yX7_tell mX7_tell 1 7 := ⟨lbX7_tell, tk_1132, tk_1133, tk_1134, _, _, rfl⟩
theorem lbX7_traced : LB yX7_traced mX7_traced 1 := ⟨⟨tk_8, tk_1139⟩, ⟨by decide, by decide, by decide +kernel⟩, by decide, rfl, fun h => Bool.noConfusion h, by decide⟩
theorem lkX7_260 : LV RX7 260 yX7_traced mX7_traced 1 7 := ⟨lbX7_traced, tk_1136, tk_1138, tp_65, _, _, rfl⟩
theorem lbX7_ring : LB yX7_ring mX7_ring 1 := ⟨⟨tk_8, tk_1143⟩, ⟨by decide, by decide, by decide +kernel⟩, by decide, rfl, fun h => Bool.noConfusion h, by decide⟩
theorem lkL_136 : LV RL 136 yX7_ring mX7_ring 1 7 := ⟨lbX7_ring, tk_1140, tk_1141, tk_1142, _, _, rfl⟩
theorem lbX7_as : LB yX7_as mX7_as 2 := ⟨⟨tk_8, tk_1147⟩, ⟨by decide, by decide, by decide +kernel⟩, by decide, rfl, fun h => Bool.noConfusion h, by decide⟩
theorem lkL_140 : LV RL 140 yX7_as mX7_as 2 7 := ⟨lbX7_as, tk_1144, tk_1145, tk_1146, _, _, rfl⟩
theorem lbX7_trace : LB yX7_trace mX7_trace 0 := ⟨⟨tk_8, tk_1151⟩, ⟨by decide, by decide, by decide +kernel⟩, by decide, rfl, fun h => Bool.noConfusion h, by decide⟩
theorem lkL_144 : LV RL 144 yX7_trace mX7_trace 0 7 := ⟨lbX7_trace, tk_1148, tk_1149, tk_1150, _, _, rfl⟩
theorem lbX7_fault : LB yX7_fault mX7_fault 0 := ⟨⟨tk_8, tk_1155⟩, ⟨by decide, by decide, by decide +kernel⟩, by decide, rfl, fun h => Bool.noConfusion h, by decide⟩
theorem lkL_148 : LV RL 148 yX7_fault mX7_fault 0 7 := ⟨lbX7_fault, tk_1152, tk_1153, tk_1154, _, _, rfl⟩
theorem lbX7_many : LB yX7_many mX7_many 1 := ⟨⟨tk_8, tk_1159⟩, ⟨by decide, by decide, by decide +kernel⟩, by decide, rfl, fun h => Bool.noConfusion h, by decide⟩
theorem lkL_152 : LV RL 152 yX7_many mX7_many 1 7 := ⟨lbX7_many, tk_1156, tk_1157, tk_1158, _, _, rfl⟩
