set_option maxRecDepth 100000 in
theorem km_23 : (Jvm.Cond.methodLink "ModuleKem" (1 : Nat) ({ cls := "java/lang/Object", name := "<init>", desc := "()V" } : Jvm.MethodName)) ∈ kwA := kw_in 23 rfl rfl
set_option maxRecDepth 100000 in
theorem km_24 : (Jvm.Cond.instanceMethod ({ cls := "java/lang/Object", name := "<init>", desc := "()V" } : Jvm.MethodName)) ∈ kwA := kw_in 24 rfl rfl
set_option maxRecDepth 100000 in
theorem km_25 : (Jvm.Cond.code ({ cls := "java/lang/Object", name := "<init>", desc := "()V" } : Jvm.MethodName) object_method_1_code (1 : Nat) (Option.none : Option Jvm.ClassFile.FieldType)) ∈ kwA := kw_in 25 rfl rfl
set_option maxRecDepth 100000 in
theorem km_26 : (Jvm.Cond.classLink "ModuleKem" (9 : Nat) "[[B") ∈ kwA := kw_in 26 rfl rfl
set_option maxRecDepth 100000 in
theorem km_28 : (Jvm.Cond.classLink "ModuleKem" (26 : Nat) "ModuleKem$Shape") ∈ kwA := kw_in 28 rfl rfl
set_option maxRecDepth 100000 in
theorem km_30 : (Jvm.Cond.instantiable "ModuleKem$Shape" (4 : Nat)) ∈ kwA := kw_in 30 rfl rfl
set_option maxRecDepth 100000 in
theorem km_31 : (Jvm.Cond.methodLink "ModuleKem" (28 : Nat) ({ cls := "ModuleKem$Shape", name := "<init>", desc := "(IIII)V" } : Jvm.MethodName)) ∈ kwA := kw_in 31 rfl rfl
set_option maxRecDepth 100000 in
theorem km_32 : (Jvm.Cond.instanceMethod ({ cls := "ModuleKem$Shape", name := "<init>", desc := "(IIII)V" } : Jvm.MethodName)) ∈ kwA := kw_in 32 rfl rfl
set_option maxRecDepth 100000 in
theorem km_33 : (Jvm.Cond.code ({ cls := "ModuleKem$Shape", name := "<init>", desc := "(IIII)V" } : Jvm.MethodName) prog_5_method_1_code (5 : Nat) (Option.none : Option Jvm.ClassFile.FieldType)) ∈ kwA := kw_in 33 rfl rfl
set_option maxRecDepth 100000 in
theorem km_34 : (Jvm.Cond.methodLink "ModuleKem$Shape" (3 : Nat) ({ cls := "java/lang/Object", name := "<init>", desc := "()V" } : Jvm.MethodName)) ∈ kwA := kw_in 34 rfl rfl
set_option maxRecDepth 100000 in
theorem km_37 : (Jvm.Cond.fieldLink "ModuleKem$Shape" (15 : Nat) "ModuleKem$Shape" "keyNoise" "I") ∈ kwA := kw_in 37 rfl rfl
set_option maxRecDepth 100000 in
theorem km_52 : (Jvm.Cond.arrayClass Jvm.ClassFile.FieldType.byte) ∈ kwA := kw_in 52 rfl rfl
set_option maxRecDepth 100000 in
theorem km_53 : (Jvm.Cond.arrayClass Jvm.ClassFile.FieldType.int) ∈ kwA := kw_in 53 rfl rfl
set_option maxRecDepth 100000 in
theorem km_54 : (Jvm.Cond.classLink "ModuleKem" (35 : Nat) "ModuleKem$Kem") ∈ kwA := kw_in 54 rfl rfl
set_option maxRecDepth 100000 in
theorem km_55 : (Jvm.Cond.instantiable "ModuleKem$Kem" (13 : Nat)) ∈ kwA := kw_in 55 rfl rfl
set_option maxRecDepth 100000 in
theorem km_56 : (Jvm.Cond.methodLink "ModuleKem" (37 : Nat) ({ cls := "ModuleKem$Kem", name := "<init>", desc := "()V" } : Jvm.MethodName)) ∈ kwA := kw_in 56 rfl rfl
set_option maxRecDepth 100000 in
theorem km_57 : (Jvm.Cond.instanceMethod ({ cls := "ModuleKem$Kem", name := "<init>", desc := "()V" } : Jvm.MethodName)) ∈ kwA := kw_in 57 rfl rfl
set_option maxRecDepth 100000 in
theorem km_58 : (Jvm.Cond.code ({ cls := "ModuleKem$Kem", name := "<init>", desc := "()V" } : Jvm.MethodName) prog_3_method_1_code (1 : Nat) (Option.none : Option Jvm.ClassFile.FieldType)) ∈ kwA := kw_in 58 rfl rfl
set_option maxRecDepth 100000 in
theorem km_59 : (Jvm.Cond.methodLink "ModuleKem$Kem" (3 : Nat) ({ cls := "java/lang/Object", name := "<init>", desc := "()V" } : Jvm.MethodName)) ∈ kwA := kw_in 59 rfl rfl
set_option maxRecDepth 100000 in
theorem km_60 : (Jvm.Cond.classLink "ModuleKem$Kem" (9 : Nat) "ModuleKem$Sponge") ∈ kwA := kw_in 60 rfl rfl
set_option maxRecDepth 100000 in
theorem km_61 : (Jvm.Cond.instantiable "ModuleKem$Sponge" (8 : Nat)) ∈ kwA := kw_in 61 rfl rfl
set_option maxRecDepth 100000 in
theorem km_62 : (Jvm.Cond.methodLink "ModuleKem$Kem" (11 : Nat) ({ cls := "ModuleKem$Sponge", name := "<init>", desc := "()V" } : Jvm.MethodName)) ∈ kwA := kw_in 62 rfl rfl
set_option maxRecDepth 100000 in
theorem km_63 : (Jvm.Cond.instanceMethod ({ cls := "ModuleKem$Sponge", name := "<init>", desc := "()V" } : Jvm.MethodName)) ∈ kwA := kw_in 63 rfl rfl
set_option maxRecDepth 100000 in
theorem km_64 : (Jvm.Cond.code ({ cls := "ModuleKem$Sponge", name := "<init>", desc := "()V" } : Jvm.MethodName) prog_6_method_1_code (1 : Nat) (Option.none : Option Jvm.ClassFile.FieldType)) ∈ kwA := kw_in 64 rfl rfl
set_option maxRecDepth 100000 in
theorem km_65 : (Jvm.Cond.methodLink "ModuleKem$Sponge" (1 : Nat) ({ cls := "java/lang/Object", name := "<init>", desc := "()V" } : Jvm.MethodName)) ∈ kwA := kw_in 65 rfl rfl
set_option maxRecDepth 100000 in
theorem km_66 : (Jvm.Cond.methodLink "ModuleKem$Sponge" (19 : Nat) ({ cls := "ModuleKem$Sponge", name := "newTurns", desc := "()[I" } : Jvm.MethodName)) ∈ kwA := kw_in 66 rfl rfl
set_option maxRecDepth 100000 in
theorem km_67 : (Jvm.Cond.static ({ cls := "ModuleKem$Sponge", name := "newTurns", desc := "()[I" } : Jvm.MethodName)) ∈ kwA := kw_in 67 rfl rfl
set_option maxRecDepth 100000 in
theorem km_68 : (Jvm.Cond.code ({ cls := "ModuleKem$Sponge", name := "newTurns", desc := "()[I" } : Jvm.MethodName) prog_6_method_4_code (3 : Nat) (Option.some (Jvm.ClassFile.FieldType.array Jvm.ClassFile.FieldType.int))) ∈ kwA := kw_in 68 rfl rfl
set_option maxRecDepth 100000 in
theorem km_69 : (Jvm.Cond.methodLink "ModuleKem$Sponge" (47 : Nat) ({ cls := "ModuleKem$Sponge", name := "target", desc := "(II)I" } : Jvm.MethodName)) ∈ kwA := kw_in 69 rfl rfl
set_option maxRecDepth 100000 in
theorem km_70 : (Jvm.Cond.static ({ cls := "ModuleKem$Sponge", name := "target", desc := "(II)I" } : Jvm.MethodName)) ∈ kwA := kw_in 70 rfl rfl
set_option maxRecDepth 100000 in
theorem km_71 : (Jvm.Cond.code ({ cls := "ModuleKem$Sponge", name := "target", desc := "(II)I" } : Jvm.MethodName) prog_6_method_2_code (2 : Nat) (Option.some Jvm.ClassFile.FieldType.int)) ∈ kwA := kw_in 71 rfl rfl
set_option maxRecDepth 100000 in
theorem km_72 : (Jvm.Cond.methodLink "ModuleKem$Sponge" (27 : Nat) ({ cls := "ModuleKem$Sponge", name := "newTargets", desc := "()[I" } : Jvm.MethodName)) ∈ kwA := kw_in 72 rfl rfl
set_option maxRecDepth 100000 in
theorem km_73 : (Jvm.Cond.static ({ cls := "ModuleKem$Sponge", name := "newTargets", desc := "()[I" } : Jvm.MethodName)) ∈ kwA := kw_in 73 rfl rfl
set_option maxRecDepth 100000 in
theorem km_74 : (Jvm.Cond.code ({ cls := "ModuleKem$Sponge", name := "newTargets", desc := "()[I" } : Jvm.MethodName) prog_6_method_3_code (2 : Nat) (Option.some (Jvm.ClassFile.FieldType.array Jvm.ClassFile.FieldType.int))) ∈ kwA := kw_in 74 rfl rfl
set_option maxRecDepth 100000 in
theorem km_75 : (Jvm.Cond.methodLink "ModuleKem$Sponge" (33 : Nat) ({ cls := "ModuleKem$Sponge", name := "newRoundConstants", desc := "()[J" } : Jvm.MethodName)) ∈ kwA := kw_in 75 rfl rfl
set_option maxRecDepth 100000 in
theorem km_76 : (Jvm.Cond.static ({ cls := "ModuleKem$Sponge", name := "newRoundConstants", desc := "()[J" } : Jvm.MethodName)) ∈ kwA := kw_in 76 rfl rfl
set_option maxRecDepth 100000 in
theorem km_77 : (Jvm.Cond.code ({ cls := "ModuleKem$Sponge", name := "newRoundConstants", desc := "()[J" } : Jvm.MethodName) prog_6_method_5_code (6 : Nat) (Option.some (Jvm.ClassFile.FieldType.array Jvm.ClassFile.FieldType.long))) ∈ kwA := kw_in 77 rfl rfl
set_option maxRecDepth 100000 in
theorem km_103 : (Jvm.Cond.arrayClass Jvm.ClassFile.FieldType.long) ∈ kwA := kw_in 103 rfl rfl
set_option maxRecDepth 100000 in
theorem km_104 : (Jvm.Cond.classLink "ModuleKem$Kem" (18 : Nat) "ModuleKem$Ring") ∈ kwA := kw_in 104 rfl rfl
set_option maxRecDepth 100000 in
theorem km_105 : (Jvm.Cond.instantiable "ModuleKem$Ring" (1 : Nat)) ∈ kwA := kw_in 105 rfl rfl
set_option maxRecDepth 100000 in
theorem km_106 : (Jvm.Cond.methodLink "ModuleKem$Kem" (20 : Nat) ({ cls := "ModuleKem$Ring", name := "<init>", desc := "()V" } : Jvm.MethodName)) ∈ kwA := kw_in 106 rfl rfl
set_option maxRecDepth 100000 in
theorem km_107 : (Jvm.Cond.instanceMethod ({ cls := "ModuleKem$Ring", name := "<init>", desc := "()V" } : Jvm.MethodName)) ∈ kwA := kw_in 107 rfl rfl
set_option maxRecDepth 100000 in
theorem km_108 : (Jvm.Cond.code ({ cls := "ModuleKem$Ring", name := "<init>", desc := "()V" } : Jvm.MethodName) prog_4_method_1_code (3 : Nat) (Option.none : Option Jvm.ClassFile.FieldType)) ∈ kwA := kw_in 108 rfl rfl
set_option maxRecDepth 100000 in
theorem km_109 : (Jvm.Cond.methodLink "ModuleKem$Ring" (3 : Nat) ({ cls := "java/lang/Object", name := "<init>", desc := "()V" } : Jvm.MethodName)) ∈ kwA := kw_in 109 rfl rfl
set_option maxRecDepth 100000 in
theorem km_110 : (Jvm.Cond.methodLink "ModuleKem$Ring" (15 : Nat) ({ cls := "ModuleKem$Ring", name := "turnedRound", desc := "(I)I" } : Jvm.MethodName)) ∈ kwA := kw_in 110 rfl rfl
set_option maxRecDepth 100000 in
theorem km_111 : (Jvm.Cond.static ({ cls := "ModuleKem$Ring", name := "turnedRound", desc := "(I)I" } : Jvm.MethodName)) ∈ kwA := kw_in 111 rfl rfl
set_option maxRecDepth 100000 in
theorem km_112 : (Jvm.Cond.code ({ cls := "ModuleKem$Ring", name := "turnedRound", desc := "(I)I" } : Jvm.MethodName) prog_4_method_2_code (3 : Nat) (Option.some Jvm.ClassFile.FieldType.int)) ∈ kwA := kw_in 112 rfl rfl
set_option maxRecDepth 100000 in
theorem km_117 : (Jvm.Cond.classLink "ModuleKem$Kem" (25 : Nat) "[[I") ∈ kwA := kw_in 117 rfl rfl
set_option maxRecDepth 100000 in
theorem km_603 : (Jvm.Cond.methodLink "ModuleKemModel" (1 : Nat) ({ cls := "java/lang/Object", name := "<init>", desc := "()V" } : Jvm.MethodName)) ∈ kwA := kw_in 603 rfl rfl
set_option maxRecDepth 100000 in
theorem km_604 : (Jvm.Cond.classLink "ModuleKemModel" (13 : Nat) "[[B") ∈ kwA := kw_in 604 rfl rfl
set_option maxRecDepth 100000 in
theorem km_605 : (Jvm.Cond.classLink "ModuleKemModel" (68 : Nat) "[[I") ∈ kwA := kw_in 605 rfl rfl
set_option maxRecDepth 100000 in
theorem km_606 : (Jvm.Cond.methodLink "ModuleKemModel" (88 : Nat) ({ cls := "ModuleKemModel", name := "constants", desc := "()V" } : Jvm.MethodName)) ∈ kwA := kw_in 606 rfl rfl
set_option maxRecDepth 100000 in
theorem km_608 : (Jvm.Cond.instanceMethod ({ cls := "ModuleKemModel", name := "constants", desc := "()V" } : Jvm.MethodName)) ∈ kwA := kw_in 608 rfl rfl
set_option maxRecDepth 100000 in
theorem km_609 : (Jvm.Cond.code ({ cls := "ModuleKemModel", name := "constants", desc := "()V" } : Jvm.MethodName) prog_8_method_19_code (6 : Nat) (Option.none : Option Jvm.ClassFile.FieldType)) ∈ kwA := kw_in 609 rfl rfl
