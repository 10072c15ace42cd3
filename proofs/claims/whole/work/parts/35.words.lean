theorem kw_in {w : Cond} (i : Nat) (h : tables_1[i]? = some w) (g : goodWord w = true) : w ∈ kwA := List.mem_filter.mpr ⟨List.mem_append_right _ (List.mem_of_getElem? h), g⟩
set_option maxRecDepth 100000 in
theorem km_1 : (Jvm.Cond.initialized "ModuleKem") ∈ kwA := kw_in 1 rfl rfl
set_option maxRecDepth 100000 in
theorem km_2 : (Jvm.Cond.initialized "ModuleKem$Shape") ∈ kwA := kw_in 2 rfl rfl
set_option maxRecDepth 100000 in
theorem km_3 : (Jvm.Cond.initialized "ModuleKem$Kem") ∈ kwA := kw_in 3 rfl rfl
set_option maxRecDepth 100000 in
theorem km_4 : (Jvm.Cond.initialized "ModuleKem$Sponge") ∈ kwA := kw_in 4 rfl rfl
set_option maxRecDepth 100000 in
theorem km_5 : (Jvm.Cond.initialized "ModuleKem$Ring") ∈ kwA := kw_in 5 rfl rfl
set_option maxRecDepth 100000 in
theorem km_6 : (Jvm.Cond.initialized "ModuleKemModel") ∈ kwA := kw_in 6 rfl rfl
set_option maxRecDepth 100000 in
theorem km_10 : (Jvm.Cond.initialized "java/lang/IndexOutOfBoundsException") ∈ kwA := kw_in 10 rfl rfl
set_option maxRecDepth 100000 in
theorem km_11 : (Jvm.Cond.initialized "java/lang/IllegalArgumentException") ∈ kwA := kw_in 11 rfl rfl
set_option maxRecDepth 100000 in
theorem km_12 : (Jvm.Cond.initialized "java/lang/System") ∈ kwA := kw_in 12 rfl rfl
set_option maxRecDepth 100000 in
theorem km_13 : (Jvm.Cond.initialized "java/lang/IllegalStateException") ∈ kwA := kw_in 13 rfl rfl
set_option maxRecDepth 100000 in
theorem km_14 : (Jvm.Cond.initialized "java/lang/ArithmeticException") ∈ kwA := kw_in 14 rfl rfl
set_option maxRecDepth 100000 in
theorem km_15 : (Jvm.Cond.initialized "ModuleKem$Bits") ∈ kwA := kw_in 15 rfl rfl
set_option maxRecDepth 100000 in
theorem km_16 : (Jvm.Cond.initialized "java/lang/Integer") ∈ kwA := kw_in 16 rfl rfl
set_option maxRecDepth 100000 in
theorem km_17 : (Jvm.Cond.initialized "java/lang/UnsupportedOperationException") ∈ kwA := kw_in 17 rfl rfl
set_option maxRecDepth 100000 in
theorem km_35 : (Jvm.Cond.fieldLink "ModuleKem$Shape" (9 : Nat) "ModuleKem$Shape" "rank" "I") ∈ kwA := kw_in 35 rfl rfl
set_option maxRecDepth 100000 in
theorem km_36 : (Jvm.Cond.fieldLink "ModuleKem$Kem" (62 : Nat) "ModuleKem$Shape" "rank" "I") ∈ kwA := kw_in 36 rfl rfl
set_option maxRecDepth 100000 in
theorem km_38 : (Jvm.Cond.fieldLink "ModuleKem$Kem" (90 : Nat) "ModuleKem$Shape" "keyNoise" "I") ∈ kwA := kw_in 38 rfl rfl
set_option maxRecDepth 100000 in
theorem km_39 : (Jvm.Cond.fieldLink "ModuleKem$Shape" (18 : Nat) "ModuleKem$Shape" "vectorBits" "I") ∈ kwA := kw_in 39 rfl rfl
set_option maxRecDepth 100000 in
theorem km_40 : (Jvm.Cond.fieldLink "ModuleKem$Kem" (159 : Nat) "ModuleKem$Shape" "vectorBits" "I") ∈ kwA := kw_in 40 rfl rfl
set_option maxRecDepth 100000 in
theorem km_41 : (Jvm.Cond.fieldLink "ModuleKem$Shape" (21 : Nat) "ModuleKem$Shape" "scalarBits" "I") ∈ kwA := kw_in 41 rfl rfl
set_option maxRecDepth 100000 in
theorem km_42 : (Jvm.Cond.fieldLink "ModuleKem$Kem" (175 : Nat) "ModuleKem$Shape" "scalarBits" "I") ∈ kwA := kw_in 42 rfl rfl
set_option maxRecDepth 100000 in
theorem km_78 : (Jvm.Cond.fieldLink "ModuleKem$Sponge" (9 : Nat) "ModuleKem$Sponge" "lanes" "[J") ∈ kwA := kw_in 78 rfl rfl
set_option maxRecDepth 100000 in
theorem km_79 : (Jvm.Cond.fieldLink "ModuleKem$Sponge" (13 : Nat) "ModuleKem$Sponge" "moved" "[J") ∈ kwA := kw_in 79 rfl rfl
set_option maxRecDepth 100000 in
theorem km_80 : (Jvm.Cond.fieldLink "ModuleKem$Sponge" (16 : Nat) "ModuleKem$Sponge" "columns" "[J") ∈ kwA := kw_in 80 rfl rfl
set_option maxRecDepth 100000 in
theorem km_81 : (Jvm.Cond.fieldLink "ModuleKem$Sponge" (23 : Nat) "ModuleKem$Sponge" "turns" "[I") ∈ kwA := kw_in 81 rfl rfl
set_option maxRecDepth 100000 in
theorem km_82 : (Jvm.Cond.fieldLink "ModuleKem$Sponge" (30 : Nat) "ModuleKem$Sponge" "targets" "[I") ∈ kwA := kw_in 82 rfl rfl
set_option maxRecDepth 100000 in
theorem km_83 : (Jvm.Cond.fieldLink "ModuleKem$Sponge" (37 : Nat) "ModuleKem$Sponge" "roundConstants" "[J") ∈ kwA := kw_in 83 rfl rfl
set_option maxRecDepth 100000 in
theorem km_84 : (Jvm.Cond.fieldLink "ModuleKem$Sponge" (40 : Nat) "ModuleKem$Sponge" "rate" "I") ∈ kwA := kw_in 84 rfl rfl
set_option maxRecDepth 100000 in
theorem km_85 : (Jvm.Cond.fieldLink "ModuleKem$Sponge" (44 : Nat) "ModuleKem$Sponge" "place" "I") ∈ kwA := kw_in 85 rfl rfl
set_option maxRecDepth 100000 in
theorem km_113 : (Jvm.Cond.fieldLink "ModuleKem$Ring" (9 : Nat) "ModuleKem$Ring" "powers" "[I") ∈ kwA := kw_in 113 rfl rfl
set_option maxRecDepth 100000 in
theorem km_119 : (Jvm.Cond.fieldLink "ModuleKem$Kem" (12 : Nat) "ModuleKem$Kem" "sponge" "LModuleKem$Sponge;") ∈ kwA := kw_in 119 rfl rfl
set_option maxRecDepth 100000 in
theorem km_120 : (Jvm.Cond.fieldLink "ModuleKem$Kem" (21 : Nat) "ModuleKem$Kem" "ring" "LModuleKem$Ring;") ∈ kwA := kw_in 120 rfl rfl
set_option maxRecDepth 100000 in
theorem km_121 : (Jvm.Cond.fieldLink "ModuleKem$Kem" (27 : Nat) "ModuleKem$Kem" "matrix" "[[I") ∈ kwA := kw_in 121 rfl rfl
set_option maxRecDepth 100000 in
theorem km_122 : (Jvm.Cond.fieldLink "ModuleKem$Kem" (30 : Nat) "ModuleKem$Kem" "vector" "[[I") ∈ kwA := kw_in 122 rfl rfl
set_option maxRecDepth 100000 in
theorem km_123 : (Jvm.Cond.fieldLink "ModuleKem$Kem" (33 : Nat) "ModuleKem$Kem" "sum" "[I") ∈ kwA := kw_in 123 rfl rfl
set_option maxRecDepth 100000 in
theorem km_124 : (Jvm.Cond.fieldLink "ModuleKem$Kem" (37 : Nat) "ModuleKem$Kem" "term" "[I") ∈ kwA := kw_in 124 rfl rfl
set_option maxRecDepth 100000 in
theorem km_125 : (Jvm.Cond.fieldLink "ModuleKem$Kem" (40 : Nat) "ModuleKem$Kem" "counters" "[B") ∈ kwA := kw_in 125 rfl rfl
set_option maxRecDepth 100000 in
theorem km_126 : (Jvm.Cond.fieldLink "ModuleKem$Kem" (44 : Nat) "ModuleKem$Kem" "three" "[B") ∈ kwA := kw_in 126 rfl rfl
set_option maxRecDepth 100000 in
theorem km_127 : (Jvm.Cond.fieldLink "ModuleKem$Kem" (47 : Nat) "ModuleKem$Kem" "noiseBytes" "[B") ∈ kwA := kw_in 127 rfl rfl
set_option maxRecDepth 100000 in
theorem km_128 : (Jvm.Cond.fieldLink "ModuleKem$Kem" (50 : Nat) "ModuleKem$Kem" "hash" "[B") ∈ kwA := kw_in 128 rfl rfl
set_option maxRecDepth 100000 in
theorem km_129 : (Jvm.Cond.fieldLink "ModuleKem$Kem" (53 : Nat) "ModuleKem$Kem" "message" "[B") ∈ kwA := kw_in 129 rfl rfl
set_option maxRecDepth 100000 in
theorem km_130 : (Jvm.Cond.fieldLink "ModuleKem$Kem" (56 : Nat) "ModuleKem$Kem" "encrypted" "[B") ∈ kwA := kw_in 130 rfl rfl
set_option maxRecDepth 100000 in
theorem km_131 : (Jvm.Cond.fieldLink "ModuleKem$Kem" (59 : Nat) "ModuleKem$Kem" "seeds" "[B") ∈ kwA := kw_in 131 rfl rfl
set_option maxRecDepth 100000 in
theorem km_159 : (Jvm.Cond.fieldLink "ModuleKem" (11 : Nat) "ModuleKem" "slots" "[[B") ∈ kwA := kw_in 159 rfl rfl
set_option maxRecDepth 100000 in
theorem km_160 : (Jvm.Cond.fieldLink "ModuleKem" (14 : Nat) "ModuleKem" "sizes" "[I") ∈ kwA := kw_in 160 rfl rfl
set_option maxRecDepth 100000 in
theorem km_161 : (Jvm.Cond.fieldLink "ModuleKem" (18 : Nat) "ModuleKem" "tape" "[B") ∈ kwA := kw_in 161 rfl rfl
set_option maxRecDepth 100000 in
theorem km_162 : (Jvm.Cond.fieldLink "ModuleKem" (22 : Nat) "ModuleKem" "tapeSize" "I") ∈ kwA := kw_in 162 rfl rfl
set_option maxRecDepth 100000 in
theorem km_163 : (Jvm.Cond.fieldLink "ModuleKem" (31 : Nat) "ModuleKem" "shapes" "[LModuleKem$Shape;") ∈ kwA := kw_in 163 rfl rfl
set_option maxRecDepth 100000 in
theorem km_164 : (Jvm.Cond.fieldLink "ModuleKem" (38 : Nat) "ModuleKem" "kem" "LModuleKem$Kem;") ∈ kwA := kw_in 164 rfl rfl
set_option maxRecDepth 100000 in
theorem km_186 : (Jvm.Cond.classLink "ModuleKem" (42 : Nat) "java/lang/IndexOutOfBoundsException") ∈ kwA := kw_in 186 rfl rfl
set_option maxRecDepth 100000 in
theorem km_255 : (Jvm.Cond.methodLink "ModuleKem" (49 : Nat) ({ cls := "ModuleKem", name := "putOnTape", desc := "(I)V" } : Jvm.MethodName)) ∈ kwA := kw_in 255 rfl rfl
set_option maxRecDepth 100000 in
theorem km_257 : (Jvm.Cond.instanceMethod ({ cls := "ModuleKem", name := "putOnTape", desc := "(I)V" } : Jvm.MethodName)) ∈ kwA := kw_in 257 rfl rfl
set_option maxRecDepth 100000 in
theorem km_258 : (Jvm.Cond.code ({ cls := "ModuleKem", name := "putOnTape", desc := "(I)V" } : Jvm.MethodName) prog_1_method_13_code (3 : Nat) (Option.none : Option Jvm.ClassFile.FieldType)) ∈ kwA := kw_in 258 rfl rfl
set_option maxRecDepth 100000 in
theorem km_267 : (Jvm.Cond.methodLink "ModuleKem" (53 : Nat) ({ cls := "ModuleKem", name := "checkSlot", desc := "(I)V" } : Jvm.MethodName)) ∈ kwA := kw_in 267 rfl rfl
set_option maxRecDepth 100000 in
theorem km_268 : (Jvm.Cond.static ({ cls := "ModuleKem", name := "checkSlot", desc := "(I)V" } : Jvm.MethodName)) ∈ kwA := kw_in 268 rfl rfl
set_option maxRecDepth 100000 in
theorem km_269 : (Jvm.Cond.code ({ cls := "ModuleKem", name := "checkSlot", desc := "(I)V" } : Jvm.MethodName) prog_1_method_14_code (1 : Nat) (Option.none : Option Jvm.ClassFile.FieldType)) ∈ kwA := kw_in 269 rfl rfl
set_option maxRecDepth 100000 in
theorem km_270 : (Jvm.Cond.classLink "ModuleKem" (67 : Nat) "java/lang/IllegalArgumentException") ∈ kwA := kw_in 270 rfl rfl
set_option maxRecDepth 100000 in
theorem km_286 : (Jvm.Cond.methodLink "ModuleKem" (56 : Nat) ({ cls := "ModuleKem", name := "checkSize", desc := "(I)V" } : Jvm.MethodName)) ∈ kwA := kw_in 286 rfl rfl
set_option maxRecDepth 100000 in
theorem km_287 : (Jvm.Cond.static ({ cls := "ModuleKem", name := "checkSize", desc := "(I)V" } : Jvm.MethodName)) ∈ kwA := kw_in 287 rfl rfl
set_option maxRecDepth 100000 in
theorem km_288 : (Jvm.Cond.code ({ cls := "ModuleKem", name := "checkSize", desc := "(I)V" } : Jvm.MethodName) prog_1_method_15_code (1 : Nat) (Option.none : Option Jvm.ClassFile.FieldType)) ∈ kwA := kw_in 288 rfl rfl
set_option maxRecDepth 100000 in
theorem km_291 : (Jvm.Cond.methodLink "ModuleKem" (61 : Nat) ({ cls := "java/lang/System", name := "arraycopy", desc := "(Ljava/lang/Object;ILjava/lang/Object;II)V" } : Jvm.MethodName)) ∈ kwA := kw_in 291 rfl rfl
set_option maxRecDepth 100000 in
theorem km_292 : (Jvm.Cond.static ({ cls := "java/lang/System", name := "arraycopy", desc := "(Ljava/lang/Object;ILjava/lang/Object;II)V" } : Jvm.MethodName)) ∈ kwA := kw_in 292 rfl rfl
set_option maxRecDepth 100000 in
theorem km_293 : (Jvm.Cond.native ({ cls := "java/lang/System", name := "arraycopy", desc := "(Ljava/lang/Object;ILjava/lang/Object;II)V" } : Jvm.MethodName)) ∈ kwA := kw_in 293 rfl rfl
set_option maxRecDepth 100000 in
theorem km_316 : (Jvm.Cond.methodLink "ModuleKem" (72 : Nat) ({ cls := "ModuleKem", name := "checkPlace", desc := "(II)V" } : Jvm.MethodName)) ∈ kwA := kw_in 316 rfl rfl
set_option maxRecDepth 100000 in
theorem km_318 : (Jvm.Cond.instanceMethod ({ cls := "ModuleKem", name := "checkPlace", desc := "(II)V" } : Jvm.MethodName)) ∈ kwA := kw_in 318 rfl rfl
set_option maxRecDepth 100000 in
theorem km_319 : (Jvm.Cond.code ({ cls := "ModuleKem", name := "checkPlace", desc := "(II)V" } : Jvm.MethodName) prog_1_method_16_code (3 : Nat) (Option.none : Option Jvm.ClassFile.FieldType)) ∈ kwA := kw_in 319 rfl rfl
set_option maxRecDepth 100000 in
theorem km_342 : (Jvm.Cond.methodLink "ModuleKem" (76 : Nat) ({ cls := "ModuleKem", name := "startAlike", desc := "([BI[BI)Z" } : Jvm.MethodName)) ∈ kwA := kw_in 342 rfl rfl
set_option maxRecDepth 100000 in
theorem km_343 : (Jvm.Cond.static ({ cls := "ModuleKem", name := "startAlike", desc := "([BI[BI)Z" } : Jvm.MethodName)) ∈ kwA := kw_in 343 rfl rfl
set_option maxRecDepth 100000 in
theorem km_344 : (Jvm.Cond.code ({ cls := "ModuleKem", name := "startAlike", desc := "([BI[BI)Z" } : Jvm.MethodName) prog_1_method_19_code (6 : Nat) (Option.some Jvm.ClassFile.FieldType.boolean)) ∈ kwA := kw_in 344 rfl rfl
set_option maxRecDepth 100000 in
theorem km_354 : (Jvm.Cond.methodLink "ModuleKem" (80 : Nat) ({ cls := "ModuleKem", name := "shapeOf", desc := "(I)LModuleKem$Shape;" } : Jvm.MethodName)) ∈ kwA := kw_in 354 rfl rfl
set_option maxRecDepth 100000 in
theorem km_356 : (Jvm.Cond.instanceMethod ({ cls := "ModuleKem", name := "shapeOf", desc := "(I)LModuleKem$Shape;" } : Jvm.MethodName)) ∈ kwA := kw_in 356 rfl rfl
set_option maxRecDepth 100000 in
theorem km_357 : (Jvm.Cond.code ({ cls := "ModuleKem", name := "shapeOf", desc := "(I)LModuleKem$Shape;" } : Jvm.MethodName) prog_1_method_18_code (2 : Nat) (Option.some (Jvm.ClassFile.FieldType.object "ModuleKem$Shape"))) ∈ kwA := kw_in 357 rfl rfl
set_option maxRecDepth 100000 in
theorem km_359 : (Jvm.Cond.methodLink "ModuleKem" (84 : Nat) ({ cls := "ModuleKem", name := "checkRandom", desc := "(I)V" } : Jvm.MethodName)) ∈ kwA := kw_in 359 rfl rfl
set_option maxRecDepth 100000 in
theorem km_361 : (Jvm.Cond.instanceMethod ({ cls := "ModuleKem", name := "checkRandom", desc := "(I)V" } : Jvm.MethodName)) ∈ kwA := kw_in 361 rfl rfl
set_option maxRecDepth 100000 in
theorem km_362 : (Jvm.Cond.code ({ cls := "ModuleKem", name := "checkRandom", desc := "(I)V" } : Jvm.MethodName) prog_1_method_17_code (2 : Nat) (Option.none : Option Jvm.ClassFile.FieldType)) ∈ kwA := kw_in 362 rfl rfl
set_option maxRecDepth 100000 in
theorem km_363 : (Jvm.Cond.classLink "ModuleKem" (131 : Nat) "java/lang/IllegalStateException") ∈ kwA := kw_in 363 rfl rfl
set_option maxRecDepth 100000 in
theorem km_379 : (Jvm.Cond.methodLink "ModuleKem" (87 : Nat) ({ cls := "ModuleKem$Kem", name := "makeKeys", desc := "(LModuleKem$Shape;[B[B[B)V" } : Jvm.MethodName)) ∈ kwA := kw_in 379 rfl rfl
set_option maxRecDepth 100000 in
theorem km_380 : (Jvm.Cond.instanceMethod ({ cls := "ModuleKem$Kem", name := "makeKeys", desc := "(LModuleKem$Shape;[B[B[B)V" } : Jvm.MethodName)) ∈ kwA := kw_in 380 rfl rfl
set_option maxRecDepth 100000 in
theorem km_381 : (Jvm.Cond.selects "ModuleKem$Kem" ({ cls := "ModuleKem$Kem", name := "makeKeys", desc := "(LModuleKem$Shape;[B[B[B)V" } : Jvm.MethodName) ({ cls := "ModuleKem$Kem", name := "makeKeys", desc := "(LModuleKem$Shape;[B[B[B)V" } : Jvm.MethodName)) ∈ kwA := kw_in 381 rfl rfl
set_option maxRecDepth 100000 in
theorem km_382 : (Jvm.Cond.code ({ cls := "ModuleKem$Kem", name := "makeKeys", desc := "(LModuleKem$Shape;[B[B[B)V" } : Jvm.MethodName) prog_3_method_2_code (8 : Nat) (Option.none : Option Jvm.ClassFile.FieldType)) ∈ kwA := kw_in 382 rfl rfl
set_option maxRecDepth 100000 in
theorem km_383 : (Jvm.Cond.methodLink "ModuleKem$Kem" (68 : Nat) ({ cls := "ModuleKem$Sponge", name := "start", desc := "(I)V" } : Jvm.MethodName)) ∈ kwA := kw_in 383 rfl rfl
set_option maxRecDepth 100000 in
theorem km_384 : (Jvm.Cond.instanceMethod ({ cls := "ModuleKem$Sponge", name := "start", desc := "(I)V" } : Jvm.MethodName)) ∈ kwA := kw_in 384 rfl rfl
set_option maxRecDepth 100000 in
theorem km_385 : (Jvm.Cond.selects "ModuleKem$Sponge" ({ cls := "ModuleKem$Sponge", name := "start", desc := "(I)V" } : Jvm.MethodName) ({ cls := "ModuleKem$Sponge", name := "start", desc := "(I)V" } : Jvm.MethodName)) ∈ kwA := kw_in 385 rfl rfl
set_option maxRecDepth 100000 in
theorem km_386 : (Jvm.Cond.code ({ cls := "ModuleKem$Sponge", name := "start", desc := "(I)V" } : Jvm.MethodName) prog_6_method_6_code (3 : Nat) (Option.none : Option Jvm.ClassFile.FieldType)) ∈ kwA := kw_in 386 rfl rfl
set_option maxRecDepth 100000 in
theorem km_387 : (Jvm.Cond.methodLink "ModuleKem$Kem" (72 : Nat) ({ cls := "ModuleKem$Sponge", name := "take", desc := "([BII)V" } : Jvm.MethodName)) ∈ kwA := kw_in 387 rfl rfl
set_option maxRecDepth 100000 in
theorem km_388 : (Jvm.Cond.instanceMethod ({ cls := "ModuleKem$Sponge", name := "take", desc := "([BII)V" } : Jvm.MethodName)) ∈ kwA := kw_in 388 rfl rfl
set_option maxRecDepth 100000 in
theorem km_389 : (Jvm.Cond.selects "ModuleKem$Sponge" ({ cls := "ModuleKem$Sponge", name := "take", desc := "([BII)V" } : Jvm.MethodName) ({ cls := "ModuleKem$Sponge", name := "take", desc := "([BII)V" } : Jvm.MethodName)) ∈ kwA := kw_in 389 rfl rfl
set_option maxRecDepth 100000 in
theorem km_390 : (Jvm.Cond.code ({ cls := "ModuleKem$Sponge", name := "take", desc := "([BII)V" } : Jvm.MethodName) prog_6_method_7_code (5 : Nat) (Option.none : Option Jvm.ClassFile.FieldType)) ∈ kwA := kw_in 390 rfl rfl
set_option maxRecDepth 100000 in
theorem km_391 : (Jvm.Cond.methodLink "ModuleKem$Sponge" (51 : Nat) ({ cls := "ModuleKem$Sponge", name := "mixIn", desc := "(II)V" } : Jvm.MethodName)) ∈ kwA := kw_in 391 rfl rfl
set_option maxRecDepth 100000 in
theorem km_393 : (Jvm.Cond.instanceMethod ({ cls := "ModuleKem$Sponge", name := "mixIn", desc := "(II)V" } : Jvm.MethodName)) ∈ kwA := kw_in 393 rfl rfl
set_option maxRecDepth 100000 in
theorem km_394 : (Jvm.Cond.code ({ cls := "ModuleKem$Sponge", name := "mixIn", desc := "(II)V" } : Jvm.MethodName) prog_6_method_10_code (3 : Nat) (Option.none : Option Jvm.ClassFile.FieldType)) ∈ kwA := kw_in 394 rfl rfl
set_option maxRecDepth 100000 in
theorem km_395 : (Jvm.Cond.constantLong "ModuleKem$Sponge" (58 : Nat) (255 : Int64)) ∈ kwA := kw_in 395 rfl rfl
set_option maxRecDepth 100000 in
theorem km_396 : (Jvm.Cond.methodLink "ModuleKem$Sponge" (55 : Nat) ({ cls := "ModuleKem$Sponge", name := "permute", desc := "()V" } : Jvm.MethodName)) ∈ kwA := kw_in 396 rfl rfl
set_option maxRecDepth 100000 in
theorem km_398 : (Jvm.Cond.instanceMethod ({ cls := "ModuleKem$Sponge", name := "permute", desc := "()V" } : Jvm.MethodName)) ∈ kwA := kw_in 398 rfl rfl
set_option maxRecDepth 100000 in
theorem km_399 : (Jvm.Cond.code ({ cls := "ModuleKem$Sponge", name := "permute", desc := "()V" } : Jvm.MethodName) prog_6_method_11_code (13 : Nat) (Option.none : Option Jvm.ClassFile.FieldType)) ∈ kwA := kw_in 399 rfl rfl
set_option maxRecDepth 100000 in
theorem km_400 : (Jvm.Cond.constantLong "ModuleKem$Sponge" (60 : Nat) (-1 : Int64)) ∈ kwA := kw_in 400 rfl rfl
set_option maxRecDepth 100000 in
theorem km_401 : (Jvm.Cond.methodLink "ModuleKem$Kem" (76 : Nat) ({ cls := "ModuleKem$Sponge", name := "finish", desc := "(I)V" } : Jvm.MethodName)) ∈ kwA := kw_in 401 rfl rfl
set_option maxRecDepth 100000 in
theorem km_402 : (Jvm.Cond.instanceMethod ({ cls := "ModuleKem$Sponge", name := "finish", desc := "(I)V" } : Jvm.MethodName)) ∈ kwA := kw_in 402 rfl rfl
set_option maxRecDepth 100000 in
theorem km_403 : (Jvm.Cond.selects "ModuleKem$Sponge" ({ cls := "ModuleKem$Sponge", name := "finish", desc := "(I)V" } : Jvm.MethodName) ({ cls := "ModuleKem$Sponge", name := "finish", desc := "(I)V" } : Jvm.MethodName)) ∈ kwA := kw_in 403 rfl rfl
set_option maxRecDepth 100000 in
theorem km_404 : (Jvm.Cond.code ({ cls := "ModuleKem$Sponge", name := "finish", desc := "(I)V" } : Jvm.MethodName) prog_6_method_8_code (2 : Nat) (Option.none : Option Jvm.ClassFile.FieldType)) ∈ kwA := kw_in 404 rfl rfl
set_option maxRecDepth 100000 in
theorem km_405 : (Jvm.Cond.methodLink "ModuleKem$Kem" (79 : Nat) ({ cls := "ModuleKem$Sponge", name := "give", desc := "([BII)V" } : Jvm.MethodName)) ∈ kwA := kw_in 405 rfl rfl
set_option maxRecDepth 100000 in
theorem km_406 : (Jvm.Cond.instanceMethod ({ cls := "ModuleKem$Sponge", name := "give", desc := "([BII)V" } : Jvm.MethodName)) ∈ kwA := kw_in 406 rfl rfl
set_option maxRecDepth 100000 in
theorem km_407 : (Jvm.Cond.selects "ModuleKem$Sponge" ({ cls := "ModuleKem$Sponge", name := "give", desc := "([BII)V" } : Jvm.MethodName) ({ cls := "ModuleKem$Sponge", name := "give", desc := "([BII)V" } : Jvm.MethodName)) ∈ kwA := kw_in 407 rfl rfl
set_option maxRecDepth 100000 in
theorem km_408 : (Jvm.Cond.code ({ cls := "ModuleKem$Sponge", name := "give", desc := "([BII)V" } : Jvm.MethodName) prog_6_method_9_code (5 : Nat) (Option.none : Option Jvm.ClassFile.FieldType)) ∈ kwA := kw_in 408 rfl rfl
set_option maxRecDepth 100000 in
theorem km_409 : (Jvm.Cond.methodLink "ModuleKem$Kem" (82 : Nat) ({ cls := "ModuleKem$Kem", name := "sampleMatrix", desc := "(I[BI)V" } : Jvm.MethodName)) ∈ kwA := kw_in 409 rfl rfl
set_option maxRecDepth 100000 in
theorem km_411 : (Jvm.Cond.instanceMethod ({ cls := "ModuleKem$Kem", name := "sampleMatrix", desc := "(I[BI)V" } : Jvm.MethodName)) ∈ kwA := kw_in 411 rfl rfl
set_option maxRecDepth 100000 in
theorem km_412 : (Jvm.Cond.code ({ cls := "ModuleKem$Kem", name := "sampleMatrix", desc := "(I[BI)V" } : Jvm.MethodName) prog_3_method_11_code (6 : Nat) (Option.none : Option Jvm.ClassFile.FieldType)) ∈ kwA := kw_in 412 rfl rfl
set_option maxRecDepth 100000 in
theorem km_413 : (Jvm.Cond.methodLink "ModuleKem$Kem" (195 : Nat) ({ cls := "ModuleKem$Kem", name := "sample", desc := "([I)V" } : Jvm.MethodName)) ∈ kwA := kw_in 413 rfl rfl
set_option maxRecDepth 100000 in
theorem km_415 : (Jvm.Cond.instanceMethod ({ cls := "ModuleKem$Kem", name := "sample", desc := "([I)V" } : Jvm.MethodName)) ∈ kwA := kw_in 415 rfl rfl
set_option maxRecDepth 100000 in
theorem km_416 : (Jvm.Cond.code ({ cls := "ModuleKem$Kem", name := "sample", desc := "([I)V" } : Jvm.MethodName) prog_3_method_12_code (9 : Nat) (Option.none : Option Jvm.ClassFile.FieldType)) ∈ kwA := kw_in 416 rfl rfl
set_option maxRecDepth 100000 in
theorem km_417 : (Jvm.Cond.classLink "ModuleKem$Kem" (198 : Nat) "java/lang/ArithmeticException") ∈ kwA := kw_in 417 rfl rfl
set_option maxRecDepth 100000 in
theorem km_433 : (Jvm.Cond.methodLink "ModuleKem$Kem" (86 : Nat) ({ cls := "ModuleKem$Kem", name := "fillVector", desc := "(LModuleKem$Shape;)V" } : Jvm.MethodName)) ∈ kwA := kw_in 433 rfl rfl
set_option maxRecDepth 100000 in
theorem km_435 : (Jvm.Cond.instanceMethod ({ cls := "ModuleKem$Kem", name := "fillVector", desc := "(LModuleKem$Shape;)V" } : Jvm.MethodName)) ∈ kwA := kw_in 435 rfl rfl
set_option maxRecDepth 100000 in
theorem km_436 : (Jvm.Cond.code ({ cls := "ModuleKem$Kem", name := "fillVector", desc := "(LModuleKem$Shape;)V" } : Jvm.MethodName) prog_3_method_13_code (3 : Nat) (Option.none : Option Jvm.ClassFile.FieldType)) ∈ kwA := kw_in 436 rfl rfl
set_option maxRecDepth 100000 in
theorem km_437 : (Jvm.Cond.methodLink "ModuleKem$Kem" (93 : Nat) ({ cls := "ModuleKem$Kem", name := "fillWithNoise", desc := "([III)V" } : Jvm.MethodName)) ∈ kwA := kw_in 437 rfl rfl
set_option maxRecDepth 100000 in
theorem km_439 : (Jvm.Cond.instanceMethod ({ cls := "ModuleKem$Kem", name := "fillWithNoise", desc := "([III)V" } : Jvm.MethodName)) ∈ kwA := kw_in 439 rfl rfl
set_option maxRecDepth 100000 in
theorem km_440 : (Jvm.Cond.code ({ cls := "ModuleKem$Kem", name := "fillWithNoise", desc := "([III)V" } : Jvm.MethodName) prog_3_method_14_code (7 : Nat) (Option.none : Option Jvm.ClassFile.FieldType)) ∈ kwA := kw_in 440 rfl rfl
set_option maxRecDepth 100000 in
theorem km_441 : (Jvm.Cond.methodLink "ModuleKem$Kem" (130 : Nat) ({ cls := "ModuleKem$Bits", name := "unpack", desc := "([BII[I)V" } : Jvm.MethodName)) ∈ kwA := kw_in 441 rfl rfl
set_option maxRecDepth 100000 in
theorem km_442 : (Jvm.Cond.static ({ cls := "ModuleKem$Bits", name := "unpack", desc := "([BII[I)V" } : Jvm.MethodName)) ∈ kwA := kw_in 442 rfl rfl
set_option maxRecDepth 100000 in
theorem km_443 : (Jvm.Cond.code ({ cls := "ModuleKem$Bits", name := "unpack", desc := "([BII[I)V" } : Jvm.MethodName) prog_2_method_3_code (8 : Nat) (Option.none : Option Jvm.ClassFile.FieldType)) ∈ kwA := kw_in 443 rfl rfl
set_option maxRecDepth 100000 in
theorem km_444 : (Jvm.Cond.methodLink "ModuleKem$Kem" (205 : Nat) ({ cls := "java/lang/Integer", name := "bitCount", desc := "(I)I" } : Jvm.MethodName)) ∈ kwA := kw_in 444 rfl rfl
set_option maxRecDepth 100000 in
theorem km_445 : (Jvm.Cond.static ({ cls := "java/lang/Integer", name := "bitCount", desc := "(I)I" } : Jvm.MethodName)) ∈ kwA := kw_in 445 rfl rfl
set_option maxRecDepth 100000 in
theorem km_446 : (Jvm.Cond.code ({ cls := "java/lang/Integer", name := "bitCount", desc := "(I)I" } : Jvm.MethodName) prog_14_method_49_code (1 : Nat) (Option.some Jvm.ClassFile.FieldType.int)) ∈ kwA := kw_in 446 rfl rfl
set_option maxRecDepth 100000 in
theorem km_447 : (Jvm.Cond.constant "java/lang/Integer" (265 : Nat) (1431655765 : Int32)) ∈ kwA := kw_in 447 rfl rfl
set_option maxRecDepth 100000 in
theorem km_448 : (Jvm.Cond.constant "java/lang/Integer" (266 : Nat) (858993459 : Int32)) ∈ kwA := kw_in 448 rfl rfl
set_option maxRecDepth 100000 in
theorem km_449 : (Jvm.Cond.constant "java/lang/Integer" (267 : Nat) (252645135 : Int32)) ∈ kwA := kw_in 449 rfl rfl
set_option maxRecDepth 100000 in
theorem km_450 : (Jvm.Cond.methodLink "ModuleKem$Kem" (97 : Nat) ({ cls := "ModuleKem$Ring", name := "transform", desc := "([I)V" } : Jvm.MethodName)) ∈ kwA := kw_in 450 rfl rfl
set_option maxRecDepth 100000 in
theorem km_451 : (Jvm.Cond.instanceMethod ({ cls := "ModuleKem$Ring", name := "transform", desc := "([I)V" } : Jvm.MethodName)) ∈ kwA := kw_in 451 rfl rfl
set_option maxRecDepth 100000 in
theorem km_452 : (Jvm.Cond.selects "ModuleKem$Ring" ({ cls := "ModuleKem$Ring", name := "transform", desc := "([I)V" } : Jvm.MethodName) ({ cls := "ModuleKem$Ring", name := "transform", desc := "([I)V" } : Jvm.MethodName)) ∈ kwA := kw_in 452 rfl rfl
set_option maxRecDepth 100000 in
theorem km_453 : (Jvm.Cond.code ({ cls := "ModuleKem$Ring", name := "transform", desc := "([I)V" } : Jvm.MethodName) prog_4_method_3_code (8 : Nat) (Option.none : Option Jvm.ClassFile.FieldType)) ∈ kwA := kw_in 453 rfl rfl
set_option maxRecDepth 100000 in
theorem km_454 : (Jvm.Cond.methodLink "ModuleKem$Kem" (101 : Nat) ({ cls := "ModuleKem$Ring", name := "addProduct", desc := "([I[I[I)V" } : Jvm.MethodName)) ∈ kwA := kw_in 454 rfl rfl
set_option maxRecDepth 100000 in
theorem km_455 : (Jvm.Cond.instanceMethod ({ cls := "ModuleKem$Ring", name := "addProduct", desc := "([I[I[I)V" } : Jvm.MethodName)) ∈ kwA := kw_in 455 rfl rfl
set_option maxRecDepth 100000 in
theorem km_456 : (Jvm.Cond.selects "ModuleKem$Ring" ({ cls := "ModuleKem$Ring", name := "addProduct", desc := "([I[I[I)V" } : Jvm.MethodName) ({ cls := "ModuleKem$Ring", name := "addProduct", desc := "([I[I[I)V" } : Jvm.MethodName)) ∈ kwA := kw_in 456 rfl rfl
set_option maxRecDepth 100000 in
theorem km_457 : (Jvm.Cond.code ({ cls := "ModuleKem$Ring", name := "addProduct", desc := "([I[I[I)V" } : Jvm.MethodName) prog_4_method_5_code (6 : Nat) (Option.none : Option Jvm.ClassFile.FieldType)) ∈ kwA := kw_in 457 rfl rfl
set_option maxRecDepth 100000 in
theorem km_458 : (Jvm.Cond.methodLink "ModuleKem$Ring" (19 : Nat) ({ cls := "ModuleKem$Ring", name := "addPairProduct", desc := "([I[I[III)V" } : Jvm.MethodName)) ∈ kwA := kw_in 458 rfl rfl
set_option maxRecDepth 100000 in
theorem km_459 : (Jvm.Cond.static ({ cls := "ModuleKem$Ring", name := "addPairProduct", desc := "([I[I[III)V" } : Jvm.MethodName)) ∈ kwA := kw_in 459 rfl rfl
set_option maxRecDepth 100000 in
theorem km_460 : (Jvm.Cond.code ({ cls := "ModuleKem$Ring", name := "addPairProduct", desc := "([I[I[III)V" } : Jvm.MethodName) prog_4_method_6_code (6 : Nat) (Option.none : Option Jvm.ClassFile.FieldType)) ∈ kwA := kw_in 460 rfl rfl
set_option maxRecDepth 100000 in
theorem km_461 : (Jvm.Cond.methodLink "ModuleKem$Kem" (105 : Nat) ({ cls := "ModuleKem$Bits", name := "pack", desc := "([II[BI)V" } : Jvm.MethodName)) ∈ kwA := kw_in 461 rfl rfl
set_option maxRecDepth 100000 in
theorem km_462 : (Jvm.Cond.static ({ cls := "ModuleKem$Bits", name := "pack", desc := "([II[BI)V" } : Jvm.MethodName)) ∈ kwA := kw_in 462 rfl rfl
set_option maxRecDepth 100000 in
theorem km_463 : (Jvm.Cond.code ({ cls := "ModuleKem$Bits", name := "pack", desc := "([II[BI)V" } : Jvm.MethodName) prog_2_method_2_code (8 : Nat) (Option.none : Option Jvm.ClassFile.FieldType)) ∈ kwA := kw_in 463 rfl rfl
set_option maxRecDepth 100000 in
theorem km_464 : (Jvm.Cond.methodLink "ModuleKem$Kem" (111 : Nat) ({ cls := "ModuleKem$Shape", name := "numbersSize", desc := "()I" } : Jvm.MethodName)) ∈ kwA := kw_in 464 rfl rfl
set_option maxRecDepth 100000 in
theorem km_465 : (Jvm.Cond.instanceMethod ({ cls := "ModuleKem$Shape", name := "numbersSize", desc := "()I" } : Jvm.MethodName)) ∈ kwA := kw_in 465 rfl rfl
set_option maxRecDepth 100000 in
theorem km_466 : (Jvm.Cond.selects "ModuleKem$Shape" ({ cls := "ModuleKem$Shape", name := "numbersSize", desc := "()I" } : Jvm.MethodName) ({ cls := "ModuleKem$Shape", name := "numbersSize", desc := "()I" } : Jvm.MethodName)) ∈ kwA := kw_in 466 rfl rfl
set_option maxRecDepth 100000 in
theorem km_467 : (Jvm.Cond.code ({ cls := "ModuleKem$Shape", name := "numbersSize", desc := "()I" } : Jvm.MethodName) prog_5_method_2_code (1 : Nat) (Option.some Jvm.ClassFile.FieldType.int)) ∈ kwA := kw_in 467 rfl rfl
set_option maxRecDepth 100000 in
theorem km_468 : (Jvm.Cond.methodLink "ModuleKem$Kem" (115 : Nat) ({ cls := "java/lang/System", name := "arraycopy", desc := "(Ljava/lang/Object;ILjava/lang/Object;II)V" } : Jvm.MethodName)) ∈ kwA := kw_in 468 rfl rfl
set_option maxRecDepth 100000 in
theorem km_469 : (Jvm.Cond.methodLink "ModuleKem$Kem" (121 : Nat) ({ cls := "ModuleKem$Shape", name := "publicSize", desc := "()I" } : Jvm.MethodName)) ∈ kwA := kw_in 469 rfl rfl
set_option maxRecDepth 100000 in
theorem km_470 : (Jvm.Cond.instanceMethod ({ cls := "ModuleKem$Shape", name := "publicSize", desc := "()I" } : Jvm.MethodName)) ∈ kwA := kw_in 470 rfl rfl
set_option maxRecDepth 100000 in
theorem km_471 : (Jvm.Cond.selects "ModuleKem$Shape" ({ cls := "ModuleKem$Shape", name := "publicSize", desc := "()I" } : Jvm.MethodName) ({ cls := "ModuleKem$Shape", name := "publicSize", desc := "()I" } : Jvm.MethodName)) ∈ kwA := kw_in 471 rfl rfl
set_option maxRecDepth 100000 in
theorem km_472 : (Jvm.Cond.code ({ cls := "ModuleKem$Shape", name := "publicSize", desc := "()I" } : Jvm.MethodName) prog_5_method_3_code (1 : Nat) (Option.some Jvm.ClassFile.FieldType.int)) ∈ kwA := kw_in 472 rfl rfl
set_option maxRecDepth 100000 in
theorem km_473 : (Jvm.Cond.methodLink "ModuleKem$Shape" (24 : Nat) ({ cls := "ModuleKem$Shape", name := "numbersSize", desc := "()I" } : Jvm.MethodName)) ∈ kwA := kw_in 473 rfl rfl
set_option maxRecDepth 100000 in
theorem km_474 : (Jvm.Cond.methodLink "ModuleKem$Kem" (124 : Nat) ({ cls := "ModuleKem$Kem", name := "fillHash", desc := "([BII)V" } : Jvm.MethodName)) ∈ kwA := kw_in 474 rfl rfl
set_option maxRecDepth 100000 in
theorem km_476 : (Jvm.Cond.instanceMethod ({ cls := "ModuleKem$Kem", name := "fillHash", desc := "([BII)V" } : Jvm.MethodName)) ∈ kwA := kw_in 476 rfl rfl
set_option maxRecDepth 100000 in
theorem km_477 : (Jvm.Cond.code ({ cls := "ModuleKem$Kem", name := "fillHash", desc := "([BII)V" } : Jvm.MethodName) prog_3_method_15_code (4 : Nat) (Option.none : Option Jvm.ClassFile.FieldType)) ∈ kwA := kw_in 477 rfl rfl
set_option maxRecDepth 100000 in
theorem km_478 : (Jvm.Cond.methodLink "ModuleKem$Kem" (127 : Nat) ({ cls := "ModuleKem$Shape", name := "hashPlace", desc := "()I" } : Jvm.MethodName)) ∈ kwA := kw_in 478 rfl rfl
set_option maxRecDepth 100000 in
theorem km_479 : (Jvm.Cond.instanceMethod ({ cls := "ModuleKem$Shape", name := "hashPlace", desc := "()I" } : Jvm.MethodName)) ∈ kwA := kw_in 479 rfl rfl
set_option maxRecDepth 100000 in
theorem km_480 : (Jvm.Cond.selects "ModuleKem$Shape" ({ cls := "ModuleKem$Shape", name := "hashPlace", desc := "()I" } : Jvm.MethodName) ({ cls := "ModuleKem$Shape", name := "hashPlace", desc := "()I" } : Jvm.MethodName)) ∈ kwA := kw_in 480 rfl rfl
set_option maxRecDepth 100000 in
theorem km_481 : (Jvm.Cond.code ({ cls := "ModuleKem$Shape", name := "hashPlace", desc := "()I" } : Jvm.MethodName) prog_5_method_4_code (1 : Nat) (Option.some Jvm.ClassFile.FieldType.int)) ∈ kwA := kw_in 481 rfl rfl
set_option maxRecDepth 100000 in
theorem km_482 : (Jvm.Cond.methodLink "ModuleKem$Shape" (28 : Nat) ({ cls := "ModuleKem$Shape", name := "publicSize", desc := "()I" } : Jvm.MethodName)) ∈ kwA := kw_in 482 rfl rfl
set_option maxRecDepth 100000 in
theorem km_483 : (Jvm.Cond.methodLink "ModuleKem" (91 : Nat) ({ cls := "ModuleKem$Shape", name := "publicSize", desc := "()I" } : Jvm.MethodName)) ∈ kwA := kw_in 483 rfl rfl
set_option maxRecDepth 100000 in
theorem km_484 : (Jvm.Cond.methodLink "ModuleKem" (95 : Nat) ({ cls := "ModuleKem$Shape", name := "secretSize", desc := "()I" } : Jvm.MethodName)) ∈ kwA := kw_in 484 rfl rfl
set_option maxRecDepth 100000 in
theorem km_485 : (Jvm.Cond.instanceMethod ({ cls := "ModuleKem$Shape", name := "secretSize", desc := "()I" } : Jvm.MethodName)) ∈ kwA := kw_in 485 rfl rfl
set_option maxRecDepth 100000 in
theorem km_486 : (Jvm.Cond.selects "ModuleKem$Shape" ({ cls := "ModuleKem$Shape", name := "secretSize", desc := "()I" } : Jvm.MethodName) ({ cls := "ModuleKem$Shape", name := "secretSize", desc := "()I" } : Jvm.MethodName)) ∈ kwA := kw_in 486 rfl rfl
set_option maxRecDepth 100000 in
theorem km_487 : (Jvm.Cond.code ({ cls := "ModuleKem$Shape", name := "secretSize", desc := "()I" } : Jvm.MethodName) prog_5_method_5_code (1 : Nat) (Option.some Jvm.ClassFile.FieldType.int)) ∈ kwA := kw_in 487 rfl rfl
set_option maxRecDepth 100000 in
theorem km_488 : (Jvm.Cond.methodLink "ModuleKem$Shape" (31 : Nat) ({ cls := "ModuleKem$Shape", name := "hashPlace", desc := "()I" } : Jvm.MethodName)) ∈ kwA := kw_in 488 rfl rfl
set_option maxRecDepth 100000 in
theorem km_497 : (Jvm.Cond.methodLink "ModuleKem" (98 : Nat) ({ cls := "ModuleKem$Kem", name := "isReduced", desc := "(LModuleKem$Shape;[B)Z" } : Jvm.MethodName)) ∈ kwA := kw_in 497 rfl rfl
set_option maxRecDepth 100000 in
theorem km_498 : (Jvm.Cond.instanceMethod ({ cls := "ModuleKem$Kem", name := "isReduced", desc := "(LModuleKem$Shape;[B)Z" } : Jvm.MethodName)) ∈ kwA := kw_in 498 rfl rfl
set_option maxRecDepth 100000 in
theorem km_499 : (Jvm.Cond.selects "ModuleKem$Kem" ({ cls := "ModuleKem$Kem", name := "isReduced", desc := "(LModuleKem$Shape;[B)Z" } : Jvm.MethodName) ({ cls := "ModuleKem$Kem", name := "isReduced", desc := "(LModuleKem$Shape;[B)Z" } : Jvm.MethodName)) ∈ kwA := kw_in 499 rfl rfl
set_option maxRecDepth 100000 in
theorem km_500 : (Jvm.Cond.code ({ cls := "ModuleKem$Kem", name := "isReduced", desc := "(LModuleKem$Shape;[B)Z" } : Jvm.MethodName) prog_3_method_3_code (5 : Nat) (Option.some Jvm.ClassFile.FieldType.boolean)) ∈ kwA := kw_in 500 rfl rfl
set_option maxRecDepth 100000 in
theorem km_501 : (Jvm.Cond.classLink "ModuleKem" (102 : Nat) "java/lang/UnsupportedOperationException") ∈ kwA := kw_in 501 rfl rfl
set_option maxRecDepth 100000 in
theorem km_517 : (Jvm.Cond.methodLink "ModuleKem" (107 : Nat) ({ cls := "ModuleKem$Kem", name := "wrap", desc := "(LModuleKem$Shape;[B[B[B[B)V" } : Jvm.MethodName)) ∈ kwA := kw_in 517 rfl rfl
set_option maxRecDepth 100000 in
theorem km_518 : (Jvm.Cond.instanceMethod ({ cls := "ModuleKem$Kem", name := "wrap", desc := "(LModuleKem$Shape;[B[B[B[B)V" } : Jvm.MethodName)) ∈ kwA := kw_in 518 rfl rfl
set_option maxRecDepth 100000 in
theorem km_519 : (Jvm.Cond.selects "ModuleKem$Kem" ({ cls := "ModuleKem$Kem", name := "wrap", desc := "(LModuleKem$Shape;[B[B[B[B)V" } : Jvm.MethodName) ({ cls := "ModuleKem$Kem", name := "wrap", desc := "(LModuleKem$Shape;[B[B[B[B)V" } : Jvm.MethodName)) ∈ kwA := kw_in 519 rfl rfl
set_option maxRecDepth 100000 in
theorem km_520 : (Jvm.Cond.code ({ cls := "ModuleKem$Kem", name := "wrap", desc := "(LModuleKem$Shape;[B[B[B[B)V" } : Jvm.MethodName) prog_3_method_4_code (6 : Nat) (Option.none : Option Jvm.ClassFile.FieldType)) ∈ kwA := kw_in 520 rfl rfl
set_option maxRecDepth 100000 in
theorem km_521 : (Jvm.Cond.methodLink "ModuleKem$Kem" (134 : Nat) ({ cls := "ModuleKem$Kem", name := "deriveSeeds", desc := "([B[BI)V" } : Jvm.MethodName)) ∈ kwA := kw_in 521 rfl rfl
set_option maxRecDepth 100000 in
theorem km_523 : (Jvm.Cond.instanceMethod ({ cls := "ModuleKem$Kem", name := "deriveSeeds", desc := "([B[BI)V" } : Jvm.MethodName)) ∈ kwA := kw_in 523 rfl rfl
set_option maxRecDepth 100000 in
theorem km_524 : (Jvm.Cond.code ({ cls := "ModuleKem$Kem", name := "deriveSeeds", desc := "([B[BI)V" } : Jvm.MethodName) prog_3_method_16_code (4 : Nat) (Option.none : Option Jvm.ClassFile.FieldType)) ∈ kwA := kw_in 524 rfl rfl
set_option maxRecDepth 100000 in
theorem km_525 : (Jvm.Cond.methodLink "ModuleKem$Kem" (138 : Nat) ({ cls := "ModuleKem$Kem", name := "encrypt", desc := "(LModuleKem$Shape;[BI[B)V" } : Jvm.MethodName)) ∈ kwA := kw_in 525 rfl rfl
set_option maxRecDepth 100000 in
theorem km_527 : (Jvm.Cond.instanceMethod ({ cls := "ModuleKem$Kem", name := "encrypt", desc := "(LModuleKem$Shape;[BI[B)V" } : Jvm.MethodName)) ∈ kwA := kw_in 527 rfl rfl
set_option maxRecDepth 100000 in
theorem km_528 : (Jvm.Cond.code ({ cls := "ModuleKem$Kem", name := "encrypt", desc := "(LModuleKem$Shape;[BI[B)V" } : Jvm.MethodName) prog_3_method_8_code (6 : Nat) (Option.none : Option Jvm.ClassFile.FieldType)) ∈ kwA := kw_in 528 rfl rfl
set_option maxRecDepth 100000 in
theorem km_529 : (Jvm.Cond.methodLink "ModuleKem$Kem" (185 : Nat) ({ cls := "ModuleKem$Kem", name := "encryptVectorPart", desc := "(LModuleKem$Shape;I)V" } : Jvm.MethodName)) ∈ kwA := kw_in 529 rfl rfl
set_option maxRecDepth 100000 in
theorem km_531 : (Jvm.Cond.instanceMethod ({ cls := "ModuleKem$Kem", name := "encryptVectorPart", desc := "(LModuleKem$Shape;I)V" } : Jvm.MethodName)) ∈ kwA := kw_in 531 rfl rfl
set_option maxRecDepth 100000 in
theorem km_532 : (Jvm.Cond.code ({ cls := "ModuleKem$Kem", name := "encryptVectorPart", desc := "(LModuleKem$Shape;I)V" } : Jvm.MethodName) prog_3_method_9_code (5 : Nat) (Option.none : Option Jvm.ClassFile.FieldType)) ∈ kwA := kw_in 532 rfl rfl
set_option maxRecDepth 100000 in
theorem km_533 : (Jvm.Cond.methodLink "ModuleKem$Kem" (153 : Nat) ({ cls := "ModuleKem$Ring", name := "clear", desc := "([I)V" } : Jvm.MethodName)) ∈ kwA := kw_in 533 rfl rfl
set_option maxRecDepth 100000 in
theorem km_534 : (Jvm.Cond.static ({ cls := "ModuleKem$Ring", name := "clear", desc := "([I)V" } : Jvm.MethodName)) ∈ kwA := kw_in 534 rfl rfl
set_option maxRecDepth 100000 in
theorem km_535 : (Jvm.Cond.code ({ cls := "ModuleKem$Ring", name := "clear", desc := "([I)V" } : Jvm.MethodName) prog_4_method_8_code (2 : Nat) (Option.none : Option Jvm.ClassFile.FieldType)) ∈ kwA := kw_in 535 rfl rfl
set_option maxRecDepth 100000 in
theorem km_536 : (Jvm.Cond.methodLink "ModuleKem$Kem" (169 : Nat) ({ cls := "ModuleKem$Ring", name := "transformBack", desc := "([I)V" } : Jvm.MethodName)) ∈ kwA := kw_in 536 rfl rfl
set_option maxRecDepth 100000 in
theorem km_537 : (Jvm.Cond.instanceMethod ({ cls := "ModuleKem$Ring", name := "transformBack", desc := "([I)V" } : Jvm.MethodName)) ∈ kwA := kw_in 537 rfl rfl
set_option maxRecDepth 100000 in
theorem km_538 : (Jvm.Cond.selects "ModuleKem$Ring" ({ cls := "ModuleKem$Ring", name := "transformBack", desc := "([I)V" } : Jvm.MethodName) ({ cls := "ModuleKem$Ring", name := "transformBack", desc := "([I)V" } : Jvm.MethodName)) ∈ kwA := kw_in 538 rfl rfl
set_option maxRecDepth 100000 in
theorem km_539 : (Jvm.Cond.code ({ cls := "ModuleKem$Ring", name := "transformBack", desc := "([I)V" } : Jvm.MethodName) prog_4_method_4_code (8 : Nat) (Option.none : Option Jvm.ClassFile.FieldType)) ∈ kwA := kw_in 539 rfl rfl
set_option maxRecDepth 100000 in
theorem km_540 : (Jvm.Cond.methodLink "ModuleKem$Kem" (192 : Nat) ({ cls := "ModuleKem$Ring", name := "add", desc := "([I[I)V" } : Jvm.MethodName)) ∈ kwA := kw_in 540 rfl rfl
set_option maxRecDepth 100000 in
theorem km_541 : (Jvm.Cond.static ({ cls := "ModuleKem$Ring", name := "add", desc := "([I[I)V" } : Jvm.MethodName)) ∈ kwA := kw_in 541 rfl rfl
set_option maxRecDepth 100000 in
theorem km_542 : (Jvm.Cond.code ({ cls := "ModuleKem$Ring", name := "add", desc := "([I[I)V" } : Jvm.MethodName) prog_4_method_7_code (3 : Nat) (Option.none : Option Jvm.ClassFile.FieldType)) ∈ kwA := kw_in 542 rfl rfl
set_option maxRecDepth 100000 in
theorem km_543 : (Jvm.Cond.methodLink "ModuleKem$Kem" (156 : Nat) ({ cls := "ModuleKem$Shape", name := "vectorPartSize", desc := "()I" } : Jvm.MethodName)) ∈ kwA := kw_in 543 rfl rfl
set_option maxRecDepth 100000 in
theorem km_544 : (Jvm.Cond.instanceMethod ({ cls := "ModuleKem$Shape", name := "vectorPartSize", desc := "()I" } : Jvm.MethodName)) ∈ kwA := kw_in 544 rfl rfl
set_option maxRecDepth 100000 in
theorem km_545 : (Jvm.Cond.selects "ModuleKem$Shape" ({ cls := "ModuleKem$Shape", name := "vectorPartSize", desc := "()I" } : Jvm.MethodName) ({ cls := "ModuleKem$Shape", name := "vectorPartSize", desc := "()I" } : Jvm.MethodName)) ∈ kwA := kw_in 545 rfl rfl
set_option maxRecDepth 100000 in
theorem km_546 : (Jvm.Cond.code ({ cls := "ModuleKem$Shape", name := "vectorPartSize", desc := "()I" } : Jvm.MethodName) prog_5_method_6_code (1 : Nat) (Option.some Jvm.ClassFile.FieldType.int)) ∈ kwA := kw_in 546 rfl rfl
set_option maxRecDepth 100000 in
theorem km_547 : (Jvm.Cond.methodLink "ModuleKem$Kem" (182 : Nat) ({ cls := "ModuleKem$Bits", name := "packCompressed", desc := "([II[BI)V" } : Jvm.MethodName)) ∈ kwA := kw_in 547 rfl rfl
set_option maxRecDepth 100000 in
theorem km_548 : (Jvm.Cond.static ({ cls := "ModuleKem$Bits", name := "packCompressed", desc := "([II[BI)V" } : Jvm.MethodName)) ∈ kwA := kw_in 548 rfl rfl
set_option maxRecDepth 100000 in
theorem km_549 : (Jvm.Cond.code ({ cls := "ModuleKem$Bits", name := "packCompressed", desc := "([II[BI)V" } : Jvm.MethodName) prog_2_method_4_code (5 : Nat) (Option.none : Option Jvm.ClassFile.FieldType)) ∈ kwA := kw_in 549 rfl rfl
set_option maxRecDepth 100000 in
theorem km_550 : (Jvm.Cond.methodLink "ModuleKem$Bits" (9 : Nat) ({ cls := "ModuleKem$Bits", name := "pack", desc := "([II[BI)V" } : Jvm.MethodName)) ∈ kwA := kw_in 550 rfl rfl
set_option maxRecDepth 100000 in
theorem km_551 : (Jvm.Cond.methodLink "ModuleKem$Kem" (189 : Nat) ({ cls := "ModuleKem$Kem", name := "encryptScalar", desc := "(LModuleKem$Shape;[BI[B)V" } : Jvm.MethodName)) ∈ kwA := kw_in 551 rfl rfl
set_option maxRecDepth 100000 in
theorem km_553 : (Jvm.Cond.instanceMethod ({ cls := "ModuleKem$Kem", name := "encryptScalar", desc := "(LModuleKem$Shape;[BI[B)V" } : Jvm.MethodName)) ∈ kwA := kw_in 553 rfl rfl
set_option maxRecDepth 100000 in
theorem km_554 : (Jvm.Cond.code ({ cls := "ModuleKem$Kem", name := "encryptScalar", desc := "(LModuleKem$Shape;[BI[B)V" } : Jvm.MethodName) prog_3_method_10_code (6 : Nat) (Option.none : Option Jvm.ClassFile.FieldType)) ∈ kwA := kw_in 554 rfl rfl
set_option maxRecDepth 100000 in
theorem km_555 : (Jvm.Cond.methodLink "ModuleKem$Kem" (165 : Nat) ({ cls := "ModuleKem$Bits", name := "unpackNumbers", desc := "([BI[I)V" } : Jvm.MethodName)) ∈ kwA := kw_in 555 rfl rfl
set_option maxRecDepth 100000 in
theorem km_556 : (Jvm.Cond.static ({ cls := "ModuleKem$Bits", name := "unpackNumbers", desc := "([BI[I)V" } : Jvm.MethodName)) ∈ kwA := kw_in 556 rfl rfl
set_option maxRecDepth 100000 in
theorem km_557 : (Jvm.Cond.code ({ cls := "ModuleKem$Bits", name := "unpackNumbers", desc := "([BI[I)V" } : Jvm.MethodName) prog_2_method_6_code (4 : Nat) (Option.none : Option Jvm.ClassFile.FieldType)) ∈ kwA := kw_in 557 rfl rfl
set_option maxRecDepth 100000 in
theorem km_558 : (Jvm.Cond.methodLink "ModuleKem$Bits" (15 : Nat) ({ cls := "ModuleKem$Bits", name := "unpack", desc := "([BII[I)V" } : Jvm.MethodName)) ∈ kwA := kw_in 558 rfl rfl
set_option maxRecDepth 100000 in
theorem km_559 : (Jvm.Cond.methodLink "ModuleKem$Kem" (162 : Nat) ({ cls := "ModuleKem$Bits", name := "unpackCompressed", desc := "([BII[I)V" } : Jvm.MethodName)) ∈ kwA := kw_in 559 rfl rfl
set_option maxRecDepth 100000 in
theorem km_560 : (Jvm.Cond.static ({ cls := "ModuleKem$Bits", name := "unpackCompressed", desc := "([BII[I)V" } : Jvm.MethodName)) ∈ kwA := kw_in 560 rfl rfl
set_option maxRecDepth 100000 in
theorem km_561 : (Jvm.Cond.code ({ cls := "ModuleKem$Bits", name := "unpackCompressed", desc := "([BII[I)V" } : Jvm.MethodName) prog_2_method_5_code (5 : Nat) (Option.none : Option Jvm.ClassFile.FieldType)) ∈ kwA := kw_in 561 rfl rfl
set_option maxRecDepth 100000 in
theorem km_562 : (Jvm.Cond.methodLink "ModuleKem$Kem" (172 : Nat) ({ cls := "ModuleKem$Shape", name := "scalarPlace", desc := "()I" } : Jvm.MethodName)) ∈ kwA := kw_in 562 rfl rfl
set_option maxRecDepth 100000 in
theorem km_563 : (Jvm.Cond.instanceMethod ({ cls := "ModuleKem$Shape", name := "scalarPlace", desc := "()I" } : Jvm.MethodName)) ∈ kwA := kw_in 563 rfl rfl
set_option maxRecDepth 100000 in
theorem km_564 : (Jvm.Cond.selects "ModuleKem$Shape" ({ cls := "ModuleKem$Shape", name := "scalarPlace", desc := "()I" } : Jvm.MethodName) ({ cls := "ModuleKem$Shape", name := "scalarPlace", desc := "()I" } : Jvm.MethodName)) ∈ kwA := kw_in 564 rfl rfl
set_option maxRecDepth 100000 in
theorem km_565 : (Jvm.Cond.code ({ cls := "ModuleKem$Shape", name := "scalarPlace", desc := "()I" } : Jvm.MethodName) prog_5_method_7_code (1 : Nat) (Option.some Jvm.ClassFile.FieldType.int)) ∈ kwA := kw_in 565 rfl rfl
set_option maxRecDepth 100000 in
theorem km_566 : (Jvm.Cond.methodLink "ModuleKem$Shape" (34 : Nat) ({ cls := "ModuleKem$Shape", name := "vectorPartSize", desc := "()I" } : Jvm.MethodName)) ∈ kwA := kw_in 566 rfl rfl
set_option maxRecDepth 100000 in
theorem km_567 : (Jvm.Cond.methodLink "ModuleKem$Kem" (142 : Nat) ({ cls := "ModuleKem$Shape", name := "packetSize", desc := "()I" } : Jvm.MethodName)) ∈ kwA := kw_in 567 rfl rfl
set_option maxRecDepth 100000 in
theorem km_568 : (Jvm.Cond.instanceMethod ({ cls := "ModuleKem$Shape", name := "packetSize", desc := "()I" } : Jvm.MethodName)) ∈ kwA := kw_in 568 rfl rfl
set_option maxRecDepth 100000 in
theorem km_569 : (Jvm.Cond.selects "ModuleKem$Shape" ({ cls := "ModuleKem$Shape", name := "packetSize", desc := "()I" } : Jvm.MethodName) ({ cls := "ModuleKem$Shape", name := "packetSize", desc := "()I" } : Jvm.MethodName)) ∈ kwA := kw_in 569 rfl rfl
set_option maxRecDepth 100000 in
theorem km_570 : (Jvm.Cond.code ({ cls := "ModuleKem$Shape", name := "packetSize", desc := "()I" } : Jvm.MethodName) prog_5_method_8_code (1 : Nat) (Option.some Jvm.ClassFile.FieldType.int)) ∈ kwA := kw_in 570 rfl rfl
set_option maxRecDepth 100000 in
theorem km_571 : (Jvm.Cond.methodLink "ModuleKem$Shape" (37 : Nat) ({ cls := "ModuleKem$Shape", name := "scalarPlace", desc := "()I" } : Jvm.MethodName)) ∈ kwA := kw_in 571 rfl rfl
set_option maxRecDepth 100000 in
theorem km_572 : (Jvm.Cond.methodLink "ModuleKem" (111 : Nat) ({ cls := "ModuleKem$Shape", name := "packetSize", desc := "()I" } : Jvm.MethodName)) ∈ kwA := kw_in 572 rfl rfl
set_option maxRecDepth 100000 in
theorem km_581 : (Jvm.Cond.methodLink "ModuleKem" (116 : Nat) ({ cls := "ModuleKem$Kem", name := "holdsItsHash", desc := "(LModuleKem$Shape;[B)Z" } : Jvm.MethodName)) ∈ kwA := kw_in 581 rfl rfl
set_option maxRecDepth 100000 in
theorem km_582 : (Jvm.Cond.instanceMethod ({ cls := "ModuleKem$Kem", name := "holdsItsHash", desc := "(LModuleKem$Shape;[B)Z" } : Jvm.MethodName)) ∈ kwA := kw_in 582 rfl rfl
set_option maxRecDepth 100000 in
theorem km_583 : (Jvm.Cond.selects "ModuleKem$Kem" ({ cls := "ModuleKem$Kem", name := "holdsItsHash", desc := "(LModuleKem$Shape;[B)Z" } : Jvm.MethodName) ({ cls := "ModuleKem$Kem", name := "holdsItsHash", desc := "(LModuleKem$Shape;[B)Z" } : Jvm.MethodName)) ∈ kwA := kw_in 583 rfl rfl
set_option maxRecDepth 100000 in
theorem km_584 : (Jvm.Cond.code ({ cls := "ModuleKem$Kem", name := "holdsItsHash", desc := "(LModuleKem$Shape;[B)Z" } : Jvm.MethodName) prog_3_method_5_code (3 : Nat) (Option.some Jvm.ClassFile.FieldType.boolean)) ∈ kwA := kw_in 584 rfl rfl
set_option maxRecDepth 100000 in
theorem km_587 : (Jvm.Cond.methodLink "ModuleKem" (121 : Nat) ({ cls := "ModuleKem$Kem", name := "open", desc := "(LModuleKem$Shape;[B[B[B)Z" } : Jvm.MethodName)) ∈ kwA := kw_in 587 rfl rfl
set_option maxRecDepth 100000 in
theorem km_588 : (Jvm.Cond.instanceMethod ({ cls := "ModuleKem$Kem", name := "open", desc := "(LModuleKem$Shape;[B[B[B)Z" } : Jvm.MethodName)) ∈ kwA := kw_in 588 rfl rfl
set_option maxRecDepth 100000 in
theorem km_589 : (Jvm.Cond.selects "ModuleKem$Kem" ({ cls := "ModuleKem$Kem", name := "open", desc := "(LModuleKem$Shape;[B[B[B)Z" } : Jvm.MethodName) ({ cls := "ModuleKem$Kem", name := "open", desc := "(LModuleKem$Shape;[B[B[B)Z" } : Jvm.MethodName)) ∈ kwA := kw_in 589 rfl rfl
set_option maxRecDepth 100000 in
theorem km_590 : (Jvm.Cond.code ({ cls := "ModuleKem$Kem", name := "open", desc := "(LModuleKem$Shape;[B[B[B)Z" } : Jvm.MethodName) prog_3_method_6_code (6 : Nat) (Option.some Jvm.ClassFile.FieldType.boolean)) ∈ kwA := kw_in 590 rfl rfl
set_option maxRecDepth 100000 in
theorem km_591 : (Jvm.Cond.methodLink "ModuleKem$Kem" (149 : Nat) ({ cls := "ModuleKem$Kem", name := "recoverMessage", desc := "(LModuleKem$Shape;[B[B)V" } : Jvm.MethodName)) ∈ kwA := kw_in 591 rfl rfl
set_option maxRecDepth 100000 in
theorem km_593 : (Jvm.Cond.instanceMethod ({ cls := "ModuleKem$Kem", name := "recoverMessage", desc := "(LModuleKem$Shape;[B[B)V" } : Jvm.MethodName)) ∈ kwA := kw_in 593 rfl rfl
set_option maxRecDepth 100000 in
theorem km_594 : (Jvm.Cond.code ({ cls := "ModuleKem$Kem", name := "recoverMessage", desc := "(LModuleKem$Shape;[B[B)V" } : Jvm.MethodName) prog_3_method_7_code (5 : Nat) (Option.none : Option Jvm.ClassFile.FieldType)) ∈ kwA := kw_in 594 rfl rfl
set_option maxRecDepth 100000 in
theorem km_595 : (Jvm.Cond.methodLink "ModuleKem$Kem" (178 : Nat) ({ cls := "ModuleKem$Ring", name := "subtractFrom", desc := "([I[I)V" } : Jvm.MethodName)) ∈ kwA := kw_in 595 rfl rfl
set_option maxRecDepth 100000 in
theorem km_596 : (Jvm.Cond.static ({ cls := "ModuleKem$Ring", name := "subtractFrom", desc := "([I[I)V" } : Jvm.MethodName)) ∈ kwA := kw_in 596 rfl rfl
set_option maxRecDepth 100000 in
theorem km_597 : (Jvm.Cond.code ({ cls := "ModuleKem$Ring", name := "subtractFrom", desc := "([I[I)V" } : Jvm.MethodName) prog_4_method_9_code (3 : Nat) (Option.none : Option Jvm.ClassFile.FieldType)) ∈ kwA := kw_in 597 rfl rfl
set_option maxRecDepth 100000 in
theorem km_610 : (Jvm.Cond.methodLink "ModuleKemModel" (118 : Nat) ({ cls := "ModuleKemModel", name := "prime", desc := "(I)Z" } : Jvm.MethodName)) ∈ kwA := kw_in 610 rfl rfl
set_option maxRecDepth 100000 in
theorem km_611 : (Jvm.Cond.static ({ cls := "ModuleKemModel", name := "prime", desc := "(I)Z" } : Jvm.MethodName)) ∈ kwA := kw_in 611 rfl rfl
set_option maxRecDepth 100000 in
theorem km_612 : (Jvm.Cond.code ({ cls := "ModuleKemModel", name := "prime", desc := "(I)Z" } : Jvm.MethodName) prog_8_method_16_code (2 : Nat) (Option.some Jvm.ClassFile.FieldType.boolean)) ∈ kwA := kw_in 612 rfl rfl
set_option maxRecDepth 100000 in
theorem km_613 : (Jvm.Cond.methodLink "ModuleKemModel" (122 : Nat) ({ cls := "ModuleKemModel", name := "root", desc := "(II)J" } : Jvm.MethodName)) ∈ kwA := kw_in 613 rfl rfl
set_option maxRecDepth 100000 in
theorem km_615 : (Jvm.Cond.instanceMethod ({ cls := "ModuleKemModel", name := "root", desc := "(II)J" } : Jvm.MethodName)) ∈ kwA := kw_in 615 rfl rfl
set_option maxRecDepth 100000 in
theorem km_616 : (Jvm.Cond.code ({ cls := "ModuleKemModel", name := "root", desc := "(II)J" } : Jvm.MethodName) prog_8_method_18_code (7 : Nat) (Option.some Jvm.ClassFile.FieldType.long)) ∈ kwA := kw_in 616 rfl rfl
set_option maxRecDepth 100000 in
theorem km_617 : (Jvm.Cond.methodLink "ModuleKemModel" (114 : Nat) ({ cls := "ModuleKemModel", name := "above", desc := "(IJII)Z" } : Jvm.MethodName)) ∈ kwA := kw_in 617 rfl rfl
set_option maxRecDepth 100000 in
theorem km_619 : (Jvm.Cond.instanceMethod ({ cls := "ModuleKemModel", name := "above", desc := "(IJII)Z" } : Jvm.MethodName)) ∈ kwA := kw_in 619 rfl rfl
set_option maxRecDepth 100000 in
theorem km_620 : (Jvm.Cond.code ({ cls := "ModuleKemModel", name := "above", desc := "(IJII)Z" } : Jvm.MethodName) prog_8_method_17_code (10 : Nat) (Option.some Jvm.ClassFile.FieldType.boolean)) ∈ kwA := kw_in 620 rfl rfl
set_option maxRecDepth 100000 in
theorem km_621 : (Jvm.Cond.constantLong "ModuleKemModel" (112 : Nat) (65535 : Int64)) ∈ kwA := kw_in 621 rfl rfl
set_option maxRecDepth 100000 in
theorem km_622 : (Jvm.Cond.methodLink "ModuleKemModel" (126 : Nat) ({ cls := "ModuleKemModel", name := "bit", desc := "(I)I" } : Jvm.MethodName)) ∈ kwA := kw_in 622 rfl rfl
set_option maxRecDepth 100000 in
theorem km_623 : (Jvm.Cond.static ({ cls := "ModuleKemModel", name := "bit", desc := "(I)I" } : Jvm.MethodName)) ∈ kwA := kw_in 623 rfl rfl
set_option maxRecDepth 100000 in
theorem km_624 : (Jvm.Cond.code ({ cls := "ModuleKemModel", name := "bit", desc := "(I)I" } : Jvm.MethodName) prog_8_method_20_code (3 : Nat) (Option.some Jvm.ClassFile.FieldType.int)) ∈ kwA := kw_in 624 rfl rfl
set_option maxRecDepth 100000 in
theorem km_625 : (Jvm.Cond.methodLink "ModuleKemModel" (130 : Nat) ({ cls := "ModuleKemModel", name := "named", desc := "([JII)V" } : Jvm.MethodName)) ∈ kwA := kw_in 625 rfl rfl
set_option maxRecDepth 100000 in
theorem km_627 : (Jvm.Cond.instanceMethod ({ cls := "ModuleKemModel", name := "named", desc := "([JII)V" } : Jvm.MethodName)) ∈ kwA := kw_in 627 rfl rfl
set_option maxRecDepth 100000 in
theorem km_628 : (Jvm.Cond.code ({ cls := "ModuleKemModel", name := "named", desc := "([JII)V" } : Jvm.MethodName) prog_8_method_21_code (5 : Nat) (Option.none : Option Jvm.ClassFile.FieldType)) ∈ kwA := kw_in 628 rfl rfl
set_option maxRecDepth 100000 in
theorem km_629 : (Jvm.Cond.methodLink "ModuleKemModel" (134 : Nat) ({ cls := "ModuleKemModel", name := "begin", desc := "(I)V" } : Jvm.MethodName)) ∈ kwA := kw_in 629 rfl rfl
set_option maxRecDepth 100000 in
theorem km_631 : (Jvm.Cond.instanceMethod ({ cls := "ModuleKemModel", name := "begin", desc := "(I)V" } : Jvm.MethodName)) ∈ kwA := kw_in 631 rfl rfl
set_option maxRecDepth 100000 in
theorem km_632 : (Jvm.Cond.code ({ cls := "ModuleKemModel", name := "begin", desc := "(I)V" } : Jvm.MethodName) prog_8_method_25_code (3 : Nat) (Option.none : Option Jvm.ClassFile.FieldType)) ∈ kwA := kw_in 632 rfl rfl
set_option maxRecDepth 100000 in
theorem km_633 : (Jvm.Cond.methodLink "ModuleKemModel" (155 : Nat) ({ cls := "ModuleKemModel", name := "digestOf", desc := "(I)I" } : Jvm.MethodName)) ∈ kwA := kw_in 633 rfl rfl
set_option maxRecDepth 100000 in
theorem km_634 : (Jvm.Cond.static ({ cls := "ModuleKemModel", name := "digestOf", desc := "(I)I" } : Jvm.MethodName)) ∈ kwA := kw_in 634 rfl rfl
set_option maxRecDepth 100000 in
theorem km_635 : (Jvm.Cond.code ({ cls := "ModuleKemModel", name := "digestOf", desc := "(I)I" } : Jvm.MethodName) prog_8_method_24_code (1 : Nat) (Option.some Jvm.ClassFile.FieldType.int)) ∈ kwA := kw_in 635 rfl rfl
set_option maxRecDepth 100000 in
theorem km_636 : (Jvm.Cond.methodLink "ModuleKemModel" (158 : Nat) ({ cls := "ModuleKemModel", name := "blockOf", desc := "(I)I" } : Jvm.MethodName)) ∈ kwA := kw_in 636 rfl rfl
set_option maxRecDepth 100000 in
theorem km_637 : (Jvm.Cond.static ({ cls := "ModuleKemModel", name := "blockOf", desc := "(I)I" } : Jvm.MethodName)) ∈ kwA := kw_in 637 rfl rfl
set_option maxRecDepth 100000 in
theorem km_638 : (Jvm.Cond.code ({ cls := "ModuleKemModel", name := "blockOf", desc := "(I)I" } : Jvm.MethodName) prog_8_method_23_code (1 : Nat) (Option.some Jvm.ClassFile.FieldType.int)) ∈ kwA := kw_in 638 rfl rfl
set_option maxRecDepth 100000 in
theorem km_639 : (Jvm.Cond.constantLong "ModuleKemModel" (164 : Nat) (4294967295 : Int64)) ∈ kwA := kw_in 639 rfl rfl
set_option maxRecDepth 100000 in
theorem km_640 : (Jvm.Cond.constantLong "ModuleKemModel" (137 : Nat) (-6510615555426900571 : Int64)) ∈ kwA := kw_in 640 rfl rfl
set_option maxRecDepth 100000 in
theorem km_641 : (Jvm.Cond.methodLink "ModuleKemModel" (139 : Nat) ({ cls := "ModuleKemModel", name := "put", desc := "(I)V" } : Jvm.MethodName)) ∈ kwA := kw_in 641 rfl rfl
set_option maxRecDepth 100000 in
theorem km_643 : (Jvm.Cond.instanceMethod ({ cls := "ModuleKemModel", name := "put", desc := "(I)V" } : Jvm.MethodName)) ∈ kwA := kw_in 643 rfl rfl
set_option maxRecDepth 100000 in
theorem km_644 : (Jvm.Cond.code ({ cls := "ModuleKemModel", name := "put", desc := "(I)V" } : Jvm.MethodName) prog_8_method_27_code (2 : Nat) (Option.none : Option Jvm.ClassFile.FieldType)) ∈ kwA := kw_in 644 rfl rfl
set_option maxRecDepth 100000 in
theorem km_645 : (Jvm.Cond.methodLink "ModuleKemModel" (166 : Nat) ({ cls := "ModuleKemModel", name := "sponge", desc := "()Z" } : Jvm.MethodName)) ∈ kwA := kw_in 645 rfl rfl
set_option maxRecDepth 100000 in
theorem km_647 : (Jvm.Cond.instanceMethod ({ cls := "ModuleKemModel", name := "sponge", desc := "()Z" } : Jvm.MethodName)) ∈ kwA := kw_in 647 rfl rfl
set_option maxRecDepth 100000 in
theorem km_648 : (Jvm.Cond.code ({ cls := "ModuleKemModel", name := "sponge", desc := "()Z" } : Jvm.MethodName) prog_8_method_22_code (1 : Nat) (Option.some Jvm.ClassFile.FieldType.boolean)) ∈ kwA := kw_in 648 rfl rfl
set_option maxRecDepth 100000 in
theorem km_649 : (Jvm.Cond.methodLink "ModuleKemModel" (170 : Nat) ({ cls := "ModuleKemModel", name := "flip", desc := "(II)V" } : Jvm.MethodName)) ∈ kwA := kw_in 649 rfl rfl
set_option maxRecDepth 100000 in
theorem km_651 : (Jvm.Cond.instanceMethod ({ cls := "ModuleKemModel", name := "flip", desc := "(II)V" } : Jvm.MethodName)) ∈ kwA := kw_in 651 rfl rfl
set_option maxRecDepth 100000 in
theorem km_652 : (Jvm.Cond.code ({ cls := "ModuleKemModel", name := "flip", desc := "(II)V" } : Jvm.MethodName) prog_8_method_26_code (3 : Nat) (Option.none : Option Jvm.ClassFile.FieldType)) ∈ kwA := kw_in 652 rfl rfl
set_option maxRecDepth 100000 in
theorem km_653 : (Jvm.Cond.constantLong "ModuleKemModel" (110 : Nat) (255 : Int64)) ∈ kwA := kw_in 653 rfl rfl
set_option maxRecDepth 100000 in
theorem km_654 : (Jvm.Cond.methodLink "ModuleKemModel" (174 : Nat) ({ cls := "ModuleKemModel", name := "permute", desc := "()V" } : Jvm.MethodName)) ∈ kwA := kw_in 654 rfl rfl
set_option maxRecDepth 100000 in
theorem km_656 : (Jvm.Cond.instanceMethod ({ cls := "ModuleKemModel", name := "permute", desc := "()V" } : Jvm.MethodName)) ∈ kwA := kw_in 656 rfl rfl
set_option maxRecDepth 100000 in
theorem km_657 : (Jvm.Cond.code ({ cls := "ModuleKemModel", name := "permute", desc := "()V" } : Jvm.MethodName) prog_8_method_29_code (4 : Nat) (Option.none : Option Jvm.ClassFile.FieldType)) ∈ kwA := kw_in 657 rfl rfl
set_option maxRecDepth 100000 in
theorem km_658 : (Jvm.Cond.methodLink "ModuleKemModel" (183 : Nat) ({ cls := "ModuleKemModel", name := "left", desc := "(JI)J" } : Jvm.MethodName)) ∈ kwA := kw_in 658 rfl rfl
set_option maxRecDepth 100000 in
theorem km_659 : (Jvm.Cond.static ({ cls := "ModuleKemModel", name := "left", desc := "(JI)J" } : Jvm.MethodName)) ∈ kwA := kw_in 659 rfl rfl
set_option maxRecDepth 100000 in
theorem km_660 : (Jvm.Cond.code ({ cls := "ModuleKemModel", name := "left", desc := "(JI)J" } : Jvm.MethodName) prog_8_method_30_code (3 : Nat) (Option.some Jvm.ClassFile.FieldType.long)) ∈ kwA := kw_in 660 rfl rfl
set_option maxRecDepth 100000 in
theorem km_661 : (Jvm.Cond.constantLong "ModuleKemModel" (187 : Nat) (-1 : Int64)) ∈ kwA := kw_in 661 rfl rfl
set_option maxRecDepth 100000 in
theorem km_662 : (Jvm.Cond.methodLink "ModuleKemModel" (177 : Nat) ({ cls := "ModuleKemModel", name := "compress32", desc := "()V" } : Jvm.MethodName)) ∈ kwA := kw_in 662 rfl rfl
set_option maxRecDepth 100000 in
theorem km_664 : (Jvm.Cond.instanceMethod ({ cls := "ModuleKemModel", name := "compress32", desc := "()V" } : Jvm.MethodName)) ∈ kwA := kw_in 664 rfl rfl
set_option maxRecDepth 100000 in
theorem km_665 : (Jvm.Cond.code ({ cls := "ModuleKemModel", name := "compress32", desc := "()V" } : Jvm.MethodName) prog_8_method_34_code (12 : Nat) (Option.none : Option Jvm.ClassFile.FieldType)) ∈ kwA := kw_in 665 rfl rfl
set_option maxRecDepth 100000 in
theorem km_666 : (Jvm.Cond.methodLink "ModuleKemModel" (192 : Nat) ({ cls := "ModuleKemModel", name := "turn", desc := "(II)I" } : Jvm.MethodName)) ∈ kwA := kw_in 666 rfl rfl
set_option maxRecDepth 100000 in
theorem km_667 : (Jvm.Cond.static ({ cls := "ModuleKemModel", name := "turn", desc := "(II)I" } : Jvm.MethodName)) ∈ kwA := kw_in 667 rfl rfl
set_option maxRecDepth 100000 in
theorem km_668 : (Jvm.Cond.code ({ cls := "ModuleKemModel", name := "turn", desc := "(II)I" } : Jvm.MethodName) prog_8_method_32_code (2 : Nat) (Option.some Jvm.ClassFile.FieldType.int)) ∈ kwA := kw_in 668 rfl rfl
set_option maxRecDepth 100000 in
theorem km_669 : (Jvm.Cond.methodLink "ModuleKemModel" (180 : Nat) ({ cls := "ModuleKemModel", name := "compress64", desc := "()V" } : Jvm.MethodName)) ∈ kwA := kw_in 669 rfl rfl
set_option maxRecDepth 100000 in
theorem km_671 : (Jvm.Cond.instanceMethod ({ cls := "ModuleKemModel", name := "compress64", desc := "()V" } : Jvm.MethodName)) ∈ kwA := kw_in 671 rfl rfl
set_option maxRecDepth 100000 in
theorem km_672 : (Jvm.Cond.code ({ cls := "ModuleKemModel", name := "compress64", desc := "()V" } : Jvm.MethodName) prog_8_method_33_code (22 : Nat) (Option.none : Option Jvm.ClassFile.FieldType)) ∈ kwA := kw_in 672 rfl rfl
set_option maxRecDepth 100000 in
theorem km_673 : (Jvm.Cond.methodLink "ModuleKemModel" (189 : Nat) ({ cls := "ModuleKemModel", name := "right", desc := "(JI)J" } : Jvm.MethodName)) ∈ kwA := kw_in 673 rfl rfl
set_option maxRecDepth 100000 in
theorem km_674 : (Jvm.Cond.static ({ cls := "ModuleKemModel", name := "right", desc := "(JI)J" } : Jvm.MethodName)) ∈ kwA := kw_in 674 rfl rfl
set_option maxRecDepth 100000 in
theorem km_675 : (Jvm.Cond.code ({ cls := "ModuleKemModel", name := "right", desc := "(JI)J" } : Jvm.MethodName) prog_8_method_31_code (3 : Nat) (Option.some Jvm.ClassFile.FieldType.long)) ∈ kwA := kw_in 675 rfl rfl
set_option maxRecDepth 100000 in
theorem km_676 : (Jvm.Cond.methodLink "ModuleKemModel" (142 : Nat) ({ cls := "ModuleKemModel", name := "finish", desc := "()V" } : Jvm.MethodName)) ∈ kwA := kw_in 676 rfl rfl
set_option maxRecDepth 100000 in
theorem km_678 : (Jvm.Cond.instanceMethod ({ cls := "ModuleKemModel", name := "finish", desc := "()V" } : Jvm.MethodName)) ∈ kwA := kw_in 678 rfl rfl
set_option maxRecDepth 100000 in
theorem km_679 : (Jvm.Cond.code ({ cls := "ModuleKemModel", name := "finish", desc := "()V" } : Jvm.MethodName) prog_8_method_35_code (4 : Nat) (Option.none : Option Jvm.ClassFile.FieldType)) ∈ kwA := kw_in 679 rfl rfl
set_option maxRecDepth 100000 in
theorem km_680 : (Jvm.Cond.constantLong "ModuleKemModel" (196 : Nat) (8 : Int64)) ∈ kwA := kw_in 680 rfl rfl
set_option maxRecDepth 100000 in
theorem km_681 : (Jvm.Cond.fieldLink "ModuleKemModel" (9 : Nat) "ModuleKemModel" "tape" "[B") ∈ kwA := kw_in 681 rfl rfl
set_option maxRecDepth 100000 in
theorem km_682 : (Jvm.Cond.fieldLink "ModuleKemModel" (15 : Nat) "ModuleKemModel" "slot" "[[B") ∈ kwA := kw_in 682 rfl rfl
set_option maxRecDepth 100000 in
theorem km_683 : (Jvm.Cond.fieldLink "ModuleKemModel" (18 : Nat) "ModuleKemModel" "length" "[I") ∈ kwA := kw_in 683 rfl rfl
set_option maxRecDepth 100000 in
theorem km_684 : (Jvm.Cond.fieldLink "ModuleKemModel" (95 : Nat) "ModuleKemModel" "taped" "I") ∈ kwA := kw_in 684 rfl rfl
set_option maxRecDepth 100000 in
theorem km_685 : (Jvm.Cond.fieldLink "ModuleKemModel" (91 : Nat) "ModuleKemModel" "code" "I") ∈ kwA := kw_in 685 rfl rfl
set_option maxRecDepth 100000 in
theorem km_686 : (Jvm.Cond.fieldLink "ModuleKemModel" (22 : Nat) "ModuleKemModel" "roots" "[J") ∈ kwA := kw_in 686 rfl rfl
set_option maxRecDepth 100000 in
theorem km_687 : (Jvm.Cond.fieldLink "ModuleKemModel" (26 : Nat) "ModuleKemModel" "cubes" "[J") ∈ kwA := kw_in 687 rfl rfl
set_option maxRecDepth 100000 in
theorem km_688 : (Jvm.Cond.fieldLink "ModuleKemModel" (29 : Nat) "ModuleKemModel" "start224" "[J") ∈ kwA := kw_in 688 rfl rfl
set_option maxRecDepth 100000 in
theorem km_689 : (Jvm.Cond.fieldLink "ModuleKemModel" (32 : Nat) "ModuleKemModel" "start256" "[J") ∈ kwA := kw_in 689 rfl rfl
set_option maxRecDepth 100000 in
theorem km_690 : (Jvm.Cond.fieldLink "ModuleKemModel" (35 : Nat) "ModuleKemModel" "limbs" "[J") ∈ kwA := kw_in 690 rfl rfl
set_option maxRecDepth 100000 in
theorem km_691 : (Jvm.Cond.fieldLink "ModuleKemModel" (38 : Nat) "ModuleKemModel" "product" "[J") ∈ kwA := kw_in 691 rfl rfl
set_option maxRecDepth 100000 in
theorem km_692 : (Jvm.Cond.fieldLink "ModuleKemModel" (41 : Nat) "ModuleKemModel" "turns" "[I") ∈ kwA := kw_in 692 rfl rfl
set_option maxRecDepth 100000 in
theorem km_693 : (Jvm.Cond.fieldLink "ModuleKemModel" (44 : Nat) "ModuleKemModel" "round" "[J") ∈ kwA := kw_in 693 rfl rfl
set_option maxRecDepth 100000 in
theorem km_694 : (Jvm.Cond.fieldLink "ModuleKemModel" (47 : Nat) "ModuleKemModel" "state" "[J") ∈ kwA := kw_in 694 rfl rfl
set_option maxRecDepth 100000 in
theorem km_695 : (Jvm.Cond.fieldLink "ModuleKemModel" (50 : Nat) "ModuleKemModel" "other" "[J") ∈ kwA := kw_in 695 rfl rfl
set_option maxRecDepth 100000 in
theorem km_696 : (Jvm.Cond.fieldLink "ModuleKemModel" (53 : Nat) "ModuleKemModel" "column" "[J") ∈ kwA := kw_in 696 rfl rfl
set_option maxRecDepth 100000 in
theorem km_697 : (Jvm.Cond.fieldLink "ModuleKemModel" (56 : Nat) "ModuleKemModel" "words" "[J") ∈ kwA := kw_in 697 rfl rfl
set_option maxRecDepth 100000 in
theorem km_698 : (Jvm.Cond.fieldLink "ModuleKemModel" (59 : Nat) "ModuleKemModel" "block" "[B") ∈ kwA := kw_in 698 rfl rfl
set_option maxRecDepth 100000 in
theorem km_699 : (Jvm.Cond.fieldLink "ModuleKemModel" (145 : Nat) "ModuleKemModel" "kind" "I") ∈ kwA := kw_in 699 rfl rfl
set_option maxRecDepth 100000 in
theorem km_700 : (Jvm.Cond.fieldLink "ModuleKemModel" (161 : Nat) "ModuleKemModel" "rate" "I") ∈ kwA := kw_in 700 rfl rfl
set_option maxRecDepth 100000 in
theorem km_701 : (Jvm.Cond.fieldLink "ModuleKemModel" (148 : Nat) "ModuleKemModel" "filled" "I") ∈ kwA := kw_in 701 rfl rfl
set_option maxRecDepth 100000 in
theorem km_702 : (Jvm.Cond.fieldLink "ModuleKemModel" (151 : Nat) "ModuleKemModel" "total" "J") ∈ kwA := kw_in 702 rfl rfl
set_option maxRecDepth 100000 in
theorem km_703 : (Jvm.Cond.fieldLink "ModuleKemModel" (202 : Nat) "ModuleKemModel" "bitAt" "I") ∈ kwA := kw_in 703 rfl rfl
set_option maxRecDepth 100000 in
theorem km_704 : (Jvm.Cond.fieldLink "ModuleKemModel" (62 : Nat) "ModuleKemModel" "sum" "[J") ∈ kwA := kw_in 704 rfl rfl
set_option maxRecDepth 100000 in
theorem km_705 : (Jvm.Cond.fieldLink "ModuleKemModel" (65 : Nat) "ModuleKemModel" "points" "[I") ∈ kwA := kw_in 705 rfl rfl
set_option maxRecDepth 100000 in
theorem km_706 : (Jvm.Cond.fieldLink "ModuleKemModel" (70 : Nat) "ModuleKemModel" "f" "[[I") ∈ kwA := kw_in 706 rfl rfl
set_option maxRecDepth 100000 in
theorem km_707 : (Jvm.Cond.fieldLink "ModuleKemModel" (73 : Nat) "ModuleKemModel" "seed" "[B") ∈ kwA := kw_in 707 rfl rfl
set_option maxRecDepth 100000 in
theorem km_708 : (Jvm.Cond.fieldLink "ModuleKemModel" (76 : Nat) "ModuleKemModel" "noise" "[B") ∈ kwA := kw_in 708 rfl rfl
set_option maxRecDepth 100000 in
theorem km_709 : (Jvm.Cond.fieldLink "ModuleKemModel" (79 : Nat) "ModuleKemModel" "packet" "[B") ∈ kwA := kw_in 709 rfl rfl
set_option maxRecDepth 100000 in
theorem km_710 : (Jvm.Cond.fieldLink "ModuleKemModel" (82 : Nat) "ModuleKemModel" "back" "[B") ∈ kwA := kw_in 710 rfl rfl
set_option maxRecDepth 100000 in
theorem km_711 : (Jvm.Cond.fieldLink "ModuleKemModel" (209 : Nat) "ModuleKemModel" "k" "I") ∈ kwA := kw_in 711 rfl rfl
set_option maxRecDepth 100000 in
theorem km_712 : (Jvm.Cond.fieldLink "ModuleKemModel" (212 : Nat) "ModuleKemModel" "e1" "I") ∈ kwA := kw_in 712 rfl rfl
set_option maxRecDepth 100000 in
theorem km_713 : (Jvm.Cond.fieldLink "ModuleKemModel" (215 : Nat) "ModuleKemModel" "du" "I") ∈ kwA := kw_in 713 rfl rfl
set_option maxRecDepth 100000 in
theorem km_714 : (Jvm.Cond.fieldLink "ModuleKemModel" (218 : Nat) "ModuleKemModel" "dv" "I") ∈ kwA := kw_in 714 rfl rfl
set_option maxRecDepth 100000 in
theorem km_715 : (Jvm.Cond.fieldLink "ModuleKemModel" (85 : Nat) "ModuleKemModel" "message" "[B") ∈ kwA := kw_in 715 rfl rfl
set_option maxRecDepth 100000 in
theorem km_795 : (Jvm.Cond.methodLink "ModuleKemModel" (98 : Nat) ({ cls := "ModuleKemModel", name := "good", desc := "(ZI)Z" } : Jvm.MethodName)) ∈ kwA := kw_in 795 rfl rfl
set_option maxRecDepth 100000 in
theorem km_797 : (Jvm.Cond.instanceMethod ({ cls := "ModuleKemModel", name := "good", desc := "(ZI)Z" } : Jvm.MethodName)) ∈ kwA := kw_in 797 rfl rfl
set_option maxRecDepth 100000 in
theorem km_798 : (Jvm.Cond.code ({ cls := "ModuleKemModel", name := "good", desc := "(ZI)Z" } : Jvm.MethodName) prog_8_method_4_code (3 : Nat) (Option.some Jvm.ClassFile.FieldType.boolean)) ∈ kwA := kw_in 798 rfl rfl
set_option maxRecDepth 100000 in
theorem km_799 : (Jvm.Cond.methodLink "ModuleKemModel" (102 : Nat) ({ cls := "ModuleKemModel", name := "word", desc := "(I)V" } : Jvm.MethodName)) ∈ kwA := kw_in 799 rfl rfl
set_option maxRecDepth 100000 in
theorem km_801 : (Jvm.Cond.instanceMethod ({ cls := "ModuleKemModel", name := "word", desc := "(I)V" } : Jvm.MethodName)) ∈ kwA := kw_in 801 rfl rfl
set_option maxRecDepth 100000 in
theorem km_802 : (Jvm.Cond.code ({ cls := "ModuleKemModel", name := "word", desc := "(I)V" } : Jvm.MethodName) prog_8_method_6_code (3 : Nat) (Option.none : Option Jvm.ClassFile.FieldType)) ∈ kwA := kw_in 802 rfl rfl
set_option maxRecDepth 100000 in
theorem km_807 : (Jvm.Cond.methodLink "ModuleKemModel" (106 : Nat) ({ cls := "ModuleKemModel", name := "in", desc := "(III)Z" } : Jvm.MethodName)) ∈ kwA := kw_in 807 rfl rfl
set_option maxRecDepth 100000 in
theorem km_808 : (Jvm.Cond.static ({ cls := "ModuleKemModel", name := "in", desc := "(III)Z" } : Jvm.MethodName)) ∈ kwA := kw_in 808 rfl rfl
set_option maxRecDepth 100000 in
theorem km_809 : (Jvm.Cond.code ({ cls := "ModuleKemModel", name := "in", desc := "(III)Z" } : Jvm.MethodName) prog_8_method_3_code (3 : Nat) (Option.some Jvm.ClassFile.FieldType.boolean)) ∈ kwA := kw_in 809 rfl rfl
set_option maxRecDepth 100000 in
theorem km_838 : (Jvm.Cond.methodLink "ModuleKemModel" (238 : Nat) ({ cls := "ModuleKemModel", name := "kem", desc := "(I)V" } : Jvm.MethodName)) ∈ kwA := kw_in 838 rfl rfl
set_option maxRecDepth 100000 in
theorem km_840 : (Jvm.Cond.instanceMethod ({ cls := "ModuleKemModel", name := "kem", desc := "(I)V" } : Jvm.MethodName)) ∈ kwA := kw_in 840 rfl rfl
set_option maxRecDepth 100000 in
theorem km_841 : (Jvm.Cond.code ({ cls := "ModuleKemModel", name := "kem", desc := "(I)V" } : Jvm.MethodName) prog_8_method_43_code (3 : Nat) (Option.none : Option Jvm.ClassFile.FieldType)) ∈ kwA := kw_in 841 rfl rfl
set_option maxRecDepth 100000 in
theorem km_842 : (Jvm.Cond.methodLink "ModuleKemModel" (228 : Nat) ({ cls := "ModuleKemModel", name := "put", desc := "([BII)V" } : Jvm.MethodName)) ∈ kwA := kw_in 842 rfl rfl
set_option maxRecDepth 100000 in
theorem km_844 : (Jvm.Cond.instanceMethod ({ cls := "ModuleKemModel", name := "put", desc := "([BII)V" } : Jvm.MethodName)) ∈ kwA := kw_in 844 rfl rfl
set_option maxRecDepth 100000 in
theorem km_845 : (Jvm.Cond.code ({ cls := "ModuleKemModel", name := "put", desc := "([BII)V" } : Jvm.MethodName) prog_8_method_28_code (5 : Nat) (Option.none : Option Jvm.ClassFile.FieldType)) ∈ kwA := kw_in 845 rfl rfl
set_option maxRecDepth 100000 in
theorem km_846 : (Jvm.Cond.methodLink "ModuleKemModel" (231 : Nat) ({ cls := "ModuleKemModel", name := "give", desc := "([BII)V" } : Jvm.MethodName)) ∈ kwA := kw_in 846 rfl rfl
set_option maxRecDepth 100000 in
theorem km_848 : (Jvm.Cond.instanceMethod ({ cls := "ModuleKemModel", name := "give", desc := "([BII)V" } : Jvm.MethodName)) ∈ kwA := kw_in 848 rfl rfl
set_option maxRecDepth 100000 in
theorem km_849 : (Jvm.Cond.code ({ cls := "ModuleKemModel", name := "give", desc := "([BII)V" } : Jvm.MethodName) prog_8_method_37_code (5 : Nat) (Option.none : Option Jvm.ClassFile.FieldType)) ∈ kwA := kw_in 849 rfl rfl
set_option maxRecDepth 100000 in
theorem km_850 : (Jvm.Cond.methodLink "ModuleKemModel" (198 : Nat) ({ cls := "ModuleKemModel", name := "squeeze", desc := "()I" } : Jvm.MethodName)) ∈ kwA := kw_in 850 rfl rfl
set_option maxRecDepth 100000 in
theorem km_852 : (Jvm.Cond.instanceMethod ({ cls := "ModuleKemModel", name := "squeeze", desc := "()I" } : Jvm.MethodName)) ∈ kwA := kw_in 852 rfl rfl
set_option maxRecDepth 100000 in
theorem km_853 : (Jvm.Cond.code ({ cls := "ModuleKemModel", name := "squeeze", desc := "()I" } : Jvm.MethodName) prog_8_method_36_code (2 : Nat) (Option.some Jvm.ClassFile.FieldType.int)) ∈ kwA := kw_in 853 rfl rfl
set_option maxRecDepth 100000 in
theorem km_854 : (Jvm.Cond.methodLink "ModuleKemModel" (241 : Nat) ({ cls := "ModuleKemModel", name := "binomial", desc := "([II[BII)V" } : Jvm.MethodName)) ∈ kwA := kw_in 854 rfl rfl
set_option maxRecDepth 100000 in
theorem km_856 : (Jvm.Cond.instanceMethod ({ cls := "ModuleKemModel", name := "binomial", desc := "([II[BII)V" } : Jvm.MethodName)) ∈ kwA := kw_in 856 rfl rfl
set_option maxRecDepth 100000 in
theorem km_857 : (Jvm.Cond.code ({ cls := "ModuleKemModel", name := "binomial", desc := "([II[BII)V" } : Jvm.MethodName) prog_8_method_48_code (9 : Nat) (Option.none : Option Jvm.ClassFile.FieldType)) ∈ kwA := kw_in 857 rfl rfl
set_option maxRecDepth 100000 in
theorem km_858 : (Jvm.Cond.methodLink "ModuleKemModel" (205 : Nat) ({ cls := "ModuleKemModel", name := "bitOf", desc := "([BII)I" } : Jvm.MethodName)) ∈ kwA := kw_in 858 rfl rfl
set_option maxRecDepth 100000 in
theorem km_859 : (Jvm.Cond.static ({ cls := "ModuleKemModel", name := "bitOf", desc := "([BII)I" } : Jvm.MethodName)) ∈ kwA := kw_in 859 rfl rfl
set_option maxRecDepth 100000 in
theorem km_860 : (Jvm.Cond.code ({ cls := "ModuleKemModel", name := "bitOf", desc := "([BII)I" } : Jvm.MethodName) prog_8_method_40_code (3 : Nat) (Option.some Jvm.ClassFile.FieldType.int)) ∈ kwA := kw_in 860 rfl rfl
set_option maxRecDepth 100000 in
theorem km_861 : (Jvm.Cond.methodLink "ModuleKemModel" (245 : Nat) ({ cls := "ModuleKemModel", name := "ntt", desc := "([I)V" } : Jvm.MethodName)) ∈ kwA := kw_in 861 rfl rfl
set_option maxRecDepth 100000 in
theorem km_863 : (Jvm.Cond.instanceMethod ({ cls := "ModuleKemModel", name := "ntt", desc := "([I)V" } : Jvm.MethodName)) ∈ kwA := kw_in 863 rfl rfl
set_option maxRecDepth 100000 in
theorem km_864 : (Jvm.Cond.code ({ cls := "ModuleKemModel", name := "ntt", desc := "([I)V" } : Jvm.MethodName) prog_8_method_44_code (11 : Nat) (Option.none : Option Jvm.ClassFile.FieldType)) ∈ kwA := kw_in 864 rfl rfl
set_option maxRecDepth 100000 in
theorem km_865 : (Jvm.Cond.methodLink "ModuleKemModel" (221 : Nat) ({ cls := "ModuleKemModel", name := "turned", desc := "(II)I" } : Jvm.MethodName)) ∈ kwA := kw_in 865 rfl rfl
set_option maxRecDepth 100000 in
theorem km_866 : (Jvm.Cond.static ({ cls := "ModuleKemModel", name := "turned", desc := "(II)I" } : Jvm.MethodName)) ∈ kwA := kw_in 866 rfl rfl
set_option maxRecDepth 100000 in
theorem km_867 : (Jvm.Cond.code ({ cls := "ModuleKemModel", name := "turned", desc := "(II)I" } : Jvm.MethodName) prog_8_method_39_code (4 : Nat) (Option.some Jvm.ClassFile.FieldType.int)) ∈ kwA := kw_in 867 rfl rfl
set_option maxRecDepth 100000 in
theorem km_868 : (Jvm.Cond.constantLong "ModuleKemModel" (224 : Nat) (3329 : Int64)) ∈ kwA := kw_in 868 rfl rfl
set_option maxRecDepth 100000 in
theorem km_869 : (Jvm.Cond.methodLink "ModuleKemModel" (249 : Nat) ({ cls := "ModuleKemModel", name := "sample", desc := "([I[BIII)Z" } : Jvm.MethodName)) ∈ kwA := kw_in 869 rfl rfl
set_option maxRecDepth 100000 in
theorem km_871 : (Jvm.Cond.instanceMethod ({ cls := "ModuleKemModel", name := "sample", desc := "([I[BIII)Z" } : Jvm.MethodName)) ∈ kwA := kw_in 871 rfl rfl
set_option maxRecDepth 100000 in
theorem km_872 : (Jvm.Cond.code ({ cls := "ModuleKemModel", name := "sample", desc := "([I[BIII)Z" } : Jvm.MethodName) prog_8_method_47_code (11 : Nat) (Option.some Jvm.ClassFile.FieldType.boolean)) ∈ kwA := kw_in 872 rfl rfl
set_option maxRecDepth 100000 in
theorem km_873 : (Jvm.Cond.methodLink "ModuleKemModel" (253 : Nat) ({ cls := "ModuleKemModel", name := "addProduct", desc := "([I[I[I)V" } : Jvm.MethodName)) ∈ kwA := kw_in 873 rfl rfl
set_option maxRecDepth 100000 in
theorem km_875 : (Jvm.Cond.instanceMethod ({ cls := "ModuleKemModel", name := "addProduct", desc := "([I[I[I)V" } : Jvm.MethodName)) ∈ kwA := kw_in 875 rfl rfl
set_option maxRecDepth 100000 in
theorem km_876 : (Jvm.Cond.code ({ cls := "ModuleKemModel", name := "addProduct", desc := "([I[I[I)V" } : Jvm.MethodName) prog_8_method_46_code (15 : Nat) (Option.none : Option Jvm.ClassFile.FieldType)) ∈ kwA := kw_in 876 rfl rfl
set_option maxRecDepth 100000 in
theorem km_877 : (Jvm.Cond.methodLink "ModuleKemModel" (257 : Nat) ({ cls := "ModuleKemModel", name := "putBits", desc := "([BIII)V" } : Jvm.MethodName)) ∈ kwA := kw_in 877 rfl rfl
set_option maxRecDepth 100000 in
theorem km_879 : (Jvm.Cond.instanceMethod ({ cls := "ModuleKemModel", name := "putBits", desc := "([BIII)V" } : Jvm.MethodName)) ∈ kwA := kw_in 879 rfl rfl
set_option maxRecDepth 100000 in
theorem km_880 : (Jvm.Cond.code ({ cls := "ModuleKemModel", name := "putBits", desc := "([BIII)V" } : Jvm.MethodName) prog_8_method_41_code (7 : Nat) (Option.none : Option Jvm.ClassFile.FieldType)) ∈ kwA := kw_in 880 rfl rfl
set_option maxRecDepth 100000 in
theorem km_881 : (Jvm.Cond.methodLink "ModuleKemModel" (261 : Nat) ({ cls := "ModuleKemModel", name := "move", desc := "([BI[BII)V" } : Jvm.MethodName)) ∈ kwA := kw_in 881 rfl rfl
set_option maxRecDepth 100000 in
theorem km_882 : (Jvm.Cond.static ({ cls := "ModuleKemModel", name := "move", desc := "([BI[BII)V" } : Jvm.MethodName)) ∈ kwA := kw_in 882 rfl rfl
set_option maxRecDepth 100000 in
theorem km_883 : (Jvm.Cond.code ({ cls := "ModuleKemModel", name := "move", desc := "([BI[BII)V" } : Jvm.MethodName) prog_8_method_14_code (6 : Nat) (Option.none : Option Jvm.ClassFile.FieldType)) ∈ kwA := kw_in 883 rfl rfl
set_option maxRecDepth 100000 in
theorem km_888 : (Jvm.Cond.methodLink "ModuleKemModel" (274 : Nat) ({ cls := "ModuleKemModel", name := "takeBits", desc := "([BII)I" } : Jvm.MethodName)) ∈ kwA := kw_in 888 rfl rfl
set_option maxRecDepth 100000 in
theorem km_890 : (Jvm.Cond.instanceMethod ({ cls := "ModuleKemModel", name := "takeBits", desc := "([BII)I" } : Jvm.MethodName)) ∈ kwA := kw_in 890 rfl rfl
set_option maxRecDepth 100000 in
theorem km_891 : (Jvm.Cond.code ({ cls := "ModuleKemModel", name := "takeBits", desc := "([BII)I" } : Jvm.MethodName) prog_8_method_42_code (6 : Nat) (Option.some Jvm.ClassFile.FieldType.int)) ∈ kwA := kw_in 891 rfl rfl
set_option maxRecDepth 100000 in
theorem km_892 : (Jvm.Cond.methodLink "ModuleKemModel" (280 : Nat) ({ cls := "ModuleKemModel", name := "encrypt", desc := "([BI[B[BI)Z" } : Jvm.MethodName)) ∈ kwA := kw_in 892 rfl rfl
set_option maxRecDepth 100000 in
theorem km_894 : (Jvm.Cond.instanceMethod ({ cls := "ModuleKemModel", name := "encrypt", desc := "([BI[B[BI)Z" } : Jvm.MethodName)) ∈ kwA := kw_in 894 rfl rfl
set_option maxRecDepth 100000 in
theorem km_895 : (Jvm.Cond.code ({ cls := "ModuleKemModel", name := "encrypt", desc := "([BI[B[BI)Z" } : Jvm.MethodName) prog_8_method_52_code (9 : Nat) (Option.some Jvm.ClassFile.FieldType.boolean)) ∈ kwA := kw_in 895 rfl rfl
set_option maxRecDepth 100000 in
theorem km_896 : (Jvm.Cond.methodLink "ModuleKemModel" (265 : Nat) ({ cls := "ModuleKemModel", name := "clear", desc := "([I)V" } : Jvm.MethodName)) ∈ kwA := kw_in 896 rfl rfl
set_option maxRecDepth 100000 in
theorem km_897 : (Jvm.Cond.static ({ cls := "ModuleKemModel", name := "clear", desc := "([I)V" } : Jvm.MethodName)) ∈ kwA := kw_in 897 rfl rfl
set_option maxRecDepth 100000 in
theorem km_898 : (Jvm.Cond.code ({ cls := "ModuleKemModel", name := "clear", desc := "([I)V" } : Jvm.MethodName) prog_8_method_38_code (2 : Nat) (Option.none : Option Jvm.ClassFile.FieldType)) ∈ kwA := kw_in 898 rfl rfl
set_option maxRecDepth 100000 in
theorem km_899 : (Jvm.Cond.methodLink "ModuleKemModel" (268 : Nat) ({ cls := "ModuleKemModel", name := "unntt", desc := "([I)V" } : Jvm.MethodName)) ∈ kwA := kw_in 899 rfl rfl
set_option maxRecDepth 100000 in
theorem km_901 : (Jvm.Cond.instanceMethod ({ cls := "ModuleKemModel", name := "unntt", desc := "([I)V" } : Jvm.MethodName)) ∈ kwA := kw_in 901 rfl rfl
set_option maxRecDepth 100000 in
theorem km_902 : (Jvm.Cond.code ({ cls := "ModuleKemModel", name := "unntt", desc := "([I)V" } : Jvm.MethodName) prog_8_method_45_code (10 : Nat) (Option.none : Option Jvm.ClassFile.FieldType)) ∈ kwA := kw_in 902 rfl rfl
set_option maxRecDepth 100000 in
theorem km_903 : (Jvm.Cond.constantLong "ModuleKemModel" (226 : Nat) (3303 : Int64)) ∈ kwA := kw_in 903 rfl rfl
set_option maxRecDepth 100000 in
theorem km_904 : (Jvm.Cond.methodLink "ModuleKemModel" (271 : Nat) ({ cls := "ModuleKemModel", name := "compress", desc := "(II)I" } : Jvm.MethodName)) ∈ kwA := kw_in 904 rfl rfl
set_option maxRecDepth 100000 in
theorem km_905 : (Jvm.Cond.static ({ cls := "ModuleKemModel", name := "compress", desc := "(II)I" } : Jvm.MethodName)) ∈ kwA := kw_in 905 rfl rfl
set_option maxRecDepth 100000 in
theorem km_906 : (Jvm.Cond.code ({ cls := "ModuleKemModel", name := "compress", desc := "(II)I" } : Jvm.MethodName) prog_8_method_49_code (2 : Nat) (Option.some Jvm.ClassFile.FieldType.int)) ∈ kwA := kw_in 906 rfl rfl
set_option maxRecDepth 100000 in
theorem km_907 : (Jvm.Cond.constantLong "ModuleKemModel" (234 : Nat) (2 : Int64)) ∈ kwA := kw_in 907 rfl rfl
set_option maxRecDepth 100000 in
theorem km_908 : (Jvm.Cond.constantLong "ModuleKemModel" (236 : Nat) (6658 : Int64)) ∈ kwA := kw_in 908 rfl rfl
set_option maxRecDepth 100000 in
theorem km_909 : (Jvm.Cond.methodLink "ModuleKemModel" (277 : Nat) ({ cls := "ModuleKemModel", name := "expand", desc := "(II)I" } : Jvm.MethodName)) ∈ kwA := kw_in 909 rfl rfl
set_option maxRecDepth 100000 in
theorem km_910 : (Jvm.Cond.static ({ cls := "ModuleKemModel", name := "expand", desc := "(II)I" } : Jvm.MethodName)) ∈ kwA := kw_in 910 rfl rfl
set_option maxRecDepth 100000 in
theorem km_911 : (Jvm.Cond.code ({ cls := "ModuleKemModel", name := "expand", desc := "(II)I" } : Jvm.MethodName) prog_8_method_50_code (2 : Nat) (Option.some Jvm.ClassFile.FieldType.int)) ∈ kwA := kw_in 911 rfl rfl
set_option maxRecDepth 100000 in
theorem km_916 : (Jvm.Cond.methodLink "ModuleKemModel" (284 : Nat) ({ cls := "ModuleKemModel", name := "alike", desc := "([BI[BII)Z" } : Jvm.MethodName)) ∈ kwA := kw_in 916 rfl rfl
set_option maxRecDepth 100000 in
theorem km_917 : (Jvm.Cond.static ({ cls := "ModuleKemModel", name := "alike", desc := "([BI[BII)Z" } : Jvm.MethodName)) ∈ kwA := kw_in 917 rfl rfl
set_option maxRecDepth 100000 in
theorem km_918 : (Jvm.Cond.code ({ cls := "ModuleKemModel", name := "alike", desc := "([BI[BII)Z" } : Jvm.MethodName) prog_8_method_15_code (7 : Nat) (Option.some Jvm.ClassFile.FieldType.boolean)) ∈ kwA := kw_in 918 rfl rfl
theorem kw_ps {w : Cond} (h : w ∈ k2_sels lw_privs) (g : goodWord w = true) : w ∈ kwA := List.mem_filter.mpr ⟨List.mem_append_left _ h, g⟩
theorem kp_0 : (Cond.selects "ModuleKemModel" ⟨"ModuleKemModel", "good", "(ZI)Z"⟩ ⟨"ModuleKemModel", "good", "(ZI)Z"⟩) ∈ kwA := kw_ps (by decide +kernel) (by decide +kernel)
theorem kp_1 : (Cond.selects "ModuleKemModel" ⟨"ModuleKemModel", "above", "(IJII)Z"⟩ ⟨"ModuleKemModel", "above", "(IJII)Z"⟩) ∈ kwA := kw_ps (by decide +kernel) (by decide +kernel)
theorem kp_2 : (Cond.selects "ModuleKemModel" ⟨"ModuleKemModel", "root", "(II)J"⟩ ⟨"ModuleKemModel", "root", "(II)J"⟩) ∈ kwA := kw_ps (by decide +kernel) (by decide +kernel)
theorem kp_3 : (Cond.selects "ModuleKemModel" ⟨"ModuleKemModel", "sponge", "()Z"⟩ ⟨"ModuleKemModel", "sponge", "()Z"⟩) ∈ kwA := kw_ps (by decide +kernel) (by decide +kernel)
theorem kp_4 : (Cond.selects "ModuleKemModel" ⟨"ModuleKemModel", "begin", "(I)V"⟩ ⟨"ModuleKemModel", "begin", "(I)V"⟩) ∈ kwA := kw_ps (by decide +kernel) (by decide +kernel)
theorem kp_5 : (Cond.selects "ModuleKemModel" ⟨"ModuleKemModel", "kem", "(I)V"⟩ ⟨"ModuleKemModel", "kem", "(I)V"⟩) ∈ kwA := kw_ps (by decide +kernel) (by decide +kernel)
theorem kp_6 : (Cond.selects "ModuleKemModel" ⟨"ModuleKemModel", "takeBits", "([BII)I"⟩ ⟨"ModuleKemModel", "takeBits", "([BII)I"⟩) ∈ kwA := kw_ps (by decide +kernel) (by decide +kernel)
theorem kp_7 : (Cond.selects "ModuleKemModel" ⟨"ModuleKemModel", "ntt", "([I)V"⟩ ⟨"ModuleKemModel", "ntt", "([I)V"⟩) ∈ kwA := kw_ps (by decide +kernel) (by decide +kernel)
theorem kp_8 : (Cond.selects "ModuleKemModel" ⟨"ModuleKemModel", "addProduct", "([I[I[I)V"⟩ ⟨"ModuleKemModel", "addProduct", "([I[I[I)V"⟩) ∈ kwA := kw_ps (by decide +kernel) (by decide +kernel)
theorem kp_9 : (Cond.selects "ModuleKemModel" ⟨"ModuleKemModel", "unntt", "([I)V"⟩ ⟨"ModuleKemModel", "unntt", "([I)V"⟩) ∈ kwA := kw_ps (by decide +kernel) (by decide +kernel)
theorem kp_10 : (Cond.selects "ModuleKemModel" ⟨"ModuleKemModel", "putBits", "([BIII)V"⟩ ⟨"ModuleKemModel", "putBits", "([BIII)V"⟩) ∈ kwA := kw_ps (by decide +kernel) (by decide +kernel)
theorem kp_11 : (Cond.selects "ModuleKem" ⟨"ModuleKem", "putOnTape", "(I)V"⟩ ⟨"ModuleKem", "putOnTape", "(I)V"⟩) ∈ kwA := kw_ps (by decide +kernel) (by decide +kernel)
theorem kp_12 : (Cond.selects "ModuleKem" ⟨"ModuleKem", "checkPlace", "(II)V"⟩ ⟨"ModuleKem", "checkPlace", "(II)V"⟩) ∈ kwA := kw_ps (by decide +kernel) (by decide +kernel)
theorem kp_13 : (Cond.selects "ModuleKem" ⟨"ModuleKem", "shapeOf", "(I)LModuleKem$Shape;"⟩ ⟨"ModuleKem", "shapeOf", "(I)LModuleKem$Shape;"⟩) ∈ kwA := kw_ps (by decide +kernel) (by decide +kernel)
theorem kp_14 : (Cond.selects "ModuleKem" ⟨"ModuleKem", "checkRandom", "(I)V"⟩ ⟨"ModuleKem", "checkRandom", "(I)V"⟩) ∈ kwA := kw_ps (by decide +kernel) (by decide +kernel)
theorem kp_15 : (Cond.selects "ModuleKemModel" ⟨"ModuleKemModel", "word", "(I)V"⟩ ⟨"ModuleKemModel", "word", "(I)V"⟩) ∈ kwA := kw_ps (by decide +kernel) (by decide +kernel)
theorem kp_16 : (Cond.selects "ModuleKemModel" ⟨"ModuleKemModel", "compress64", "()V"⟩ ⟨"ModuleKemModel", "compress64", "()V"⟩) ∈ kwA := kw_ps (by decide +kernel) (by decide +kernel)
theorem kp_17 : (Cond.selects "ModuleKemModel" ⟨"ModuleKemModel", "compress32", "()V"⟩ ⟨"ModuleKemModel", "compress32", "()V"⟩) ∈ kwA := kw_ps (by decide +kernel) (by decide +kernel)
theorem kp_18 : (Cond.selects "ModuleKemModel" ⟨"ModuleKemModel", "permute", "()V"⟩ ⟨"ModuleKemModel", "permute", "()V"⟩) ∈ kwA := kw_ps (by decide +kernel) (by decide +kernel)
theorem kp_19 : (Cond.selects "ModuleKem$Sponge" ⟨"ModuleKem$Sponge", "mixIn", "(II)V"⟩ ⟨"ModuleKem$Sponge", "mixIn", "(II)V"⟩) ∈ kwA := kw_ps (by decide +kernel) (by decide +kernel)
theorem kp_20 : (Cond.selects "ModuleKem$Sponge" ⟨"ModuleKem$Sponge", "permute", "()V"⟩ ⟨"ModuleKem$Sponge", "permute", "()V"⟩) ∈ kwA := kw_ps (by decide +kernel) (by decide +kernel)
theorem kp_21 : (Cond.selects "ModuleKemModel" ⟨"ModuleKemModel", "flip", "(II)V"⟩ ⟨"ModuleKemModel", "flip", "(II)V"⟩) ∈ kwA := kw_ps (by decide +kernel) (by decide +kernel)
theorem kp_22 : (Cond.selects "ModuleKemModel" ⟨"ModuleKemModel", "put", "(I)V"⟩ ⟨"ModuleKemModel", "put", "(I)V"⟩) ∈ kwA := kw_ps (by decide +kernel) (by decide +kernel)
theorem kp_23 : (Cond.selects "ModuleKemModel" ⟨"ModuleKemModel", "finish", "()V"⟩ ⟨"ModuleKemModel", "finish", "()V"⟩) ∈ kwA := kw_ps (by decide +kernel) (by decide +kernel)
theorem kp_24 : (Cond.selects "ModuleKemModel" ⟨"ModuleKemModel", "squeeze", "()I"⟩ ⟨"ModuleKemModel", "squeeze", "()I"⟩) ∈ kwA := kw_ps (by decide +kernel) (by decide +kernel)
theorem kp_25 : (Cond.selects "ModuleKemModel" ⟨"ModuleKemModel", "put", "([BII)V"⟩ ⟨"ModuleKemModel", "put", "([BII)V"⟩) ∈ kwA := kw_ps (by decide +kernel) (by decide +kernel)
theorem kp_26 : (Cond.selects "ModuleKemModel" ⟨"ModuleKemModel", "give", "([BII)V"⟩ ⟨"ModuleKemModel", "give", "([BII)V"⟩) ∈ kwA := kw_ps (by decide +kernel) (by decide +kernel)
theorem kp_27 : (Cond.selects "ModuleKemModel" ⟨"ModuleKemModel", "binomial", "([II[BII)V"⟩ ⟨"ModuleKemModel", "binomial", "([II[BII)V"⟩) ∈ kwA := kw_ps (by decide +kernel) (by decide +kernel)
theorem kp_28 : (Cond.selects "ModuleKemModel" ⟨"ModuleKemModel", "sample", "([I[BIII)Z"⟩ ⟨"ModuleKemModel", "sample", "([I[BIII)Z"⟩) ∈ kwA := kw_ps (by decide +kernel) (by decide +kernel)
theorem kp_29 : (Cond.selects "ModuleKemModel" ⟨"ModuleKemModel", "encrypt", "([BI[B[BI)Z"⟩ ⟨"ModuleKemModel", "encrypt", "([BI[B[BI)Z"⟩) ∈ kwA := kw_ps (by decide +kernel) (by decide +kernel)
theorem kp_30 : (Cond.selects "ModuleKem$Kem" ⟨"ModuleKem$Kem", "fillHash", "([BII)V"⟩ ⟨"ModuleKem$Kem", "fillHash", "([BII)V"⟩) ∈ kwA := kw_ps (by decide +kernel) (by decide +kernel)
theorem kp_31 : (Cond.selects "ModuleKem$Kem" ⟨"ModuleKem$Kem", "deriveSeeds", "([B[BI)V"⟩ ⟨"ModuleKem$Kem", "deriveSeeds", "([B[BI)V"⟩) ∈ kwA := kw_ps (by decide +kernel) (by decide +kernel)
theorem kp_32 : (Cond.selects "ModuleKem$Kem" ⟨"ModuleKem$Kem", "recoverMessage", "(LModuleKem$Shape;[B[B)V"⟩ ⟨"ModuleKem$Kem", "recoverMessage", "(LModuleKem$Shape;[B[B)V"⟩) ∈ kwA := kw_ps (by decide +kernel) (by decide +kernel)
theorem kp_33 : (Cond.selects "ModuleKem$Kem" ⟨"ModuleKem$Kem", "fillWithNoise", "([III)V"⟩ ⟨"ModuleKem$Kem", "fillWithNoise", "([III)V"⟩) ∈ kwA := kw_ps (by decide +kernel) (by decide +kernel)
theorem kp_34 : (Cond.selects "ModuleKem$Kem" ⟨"ModuleKem$Kem", "sample", "([I)V"⟩ ⟨"ModuleKem$Kem", "sample", "([I)V"⟩) ∈ kwA := kw_ps (by decide +kernel) (by decide +kernel)
theorem kp_35 : (Cond.selects "ModuleKemModel" ⟨"ModuleKemModel", "named", "([JII)V"⟩ ⟨"ModuleKemModel", "named", "([JII)V"⟩) ∈ kwA := kw_ps (by decide +kernel) (by decide +kernel)
theorem kp_36 : (Cond.selects "ModuleKem$Kem" ⟨"ModuleKem$Kem", "sampleMatrix", "(I[BI)V"⟩ ⟨"ModuleKem$Kem", "sampleMatrix", "(I[BI)V"⟩) ∈ kwA := kw_ps (by decide +kernel) (by decide +kernel)
theorem kp_37 : (Cond.selects "ModuleKem$Kem" ⟨"ModuleKem$Kem", "fillVector", "(LModuleKem$Shape;)V"⟩ ⟨"ModuleKem$Kem", "fillVector", "(LModuleKem$Shape;)V"⟩) ∈ kwA := kw_ps (by decide +kernel) (by decide +kernel)
theorem kp_38 : (Cond.selects "ModuleKem$Kem" ⟨"ModuleKem$Kem", "encryptVectorPart", "(LModuleKem$Shape;I)V"⟩ ⟨"ModuleKem$Kem", "encryptVectorPart", "(LModuleKem$Shape;I)V"⟩) ∈ kwA := kw_ps (by decide +kernel) (by decide +kernel)
theorem kp_39 : (Cond.selects "ModuleKem$Kem" ⟨"ModuleKem$Kem", "encryptScalar", "(LModuleKem$Shape;[BI[B)V"⟩ ⟨"ModuleKem$Kem", "encryptScalar", "(LModuleKem$Shape;[BI[B)V"⟩) ∈ kwA := kw_ps (by decide +kernel) (by decide +kernel)
theorem kp_40 : (Cond.selects "ModuleKem$Kem" ⟨"ModuleKem$Kem", "encrypt", "(LModuleKem$Shape;[BI[B)V"⟩ ⟨"ModuleKem$Kem", "encrypt", "(LModuleKem$Shape;[BI[B)V"⟩) ∈ kwA := kw_ps (by decide +kernel) (by decide +kernel)
