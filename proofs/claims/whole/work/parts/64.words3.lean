set_option maxRecDepth 100000 in
theorem km_0 : (Jvm.Cond.initialized "ModuleKemLaw") ∈ kwA := kw_in 0 rfl rfl
set_option maxRecDepth 100000 in
theorem km_178 : (Jvm.Cond.methodLink "ModuleKemLaw" (62 : Nat) ({ cls := "ModuleKemLaw", name := "feed", desc := "(LModuleKem;IIIII[J)I" } : Jvm.MethodName)) ∈ kwA := kw_in 178 rfl rfl
set_option maxRecDepth 100000 in
theorem km_179 : (Jvm.Cond.static ({ cls := "ModuleKemLaw", name := "feed", desc := "(LModuleKem;IIIII[J)I" } : Jvm.MethodName)) ∈ kwA := kw_in 179 rfl rfl
set_option maxRecDepth 100000 in
theorem km_180 : (Jvm.Cond.codeWith ({ cls := "ModuleKemLaw", name := "feed", desc := "(LModuleKem;IIIII[J)I" } : Jvm.MethodName) method_3_code (8 : Nat) (Option.some Jvm.ClassFile.FieldType.int) [((0 : Nat), (16 : Nat), (19 : Nat), (13 : Nat))]) ∈ kwA := kw_in 180 rfl rfl
set_option maxRecDepth 100000 in
theorem km_181 : (Jvm.Cond.classLink "ModuleKemLaw" (13 : Nat) "java/lang/IndexOutOfBoundsException") ∈ kwA := kw_in 181 rfl rfl
set_option maxRecDepth 100000 in
theorem km_182 : (Jvm.Cond.methodLink "ModuleKemLaw" (7 : Nat) ({ cls := "ModuleKem", name := "feed", desc := "(IIIII)I" } : Jvm.MethodName)) ∈ kwA := kw_in 182 rfl rfl
set_option maxRecDepth 100000 in
theorem km_183 : (Jvm.Cond.instanceMethod ({ cls := "ModuleKem", name := "feed", desc := "(IIIII)I" } : Jvm.MethodName)) ∈ kwA := kw_in 183 rfl rfl
set_option maxRecDepth 100000 in
theorem km_184 : (Jvm.Cond.selects "ModuleKem" ({ cls := "ModuleKem", name := "feed", desc := "(IIIII)I" } : Jvm.MethodName) ({ cls := "ModuleKem", name := "feed", desc := "(IIIII)I" } : Jvm.MethodName)) ∈ kwA := kw_in 184 rfl rfl
set_option maxRecDepth 100000 in
theorem km_185 : (Jvm.Cond.code ({ cls := "ModuleKem", name := "feed", desc := "(IIIII)I" } : Jvm.MethodName) prog_1_method_2_code (6 : Nat) (Option.some Jvm.ClassFile.FieldType.int)) ∈ kwA := kw_in 185 rfl rfl
set_option maxRecDepth 100000 in
theorem km_259 : (Jvm.Cond.methodLink "ModuleKemLaw" (72 : Nat) ({ cls := "ModuleKemLaw", name := "end", desc := "(LModuleKem;II[J)I" } : Jvm.MethodName)) ∈ kwA := kw_in 259 rfl rfl
set_option maxRecDepth 100000 in
theorem km_260 : (Jvm.Cond.static ({ cls := "ModuleKemLaw", name := "end", desc := "(LModuleKem;II[J)I" } : Jvm.MethodName)) ∈ kwA := kw_in 260 rfl rfl
set_option maxRecDepth 100000 in
theorem km_261 : (Jvm.Cond.codeWith ({ cls := "ModuleKemLaw", name := "end", desc := "(LModuleKem;II[J)I" } : Jvm.MethodName) method_4_code (5 : Nat) (Option.some Jvm.ClassFile.FieldType.int) [((0 : Nat), (10 : Nat), (13 : Nat), (19 : Nat)), ((0 : Nat), (10 : Nat), (17 : Nat), (13 : Nat))]) ∈ kwA := kw_in 261 rfl rfl
set_option maxRecDepth 100000 in
theorem km_262 : (Jvm.Cond.classLink "ModuleKemLaw" (19 : Nat) "java/lang/IllegalArgumentException") ∈ kwA := kw_in 262 rfl rfl
set_option maxRecDepth 100000 in
theorem km_263 : (Jvm.Cond.methodLink "ModuleKemLaw" (15 : Nat) ({ cls := "ModuleKem", name := "end", desc := "(II)I" } : Jvm.MethodName)) ∈ kwA := kw_in 263 rfl rfl
set_option maxRecDepth 100000 in
theorem km_264 : (Jvm.Cond.instanceMethod ({ cls := "ModuleKem", name := "end", desc := "(II)I" } : Jvm.MethodName)) ∈ kwA := kw_in 264 rfl rfl
set_option maxRecDepth 100000 in
theorem km_265 : (Jvm.Cond.selects "ModuleKem" ({ cls := "ModuleKem", name := "end", desc := "(II)I" } : Jvm.MethodName) ({ cls := "ModuleKem", name := "end", desc := "(II)I" } : Jvm.MethodName)) ∈ kwA := kw_in 265 rfl rfl
set_option maxRecDepth 100000 in
theorem km_266 : (Jvm.Cond.code ({ cls := "ModuleKem", name := "end", desc := "(II)I" } : Jvm.MethodName) prog_1_method_3_code (3 : Nat) (Option.some Jvm.ClassFile.FieldType.int)) ∈ kwA := kw_in 266 rfl rfl
set_option maxRecDepth 100000 in
theorem km_294 : (Jvm.Cond.methodLink "ModuleKemLaw" (76 : Nat) ({ cls := "ModuleKemLaw", name := "copy", desc := "(LModuleKem;II[J)I" } : Jvm.MethodName)) ∈ kwA := kw_in 294 rfl rfl
set_option maxRecDepth 100000 in
theorem km_295 : (Jvm.Cond.static ({ cls := "ModuleKemLaw", name := "copy", desc := "(LModuleKem;II[J)I" } : Jvm.MethodName)) ∈ kwA := kw_in 295 rfl rfl
set_option maxRecDepth 100000 in
theorem km_296 : (Jvm.Cond.codeWith ({ cls := "ModuleKemLaw", name := "copy", desc := "(LModuleKem;II[J)I" } : Jvm.MethodName) method_5_code (5 : Nat) (Option.some Jvm.ClassFile.FieldType.int) [((0 : Nat), (10 : Nat), (13 : Nat), (19 : Nat))]) ∈ kwA := kw_in 296 rfl rfl
set_option maxRecDepth 100000 in
theorem km_297 : (Jvm.Cond.methodLink "ModuleKemLaw" (21 : Nat) ({ cls := "ModuleKem", name := "copy", desc := "(II)I" } : Jvm.MethodName)) ∈ kwA := kw_in 297 rfl rfl
set_option maxRecDepth 100000 in
theorem km_298 : (Jvm.Cond.instanceMethod ({ cls := "ModuleKem", name := "copy", desc := "(II)I" } : Jvm.MethodName)) ∈ kwA := kw_in 298 rfl rfl
set_option maxRecDepth 100000 in
theorem km_299 : (Jvm.Cond.selects "ModuleKem" ({ cls := "ModuleKem", name := "copy", desc := "(II)I" } : Jvm.MethodName) ({ cls := "ModuleKem", name := "copy", desc := "(II)I" } : Jvm.MethodName)) ∈ kwA := kw_in 299 rfl rfl
set_option maxRecDepth 100000 in
theorem km_300 : (Jvm.Cond.code ({ cls := "ModuleKem", name := "copy", desc := "(II)I" } : Jvm.MethodName) prog_1_method_4_code (3 : Nat) (Option.some Jvm.ClassFile.FieldType.int)) ∈ kwA := kw_in 300 rfl rfl
set_option maxRecDepth 100000 in
theorem km_301 : (Jvm.Cond.methodLink "ModuleKemLaw" (79 : Nat) ({ cls := "ModuleKemLaw", name := "resize", desc := "(LModuleKem;II[J)I" } : Jvm.MethodName)) ∈ kwA := kw_in 301 rfl rfl
set_option maxRecDepth 100000 in
theorem km_302 : (Jvm.Cond.static ({ cls := "ModuleKemLaw", name := "resize", desc := "(LModuleKem;II[J)I" } : Jvm.MethodName)) ∈ kwA := kw_in 302 rfl rfl
set_option maxRecDepth 100000 in
theorem km_303 : (Jvm.Cond.codeWith ({ cls := "ModuleKemLaw", name := "resize", desc := "(LModuleKem;II[J)I" } : Jvm.MethodName) method_6_code (5 : Nat) (Option.some Jvm.ClassFile.FieldType.int) [((0 : Nat), (10 : Nat), (13 : Nat), (19 : Nat))]) ∈ kwA := kw_in 303 rfl rfl
set_option maxRecDepth 100000 in
theorem km_304 : (Jvm.Cond.methodLink "ModuleKemLaw" (24 : Nat) ({ cls := "ModuleKem", name := "resize", desc := "(II)I" } : Jvm.MethodName)) ∈ kwA := kw_in 304 rfl rfl
set_option maxRecDepth 100000 in
theorem km_305 : (Jvm.Cond.instanceMethod ({ cls := "ModuleKem", name := "resize", desc := "(II)I" } : Jvm.MethodName)) ∈ kwA := kw_in 305 rfl rfl
set_option maxRecDepth 100000 in
theorem km_306 : (Jvm.Cond.selects "ModuleKem" ({ cls := "ModuleKem", name := "resize", desc := "(II)I" } : Jvm.MethodName) ({ cls := "ModuleKem", name := "resize", desc := "(II)I" } : Jvm.MethodName)) ∈ kwA := kw_in 306 rfl rfl
set_option maxRecDepth 100000 in
theorem km_307 : (Jvm.Cond.code ({ cls := "ModuleKem", name := "resize", desc := "(II)I" } : Jvm.MethodName) prog_1_method_5_code (5 : Nat) (Option.some Jvm.ClassFile.FieldType.int)) ∈ kwA := kw_in 307 rfl rfl
set_option maxRecDepth 100000 in
theorem km_308 : (Jvm.Cond.methodLink "ModuleKemLaw" (82 : Nat) ({ cls := "ModuleKemLaw", name := "alter", desc := "(LModuleKem;III[J)I" } : Jvm.MethodName)) ∈ kwA := kw_in 308 rfl rfl
set_option maxRecDepth 100000 in
theorem km_309 : (Jvm.Cond.static ({ cls := "ModuleKemLaw", name := "alter", desc := "(LModuleKem;III[J)I" } : Jvm.MethodName)) ∈ kwA := kw_in 309 rfl rfl
set_option maxRecDepth 100000 in
theorem km_310 : (Jvm.Cond.codeWith ({ cls := "ModuleKemLaw", name := "alter", desc := "(LModuleKem;III[J)I" } : Jvm.MethodName) method_7_code (6 : Nat) (Option.some Jvm.ClassFile.FieldType.int) [((0 : Nat), (12 : Nat), (15 : Nat), (19 : Nat)), ((0 : Nat), (12 : Nat), (19 : Nat), (13 : Nat))]) ∈ kwA := kw_in 310 rfl rfl
set_option maxRecDepth 100000 in
theorem km_311 : (Jvm.Cond.methodLink "ModuleKemLaw" (27 : Nat) ({ cls := "ModuleKem", name := "alter", desc := "(III)I" } : Jvm.MethodName)) ∈ kwA := kw_in 311 rfl rfl
set_option maxRecDepth 100000 in
theorem km_312 : (Jvm.Cond.instanceMethod ({ cls := "ModuleKem", name := "alter", desc := "(III)I" } : Jvm.MethodName)) ∈ kwA := kw_in 312 rfl rfl
set_option maxRecDepth 100000 in
theorem km_313 : (Jvm.Cond.selects "ModuleKem" ({ cls := "ModuleKem", name := "alter", desc := "(III)I" } : Jvm.MethodName) ({ cls := "ModuleKem", name := "alter", desc := "(III)I" } : Jvm.MethodName)) ∈ kwA := kw_in 313 rfl rfl
set_option maxRecDepth 100000 in
theorem km_314 : (Jvm.Cond.code ({ cls := "ModuleKem", name := "alter", desc := "(III)I" } : Jvm.MethodName) prog_1_method_6_code (5 : Nat) (Option.some Jvm.ClassFile.FieldType.int)) ∈ kwA := kw_in 314 rfl rfl
set_option maxRecDepth 100000 in
theorem km_321 : (Jvm.Cond.methodLink "ModuleKemLaw" (86 : Nat) ({ cls := "ModuleKemLaw", name := "length", desc := "(LModuleKem;I[J)I" } : Jvm.MethodName)) ∈ kwA := kw_in 321 rfl rfl
set_option maxRecDepth 100000 in
theorem km_322 : (Jvm.Cond.static ({ cls := "ModuleKemLaw", name := "length", desc := "(LModuleKem;I[J)I" } : Jvm.MethodName)) ∈ kwA := kw_in 322 rfl rfl
set_option maxRecDepth 100000 in
theorem km_323 : (Jvm.Cond.codeWith ({ cls := "ModuleKemLaw", name := "length", desc := "(LModuleKem;I[J)I" } : Jvm.MethodName) method_8_code (4 : Nat) (Option.some Jvm.ClassFile.FieldType.int) [((0 : Nat), (9 : Nat), (12 : Nat), (19 : Nat))]) ∈ kwA := kw_in 323 rfl rfl
set_option maxRecDepth 100000 in
theorem km_324 : (Jvm.Cond.methodLink "ModuleKemLaw" (31 : Nat) ({ cls := "ModuleKem", name := "length", desc := "(I)I" } : Jvm.MethodName)) ∈ kwA := kw_in 324 rfl rfl
set_option maxRecDepth 100000 in
theorem km_325 : (Jvm.Cond.instanceMethod ({ cls := "ModuleKem", name := "length", desc := "(I)I" } : Jvm.MethodName)) ∈ kwA := kw_in 325 rfl rfl
set_option maxRecDepth 100000 in
theorem km_326 : (Jvm.Cond.selects "ModuleKem" ({ cls := "ModuleKem", name := "length", desc := "(I)I" } : Jvm.MethodName) ({ cls := "ModuleKem", name := "length", desc := "(I)I" } : Jvm.MethodName)) ∈ kwA := kw_in 326 rfl rfl
set_option maxRecDepth 100000 in
theorem km_327 : (Jvm.Cond.code ({ cls := "ModuleKem", name := "length", desc := "(I)I" } : Jvm.MethodName) prog_1_method_7_code (2 : Nat) (Option.some Jvm.ClassFile.FieldType.int)) ∈ kwA := kw_in 327 rfl rfl
set_option maxRecDepth 100000 in
theorem km_328 : (Jvm.Cond.methodLink "ModuleKemLaw" (90 : Nat) ({ cls := "ModuleKemLaw", name := "word", desc := "(LModuleKem;II[J)I" } : Jvm.MethodName)) ∈ kwA := kw_in 328 rfl rfl
set_option maxRecDepth 100000 in
theorem km_329 : (Jvm.Cond.static ({ cls := "ModuleKemLaw", name := "word", desc := "(LModuleKem;II[J)I" } : Jvm.MethodName)) ∈ kwA := kw_in 329 rfl rfl
set_option maxRecDepth 100000 in
theorem km_330 : (Jvm.Cond.codeWith ({ cls := "ModuleKemLaw", name := "word", desc := "(LModuleKem;II[J)I" } : Jvm.MethodName) method_9_code (5 : Nat) (Option.some Jvm.ClassFile.FieldType.int) [((0 : Nat), (9 : Nat), (12 : Nat), (19 : Nat)), ((0 : Nat), (9 : Nat), (16 : Nat), (13 : Nat))]) ∈ kwA := kw_in 330 rfl rfl
set_option maxRecDepth 100000 in
theorem km_331 : (Jvm.Cond.methodLink "ModuleKemLaw" (35 : Nat) ({ cls := "ModuleKem", name := "word", desc := "(II)J" } : Jvm.MethodName)) ∈ kwA := kw_in 331 rfl rfl
set_option maxRecDepth 100000 in
theorem km_332 : (Jvm.Cond.instanceMethod ({ cls := "ModuleKem", name := "word", desc := "(II)J" } : Jvm.MethodName)) ∈ kwA := kw_in 332 rfl rfl
set_option maxRecDepth 100000 in
theorem km_333 : (Jvm.Cond.selects "ModuleKem" ({ cls := "ModuleKem", name := "word", desc := "(II)J" } : Jvm.MethodName) ({ cls := "ModuleKem", name := "word", desc := "(II)J" } : Jvm.MethodName)) ∈ kwA := kw_in 333 rfl rfl
set_option maxRecDepth 100000 in
theorem km_334 : (Jvm.Cond.code ({ cls := "ModuleKem", name := "word", desc := "(II)J" } : Jvm.MethodName) prog_1_method_8_code (7 : Nat) (Option.some Jvm.ClassFile.FieldType.long)) ∈ kwA := kw_in 334 rfl rfl
set_option maxRecDepth 100000 in
theorem km_335 : (Jvm.Cond.methodLink "ModuleKemLaw" (93 : Nat) ({ cls := "ModuleKemLaw", name := "same", desc := "(LModuleKem;II[J)I" } : Jvm.MethodName)) ∈ kwA := kw_in 335 rfl rfl
set_option maxRecDepth 100000 in
theorem km_336 : (Jvm.Cond.static ({ cls := "ModuleKemLaw", name := "same", desc := "(LModuleKem;II[J)I" } : Jvm.MethodName)) ∈ kwA := kw_in 336 rfl rfl
set_option maxRecDepth 100000 in
theorem km_337 : (Jvm.Cond.codeWith ({ cls := "ModuleKemLaw", name := "same", desc := "(LModuleKem;II[J)I" } : Jvm.MethodName) method_10_code (5 : Nat) (Option.some Jvm.ClassFile.FieldType.int) [((0 : Nat), (17 : Nat), (20 : Nat), (19 : Nat))]) ∈ kwA := kw_in 337 rfl rfl
set_option maxRecDepth 100000 in
theorem km_338 : (Jvm.Cond.methodLink "ModuleKemLaw" (39 : Nat) ({ cls := "ModuleKem", name := "same", desc := "(II)Z" } : Jvm.MethodName)) ∈ kwA := kw_in 338 rfl rfl
set_option maxRecDepth 100000 in
theorem km_339 : (Jvm.Cond.instanceMethod ({ cls := "ModuleKem", name := "same", desc := "(II)Z" } : Jvm.MethodName)) ∈ kwA := kw_in 339 rfl rfl
set_option maxRecDepth 100000 in
theorem km_340 : (Jvm.Cond.selects "ModuleKem" ({ cls := "ModuleKem", name := "same", desc := "(II)Z" } : Jvm.MethodName) ({ cls := "ModuleKem", name := "same", desc := "(II)Z" } : Jvm.MethodName)) ∈ kwA := kw_in 340 rfl rfl
set_option maxRecDepth 100000 in
theorem km_341 : (Jvm.Cond.code ({ cls := "ModuleKem", name := "same", desc := "(II)Z" } : Jvm.MethodName) prog_1_method_9_code (3 : Nat) (Option.some Jvm.ClassFile.FieldType.boolean)) ∈ kwA := kw_in 341 rfl rfl
set_option maxRecDepth 100000 in
theorem km_345 : (Jvm.Cond.methodLink "ModuleKemLaw" (96 : Nat) ({ cls := "ModuleKemLaw", name := "kemKeys", desc := "(LModuleKem;I[J)I" } : Jvm.MethodName)) ∈ kwA := kw_in 345 rfl rfl
set_option maxRecDepth 100000 in
theorem km_346 : (Jvm.Cond.static ({ cls := "ModuleKemLaw", name := "kemKeys", desc := "(LModuleKem;I[J)I" } : Jvm.MethodName)) ∈ kwA := kw_in 346 rfl rfl
set_option maxRecDepth 100000 in
theorem km_347 : (Jvm.Cond.codeWith ({ cls := "ModuleKemLaw", name := "kemKeys", desc := "(LModuleKem;I[J)I" } : Jvm.MethodName) method_11_code (4 : Nat) (Option.some Jvm.ClassFile.FieldType.int) [((0 : Nat), (9 : Nat), (12 : Nat), (19 : Nat)), ((0 : Nat), (9 : Nat), (15 : Nat), (46 : Nat)), ((0 : Nat), (9 : Nat), (18 : Nat), (48 : Nat))]) ∈ kwA := kw_in 347 rfl rfl
set_option maxRecDepth 100000 in
theorem km_348 : (Jvm.Cond.classLink "ModuleKemLaw" (46 : Nat) "java/lang/IllegalStateException") ∈ kwA := kw_in 348 rfl rfl
set_option maxRecDepth 100000 in
theorem km_349 : (Jvm.Cond.classLink "ModuleKemLaw" (48 : Nat) "java/lang/ArithmeticException") ∈ kwA := kw_in 349 rfl rfl
set_option maxRecDepth 100000 in
theorem km_350 : (Jvm.Cond.methodLink "ModuleKemLaw" (43 : Nat) ({ cls := "ModuleKem", name := "kemKeys", desc := "(I)I" } : Jvm.MethodName)) ∈ kwA := kw_in 350 rfl rfl
set_option maxRecDepth 100000 in
theorem km_351 : (Jvm.Cond.instanceMethod ({ cls := "ModuleKem", name := "kemKeys", desc := "(I)I" } : Jvm.MethodName)) ∈ kwA := kw_in 351 rfl rfl
set_option maxRecDepth 100000 in
theorem km_352 : (Jvm.Cond.selects "ModuleKem" ({ cls := "ModuleKem", name := "kemKeys", desc := "(I)I" } : Jvm.MethodName) ({ cls := "ModuleKem", name := "kemKeys", desc := "(I)I" } : Jvm.MethodName)) ∈ kwA := kw_in 352 rfl rfl
set_option maxRecDepth 100000 in
theorem km_353 : (Jvm.Cond.code ({ cls := "ModuleKem", name := "kemKeys", desc := "(I)I" } : Jvm.MethodName) prog_1_method_10_code (3 : Nat) (Option.some Jvm.ClassFile.FieldType.int)) ∈ kwA := kw_in 353 rfl rfl
set_option maxRecDepth 100000 in
theorem km_489 : (Jvm.Cond.methodLink "ModuleKemLaw" (99 : Nat) ({ cls := "ModuleKemLaw", name := "kemWrap", desc := "(LModuleKem;I[J)I" } : Jvm.MethodName)) ∈ kwA := kw_in 489 rfl rfl
set_option maxRecDepth 100000 in
theorem km_490 : (Jvm.Cond.static ({ cls := "ModuleKemLaw", name := "kemWrap", desc := "(LModuleKem;I[J)I" } : Jvm.MethodName)) ∈ kwA := kw_in 490 rfl rfl
set_option maxRecDepth 100000 in
theorem km_491 : (Jvm.Cond.codeWith ({ cls := "ModuleKemLaw", name := "kemWrap", desc := "(LModuleKem;I[J)I" } : Jvm.MethodName) method_12_code (4 : Nat) (Option.some Jvm.ClassFile.FieldType.int) [((0 : Nat), (9 : Nat), (12 : Nat), (19 : Nat)), ((0 : Nat), (9 : Nat), (15 : Nat), (46 : Nat)), ((0 : Nat), (9 : Nat), (18 : Nat), (53 : Nat)), ((0 : Nat), (9 : Nat), (21 : Nat), (48 : Nat))]) ∈ kwA := kw_in 491 rfl rfl
set_option maxRecDepth 100000 in
theorem km_492 : (Jvm.Cond.classLink "ModuleKemLaw" (53 : Nat) "java/lang/UnsupportedOperationException") ∈ kwA := kw_in 492 rfl rfl
set_option maxRecDepth 100000 in
theorem km_493 : (Jvm.Cond.methodLink "ModuleKemLaw" (50 : Nat) ({ cls := "ModuleKem", name := "kemWrap", desc := "(I)I" } : Jvm.MethodName)) ∈ kwA := kw_in 493 rfl rfl
set_option maxRecDepth 100000 in
theorem km_494 : (Jvm.Cond.instanceMethod ({ cls := "ModuleKem", name := "kemWrap", desc := "(I)I" } : Jvm.MethodName)) ∈ kwA := kw_in 494 rfl rfl
set_option maxRecDepth 100000 in
theorem km_495 : (Jvm.Cond.selects "ModuleKem" ({ cls := "ModuleKem", name := "kemWrap", desc := "(I)I" } : Jvm.MethodName) ({ cls := "ModuleKem", name := "kemWrap", desc := "(I)I" } : Jvm.MethodName)) ∈ kwA := kw_in 495 rfl rfl
set_option maxRecDepth 100000 in
theorem km_496 : (Jvm.Cond.code ({ cls := "ModuleKem", name := "kemWrap", desc := "(I)I" } : Jvm.MethodName) prog_1_method_11_code (3 : Nat) (Option.some Jvm.ClassFile.FieldType.int)) ∈ kwA := kw_in 496 rfl rfl
set_option maxRecDepth 100000 in
theorem km_573 : (Jvm.Cond.methodLink "ModuleKemLaw" (102 : Nat) ({ cls := "ModuleKemLaw", name := "kemOpen", desc := "(LModuleKem;I[J)I" } : Jvm.MethodName)) ∈ kwA := kw_in 573 rfl rfl
set_option maxRecDepth 100000 in
theorem km_574 : (Jvm.Cond.static ({ cls := "ModuleKemLaw", name := "kemOpen", desc := "(LModuleKem;I[J)I" } : Jvm.MethodName)) ∈ kwA := kw_in 574 rfl rfl
set_option maxRecDepth 100000 in
theorem km_575 : (Jvm.Cond.codeWith ({ cls := "ModuleKemLaw", name := "kemOpen", desc := "(LModuleKem;I[J)I" } : Jvm.MethodName) method_13_code (4 : Nat) (Option.some Jvm.ClassFile.FieldType.int) [((0 : Nat), (9 : Nat), (12 : Nat), (19 : Nat)), ((0 : Nat), (9 : Nat), (15 : Nat), (53 : Nat)), ((0 : Nat), (9 : Nat), (18 : Nat), (48 : Nat))]) ∈ kwA := kw_in 575 rfl rfl
set_option maxRecDepth 100000 in
theorem km_576 : (Jvm.Cond.methodLink "ModuleKemLaw" (55 : Nat) ({ cls := "ModuleKem", name := "kemOpen", desc := "(I)I" } : Jvm.MethodName)) ∈ kwA := kw_in 576 rfl rfl
set_option maxRecDepth 100000 in
theorem km_577 : (Jvm.Cond.instanceMethod ({ cls := "ModuleKem", name := "kemOpen", desc := "(I)I" } : Jvm.MethodName)) ∈ kwA := kw_in 577 rfl rfl
set_option maxRecDepth 100000 in
theorem km_578 : (Jvm.Cond.selects "ModuleKem" ({ cls := "ModuleKem", name := "kemOpen", desc := "(I)I" } : Jvm.MethodName) ({ cls := "ModuleKem", name := "kemOpen", desc := "(I)I" } : Jvm.MethodName)) ∈ kwA := kw_in 578 rfl rfl
set_option maxRecDepth 100000 in
theorem km_579 : (Jvm.Cond.code ({ cls := "ModuleKem", name := "kemOpen", desc := "(I)I" } : Jvm.MethodName) prog_1_method_12_code (4 : Nat) (Option.some Jvm.ClassFile.FieldType.int)) ∈ kwA := kw_in 579 rfl rfl
set_option maxRecDepth 100000 in
theorem km_787 : (Jvm.Cond.methodLink "ModuleKemLaw" (68 : Nat) ({ cls := "ModuleKemModel", name := "thrown", desc := "()I" } : Jvm.MethodName)) ∈ kwA := kw_in 787 rfl rfl
set_option maxRecDepth 100000 in
theorem km_788 : (Jvm.Cond.instanceMethod ({ cls := "ModuleKemModel", name := "thrown", desc := "()I" } : Jvm.MethodName)) ∈ kwA := kw_in 788 rfl rfl
set_option maxRecDepth 100000 in
theorem km_789 : (Jvm.Cond.selects "ModuleKemModel" ({ cls := "ModuleKemModel", name := "thrown", desc := "()I" } : Jvm.MethodName) ({ cls := "ModuleKemModel", name := "thrown", desc := "()I" } : Jvm.MethodName)) ∈ kwA := kw_in 789 rfl rfl
set_option maxRecDepth 100000 in
theorem km_790 : (Jvm.Cond.code ({ cls := "ModuleKemModel", name := "thrown", desc := "()I" } : Jvm.MethodName) prog_8_method_2_code (1 : Nat) (Option.some Jvm.ClassFile.FieldType.int)) ∈ kwA := kw_in 790 rfl rfl
set_option maxRecDepth 100000 in
theorem km_791 : (Jvm.Cond.methodLink "ModuleKemLaw" (67 : Nat) ({ cls := "ModuleKemModel", name := "feed", desc := "(IIIII)I" } : Jvm.MethodName)) ∈ kwA := kw_in 791 rfl rfl
set_option maxRecDepth 100000 in
theorem km_792 : (Jvm.Cond.instanceMethod ({ cls := "ModuleKemModel", name := "feed", desc := "(IIIII)I" } : Jvm.MethodName)) ∈ kwA := kw_in 792 rfl rfl
set_option maxRecDepth 100000 in
theorem km_793 : (Jvm.Cond.selects "ModuleKemModel" ({ cls := "ModuleKemModel", name := "feed", desc := "(IIIII)I" } : Jvm.MethodName) ({ cls := "ModuleKemModel", name := "feed", desc := "(IIIII)I" } : Jvm.MethodName)) ∈ kwA := kw_in 793 rfl rfl
set_option maxRecDepth 100000 in
theorem km_794 : (Jvm.Cond.code ({ cls := "ModuleKemModel", name := "feed", desc := "(IIIII)I" } : Jvm.MethodName) prog_8_method_5_code (6 : Nat) (Option.some Jvm.ClassFile.FieldType.int)) ∈ kwA := kw_in 794 rfl rfl
set_option maxRecDepth 100000 in
theorem km_803 : (Jvm.Cond.methodLink "ModuleKemLaw" (75 : Nat) ({ cls := "ModuleKemModel", name := "end", desc := "(II)I" } : Jvm.MethodName)) ∈ kwA := kw_in 803 rfl rfl
set_option maxRecDepth 100000 in
theorem km_804 : (Jvm.Cond.instanceMethod ({ cls := "ModuleKemModel", name := "end", desc := "(II)I" } : Jvm.MethodName)) ∈ kwA := kw_in 804 rfl rfl
set_option maxRecDepth 100000 in
theorem km_805 : (Jvm.Cond.selects "ModuleKemModel" ({ cls := "ModuleKemModel", name := "end", desc := "(II)I" } : Jvm.MethodName) ({ cls := "ModuleKemModel", name := "end", desc := "(II)I" } : Jvm.MethodName)) ∈ kwA := kw_in 805 rfl rfl
set_option maxRecDepth 100000 in
theorem km_806 : (Jvm.Cond.code ({ cls := "ModuleKemModel", name := "end", desc := "(II)I" } : Jvm.MethodName) prog_8_method_7_code (4 : Nat) (Option.some Jvm.ClassFile.FieldType.int)) ∈ kwA := kw_in 806 rfl rfl
set_option maxRecDepth 100000 in
theorem km_810 : (Jvm.Cond.methodLink "ModuleKemLaw" (78 : Nat) ({ cls := "ModuleKemModel", name := "copy", desc := "(II)I" } : Jvm.MethodName)) ∈ kwA := kw_in 810 rfl rfl
set_option maxRecDepth 100000 in
theorem km_811 : (Jvm.Cond.instanceMethod ({ cls := "ModuleKemModel", name := "copy", desc := "(II)I" } : Jvm.MethodName)) ∈ kwA := kw_in 811 rfl rfl
set_option maxRecDepth 100000 in
theorem km_812 : (Jvm.Cond.selects "ModuleKemModel" ({ cls := "ModuleKemModel", name := "copy", desc := "(II)I" } : Jvm.MethodName) ({ cls := "ModuleKemModel", name := "copy", desc := "(II)I" } : Jvm.MethodName)) ∈ kwA := kw_in 812 rfl rfl
set_option maxRecDepth 100000 in
theorem km_813 : (Jvm.Cond.code ({ cls := "ModuleKemModel", name := "copy", desc := "(II)I" } : Jvm.MethodName) prog_8_method_8_code (4 : Nat) (Option.some Jvm.ClassFile.FieldType.int)) ∈ kwA := kw_in 813 rfl rfl
set_option maxRecDepth 100000 in
theorem km_814 : (Jvm.Cond.methodLink "ModuleKemLaw" (81 : Nat) ({ cls := "ModuleKemModel", name := "resize", desc := "(II)I" } : Jvm.MethodName)) ∈ kwA := kw_in 814 rfl rfl
set_option maxRecDepth 100000 in
theorem km_815 : (Jvm.Cond.instanceMethod ({ cls := "ModuleKemModel", name := "resize", desc := "(II)I" } : Jvm.MethodName)) ∈ kwA := kw_in 815 rfl rfl
set_option maxRecDepth 100000 in
theorem km_816 : (Jvm.Cond.selects "ModuleKemModel" ({ cls := "ModuleKemModel", name := "resize", desc := "(II)I" } : Jvm.MethodName) ({ cls := "ModuleKemModel", name := "resize", desc := "(II)I" } : Jvm.MethodName)) ∈ kwA := kw_in 816 rfl rfl
set_option maxRecDepth 100000 in
theorem km_817 : (Jvm.Cond.code ({ cls := "ModuleKemModel", name := "resize", desc := "(II)I" } : Jvm.MethodName) prog_8_method_9_code (5 : Nat) (Option.some Jvm.ClassFile.FieldType.int)) ∈ kwA := kw_in 817 rfl rfl
set_option maxRecDepth 100000 in
theorem km_818 : (Jvm.Cond.methodLink "ModuleKemLaw" (85 : Nat) ({ cls := "ModuleKemModel", name := "alter", desc := "(III)I" } : Jvm.MethodName)) ∈ kwA := kw_in 818 rfl rfl
set_option maxRecDepth 100000 in
theorem km_819 : (Jvm.Cond.instanceMethod ({ cls := "ModuleKemModel", name := "alter", desc := "(III)I" } : Jvm.MethodName)) ∈ kwA := kw_in 819 rfl rfl
set_option maxRecDepth 100000 in
theorem km_820 : (Jvm.Cond.selects "ModuleKemModel" ({ cls := "ModuleKemModel", name := "alter", desc := "(III)I" } : Jvm.MethodName) ({ cls := "ModuleKemModel", name := "alter", desc := "(III)I" } : Jvm.MethodName)) ∈ kwA := kw_in 820 rfl rfl
set_option maxRecDepth 100000 in
theorem km_821 : (Jvm.Cond.code ({ cls := "ModuleKemModel", name := "alter", desc := "(III)I" } : Jvm.MethodName) prog_8_method_10_code (4 : Nat) (Option.some Jvm.ClassFile.FieldType.int)) ∈ kwA := kw_in 821 rfl rfl
set_option maxRecDepth 100000 in
theorem km_822 : (Jvm.Cond.methodLink "ModuleKemLaw" (89 : Nat) ({ cls := "ModuleKemModel", name := "length", desc := "(I)I" } : Jvm.MethodName)) ∈ kwA := kw_in 822 rfl rfl
set_option maxRecDepth 100000 in
theorem km_823 : (Jvm.Cond.instanceMethod ({ cls := "ModuleKemModel", name := "length", desc := "(I)I" } : Jvm.MethodName)) ∈ kwA := kw_in 823 rfl rfl
set_option maxRecDepth 100000 in
theorem km_824 : (Jvm.Cond.selects "ModuleKemModel" ({ cls := "ModuleKemModel", name := "length", desc := "(I)I" } : Jvm.MethodName) ({ cls := "ModuleKemModel", name := "length", desc := "(I)I" } : Jvm.MethodName)) ∈ kwA := kw_in 824 rfl rfl
set_option maxRecDepth 100000 in
theorem km_825 : (Jvm.Cond.code ({ cls := "ModuleKemModel", name := "length", desc := "(I)I" } : Jvm.MethodName) prog_8_method_11_code (2 : Nat) (Option.some Jvm.ClassFile.FieldType.int)) ∈ kwA := kw_in 825 rfl rfl
set_option maxRecDepth 100000 in
theorem km_826 : (Jvm.Cond.methodLink "ModuleKemLaw" (92 : Nat) ({ cls := "ModuleKemModel", name := "word", desc := "(II)J" } : Jvm.MethodName)) ∈ kwA := kw_in 826 rfl rfl
set_option maxRecDepth 100000 in
theorem km_827 : (Jvm.Cond.instanceMethod ({ cls := "ModuleKemModel", name := "word", desc := "(II)J" } : Jvm.MethodName)) ∈ kwA := kw_in 827 rfl rfl
set_option maxRecDepth 100000 in
theorem km_828 : (Jvm.Cond.selects "ModuleKemModel" ({ cls := "ModuleKemModel", name := "word", desc := "(II)J" } : Jvm.MethodName) ({ cls := "ModuleKemModel", name := "word", desc := "(II)J" } : Jvm.MethodName)) ∈ kwA := kw_in 828 rfl rfl
set_option maxRecDepth 100000 in
theorem km_829 : (Jvm.Cond.code ({ cls := "ModuleKemModel", name := "word", desc := "(II)J" } : Jvm.MethodName) prog_8_method_12_code (6 : Nat) (Option.some Jvm.ClassFile.FieldType.long)) ∈ kwA := kw_in 829 rfl rfl
set_option maxRecDepth 100000 in
theorem km_830 : (Jvm.Cond.methodLink "ModuleKemLaw" (95 : Nat) ({ cls := "ModuleKemModel", name := "same", desc := "(II)Z" } : Jvm.MethodName)) ∈ kwA := kw_in 830 rfl rfl
set_option maxRecDepth 100000 in
theorem km_831 : (Jvm.Cond.instanceMethod ({ cls := "ModuleKemModel", name := "same", desc := "(II)Z" } : Jvm.MethodName)) ∈ kwA := kw_in 831 rfl rfl
set_option maxRecDepth 100000 in
theorem km_832 : (Jvm.Cond.selects "ModuleKemModel" ({ cls := "ModuleKemModel", name := "same", desc := "(II)Z" } : Jvm.MethodName) ({ cls := "ModuleKemModel", name := "same", desc := "(II)Z" } : Jvm.MethodName)) ∈ kwA := kw_in 832 rfl rfl
set_option maxRecDepth 100000 in
theorem km_833 : (Jvm.Cond.code ({ cls := "ModuleKemModel", name := "same", desc := "(II)Z" } : Jvm.MethodName) prog_8_method_13_code (5 : Nat) (Option.some Jvm.ClassFile.FieldType.boolean)) ∈ kwA := kw_in 833 rfl rfl
set_option maxRecDepth 100000 in
theorem km_834 : (Jvm.Cond.methodLink "ModuleKemLaw" (98 : Nat) ({ cls := "ModuleKemModel", name := "kemKeys", desc := "(I)I" } : Jvm.MethodName)) ∈ kwA := kw_in 834 rfl rfl
set_option maxRecDepth 100000 in
theorem km_835 : (Jvm.Cond.instanceMethod ({ cls := "ModuleKemModel", name := "kemKeys", desc := "(I)I" } : Jvm.MethodName)) ∈ kwA := kw_in 835 rfl rfl
set_option maxRecDepth 100000 in
theorem km_836 : (Jvm.Cond.selects "ModuleKemModel" ({ cls := "ModuleKemModel", name := "kemKeys", desc := "(I)I" } : Jvm.MethodName) ({ cls := "ModuleKemModel", name := "kemKeys", desc := "(I)I" } : Jvm.MethodName)) ∈ kwA := kw_in 836 rfl rfl
set_option maxRecDepth 100000 in
theorem km_837 : (Jvm.Cond.code ({ cls := "ModuleKemModel", name := "kemKeys", desc := "(I)I" } : Jvm.MethodName) prog_8_method_51_code (5 : Nat) (Option.some Jvm.ClassFile.FieldType.int)) ∈ kwA := kw_in 837 rfl rfl
set_option maxRecDepth 100000 in
theorem km_884 : (Jvm.Cond.methodLink "ModuleKemLaw" (101 : Nat) ({ cls := "ModuleKemModel", name := "kemWrap", desc := "(I)I" } : Jvm.MethodName)) ∈ kwA := kw_in 884 rfl rfl
set_option maxRecDepth 100000 in
theorem km_885 : (Jvm.Cond.instanceMethod ({ cls := "ModuleKemModel", name := "kemWrap", desc := "(I)I" } : Jvm.MethodName)) ∈ kwA := kw_in 885 rfl rfl
set_option maxRecDepth 100000 in
theorem km_886 : (Jvm.Cond.selects "ModuleKemModel" ({ cls := "ModuleKemModel", name := "kemWrap", desc := "(I)I" } : Jvm.MethodName) ({ cls := "ModuleKemModel", name := "kemWrap", desc := "(I)I" } : Jvm.MethodName)) ∈ kwA := kw_in 886 rfl rfl
set_option maxRecDepth 100000 in
theorem km_887 : (Jvm.Cond.code ({ cls := "ModuleKemModel", name := "kemWrap", desc := "(I)I" } : Jvm.MethodName) prog_8_method_53_code (4 : Nat) (Option.some Jvm.ClassFile.FieldType.int)) ∈ kwA := kw_in 887 rfl rfl
set_option maxRecDepth 100000 in
theorem km_912 : (Jvm.Cond.methodLink "ModuleKemLaw" (104 : Nat) ({ cls := "ModuleKemModel", name := "kemOpen", desc := "(I)I" } : Jvm.MethodName)) ∈ kwA := kw_in 912 rfl rfl
set_option maxRecDepth 100000 in
theorem km_913 : (Jvm.Cond.instanceMethod ({ cls := "ModuleKemModel", name := "kemOpen", desc := "(I)I" } : Jvm.MethodName)) ∈ kwA := kw_in 913 rfl rfl
set_option maxRecDepth 100000 in
theorem km_914 : (Jvm.Cond.selects "ModuleKemModel" ({ cls := "ModuleKemModel", name := "kemOpen", desc := "(I)I" } : Jvm.MethodName) ({ cls := "ModuleKemModel", name := "kemOpen", desc := "(I)I" } : Jvm.MethodName)) ∈ kwA := kw_in 914 rfl rfl
set_option maxRecDepth 100000 in
theorem km_915 : (Jvm.Cond.code ({ cls := "ModuleKemModel", name := "kemOpen", desc := "(I)I" } : Jvm.MethodName) prog_8_method_54_code (7 : Nat) (Option.some Jvm.ClassFile.FieldType.int)) ∈ kwA := kw_in 915 rfl rfl
