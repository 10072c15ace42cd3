/-! Words of the start. -/
set_option maxRecDepth 100000 in
theorem km_18 : (Jvm.Cond.classLink "ModuleKemLaw" (8 : Nat) "ModuleKem") ∈ kwA := kw_in 18 rfl rfl
set_option maxRecDepth 100000 in
theorem km_19 : (Jvm.Cond.instantiable "ModuleKem" (6 : Nat)) ∈ kwA := kw_in 19 rfl rfl
set_option maxRecDepth 100000 in
theorem km_20 : (Jvm.Cond.methodLink "ModuleKemLaw" (58 : Nat) ({ cls := "ModuleKem", name := "<init>", desc := "()V" } : Jvm.MethodName)) ∈ kwA := kw_in 20 rfl rfl
set_option maxRecDepth 100000 in
theorem km_21 : (Jvm.Cond.instanceMethod ({ cls := "ModuleKem", name := "<init>", desc := "()V" } : Jvm.MethodName)) ∈ kwA := kw_in 21 rfl rfl
set_option maxRecDepth 100000 in
theorem km_22 : (Jvm.Cond.code ({ cls := "ModuleKem", name := "<init>", desc := "()V" } : Jvm.MethodName) prog_1_method_1_code (1 : Nat) (Option.none : Option Jvm.ClassFile.FieldType)) ∈ kwA := kw_in 22 rfl rfl
set_option maxRecDepth 100000 in
theorem km_598 : (Jvm.Cond.classLink "ModuleKemLaw" (59 : Nat) "ModuleKemModel") ∈ kwA := kw_in 598 rfl rfl
set_option maxRecDepth 100000 in
theorem km_599 : (Jvm.Cond.instantiable "ModuleKemModel" (35 : Nat)) ∈ kwA := kw_in 599 rfl rfl
set_option maxRecDepth 100000 in
theorem km_600 : (Jvm.Cond.methodLink "ModuleKemLaw" (61 : Nat) ({ cls := "ModuleKemModel", name := "<init>", desc := "()V" } : Jvm.MethodName)) ∈ kwA := kw_in 600 rfl rfl
set_option maxRecDepth 100000 in
theorem km_601 : (Jvm.Cond.instanceMethod ({ cls := "ModuleKemModel", name := "<init>", desc := "()V" } : Jvm.MethodName)) ∈ kwA := kw_in 601 rfl rfl
set_option maxRecDepth 100000 in
theorem km_602 : (Jvm.Cond.code ({ cls := "ModuleKemModel", name := "<init>", desc := "()V" } : Jvm.MethodName) prog_8_method_1_code (1 : Nat) (Option.none : Option Jvm.ClassFile.FieldType)) ∈ kwA := kw_in 602 rfl rfl
