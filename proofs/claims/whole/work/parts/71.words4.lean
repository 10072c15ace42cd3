theorem kp_41 : (Cond.selects "ModuleKemModel" ⟨"ModuleKemModel", "constants", "()V"⟩ ⟨"ModuleKemModel", "constants", "()V"⟩) ∈ kwA := kw_ps (by decide +kernel) (by decide +kernel)
