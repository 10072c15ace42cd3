/-! More rows of the base. -/
theorem kb_up_ne {α : Type} {f : Nat → α} {k j : Nat} {v : α} (h : ¬ j = k) : va_up f k v j = f j := if_neg h
theorem kb_put_s {ws : va_W} {i : Nat} {is : List Nat} {c : Nat × va_E} {cs : va_W} (h : ws[i]? = some c) : kb_put ws (i :: is) (c :: cs) = kb_put ws is cs := by
  rw [kb_put_c, kb_same h]
theorem kb_s_il {α β γ : Type} {a : α} {f : α → Option γ} {g : β → Option γ} {o : γ} (h : kb_s (.inl a) f g = some o) : f a = some o := h
theorem kb_s_ir {α β γ : Type} {b : β} {f : α → Option γ} {g : β → Option γ} {o : γ} (h : kb_s (.inr b) f g = some o) : g b = some o := h
