/-! The pure words out of which the functions of the methods are made. -/
-- ===== pure words
def kb_n {α β : Type} (e : α) (k : α → Option β) : Option β := k e
def kb_g {β : Type} (c : Bool) (k : Option β) : Option β := match c with
  | true => k
  | false => none
def kb_b {β : Type} (c : Bool) (a b : Option β) : Option β := match c with
  | true => a
  | false => b
def kb_s {α β γ : Type} (r : α ⊕ β) (f : α → γ) (g : β → γ) : γ := match r with
  | .inl a => f a
  | .inr b => g b
def kb_w {σ ρ : Type} (step : σ → Option (σ ⊕ ρ)) : Nat → σ → Option ρ
  | 0, _ => none
  | n + 1, s => match step s with
    | none => none
    | some (.inl s') => kb_w step n s'
    | some (.inr r) => some r
theorem kb_n_s {α β : Type} {e x : α} {k : α → Option β} {o : β} (hx : x = e) (h : kb_n e k = some o) : k x = some o := by
  subst hx
  exact h
theorem kb_g_s {β : Type} {c : Bool} {k : Option β} {o : β} (h : kb_g c k = some o) : c = true ∧ k = some o := by
  cases c with
  | true => exact ⟨rfl, h⟩
  | false => cases h
theorem kb_b_t {β : Type} {P : Prop} {d : Decidable P} {a b : Option β} {o : β} (hp : P) (h : kb_b (@decide P d) a b = some o) : a = some o := by
  rw [decide_eq_true hp] at h
  exact h
theorem kb_b_f {β : Type} {P : Prop} {d : Decidable P} {a b : Option β} {o : β} (hp : ¬ P) (h : kb_b (@decide P d) a b = some o) : b = some o := by
  rw [decide_eq_false hp] at h
  exact h
theorem kb_o_s {α β : Type} {x : Option α} {k : α → Option β} {o : β} (h : x.bind k = some o) : ∃ u, x = some u ∧ k u = some o := by
  cases x with
  | none => cases h
  | some u => exact ⟨u, rfl, h⟩
def kb_h {σ ρ : Type} (step : σ → Option (σ ⊕ ρ)) (n : Nat) (r : ρ) (o : σ ⊕ ρ) : Prop := match o with
  | .inl s => kb_w step n s = some r
  | .inr x => x = r
theorem kb_w_z {σ ρ : Type} (step : σ → Option (σ ⊕ ρ)) (s : σ) (r : ρ) : ¬ kb_w step 0 s = some r := fun h => by cases h
theorem kb_w_s {σ ρ : Type} {step : σ → Option (σ ⊕ ρ)} {n : Nat} {s : σ} {r : ρ} (h : kb_w step (n + 1) s = some r) : ∃ o, step s = some o ∧ kb_h step n r o := by
  cases hs : step s with
  | none => simp [kb_w, hs] at h
  | some o =>
    cases o with
    | inl s' => exact ⟨_, rfl, by simpa [kb_w, kb_h, hs] using h⟩
    | inr x => exact ⟨_, rfl, by simpa [kb_w, kb_h, hs] using h⟩
/-- a loop of n rounds by an invariant -/
theorem kb_w_inv {σ ρ : Type} {step : σ → Option (σ ⊕ ρ)} (I : Nat → σ → Prop) (post : ρ → Prop) (n : Nat) (hs : ∀ i s, i < n → I i s → ∃ s', step s = some (.inl s') ∧ I (i + 1) s') (hx : ∀ s, I n s → ∃ r, step s = some (.inr r) ∧ post r) :
    ∀ (d i : Nat) (s : σ) (fuel : Nat), i + d = n → d < fuel → I i s → ∃ r, kb_w step fuel s = some r ∧ post r := by
  intro d
  induction d with
  | zero =>
    intro i s fuel hi hf h
    obtain ⟨f, rfl⟩ : ∃ f, fuel = f + 1 := ⟨fuel - 1, by omega⟩
    have hi : i = n := by omega
    subst hi
    obtain ⟨r, h1, h2⟩ := hx s h
    exact ⟨r, by simp [kb_w, h1], h2⟩
  | succ d ih =>
    intro i s fuel hi hf h
    obtain ⟨f, rfl⟩ : ∃ f, fuel = f + 1 := ⟨fuel - 1, by omega⟩
    obtain ⟨s', h1, h2⟩ := hs i s (by omega) h
    obtain ⟨r, h3, h4⟩ := ih (i + 1) s' f (by omega) (by omega) h2
    exact ⟨r, by simp [kb_w, h1, h3], h4⟩
def kb_in (i : Int32) (n : Nat) : Bool := !(decide (i < 0)) && decide (i.toNatClampNeg < n)
theorem kb_in_v {i : Int32} {n : Nat} (h : kb_in i n = true) : vp_in i n := by
  simp only [kb_in, Bool.and_eq_true, Bool.not_eq_true', decide_eq_false_iff_not, decide_eq_true_eq] at h
  intro q
  rcases q with q | q
  · exact h.1 q
  · omega
theorem kb_in_n {k n : Nat} (h : k < n) (hn : n < 2 ^ 31) : kb_in (nI k) n = true := by
  simp only [kb_in, Bool.and_eq_true, Bool.not_eq_true', decide_eq_false_iff_not, decide_eq_true_eq]
  exact ⟨nI_pos (by omega), by rw [nI_clamp (by omega)]; exact h⟩
/-- a number that may be handed back as a boolean -/
def kb_z (v : Int32) : Bool := v == 0 || v == 1
theorem kb_z_n {v : Int32} (h : kb_z v = true) : narrow .boolean (.int v) = .int v := by
  simp only [kb_z, Bool.or_eq_true, beq_iff_eq] at h
  rcases h with rfl | rfl <;> rfl
theorem kb_in_lt {i : Int32} {n : Nat} (h : kb_in i n = true) : i.toNatClampNeg < n := by
  simp only [kb_in, Bool.and_eq_true, decide_eq_true_eq] at h
  exact h.2
/-- what System.arraycopy asks of its numbers -/
def kb_cp (sp dp n : Int32) (n0 n1 : Nat) : Bool := !(decide (sp < 0)) && !(decide (dp < 0)) && !(decide (n < 0)) && decide (sp.toNatClampNeg + n.toNatClampNeg ≤ n0) && decide (dp.toNatClampNeg + n.toNatClampNeg ≤ n1)
theorem kb_cp_s {sp dp n : Int32} {n0 n1 : Nat} (h : kb_cp sp dp n n0 n1 = true) : ¬ sp < 0 ∧ ¬ dp < 0 ∧ ¬ n < 0 ∧ sp.toNatClampNeg + n.toNatClampNeg ≤ n0 ∧ dp.toNatClampNeg + n.toNatClampNeg ≤ n1 := by
  simp only [kb_cp, Bool.and_eq_true, Bool.not_eq_true', decide_eq_false_iff_not, decide_eq_true_eq] at h
  exact ⟨h.1.1.1.1, h.1.1.1.2, h.1.1.2, h.1.2, h.2⟩
/-- the n bytes of f from a on are bytes -/
def kb_ft (f : Nat → Int32) (a n : Nat) : Bool := (List.range n).all (fun i => fits .byte (.int (f (a + i))))
theorem kb_ft_s {f : Nat → Int32} {a n : Nat} (h : kb_ft f a n = true) : ∀ i, i < n → fits .byte (.int (f (a + i))) = true := fun i hi => List.all_eq_true.mp h i (List.mem_range.mpr hi)
