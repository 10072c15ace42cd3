/-! Layer 2: the reference's constants end; its tables. -/
def kz_ok {α : Type} (o : Option α) (P : α → Prop) : Prop := ∃ a, o = some a ∧ P a
theorem kz_ok_s {α : Type} {a : α} {P : α → Prop} (h : P a) : kz_ok (some a) P := ⟨a, rfl, h⟩
theorem kz_ok_n {α β : Type} {e : α} {k : α → Option β} {P : β → Prop} (h : kz_ok (k e) P) : kz_ok (kb_n e k) P := h
theorem kz_ok_g {β : Type} {c : Bool} {k : Option β} {P : β → Prop} (hc : c = true) (h : kz_ok k P) : kz_ok (kb_g c k) P := by
  subst hc
  exact h
theorem kz_ok_b {β : Type} {c : Bool} {a b : Option β} {P : β → Prop} (h1 : kz_ok a P) (h2 : kz_ok b P) : kz_ok (kb_b c a b) P := by
  cases c with
  | true => exact h1
  | false => exact h2
theorem kz_ok_f {β : Type} {c : Bool} {a b : Option β} {P : β → Prop} (hc : c = false) (h : kz_ok b P) : kz_ok (kb_b c a b) P := by
  subst hc
  exact h
theorem kz_ok_t {β : Type} {c : Bool} {a b : Option β} {P : β → Prop} (hc : c = true) (h : kz_ok a P) : kz_ok (kb_b c a b) P := by
  subst hc
  exact h
theorem kz_ok_o {α β : Type} {x : Option α} {k : α → Option β} {Q : α → Prop} {P : β → Prop} (h1 : kz_ok x Q) (h2 : ∀ u, Q u → kz_ok (k u) P) : kz_ok (x.bind k) P := by
  obtain ⟨a, rfl, ha⟩ := h1
  exact h2 a ha
theorem kz_ok_w {G : Type} {S : Int32 → G → Option ((Int32 × G) ⊕ (Int32 × G))} (c : Nat → Int32) (n : Nat) (hn : n < 100000) (hs : ∀ k g, k < n → kz_ok (S (c k) g) (fun o => ∃ g', o = .inl (c (k + 1), g'))) (hx : ∀ g, S (c n) g = some (.inr (c n, g))) (g : G) : kz_ok (kb_w (fun u : Int32 × G => S u.1 u.2) 100000 (c 0, g)) (fun r => r.1 = c n) := by
  obtain ⟨g', h1, -⟩ := kz_for (S := S) (g := g) c n (fun _ _ => True) hn (fun k g hk _ => by
    obtain ⟨o, h1, g', rfl⟩ := hs k g hk
    exact ⟨g', h1, trivial⟩) (fun g _ => hx g) trivial
  exact ⟨_, h1, rfl⟩
theorem kz_ok_any {α : Type} {o : Option α} {p : α → Bool} (h : o.any p = true) : kz_ok o (fun a => p a = true) := by
  cases o with
  | none => cases h
  | some a => exact ⟨a, rfl, h⟩
theorem kz_t00 : decide ((0 : Int32) = 0) = true := by decide
theorem kz_f10 : decide ((1 : Int32) = 0) = false := by decide
theorem kz_right (x : Int64) (n : Int32) : kz_ok (kFX5_right x n) (fun _ => True) := ⟨_, rfl, trivial⟩
-- ===== SHA-512's step
theorem kz_c17 {block : Nat → Int32} {t : Nat} (ht : t < 16) (w : Nat → Int64) : kz_ok (kb_w (fun u : Int32 × (Nat → Int64) => kSX5_compress64_17 (nI t) block u.1 u.2) 100000 ((0 : Int32), w)) (fun _ => True) := by
  obtain ⟨r, h, -⟩ := kz_ok_w (S := fun x g => kSX5_compress64_17 (nI t) block x g) nI 8 (by decide) (fun k g hk => by
    show kz_ok (kSX5_compress64_17 (nI t) block (nI k) g) _
    unfold kSX5_compress64_17
    rw [show (8 : Int32) * nI t = nI (8 * t) from pk_mul _ _, nI_add]
    refine kz_ok_f (kz_nle (n := 8) hk (by decide)) ?_
    refine kz_ok_g (kb_in_n (by omega) (by decide)) ?_
    refine kz_ok_g (kb_in_n (by omega) (by decide)) ?_
    refine kz_ok_g (kb_in_n (by omega) (by decide)) ?_
    refine kz_ok_n ?_
    refine kz_ok_n ?_
    exact kz_ok_s ⟨_, by rw [kz_inc]⟩) (fun g => kb_b_tt (kz_le (n := 8) (Nat.le_refl _) (by decide))) w
  exact ⟨r, h, trivial⟩
theorem kz_compress64 (cubes state words : Nat → Int64) (block : Nat → Int32) : kz_ok (kFX5_compress64 cubes state words block) (fun _ => True) := by
  unfold kFX5_compress64
  refine kz_ok_o (Q := fun _ => True) ?_ (fun u _ => ?_)
  · obtain ⟨r, h, -⟩ := kz_ok_w (S := fun x g => kSX5_compress64_2 block x g) nI 16 (by decide) (fun k g hk => by
      show kz_ok (kSX5_compress64_2 block (nI k) g) _
      unfold kSX5_compress64_2
      refine kz_ok_f (kz_nle (n := 16) hk (by decide)) ?_
      refine kz_ok_g (kb_in_n (by omega) (by decide)) ?_
      refine kz_ok_n ?_
      refine kz_ok_o (kz_c17 hk _) (fun u _ => ?_)
      refine kz_ok_n ?_
      exact kz_ok_s ⟨_, by rw [kz_inc]⟩) (fun g => kb_b_tt (kz_le (n := 16) (Nat.le_refl _) (by decide))) words
    exact ⟨r, h, trivial⟩
  refine kz_ok_o (Q := fun _ => True) ?_ (fun u _ => ?_)
  · obtain ⟨r, h, -⟩ := kz_ok_w (S := fun x g => kSX5_compress64_70 x g) (fun k => nI (16 + k)) 64 (by decide) (fun k g hk => by
      show kz_ok (kSX5_compress64_70 (nI (16 + k)) g) _
      unfold kSX5_compress64_70
      rw [show nI (16 + k) - (2 : Int32) = nI (16 + k - 2) from pk_sub (b := 2) (by omega), show nI (16 + k) - (15 : Int32) = nI (16 + k - 15) from pk_sub (b := 15) (by omega), show nI (16 + k) - (7 : Int32) = nI (16 + k - 7) from pk_sub (b := 7) (by omega), show nI (16 + k) - (16 : Int32) = nI (16 + k - 16) from pk_sub (b := 16) (by omega)]
      refine kz_ok_f (kz_nle (n := 80) (by omega) (by decide)) ?_
      refine kz_ok_g (kb_in_n (by omega) (by decide)) ?_
      refine kz_ok_n ?_
      refine kz_ok_g (kb_in_n (by omega) (by decide)) ?_
      refine kz_ok_n ?_
      refine kz_ok_o (kz_right _ _) (fun u _ => ?_)
      refine kz_ok_o (kz_right _ _) (fun u _ => ?_)
      refine kz_ok_g (kb_in_n (by omega) (by decide)) ?_
      refine kz_ok_o (kz_right _ _) (fun u _ => ?_)
      refine kz_ok_o (kz_right _ _) (fun u _ => ?_)
      refine kz_ok_g (kb_in_n (by omega) (by decide)) ?_
      refine kz_ok_g (kb_in_n (by omega) (by decide)) ?_
      refine kz_ok_n ?_
      refine kz_ok_n ?_
      exact kz_ok_s ⟨_, by rw [kz_inc]; rfl⟩) (fun g => kb_b_tt (kz_le (n := 80) (i := 80) (Nat.le_refl _) (by decide))) u.2
    exact ⟨r, h, trivial⟩
  refine kz_ok_n ?_
  refine kz_ok_n ?_
  refine kz_ok_n ?_
  refine kz_ok_n ?_
  refine kz_ok_n ?_
  refine kz_ok_n ?_
  refine kz_ok_n ?_
  refine kz_ok_n ?_
  refine kz_ok_o (Q := fun _ => True) ?_ (fun v _ => ⟨_, rfl, trivial⟩)
  refine kb_w_inv (σ := Int64 × Int64 × Int64 × Int64 × Int64 × Int64 × Int64 × Int64 × Int32) (ρ := Int64 × Int64 × Int64 × Int64 × Int64 × Int64 × Int64 × Int64 × Int32) (fun i s => s.2.2.2.2.2.2.2.2 = nI i) (fun _ => True) 80 ?_ ?_ 80 0 _ 100000 (by omega) (by decide) rfl
  · rintro i ⟨a, b, c, d, e, f, g, h, x⟩ hi hx
    replace hx : x = nI i := hx
    subst hx
    have key : kz_ok (kSX5_compress64_234 cubes u.2 a b c d e f g h (nI i)) (fun o => ∃ s', o = .inl s' ∧ s'.2.2.2.2.2.2.2.2 = nI (i + 1)) := by
      unfold kSX5_compress64_234
      refine kz_ok_f (kz_nle (n := 80) hi (by decide)) ?_
      refine kz_ok_o (kz_right _ _) (fun u _ => ?_)
      refine kz_ok_o (kz_right _ _) (fun u _ => ?_)
      refine kz_ok_o (kz_right _ _) (fun u _ => ?_)
      refine kz_ok_g (kb_in_n hi (by decide)) ?_
      refine kz_ok_g (kb_in_n hi (by decide)) ?_
      refine kz_ok_n ?_
      refine kz_ok_o (kz_right _ _) (fun u _ => ?_)
      refine kz_ok_o (kz_right _ _) (fun u _ => ?_)
      refine kz_ok_o (kz_right _ _) (fun u _ => ?_)
      refine kz_ok_n ?_
      refine kz_ok_n ?_
      refine kz_ok_n ?_
      refine kz_ok_n ?_
      exact kz_ok_s ⟨_, rfl, kz_inc i⟩
    obtain ⟨o, k1, s', rfl, k2⟩ := key
    exact ⟨s', k1, k2⟩
  · rintro ⟨a, b, c, d, e, f, g, h, x⟩ hx
    replace hx : x = nI 80 := hx
    subst hx
    exact ⟨_, kb_b_tt (kz_le (n := 80) (Nat.le_refl _) (by decide)), trivial⟩
-- ===== bytes into SHA-512
theorem kz_put3 {rc state other column words cubes : Nat → Int64} {turns block : Nat → Int32} {tot : Int64} {j : Nat} (v : Int32) (hj : j < 128) : kz_ok (kFX5_put v (3 : Int32) (128 : Int32) (nI j) tot cubes turns rc state other column words block) (fun r => r.1 = nI ((j + 1) % 128)) := by
  have h3 : kFX5_sponge (3 : Int32) = some (0 : Int32) := kb_b_tt (by decide)
  unfold kFX5_put
  refine kz_ok_o (Q := fun x => x = 0) ⟨_, h3, rfl⟩ (fun x hx => ?_)
  subst hx
  refine kz_ok_t (by decide) ?_
  refine kz_ok_g (kb_in_n hj (by decide)) ?_
  refine kz_ok_n ?_
  unfold kJX5_put_30
  refine kz_ok_n ?_
  refine kz_ok_n ?_
  dsimp only
  rw [show nI j + (1 : Int32) = nI (j + 1) from nI_add j 1]
  by_cases h : j + 1 = 128
  · refine kz_ok_t (kz_eqt (b := 128) h) ?_
    refine kz_ok_o (Q := fun x => x = 0) ⟨_, h3, rfl⟩ (fun x hx => ?_)
    subst hx
    refine kz_ok_t (by decide) ?_
    refine kz_ok_f (by decide) ?_
    refine kz_ok_o (kz_compress64 _ _ _ _) (fun u _ => ?_)
    refine kz_ok_s ?_
    show (0 : Int32) = nI ((j + 1) % 128)
    rw [h]
    rfl
  · refine kz_ok_f (kz_eqf (b := 128) h (by omega) (by decide)) ?_
    refine kz_ok_s ?_
    show nI (j + 1) = nI ((j + 1) % 128)
    rw [Nat.mod_eq_of_lt (by omega)]
theorem kz_dn : ∀ i, i < 64 → (nI 63 - nI i) + Int32.ofInt (-1) = nI 63 - nI (i + 1) ∧ decide (nI 63 - nI i < 0) = false := by decide +kernel
theorem kz_dn15 : ∀ i, i < 16 → (nI 15 - nI i) + Int32.ofInt (-1) = nI 15 - nI (i + 1) ∧ decide (nI 15 - nI i < 0) = false := by decide +kernel
theorem kz_finish3 {rc state other column words cubes : Nat → Int64} {turns block : Nat → Int32} {tot : Int64} : kz_ok (kFX5_finish (3 : Int32) (128 : Int32) (nI 11) tot cubes turns rc state other column words block) (fun _ => True) := by
  have h3 : kFX5_sponge (3 : Int32) = some (0 : Int32) := kb_b_tt (by decide)
  unfold kFX5_finish
  refine kz_ok_o (Q := fun x => x = 0) ⟨_, h3, rfl⟩ (fun x hx => ?_)
  subst hx
  refine kz_ok_t (by decide) ?_
  refine kz_ok_n ?_
  refine kz_ok_o (kz_put3 _ (by decide)) (fun u hu => ?_)
  obtain ⟨fl, t1, s1, o1, c1, w1, b1⟩ := u
  replace hu : fl = nI 12 := hu
  subst hu
  refine kz_ok_o (Q := fun r => r.1 = nI 112) ?_ (fun u hu => ?_)
  · refine kb_w_inv (σ := Int32 × Int64 × (Nat → Int32) × (Nat → Int64) × (Nat → Int64) × (Nat → Int64) × (Nat → Int64)) (ρ := Int32 × Int64 × (Nat → Int32) × (Nat → Int64) × (Nat → Int64) × (Nat → Int64) × (Nat → Int64)) (fun i s => s.1 = nI (12 + i)) (fun r => r.1 = nI 112) 100 ?_ ?_ 100 0 _ 100000 (by omega) (by decide) rfl
    · rintro i ⟨fl, t2, b2, c2, o2, s2, w2⟩ hi h
      replace h : fl = nI (12 + i) := h
      subst h
      have key : kz_ok (kSX5_finish_70 (3 : Int32) (128 : Int32) cubes turns rc (nI (12 + i)) t2 b2 c2 o2 s2 w2) (fun o => ∃ s', o = .inl s' ∧ s'.1 = nI (12 + (i + 1))) := by
        unfold kSX5_finish_70
        refine kz_ok_f (kz_eqf (a := 12 + i) (b := 112) (by omega) (by omega) (by decide)) ?_
        refine kz_ok_o (kz_put3 _ (show 12 + i < 128 by omega)) (fun u hu => ?_)
        rw [Nat.mod_eq_of_lt (by omega)] at hu
        exact kz_ok_s ⟨_, rfl, hu⟩
      obtain ⟨o, k1, s', rfl, k2⟩ := key
      exact ⟨s', k1, k2⟩
    · rintro ⟨fl, t2, b2, c2, o2, s2, w2⟩ h
      replace h : fl = nI 112 := h
      subst h
      exact ⟨_, kb_b_tt (show decide (nI 112 = (128 : Int32) - 128 / 8) = true by decide), rfl⟩
  obtain ⟨fl, t2, b2, c2, o2, s2, w2⟩ := u
  replace hu : fl = nI 112 := hu
  subst hu
  refine kz_ok_n ?_
  refine kz_ok_o (Q := fun _ => True) ?_ (fun u _ => ⟨_, rfl, trivial⟩)
  refine kb_w_inv (σ := Int32 × Int32 × Int64 × (Nat → Int32) × (Nat → Int64) × (Nat → Int64) × (Nat → Int64) × (Nat → Int64)) (ρ := Int32 × Int32 × Int64 × (Nat → Int32) × (Nat → Int64) × (Nat → Int64) × (Nat → Int64) × (Nat → Int64)) (fun i s => s.1 = nI 15 - nI i ∧ s.2.1 = nI ((112 + i) % 128)) (fun _ => True) 16 ?_ ?_ 16 0 _ 100000 (by omega) (by decide) ⟨rfl, rfl⟩
  · rintro i ⟨x, fl, t2, b2, c2, o2, s2, w2⟩ hi ⟨h, h2⟩
    replace h : x = nI 15 - nI i := h
    replace h2 : fl = nI ((112 + i) % 128) := h2
    rw [Nat.mod_eq_of_lt (by omega)] at h2
    subst h h2
    obtain ⟨q1, q2⟩ := kz_dn15 i hi
    have key : ∀ y, kz_ok (kSX5_finish_107 y (3 : Int32) (128 : Int32) cubes turns rc (nI 15 - nI i) (nI (112 + i)) t2 b2 c2 o2 s2 w2) (fun o => ∃ s', o = .inl s' ∧ s'.1 = nI 15 - nI (i + 1) ∧ s'.2.1 = nI ((112 + (i + 1)) % 128)) := fun y => by
      unfold kSX5_finish_107
      refine kz_ok_f q2 ?_
      refine kz_ok_b ?_ ?_
      · refine kz_ok_o (kz_put3 _ (show 112 + i < 128 by omega)) (fun u hu => ?_)
        refine kz_ok_n ?_
        exact kz_ok_s ⟨_, rfl, q1, hu⟩
      · refine kz_ok_o (kz_put3 _ (show 112 + i < 128 by omega)) (fun u hu => ?_)
        refine kz_ok_n ?_
        exact kz_ok_s ⟨_, rfl, q1, hu⟩
    obtain ⟨o, k1, s', rfl, k2⟩ := key _
    exact ⟨s', k1, k2⟩
  · rintro ⟨x, fl, t2, b2, c2, o2, s2, w2⟩ ⟨h, -⟩
    replace h : x = nI 15 - nI 16 := h
    subst h
    exact ⟨_, kb_b_tt (show decide (nI 15 - nI 16 < 0) = true by decide), trivial⟩
theorem kz_begin3 (roots s224 s256 state : Nat → Int64) : kz_ok (kFX5_begin (3 : Int32) roots s224 s256 state) (fun r => r.1 = 0 ∧ r.2.1 = 3 ∧ r.2.2.1 = 128) := by
  unfold kFX5_begin
  refine kz_ok_o (Q := fun _ => True) ?_ (fun u _ => ?_)
  · obtain ⟨r, h, -⟩ := kz_ok_w (S := fun x g => kSX5_begin_17 x g) nI 25 (by decide) (fun k g hk => by
      show kz_ok (kSX5_begin_17 (nI k) g) _
      unfold kSX5_begin_17
      refine kz_ok_f (kz_nle (n := 25) hk (by decide)) ?_
      refine kz_ok_g (kb_in_n hk (by decide)) ?_
      refine kz_ok_n ?_
      refine kz_ok_n ?_
      exact kz_ok_s ⟨_, by rw [kz_inc]⟩) (fun g => kb_b_tt (kz_le (n := 25) (Nat.le_refl _) (by decide))) state
    exact ⟨r, h, trivial⟩
  refine kz_ok_f (by decide) ?_
  refine kz_ok_f (by decide) ?_
  refine kz_ok_t (by decide) ?_
  refine kz_ok_o (Q := fun x => x = 128) ⟨_, rfl, rfl⟩ (fun x hx => ?_)
  subst hx
  unfold kJX5_begin_84
  refine kz_ok_o (Q := fun _ => True) ?_ (fun u _ => kz_ok_s ⟨rfl, rfl, rfl⟩)
  obtain ⟨r, h, -⟩ := kz_ok_w (S := fun x g => kSX5_begin_89 (3 : Int32) roots s224 s256 x g) nI 8 (by decide) (fun k g hk => by
    show kz_ok (kSX5_begin_89 (3 : Int32) roots s224 s256 (nI k) g) _
    unfold kSX5_begin_89
    refine kz_ok_f (kz_nle (n := 8) hk (by decide)) ?_
    refine kz_ok_f (by decide) ?_
    refine kz_ok_f (by decide) ?_
    refine kz_ok_f (by decide) ?_
    refine kz_ok_f (by decide) ?_
    refine kz_ok_f (by decide) ?_
    refine kz_ok_f (by decide) ?_
    refine kz_ok_g (kb_in_n (by omega) (by decide)) ?_
    refine kz_ok_g (kb_in_n (by omega) (by decide)) ?_
    refine kz_ok_n ?_
    refine kz_ok_n ?_
    exact kz_ok_s ⟨_, by rw [kz_inc]⟩) (fun g => kb_b_tt (kz_le (n := 8) (Nat.le_refl _) (by decide))) u.2
  exact ⟨r, h, trivial⟩
theorem kz_named224 {rc state other column words cubes roots s224 s256 : Nat → Int64} {turns block : Nat → Int32} (p2 p3 : Int32) : kz_ok (kFX5_named_start224 p2 p3 roots cubes s224 s256 turns rc state other column words block) (fun _ => True) := by
  unfold kFX5_named_start224
  refine kz_ok_o (kz_begin3 _ _ _ _) (fun u hu => ?_)
  obtain ⟨f0, k0, r0, t0, s0⟩ := u
  obtain ⟨h1, h2, h3⟩ := hu
  replace h1 : f0 = 0 := h1
  replace h2 : k0 = 3 := h2
  replace h3 : r0 = 128 := h3
  subst h1 h2 h3
  refine kz_ok_o (Q := fun _ => True) ?_ (fun u _ => ?_)
  · obtain ⟨r, h, -⟩ := kz_ok_w (S := fun x g => kSX5_named_start224_8 x g) nI 8 (by decide) (fun k g hk => by
      show kz_ok (kSX5_named_start224_8 (nI k) g) _
      unfold kSX5_named_start224_8
      refine kz_ok_f (kz_nle (n := 8) hk (by decide)) ?_
      refine kz_ok_g (kb_in_n (by omega) (by decide)) ?_
      refine kz_ok_g (kb_in_n (by omega) (by decide)) ?_
      refine kz_ok_n ?_
      refine kz_ok_n ?_
      exact kz_ok_s ⟨_, by rw [kz_inc]⟩) (fun g => kb_b_tt (kz_le (n := 8) (Nat.le_refl _) (by decide))) s0
    exact ⟨r, h, trivial⟩
  refine kz_ok_o (kz_put3 (j := 0) _ (by decide)) (fun u hu => ?_)
  obtain ⟨fl, t0, s0', o0, c0, w0, b0⟩ := u
  replace hu : fl = nI 1 := hu
  subst hu
  refine kz_ok_o (kz_put3 (j := 1) _ (by decide)) (fun u hu => ?_)
  obtain ⟨fl, t0, s0', o0, c0, w0, b0⟩ := u
  replace hu : fl = nI 2 := hu
  subst hu
  refine kz_ok_o (kz_put3 (j := 2) _ (by decide)) (fun u hu => ?_)
  obtain ⟨fl, t0, s0', o0, c0, w0, b0⟩ := u
  replace hu : fl = nI 3 := hu
  subst hu
  refine kz_ok_o (kz_put3 (j := 3) _ (by decide)) (fun u hu => ?_)
  obtain ⟨fl, t0, s0', o0, c0, w0, b0⟩ := u
  replace hu : fl = nI 4 := hu
  subst hu
  refine kz_ok_o (kz_put3 (j := 4) _ (by decide)) (fun u hu => ?_)
  obtain ⟨fl, t0, s0', o0, c0, w0, b0⟩ := u
  replace hu : fl = nI 5 := hu
  subst hu
  refine kz_ok_o (kz_put3 (j := 5) _ (by decide)) (fun u hu => ?_)
  obtain ⟨fl, t0, s0', o0, c0, w0, b0⟩ := u
  replace hu : fl = nI 6 := hu
  subst hu
  refine kz_ok_o (kz_put3 (j := 6) _ (by decide)) (fun u hu => ?_)
  obtain ⟨fl, t0, s0', o0, c0, w0, b0⟩ := u
  replace hu : fl = nI 7 := hu
  subst hu
  refine kz_ok_o (kz_put3 (j := 7) _ (by decide)) (fun u hu => ?_)
  obtain ⟨fl, t0, s0', o0, c0, w0, b0⟩ := u
  replace hu : fl = nI 8 := hu
  subst hu
  refine kz_ok_o (kz_put3 (j := 8) _ (by decide)) (fun u hu => ?_)
  obtain ⟨fl, t0, s0', o0, c0, w0, b0⟩ := u
  replace hu : fl = nI 9 := hu
  subst hu
  refine kz_ok_o (kz_put3 (j := 9) _ (by decide)) (fun u hu => ?_)
  obtain ⟨fl, t0, s0', o0, c0, w0, b0⟩ := u
  replace hu : fl = nI 10 := hu
  subst hu
  refine kz_ok_o (kz_put3 (j := 10) _ (by decide)) (fun u hu => ?_)
  obtain ⟨fl, t0, s0', o0, c0, w0, b0⟩ := u
  replace hu : fl = nI 11 := hu
  subst hu
  refine kz_ok_o (kz_finish3) (fun u _ => ?_)
  refine kz_ok_o (Q := fun _ => True) ?_ (fun v _ => ⟨_, rfl, trivial⟩)
  obtain ⟨r, h, -⟩ := kz_ok_w (S := fun x g => kSX5_named_start224_105 u.2.2.1 x g) nI 8 (by decide) (fun k g hk => by
    show kz_ok (kSX5_named_start224_105 u.2.2.1 (nI k) g) _
    unfold kSX5_named_start224_105
    refine kz_ok_f (kz_nle (n := 8) hk (by decide)) ?_
    refine kz_ok_g (kb_in_n (by omega) (by decide)) ?_
    refine kz_ok_g (kb_in_n (by omega) (by decide)) ?_
    refine kz_ok_n ?_
    refine kz_ok_n ?_
    exact kz_ok_s ⟨_, by rw [kz_inc]⟩) (fun g => kb_b_tt (kz_le (n := 8) (Nat.le_refl _) (by decide))) s224
  exact ⟨r, h, trivial⟩
theorem kz_named256 {rc state other column words cubes roots s224 s256 : Nat → Int64} {turns block : Nat → Int32} (p2 p3 : Int32) : kz_ok (kFX5_named_start256 p2 p3 roots cubes s224 s256 turns rc state other column words block) (fun _ => True) := by
  unfold kFX5_named_start256
  refine kz_ok_o (kz_begin3 _ _ _ _) (fun u hu => ?_)
  obtain ⟨f0, k0, r0, t0, s0⟩ := u
  obtain ⟨h1, h2, h3⟩ := hu
  replace h1 : f0 = 0 := h1
  replace h2 : k0 = 3 := h2
  replace h3 : r0 = 128 := h3
  subst h1 h2 h3
  refine kz_ok_o (Q := fun _ => True) ?_ (fun u _ => ?_)
  · obtain ⟨r, h, -⟩ := kz_ok_w (S := fun x g => kSX5_named_start256_8 x g) nI 8 (by decide) (fun k g hk => by
      show kz_ok (kSX5_named_start256_8 (nI k) g) _
      unfold kSX5_named_start256_8
      refine kz_ok_f (kz_nle (n := 8) hk (by decide)) ?_
      refine kz_ok_g (kb_in_n (by omega) (by decide)) ?_
      refine kz_ok_g (kb_in_n (by omega) (by decide)) ?_
      refine kz_ok_n ?_
      refine kz_ok_n ?_
      exact kz_ok_s ⟨_, by rw [kz_inc]⟩) (fun g => kb_b_tt (kz_le (n := 8) (Nat.le_refl _) (by decide))) s0
    exact ⟨r, h, trivial⟩
  refine kz_ok_o (kz_put3 (j := 0) _ (by decide)) (fun u hu => ?_)
  obtain ⟨fl, t0, s0', o0, c0, w0, b0⟩ := u
  replace hu : fl = nI 1 := hu
  subst hu
  refine kz_ok_o (kz_put3 (j := 1) _ (by decide)) (fun u hu => ?_)
  obtain ⟨fl, t0, s0', o0, c0, w0, b0⟩ := u
  replace hu : fl = nI 2 := hu
  subst hu
  refine kz_ok_o (kz_put3 (j := 2) _ (by decide)) (fun u hu => ?_)
  obtain ⟨fl, t0, s0', o0, c0, w0, b0⟩ := u
  replace hu : fl = nI 3 := hu
  subst hu
  refine kz_ok_o (kz_put3 (j := 3) _ (by decide)) (fun u hu => ?_)
  obtain ⟨fl, t0, s0', o0, c0, w0, b0⟩ := u
  replace hu : fl = nI 4 := hu
  subst hu
  refine kz_ok_o (kz_put3 (j := 4) _ (by decide)) (fun u hu => ?_)
  obtain ⟨fl, t0, s0', o0, c0, w0, b0⟩ := u
  replace hu : fl = nI 5 := hu
  subst hu
  refine kz_ok_o (kz_put3 (j := 5) _ (by decide)) (fun u hu => ?_)
  obtain ⟨fl, t0, s0', o0, c0, w0, b0⟩ := u
  replace hu : fl = nI 6 := hu
  subst hu
  refine kz_ok_o (kz_put3 (j := 6) _ (by decide)) (fun u hu => ?_)
  obtain ⟨fl, t0, s0', o0, c0, w0, b0⟩ := u
  replace hu : fl = nI 7 := hu
  subst hu
  refine kz_ok_o (kz_put3 (j := 7) _ (by decide)) (fun u hu => ?_)
  obtain ⟨fl, t0, s0', o0, c0, w0, b0⟩ := u
  replace hu : fl = nI 8 := hu
  subst hu
  refine kz_ok_o (kz_put3 (j := 8) _ (by decide)) (fun u hu => ?_)
  obtain ⟨fl, t0, s0', o0, c0, w0, b0⟩ := u
  replace hu : fl = nI 9 := hu
  subst hu
  refine kz_ok_o (kz_put3 (j := 9) _ (by decide)) (fun u hu => ?_)
  obtain ⟨fl, t0, s0', o0, c0, w0, b0⟩ := u
  replace hu : fl = nI 10 := hu
  subst hu
  refine kz_ok_o (kz_put3 (j := 10) _ (by decide)) (fun u hu => ?_)
  obtain ⟨fl, t0, s0', o0, c0, w0, b0⟩ := u
  replace hu : fl = nI 11 := hu
  subst hu
  refine kz_ok_o (kz_finish3) (fun u _ => ?_)
  refine kz_ok_o (Q := fun _ => True) ?_ (fun v _ => ⟨_, rfl, trivial⟩)
  obtain ⟨r, h, -⟩ := kz_ok_w (S := fun x g => kSX5_named_start256_105 u.2.2.1 x g) nI 8 (by decide) (fun k g hk => by
    show kz_ok (kSX5_named_start256_105 u.2.2.1 (nI k) g) _
    unfold kSX5_named_start256_105
    refine kz_ok_f (kz_nle (n := 8) hk (by decide)) ?_
    refine kz_ok_g (kb_in_n (by omega) (by decide)) ?_
    refine kz_ok_g (kb_in_n (by omega) (by decide)) ?_
    refine kz_ok_n ?_
    refine kz_ok_n ?_
    exact kz_ok_s ⟨_, by rw [kz_inc]⟩) (fun g => kb_b_tt (kz_le (n := 8) (Nat.le_refl _) (by decide))) s256
  exact ⟨r, h, trivial⟩
-- ===== powers of numbers of many limbs
theorem kz_l0 : ∀ j, j < 4 → ((((0 : Int64).toUInt64 >>> (((16 : Int32) * nI j).toInt64.toUInt64 &&& Int64.toUInt64 63)).toInt64) &&& (65535 : Int64)) = 0 := by decide +kernel
theorem kz_a80 {C : Prop} {w : Int32} {part : Int64} {P L : Nat → Int64} {i : Nat} (hi : i < 16) (hC : C → part = 0) :
    kz_ok (kb_w (fun u : Int32 × (Nat → Int64) => kSX5_above_80 w part (nI i) P u.1 u.2) 100000 ((0 : Int32), L)) (fun r => C → ∀ k, k < 16 → r.2 k = if k = i + 4 then L k + P i * w.toInt64 else L k) := by
  refine kb_w_ex (σ := Int32 × (Nat → Int64)) (ρ := Int32 × (Nat → Int64)) (fun j u => u.1 = nI j ∧ (C → ∀ k, k < 16 → u.2 k = if j = 5 ∧ k = i + 4 then L k + P i * w.toInt64 else L k)) (fun r => C → ∀ k, k < 16 → r.2 k = if k = i + 4 then L k + P i * w.toInt64 else L k) 5 ?_ ?_ 5 0 _ 100000 (by omega) (by decide) ⟨rfl, fun _ k _ => by rw [if_neg (by omega)]⟩
  · rintro j ⟨x, g⟩ hj ⟨h1, h2⟩
    replace h1 : x = nI j := h1
    replace h2 : C → ∀ k, k < 16 → g k = if j = 5 ∧ k = i + 4 then L k + P i * w.toInt64 else L k := h2
    subst h1
    by_cases h16 : 16 ≤ i + j
    · refine Or.inr ⟨(nI j, g), ?_, fun c k hk => ?_⟩
      · show kSX5_above_80 w part (nI i) P (nI j) g = _
        unfold kSX5_above_80
        rw [nI_add]
        refine (kb_b_ff (kz_nle (n := 5) hj (by decide))).trans ?_
        exact kb_b_tt (kz_le (n := 16) h16 (by omega))
      · show g k = _
        rw [h2 c k hk, if_neg (by omega), if_neg (by omega)]
    · by_cases h4 : 4 ≤ j
      · have hj4 : j = 4 := by omega
        subst hj4
        refine Or.inl ⟨(nI (4 + 1), vp_updL g (i + 4) (g (i + 4) + P i * w.toInt64)), ?_, rfl, fun c k hk => ?_⟩
        · show kSX5_above_80 w part (nI i) P (nI 4) g = _
          unfold kSX5_above_80
          rw [nI_add, nI_clamp (show i + 4 < 2 ^ 31 by omega), nI_clamp (show i < 2 ^ 31 by omega)]
          refine (kb_b_ff (by decide)).trans ?_
          refine (kb_b_ff (kz_nle (n := 16) (by omega) (by decide))).trans ?_
          refine (kb_g_tt (kb_in_n (by omega) (by decide))).trans ?_
          refine (kb_g_tt (kb_in_n (by omega) (by decide))).trans ?_
          refine (kb_b_tt (by decide)).trans ?_
          refine (kb_g_tt (kb_in_n (by omega) (by decide))).trans ?_
          refine (kb_n_v rfl).trans ?_
          exact (kb_n_v (kz_inc _)).trans rfl
        · show vp_updL g (i + 4) (g (i + 4) + P i * w.toInt64) k = _
          unfold vp_updL
          by_cases hk4 : k = i + 4
          · subst hk4
            rw [if_pos rfl, if_pos ⟨rfl, rfl⟩, h2 c _ hk, if_neg (by omega)]
          · rw [if_neg hk4, if_neg (by omega), h2 c k hk, if_neg (by omega)]
      · refine Or.inl ⟨(nI (j + 1), vp_updL g (i + j) (g (i + j) + P i * (((part.toUInt64 >>> (((16 : Int32) * nI j).toInt64.toUInt64 &&& Int64.toUInt64 63)).toInt64) &&& (65535 : Int64)))), ?_, rfl, fun c k hk => ?_⟩
        · show kSX5_above_80 w part (nI i) P (nI j) g = _
          unfold kSX5_above_80
          rw [nI_add, nI_clamp (show i + j < 2 ^ 31 by omega), nI_clamp (show i < 2 ^ 31 by omega)]
          refine (kb_b_ff (kz_nle (n := 5) hj (by decide))).trans ?_
          refine (kb_b_ff (kz_nle (n := 16) (by omega) (by decide))).trans ?_
          refine (kb_g_tt (kb_in_n (by omega) (by decide))).trans ?_
          refine (kb_g_tt (kb_in_n (by omega) (by decide))).trans ?_
          refine (kb_b_ff (kz_nle (n := 4) (by omega) (by decide))).trans ?_
          refine (kb_g_tt (kb_in_n (by omega) (by decide))).trans ?_
          refine (kb_n_v rfl).trans ?_
          exact (kb_n_v (kz_inc _)).trans rfl
        · show vp_updL g (i + j) (g (i + j) + P i * (((part.toUInt64 >>> (((16 : Int32) * nI j).toInt64.toUInt64 &&& Int64.toUInt64 63)).toInt64) &&& (65535 : Int64))) k = _
          rw [hC c, kz_l0 j (by omega), Int64.mul_zero, Int64.add_zero, if_neg (by omega)]
          unfold vp_updL
          by_cases hk4 : k = i + j
          · subst hk4
            rw [if_pos rfl, h2 c _ hk, if_neg (by omega)]
          · rw [if_neg hk4, h2 c k hk, if_neg (by omega)]
  · rintro ⟨x, g⟩ ⟨h1, h2⟩
    replace h1 : x = nI 5 := h1
    replace h2 : C → ∀ k, k < 16 → g k = if 5 = 5 ∧ k = i + 4 then L k + P i * w.toInt64 else L k := h2
    subst h1
    refine ⟨(nI 5, g), kb_b_tt (show decide ((5 : Int32) ≤ nI 5) = true by decide), fun c k hk => ?_⟩
    show g k = _
    rw [h2 c k hk]
    by_cases h : k = i + 4
    · rw [if_pos ⟨rfl, h⟩, if_pos h]
    · rw [if_neg (fun q => h q.2), if_neg h]
theorem kz_a70 {C : Prop} {w : Int32} {part : Int64} {P L : Nat → Int64} (hC : C → part = 0) (hL : ∀ k, k < 16 → L k = 0) :
    kz_ok (kb_w (fun u : Int32 × (Nat → Int64) => kSX5_above_70 w part P u.1 u.2) 100000 ((0 : Int32), L)) (fun r => C → ∀ k, k < 16 → r.2 k = if 4 ≤ k then P (k - 4) * w.toInt64 else 0) := by
  have key := kz_for (S := fun x g => kSX5_above_70 w part P x g) (g := L) nI 16 (fun i g => C → ∀ k, k < 16 → g k = if 4 ≤ k ∧ k < i + 4 then P (k - 4) * w.toInt64 else 0) (by decide) (fun i g hi h => ?_) (fun g h => kb_b_tt (kz_le (n := 16) (Nat.le_refl _) (by decide))) (fun _ k hk => by rw [if_neg (by omega)]; exact hL k hk)
  · obtain ⟨g, k1, k2⟩ := key
    refine ⟨_, k1, fun c k hk => ?_⟩
    show g k = _
    rw [k2 c k hk]
    by_cases h : 4 ≤ k
    · rw [if_pos ⟨h, by omega⟩, if_pos h]
    · rw [if_neg (fun q => h q.1), if_neg h]
  · obtain ⟨⟨x, g'⟩, k1, k2⟩ := kz_a80 (C := C) (w := w) (part := part) (P := P) (L := g) hi hC
    refine ⟨g', ?_, fun c k hk => ?_⟩
    · show kSX5_above_70 w part P (nI i) g = _
      unfold kSX5_above_70
      refine (kb_b_ff (kz_nle (n := 16) hi (by decide))).trans ?_
      refine (kb_o_v k1).trans ?_
      exact (kb_n_v (kz_inc _)).trans rfl
    · have h2 : g' k = if k = i + 4 then g k + P i * w.toInt64 else g k := k2 c k hk
      rw [h2, h c k hk]
      by_cases h3 : k = i + 4
      · subst h3
        rw [if_pos rfl, if_neg (by omega), if_pos ⟨by omega, by omega⟩, Int64.zero_add, show i + 4 - 4 = i by omega]
      · rw [if_neg h3]
        by_cases h5 : 4 ≤ k ∧ k < i + 4
        · rw [if_pos h5, if_pos ⟨h5.1, by omega⟩]
        · rw [if_neg h5, if_neg (by omega)]
theorem kz_sh : ∀ a, a < 600 → ((0 : Int64) + lN a) &&& (65535 : Int64) = lN a ∧ ((((0 : Int64) + lN a).toUInt64 >>> ((16 : Int32).toInt64.toUInt64 &&& Int64.toUInt64 63)).toInt64) = 0 := by decide +kernel
theorem kz_a157 {C : Prop} {L P : Nat → Int64} {v : Nat → Nat} (hv : ∀ k, v k < 600) (hL : C → ∀ k, k < 16 → L k = lN (v k)) :
    kz_ok (kb_w (fun u : Int64 × Int32 × (Nat → Int64) => kSX5_above_157 L u.1 u.2.1 u.2.2) 100000 ((0 : Int64), (0 : Int32), P)) (fun r => C → ∀ k, k < 16 → r.2.2 k = lN (v k)) := by
  refine kb_w_inv (σ := Int64 × Int32 × (Nat → Int64)) (ρ := Int64 × Int32 × (Nat → Int64)) (fun i u => u.2.1 = nI i ∧ (C → u.1 = 0 ∧ ∀ k, k < i → u.2.2 k = lN (v k))) (fun r => C → ∀ k, k < 16 → r.2.2 k = lN (v k)) 16 ?_ ?_ 16 0 _ 100000 (by omega) (by decide) ⟨rfl, fun _ => ⟨rfl, fun k hk => absurd hk (by omega)⟩⟩
  · rintro i ⟨c, x, g⟩ hi ⟨h1, h2⟩
    replace h1 : x = nI i := h1
    replace h2 : C → c = 0 ∧ ∀ k, k < i → g k = lN (v k) := h2
    subst h1
    refine ⟨((((c + L i).toUInt64 >>> ((16 : Int32).toInt64.toUInt64 &&& Int64.toUInt64 63)).toInt64), nI (i + 1), vp_updL g i ((c + L i) &&& (65535 : Int64))), ?_, rfl, fun q => ?_⟩
    · show kSX5_above_157 L c (nI i) g = _
      unfold kSX5_above_157
      rw [nI_clamp (show i < 2 ^ 31 by omega)]
      refine (kb_b_ff (kz_nle (n := 16) hi (by decide))).trans ?_
      refine (kb_g_tt (kb_in_n hi (by decide))).trans ?_
      refine (kb_n_v rfl).trans ?_
      refine (kb_g_tt (kb_in_n hi (by decide))).trans ?_
      refine (kb_n_v rfl).trans ?_
      refine (kb_n_v rfl).trans ?_
      exact (kb_n_v (kz_inc _)).trans rfl
    · obtain ⟨hc, h3⟩ := h2 q
      have h4 := kz_sh (v i) (hv i)
      refine ⟨?_, fun k hk => ?_⟩
      · show (((c + L i).toUInt64 >>> ((16 : Int32).toInt64.toUInt64 &&& Int64.toUInt64 63)).toInt64) = 0
        rw [hc, hL q i hi]
        exact h4.2
      · show vp_updL g i ((c + L i) &&& (65535 : Int64)) k = _
        unfold vp_updL
        by_cases e9 : k = i
        · subst e9
          rw [if_pos rfl, hc, hL q k hi]
          exact h4.1
        · rw [if_neg e9]
          exact h3 k (by omega)
  · rintro ⟨c, x, g⟩ ⟨h1, h2⟩
    replace h1 : x = nI 16 := h1
    subst h1
    exact ⟨(c, nI 16, g), kb_b_tt (show decide ((16 : Int32) ≤ nI 16) = true by decide), fun q => (h2 q).2⟩
theorem kz_lm : ∀ a, a < 65 → ∀ W, W < 22 → lN a * (nI W).toInt64 = lN (a * W) := by decide +kernel
theorem kz_above {C : Prop} {w : Int32} {part : Int64} {n : Int32} {L P : Nat → Int64} {pw W : Nat} (hpw : pw = 2 ∨ pw = 3) (hC : C → part = 0 ∧ w = nI W ∧ n.toInt64 < lN (W ^ pw)) (hW : (W = 21 ∧ pw = 2) ∨ (W = 8 ∧ pw = 3)) :
    kz_ok (kFX5_above w part (nI pw) n L P) (fun r => (r.1 = 0 ∨ r.1 = 1) ∧ (C → r.1 = 1)) := by
  unfold kFX5_above
  refine kz_ok_o (Q := fun r => ∀ k, k < 16 → r.2 k = if k = 0 then 1 else 0) ?_ (fun u hu => ?_)
  · have key := kz_for (S := fun x g => kSX5_above_3 x g) (g := P) nI 16 (fun i g => ∀ k, k < i → g k = if k = 0 then (1 : Int64) else 0) (by decide) (fun i g hi h => ?_) (fun g h => kb_b_tt (kz_le (n := 16) (Nat.le_refl _) (by decide))) (fun k hk => absurd hk (by omega))
    · obtain ⟨g, k1, k2⟩ := key
      exact ⟨_, k1, k2⟩
    · refine ⟨vp_updL g i (if i = 0 then 1 else 0), ?_, fun k hk => ?_⟩
      · show kSX5_above_3 (nI i) g = _
        unfold kSX5_above_3
        rw [nI_clamp (show i < 2 ^ 31 by omega)]
        refine (kb_b_ff (kz_nle (n := 16) hi (by decide))).trans ?_
        by_cases h0 : i = 0
        · rw [if_pos h0]
          refine (kb_b_tt (kz_eqt (b := 0) h0)).trans ?_
          refine (kb_g_tt (kb_in_n hi (by decide))).trans ?_
          refine (kb_n_v rfl).trans ?_
          exact (kb_n_v (kz_inc _)).trans rfl
        · rw [if_neg h0]
          refine (kb_b_ff (kz_eqf (b := 0) h0 (by omega) (by decide))).trans ?_
          refine (kb_g_tt (kb_in_n hi (by decide))).trans ?_
          refine (kb_n_v rfl).trans ?_
          exact (kb_n_v (kz_inc _)).trans rfl
      · unfold vp_updL
        by_cases e9 : k = i
        · subst e9
          rw [if_pos rfl]
        · rw [if_neg e9]
          exact h k (by omega)
  obtain ⟨x0, P1⟩ := u
  replace hu : ∀ k, k < 16 → P1 k = if k = 0 then 1 else 0 := hu
  have hWp : ∀ p, p ≤ pw → W ^ p < 600 ∧ (p < pw → W ^ p < 65) := by
    rcases hW with ⟨rfl, rfl⟩ | ⟨rfl, rfl⟩
    · intro p hp
      rcases (show p = 0 ∨ p = 1 ∨ p = 2 by omega) with rfl | rfl | rfl <;> decide
    · intro p hp
      rcases (show p = 0 ∨ p = 1 ∨ p = 2 ∨ p = 3 by omega) with rfl | rfl | rfl | rfl <;> decide
  have hWl : W < 22 := by omega
  refine kz_ok_o (Q := fun r => C → ∀ k, k < 16 → r.2.2 k = lN (if k = 4 * pw then W ^ pw else 0)) ?_ (fun u hu2 => ?_)
  · have key := kz_for (G := (Nat → Int64) × (Nat → Int64)) (S := fun x g => kSX5_above_36 w part (nI pw) x g.1 g.2) (g := (L, P1)) nI pw (fun p g => C → ∀ k, k < 16 → g.2 k = lN (if k = 4 * p then W ^ p else 0)) (by omega) ?_ ?_ (fun _ k hk => ?_)
    · obtain ⟨g, k1, k2⟩ := key
      exact ⟨_, k1, k2⟩
    · rintro p ⟨L, P⟩ hp h
      replace h : C → ∀ k, k < 16 → P k = lN (if k = 4 * p then W ^ p else 0) := h
      obtain ⟨g1, k1, k2⟩ := kz_for (S := fun x g => kSX5_above_46 x g) (g := L) nI 16 (fun i g => ∀ k, k < i → g k = (0 : Int64)) (by decide) (fun i g hi h => ⟨vp_updL g i 0, by
        show kSX5_above_46 (nI i) g = _
        unfold kSX5_above_46
        rw [nI_clamp (show i < 2 ^ 31 by omega)]
        refine (kb_b_ff (kz_nle (n := 16) hi (by decide))).trans ?_
        refine (kb_g_tt (kb_in_n hi (by decide))).trans ?_
        refine (kb_n_v rfl).trans ?_
        exact (kb_n_v (kz_inc _)).trans rfl, fun k hk => by
        unfold vp_updL
        by_cases e9 : k = i
        · rw [if_pos e9]
        · rw [if_neg e9]
          exact h k (by omega)⟩) (fun g h => kb_b_tt (kz_le (n := 16) (Nat.le_refl _) (by decide))) (fun k hk => absurd hk (by omega))
      obtain ⟨⟨x2, L2⟩, k3, k4⟩ := kz_a70 (C := C) (w := w) (part := part) (P := P) (L := g1) (fun c => (hC c).1) k2
      replace k4 : C → ∀ k, k < 16 → L2 k = if 4 ≤ k then P (k - 4) * w.toInt64 else 0 := k4
      obtain ⟨⟨c3, x3, P3⟩, k5, k6⟩ := kz_a157 (C := C) (L := L2) (P := P) (v := fun k => if k = 4 * (p + 1) then W ^ (p + 1) else 0) (fun k => by
        split
        · exact (hWp (p + 1) hp).1
        · decide) (fun c k hk => by
        rw [k4 c k hk]
        by_cases h4 : 4 ≤ k
        · rw [if_pos h4, h c (k - 4) (by omega), (hC c).2.1]
          by_cases h5 : k = 4 * (p + 1)
          · rw [if_pos (by omega), if_pos h5, kz_lm _ ((hWp p (by omega)).2 hp) W hWl, Nat.pow_succ]
          · rw [if_neg (by omega), if_neg h5, kz_lm 0 (by decide) W hWl, Nat.zero_mul]
        · rw [if_neg h4, if_neg (by omega)]
          rfl)
      refine ⟨(L2, P3), ?_, k6⟩
      show kSX5_above_36 w part (nI pw) (nI p) L P = _
      unfold kSX5_above_36
      refine (kb_b_ff (kz_nle hp (by omega))).trans ?_
      refine (kb_o_v k1).trans ?_
      refine (kb_o_v k3).trans ?_
      refine (kb_o_v k5).trans ?_
      exact (kb_n_v (kz_inc _)).trans rfl
    · rintro ⟨L, P⟩ h
      exact kb_b_tt (kz_le (Nat.le_refl _) (by omega))
    · show P1 k = _
      rw [hu k hk]
      by_cases h0 : k = 0
      · subst h0
        rw [if_pos rfl, if_pos (by omega), Nat.pow_zero]
        rfl
      · rw [if_neg h0, if_neg (by omega)]
        rfl
  obtain ⟨x2, L2, P2⟩ := u
  replace hu2 : C → ∀ k, k < 16 → P2 k = lN (if k = 4 * pw then W ^ pw else 0) := hu2
  have h4p : (4 : Int32) * nI pw = nI (4 * pw) := pk_mul 4 pw
  dsimp only
  rw [h4p, show nI (4 * pw) + (1 : Int32) = nI (4 * pw + 1) from nI_add _ 1, nI_clamp (show 4 * pw < 2 ^ 31 by omega), nI_clamp (show 4 * pw + 1 < 2 ^ 31 by omega)]
  refine kz_ok_g (kb_in_n (by omega) (by decide)) ?_
  refine kz_ok_g (kb_in_n (by omega) (by decide)) ?_
  refine kz_ok_n ?_
  refine kz_ok_o (Q := fun _ => True) ?_ (fun u _ => ?_)
  · refine kb_w_inv (σ := Int32 × Int32) (ρ := Int32 × Int32) (fun i u => u.2 = nI i) (fun _ => True) (4 * pw) ?_ ?_ (4 * pw) 0 _ 100000 (by omega) (by omega) rfl
    · rintro i ⟨x, y⟩ hi h
      replace h : y = nI i := h
      subst h
      have key : kz_ok (kSX5_above_240 (nI pw) P2 x (nI i)) (fun o => ∃ s', o = .inl s' ∧ s'.2 = nI (i + 1)) := by
        unfold kSX5_above_240
        rw [h4p]
        refine kz_ok_f (kz_nle hi (by omega)) ?_
        refine kz_ok_g (kb_in_n (by omega) (by decide)) ?_
        refine kz_ok_b ?_ ?_
        · refine kz_ok_n ?_
          exact kz_ok_s ⟨_, rfl, kz_inc i⟩
        · refine kz_ok_n ?_
          exact kz_ok_s ⟨_, rfl, kz_inc i⟩
      obtain ⟨o, k1, s', rfl, k2⟩ := key
      exact ⟨s', k1, k2⟩
    · rintro ⟨x, y⟩ h
      replace h : y = nI (4 * pw) := h
      subst h
      refine ⟨(x, nI (4 * pw)), ?_, trivial⟩
      show kSX5_above_240 (nI pw) P2 x (nI (4 * pw)) = _
      unfold kSX5_above_240
      rw [h4p]
      exact kb_b_tt (kz_le (Nat.le_refl _) (by omega))
  by_cases c : C
  · refine kz_ok_t ?_ (kz_ok_s ⟨Or.inr rfl, fun _ => rfl⟩)
    refine decide_eq_true ?_
    rw [lg_cmp_gt, hu2 c (4 * pw) (by omega), hu2 c (4 * pw + 1) (by omega), if_pos rfl, if_neg (by omega)]
    rw [show (lN 0 <<< ((16 : Int32).toInt64 &&& 63)) = 0 from by decide +kernel, Int64.add_zero]
    exact (hC c).2.2
  · refine kz_ok_b (kz_ok_s ⟨Or.inr rfl, fun q => absurd q c⟩) ?_
    refine kz_ok_b ?_ (kz_ok_s ⟨Or.inl rfl, fun q => absurd q c⟩)
    exact kz_ok_b (kz_ok_s ⟨Or.inl rfl, fun q => absurd q c⟩) (kz_ok_s ⟨Or.inr rfl, fun q => absurd q c⟩)
theorem kz_409 : ∀ n, n < 410 → (nI n).toInt64 < lN (21 ^ 2) ∧ (nI n).toInt64 < lN (8 ^ 3) := by decide +kernel
theorem kz_root {n pw : Nat} {L P : Nat → Int64} (hn : n < 410) (hpw : pw = 2 ∨ pw = 3) : kz_ok (kFX5_root (nI n) (nI pw) L P) (fun _ => True) := by
  obtain ⟨W, N, hW, hN⟩ : ∃ W N, ((W = 21 ∧ pw = 2) ∨ (W = 8 ∧ pw = 3)) ∧ N + 2 = W := by
    rcases hpw with rfl | rfl
    · exact ⟨21, 19, Or.inl ⟨rfl, rfl⟩, rfl⟩
    · exact ⟨8, 6, Or.inr ⟨rfl, rfl⟩, rfl⟩
  have hlt : (nI n).toInt64 < lN (W ^ pw) := by
    rcases hW with ⟨rfl, rfl⟩ | ⟨rfl, rfl⟩
    · exact (kz_409 n hn).1
    · exact (kz_409 n hn).2
  have hN2 : N < 20 := by omega
  unfold kFX5_root
  refine kz_ok_o (Q := fun _ => True) ?_ (fun u _ => ?_)
  · refine kb_w_ex (σ := Int32 × (Nat → Int64) × (Nat → Int64)) (ρ := Int32 × (Nat → Int64) × (Nat → Int64)) (fun i u => u.1 = nI (1 + i)) (fun _ => True) N ?_ ?_ N 0 _ 100000 (by omega) (by omega) rfl
    · rintro i ⟨x, L, P⟩ hi h
      replace h : x = nI (1 + i) := h
      subst h
      obtain ⟨⟨b, L2, P2⟩, k1, k2, -⟩ := kz_above (C := False) (w := nI (1 + i) + (1 : Int32)) (part := (0 : Int64)) (n := nI n) (L := L) (P := P) hpw (fun c => c.elim) hW
      replace k2 : b = 0 ∨ b = 1 := k2
      rcases k2 with rfl | rfl
      · refine Or.inl ⟨(nI (1 + (i + 1)), L2, P2), ?_, rfl⟩
        show kSX5_root_2 (nI n) (nI pw) (nI (1 + i)) L P = _
        unfold kSX5_root_2
        refine (kb_o_v k1).trans ?_
        refine (kb_b_tt (kz_t00)).trans ?_
        exact (kb_n_v (kz_inc _)).trans rfl
      · refine Or.inr ⟨(nI (1 + i), L2, P2), ?_, trivial⟩
        show kSX5_root_2 (nI n) (nI pw) (nI (1 + i)) L P = _
        unfold kSX5_root_2
        refine (kb_o_v k1).trans ?_
        exact kb_b_ff (kz_f10)
    · rintro ⟨x, L, P⟩ h
      replace h : x = nI (1 + N) := h
      subst h
      obtain ⟨⟨b, L2, P2⟩, k1, -, k2⟩ := kz_above (C := True) (w := nI (1 + N) + (1 : Int32)) (part := (0 : Int64)) (n := nI n) (L := L) (P := P) hpw (fun _ => ⟨rfl, by rw [show nI (1 + N) + (1 : Int32) = nI (1 + N + 1) from nI_add _ 1, show 1 + N + 1 = W by omega], hlt⟩) hW
      replace k2 : b = 1 := k2 trivial
      subst k2
      refine ⟨(nI (1 + N), L2, P2), ?_, trivial⟩
      show kSX5_root_2 (nI n) (nI pw) (nI (1 + N)) L P = _
      unfold kSX5_root_2
      refine (kb_o_v k1).trans ?_
      exact kb_b_ff (kz_f10)
  obtain ⟨wh, L, P⟩ := u
  refine kz_ok_o (Q := fun _ => True) ?_ (fun u _ => ⟨_, rfl, trivial⟩)
  refine kb_w_inv (σ := Int64 × Int32 × (Nat → Int64) × (Nat → Int64)) (ρ := Int64 × Int32 × (Nat → Int64) × (Nat → Int64)) (fun i s => s.2.1 = nI 63 - nI i) (fun _ => True) 64 ?_ ?_ 64 0 _ 100000 (by omega) (by decide) rfl
  · rintro i ⟨pt, x, L, P⟩ hi h
    replace h : x = nI 63 - nI i := h
    subst h
    obtain ⟨q1, q2⟩ := kz_dn i hi
    have key : kz_ok (kSX5_root_28 (nI n) (nI pw) wh pt (nI 63 - nI i) L P) (fun o => ∃ s', o = .inl s' ∧ s'.2.1 = nI 63 - nI (i + 1)) := by
      unfold kSX5_root_28
      refine kz_ok_f q2 ?_
      refine kz_ok_o (kz_above (C := False) hpw (fun c => c.elim) hW) (fun u _ => ?_)
      refine kz_ok_b ?_ ?_
      · refine kz_ok_n ?_
        refine kz_ok_n ?_
        exact kz_ok_s ⟨_, rfl, q1⟩
      · refine kz_ok_n ?_
        exact kz_ok_s ⟨_, rfl, q1⟩
    obtain ⟨o, k1, s', rfl, k2⟩ := key
    exact ⟨s', k1, k2⟩
  · rintro ⟨pt, x, L, P⟩ h
    replace h : x = nI 63 - nI 64 := h
    subst h
    exact ⟨_, kb_b_tt (show decide (nI 63 - nI 64 < 0) = true by decide), trivial⟩
-- ===== the primes
def kz_pr (p : Nat) : Bool := (List.range p).all (fun d => Nat.ble d 1 || !(p % d == 0))
def kz_cnt (p : Nat) : Nat := ((List.range p).filter (fun q => Nat.ble 2 q && kz_pr q)).length
theorem kz_prime : ∀ p, p < 410 → 2 ≤ p → kFX5_prime (nI p) = some (if kz_pr p = true then (1 : Int32) else 0) := by decide +kernel
theorem kz_cnts (p : Nat) : kz_cnt (p + 1) = kz_cnt p + if (Nat.ble 2 p && kz_pr p) = true then 1 else 0 := by
  unfold kz_cnt
  rw [List.range_succ, List.filter_append, List.length_append]
  by_cases h : (Nat.ble 2 p && kz_pr p) = true
  · rw [if_pos h, show List.filter (fun q => Nat.ble 2 q && kz_pr q) [p] = [p] from List.filter_cons_of_pos (p := fun q => Nat.ble 2 q && kz_pr q) h]
    rfl
  · rw [if_neg h, show List.filter (fun q => Nat.ble 2 q && kz_pr q) [p] = [] from List.filter_cons_of_neg (p := fun q => Nat.ble 2 q && kz_pr q) h]
    rfl
theorem kz_cnt80 : kz_cnt 2 = 0 ∧ kz_cnt 409 = 79 ∧ kz_cnt 410 = 80 := by decide +kernel
theorem kz_cntm {p q : Nat} (h : p ≤ q) : kz_cnt p ≤ kz_cnt q := by
  obtain ⟨d, rfl⟩ : ∃ d, q = p + d := ⟨q - p, by omega⟩
  clear h
  induction d with
  | zero => exact Nat.le_refl _
  | succ d ih =>
    have h1 := kz_cnts (p + d)
    rw [← Nat.add_assoc]
    omega
theorem kz_con4 {cubes limbs product roots : Nat → Int64} : kz_ok (kb_w (fun u : Int32 × Int32 × (Nat → Int64) × (Nat → Int64) × (Nat → Int64) × (Nat → Int64) => kSX5_constants_4 u.1 u.2.1 u.2.2.1 u.2.2.2.1 u.2.2.2.2.1 u.2.2.2.2.2) 100000 ((0 : Int32), (2 : Int32), cubes, limbs, product, roots)) (fun _ => True) := by
  refine kb_w_inv (σ := Int32 × Int32 × (Nat → Int64) × (Nat → Int64) × (Nat → Int64) × (Nat → Int64)) (ρ := Int32 × Int32 × (Nat → Int64) × (Nat → Int64) × (Nat → Int64) × (Nat → Int64)) (fun i s => s.1 = nI (kz_cnt (2 + i)) ∧ s.2.1 = nI (2 + i)) (fun _ => True) 408 ?_ ?_ 408 0 _ 100000 (by omega) (by decide) ⟨by rw [show kz_cnt (2 + 0) = 0 from kz_cnt80.1]; rfl, rfl⟩
  · rintro i ⟨x, y, cu, li, pr, ro⟩ hi ⟨h1, h2⟩
    replace h1 : x = nI (kz_cnt (2 + i)) := h1
    replace h2 : y = nI (2 + i) := h2
    subst h1 h2
    have hc : kz_cnt (2 + i) ≤ 79 := kz_cnt80.2.1 ▸ kz_cntm (show 2 + i ≤ 409 by omega)
    have hs := kz_cnts (2 + i)
    have hp := kz_prime (2 + i) (by omega) (by omega)
    rw [show Nat.ble 2 (2 + i) = true from Nat.ble_eq_true_of_le (by omega), Bool.true_and] at hs
    generalize kz_cnt (2 + i) = N at hc hs ⊢
    have key : kz_ok (kSX5_constants_4 (nI N) (nI (2 + i)) cu li pr ro) (fun o => ∃ s', o = .inl s' ∧ s'.1 = nI (kz_cnt (2 + (i + 1))) ∧ s'.2.1 = nI (2 + (i + 1))) := by
      unfold kSX5_constants_4
      refine kz_ok_f (kz_nle (n := 80) (by omega) (by decide)) ?_
      refine kz_ok_o (Q := fun x => x = if kz_pr (2 + i) = true then (1 : Int32) else 0) ⟨_, hp, rfl⟩ (fun x hx => ?_)
      subst hx
      by_cases hpr : kz_pr (2 + i) = true
      · rw [if_pos hpr] at hs ⊢
        refine kz_ok_f (by decide) ?_
        by_cases h16 : 16 ≤ N
        · refine kz_ok_t (kz_le (n := 16) h16 (by omega)) ?_
          refine kz_ok_o (kz_root (pw := 3) (by omega) (Or.inr rfl)) (fun u _ => ?_)
          refine kz_ok_g (kb_in_n (by omega) (by decide)) ?_
          refine kz_ok_n ?_
          refine kz_ok_n ?_
          refine kz_ok_n ?_
          exact kz_ok_s ⟨_, rfl, (kz_inc _).trans (congrArg nI hs.symm), kz_inc _⟩
        · refine kz_ok_f (kz_nle (n := 16) (by omega) (by decide)) ?_
          refine kz_ok_o (kz_root (pw := 2) (by omega) (Or.inl rfl)) (fun u _ => ?_)
          refine kz_ok_g (kb_in_n (by omega) (by decide)) ?_
          refine kz_ok_n ?_
          refine kz_ok_o (kz_root (pw := 3) (by omega) (Or.inr rfl)) (fun u _ => ?_)
          refine kz_ok_g (kb_in_n (by omega) (by decide)) ?_
          refine kz_ok_n ?_
          refine kz_ok_n ?_
          refine kz_ok_n ?_
          exact kz_ok_s ⟨_, rfl, (kz_inc _).trans (congrArg nI hs.symm), kz_inc _⟩
      · rw [if_neg hpr] at hs ⊢
        refine kz_ok_t (by decide) ?_
        refine kz_ok_n ?_
        exact kz_ok_s ⟨_, rfl, congrArg nI hs.symm, kz_inc _⟩
    obtain ⟨o, k1, s', rfl, k2⟩ := key
    exact ⟨s', k1, k2⟩
  · rintro ⟨x, y, cu, li, pr, ro⟩ ⟨h1, h2⟩
    replace h1 : x = nI (kz_cnt (2 + 408)) := h1
    rw [show kz_cnt (2 + 408) = 80 from kz_cnt80.2.2] at h1
    subst h1
    exact ⟨_, kb_b_tt (kz_le (n := 80) (Nat.le_refl _) (by decide)), trivial⟩
-- ===== turns and round constants
def kz_RC (i : Nat) : Int64 := [1, 32898, -9223372036854742902, -9223372034707259392, 32907, 2147483649, -9223372034707259263, -9223372036854743031, 138, 136, 2147516425, 2147483658, 2147516555, -9223372036854775669, -9223372036854742903, -9223372036854743037, -9223372036854743038, -9223372036854775680, 32778, -9223372034707292150, -9223372034707259263, -9223372036854742912, 2147483649, -9223372034707259384].getD i 0
theorem kz_con66 : kz_ok (kb_w (fun u : Int32 × Int32 × Int32 × (Nat → Int32) => kSX5_constants_66 u.1 u.2.1 u.2.2.1 u.2.2.2) 100000 ((1 : Int32), (0 : Int32), (0 : Int32), fun _ => 0)) (fun r => ∀ i, i < 25 → r.2.2.2 i = nI (kz_tn i)) := by
  obtain ⟨r, h1, h2⟩ := kz_ok_any (o := kb_w (fun u : Int32 × Int32 × Int32 × (Nat → Int32) => kSX5_constants_66 u.1 u.2.1 u.2.2.1 u.2.2.2) 100000 ((1 : Int32), (0 : Int32), (0 : Int32), fun _ => 0)) (p := fun r => (List.range 25).all (fun i => decide (r.2.2.2 i = nI (kz_tn i)))) (by decide +kernel)
  exact ⟨r, h1, fun i hi => of_decide_eq_true (List.all_eq_true.mp h2 i (List.mem_range.mpr hi))⟩
theorem kz_con122 : kz_ok (kb_w (fun u : Int32 × (Nat → Int64) => kSX5_constants_122 u.1 u.2) 100000 ((0 : Int32), fun _ => 0)) (fun r => ∀ i, i < 24 → r.2 i = kz_RC i) := by
  obtain ⟨r, h1, h2⟩ := kz_ok_any (o := kb_w (fun u : Int32 × (Nat → Int64) => kSX5_constants_122 u.1 u.2) 100000 ((0 : Int32), fun _ => 0)) (p := fun r => (List.range 24).all (fun i => decide (r.2 i = kz_RC i))) (by decide +kernel)
  exact ⟨r, h1, fun i hi => of_decide_eq_true (List.all_eq_true.mp h2 i (List.mem_range.mpr hi))⟩
theorem kz_constants (roots cubes s224 s256 limbs product state other column words : Nat → Int64) (block : Nat → Int32) :
    kz_ok (kFX5_constants roots cubes s224 s256 limbs product (fun _ => 0) (fun _ => 0) state other column words block) (fun r => (∀ i, i < 25 → r.2.2.2.2.2.2.2.2.2.2.1 i = nI (kz_tn i)) ∧ ∀ i, i < 24 → r.2.2.2.2.2.2.2.2.2.2.2.1 i = kz_RC i) := by
  unfold kFX5_constants
  refine kz_ok_o kz_con4 (fun u _ => ?_)
  refine kz_ok_o kz_con66 (fun v hv => ?_)
  refine kz_ok_o kz_con122 (fun w hw => ?_)
  refine kz_ok_o (kz_named224 _ _) (fun x _ => ?_)
  refine kz_ok_o (kz_named256 _ _) (fun y _ => ?_)
  exact kz_ok_s ⟨hv, hw⟩
/-! Layer 2: the relation of the two states; feed, end, copy, resize, alter, length, word, same of both. -/
theorem kz_i32 (x : Int32) : x < 0 ∨ ∃ n, n < 2 ^ 31 ∧ x = nI n := by
  by_cases h : x.toBitVec.toNat < 2 ^ 31
  · exact Or.inr ⟨x.toBitVec.toNat, h, (kz_nIx x).symm⟩
  · refine Or.inl ?_
    rw [Int32.lt_iff_toInt_lt]
    have h1 : x.toInt = x.toBitVec.toInt := rfl
    have h2 := x.toBitVec.isLt
    rw [h1, BitVec.toInt_eq_toNat_cond, if_neg (by omega)]
    show (x.toBitVec.toNat : Int) - ((2 ^ 32 : Nat) : Int) < 0
    omega
def kz_bt (x : Int32) : Prop := ∃ b, b < 256 ∧ x = kz_by b
theorem kz_bt_by (b : Nat) : kz_bt (kz_by b) := ⟨b % 256, Nat.mod_lt _ (by decide), (kz_by_mod b).symm⟩
theorem kz_bt_8 (x : Int32) : kz_bt x.toInt8.toInt32 := ⟨_, Nat.mod_lt _ (by decide), kz_xby x⟩
theorem kz_bt_0 : kz_bt 0 := ⟨0, by decide, by decide +kernel⟩
theorem kz_bt_n {x : Int32} (h : kz_bt x) : vp_nar .byte x = x := by
  obtain ⟨b, -, rfl⟩ := h
  exact kz_bn b
/-- the byte of a number -/
def kz_nb8 (x : Int32) : Nat := x.toBitVec.toNat % 256
theorem kz_bt_y {x : Int32} (h : kz_bt x) : x = kz_by (kz_nb8 x) := by
  obtain ⟨b, hb, rfl⟩ := h
  rw [show kz_nb8 (kz_by b) = b from (by decide +kernel : ∀ b, b < 256 → kz_nb8 (kz_by b) = b) b hb]
theorem kz_bt_Y {f : Nat → Int32} {n : Nat} (h : ∀ i, i < n → kz_bt (f i)) : kz_Y (fun i => kz_nb8 (f i)) f 0 n := fun i _ hi => ⟨Nat.mod_lt _ (by decide), kz_bt_y (h i hi)⟩
-- ===== the states
def kz_rel (ts : Int32) (sz tp : Nat → Int32) (X : Nat → Nat → Int32) (td : Int32) (ln tq : Nat → Int32) (Z : Nat → Nat → Int32) : Prop :=
  ∃ (T : Nat) (L : Nat → Nat), T ≤ 8192 ∧ ts = nI T ∧ td = nI T ∧ (∀ s, s < 8 → L s ≤ 8192 ∧ sz s = nI (L s) ∧ ln s = nI (L s)) ∧ (∀ i, i < T → tp i = tq i) ∧ (∀ i, i < 8192 → kz_bt (tp i) ∧ kz_bt (tq i)) ∧ (∀ s i, s < 8 → i < L s → X s i = Z s i) ∧ ∀ s i, s < 8 → i < 8192 → kz_bt (X s i) ∧ kz_bt (Z s i)
theorem kz_rel_0 : kz_rel 0 (fun _ => 0) (fun _ => 0) (fun _ _ => 0) 0 (fun _ => 0) (fun _ => 0) (fun _ _ => 0) :=
  ⟨0, fun _ => 0, by decide, rfl, rfl, fun s _ => ⟨Nat.zero_le _, rfl, rfl⟩, fun i h => absurd h (by omega), fun i _ => ⟨kz_bt_0, kz_bt_0⟩, fun s i _ h => absurd h (Nat.not_lt_zero i), fun s i _ _ => ⟨kz_bt_0, kz_bt_0⟩⟩
/-- one slot anew -/
theorem kz_rel_slot {ts td : Int32} {sz tp ln tq : Nat → Int32} {X Z : Nat → Nat → Int32} (h : kz_rel ts sz tp X td ln tq Z) {s n : Nat} {f g : Nat → Int32} (hn : n ≤ 8192) (hfg : ∀ i, i < n → f i = g i) (hf : ∀ i, i < 8192 → kz_bt (f i)) (hg : ∀ i, i < 8192 → kz_bt (g i)) : kz_rel ts (upd sz s (nI n)) tp (va_up X s f) td (upd ln s (nI n)) tq (va_up Z s g) := by
  obtain ⟨T, L, h1, h2, h3, h4, h5, h6, h7, h8⟩ := h
  refine ⟨T, fun k => if k = s then n else L k, h1, h2, h3, fun k hk => ?_, h5, h6, fun k i hk hi => ?_, fun k i hk hi => ?_⟩
  · dsimp only
    by_cases e : k = s
    · subst e
      rw [pk_us, pk_us, if_pos rfl]
      exact ⟨hn, rfl, rfl⟩
    · rw [pk_un e, pk_un e, if_neg e]
      exact h4 k hk
  · dsimp only at hi
    by_cases e : k = s
    · subst e
      rw [if_pos rfl] at hi
      rw [va_up_self, va_up_self]
      exact hfg i hi
    · rw [if_neg e] at hi
      rw [va_up_ne _ _ e, va_up_ne _ _ e]
      exact h7 k i hk hi
  · by_cases e : k = s
    · subst e
      rw [va_up_self, va_up_self]
      exact ⟨hf i hi, hg i hi⟩
    · rw [va_up_ne _ _ e, va_up_ne _ _ e]
      exact h8 k i hk hi
-- ===== the checks of numbers
abbrev kz_IAE : String := "java/lang/IllegalArgumentException"
abbrev kz_IOB : String := "java/lang/IndexOutOfBoundsException"
theorem kz_in_lo {x hi : Int32} (h : x < 0) : kFX5_in x (0 : Int32) hi = some (0 : Int32) := kb_b_tt (decide_eq_true h)
theorem kz_in_hi {n m : Nat} (h : m < n) (hn : n < 2 ^ 31) : kFX5_in (nI n) (0 : Int32) (nI m) = some (0 : Int32) := by
  unfold kFX5_in
  refine (kb_b_ff (decide_eq_false (nI_pos hn))).trans ?_
  exact kb_b_tt (kz_lt h hn)
theorem kz_in_ok {n m : Nat} (h : n ≤ m) (hm : m < 2 ^ 31) : kFX5_in (nI n) (0 : Int32) (nI m) = some (1 : Int32) := by
  unfold kFX5_in
  refine (kb_b_ff (decide_eq_false (nI_pos (by omega)))).trans ?_
  exact kb_b_ff (kz_nlt h hm)
theorem kz_slotC (x : Int32) : (kFX0_checkSlot x = some (.inr (kz_IAE, ())) ∧ kFX5_in x (0 : Int32) (7 : Int32) = some (0 : Int32)) ∨ ∃ s, s < 8 ∧ x = nI s ∧ kFX0_checkSlot x = some (.inl ()) ∧ kFX5_in x (0 : Int32) (7 : Int32) = some (1 : Int32) := by
  rcases kz_i32 x with h | ⟨n, hn, rfl⟩
  · exact Or.inl ⟨kb_b_tt (decide_eq_true h), kz_in_lo h⟩
  · by_cases h8 : n < 8
    · exact Or.inr ⟨n, h8, rfl, (kb_b_ff (decide_eq_false (nI_pos hn))).trans (kb_b_tt (kz_lt (b := 8) h8 (by decide))), kz_in_ok (m := 7) (by omega) (by decide)⟩
    · exact Or.inl ⟨(kb_b_ff (decide_eq_false (nI_pos hn))).trans (kb_b_ff (kz_nlt (b := 8) (by omega) hn)), kz_in_hi (m := 7) (by omega) hn⟩
theorem kz_sizeC (x : Int32) : (kFX0_checkSize x = some (.inr (kz_IAE, ())) ∧ kFX5_in x (0 : Int32) (8192 : Int32) = some (0 : Int32)) ∨ ∃ n, n ≤ 8192 ∧ x = nI n ∧ kFX0_checkSize x = some (.inl ()) ∧ kFX5_in x (0 : Int32) (8192 : Int32) = some (1 : Int32) := by
  rcases kz_i32 x with h | ⟨n, hn, rfl⟩
  · exact Or.inl ⟨kb_b_tt (decide_eq_true h), kz_in_lo h⟩
  · by_cases h8 : n ≤ 8192
    · exact Or.inr ⟨n, h8, rfl, (kb_b_ff (decide_eq_false (nI_pos hn))).trans (kb_b_tt (kz_le (i := 8192) h8 (by decide))), kz_in_ok (m := 8192) h8 (by decide)⟩
    · exact Or.inl ⟨(kb_b_ff (decide_eq_false (nI_pos hn))).trans (kb_b_ff (kz_nle (i := 8192) (by omega) hn)), kz_in_hi (m := 8192) (by omega) hn⟩
theorem kz_placeC (x : Int32) {s L : Nat} {sz : Nat → Int32} (hs : s < 8) (hL : L ≤ 8192) (hsz : sz s = nI L) : (kFX0_checkPlace (nI s) x sz = some (.inr (kz_IOB, ())) ∧ kFX5_in x (0 : Int32) (nI L - (1 : Int32)) = some (0 : Int32)) ∨ ∃ i, i < L ∧ x = nI i ∧ kFX0_checkPlace (nI s) x sz = some (.inl ()) ∧ kFX5_in x (0 : Int32) (nI L - (1 : Int32)) = some (1 : Int32) := by
  rcases kz_i32 x with h | ⟨n, hn, rfl⟩
  · exact Or.inl ⟨kb_b_tt (decide_eq_true h), kz_in_lo h⟩
  · have hC : kFX0_checkPlace (nI s) (nI n) sz = kb_b (decide (nI n < nI L)) (some (.inl ())) (some (.inr (kz_IOB, ()))) := by
      unfold kFX0_checkPlace
      rw [nI_clamp (show s < 2 ^ 31 by omega), hsz]
      refine (kb_b_ff (decide_eq_false (nI_pos hn))).trans ?_
      exact kb_g_tt (kb_in_n hs (by decide))
    by_cases h8 : n < L
    · refine Or.inr ⟨n, h8, rfl, hC.trans (kb_b_tt (kz_lt h8 (by omega))), ?_⟩
      rw [show nI L - (1 : Int32) = nI (L - 1) from pk_sub (b := 1) (by omega)]
      exact kz_in_ok (by omega) (by omega)
    · refine Or.inl ⟨hC.trans (kb_b_ff (kz_nlt (by omega) hn)), ?_⟩
      by_cases h0 : L = 0
      · subst h0
        unfold kFX5_in
        refine (kb_b_ff (decide_eq_false (nI_pos hn))).trans ?_
        refine kb_b_tt (decide_eq_true ?_)
        rw [show nI 0 - (1 : Int32) = -1 from by decide +kernel]
        rcases kz_i32 (nI n) with h1 | _
        · exact absurd h1 (nI_pos hn)
        · have h2 : (0 : Int32) ≤ nI n := nI_pos' hn
          rw [Int32.lt_iff_toInt_lt]
          rw [Int32.le_iff_toInt_le] at h2
          have h3 : (0 : Int32).toInt = 0 := by decide +kernel
          have h4 : (-1 : Int32).toInt = -1 := by decide +kernel
          omega
      · rw [show nI L - (1 : Int32) = nI (L - 1) from pk_sub (b := 1) (by omega)]
        exact kz_in_hi (by omega) hn
-- ===== feed
/-- the bytes of a number, the greatest first -/
def kz_w4 (v : Int32) (k : Nat) : Int32 := (v >>> ((nI (24 - 8 * k)) &&& 31)).toInt8.toInt32
theorem kz_dn24 : ∀ k, k < 4 → decide ((if k = 4 then (-8 : Int32) else nI (24 - 8 * k)) < 0) = false ∧ nI (24 - 8 * k) + Int32.ofInt (-8) = (if k + 1 = 4 then (-8 : Int32) else nI (24 - 8 * (k + 1))) ∧ (24 : Int32) - (8 : Int32) * nI k = nI (24 - 8 * k) := by decide +kernel
theorem kz_putOnTape {v : Int32} {T : Nat} {f : Nat → Int32} (hT : T + 4 ≤ 8192) : ∃ g, kFX0_putOnTape v (nI T) f = some (nI (T + 4), g) ∧ ∀ i, g i = if T ≤ i ∧ i < T + 4 then kz_w4 v (i - T) else f i := by
  obtain ⟨⟨x, t, g⟩, k1, k2, k3⟩ : ∃ r, kb_w (fun u : Int32 × Int32 × (Nat → Int32) => kSX0_putOnTape_3 v u.1 u.2.1 u.2.2) 100000 ((24 : Int32), nI T, f) = some r ∧ r.2.1 = nI (T + 4) ∧ ∀ i, r.2.2 i = if T ≤ i ∧ i < T + 4 then kz_w4 v (i - T) else f i := by
    refine kb_w_inv (σ := Int32 × Int32 × (Nat → Int32)) (ρ := Int32 × Int32 × (Nat → Int32)) (fun k u => u.1 = (if k = 4 then (-8 : Int32) else nI (24 - 8 * k)) ∧ u.2.1 = nI (T + k) ∧ ∀ i, u.2.2 i = if T ≤ i ∧ i < T + k then kz_w4 v (i - T) else f i) (fun r => r.2.1 = nI (T + 4) ∧ ∀ i, r.2.2 i = if T ≤ i ∧ i < T + 4 then kz_w4 v (i - T) else f i) 4 ?_ ?_ 4 0 _ 100000 (by omega) (by decide) ⟨rfl, rfl, fun i => by rw [if_neg (by omega)]⟩
    · rintro k ⟨x, t, g⟩ hk ⟨h1, h2, h3⟩
      replace h1 : x = (if k = 4 then (-8 : Int32) else nI (24 - 8 * k)) := h1
      replace h2 : t = nI (T + k) := h2
      replace h3 : ∀ i, g i = if T ≤ i ∧ i < T + k then kz_w4 v (i - T) else f i := h3
      obtain ⟨q1, q2, -⟩ := kz_dn24 k hk
      rw [if_neg (show ¬ k = 4 by omega)] at h1 q1
      subst h1 h2
      refine ⟨((if k + 1 = 4 then (-8 : Int32) else nI (24 - 8 * (k + 1))), nI (T + (k + 1)), upd g (T + k) (kz_w4 v k)), ?_, rfl, rfl, fun i => ?_⟩
      · show kSX0_putOnTape_3 v (nI (24 - 8 * k)) (nI (T + k)) g = _
        unfold kSX0_putOnTape_3
        rw [nI_clamp (show T + k < 2 ^ 31 by omega), pk_vb, show nI (T + k) + (1 : Int32) = nI (T + (k + 1)) from nI_add (T + k) 1, q2]
        refine (kb_b_ff q1).trans ?_
        refine (kb_g_tt (kb_in_n (by omega) (by decide))).trans ?_
        rfl
      · show upd g (T + k) (kz_w4 v k) i = _
        by_cases e : i = T + k
        · subst e
          rw [pk_us, if_pos ⟨by omega, by omega⟩, show T + k - T = k by omega]
        · rw [pk_un e, h3 i]
          by_cases e2 : T ≤ i ∧ i < T + k
          · rw [if_pos e2, if_pos ⟨e2.1, by omega⟩]
          · rw [if_neg e2, if_neg (by omega)]
    · rintro ⟨x, t, g⟩ ⟨h1, h2, h3⟩
      replace h1 : x = -8 := h1
      subst h1
      exact ⟨(-8, t, g), kb_b_tt (show decide ((-8 : Int32) < 0) = true by decide), h2, h3⟩
  refine ⟨g, ?_, k3⟩
  replace k2 : t = nI (T + 4) := k2
  subst k2
  unfold kFX0_putOnTape
  exact (kb_o_v k1).trans rfl
theorem kz_rword {v : Int32} {T : Nat} {f : Nat → Int32} (hT : T + 4 ≤ 8192) : ∃ g, kFX5_word v (nI T) f = some (nI (T + 4), g) ∧ ∀ i, g i = if T ≤ i ∧ i < T + 4 then kz_w4 v (i - T) else f i := by
  have key := kz_for (S := fun x g => kSX5_word_2 v (nI T) x g) (g := f) nI 4 (fun k g => ∀ i, g i = if T ≤ i ∧ i < T + k then kz_w4 v (i - T) else f i) (by decide) (fun k g hk h => ?_) (fun g h => kb_b_tt (kz_le (n := 4) (Nat.le_refl _) (by decide))) (fun i => by rw [if_neg (by omega)])
  · obtain ⟨g, k1, k2⟩ := key
    refine ⟨g, ?_, k2⟩
    unfold kFX5_word
    refine (kb_o_v k1).trans ?_
    exact (kb_n_v (nI_add T 4)).trans rfl
  · refine ⟨upd g (T + k) (kz_w4 v k), ?_, fun i => ?_⟩
    · show kSX5_word_2 v (nI T) (nI k) g = _
      unfold kSX5_word_2
      rw [nI_add, nI_clamp (show T + k < 2 ^ 31 by omega), pk_vb, (kz_dn24 k hk).2.2]
      refine (kb_b_ff (kz_nle (n := 4) hk (by decide))).trans ?_
      refine (kb_g_tt (kb_in_n (by omega) (by decide))).trans ?_
      refine (kb_n_v rfl).trans ?_
      exact (kb_n_v (kz_inc _)).trans rfl
    · show upd g (T + k) (kz_w4 v k) i = _
      by_cases e : i = T + k
      · subst e
        rw [pk_us, if_pos ⟨by omega, by omega⟩, show T + k - T = k by omega]
      · rw [pk_un e, h i]
        by_cases e2 : T ≤ i ∧ i < T + k
        · rw [if_pos e2, if_pos ⟨e2.1, by omega⟩]
        · rw [if_neg e2, if_neg (by omega)]
/-- one number on both tapes -/
theorem kz_tape1 {v : Int32} {T : Nat} {f g : Nat → Int32} (hT : T + 4 ≤ 8192) (h1 : ∀ i, i < T → f i = g i) (h2 : ∀ i, i < 8192 → kz_bt (f i) ∧ kz_bt (g i)) : ∃ f' g', kFX0_putOnTape v (nI T) f = some (nI (T + 4), f') ∧ kFX5_word v (nI T) g = some (nI (T + 4), g') ∧ (∀ i, i < T + 4 → f' i = g' i) ∧ ∀ i, i < 8192 → kz_bt (f' i) ∧ kz_bt (g' i) := by
  obtain ⟨f', p1, e1⟩ := kz_putOnTape (v := v) (f := f) hT
  obtain ⟨g', p2, e2⟩ := kz_rword (v := v) (f := g) hT
  refine ⟨f', g', p1, p2, fun i hi => ?_, fun i hi => ?_⟩
  · rw [e1 i, e2 i]
    by_cases c : T ≤ i ∧ i < T + 4
    · rw [if_pos c, if_pos c]
    · rw [if_neg c, if_neg c]
      exact h1 i (by omega)
  · rw [e1 i, e2 i]
    by_cases c : T ≤ i ∧ i < T + 4
    · rw [if_pos c, if_pos c]
      exact ⟨kz_bt_8 _, kz_bt_8 _⟩
    · rw [if_neg c, if_neg c]
      exact h2 i hi
theorem kz_T_feed {ts td : Int32} {sz tp ln tq : Nat → Int32} {X Z : Nat → Nat → Int32} (h : kz_rel ts sz tp X td ln tq Z) (a b c d e : Int32) :
    (∃ v ts' tp' td' tq', kFX0_feed a b c d e ts tp = some (.inl (v, ts', tp')) ∧ kFX5_feed a b c d e td tq = some (v, (0 : Int32), td', tq') ∧ kz_rel ts' sz tp' X td' ln tq' Z) ∨ (kFX0_feed a b c d e ts tp = some (.inr (kz_IOB, (ts, tp))) ∧ ∃ v, kFX5_feed a b c d e td tq = some (v, (1 : Int32), td, tq)) := by
  obtain ⟨T, L, h1, h2, h3, h4, h5, h6, h7, h8⟩ := h
  subst h2 h3
  have e20 : nI T + (20 : Int32) = nI (T + 20) := nI_add T 20
  by_cases h20 : T + 20 ≤ 8192
  · obtain ⟨f1, g1, p1, q1, i1, j1⟩ := kz_tape1 (v := a) (show T + 4 ≤ 8192 by omega) h5 h6
    obtain ⟨f2, g2, p2, q2, i2, j2⟩ := kz_tape1 (v := b) (show T + 4 + 4 ≤ 8192 by omega) i1 j1
    obtain ⟨f3, g3, p3, q3, i3, j3⟩ := kz_tape1 (v := c) (show T + 4 + 4 + 4 ≤ 8192 by omega) i2 j2
    obtain ⟨f4, g4, p4, q4, i4, j4⟩ := kz_tape1 (v := d) (show T + 4 + 4 + 4 + 4 ≤ 8192 by omega) i3 j3
    obtain ⟨f5, g5, p5, q5, i5, j5⟩ := kz_tape1 (v := e) (show T + 4 + 4 + 4 + 4 + 4 ≤ 8192 by omega) i4 j4
    refine Or.inl ⟨nI (T + 4 + 4 + 4 + 4 + 4), nI (T + 4 + 4 + 4 + 4 + 4), f5, nI (T + 4 + 4 + 4 + 4 + 4), g5, ?_, ?_, T + 4 + 4 + 4 + 4 + 4, L, by omega, rfl, rfl, h4, i5, j5, h7, h8⟩
    · unfold kFX0_feed
      rw [e20]
      refine (kb_b_tt (kz_le (i := 8192) h20 (by decide))).trans ?_
      refine (kb_o_v p1).trans ?_
      refine (kb_o_v p2).trans ?_
      refine (kb_o_v p3).trans ?_
      refine (kb_o_v p4).trans ?_
      exact (kb_o_v p5).trans rfl
    · unfold kFX5_feed kJX5_feed_19
      rw [e20]
      refine (kb_b_ff (kz_nlt (a := 8192) h20 (by decide))).trans ?_
      refine (kb_o_v (kz_good1 1)).trans ?_
      refine (kb_b_ff (by decide)).trans ?_
      refine (kb_o_v q1).trans ?_
      refine (kb_o_v q2).trans ?_
      refine (kb_o_v q3).trans ?_
      refine (kb_o_v q4).trans ?_
      exact (kb_o_v q5).trans rfl
  · refine Or.inr ⟨?_, (0 : Int32), ?_⟩
    · unfold kFX0_feed
      rw [e20]
      exact kb_b_ff (kz_nle (i := 8192) (by omega) (by omega))
    · unfold kFX5_feed kJX5_feed_19
      rw [e20]
      refine (kb_b_tt (kz_lt (a := 8192) (by omega) (by omega))).trans ?_
      refine (kb_o_v (kz_good0 1)).trans ?_
      exact kb_b_tt (by decide)
-- ===== end
/-- bytes one by one from one row into another -/
theorem kz_rcopy {S : Int32 → (Nat → Nat → Int32) → Option ((Int32 × (Nat → Nat → Int32)) ⊕ (Int32 × (Nat → Nat → Int32)))} {X : Nat → Nat → Int32} {f : Nat → Int32} {s a n : Nat} (ha : a ≤ n) (hn : n ≤ 8192)
    (hs : ∀ k g, a ≤ k → k < n → (∀ i, g i = if a ≤ i ∧ i < k then f i else X s i) → S (nI k) (va_up X s g) = some (.inl (nI (k + 1), va_up X s (upd g k (f k))))) (hx : ∀ g, S (nI n) (va_up X s g) = some (.inr (nI n, va_up X s g))) :
    ∃ g, kb_w (fun u : Int32 × (Nat → Nat → Int32) => S u.1 u.2) 100000 (nI a, X) = some (nI n, va_up X s g) ∧ ∀ i, g i = if a ≤ i ∧ i < n then f i else X s i := by
  have key := kz_for (S := S) (g := X) (fun k => nI (a + k)) (n - a) (fun k w => ∃ g, w = va_up X s g ∧ ∀ i, g i = if a ≤ i ∧ i < a + k then f i else X s i) (by omega) (fun k w hk h => ?_) (fun w h => ?_) ⟨X s, (kz_vi X s).symm, fun i => by rw [if_neg (by omega)]⟩
  · obtain ⟨w, k1, g, rfl, k2⟩ := key
    rw [show a + (n - a) = n by omega] at k1 k2
    exact ⟨g, k1, k2⟩
  · obtain ⟨g, rfl, h⟩ := h
    refine ⟨va_up X s (upd g (a + k) (f (a + k))), hs (a + k) g (by omega) (by omega) h, upd g (a + k) (f (a + k)), rfl, fun i => ?_⟩
    by_cases e : i = a + k
    · subst e
      rw [pk_us, if_pos ⟨by omega, by omega⟩]
    · rw [pk_un e, h i]
      by_cases e2 : a ≤ i ∧ i < a + k
      · rw [if_pos e2, if_pos ⟨e2.1, by omega⟩]
      · rw [if_neg e2, if_neg (by omega)]
  · obtain ⟨g, rfl, h⟩ := h
    rw [show a + (n - a) = n by omega]
    exact hx g
theorem kz_T_end {ts td : Int32} {sz tp ln tq : Nat → Int32} {X Z : Nat → Nat → Int32} (h : kz_rel ts sz tp X td ln tq Z) (p1 p2 : Int32) :
    (∃ v ts' sz' X' td' ln' Z', kFX0_end p1 p2 ts sz tp X = some (.inl (v, ts', sz', X')) ∧ kFX5_end p1 p2 td tq ln Z = some (v, (0 : Int32), td', ln', Z') ∧ kz_rel ts' sz' tp X' td' ln' tq Z') ∨ (kFX0_end p1 p2 ts sz tp X = some (.inr (kz_IAE, (ts, sz, X))) ∧ ∃ v, kFX5_end p1 p2 td tq ln Z = some (v, (1 : Int32), td, ln, Z)) ∨ (kFX0_end p1 p2 ts sz tp X = some (.inr (kz_IOB, (ts, sz, X))) ∧ ∃ v, kFX5_end p1 p2 td tq ln Z = some (v, (2 : Int32), td, ln, Z)) := by
  have h0 := h
  obtain ⟨T, L, h1, h2, h3, h4, h5, h6, h7, h8⟩ := h
  subst h2 h3
  have bad : kJX5_end_26 p1 p2 (nI T) tq ln Z = some ((0 : Int32), (1 : Int32), nI T, ln, Z) := by
    unfold kJX5_end_26 kJX5_end_27
    refine (kb_o_v (kz_good0 1)).trans ?_
    exact kb_b_tt (by decide)
  rcases kz_slotC p1 with ⟨c1, r1⟩ | ⟨s, hs, rfl, c1, r1⟩
  · refine Or.inr (Or.inl ⟨?_, (0 : Int32), ?_⟩)
    · unfold kFX0_end
      exact (kb_o_v c1).trans rfl
    · unfold kFX5_end
      refine (kb_o_v r1).trans ?_
      exact (kb_b_tt (by decide)).trans bad
  rcases kz_sizeC p2 with ⟨c2, r2⟩ | ⟨n, hn, rfl, c2, r2⟩
  · refine Or.inr (Or.inl ⟨?_, (0 : Int32), ?_⟩)
    · unfold kFX0_end
      refine (kb_o_v c1).trans ?_
      refine kz_il ?_
      exact (kb_o_v c2).trans rfl
    · unfold kFX5_end
      refine (kb_o_v r1).trans ?_
      refine (kb_b_ff (by decide)).trans ?_
      refine (kb_o_v r2).trans ?_
      exact (kb_b_tt (by decide)).trans bad
  have hpre : ∀ {o}, kJX5_end_27 (nI s) (nI n) (nI T) tq ln Z (1 : Int32) = o → kFX5_end (nI s) (nI n) (nI T) tq ln Z = o := fun ho => by
    unfold kFX5_end
    refine (kb_o_v r1).trans ?_
    refine (kb_b_ff (by decide)).trans ?_
    refine (kb_o_v r2).trans ?_
    exact (kb_b_ff (by decide)).trans ho
  by_cases hT : n ≤ T
  · obtain ⟨g, k1, k2⟩ := kz_rcopy (S := fun x w => kSX5_end_59 (nI s) (nI n) tq x w) (X := Z) (f := tq) (s := s) (a := 0) (n := n) (Nat.zero_le _) hn (fun k g _ hk _ => by
      show kSX5_end_59 (nI s) (nI n) tq (nI k) (va_up Z s g) = _
      unfold kSX5_end_59
      rw [nI_clamp (show s < 2 ^ 31 by omega), nI_clamp (show k < 2 ^ 31 by omega), va_up_self, kz_vu, kz_bt_n (h6 k (by omega)).2]
      refine (kb_b_ff (kz_nle hk (by omega))).trans ?_
      refine (kb_g_tt (kb_in_n hs (by decide))).trans ?_
      refine (kb_g_tt (kb_in_n (by omega) (by decide))).trans ?_
      refine (kb_g_tt (kb_in_n (by omega) (by decide))).trans ?_
      refine (kb_n_v rfl).trans ?_
      exact (kb_n_v (kz_inc _)).trans rfl) (fun g => kb_b_tt (kz_le (Nat.le_refl _) (by omega)))
    refine Or.inl ⟨nI n, 0, upd sz s (nI n), va_up X s (va_cpy tp (X s) 0 0 n), 0, upd ln s (nI n), va_up Z s g, ?_, hpre ?_, ?_⟩
    · unfold kFX0_end
      refine (kb_o_v c1).trans ?_
      refine kz_il ?_
      refine (kb_o_v c2).trans ?_
      refine kz_il ?_
      rw [nI_clamp (show s < 2 ^ 31 by omega), nI_clamp (show n < 2 ^ 31 by omega)]
      refine (kb_b_tt (kz_le hT (by omega))).trans ?_
      refine (kb_g_tt (kb_in_n hs (by decide))).trans ?_
      refine (kb_g_tt (kz_cp (sp := 0) (dp := 0) (by omega) (by omega) (by decide) (by decide))).trans ?_
      refine (kb_g_tt (kz_ft (a := 0) (fun i hi => by rw [Nat.zero_add]; obtain ⟨b, -, hb⟩ := (h6 i (by omega)).1; exact ⟨b, hb⟩))).trans ?_
      refine (kb_n_v (v := va_up X s (va_cpy tp (X s) 0 0 n)) rfl).trans ?_
      refine (kb_g_tt (kb_in_n hs (by decide))).trans ?_
      exact (kb_n_v rfl).trans rfl
    · unfold kJX5_end_27
      refine (kb_o_v (kz_good1 1)).trans ?_
      refine (kb_b_ff (by decide)).trans ?_
      refine (kb_b_ff (kz_nlt hT (by omega))).trans ?_
      unfold kJX5_end_48
      refine (kb_o_v (kz_good1 2)).trans ?_
      refine (kb_b_ff (by decide)).trans ?_
      refine (kb_o_v k1).trans ?_
      rw [nI_clamp (show s < 2 ^ 31 by omega)]
      refine (kb_g_tt (kb_in_n hs (by decide))).trans ?_
      exact (kb_n_v rfl).trans rfl
    · have h9 : kz_rel 0 sz tp X 0 ln tq Z := ⟨0, L, by decide, rfl, rfl, h4, fun i hi => absurd hi (by omega), h6, h7, h8⟩
      refine kz_rel_slot h9 hn (fun i hi => ?_) (fun i hi => ?_) (fun i hi => ?_)
      · unfold va_cpy
        rw [k2 i, if_pos ⟨by omega, by omega⟩, if_pos ⟨by omega, by omega⟩, Nat.zero_add, Nat.sub_zero]
        exact h5 i (by omega)
      · unfold va_cpy
        by_cases c : 0 ≤ i ∧ i < 0 + n
        · rw [if_pos c, Nat.zero_add, Nat.sub_zero]
          exact (h6 i hi).1
        · rw [if_neg c]
          exact (h8 s i hs hi).1
      · rw [k2 i]
        by_cases c : 0 ≤ i ∧ i < n
        · rw [if_pos c]
          exact (h6 i hi).2
        · rw [if_neg c]
          exact (h8 s i hs hi).2
  · refine Or.inr (Or.inr ⟨?_, (0 : Int32), hpre ?_⟩)
    · unfold kFX0_end
      refine (kb_o_v c1).trans ?_
      refine kz_il ?_
      refine (kb_o_v c2).trans ?_
      refine kz_il ?_
      exact kb_b_ff (kz_nle (by omega) (by omega))
    · unfold kJX5_end_27
      refine (kb_o_v (kz_good1 1)).trans ?_
      refine (kb_b_ff (by decide)).trans ?_
      refine (kb_b_tt (kz_lt (by omega) (by omega))).trans ?_
      unfold kJX5_end_48
      refine (kb_o_v (kz_good0 2)).trans ?_
      exact kb_b_tt (by decide)
-- ===== copy
theorem kz_T_copy {ts td : Int32} {sz tp ln tq : Nat → Int32} {X Z : Nat → Nat → Int32} (h : kz_rel ts sz tp X td ln tq Z) (p1 p2 : Int32) :
    (∃ v sz' X' ln' Z', kFX0_copy p1 p2 sz X = some (.inl (v, sz', X')) ∧ kFX5_copy p1 p2 ln Z = some (v, (0 : Int32), ln', Z') ∧ kz_rel ts sz' tp X' td ln' tq Z') ∨ (kFX0_copy p1 p2 sz X = some (.inr (kz_IAE, (sz, X))) ∧ ∃ v, kFX5_copy p1 p2 ln Z = some (v, (1 : Int32), ln, Z)) := by
  have h0 := h
  obtain ⟨T, L, h1, h2, h3, h4, h5, h6, h7, h8⟩ := h
  have bad : kJX5_copy_25 p1 p2 ln Z = some ((0 : Int32), (1 : Int32), ln, Z) := by
    unfold kJX5_copy_25 kJX5_copy_26
    refine (kb_o_v (kz_good0 1)).trans ?_
    exact kb_b_tt (by decide)
  rcases kz_slotC p1 with ⟨c1, r1⟩ | ⟨s, hs, rfl, c1, r1⟩
  · refine Or.inr ⟨?_, (0 : Int32), ?_⟩
    · unfold kFX0_copy
      exact (kb_o_v c1).trans rfl
    · unfold kFX5_copy
      refine (kb_o_v r1).trans ?_
      exact (kb_b_tt (by decide)).trans bad
  rcases kz_slotC p2 with ⟨c2, r2⟩ | ⟨t, ht, rfl, c2, r2⟩
  · refine Or.inr ⟨?_, (0 : Int32), ?_⟩
    · unfold kFX0_copy
      refine (kb_o_v c1).trans ?_
      refine kz_il ?_
      exact (kb_o_v c2).trans rfl
    · unfold kFX5_copy
      refine (kb_o_v r1).trans ?_
      refine (kb_b_ff (by decide)).trans ?_
      refine (kb_o_v r2).trans ?_
      exact (kb_b_tt (by decide)).trans bad
  obtain ⟨hL, hsz, hln⟩ := h4 s hs
  obtain ⟨g, k1, k2⟩ := kz_rcopy (S := fun x w => kSX5_copy_37 (nI s) (nI t) ln x w) (X := Z) (f := Z s) (s := t) (a := 0) (n := L s) (Nat.zero_le _) hL (fun k g _ hk hg => by
    show kSX5_copy_37 (nI s) (nI t) ln (nI k) (va_up Z t g) = _
    have hst : va_up Z t g s k = Z s k := by
      by_cases e : s = t
      · subst e
        rw [va_up_self, hg k, if_neg (by omega)]
      · rw [va_up_ne _ _ e]
    unfold kSX5_copy_37
    rw [nI_clamp (show s < 2 ^ 31 by omega), nI_clamp (show t < 2 ^ 31 by omega), nI_clamp (show k < 2 ^ 31 by omega), hln, hst, va_up_self, kz_vu, kz_bt_n (h8 s k hs (by omega)).2]
    refine (kb_g_tt (kb_in_n hs (by decide))).trans ?_
    refine (kb_b_ff (kz_nle hk (by omega))).trans ?_
    refine (kb_g_tt (kb_in_n ht (by decide))).trans ?_
    refine (kb_g_tt (kb_in_n hs (by decide))).trans ?_
    refine (kb_g_tt (kb_in_n (by omega) (by decide))).trans ?_
    refine (kb_g_tt (kb_in_n (by omega) (by decide))).trans ?_
    refine (kb_n_v rfl).trans ?_
    exact (kb_n_v (kz_inc _)).trans rfl) (fun g => by
    show kSX5_copy_37 (nI s) (nI t) ln (nI (L s)) (va_up Z t g) = _
    unfold kSX5_copy_37
    rw [nI_clamp (show s < 2 ^ 31 by omega), hln]
    refine (kb_g_tt (kb_in_n hs (by decide))).trans ?_
    exact kb_b_tt (kz_le (Nat.le_refl _) (by omega)))
  refine Or.inl ⟨nI (L s), upd sz t (nI (L s)), va_up X t (va_cpy (X s) (X t) 0 0 (L s)), upd ln t (nI (L s)), va_up Z t g, ?_, ?_, ?_⟩
  · unfold kFX0_copy
    refine (kb_o_v c1).trans ?_
    refine kz_il ?_
    refine (kb_o_v c2).trans ?_
    refine kz_il ?_
    rw [nI_clamp (show s < 2 ^ 31 by omega), nI_clamp (show t < 2 ^ 31 by omega), hsz, nI_clamp (show L s < 2 ^ 31 by omega)]
    refine (kb_g_tt (kb_in_n hs (by decide))).trans ?_
    refine (kb_g_tt (kb_in_n ht (by decide))).trans ?_
    refine (kb_g_tt (kb_in_n hs (by decide))).trans ?_
    refine (kb_g_tt (kz_cp (sp := 0) (dp := 0) (by omega) (by omega) (by decide) (by decide))).trans ?_
    refine (kb_g_tt (kz_ft (a := 0) (fun i hi => by rw [Nat.zero_add]; obtain ⟨b, -, hb⟩ := (h8 s i hs (by omega)).1; exact ⟨b, hb⟩))).trans ?_
    refine (kb_n_v (v := va_up X t (va_cpy (X s) (X t) 0 0 (L s))) rfl).trans ?_
    refine (kb_g_tt (kb_in_n hs (by decide))).trans ?_
    refine (kb_g_tt (kb_in_n ht (by decide))).trans ?_
    refine (kb_n_v (v := upd sz t (nI (L s))) rfl).trans ?_
    refine (kb_g_tt (kb_in_n ht (by decide))).trans ?_
    rw [pk_us]
  · unfold kFX5_copy
    refine (kb_o_v r1).trans ?_
    refine (kb_b_ff (by decide)).trans ?_
    refine (kb_o_v r2).trans ?_
    refine (kb_b_ff (by decide)).trans ?_
    unfold kJX5_copy_26
    refine (kb_o_v (kz_good1 1)).trans ?_
    refine (kb_b_ff (by decide)).trans ?_
    refine (kb_o_v k1).trans ?_
    rw [nI_clamp (show s < 2 ^ 31 by omega), nI_clamp (show t < 2 ^ 31 by omega), hln]
    refine (kb_g_tt (kb_in_n hs (by decide))).trans ?_
    refine (kb_g_tt (kb_in_n ht (by decide))).trans ?_
    refine (kb_n_v (v := upd ln t (nI (L s))) rfl).trans ?_
    refine (kb_g_tt (kb_in_n ht (by decide))).trans ?_
    dsimp only
    rw [pk_us]
  · refine kz_rel_slot h0 hL (fun i hi => ?_) (fun i hi => ?_) (fun i hi => ?_)
    · unfold va_cpy
      rw [k2 i, if_pos ⟨by omega, by omega⟩, if_pos ⟨by omega, by omega⟩, Nat.zero_add, Nat.sub_zero]
      exact h7 s i hs hi
    · unfold va_cpy
      by_cases c : 0 ≤ i ∧ i < 0 + L s
      · rw [if_pos c, Nat.zero_add, Nat.sub_zero]
        exact (h8 s i hs hi).1
      · rw [if_neg c]
        exact (h8 t i ht hi).1
    · rw [k2 i]
      by_cases c : 0 ≤ i ∧ i < L s
      · rw [if_pos c]
        exact (h8 s i hs hi).2
      · rw [if_neg c]
        exact (h8 t i ht hi).2
-- ===== resize
theorem kz_n0 : vp_nar .byte (0 : Int32) = 0 := kz_bt_n kz_bt_0
theorem kz_T_resize {ts td : Int32} {sz tp ln tq : Nat → Int32} {X Z : Nat → Nat → Int32} (h : kz_rel ts sz tp X td ln tq Z) (p1 p2 : Int32) :
    (∃ v sz' X' ln' Z', kFX0_resize p1 p2 sz X = some (.inl (v, sz', X')) ∧ kFX5_resize p1 p2 ln Z = some (v, (0 : Int32), ln', Z') ∧ kz_rel ts sz' tp X' td ln' tq Z') ∨ (kFX0_resize p1 p2 sz X = some (.inr (kz_IAE, (sz, X))) ∧ ∃ v, kFX5_resize p1 p2 ln Z = some (v, (1 : Int32), ln, Z)) := by
  have h0 := h
  obtain ⟨T, L, h1, h2, h3, h4, h5, h6, h7, h8⟩ := h
  have bad : kJX5_resize_26 p1 p2 ln Z = some ((0 : Int32), (1 : Int32), ln, Z) := by
    unfold kJX5_resize_26 kJX5_resize_27
    refine (kb_o_v (kz_good0 1)).trans ?_
    exact kb_b_tt (by decide)
  rcases kz_slotC p1 with ⟨c1, r1⟩ | ⟨s, hs, rfl, c1, r1⟩
  · refine Or.inr ⟨?_, (0 : Int32), ?_⟩
    · unfold kFX0_resize
      exact (kb_o_v c1).trans rfl
    · unfold kFX5_resize
      refine (kb_o_v r1).trans ?_
      exact (kb_b_tt (by decide)).trans bad
  rcases kz_sizeC p2 with ⟨c2, r2⟩ | ⟨n, hn, rfl, c2, r2⟩
  · refine Or.inr ⟨?_, (0 : Int32), ?_⟩
    · unfold kFX0_resize
      refine (kb_o_v c1).trans ?_
      refine kz_il ?_
      exact (kb_o_v c2).trans rfl
    · unfold kFX5_resize
      refine (kb_o_v r1).trans ?_
      refine (kb_b_ff (by decide)).trans ?_
      refine (kb_o_v r2).trans ?_
      exact (kb_b_tt (by decide)).trans bad
  obtain ⟨hL, hsz, hln⟩ := h4 s hs
  have hcl : ∀ k g, L s ≤ k → k < n → kSX0_resize_18 (nI s) (nI n) (nI k) (va_up X s g) = some (.inl (nI (k + 1), va_up X s (upd g k 0))) := fun k g _ hk => by
    unfold kSX0_resize_18
    rw [nI_clamp (show s < 2 ^ 31 by omega), nI_clamp (show k < 2 ^ 31 by omega), va_up_self, kz_vu, kz_n0]
    refine (kb_b_ff (kz_nle hk (by omega))).trans ?_
    refine (kb_g_tt (kb_in_n hs (by decide))).trans ?_
    refine (kb_g_tt (kb_in_n (by omega) (by decide))).trans ?_
    refine (kb_n_v rfl).trans ?_
    exact (kb_n_v (kz_inc _)).trans rfl
  have hrf : ∀ k g, L s ≤ k → k < n → kSX5_resize_46 (nI s) (nI n) (nI k) (va_up Z s g) = some (.inl (nI (k + 1), va_up Z s (upd g k 0))) := fun k g _ hk => by
    unfold kSX5_resize_46
    rw [nI_clamp (show s < 2 ^ 31 by omega), nI_clamp (show k < 2 ^ 31 by omega), va_up_self, kz_vu, kz_n0]
    refine (kb_b_ff (kz_nle hk (by omega))).trans ?_
    refine (kb_g_tt (kb_in_n hs (by decide))).trans ?_
    refine (kb_g_tt (kb_in_n (by omega) (by decide))).trans ?_
    refine (kb_n_v rfl).trans ?_
    exact (kb_n_v (kz_inc _)).trans rfl
  obtain ⟨x, f, g, k1, k2, e1, e2⟩ : ∃ x f g, kb_w (fun u : Int32 × (Nat → Nat → Int32) => kSX0_resize_18 (nI s) (nI n) u.1 u.2) 100000 (nI (L s), X) = some (x, va_up X s f) ∧ kb_w (fun u : Int32 × (Nat → Nat → Int32) => kSX5_resize_46 (nI s) (nI n) u.1 u.2) 100000 (nI (L s), Z) = some (x, va_up Z s g) ∧ (∀ i, f i = if L s ≤ i ∧ i < n then 0 else X s i) ∧ ∀ i, g i = if L s ≤ i ∧ i < n then 0 else Z s i := by
    by_cases hle : L s ≤ n
    · obtain ⟨f, k1, e1⟩ := kz_rcopy (S := fun x w => kSX0_resize_18 (nI s) (nI n) x w) (X := X) (f := fun _ => 0) (s := s) hle hn (fun k g q1 q2 _ => hcl k g q1 q2) (fun g => kb_b_tt (kz_le (Nat.le_refl _) (by omega)))
      obtain ⟨g, k2, e2⟩ := kz_rcopy (S := fun x w => kSX5_resize_46 (nI s) (nI n) x w) (X := Z) (f := fun _ => 0) (s := s) hle hn (fun k g q1 q2 _ => hrf k g q1 q2) (fun g => kb_b_tt (kz_le (Nat.le_refl _) (by omega)))
      exact ⟨_, f, g, k1, k2, e1, e2⟩
    · refine ⟨nI (L s), X s, Z s, ?_, ?_, fun i => by rw [if_neg (by omega)], fun i => by rw [if_neg (by omega)]⟩
      · rw [kz_vi]
        have hst : kSX0_resize_18 (nI s) (nI n) (nI (L s)) X = some (.inr (nI (L s), X)) := kb_b_tt (kz_le (by omega) (by omega))
        show kb_w _ (99999 + 1) _ = _
        unfold kb_w
        dsimp only
        rw [hst]
      · rw [kz_vi]
        have hst : kSX5_resize_46 (nI s) (nI n) (nI (L s)) Z = some (.inr (nI (L s), Z)) := kb_b_tt (kz_le (by omega) (by omega))
        show kb_w _ (99999 + 1) _ = _
        unfold kb_w
        dsimp only
        rw [hst]
  refine Or.inl ⟨nI (L s), upd sz s (nI n), va_up X s f, upd ln s (nI n), va_up Z s g, ?_, ?_, ?_⟩
  · unfold kFX0_resize
    refine (kb_o_v c1).trans ?_
    refine kz_il ?_
    refine (kb_o_v c2).trans ?_
    refine kz_il ?_
    rw [nI_clamp (show s < 2 ^ 31 by omega), hsz]
    refine (kb_g_tt (kb_in_n hs (by decide))).trans ?_
    refine (kb_n_v (v := nI (L s)) rfl).trans ?_
    refine (kb_o_v k1).trans ?_
    refine (kb_g_tt (kb_in_n hs (by decide))).trans ?_
    exact (kb_n_v rfl).trans rfl
  · unfold kFX5_resize
    refine (kb_o_v r1).trans ?_
    refine (kb_b_ff (by decide)).trans ?_
    refine (kb_o_v r2).trans ?_
    refine (kb_b_ff (by decide)).trans ?_
    unfold kJX5_resize_27
    refine (kb_o_v (kz_good1 1)).trans ?_
    refine (kb_b_ff (by decide)).trans ?_
    rw [nI_clamp (show s < 2 ^ 31 by omega), hln]
    refine (kb_g_tt (kb_in_n hs (by decide))).trans ?_
    refine (kb_n_v (v := nI (L s)) rfl).trans ?_
    refine (kb_o_v k2).trans ?_
    refine (kb_g_tt (kb_in_n hs (by decide))).trans ?_
    exact (kb_n_v rfl).trans rfl
  · refine kz_rel_slot h0 hn (fun i hi => ?_) (fun i hi => ?_) (fun i hi => ?_)
    · rw [e1 i, e2 i]
      by_cases c : L s ≤ i ∧ i < n
      · rw [if_pos c, if_pos c]
      · rw [if_neg c, if_neg c]
        exact h7 s i hs (by omega)
    · rw [e1 i]
      by_cases c : L s ≤ i ∧ i < n
      · rw [if_pos c]
        exact kz_bt_0
      · rw [if_neg c]
        exact (h8 s i hs hi).1
    · rw [e2 i]
      by_cases c : L s ≤ i ∧ i < n
      · rw [if_pos c]
        exact kz_bt_0
      · rw [if_neg c]
        exact (h8 s i hs hi).2
-- ===== alter
theorem kz_nxor (a b : Nat) : nI a ^^^ nI b = nI (a ^^^ b) := by
  apply Int32.toBitVec_inj.1
  show BitVec.ofNat 32 a ^^^ BitVec.ofNat 32 b = BitVec.ofNat 32 (a ^^^ b)
  apply BitVec.eq_of_getLsbD_eq
  intro i hi
  simp [hi]
theorem kz_nb8_by : ∀ b, b < 256 → (kz_by b).toBitVec.toNat % 256 = b := by decide +kernel
theorem kz_alt (b : Nat) (hb : b < 256) (v : Nat) (hv : v < 256) : ((kz_by b &&& (255 : Int32)) ^^^ nI v).toInt8.toInt32 = (kz_by b ^^^ (nI v).toInt8.toInt32).toInt8.toInt32 ∧ ((kz_by b ^^^ (nI v).toInt8.toInt32).toInt8.toInt32 &&& (255 : Int32)) = ((kz_by b &&& (255 : Int32)) ^^^ nI v) := by
  have hx : b ^^^ v < 256 := Nat.xor_lt_two_pow (n := 8) hb hv
  have h1 : (kz_by b ^^^ (nI v).toInt8.toInt32).toInt8.toInt32 = kz_by (b ^^^ v) := by
    show (kz_by b ^^^ kz_by v).toInt8.toInt32 = kz_by (b ^^^ v)
    rw [kz_xby, Int32.toBitVec_xor, BitVec.toNat_xor]
    refine congrArg kz_by ?_
    rw [show (256 : Nat) = 2 ^ 8 from rfl, Nat.xor_mod_two_pow]
    show ((kz_by b).toBitVec.toNat % 256) ^^^ ((kz_by v).toBitVec.toNat % 256) = b ^^^ v
    rw [kz_nb8_by b hb, kz_nb8_by v hv]
  rw [h1, kz_by_255 hb, kz_nxor]
  exact ⟨rfl, kz_by_255 hx⟩
theorem kz_T_alter {ts td : Int32} {sz tp ln tq : Nat → Int32} {X Z : Nat → Nat → Int32} (h : kz_rel ts sz tp X td ln tq Z) (p1 p2 p3 : Int32) :
    (∃ v X' Z', kFX0_alter p1 p2 p3 sz X = some (.inl (v, X')) ∧ kFX5_alter p1 p2 p3 ln Z = some (v, (0 : Int32), Z') ∧ kz_rel ts sz tp X' td ln tq Z') ∨ (kFX0_alter p1 p2 p3 sz X = some (.inr (kz_IAE, X)) ∧ ∃ v, kFX5_alter p1 p2 p3 ln Z = some (v, (1 : Int32), Z)) ∨ (kFX0_alter p1 p2 p3 sz X = some (.inr (kz_IOB, X)) ∧ ∃ v, kFX5_alter p1 p2 p3 ln Z = some (v, (2 : Int32), Z)) := by
  have h0 := h
  obtain ⟨T, L, h1, h2, h3, h4, h5, h6, h7, h8⟩ := h
  have bad : kJX5_alter_26 p1 p2 p3 ln Z = some ((0 : Int32), (1 : Int32), Z) := by
    unfold kJX5_alter_26 kJX5_alter_27
    refine (kb_o_v (kz_good0 1)).trans ?_
    exact kb_b_tt (by decide)
  rcases kz_slotC p1 with ⟨c1, r1⟩ | ⟨s, hs, rfl, c1, r1⟩
  · refine Or.inr (Or.inl ⟨?_, (0 : Int32), ?_⟩)
    · unfold kFX0_alter
      exact (kb_o_v c1).trans rfl
    · unfold kFX5_alter
      refine (kb_o_v r1).trans ?_
      exact (kb_b_tt (by decide)).trans bad
  have hv : (∃ q, (p3 < 0 ∧ q = 0 ∨ ∃ n, n < 2 ^ 31 ∧ 255 < n ∧ p3 = nI n ∧ q = 0) ∧ kFX5_in p3 (0 : Int32) (255 : Int32) = some q ∧ q = (0 : Int32)) ∨ ∃ v, v < 256 ∧ p3 = nI v ∧ kFX5_in p3 (0 : Int32) (255 : Int32) = some (1 : Int32) := by
    rcases kz_i32 p3 with hn | ⟨n, hn, rfl⟩
    · exact Or.inl ⟨0, Or.inl ⟨hn, rfl⟩, kz_in_lo hn, rfl⟩
    · by_cases h9 : n ≤ 255
      · exact Or.inr ⟨n, by omega, rfl, kz_in_ok (m := 255) h9 (by decide)⟩
      · exact Or.inl ⟨0, Or.inr ⟨n, hn, by omega, rfl, rfl⟩, kz_in_hi (m := 255) (by omega) hn, rfl⟩
  obtain ⟨hL, hsz, hln⟩ := h4 s hs
  rcases hv with ⟨q, hq, r2, rfl⟩ | ⟨v, hv, rfl, r2⟩
  · refine Or.inr (Or.inl ⟨?_, (0 : Int32), ?_⟩)
    · unfold kFX0_alter
      refine (kb_o_v c1).trans ?_
      refine kz_il ?_
      rcases hq with ⟨hq, -⟩ | ⟨n, hn, h9, rfl, -⟩
      · exact kb_b_tt (decide_eq_true hq)
      · refine (kb_b_ff (decide_eq_false (nI_pos hn))).trans ?_
        exact kb_b_ff (kz_nle (i := 255) h9 hn)
    · unfold kFX5_alter
      refine (kb_o_v r1).trans ?_
      refine (kb_b_ff (by decide)).trans ?_
      refine (kb_o_v r2).trans ?_
      exact (kb_b_tt (by decide)).trans bad
  have hpre : ∀ {o}, kJX5_alter_27 (nI s) p2 (nI v) ln Z (1 : Int32) = o → kFX5_alter (nI s) p2 (nI v) ln Z = o := fun ho => by
    unfold kFX5_alter
    refine (kb_o_v r1).trans ?_
    refine (kb_b_ff (by decide)).trans ?_
    refine (kb_o_v r2).trans ?_
    exact (kb_b_ff (by decide)).trans ho
  have hcl : ∀ {o}, ((kFX0_checkPlace (nI s) p2 sz).bind fun u => kb_s u (fun o => kb_g (kb_in (nI s) 8) (kb_g (kb_in p2 8192) (kb_n ((((X (nI s).toNatClampNeg) p2.toNatClampNeg) &&& (255 : Int32)) ^^^ nI v) fun x4_7 => kb_g (kb_in (nI s) 8) (kb_g (kb_in p2 8192) (kb_n (va_up X (nI s).toNatClampNeg (upd (X (nI s).toNatClampNeg) p2.toNatClampNeg (vp_nar .byte (x4_7.toInt8.toInt32)))) fun m_10 => some (Sum.inl (x4_7, m_10))))))) (fun x => some (Sum.inr (x.1, X)))) = o → kFX0_alter (nI s) p2 (nI v) sz X = o := fun ho => by
    unfold kFX0_alter
    refine (kb_o_v c1).trans ?_
    refine kz_il ?_
    refine (kb_b_ff (decide_eq_false (nI_pos (by omega)))).trans ?_
    exact (kb_b_tt (kz_le (i := 255) (by omega) (by decide))).trans ho
  rcases kz_placeC p2 hs hL hsz with ⟨c3, r3⟩ | ⟨i, hi, rfl, c3, r3⟩
  · refine Or.inr (Or.inr ⟨hcl ?_, (0 : Int32), hpre ?_⟩)
    · exact (kb_o_v c3).trans rfl
    · unfold kJX5_alter_27
      refine (kb_o_v (kz_good1 1)).trans ?_
      refine (kb_b_ff (by decide)).trans ?_
      rw [nI_clamp (show s < 2 ^ 31 by omega), hln]
      refine (kb_g_tt (kb_in_n hs (by decide))).trans ?_
      refine (kb_o_v r3).trans ?_
      refine (kb_o_v (kz_good0 2)).trans ?_
      exact kb_b_tt (by decide)
  · have hi2 : i < 8192 := by omega
    have hXZ := h7 s i hs hi
    obtain ⟨b, hb, hZb⟩ := (h8 s i hs hi2).2
    have ha := kz_alt b hb v hv
    refine Or.inl ⟨(kz_by b &&& (255 : Int32)) ^^^ nI v, va_up X s (upd (X s) i (kz_by b ^^^ (nI v).toInt8.toInt32).toInt8.toInt32), va_up Z s (upd (Z s) i (kz_by b ^^^ (nI v).toInt8.toInt32).toInt8.toInt32), hcl ?_, hpre ?_, ?_⟩
    · refine (kb_o_v c3).trans ?_
      refine kz_il ?_
      rw [nI_clamp (show s < 2 ^ 31 by omega), nI_clamp (show i < 2 ^ 31 by omega), hXZ, hZb]
      refine (kb_g_tt (kb_in_n hs (by decide))).trans ?_
      refine (kb_g_tt (kb_in_n hi2 (by decide))).trans ?_
      refine (kb_n_v rfl).trans ?_
      refine (kb_g_tt (kb_in_n hs (by decide))).trans ?_
      refine (kb_g_tt (kb_in_n hi2 (by decide))).trans ?_
      rw [pk_vb, ha.1]
      exact (kb_n_v rfl).trans rfl
    · unfold kJX5_alter_27
      refine (kb_o_v (kz_good1 1)).trans ?_
      refine (kb_b_ff (by decide)).trans ?_
      rw [nI_clamp (show s < 2 ^ 31 by omega), nI_clamp (show i < 2 ^ 31 by omega), hln]
      refine (kb_g_tt (kb_in_n hs (by decide))).trans ?_
      refine (kb_o_v r3).trans ?_
      refine (kb_o_v (kz_good1 2)).trans ?_
      refine (kb_b_ff (by decide)).trans ?_
      refine (kb_g_tt (kb_in_n hs (by decide))).trans ?_
      refine (kb_g_tt (kb_in_n hi2 (by decide))).trans ?_
      refine (kb_g_tt (kb_in_n hi2 (by decide))).trans ?_
      rw [hZb, pk_vb]
      refine (kb_n_v rfl).trans ?_
      refine (kb_g_tt (kb_in_n hs (by decide))).trans ?_
      refine (kb_g_tt (kb_in_n hi2 (by decide))).trans ?_
      dsimp only
      rw [va_up_self, pk_us, ha.2]
    · refine ⟨T, L, h1, h2, h3, h4, h5, h6, fun k j hk hj => ?_, fun k j hk hj => ?_⟩
      · by_cases e : k = s
        · subst e
          rw [va_up_self, va_up_self]
          by_cases e2 : j = i
          · subst e2
            rw [pk_us, pk_us]
          · rw [pk_un e2, pk_un e2]
            exact h7 k j hk hj
        · rw [va_up_ne _ _ e, va_up_ne _ _ e]
          exact h7 k j hk hj
      · by_cases e : k = s
        · subst e
          rw [va_up_self, va_up_self]
          by_cases e2 : j = i
          · subst e2
            rw [pk_us, pk_us]
            exact ⟨kz_bt_8 _, kz_bt_8 _⟩
          · rw [pk_un e2, pk_un e2]
            exact h8 k j hk hj
        · rw [va_up_ne _ _ e, va_up_ne _ _ e]
          exact h8 k j hk hj
-- ===== length
theorem kz_T_length {ts td : Int32} {sz tp ln tq : Nat → Int32} {X Z : Nat → Nat → Int32} (h : kz_rel ts sz tp X td ln tq Z) (p1 : Int32) :
    (∃ v, kFX0_length p1 sz = some (.inl v) ∧ kFX5_length p1 ln = some (v, (0 : Int32))) ∨ (kFX0_length p1 sz = some (.inr (kz_IAE, ())) ∧ ∃ v, kFX5_length p1 ln = some (v, (1 : Int32))) := by
  obtain ⟨T, L, h1, h2, h3, h4, h5, h6, h7, h8⟩ := h
  rcases kz_slotC p1 with ⟨c1, r1⟩ | ⟨s, hs, rfl, c1, r1⟩
  · refine Or.inr ⟨?_, (0 : Int32), ?_⟩
    · unfold kFX0_length
      exact (kb_o_v c1).trans rfl
    · unfold kFX5_length
      refine (kb_o_v r1).trans ?_
      refine (kb_o_v (kz_good0 1)).trans ?_
      exact kb_b_tt (by decide)
  · obtain ⟨hL, hsz, hln⟩ := h4 s hs
    refine Or.inl ⟨nI (L s), ?_, ?_⟩
    · unfold kFX0_length
      refine (kb_o_v c1).trans ?_
      refine kz_il ?_
      rw [nI_clamp (show s < 2 ^ 31 by omega), hsz]
      exact kb_g_tt (kb_in_n hs (by decide))
    · unfold kFX5_length
      refine (kb_o_v r1).trans ?_
      refine (kb_o_v (kz_good1 1)).trans ?_
      refine (kb_b_ff (by decide)).trans ?_
      rw [nI_clamp (show s < 2 ^ 31 by omega), hln]
      exact kb_g_tt (kb_in_n hs (by decide))
-- ===== word
def kz_wv (g : Nat → Int64) : Nat → Int64
  | 0 => 0
  | n + 1 => (kz_wv g n <<< ((8 : Int32).toInt64 &&& 63)) ||| g n
theorem kz_wb : ∀ b, b < 256 → (kz_by b &&& (255 : Int32)).toInt64 = ((kz_by b).toInt64 &&& (255 : Int64)) := by decide +kernel
theorem kz_w0 : (0 : Int32).toInt64 = 0 := by decide +kernel
theorem kz_T_word {ts td : Int32} {sz tp ln tq : Nat → Int32} {X Z : Nat → Nat → Int32} (h : kz_rel ts sz tp X td ln tq Z) (p1 p2 : Int32) :
    (∃ v, kFX0_word p1 p2 sz X = some (.inl v) ∧ kFX5_word2 p1 p2 ln Z = some (v, (0 : Int32))) ∨ (kFX0_word p1 p2 sz X = some (.inr (kz_IAE, ())) ∧ ∃ v, kFX5_word2 p1 p2 ln Z = some (v, (1 : Int32))) ∨ (kFX0_word p1 p2 sz X = some (.inr (kz_IOB, ())) ∧ ∃ v, kFX5_word2 p1 p2 ln Z = some (v, (2 : Int32))) := by
  obtain ⟨T, L, h1, h2, h3, h4, h5, h6, h7, h8⟩ := h
  rcases kz_slotC p1 with ⟨c1, r1⟩ | ⟨s, hs, rfl, c1, r1⟩
  · refine Or.inr (Or.inl ⟨?_, (0 : Int64), ?_⟩)
    · unfold kFX0_word
      exact (kb_o_v c1).trans rfl
    · unfold kFX5_word2
      refine (kb_o_v r1).trans ?_
      refine (kb_o_v (kz_good0 1)).trans ?_
      exact kb_b_tt (by decide)
  obtain ⟨hL, hsz, hln⟩ := h4 s hs
  rcases kz_placeC p2 hs hL hsz with ⟨c3, r3⟩ | ⟨i, hi, rfl, c3, r3⟩
  · refine Or.inr (Or.inr ⟨?_, (0 : Int64), ?_⟩)
    · unfold kFX0_word
      refine (kb_o_v c1).trans ?_
      refine kz_il ?_
      exact (kb_o_v c3).trans rfl
    · unfold kFX5_word2
      refine (kb_o_v r1).trans ?_
      refine (kb_o_v (kz_good1 1)).trans ?_
      refine (kb_b_ff (by decide)).trans ?_
      rw [nI_clamp (show s < 2 ^ 31 by omega), hln]
      refine (kb_g_tt (kb_in_n hs (by decide))).trans ?_
      refine (kb_o_v r3).trans ?_
      refine (kb_o_v (kz_good0 2)).trans ?_
      exact kb_b_tt (by decide)
  · have e8 : nI i + (8 : Int32) = nI (i + 8) := nI_add i 8
    obtain ⟨g, hg⟩ : ∃ g : Nat → Int64, ∀ k, g k = if i + k < L s then ((Z s (i + k)).toInt64 &&& (255 : Int64)) else 0 := ⟨_, fun _ => rfl⟩
    obtain ⟨⟨v, x⟩, k1, k2⟩ : ∃ r, kb_w (fun u : Int64 × Int32 => kSX0_word_15 (nI s) (nI i) sz X u.1 u.2) 100000 ((0 : Int64), nI i) = some r ∧ r.1 = kz_wv g 8 := by
      refine kb_w_inv (σ := Int64 × Int32) (ρ := Int64 × Int32) (fun k u => u.1 = kz_wv g k ∧ u.2 = nI (i + k)) (fun r => r.1 = kz_wv g 8) 8 ?_ ?_ 8 0 _ 100000 (by omega) (by decide) ⟨rfl, rfl⟩
      · rintro k ⟨v, x⟩ hk ⟨q1, q2⟩
        replace q1 : v = kz_wv g k := q1
        replace q2 : x = nI (i + k) := q2
        subst q1 q2
        refine ⟨(kz_wv g (k + 1), nI (i + (k + 1))), ?_, rfl, rfl⟩
        show kSX0_word_15 (nI s) (nI i) sz X (kz_wv g k) (nI (i + k)) = _
        unfold kSX0_word_15
        rw [e8, nI_clamp (show s < 2 ^ 31 by omega), nI_clamp (show i + k < 2 ^ 31 by omega), hsz, kz_inc]
        refine (kb_b_ff (kz_nle (by omega) (by omega))).trans ?_
        refine (kb_g_tt (kb_in_n hs (by decide))).trans ?_
        have hgk := hg k
        by_cases c : i + k < L s
        · rw [if_pos c] at hgk
          obtain ⟨b, hb, hZb⟩ := (h8 s (i + k) hs (by omega)).2
          refine (kb_b_ff (kz_nle c (by omega))).trans ?_
          refine (kb_g_tt (kb_in_n hs (by decide))).trans ?_
          refine (kb_g_tt (kb_in_n (by omega) (by decide))).trans ?_
          rw [h7 s (i + k) hs c]
          refine (kb_n_v rfl).trans ?_
          refine (kb_n_v (v := kz_wv g (k + 1)) ?_).trans ?_
          · show (kz_wv g k <<< ((8 : Int32).toInt64 &&& 63)) ||| (Z s (i + k) &&& (255 : Int32)).toInt64 = (kz_wv g k <<< ((8 : Int32).toInt64 &&& 63)) ||| g k
            rw [hgk, hZb, kz_wb b hb]
          · rfl
        · rw [if_neg c] at hgk
          refine (kb_b_tt (kz_le (by omega) (by omega))).trans ?_
          refine (kb_n_v (v := kz_wv g (k + 1)) ?_).trans ?_
          · show (kz_wv g k <<< ((8 : Int32).toInt64 &&& 63)) ||| (0 : Int32).toInt64 = (kz_wv g k <<< ((8 : Int32).toInt64 &&& 63)) ||| g k
            rw [hgk, kz_w0]
          · rfl
      · rintro ⟨v, x⟩ ⟨q1, q2⟩
        replace q2 : x = nI (i + 8) := q2
        subst q2
        refine ⟨(v, nI (i + 8)), ?_, q1⟩
        show kSX0_word_15 (nI s) (nI i) sz X v (nI (i + 8)) = _
        unfold kSX0_word_15
        rw [e8]
        exact kb_b_tt (kz_le (Nat.le_refl _) (by omega))
    obtain ⟨⟨v', x'⟩, k3, k4⟩ : ∃ r, kb_w (fun u : Int64 × Int32 => kSX5_word2_43 (nI s) (nI i) ln Z u.1 u.2) 100000 ((0 : Int64), nI i) = some r ∧ r.1 = kz_wv g 8 := by
      refine kb_w_inv (σ := Int64 × Int32) (ρ := Int64 × Int32) (fun k u => u.1 = kz_wv g k ∧ u.2 = nI (i + k)) (fun r => r.1 = kz_wv g 8) 8 ?_ ?_ 8 0 _ 100000 (by omega) (by decide) ⟨rfl, rfl⟩
      · rintro k ⟨v, x⟩ hk ⟨q1, q2⟩
        replace q1 : v = kz_wv g k := q1
        replace q2 : x = nI (i + k) := q2
        subst q1 q2
        refine ⟨(kz_wv g (k + 1), nI (i + (k + 1))), ?_, rfl, rfl⟩
        show kSX5_word2_43 (nI s) (nI i) ln Z (kz_wv g k) (nI (i + k)) = _
        unfold kSX5_word2_43
        rw [e8, nI_clamp (show s < 2 ^ 31 by omega), nI_clamp (show i + k < 2 ^ 31 by omega), hln, kz_inc]
        refine (kb_b_ff (kz_nle (by omega) (by omega))).trans ?_
        refine (kb_g_tt (kb_in_n hs (by decide))).trans ?_
        have hgk := hg k
        by_cases c : i + k < L s
        · rw [if_pos c] at hgk
          refine (kb_b_ff (kz_nle c (by omega))).trans ?_
          refine (kb_g_tt (kb_in_n hs (by decide))).trans ?_
          refine (kb_g_tt (kb_in_n (by omega) (by decide))).trans ?_
          refine (kb_n_v (v := kz_wv g (k + 1)) ?_).trans ?_
          · show (kz_wv g k <<< ((8 : Int32).toInt64 &&& 63)) ||| ((Z s (i + k)).toInt64 &&& (255 : Int64)) = (kz_wv g k <<< ((8 : Int32).toInt64 &&& 63)) ||| g k
            rw [hgk]
          · rfl
        · rw [if_neg c] at hgk
          refine (kb_b_tt (kz_le (by omega) (by omega))).trans ?_
          refine (kb_n_v (v := kz_wv g (k + 1)) ?_).trans ?_
          · show (kz_wv g k <<< ((8 : Int32).toInt64 &&& 63)) ||| (0 : Int64) = (kz_wv g k <<< ((8 : Int32).toInt64 &&& 63)) ||| g k
            rw [hgk]
          · rfl
      · rintro ⟨v, x⟩ ⟨q1, q2⟩
        replace q2 : x = nI (i + 8) := q2
        subst q2
        refine ⟨(v, nI (i + 8)), ?_, q1⟩
        show kSX5_word2_43 (nI s) (nI i) ln Z v (nI (i + 8)) = _
        unfold kSX5_word2_43
        rw [e8]
        exact kb_b_tt (kz_le (Nat.le_refl _) (by omega))
    replace k2 : v = kz_wv g 8 := k2
    replace k4 : v' = kz_wv g 8 := k4
    subst k2 k4
    refine Or.inl ⟨kz_wv g 8, ?_, ?_⟩
    · unfold kFX0_word
      refine (kb_o_v c1).trans ?_
      refine kz_il ?_
      refine (kb_o_v c3).trans ?_
      refine kz_il ?_
      exact (kb_o_v k1).trans rfl
    · unfold kFX5_word2
      refine (kb_o_v r1).trans ?_
      refine (kb_o_v (kz_good1 1)).trans ?_
      refine (kb_b_ff (by decide)).trans ?_
      rw [nI_clamp (show s < 2 ^ 31 by omega), hln]
      refine (kb_g_tt (kb_in_n hs (by decide))).trans ?_
      refine (kb_o_v r3).trans ?_
      refine (kb_o_v (kz_good1 2)).trans ?_
      refine (kb_b_ff (by decide)).trans ?_
      exact (kb_o_v k3).trans rfl
-- ===== same
theorem kz_startAlikeS {f : Nat → Int32} {n : Nat} (hn : n ≤ 8192) : kFX0_startAlikeS (0 : Int32) (nI n) 8192 f = some (1 : Int32) := by
  obtain ⟨⟨x, y⟩, k1, k2⟩ : ∃ r, kb_w (fun u : Int32 × Int32 => kSX0_startAlikeS_6 (0 : Int32) (nI n) 8192 f u.1 u.2) 100000 ((0 : Int32), (0 : Int32)) = some r ∧ r.1 = 0 := by
    refine kb_w_inv (σ := Int32 × Int32) (ρ := Int32 × Int32) (fun i u => u.2 = nI i ∧ u.1 = 0) (fun r => r.1 = 0) n ?_ ?_ n 0 _ 100000 (by omega) (by omega) ⟨rfl, rfl⟩
    · rintro i ⟨x, y⟩ hi ⟨h2, h⟩
      replace h2 : y = nI i := h2
      replace h : x = 0 := h
      subst h2 h
      refine ⟨((0 : Int32), nI (i + 1)), ?_, rfl, rfl⟩
      show kSX0_startAlikeS_6 (0 : Int32) (nI n) 8192 f (0 : Int32) (nI i) = _
      unfold kSX0_startAlikeS_6
      rw [show (0 : Int32) + nI i = nI i from (nI_add 0 i).trans (congrArg nI (Nat.zero_add i)), nI_clamp (show i < 2 ^ 31 by omega)]
      refine (kb_b_ff (kz_nle hi (by omega))).trans ?_
      refine (kb_g_tt (kb_in_n (by omega) (by decide))).trans ?_
      refine (kb_g_tt (kb_in_n (by omega) (by decide))).trans ?_
      refine (kb_n_v (v := (0 : Int32)) (kz_or0.2 ⟨rfl, rfl⟩)).trans ?_
      exact (kb_n_v (kz_inc _)).trans rfl
    · rintro ⟨x, y⟩ ⟨h2, h⟩
      replace h2 : y = nI n := h2
      subst h2
      refine ⟨(x, nI n), ?_, h⟩
      show kSX0_startAlikeS_6 (0 : Int32) (nI n) 8192 f x (nI n) = _
      unfold kSX0_startAlikeS_6
      exact kb_b_tt (kz_le (Nat.le_refl _) (by omega))
  replace k2 : x = 0 := k2
  subst k2
  unfold kFX0_startAlikeS
  refine (kb_o_v k1).trans ?_
  exact kb_b_tt (kz_t00)
theorem kz_rs57 {ln : Nat → Int32} {Z : Nat → Nat → Int32} {s t L : Nat} (hs : s < 8) (ht : t < 8) (hL : L ≤ 8192) (hln : ln s = nI L) : ∃ r, kb_w (fun u : Int32 × Int32 => kSX5_same_57 (nI s) (nI t) ln Z u.1 u.2) 100000 ((1 : Int32), (0 : Int32)) = some r ∧ ((r.1 = 1 ∧ ∀ k, k < L → Z s k = Z t k) ∨ (r.1 = 0 ∧ ¬ ∀ k, k < L → Z s k = Z t k)) := by
  refine kb_w_inv (σ := Int32 × Int32) (ρ := Int32 × Int32) (fun i u => u.2 = nI i ∧ ((u.1 = 1 ∧ ∀ k, k < i → Z s k = Z t k) ∨ (u.1 = 0 ∧ ¬ ∀ k, k < i → Z s k = Z t k))) (fun r => (r.1 = 1 ∧ ∀ k, k < L → Z s k = Z t k) ∨ (r.1 = 0 ∧ ¬ ∀ k, k < L → Z s k = Z t k)) L ?_ ?_ L 0 _ 100000 (by omega) (by omega) ⟨rfl, Or.inl ⟨rfl, fun k hk => absurd hk (by omega)⟩⟩
  · rintro i ⟨x, y⟩ hi ⟨h2, h⟩
    replace h2 : y = nI i := h2
    subst h2
    by_cases e : Z s i = Z t i
    · refine ⟨(x, nI (i + 1)), ?_, rfl, ?_⟩
      · show kSX5_same_57 (nI s) (nI t) ln Z x (nI i) = _
        unfold kSX5_same_57
        rw [nI_clamp (show s < 2 ^ 31 by omega), nI_clamp (show t < 2 ^ 31 by omega), nI_clamp (show i < 2 ^ 31 by omega), hln]
        refine (kb_g_tt (kb_in_n hs (by decide))).trans ?_
        refine (kb_b_ff (kz_nle hi (by omega))).trans ?_
        refine (kb_g_tt (kb_in_n hs (by decide))).trans ?_
        refine (kb_g_tt (kb_in_n (by omega) (by decide))).trans ?_
        refine (kb_g_tt (kb_in_n ht (by decide))).trans ?_
        refine (kb_g_tt (kb_in_n (by omega) (by decide))).trans ?_
        refine (kb_b_tt (decide_eq_true e)).trans ?_
        exact (kb_n_v (kz_inc _)).trans rfl
      · rcases h with ⟨h, hh⟩ | ⟨h, hh⟩
        · refine Or.inl ⟨h, fun k hk => ?_⟩
          by_cases ek : k = i
          · subst ek
            exact e
          · exact hh k (by omega)
        · exact Or.inr ⟨h, fun z => hh (fun k hk => z k (by omega))⟩
    · refine ⟨((0 : Int32), nI (i + 1)), ?_, rfl, Or.inr ⟨rfl, fun z => e (z i (by omega))⟩⟩
      show kSX5_same_57 (nI s) (nI t) ln Z x (nI i) = _
      unfold kSX5_same_57
      rw [nI_clamp (show s < 2 ^ 31 by omega), nI_clamp (show t < 2 ^ 31 by omega), nI_clamp (show i < 2 ^ 31 by omega), hln]
      refine (kb_g_tt (kb_in_n hs (by decide))).trans ?_
      refine (kb_b_ff (kz_nle hi (by omega))).trans ?_
      refine (kb_g_tt (kb_in_n hs (by decide))).trans ?_
      refine (kb_g_tt (kb_in_n (by omega) (by decide))).trans ?_
      refine (kb_g_tt (kb_in_n ht (by decide))).trans ?_
      refine (kb_g_tt (kb_in_n (by omega) (by decide))).trans ?_
      refine (kb_b_ff (decide_eq_false e)).trans ?_
      exact (kb_n_v (kz_inc _)).trans rfl
  · rintro ⟨x, y⟩ ⟨h2, h⟩
    replace h2 : y = nI L := h2
    subst h2
    refine ⟨(x, nI L), ?_, h⟩
    show kSX5_same_57 (nI s) (nI t) ln Z x (nI L) = _
    unfold kSX5_same_57
    rw [nI_clamp (show s < 2 ^ 31 by omega), hln]
    refine (kb_g_tt (kb_in_n hs (by decide))).trans ?_
    exact kb_b_tt (kz_le (Nat.le_refl _) (by omega))
theorem kz_T_same {ts td : Int32} {sz tp ln tq : Nat → Int32} {X Z : Nat → Nat → Int32} (h : kz_rel ts sz tp X td ln tq Z) (p1 p2 : Int32) :
    (∃ v, (v = 0 ∨ v = 1) ∧ kFX0_same p1 p2 sz X = some (.inl v) ∧ kFX5_same p1 p2 ln Z = some (v, (0 : Int32))) ∨ (kFX0_same p1 p2 sz X = some (.inr (kz_IAE, ())) ∧ ∃ v, (v = 0 ∨ v = 1) ∧ kFX5_same p1 p2 ln Z = some (v, (1 : Int32))) := by
  obtain ⟨T, L, h1, h2, h3, h4, h5, h6, h7, h8⟩ := h
  have bad : kJX5_same_25 p1 p2 ln Z = some ((0 : Int32), (1 : Int32)) := by
    unfold kJX5_same_25 kJX5_same_26
    refine (kb_o_v (kz_good0 1)).trans ?_
    exact kb_b_tt (by decide)
  rcases kz_slotC p1 with ⟨c1, r1⟩ | ⟨s, hs, rfl, c1, r1⟩
  · refine Or.inr ⟨?_, (0 : Int32), Or.inl rfl, ?_⟩
    · unfold kFX0_same
      exact (kb_o_v c1).trans rfl
    · unfold kFX5_same
      refine (kb_o_v r1).trans ?_
      exact (kb_b_tt (by decide)).trans bad
  rcases kz_slotC p2 with ⟨c2, r2⟩ | ⟨t, ht, rfl, c2, r2⟩
  · refine Or.inr ⟨?_, (0 : Int32), Or.inl rfl, ?_⟩
    · unfold kFX0_same
      refine (kb_o_v c1).trans ?_
      refine kz_il ?_
      exact (kb_o_v c2).trans rfl
    · unfold kFX5_same
      refine (kb_o_v r1).trans ?_
      refine (kb_b_ff (by decide)).trans ?_
      refine (kb_o_v r2).trans ?_
      exact (kb_b_tt (by decide)).trans bad
  obtain ⟨hL, hsz, hln⟩ := h4 s hs
  obtain ⟨hLt, hszt, hlnt⟩ := h4 t ht
  have hpre : ∀ {o}, kJX5_same_26 (nI s) (nI t) ln Z (1 : Int32) = o → kFX5_same (nI s) (nI t) ln Z = o := fun ho => by
    unfold kFX5_same
    refine (kb_o_v r1).trans ?_
    refine (kb_b_ff (by decide)).trans ?_
    refine (kb_o_v r2).trans ?_
    exact (kb_b_ff (by decide)).trans ho
  by_cases hLL : L s = L t
  · obtain ⟨⟨x, y⟩, k1, k2⟩ := kz_rs57 (Z := Z) (t := t) hs ht hL hln
    replace k2 : (x = 1 ∧ ∀ k, k < L s → Z s k = Z t k) ∨ (x = 0 ∧ ¬ ∀ k, k < L s → Z s k = Z t k) := k2
    have hx01 : x = 0 ∨ x = 1 := by
      rcases k2 with ⟨h, -⟩ | ⟨h, -⟩
      · exact Or.inr h
      · exact Or.inl h
    refine Or.inl ⟨x, hx01, ?_, hpre ?_⟩
    · unfold kFX0_same
      refine (kb_o_v c1).trans ?_
      refine kz_il ?_
      refine (kb_o_v c2).trans ?_
      refine kz_il ?_
      rw [nI_clamp (show s < 2 ^ 31 by omega), nI_clamp (show t < 2 ^ 31 by omega), hsz, hszt]
      refine (kb_g_tt (kb_in_n hs (by decide))).trans ?_
      refine (kb_g_tt (kb_in_n ht (by decide))).trans ?_
      refine (kb_b_tt (kz_eqt hLL)).trans ?_
      refine (kb_g_tt (kb_in_n hs (by decide))).trans ?_
      refine (kb_g_tt (kb_in_n ht (by decide))).trans ?_
      refine (kb_g_tt (kb_in_n hs (by decide))).trans ?_
      by_cases e : s = t
      · refine (kb_b_tt (decide_eq_true e)).trans ?_
        refine (kb_o_v (kz_startAlikeS hL)).trans ?_
        refine (kb_b_ff (by decide)).trans ?_
        subst e
        rcases k2 with ⟨rfl, -⟩ | ⟨-, h⟩
        · rfl
        · exact absurd (fun k _ => rfl) h
      · refine (kb_b_ff (decide_eq_false e)).trans ?_
        refine (kb_g_tt (decide_eq_true e)).trans ?_
        obtain ⟨z, k3, k4⟩ := kz_startAlike (f := X s) (g := X t) (a := 0) (n := L s) (n1 := 8192) (n3 := 8192) (by omega) (by omega) (by decide) (by decide) (by omega)
        have hiff : (∀ k, k < L s → X s (0 + k) = X t k) ↔ ∀ k, k < L s → Z s k = Z t k := by
          constructor
          · intro h k hk
            have h9 := h k hk
            rw [Nat.zero_add, h7 s k hs hk, h7 t k ht (by omega)] at h9
            exact h9
          · intro h k hk
            rw [Nat.zero_add, h7 s k hs hk, h7 t k ht (by omega)]
            exact h k hk
        rw [hiff] at k4
        refine (kb_o_v k3).trans ?_
        rcases k4 with ⟨rfl, k4⟩ | ⟨rfl, k4⟩
        · rcases k2 with ⟨rfl, -⟩ | ⟨-, h⟩
          · exact kb_b_ff (by decide)
          · exact absurd k4 h
        · rcases k2 with ⟨-, h⟩ | ⟨rfl, -⟩
          · exact absurd h k4
          · exact kb_b_tt (by decide)
    · unfold kJX5_same_26
      refine (kb_o_v (kz_good1 1)).trans ?_
      refine (kb_b_ff (by decide)).trans ?_
      rw [nI_clamp (show s < 2 ^ 31 by omega), nI_clamp (show t < 2 ^ 31 by omega), hln, hlnt]
      refine (kb_g_tt (kb_in_n hs (by decide))).trans ?_
      refine (kb_g_tt (kb_in_n ht (by decide))).trans ?_
      refine (kb_b_tt (kz_eqt hLL)).trans ?_
      refine (kb_o_v k1).trans ?_
      refine kb_g_tt ?_
      rcases hx01 with rfl | rfl
      · exact (by decide : kb_z (0 : Int32) = true)
      · exact (by decide : kb_z (1 : Int32) = true)
  · refine Or.inl ⟨0, Or.inl rfl, ?_, hpre ?_⟩
    · unfold kFX0_same
      refine (kb_o_v c1).trans ?_
      refine kz_il ?_
      refine (kb_o_v c2).trans ?_
      refine kz_il ?_
      rw [nI_clamp (show s < 2 ^ 31 by omega), nI_clamp (show t < 2 ^ 31 by omega), hsz, hszt]
      refine (kb_g_tt (kb_in_n hs (by decide))).trans ?_
      refine (kb_g_tt (kb_in_n ht (by decide))).trans ?_
      exact kb_b_ff (kz_eqf hLL (by omega) (by omega))
    · unfold kJX5_same_26
      refine (kb_o_v (kz_good1 1)).trans ?_
      refine (kb_b_ff (by decide)).trans ?_
      rw [nI_clamp (show s < 2 ^ 31 by omega), nI_clamp (show t < 2 ^ 31 by omega), hln, hlnt]
      refine (kb_g_tt (kb_in_n hs (by decide))).trans ?_
      refine (kb_g_tt (kb_in_n ht (by decide))).trans ?_
      exact kb_b_ff (kz_eqf hLL (by omega) (by omega))
/-! Layer 2: kemKeys, kemWrap, kemOpen of both. -/
theorem kz_pm_rc {rc rc' : Nat → Int64} (h : ∀ r, r < 24 → rc r = rc' r) (a : Nat → Int64) : ∀ n, n ≤ 24 → kz_pm rc a n = kz_pm rc' a n
  | 0, _ => rfl
  | n + 1, hn => by
    show kz_rd rc n (kz_pm rc a n) = kz_rd rc' n (kz_pm rc' a n)
    rw [kz_pm_rc h a n (by omega)]
    funext i
    unfold kz_rd
    rw [h n (by omega)]
theorem kz_rc1 {rc rc' : Nat → Int64} (h : ∀ r, r < 24 → rc r = rc' r) : kz_ab1 rc = kz_ab1 rc' ∧ kz_ab rc = kz_ab rc' ∧ kz_fin rc = kz_fin rc' ∧ kz_gb rc = kz_gb rc' := by
  have hp : ∀ a, kz_pm rc a 24 = kz_pm rc' a 24 := fun a => kz_pm_rc h a 24 (Nat.le_refl _)
  have h1 : kz_ab1 rc = kz_ab1 rc' := by
    funext R v u
    unfold kz_ab1
    rw [hp]
  have h2 : kz_ab rc = kz_ab rc' := by
    funext R v u n
    induction n with
    | zero => rfl
    | succ n ih =>
      show kz_ab1 rc R (v n) (kz_ab rc R v u n) = kz_ab1 rc' R (v n) (kz_ab rc' R v u n)
      rw [ih, h1]
  have h3 : kz_fin rc = kz_fin rc' := by
    funext R sf u
    unfold kz_fin
    rw [hp]
  have h4 : kz_sz rc = kz_sz rc' := by
    funext R u
    unfold kz_sz
    rw [hp]
  have h5 : kz_gv rc = kz_gv rc' := by
    funext R u n
    induction n with
    | zero => rfl
    | succ n ih =>
      unfold kz_gv
      rw [ih, h4]
  refine ⟨h1, h2, h3, ?_⟩
  funext R u n
  unfold kz_gb
  rw [h4, h5]
theorem kz_rc2 {rc rc' : Nat → Int64} (h : ∀ r, r < 24 → rc r = rc' r) : kz_smp rc = kz_smp rc' ∧ kz_np rc = kz_np rc' ∧ kz_gk rc = kz_gk rc' ∧ kz_H rc = kz_H rc' ∧ kz_gs rc = kz_gs rc' ∧ kz_J rc = kz_J rc' := by
  obtain ⟨h1, h2, h3, h4⟩ := kz_rc1 h
  refine ⟨?_, ?_, ?_, ?_, ?_, ?_⟩
  · funext v j i
    unfold kz_smp kz_suv
    rw [h1, h2, h3, h4]
  · funext s e b i
    unfold kz_np kz_nb
    rw [h1, h2, h3, h4]
  · funext v K
    unfold kz_gk
    rw [h1, h2, h3, h4]
  · funext w n
    unfold kz_H
    rw [h2, h3, h4]
  · funext m w
    unfold kz_gs
    rw [h2, h3, h4]
  · funext z c n
    unfold kz_J
    rw [h2, h3, h4]
theorem kz_rc3 {rc rc' : Nat → Int64} (h : ∀ r, r < 24 → rc r = rc' r) : kz_all rc = kz_all rc' ∧ kz_rho rc = kz_rho rc' ∧ kz_PK rc = kz_PK rc' ∧ kz_SK rc = kz_SK rc' := by
  obtain ⟨h1, h2, h3, h4, h5, h6⟩ := kz_rc2 h
  have hv : kz_vec rc = kz_vec rc' := by
    funext s e b
    unfold kz_vec
    rw [h2]
  have ha : kz_all rc = kz_all rc' := by
    funext v K
    unfold kz_all
    rw [h1]
  have hr : kz_rho rc = kz_rho rc' := by
    funext v K k
    unfold kz_rho
    rw [h3]
  have hs : kz_sig rc = kz_sig rc' := by
    funext v K k
    unfold kz_sig
    rw [h3]
  have hT : kz_kT rc = kz_kT rc' := by
    funext r s K e i
    unfold kz_kT
    rw [hv, h1]
  have hP : kz_PK rc = kz_PK rc' := by
    funext v K e p
    unfold kz_PK
    rw [hT, hr, hs, h3]
  refine ⟨ha, hr, hP, ?_⟩
  funext z K e p
  unfold kz_SK
  rw [hv, hs, hP, h4]
theorem kz_rc4 {rc rc' : Nat → Int64} (h : ∀ r, r < 24 → rc r = rc' r) : kz_hh rc = kz_hh rc' ∧ kz_wS rc = kz_wS rc' ∧ kz_wC rc = kz_wC rc' ∧ kz_oS rc = kz_oS rc' ∧ kz_oC rc = kz_oC rc' ∧ kz_gen rc = kz_gen rc' := by
  obtain ⟨h1, h2, h3, h4, h5, h6⟩ := kz_rc2 h
  have hv : kz_vec rc = kz_vec rc' := by
    funext s e b
    unfold kz_vec
    rw [h2]
  have hU : kz_eU rc = kz_eU rc' := by
    funext v s K e i c
    unfold kz_eU
    rw [h1, h2, hv]
  have hV : kz_eV rc = kz_eV rc' := by
    funext B a s K e Bm c
    unfold kz_eV
    rw [h2, hv]
  have hE : kz_enc rc = kz_enc rc' := by
    funext v s B a Bm K e du dv
    unfold kz_enc
    rw [hU, hV]
  have hw : kz_wS rc = kz_wS rc' := by
    funext B z K
    unfold kz_wS
    rw [h4, h5]
  have ho : kz_oS rc = kz_oS rc' := by
    funext Bs Bc K du dv
    unfold kz_oS
    rw [h5]
  have hC : kz_oC rc = kz_oC rc' := by
    funext Bs Bc K e du dv
    unfold kz_oC
    rw [hE, ho]
  refine ⟨?_, hw, ?_, ho, hC, ?_⟩
  · funext B K
    unfold kz_hh
    rw [h4]
  · funext B z K e du dv
    unfold kz_wC
    rw [hE, hw]
  · funext Bs Bc K e du dv
    unfold kz_gen
    rw [hC]
-- ===== what stands in the tables of the class
def kz_ctab (turns targets : Nat → Int32) (rc : Nat → Int64) (powers g0 g1 g2 g3 : Nat → Int32) : Prop := kz_tab turns targets ∧ (∀ i, i < 24 → rc i = kz_RC i) ∧ kz_pows powers ∧ ∀ st, st < 3 → g0 st = nI (kz_sK st) ∧ g1 st = nI (kz_sE st) ∧ g2 st = nI (kz_sU st) ∧ g3 st = nI (kz_sV st)
def kz_rtab (turns : Nat → Int32) (rc : Nat → Int64) : Prop := (∀ i, i < 25 → turns i = nI (kz_tn i)) ∧ ∀ i, i < 24 → rc i = kz_RC i
abbrev kz_ISE : String := "java/lang/IllegalStateException"
abbrev kz_UOE : String := "java/lang/UnsupportedOperationException"
abbrev kz_ARE : String := "java/lang/ArithmeticException"
theorem kz_setC (x : Int32) : (kFX0_shapeOf x = some (.inr (kz_IAE, ())) ∧ kFX5_in x (0 : Int32) (2 : Int32) = some (0 : Int32)) ∨ ∃ st, st < 3 ∧ x = nI st ∧ kFX0_shapeOf x = some (.inl st) ∧ kFX5_in x (0 : Int32) (2 : Int32) = some (1 : Int32) := by
  rcases kz_i32 x with h | ⟨n, hn, rfl⟩
  · exact Or.inl ⟨kb_b_tt (decide_eq_true h), kz_in_lo h⟩
  · by_cases h8 : n < 3
    · refine Or.inr ⟨n, h8, rfl, ?_, kz_in_ok (m := 2) (by omega) (by decide)⟩
      unfold kFX0_shapeOf
      rw [nI_clamp hn]
      refine (kb_b_ff (decide_eq_false (nI_pos hn))).trans ?_
      refine (kb_b_tt (kz_lt (b := 3) h8 (by decide))).trans ?_
      exact kb_g_tt (kb_in_n h8 (by decide))
    · exact Or.inl ⟨(kb_b_ff (decide_eq_false (nI_pos hn))).trans (kb_b_ff (kz_nlt (b := 3) (by omega) hn)), kz_in_hi (m := 2) (by omega) hn⟩
theorem kz_bt_if {n b : Nat} {f : Nat → Int32} {F : Nat → Nat} {g : Nat → Int32} (h : ∀ p, g p = if p < n then kz_by (F p) else f p) (hf : ∀ i, i < b → kz_bt (f i)) : ∀ i, i < b → kz_bt (g i) := fun i hi => by
  rw [h i]
  by_cases c : i < n
  · rw [if_pos c]
    exact kz_bt_by _
  · rw [if_neg c]
    exact hf i hi
theorem kz_Y2 {X Z : Nat → Nat → Int32} {s n : Nat} (hb : ∀ i, i < n → kz_bt (X s i)) (hxz : ∀ i, i < n → X s i = Z s i) : kz_Y (fun i => kz_nb8 (X s i)) (X s) 0 n ∧ kz_Y (fun i => kz_nb8 (X s i)) (Z s) 0 n := by
  have h := kz_bt_Y hb
  exact ⟨h, fun i h0 hi => ⟨(h i h0 hi).1, by rw [← hxz i hi]; exact (h i h0 hi).2⟩⟩
theorem kz_T_keys {ts td : Int32} {sz tp ln tq : Nat → Int32} {X Z : Nat → Nat → Int32} (h : kz_rel ts sz tp X td ln tq Z) {lanes moved columns rc : Nat → Int64} {turns targets powers sum counters three nbytes hash seeds g0 g1 g2 g3 : Nat → Int32} {M V : Nat → Nat → Int32} {rt pl : Int32} (hC : kz_ctab turns targets rc powers g0 g1 g2 g3)
    {rc2 roots cubes s224 s256 state other column words sum2 : Nat → Int64} {turns2 block pts seed noise pk : Nat → Int32} {F : Nat → Nat → Int32} {kd rt2 fl bt k0 e0 du0 dv0 : Int32} {tot : Int64} (hR : kz_rtab turns2 rc2) (p1 : Int32) :
    ∃ o r, kFX0_kemKeys p1 sz rt pl lanes moved columns turns targets rc powers sum counters three nbytes hash seeds X g0 g1 M V = some o ∧ kFX5_kemKeys p1 kd rt2 fl tot bt k0 e0 du0 dv0 ln roots cubes s224 s256 turns2 rc2 state other column words block sum2 pts seed noise pk Z F = some r ∧
      ((∃ v, o = .inl v ∧ r.2.2.1 = 0 ∧ v.1 = r.1 ∧ kz_rel ts v.2.1 tp v.2.2.2.2.2.2.2.2.2.2.2.2.2.1 td r.2.2.2.2.2.2.2.2.2.2.2.1 tq r.2.2.2.2.2.2.2.2.2.2.2.2.2.2.2.2.2.2.2.2.2.2.1) ∨
       (∃ E x, o = .inr (E, x) ∧ x.1 = sz ∧ x.2.2.2.2.2.2.2.2.2.2.2.2.1 = X ∧ r.2.2.2.2.2.2.2.2.2.2.2.1 = ln ∧ r.2.2.2.2.2.2.2.2.2.2.2.2.2.2.2.2.2.2.2.2.2.2.1 = Z ∧ ((E = kz_IAE ∧ r.2.2.1 = 1) ∨ (E = kz_ISE ∧ r.2.2.1 = 2) ∨ (E = kz_ARE ∧ r.2.2.1 = 3)))) := by
  have h0 := h
  obtain ⟨T, L, h1, h2, h3, h4, h5, h6, h7, h8⟩ := h
  obtain ⟨hT, hrc, hP, hg⟩ := hC
  obtain ⟨hT2, hrc2⟩ := hR
  rcases kz_setC p1 with ⟨c1, r1⟩ | ⟨st, hst, rfl, c1, r1⟩
  · refine ⟨.inr (kz_IAE, (sz, pl, rt, lanes, moved, columns, sum, counters, three, nbytes, hash, seeds, X, M, V)), ((0 : Int32), bt, (1 : Int32), du0, dv0, e0, fl, k0, kd, rt2, tot, ln, state, other, column, words, block, sum2, pts, seed, noise, pk, Z, F), ?_, ?_, Or.inr ⟨kz_IAE, _, rfl, rfl, rfl, rfl, rfl, Or.inl ⟨rfl, rfl⟩⟩⟩
    · unfold kFX0_kemKeys
      exact (kb_o_v c1).trans rfl
    · unfold kFX5_kemKeys
      refine (kb_o_v r1).trans ?_
      refine (kb_o_v (kz_good0 1)).trans ?_
      exact kb_b_tt (by decide)
  obtain ⟨hg0, hg1, -, -⟩ := hg st hst
  obtain ⟨hK, hK2, he, -, -⟩ := kz_set hst
  obtain ⟨hL0, hsz0, hln0⟩ := h4 0 (by decide)
  have rpre : ∀ {o} (y : Int32), (if L 0 = 64 then (1 : Int32) else 0) = y → kJX5_kemKeys_31 (nI st) kd rt2 fl tot bt k0 e0 du0 dv0 ln roots cubes s224 s256 turns2 rc2 state other column words block sum2 pts seed noise pk Z F y = o → kFX5_kemKeys (nI st) kd rt2 fl tot bt k0 e0 du0 dv0 ln roots cubes s224 s256 turns2 rc2 state other column words block sum2 pts seed noise pk Z F = o := fun y hy ho => by
    unfold kFX5_kemKeys
    refine (kb_o_v r1).trans ?_
    refine (kb_o_v (kz_good1 1)).trans ?_
    refine (kb_b_ff (by decide)).trans ?_
    rw [show ln (0 : Int32).toNatClampNeg = nI (L 0) from hln0]
    by_cases c : L 0 = 64
    · rw [if_pos c] at hy
      subst hy
      exact (kb_b_tt (kz_eqt (b := 64) c)).trans ho
    · rw [if_neg c] at hy
      subst hy
      exact (kb_b_ff (kz_eqf (b := 64) c (by omega) (by decide))).trans ho
  by_cases c64 : L 0 = 64
  · have hcr : kFX0_checkRandom (64 : Int32) sz = some (.inl ()) := by
      unfold kFX0_checkRandom
      rw [show sz (0 : Int32).toNatClampNeg = nI (L 0) from hsz0]
      exact kb_b_tt (kz_eqt (b := 64) c64)
    obtain ⟨hY1, hY2⟩ := kz_Y2 (X := X) (Z := Z) (s := 0) (n := 64) (fun i hi => (h8 0 i (by decide) (by omega)).1) (fun i hi => h7 0 i (by decide) (by omega))
    obtain ⟨g, q1, q2⟩ := kz_rkeys (rc := rc2) (roots := roots) (cubes := cubes) (s224 := s224) (s256 := s256) (state := state) (other := other) (column := column) (words := words) (sum := sum2) (length := ln) (block := block) (pts := pts) (seed := seed) (noise := noise) (pk := pk) (X := Z) (M := F) (kd := kd) (rt := rt2) (fl := fl) (bt := bt) (k0 := k0) (e0 := e0) (du0 := du0) (dv0 := dv0) (tot := tot) hT2 hst hY2
    obtain ⟨m, p2, e2⟩ := kz_makeKeys (rc := rc) (lanes := lanes) (moved := moved) (columns := columns) (sum := sum) (counters := counters) (three := three) (nbytes := nbytes) (hash := hash) (seeds := seeds) (f2 := X 0) (f3 := X 1) (f4 := X 2) (n2 := 8192) (n3 := 8192) (n4 := 8192) (M := M) (V := V) hT hP hK he hY1 (by decide) (by decide) (by omega) (by decide) (by omega) (by decide)
    obtain ⟨x1, x2, x3, x4⟩ := kz_rc3 (rc := rc2) (rc' := rc) (fun r hr => (hrc2 r hr).trans (hrc r hr).symm)
    rw [x1, x2, x3, x4] at q2
    rcases e2 with ⟨⟨w1, w2, u1, u2, u3, u4, u5, u6, u7, u8, u9, f16, f17, M2, V2⟩, rfl, ha, e3, e4⟩ | ⟨ha, ⟨w1, w2, u1, u2, u3, u4, u5, u6, u7, u8, u9, f16, f17, M2, V2⟩, rfl, e3, e4⟩
    · rcases q2 with ⟨q2, -, q3, q4, a1, a2, q5, q6, q7⟩ | ⟨-, na, -⟩
      · replace e3 : ∀ p, f16 p = if p < 384 * kz_sK st + 32 then kz_by (kz_PK rc (fun k => kz_by (kz_nb8 (X 0 k))) (kz_sK st) (kz_sE st) p) else X 1 p := e3
        replace e4 : ∀ p, f17 p = if p < 768 * kz_sK st + 96 then kz_by (kz_SK rc (fun k => kz_nb8 (X 0 k)) (kz_sK st) (kz_sE st) p) else X 2 p := e4
        refine ⟨.inl (nI (768 * kz_sK st + 96), upd (upd sz 1 (nI (384 * kz_sK st + 32))) 2 (nI (768 * kz_sK st + 96)), w1, w2, u1, u2, u3, u4, u5, u6, u7, u8, u9, va_up (va_up X 1 f16) 2 f17, M2, V2), g, ?_, rpre 1 (if_pos c64) q1, Or.inl ⟨_, rfl, q2, q3.symm, ?_⟩⟩
        · unfold kFX0_kemKeys
          refine (kb_o_v c1).trans ?_
          refine kz_il ?_
          refine (kb_g_tt (decide_eq_true hst)).trans ?_
          refine (kb_o_v hcr).trans ?_
          refine kz_il ?_
          rw [hg0, hg1]
          refine (kb_o_v p2).trans ?_
          refine kz_il ?_
          refine (kb_n_v (v := va_up X 1 f16) rfl).trans ?_
          refine (kb_n_v (v := va_up (va_up X 1 f16) 2 f17) rfl).trans ?_
          refine (kb_o_v (kz_pubS (kz_sK st))).trans ?_
          refine (kb_n_v (v := upd sz 1 (nI (384 * kz_sK st + 32))) rfl).trans ?_
          refine (kb_o_v (kz_secS (kz_sK st))).trans ?_
          refine (kb_n_v (v := upd (upd sz 1 (nI (384 * kz_sK st + 32))) 2 (nI (768 * kz_sK st + 96))) rfl).trans ?_
          rfl
        · rw [q4, q5]
          refine kz_rel_slot (kz_rel_slot h0 (by omega) (fun i hi => ?_) (kz_bt_if e3 (fun i hi => (h8 1 i (by decide) hi).1)) (kz_bt_if q6 (fun i hi => (h8 1 i (by decide) hi).2))) (by omega) (fun i hi => ?_) (kz_bt_if e4 (fun i hi => (h8 2 i (by decide) hi).1)) (kz_bt_if q7 (fun i hi => (h8 2 i (by decide) hi).2))
          · rw [e3 i, q6 i, if_pos hi, if_pos hi]
          · rw [e4 i, q7 i, if_pos hi, if_pos hi]
      · exact absurd ha na
    · rcases q2 with ⟨-, na, -⟩ | ⟨q2, -, q3, q4⟩
      · exact absurd na ha
      · replace e3 : f16 = X 1 := e3
        replace e4 : f17 = X 2 := e4
        subst e3 e4
        refine ⟨.inr (kz_ARE, (sz, w1, w2, u1, u2, u3, u4, u5, u6, u7, u8, u9, va_up (va_up X 1 (X 1)) 2 (X 2), M2, V2)), g, ?_, rpre 1 (if_pos c64) q1, Or.inr ⟨kz_ARE, _, rfl, rfl, ?_, q3, q4, Or.inr (Or.inr ⟨rfl, q2⟩)⟩⟩
        · unfold kFX0_kemKeys
          refine (kb_o_v c1).trans ?_
          refine kz_il ?_
          refine (kb_g_tt (decide_eq_true hst)).trans ?_
          refine (kb_o_v hcr).trans ?_
          refine kz_il ?_
          rw [hg0, hg1]
          exact (kb_o_v p2).trans rfl
        · show va_up (va_up X 1 (X 1)) 2 (X 2) = X
          rw [kz_vi, kz_vi]
  · have hcr : kFX0_checkRandom (64 : Int32) sz = some (.inr (kz_ISE, ())) := by
      unfold kFX0_checkRandom
      rw [show sz (0 : Int32).toNatClampNeg = nI (L 0) from hsz0]
      exact kb_b_ff (kz_eqf (b := 64) c64 (by omega) (by decide))
    refine ⟨.inr (kz_ISE, (sz, pl, rt, lanes, moved, columns, sum, counters, three, nbytes, hash, seeds, X, M, V)), ((0 : Int32), bt, (2 : Int32), du0, dv0, e0, fl, k0, kd, rt2, tot, ln, state, other, column, words, block, sum2, pts, seed, noise, pk, Z, F), ?_, rpre 0 (if_neg c64) ?_, Or.inr ⟨kz_ISE, _, rfl, rfl, rfl, rfl, rfl, Or.inr (Or.inl ⟨rfl, rfl⟩)⟩⟩
    · unfold kFX0_kemKeys
      refine (kb_o_v c1).trans ?_
      refine kz_il ?_
      refine (kb_g_tt (decide_eq_true hst)).trans ?_
      exact (kb_o_v hcr).trans rfl
    · unfold kJX5_kemKeys_31
      refine (kb_o_v (kz_good0 2)).trans ?_
      exact kb_b_tt (by decide)
theorem kz_T_wrap {ts td : Int32} {sz tp ln tq : Nat → Int32} {X Z : Nat → Nat → Int32} (h : kz_rel ts sz tp X td ln tq Z) {lanes moved columns rc : Nat → Int64} {turns targets powers sum term counters three nbytes hash enc seeds g0 g1 g2 g3 : Nat → Int32} {M V : Nat → Nat → Int32} {rt pl : Int32} (hC : kz_ctab turns targets rc powers g0 g1 g2 g3)
    {rc2 roots cubes s224 s256 state other column words sum2 : Nat → Int64} {turns2 block pts seed noise back : Nat → Int32} {F : Nat → Nat → Int32} {kd rt2 fl bt k0 e0 du0 dv0 : Int32} {tot : Int64} (hR : kz_rtab turns2 rc2) (p1 : Int32) :
    ∃ o r, kFX0_kemWrap p1 sz rt pl lanes moved columns turns targets rc powers sum term counters three nbytes hash enc seeds X g0 g1 g2 g3 M V = some o ∧ kFX5_kemWrap p1 kd rt2 fl tot bt k0 e0 du0 dv0 ln roots cubes s224 s256 turns2 rc2 state other column words block sum2 pts seed noise back Z F = some r ∧
      ((∃ v, o = .inl v ∧ r.2.2.1 = 0 ∧ v.1 = r.1 ∧ kz_rel ts v.2.1 tp v.2.2.2.2.2.2.2.2.2.2.2.2.2.2.2.1 td r.2.2.2.2.2.2.2.2.2.2.2.1 tq r.2.2.2.2.2.2.2.2.2.2.2.2.2.2.2.2.2.2.2.2.2.2.1) ∨
       (∃ E x, o = .inr (E, x) ∧ x.1 = sz ∧ x.2.2.2.2.2.2.2.2.2.2.2.2.2.2.1 = X ∧ r.2.2.2.2.2.2.2.2.2.2.2.1 = ln ∧ r.2.2.2.2.2.2.2.2.2.2.2.2.2.2.2.2.2.2.2.2.2.2.1 = Z ∧ ((E = kz_IAE ∧ r.2.2.1 = 1) ∨ (E = kz_ISE ∧ r.2.2.1 = 2) ∨ (E = kz_UOE ∧ r.2.2.1 = 3) ∨ (E = kz_ARE ∧ r.2.2.1 = 4)))) := by
  have h0 := h
  obtain ⟨T, L, h1, h2, h3, h4, h5, h6, h7, h8⟩ := h
  obtain ⟨hT, hrc, hP, hg⟩ := hC
  obtain ⟨hT2, hrc2⟩ := hR
  rcases kz_setC p1 with ⟨c1, r1⟩ | ⟨st, hst, rfl, c1, r1⟩
  · refine ⟨.inr (kz_IAE, (sz, pl, rt, lanes, moved, columns, sum, term, counters, three, nbytes, hash, enc, seeds, X, M, V)), ((0 : Int32), bt, (1 : Int32), du0, dv0, e0, fl, k0, kd, rt2, tot, ln, state, other, column, words, block, sum2, pts, seed, noise, back, Z, F), ?_, ?_, Or.inr ⟨kz_IAE, _, rfl, rfl, rfl, rfl, rfl, Or.inl ⟨rfl, rfl⟩⟩⟩
    · unfold kFX0_kemWrap
      exact (kb_o_v c1).trans rfl
    · unfold kFX5_kemWrap
      refine (kb_o_v r1).trans ?_
      refine (kb_o_v (kz_good0 1)).trans ?_
      exact kb_b_tt (by decide)
  obtain ⟨hg0, hg1, hg2, hg3⟩ := hg st hst
  obtain ⟨hK, hK2, he, hdu, hdv⟩ := kz_set hst
  obtain ⟨hd1, hd2, hd3⟩ := kz_d10 hdu
  obtain ⟨hv1, hv2, hv3⟩ := kz_d4 hdv
  have hdK : 32 * kz_sU st * kz_sK st ≤ 352 * 4 := Nat.mul_le_mul (by omega) (by omega)
  obtain ⟨hL0, hsz0, hln0⟩ := h4 0 (by decide)
  obtain ⟨hL1, hsz1, hln1⟩ := h4 1 (by decide)
  have rpre : ∀ {o} (y : Int32), (if L 0 = 32 then (1 : Int32) else 0) = y → kJX5_kemWrap_31 (nI st) kd rt2 fl tot bt k0 e0 du0 dv0 ln roots cubes s224 s256 turns2 rc2 state other column words block sum2 pts seed noise back Z F y = o → kFX5_kemWrap (nI st) kd rt2 fl tot bt k0 e0 du0 dv0 ln roots cubes s224 s256 turns2 rc2 state other column words block sum2 pts seed noise back Z F = o := fun y hy ho => by
    unfold kFX5_kemWrap
    refine (kb_o_v r1).trans ?_
    refine (kb_o_v (kz_good1 1)).trans ?_
    refine (kb_b_ff (by decide)).trans ?_
    rw [show ln (0 : Int32).toNatClampNeg = nI (L 0) from hln0]
    by_cases c : L 0 = 32
    · rw [if_pos c] at hy
      subst hy
      exact (kb_b_tt (kz_eqt (b := 32) c)).trans ho
    · rw [if_neg c] at hy
      subst hy
      exact (kb_b_ff (kz_eqf (b := 32) c (by omega) (by decide))).trans ho
  by_cases c32 : L 0 = 32
  · have hcr : kFX0_checkRandom (32 : Int32) sz = some (.inl ()) := by
      unfold kFX0_checkRandom
      rw [show sz (0 : Int32).toNatClampNeg = nI (L 0) from hsz0]
      exact kb_b_tt (kz_eqt (b := 32) c32)
    obtain ⟨hz1, hz2⟩ := kz_Y2 (X := X) (Z := Z) (s := 0) (n := 32) (fun i hi => (h8 0 i (by decide) (by omega)).1) (fun i hi => h7 0 i (by decide) (by omega))
    obtain ⟨hB1, hB2⟩ := kz_Y2 (X := X) (Z := Z) (s := 1) (n := L 1) (fun i hi => (h8 1 i (by decide) (by omega)).1) (fun i hi => h7 1 i (by decide) hi)
    obtain ⟨g, q1, q2⟩ := kz_rwrap (rc := rc2) (roots := roots) (cubes := cubes) (s224 := s224) (s256 := s256) (state := state) (other := other) (column := column) (words := words) (sum := sum2) (length := ln) (block := block) (pts := pts) (seed := seed) (noise := noise) (back := back) (X := Z) (M := F) (kd := kd) (rt := rt2) (fl := fl) (bt := bt) (k0 := k0) (e0 := e0) (du0 := du0) (dv0 := dv0) (tot := tot) hT2 hst hln1 (by omega) hB2 hz2
    have hrr : ∀ r, r < 24 → rc2 r = rc r := fun r hr => (hrc2 r hr).trans (hrc r hr).symm
    obtain ⟨x1, x2, x3, x4⟩ := kz_rc3 hrr
    obtain ⟨y1, y2, y3, y4, y5, y6⟩ := kz_rc4 hrr
    rw [x1, y2, y3] at q2
    -- the class up to the check of the key
    have cpre : ∀ {o}, (kb_b (decide (nI (L 1) = nI (384 * kz_sK st + 32))) ((kFX1_isReduced 8192 term (g0 st) (X 1)).bind fun u => (fun r_9 f_10 => kb_b (decide (r_9 = 0)) (some (Sum.inr ("java/lang/UnsupportedOperationException", (sz, pl, rt, lanes, moved, columns, sum, f_10, counters, three, nbytes, hash, enc, seeds, X, M, V)))) ((kFX1_wrap 8192 8192 8192 8192 lanes moved columns turns targets rc powers sum f_10 counters three nbytes hash enc seeds (g0 st) (g1 st) (g2 st) (g3 st) (X 1) (X 0) (X 5) (X 6) M V).bind fun u => kb_s u (fun o => (fun w_15 w_16 f_17 f_18 f_19 f_20 f_21 f_22 f_23 f_24 f_25 f_26 f_27 f_28 f_29 m_30 m_31 => kb_n (va_up X 5 f_28) fun m_42 => kb_n (va_up m_42 6 f_29) fun m_44 => (kFX3_packetSize (g0 st) (g2 st) (g3 st)).bind fun u => (fun r_45 => kb_n (upd sz (5 : Int32).toNatClampNeg r_45) fun f_48 => kb_n (upd f_48 (6 : Int32).toNatClampNeg (32 : Int32)) fun f_49 => some (Sum.inl ((f_49 (5 : Int32).toNatClampNeg), f_49, w_15, w_16, f_17, f_18, f_19, f_20, f_21, f_22, f_23, f_24, f_25, f_26, f_27, m_44, m_30, m_31))) u) o.1 o.2.1 o.2.2.1 o.2.2.2.1 o.2.2.2.2.1 o.2.2.2.2.2.1 o.2.2.2.2.2.2.1 o.2.2.2.2.2.2.2.1 o.2.2.2.2.2.2.2.2.1 o.2.2.2.2.2.2.2.2.2.1 o.2.2.2.2.2.2.2.2.2.2.1 o.2.2.2.2.2.2.2.2.2.2.2.1 o.2.2.2.2.2.2.2.2.2.2.2.2.1 o.2.2.2.2.2.2.2.2.2.2.2.2.2.1 o.2.2.2.2.2.2.2.2.2.2.2.2.2.2.1 o.2.2.2.2.2.2.2.2.2.2.2.2.2.2.2.1 o.2.2.2.2.2.2.2.2.2.2.2.2.2.2.2.2) (fun x => some (Sum.inr (x.1, (sz, x.2.1, x.2.2.1, x.2.2.2.1, x.2.2.2.2.1, x.2.2.2.2.2.1, x.2.2.2.2.2.2.1, x.2.2.2.2.2.2.2.1, x.2.2.2.2.2.2.2.2.1, x.2.2.2.2.2.2.2.2.2.1, x.2.2.2.2.2.2.2.2.2.2.1, x.2.2.2.2.2.2.2.2.2.2.2.1, x.2.2.2.2.2.2.2.2.2.2.2.2.1, x.2.2.2.2.2.2.2.2.2.2.2.2.2.1, (va_up (va_up X 5 x.2.2.2.2.2.2.2.2.2.2.2.2.2.2.1) 6 x.2.2.2.2.2.2.2.2.2.2.2.2.2.2.2.1), x.2.2.2.2.2.2.2.2.2.2.2.2.2.2.2.2.1, x.2.2.2.2.2.2.2.2.2.2.2.2.2.2.2.2.2)))))) u.1 u.2) (some (Sum.inr ("java/lang/UnsupportedOperationException", (sz, pl, rt, lanes, moved, columns, sum, term, counters, three, nbytes, hash, enc, seeds, X, M, V))))) = o → kFX0_kemWrap (nI st) sz rt pl lanes moved columns turns targets rc powers sum term counters three nbytes hash enc seeds X g0 g1 g2 g3 M V = o := fun ho => by
      unfold kFX0_kemWrap
      refine (kb_o_v c1).trans ?_
      refine kz_il ?_
      refine (kb_g_tt (decide_eq_true hst)).trans ?_
      refine (kb_o_v hcr).trans ?_
      refine kz_il ?_
      refine (kb_o_v (u := nI (384 * kz_sK st + 32)) (by rw [hg0]; exact kz_pubS _)).trans ?_
      dsimp only
      rw [show sz (1 : Int32).toNatClampNeg = nI (L 1) from hsz1]
      exact ho
    by_cases cL : L 1 = 384 * kz_sK st + 32
    · obtain ⟨xr, tr, p2, e2⟩ := kz_isReduced (f := X 1) (term := term) (B := fun i => kz_nb8 (X 1 i)) (K := kz_sK st) (n2 := 8192) hK (kz_Y_m hB1 (by omega) (by omega)) (by omega) (by decide)
      rcases e2 with ⟨rfl, hred⟩ | ⟨rfl, hred⟩
      · obtain ⟨m, p3, e3⟩ := kz_wrap (rc := rc) (lanes := lanes) (moved := moved) (columns := columns) (sum := sum) (term := tr) (counters := counters) (three := three) (nbytes := nbytes) (hash := hash) (enc := enc) (seeds := seeds) (f2 := X 1) (f3 := X 0) (f4 := X 5) (f5 := X 6) (B := fun i => kz_nb8 (X 1 i)) (z := fun i => kz_nb8 (X 0 i)) (K := kz_sK st) (e := kz_sE st) (du := kz_sU st) (dv := kz_sV st) (n2 := 8192) (n3 := 8192) (n4 := 8192) (n5 := 8192) (M := M) (V := V) hT hP hK he hd3 hv3 (kz_Y_m hB1 (by omega) (by omega)) hz1 (by omega) (by decide) (by decide) (by decide) (by omega) (by decide) (by decide) (by decide)
        rcases e3 with ⟨⟨w1, w2, u1, u2, u3, u4, u5, u6, u7, u8, u9, u10, u11, f28, f29, M2, V2⟩, rfl, ha, e4, e5⟩ | ⟨ha, ⟨w1, w2, u1, u2, u3, u4, u5, u6, u7, u8, u9, u10, u11, f28, f29, M2, V2⟩, rfl, e4, e5⟩
        · rcases q2 with ⟨-, -, q2, -, q3, q4, a5, a6, q5, q6, q7⟩ | ⟨-, -, -, na, -⟩ | ⟨na, -⟩
          · replace e4 : ∀ p, f28 p = if p < 32 * kz_sU st * kz_sK st + 32 * kz_sV st then kz_by (kz_wC rc (fun i => kz_nb8 (X 1 i)) (fun i => kz_nb8 (X 0 i)) (kz_sK st) (kz_sE st) (kz_sU st) (kz_sV st) p) else X 5 p := e4
            replace e5 : ∀ p, f29 p = if p < 32 then kz_by (kz_wS rc (fun i => kz_nb8 (X 1 i)) (fun i => kz_nb8 (X 0 i)) (kz_sK st) p) else X 6 p := e5
            refine ⟨.inl (nI (32 * kz_sU st * kz_sK st + 32 * kz_sV st), upd (upd sz 5 (nI (32 * kz_sU st * kz_sK st + 32 * kz_sV st))) 6 (nI 32), w1, w2, u1, u2, u3, u4, u5, u6, u7, u8, u9, u10, u11, va_up (va_up X 5 f28) 6 f29, M2, V2), g, cpre ?_, rpre 1 (if_pos c32) q1, Or.inl ⟨_, rfl, q2, q3.symm, ?_⟩⟩
            · rw [hg0, hg1, hg2, hg3]
              refine (kb_b_tt (kz_eqt cL)).trans ?_
              refine (kb_o_v p2).trans ?_
              refine (kb_b_ff (kz_f10)).trans ?_
              refine (kb_o_v p3).trans ?_
              refine kz_il ?_
              refine (kb_n_v (v := va_up X 5 f28) rfl).trans ?_
              refine (kb_n_v (v := va_up (va_up X 5 f28) 6 f29) rfl).trans ?_
              refine (kb_o_v (kz_pkS (kz_sK st) (kz_sU st) (kz_sV st))).trans ?_
              refine (kb_n_v (v := upd sz 5 (nI (32 * kz_sU st * kz_sK st + 32 * kz_sV st))) rfl).trans ?_
              refine (kb_n_v (v := upd (upd sz 5 (nI (32 * kz_sU st * kz_sK st + 32 * kz_sV st))) 6 (nI 32)) rfl).trans ?_
              rfl
            · rw [q4, q5]
              refine kz_rel_slot (kz_rel_slot h0 (by omega) (fun i hi => ?_) (kz_bt_if e4 (fun i hi => (h8 5 i (by decide) hi).1)) (kz_bt_if q6 (fun i hi => (h8 5 i (by decide) hi).2))) (by decide) (fun i hi => ?_) (kz_bt_if e5 (fun i hi => (h8 6 i (by decide) hi).1)) (kz_bt_if q7 (fun i hi => (h8 6 i (by decide) hi).2))
              · rw [e4 i, q6 i, if_pos hi, if_pos hi]
              · rw [e5 i, q7 i, if_pos hi, if_pos hi]
          · exact absurd ha na
          · exact absurd ⟨cL, hred⟩ na
        · rcases q2 with ⟨-, -, -, na, -⟩ | ⟨-, -, q2, -, q3, q4⟩ | ⟨na, -⟩
          · exact absurd na ha
          · replace e4 : f28 = X 5 := e4
            replace e5 : f29 = X 6 := e5
            subst e4 e5
            refine ⟨.inr (kz_ARE, (sz, w1, w2, u1, u2, u3, u4, u5, u6, u7, u8, u9, u10, u11, va_up (va_up X 5 (X 5)) 6 (X 6), M2, V2)), g, cpre ?_, rpre 1 (if_pos c32) q1, Or.inr ⟨kz_ARE, _, rfl, rfl, ?_, q3, q4, Or.inr (Or.inr (Or.inr ⟨rfl, q2⟩))⟩⟩
            · rw [hg0, hg1, hg2, hg3]
              refine (kb_b_tt (kz_eqt cL)).trans ?_
              refine (kb_o_v p2).trans ?_
              refine (kb_b_ff (kz_f10)).trans ?_
              exact (kb_o_v p3).trans rfl
            · show va_up (va_up X 5 (X 5)) 6 (X 6) = X
              rw [kz_vi, kz_vi]
          · exact absurd ⟨cL, hred⟩ na
      · rcases q2 with ⟨-, na, -⟩ | ⟨-, na, -⟩ | ⟨-, q2, q3, q4⟩
        · exact absurd na hred
        · exact absurd na hred
        · refine ⟨.inr (kz_UOE, (sz, pl, rt, lanes, moved, columns, sum, tr, counters, three, nbytes, hash, enc, seeds, X, M, V)), g, cpre ?_, rpre 1 (if_pos c32) q1, Or.inr ⟨kz_UOE, _, rfl, rfl, rfl, q3, q4, Or.inr (Or.inr (Or.inl ⟨rfl, q2⟩))⟩⟩
          rw [hg0]
          refine (kb_b_tt (kz_eqt cL)).trans ?_
          refine (kb_o_v p2).trans ?_
          exact kb_b_tt (kz_t00)
    · rcases q2 with ⟨na, -⟩ | ⟨na, -⟩ | ⟨-, q2, q3, q4⟩
      · exact absurd na cL
      · exact absurd na cL
      · refine ⟨.inr (kz_UOE, (sz, pl, rt, lanes, moved, columns, sum, term, counters, three, nbytes, hash, enc, seeds, X, M, V)), g, cpre ?_, rpre 1 (if_pos c32) q1, Or.inr ⟨kz_UOE, _, rfl, rfl, rfl, q3, q4, Or.inr (Or.inr (Or.inl ⟨rfl, q2⟩))⟩⟩
        exact kb_b_ff (kz_eqf cL (by omega) (by omega))
  · have hcr : kFX0_checkRandom (32 : Int32) sz = some (.inr (kz_ISE, ())) := by
      unfold kFX0_checkRandom
      rw [show sz (0 : Int32).toNatClampNeg = nI (L 0) from hsz0]
      exact kb_b_ff (kz_eqf (b := 32) c32 (by omega) (by decide))
    refine ⟨.inr (kz_ISE, (sz, pl, rt, lanes, moved, columns, sum, term, counters, three, nbytes, hash, enc, seeds, X, M, V)), ((0 : Int32), bt, (2 : Int32), du0, dv0, e0, fl, k0, kd, rt2, tot, ln, state, other, column, words, block, sum2, pts, seed, noise, back, Z, F), ?_, rpre 0 (if_neg c32) ?_, Or.inr ⟨kz_ISE, _, rfl, rfl, rfl, rfl, rfl, Or.inr (Or.inl ⟨rfl, rfl⟩)⟩⟩
    · unfold kFX0_kemWrap
      refine (kb_o_v c1).trans ?_
      refine kz_il ?_
      refine (kb_g_tt (decide_eq_true hst)).trans ?_
      exact (kb_o_v hcr).trans rfl
    · unfold kJX5_kemWrap_31
      refine (kb_o_v (kz_good0 2)).trans ?_
      exact kb_b_tt (by decide)
theorem kz_T_open {ts td : Int32} {sz tp ln tq : Nat → Int32} {X Z : Nat → Nat → Int32} (h : kz_rel ts sz tp X td ln tq Z) {lanes moved columns rc : Nat → Int64} {turns targets powers sum term counters three nbytes hash msg enc seeds g0 g1 g2 g3 : Nat → Int32} {M V : Nat → Nat → Int32} {rt pl : Int32} (hC : kz_ctab turns targets rc powers g0 g1 g2 g3)
    {rc2 roots cubes s224 s256 state other column words sum2 : Nat → Int64} {turns2 block pts seed noise back msg2 : Nat → Int32} {F : Nat → Nat → Int32} {kd rt2 fl bt k0 e0 du0 dv0 : Int32} {tot : Int64} (hR : kz_rtab turns2 rc2) (p1 : Int32) :
    ∃ o r, kFX0_kemOpen p1 sz rt pl lanes moved columns turns targets rc powers sum term counters three nbytes hash msg enc seeds X g0 g1 g2 g3 M V = some o ∧ kFX5_kemOpen p1 kd rt2 fl tot bt k0 e0 du0 dv0 ln roots cubes s224 s256 turns2 rc2 state other column words block sum2 pts seed noise back msg2 Z F = some r ∧
      ((∃ v, o = .inl v ∧ r.2.2.1 = 0 ∧ v.1 = r.1 ∧ kz_rel ts v.2.1 tp v.2.2.2.2.2.2.2.2.2.2.2.2.2.2.2.2.1 td r.2.2.2.2.2.2.2.2.2.2.2.1 tq r.2.2.2.2.2.2.2.2.2.2.2.2.2.2.2.2.2.2.2.2.2.2.2.1) ∨
       (∃ E x, o = .inr (E, x) ∧ x.1 = sz ∧ x.2.2.2.2.2.2.2.2.2.2.2.2.2.2.2.1 = X ∧ r.2.2.2.2.2.2.2.2.2.2.2.1 = ln ∧ r.2.2.2.2.2.2.2.2.2.2.2.2.2.2.2.2.2.2.2.2.2.2.2.1 = Z ∧ ((E = kz_IAE ∧ r.2.2.1 = 1) ∨ (E = kz_UOE ∧ r.2.2.1 = 2) ∨ (E = kz_ARE ∧ r.2.2.1 = 3)))) := by
  have h0 := h
  obtain ⟨T, L, h1, h2, h3, h4, h5, h6, h7, h8⟩ := h
  obtain ⟨hT, hrc, hP, hg⟩ := hC
  obtain ⟨hT2, hrc2⟩ := hR
  rcases kz_setC p1 with ⟨c1, r1⟩ | ⟨st, hst, rfl, c1, r1⟩
  · refine ⟨.inr (kz_IAE, (sz, pl, rt, lanes, moved, columns, sum, term, counters, three, nbytes, hash, msg, enc, seeds, X, M, V)), ((0 : Int32), bt, (1 : Int32), du0, dv0, e0, fl, k0, kd, rt2, tot, ln, state, other, column, words, block, sum2, pts, seed, noise, back, msg2, Z, F), ?_, ?_, Or.inr ⟨kz_IAE, _, rfl, rfl, rfl, rfl, rfl, Or.inl ⟨rfl, rfl⟩⟩⟩
    · unfold kFX0_kemOpen
      exact (kb_o_v c1).trans rfl
    · unfold kFX5_kemOpen
      refine (kb_o_v r1).trans ?_
      refine (kb_o_v (kz_good0 1)).trans ?_
      exact kb_b_tt (by decide)
  obtain ⟨hg0, hg1, hg2, hg3⟩ := hg st hst
  obtain ⟨hK, hK2, he, hdu, hdv⟩ := kz_set hst
  obtain ⟨hd1, hd2, hd3⟩ := kz_d10 hdu
  obtain ⟨hv1, hv2, hv3⟩ := kz_d4 hdv
  have hdK : 32 * kz_sU st * kz_sK st ≤ 352 * 4 := Nat.mul_le_mul (by omega) (by omega)
  obtain ⟨hL2, hsz2, hln2⟩ := h4 2 (by decide)
  obtain ⟨hL5, hsz5, hln5⟩ := h4 5 (by decide)
  obtain ⟨hs1, hs2⟩ := kz_Y2 (X := X) (Z := Z) (s := 2) (n := L 2) (fun i hi => (h8 2 i (by decide) (by omega)).1) (fun i hi => h7 2 i (by decide) hi)
  obtain ⟨hc1, hc2⟩ := kz_Y2 (X := X) (Z := Z) (s := 5) (n := L 5) (fun i hi => (h8 5 i (by decide) (by omega)).1) (fun i hi => h7 5 i (by decide) hi)
  obtain ⟨g, q1, q2⟩ := kz_ropen (rc := rc2) (roots := roots) (cubes := cubes) (s224 := s224) (s256 := s256) (state := state) (other := other) (column := column) (words := words) (sum := sum2) (length := ln) (block := block) (pts := pts) (seed := seed) (noise := noise) (back := back) (msg := msg2) (X := Z) (M := F) (kd := kd) (rt := rt2) (fl := fl) (bt := bt) (k0 := k0) (e0 := e0) (du0 := du0) (dv0 := dv0) (tot := tot) hT2 hst hln2 (by omega) hln5 (by omega) hs2 hc2
  have hrr : ∀ r, r < 24 → rc2 r = rc r := fun r hr => (hrc2 r hr).trans (hrc r hr).symm
  obtain ⟨x1, x2, x3, x4⟩ := kz_rc3 hrr
  obtain ⟨y1, y2, y3, y4, y5, y6⟩ := kz_rc4 hrr
  obtain ⟨-, -, -, -, -, z6⟩ := kz_rc2 hrr
  rw [x1, y1, y4, y6, z6] at q2
  by_cases cL5 : L 5 = 32 * kz_sU st * kz_sK st + 32 * kz_sV st
  · by_cases cL2 : L 2 = 768 * kz_sK st + 96
    · obtain ⟨xr, wa, wb, la, ma, ca, ha', p2, e2⟩ := kz_holdsItsHash (rc := rc) (lanes := lanes) (moved := moved) (columns := columns) (hash := hash) (f := X 2) (B := fun i => kz_nb8 (X 2 i)) (K := kz_sK st) (n2 := 8192) hT hK (kz_Y_m hs1 (by omega) (by omega)) (by omega) (by decide)
      rcases e2 with ⟨rfl, hh⟩ | ⟨rfl, hh⟩
      · obtain ⟨m, p3, e3⟩ := kz_open (rc := rc) (lanes := la) (moved := ma) (columns := ca) (sum := sum) (term := term) (counters := counters) (three := three) (nbytes := nbytes) (msg := msg) (enc := enc) (seeds := seeds) (f2 := X 2) (f3 := X 5) (f4 := X 6) (Bs := fun i => kz_nb8 (X 2 i)) (Bc := fun i => kz_nb8 (X 5 i)) (K := kz_sK st) (e := kz_sE st) (du := kz_sU st) (dv := kz_sV st) (n2 := 8192) (n3 := 8192) (n4 := 8192) (M := M) (V := V) hT hP hK he (by omega) hd3 (by omega) hv3 (kz_Y_m hs1 (by omega) (by omega)) (kz_Y_m hc1 (by omega) (by omega)) (by omega) (by decide) (by omega) (by decide) (by decide) (by decide)
        have hfin : ∀ {t : Int32} {w1 w2 : Int32} {u1 u2 u3 : Nat → Int64} {u4 u5 u6 u7 u8 u9 u10 u11 f37 : Nat → Int32} {M2 V2 : Nat → Nat → Int32}, m = .inl (t, w1, w2, u1, u2, u3, u4, u5, u6, u7, u8, u9, u10, u11, f37, M2, V2) → (t = 0 ∨ t = 1) → kFX0_kemOpen (nI st) sz rt pl lanes moved columns turns targets rc powers sum term counters three nbytes hash msg enc seeds X g0 g1 g2 g3 M V = some (.inl (t, upd sz 6 (nI 32), w1, w2, u1, u2, u3, u4, u5, u6, u7, u8, ha', u9, u10, u11, va_up X 6 f37, M2, V2)) := @fun t w1 w2 u1 u2 u3 u4 u5 u6 u7 u8 u9 u10 u11 f37 M2 V2 hm ht => by
          subst hm
          unfold kFX0_kemOpen
          refine (kb_o_v c1).trans ?_
          refine kz_il ?_
          refine (kb_g_tt (decide_eq_true hst)).trans ?_
          rw [hg0, hg1, hg2, hg3]
          refine (kb_o_v (kz_pkS (kz_sK st) (kz_sU st) (kz_sV st))).trans ?_
          dsimp only
          rw [show sz (5 : Int32).toNatClampNeg = nI (L 5) from hsz5, show sz (2 : Int32).toNatClampNeg = nI (L 2) from hsz2]
          refine (kb_b_tt (kz_eqt cL5)).trans ?_
          refine (kb_o_v (kz_secS (kz_sK st))).trans ?_
          refine (kb_b_tt (kz_eqt cL2)).trans ?_
          refine (kb_o_v p2).trans ?_
          refine (kb_b_ff (kz_f10)).trans ?_
          refine (kb_o_v p3).trans ?_
          refine kz_il ?_
          refine (kb_n_v (v := va_up X 6 f37) rfl).trans ?_
          refine (kb_n_v (v := upd sz 6 (nI 32)) rfl).trans ?_
          rcases ht with rfl | rfl
          · exact kb_b_tt (kz_t00)
          · exact kb_b_ff (kz_f10)
        rcases e3 with ⟨⟨t, w1, w2, u1, u2, u3, u4, u5, u6, u7, u8, u9, u10, u11, f37, M2, V2⟩, hm, ha, e4⟩ | ⟨ha, ⟨w1, w2, u1, u2, u3, u4, u5, u6, u7, u8, u9, u10, u11, f37, M2, V2⟩, rfl, e4⟩
        · rcases q2 with ⟨-, q2, -, q3, a6, q4, q5⟩ | ⟨-, -, na, -⟩ | ⟨na, -⟩
          · rcases e4 with ⟨e4, hgen, e5⟩ | ⟨e4, hgen, e5⟩
            · rcases q5 with ⟨q5, -, q6⟩ | ⟨-, ng, -⟩
              · replace e4 : t = 1 := e4
                replace e5 : ∀ p, f37 p = if p < 32 then kz_by (kz_oS rc (fun i => kz_nb8 (X 2 i)) (fun i => kz_nb8 (X 5 i)) (kz_sK st) (kz_sU st) (kz_sV st) p) else X 6 p := e5
                subst e4
                refine ⟨_, g, hfin hm (Or.inr rfl), q1, Or.inl ⟨_, rfl, q2, q5.symm, ?_⟩⟩
                rw [q3, q4]
                refine kz_rel_slot h0 (by decide) (fun i hi => ?_) (kz_bt_if e5 (fun i hi => (h8 6 i (by decide) hi).1)) (kz_bt_if q6 (fun i hi => (h8 6 i (by decide) hi).2))
                rw [e5 i, q6 i, if_pos hi, if_pos hi]
              · exact absurd hgen ng
            · rcases q5 with ⟨-, ng, -⟩ | ⟨q5, -, q6⟩
              · exact absurd ng hgen
              · replace e4 : t = 0 := e4
                replace e5 : ∀ p, f37 p = if p < 32 then kz_by (kz_J rc (fun k => kz_by (kz_nb8 (X 2 (768 * kz_sK st + 64 + k)))) (fun k => kz_by (kz_nb8 (X 5 k))) (32 * kz_sU st * kz_sK st + 32 * kz_sV st) p) else X 6 p := e5
                subst e4
                refine ⟨_, g, hfin hm (Or.inl rfl), q1, Or.inl ⟨_, rfl, q2, q5.symm, ?_⟩⟩
                rw [q3, q4]
                refine kz_rel_slot h0 (by decide) (fun i hi => ?_) (kz_bt_if e5 (fun i hi => (h8 6 i (by decide) hi).1)) (kz_bt_if q6 (fun i hi => (h8 6 i (by decide) hi).2))
                rw [e5 i, q6 i, if_pos hi, if_pos hi]
          · exact absurd ha na
          · exact absurd ⟨cL5, cL2, hh⟩ na
        · rcases q2 with ⟨-, -, na, -⟩ | ⟨-, q2, -, q3, q4⟩ | ⟨na, -⟩
          · exact absurd na ha
          · replace e4 : f37 = X 6 := e4
            subst e4
            refine ⟨.inr (kz_ARE, (sz, w1, w2, u1, u2, u3, u4, u5, u6, u7, u8, ha', u9, u10, u11, va_up X 6 (X 6), M2, V2)), g, ?_, q1, Or.inr ⟨kz_ARE, _, rfl, rfl, kz_vi X 6, q3, q4, Or.inr (Or.inr ⟨rfl, q2⟩)⟩⟩
            unfold kFX0_kemOpen
            refine (kb_o_v c1).trans ?_
            refine kz_il ?_
            refine (kb_g_tt (decide_eq_true hst)).trans ?_
            rw [hg0, hg1, hg2, hg3]
            refine (kb_o_v (kz_pkS (kz_sK st) (kz_sU st) (kz_sV st))).trans ?_
            dsimp only
            rw [show sz (5 : Int32).toNatClampNeg = nI (L 5) from hsz5, show sz (2 : Int32).toNatClampNeg = nI (L 2) from hsz2]
            refine (kb_b_tt (kz_eqt cL5)).trans ?_
            refine (kb_o_v (kz_secS (kz_sK st))).trans ?_
            refine (kb_b_tt (kz_eqt cL2)).trans ?_
            refine (kb_o_v p2).trans ?_
            refine (kb_b_ff (kz_f10)).trans ?_
            exact (kb_o_v p3).trans rfl
          · exact absurd ⟨cL5, cL2, hh⟩ na
      · rcases q2 with ⟨na, -⟩ | ⟨na, -⟩ | ⟨-, q2, q3, q4⟩
        · exact absurd na.2.2 hh
        · exact absurd na.2.2 hh
        · refine ⟨.inr (kz_UOE, (sz, wa, wb, la, ma, ca, sum, term, counters, three, nbytes, ha', msg, enc, seeds, X, M, V)), g, ?_, q1, Or.inr ⟨kz_UOE, _, rfl, rfl, rfl, q3, q4, Or.inr (Or.inl ⟨rfl, q2⟩)⟩⟩
          unfold kFX0_kemOpen
          refine (kb_o_v c1).trans ?_
          refine kz_il ?_
          refine (kb_g_tt (decide_eq_true hst)).trans ?_
          rw [hg0, hg1, hg2, hg3]
          refine (kb_o_v (kz_pkS (kz_sK st) (kz_sU st) (kz_sV st))).trans ?_
          dsimp only
          rw [show sz (5 : Int32).toNatClampNeg = nI (L 5) from hsz5, show sz (2 : Int32).toNatClampNeg = nI (L 2) from hsz2]
          refine (kb_b_tt (kz_eqt cL5)).trans ?_
          refine (kb_o_v (kz_secS (kz_sK st))).trans ?_
          refine (kb_b_tt (kz_eqt cL2)).trans ?_
          refine (kb_o_v p2).trans ?_
          exact kb_b_tt (kz_t00)
    · rcases q2 with ⟨na, -⟩ | ⟨na, -⟩ | ⟨-, q2, q3, q4⟩
      · exact absurd na.2.1 cL2
      · exact absurd na.2.1 cL2
      · refine ⟨.inr (kz_UOE, (sz, pl, rt, lanes, moved, columns, sum, term, counters, three, nbytes, hash, msg, enc, seeds, X, M, V)), g, ?_, q1, Or.inr ⟨kz_UOE, _, rfl, rfl, rfl, q3, q4, Or.inr (Or.inl ⟨rfl, q2⟩)⟩⟩
        unfold kFX0_kemOpen
        refine (kb_o_v c1).trans ?_
        refine kz_il ?_
        refine (kb_g_tt (decide_eq_true hst)).trans ?_
        rw [hg0, hg1, hg2, hg3]
        refine (kb_o_v (kz_pkS (kz_sK st) (kz_sU st) (kz_sV st))).trans ?_
        dsimp only
        rw [show sz (5 : Int32).toNatClampNeg = nI (L 5) from hsz5, show sz (2 : Int32).toNatClampNeg = nI (L 2) from hsz2]
        refine (kb_b_tt (kz_eqt cL5)).trans ?_
        refine (kb_o_v (kz_secS (kz_sK st))).trans ?_
        exact kb_b_ff (kz_eqf cL2 (by omega) (by omega))
  · rcases q2 with ⟨na, -⟩ | ⟨na, -⟩ | ⟨-, q2, q3, q4⟩
    · exact absurd na.1 cL5
    · exact absurd na.1 cL5
    · refine ⟨.inr (kz_UOE, (sz, pl, rt, lanes, moved, columns, sum, term, counters, three, nbytes, hash, msg, enc, seeds, X, M, V)), g, ?_, q1, Or.inr ⟨kz_UOE, _, rfl, rfl, rfl, q3, q4, Or.inr (Or.inl ⟨rfl, q2⟩)⟩⟩
      unfold kFX0_kemOpen
      refine (kb_o_v c1).trans ?_
      refine kz_il ?_
      refine (kb_g_tt (decide_eq_true hst)).trans ?_
      rw [hg0, hg1, hg2, hg3]
      refine (kb_o_v (kz_pkS (kz_sK st) (kz_sU st) (kz_sV st))).trans ?_
      dsimp only
      rw [show sz (5 : Int32).toNatClampNeg = nI (L 5) from hsz5]
      exact kb_b_ff (kz_eqf cL5 (by omega) (by omega))
