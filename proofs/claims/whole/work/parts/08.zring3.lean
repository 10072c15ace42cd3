/-! Layer 2: the class's Ring, clear and products. -/
/-- a loop over all 256 places that sets each, whatever stood there -/
theorem kz_fill {v : Nat → Nat} {f : Nat → Int32} {S : Int32 → (Nat → Int32) → Option ((Int32 × (Nat → Int32)) ⊕ (Int32 × (Nat → Int32)))} (hv : ∀ k, k < 256 → v k < 3329)
    (hs : ∀ k g, k < 256 → S (nI k) g = some (.inl (nI (k + 1), upd g k (nI (v k))))) (hx : ∀ g, S (nI 256) g = some (.inr (nI 256, g))) :
    ∃ g, kb_w (fun u : Int32 × (Nat → Int32) => S u.1 u.2) 100000 ((0 : Int32), f) = some (nI 256, g) ∧ kz_R v g := by
  obtain ⟨⟨x, g⟩, k1, k2, k3⟩ : ∃ r, kb_w (fun u : Int32 × (Nat → Int32) => S u.1 u.2) 100000 ((0 : Int32), f) = some r ∧ r.1 = nI 256 ∧ kz_R v r.2 := by
    refine kb_w_inv (σ := Int32 × (Nat → Int32)) (ρ := Int32 × (Nat → Int32)) (fun k u => u.1 = nI k ∧ ∀ i, i < k → u.2 i = nI (v i)) (fun r => r.1 = nI 256 ∧ kz_R v r.2) 256 ?_ ?_ 256 0 _ 100000 (by omega) (by omega) ⟨rfl, fun i hi => absurd hi (by omega)⟩
    · rintro k ⟨z, g⟩ hk ⟨hu1, hu2⟩
      replace hu1 : z = nI k := hu1
      subst hu1
      refine ⟨(nI (k + 1), upd g k (nI (v k))), hs k g hk, rfl, fun i hi => ?_⟩
      show upd g k (nI (v k)) i = nI (v i)
      by_cases e : i = k
      · subst e
        exact pk_us
      · rw [pk_un e]
        exact hu2 i (by omega)
    · rintro ⟨z, g⟩ ⟨hu1, hu2⟩
      replace hu1 : z = nI 256 := hu1
      subst hu1
      exact ⟨(nI 256, g), hx g, rfl, fun i hi => ⟨hv i hi, hu2 i hi⟩⟩
  replace k2 : x = nI 256 := k2
  subst k2
  exact ⟨g, k1, k3⟩
theorem kz_clear (f : Nat → Int32) : ∃ r, kFX2_clear 256 f = some r ∧ kz_R (fun _ => 0) r := by
  obtain ⟨r, k1, k2⟩ := kz_fill (v := fun _ => 0) (f := f) (S := fun x z => kSX2_clear_2 256 x z) (fun k _ => by decide) (fun k z hk => by
    show kSX2_clear_2 256 (nI k) z = _
    unfold kSX2_clear_2
    rw [nI_clamp (show k < 2 ^ 31 by omega)]
    refine (kb_b_ff (kz_nle (n := 256) (by omega) (by decide))).trans ?_
    refine (kb_g_tt (kb_in_n (by omega) (by decide))).trans ?_
    refine (kb_n_v rfl).trans ?_
    exact (kb_n_v (kz_inc _)).trans rfl) (fun z => kb_b_tt (kz_le (n := 256) (Nat.le_refl _) (by decide)))
  exact ⟨r, by unfold kFX2_clear; exact kb_o_v k1, k2⟩
theorem kz_pair {s a b : Nat → Nat} {f1 f2 f3 : Nat → Int32} (h1 : kz_R s f1) (h2 : kz_R a f2) (h3 : kz_R b f3) {t z : Nat} (ht : t + 1 < 256) (hz : z ≤ 3329) : ∃ r, kFX2_addPairProduct (nI t) (nI z) 256 256 256 f1 f2 f3 = some r ∧ kz_R (fun i => if i = t + 1 then (s (t + 1) + a t * b (t + 1) + a (t + 1) * b t) % 3329 else if i = t then (s t + a t * b t + a (t + 1) * b (t + 1) % 3329 * z) % 3329 else s i) r := by
  have s0 := h1 t (by omega)
  have s1 := h1 (t + 1) ht
  have a0 := h2 t (by omega)
  have a1 := h2 (t + 1) ht
  have b0 := h3 t (by omega)
  have b1 := h3 (t + 1) ht
  have m1 := kz_m2 a1.1 b1.1
  have m2 := kz_m2 a0.1 b0.1
  have m3 := kz_m2 a0.1 b1.1
  have m4 := kz_m2 a1.1 b0.1
  have hq : a (t + 1) * b (t + 1) % 3329 < 3329 := Nat.mod_lt _ (by decide)
  have m5 : a (t + 1) * b (t + 1) % 3329 * z ≤ 3329 * 3329 := Nat.mul_le_mul (by omega) hz
  refine ⟨upd (upd f1 t (nI ((s t + a t * b t + a (t + 1) * b (t + 1) % 3329 * z) % 3329))) (t + 1) (nI ((s (t + 1) + a t * b (t + 1) + a (t + 1) * b t) % 3329)), ?_, kz_R_u (k := t + 1) (kz_R_u (k := t) h1 (Nat.mod_lt _ (by decide))) (Nat.mod_lt _ (by decide))⟩
  unfold kFX2_addPairProduct
  rw [nI_1, nI_clamp (show t + 1 < 2 ^ 31 by omega), nI_clamp (show t < 2 ^ 31 by omega)]
  refine (kb_g_tt (kb_in_n ht (by decide))).trans ?_
  refine (kb_g_tt (kb_in_n ht (by decide))).trans ?_
  refine (kb_n_v (v := nI (a (t + 1) * b (t + 1) % 3329)) ?_).trans ?_
  · rw [a1.2, b1.2, pk_mul]
    exact kz_rem (by omega)
  refine (kb_g_tt (kb_in_n (by omega) (by decide))).trans ?_
  refine (kb_g_tt (kb_in_n (by omega) (by decide))).trans ?_
  refine (kb_g_tt (kb_in_n (by omega) (by decide))).trans ?_
  refine (kb_n_v (v := nI ((s t + a t * b t + a (t + 1) * b (t + 1) % 3329 * z) % 3329)) ?_).trans ?_
  · rw [s0.2, a0.2, b0.2, pk_mul, pk_mul, nI_add, nI_add]
    exact kz_rem (by omega)
  refine (kb_g_tt (kb_in_n (by omega) (by decide))).trans ?_
  refine (kb_n_v rfl).trans ?_
  refine (kb_g_tt (kb_in_n ht (by decide))).trans ?_
  refine (kb_g_tt (kb_in_n (by omega) (by decide))).trans ?_
  refine (kb_g_tt (kb_in_n ht (by decide))).trans ?_
  refine (kb_g_tt (kb_in_n ht (by decide))).trans ?_
  refine (kb_g_tt (kb_in_n (by omega) (by decide))).trans ?_
  refine (kb_n_v (v := nI ((s (t + 1) + a t * b (t + 1) + a (t + 1) * b t) % 3329)) ?_).trans ?_
  · rw [pk_un (by omega), s1.2, a0.2, b0.2, a1.2, b1.2, pk_mul, pk_mul, nI_add, nI_add]
    exact kz_rem (by omega)
  refine (kb_g_tt (kb_in_n ht (by decide))).trans ?_
  exact (kb_n_v rfl).trans rfl
theorem kz_sq_pw : ∀ j, j < 64 → kz_sq (2 * j) = kz_pw (64 + j) ∧ kz_sq (2 * j + 1) = 3329 - kz_pw (64 + j) := by decide +kernel
def kz_prod (s a b : Nat → Nat) (i : Nat) : Nat := if i % 2 = 0 then (s i + a i * b i + a (i + 1) * b (i + 1) % 3329 * kz_sq (i / 2)) % 3329 else (s i + a (i - 1) * b i + a i * b (i - 1)) % 3329
theorem kz_prod_lt (s a b : Nat → Nat) (i : Nat) : kz_prod s a b i < 3329 := by
  unfold kz_prod
  split <;> exact Nat.mod_lt _ (by decide)
theorem kz_addProduct {s a b : Nat → Nat} {P f1 f2 f3 : Nat → Int32} (hP : ∀ i, i < 128 → kz_pw i < 3329 ∧ P i = nI (kz_pw i)) (h1 : kz_R s f1) (h2 : kz_R a f2) (h3 : kz_R b f3) : ∃ r, kFX2_addProduct 256 256 256 P f1 f2 f3 = some r ∧ kz_R (kz_prod s a b) r := by
  obtain ⟨⟨x, g⟩, k1, k2⟩ : ∃ r, kb_w (fun u : Int32 × (Nat → Int32) => kSX2_addProduct_3 256 256 256 P f2 f3 u.1 u.2) 100000 ((0 : Int32), f1) = some r ∧ kz_R (kz_prod s a b) r.2 := by
    refine kb_w_inv (σ := Int32 × (Nat → Int32)) (ρ := Int32 × (Nat → Int32)) (fun k u => u.1 = nI k ∧ kz_R (fun i => if i < 4 * k then kz_prod s a b i else s i) u.2) (fun r => kz_R (kz_prod s a b) r.2) 64 ?_ ?_ 64 0 _ 100000 (by omega) (by omega) ⟨rfl, kz_R_c h1 (fun i _ => by rw [if_neg (by omega)])⟩
    · rintro k ⟨z, g⟩ hk ⟨hu1, hu2⟩
      replace hu1 : z = nI k := hu1
      replace hu2 : kz_R (fun i => if i < 4 * k then kz_prod s a b i else s i) g := hu2
      subst hu1
      obtain ⟨q1, q2⟩ := hP (64 + k) (by omega)
      obtain ⟨w1, w2⟩ := kz_sq_pw k hk
      obtain ⟨r1, m1, n1⟩ := kz_pair (t := 4 * k) (z := kz_pw (64 + k)) hu2 h2 h3 (by omega) (by omega)
      obtain ⟨r2, m2, n2⟩ := kz_pair (t := 4 * k + 2) (z := 3329 - kz_pw (64 + k)) n1 h2 h3 (by omega) (by omega)
      refine ⟨(nI (k + 1), r2), ?_, rfl, ?_⟩
      · show kSX2_addProduct_3 256 256 256 P f2 f3 (nI k) g = _
        unfold kSX2_addProduct_3
        rw [show (64 : Int32) + nI k = nI (64 + k) from nI_add _ _, show (4 : Int32) * nI k = nI (4 * k) from pk_mul _ _, show nI (4 * k) + (2 : Int32) = nI (4 * k + 2) from nI_add _ _, nI_clamp (show 64 + k < 2 ^ 31 by omega)]
        refine (kb_b_ff (kz_nle (n := 64) (by omega) (by decide))).trans ?_
        refine (kb_g_tt (kb_in_n (by omega) (by decide))).trans ?_
        refine (kb_n_v q2).trans ?_
        refine (kb_o_v m1).trans ?_
        rw [show (3329 : Int32) - nI (kz_pw (64 + k)) = nI (3329 - kz_pw (64 + k)) from pk_sub (a := 3329) (by omega)]
        refine (kb_o_v m2).trans ?_
        exact (kb_n_v (kz_inc _)).trans rfl
      · refine kz_R_c n2 (fun i hi => ?_)
        have p0 : ∀ t, t % 2 = 0 → kz_prod s a b t = (s t + a t * b t + a (t + 1) * b (t + 1) % 3329 * kz_sq (t / 2)) % 3329 := fun t h => by unfold kz_prod; rw [if_pos h]
        have p1 : ∀ t, t % 2 = 0 → kz_prod s a b (t + 1) = (s (t + 1) + a t * b (t + 1) + a (t + 1) * b t) % 3329 := fun t h => by unfold kz_prod; rw [if_neg (by omega), Nat.add_sub_cancel]
        have n0 : ∀ z, 4 * k ≤ z → ¬ z < 4 * k := fun z hz => by omega
        by_cases e1 : i = 4 * k + 2 + 1
        · subst e1
          rw [if_pos (show 4 * k + 2 + 1 = 4 * k + 2 + 1 from rfl), if_pos (show 4 * k + 2 + 1 < 4 * (k + 1) by omega), p1 (4 * k + 2) (by omega), if_neg (show ¬ 4 * k + 2 + 1 = 4 * k + 1 by omega), if_neg (show ¬ 4 * k + 2 + 1 = 4 * k by omega), if_neg (n0 (4 * k + 2 + 1) (by omega))]
        by_cases e2 : i = 4 * k + 2
        · subst e2
          rw [if_neg e1, if_pos (show 4 * k + 2 = 4 * k + 2 from rfl), if_pos (show 4 * k + 2 < 4 * (k + 1) by omega), p0 (4 * k + 2) (by omega), show (4 * k + 2) / 2 = 2 * k + 1 by omega, w2, if_neg (show ¬ 4 * k + 2 = 4 * k + 1 by omega), if_neg (show ¬ 4 * k + 2 = 4 * k by omega), if_neg (n0 (4 * k + 2) (by omega))]
        by_cases e3 : i = 4 * k + 1
        · subst e3
          rw [if_neg e1, if_neg e2, if_pos (show 4 * k + 1 = 4 * k + 1 from rfl), if_pos (show 4 * k + 1 < 4 * (k + 1) by omega), p1 (4 * k) (by omega), if_neg (n0 (4 * k + 1) (by omega))]
        by_cases e4 : i = 4 * k
        · subst e4
          rw [if_neg e1, if_neg e2, if_neg e3, if_pos (show 4 * k = 4 * k from rfl), if_pos (show 4 * k < 4 * (k + 1) by omega), p0 (4 * k) (by omega), show 4 * k / 2 = 2 * k by omega, w1, if_neg (n0 (4 * k) (by omega))]
        rw [if_neg e1, if_neg e2, if_neg e3, if_neg e4]
        by_cases e5 : i < 4 * k
        · rw [if_pos e5, if_pos (show i < 4 * (k + 1) by omega)]
        · rw [if_neg e5, if_neg (show ¬ i < 4 * (k + 1) by omega)]
    · rintro ⟨z, g⟩ ⟨hu1, hu2⟩
      replace hu1 : z = nI 64 := hu1
      subst hu1
      refine ⟨(nI 64, g), ?_, kz_R_c hu2 (fun i hi => by show (if i < 4 * 64 then _ else _) = _; rw [if_pos (by omega)])⟩
      show kSX2_addProduct_3 256 256 256 P f2 f3 (nI 64) g = _
      unfold kSX2_addProduct_3
      exact kb_b_tt (kz_le (n := 64) (Nat.le_refl _) (by decide))
  refine ⟨g, ?_, k2⟩
  unfold kFX2_addProduct
  exact kb_o_v k1
