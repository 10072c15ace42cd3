/-! Layer 2: what the reference's polynomials answer (ntt, unntt, addProduct, clear). -/
theorem kz_turned : ∀ i, i < 128 → kFX5_turned (nI i) (7 : Int32) = some (nI (kz_rev i)) := by decide +kernel
theorem kz_rev_lt : ∀ i, i < 128 → kz_rev i < 128 := by decide +kernel
theorem kz_p256 (n : Nat) : 17 ^ (n % 256) % 3329 = 17 ^ n % 3329 := by
  have h : 17 ^ n = (17 ^ 256) ^ (n / 256) * 17 ^ (n % 256) := by rw [← Nat.pow_mul, ← Nat.pow_add, Nat.div_add_mod]
  have h2 : (17 ^ 256) ^ (n / 256) % 3329 = 1 % 3329 := (kz_powmod (show 17 ^ 256 % 3329 = 1 % 3329 by decide +kernel) _).trans (by rw [Nat.one_pow])
  rw [h, kz_mulmod h2 rfl, Nat.one_mul]
def kz_pts (f : Nat → Int32) : Prop := ∀ n, n < 256 → f n = nI (17 ^ n % 3329)
theorem kz_lt31 {x : Nat} (h : x < 3329) : x < 2 ^ 31 := by omega
theorem kz_lrem {a : Nat} (h : a < 2 ^ 63) : lN a - lN a / (3329 : Int64) * (3329 : Int64) = lN (a % 3329) := pk_lRem h (by decide) (by decide)
theorem kz_n29 {a : Nat → Nat} {f pts : Nat → Int32} {z : Nat} (hf : kz_R a f) (hp : kz_pts pts) (hz : z < 256) :
    ∃ r, kb_w (fun u : Int64 × Int64 × Int32 => kSX5_ntt_29 (nI z) 256 pts f u.1 u.2.1 u.2.2) 100000 ((0 : Int64), (0 : Int64), (0 : Int32)) = some r ∧ r.1 = lN (kz_sum (fun k => a (2 * k) * (17 ^ (z * k % 256) % 3329)) 128) ∧ r.2.1 = lN (kz_sum (fun k => a (2 * k + 1) * (17 ^ (z * k % 256) % 3329)) 128) := by
  refine kb_w_inv (σ := Int64 × Int64 × Int32) (ρ := Int64 × Int64 × Int32) (fun j u => u.1 = lN (kz_sum (fun k => a (2 * k) * (17 ^ (z * k % 256) % 3329)) j) ∧ u.2.1 = lN (kz_sum (fun k => a (2 * k + 1) * (17 ^ (z * k % 256) % 3329)) j) ∧ u.2.2 = nI j) (fun r => r.1 = lN (kz_sum (fun k => a (2 * k) * (17 ^ (z * k % 256) % 3329)) 128) ∧ r.2.1 = lN (kz_sum (fun k => a (2 * k + 1) * (17 ^ (z * k % 256) % 3329)) 128)) 128 ?_ ?_ 128 0 _ 100000 (by omega) (by omega) ⟨rfl, rfl, rfl⟩
  · rintro j ⟨x, y, w⟩ hj ⟨hu1, hu2, hu3⟩
    replace hu1 : x = lN (kz_sum (fun k => a (2 * k) * (17 ^ (z * k % 256) % 3329)) j) := hu1
    replace hu2 : y = lN (kz_sum (fun k => a (2 * k + 1) * (17 ^ (z * k % 256) % 3329)) j) := hu2
    replace hu3 : w = nI j := hu3
    subst hu1 hu2 hu3
    have e0 := hf (2 * j) (by omega)
    have e1 := hf (2 * j + 1) (by omega)
    have hm : z * j ≤ 255 * 127 := Nat.mul_le_mul (by omega) (by omega)
    have hq : z * j % 256 < 256 := Nat.mod_lt _ (by decide)
    have hw : 17 ^ (z * j % 256) % 3329 < 3329 := Nat.mod_lt _ (by decide)
    refine ⟨(_, _, nI (j + 1)), ?_, rfl, rfl, rfl⟩
    show kSX5_ntt_29 (nI z) 256 pts f _ _ (nI j) = _
    unfold kSX5_ntt_29
    rw [show (2 : Int32) * nI j = nI (2 * j) from pk_mul _ _, nI_1, nI_clamp (show 2 * j < 2 ^ 31 by omega), nI_clamp (show 2 * j + 1 < 2 ^ 31 by omega)]
    refine (kb_b_ff (kz_nle (n := 128) hj (by decide))).trans ?_
    refine (kb_n_v (v := nI (z * j % 256)) ?_).trans ?_
    · rw [pk_mul]
      exact pk_rem (d := 256) (by omega) (by decide) (by decide)
    refine (kb_g_tt (kb_in_n hq (by decide))).trans ?_
    refine (kb_n_v (v := lN (17 ^ (z * j % 256) % 3329)) ?_).trans ?_
    · rw [nI_clamp (by omega), hp _ hq, nI_l (by omega)]
    refine (kb_g_tt (kb_in_n (by omega) (by decide))).trans ?_
    refine (kb_n_v (v := lN (kz_sum (fun k => a (2 * k) * (17 ^ (z * k % 256) % 3329)) (j + 1))) ?_).trans ?_
    · rw [e0.2, nI_l (by omega), lN_mul, lN_add]
      rfl
    refine (kb_g_tt (kb_in_n (by omega) (by decide))).trans ?_
    refine (kb_n_v (v := lN (kz_sum (fun k => a (2 * k + 1) * (17 ^ (z * k % 256) % 3329)) (j + 1))) ?_).trans ?_
    · rw [e1.2, nI_l (by omega), lN_mul, lN_add]
      rfl
    exact (kb_n_v (kz_inc _)).trans rfl
  · rintro ⟨x, y, w⟩ ⟨hu1, hu2, hu3⟩
    replace hu3 : w = nI 128 := hu3
    subst hu3
    refine ⟨(x, y, nI 128), ?_, hu1, hu2⟩
    show kSX5_ntt_29 (nI z) 256 pts f x y (nI 128) = _
    unfold kSX5_ntt_29
    exact kb_b_tt (kz_le (n := 128) (Nat.le_refl _) (by decide))
theorem kz_ntt_ref (a : Nat → Nat) {i t : Nat} (ht : t < 2) : kz_sum (fun k => a (2 * k + t) * (17 ^ ((2 * kz_rev i + 1) * k % 256) % 3329)) 128 % 3329 = kz_ntt a (2 * i + t) := by
  unfold kz_ntt kz_ev
  rw [show (2 * i + t) % 2 = t by omega, show (2 * i + t) / 2 = i by omega]
  refine kz_sum_mod (fun k _ => ?_)
  rw [show t + k * 2 = 2 * k + t by omega]
  refine kz_mulmod rfl ?_
  rw [Nat.mod_mod, kz_p256, Nat.pow_mul]
  exact kz_powmod (Nat.mod_mod _ _).symm k
theorem kz_sumb {a : Nat → Nat} {f : Nat → Int32} {e : Nat → Nat} {t : Nat} (hf : kz_R a f) (ht : t < 2) : kz_sum (fun k => a (2 * k + t) * (17 ^ e k % 3329)) 128 < 2 ^ 31 := by
  have h : kz_sum (fun k => a (2 * k + t) * (17 ^ e k % 3329)) 128 ≤ 128 * 11075584 := kz_sum_le (fun k hk => kz_m2 (hf _ (by omega)).1 (Nat.mod_lt _ (by decide)))
  omega
/-- the sums of the reference, put back as numbers -/
theorem kz_putback {v : Nat → Nat} {sm : Nat → Int64} {f : Nat → Int32} {S : Int32 → (Nat → Int32) → Option ((Int32 × (Nat → Int32)) ⊕ (Int32 × (Nat → Int32)))} (hv : ∀ k, k < 256 → v k < 3329) (hsm : ∀ k, k < 256 → sm k = lN (v k))
    (hS : ∀ x z, S x z = kb_b (decide ((256 : Int32) ≤ x)) (some (.inr (x, z))) (kb_g (kb_in x 256) (kb_g (kb_in x 256) (kb_n (upd z x.toNatClampNeg ((sm x.toNatClampNeg).toInt32)) fun f_28 => kb_n (x + Int32.ofInt 1) fun x2_29 => some (.inl (x2_29, f_28)))))) :
    ∃ g, kb_w (fun u : Int32 × (Nat → Int32) => S u.1 u.2) 100000 ((0 : Int32), f) = some (nI 256, g) ∧ kz_R v g := by
  refine kz_fill hv (fun k z hk => ?_) (fun z => ?_)
  · rw [hS, nI_clamp (show k < 2 ^ 31 by omega)]
    refine (kb_b_ff (kz_nle (n := 256) (by omega) (by decide))).trans ?_
    refine (kb_g_tt (kb_in_n (by omega) (by decide))).trans ?_
    refine (kb_g_tt (kb_in_n (by omega) (by decide))).trans ?_
    refine (kb_n_v (v := upd z k (nI (v k))) (by rw [hsm k hk, lN_i])).trans ?_
    exact (kb_n_v (kz_inc _)).trans rfl
  · rw [hS]
    exact kb_b_tt (kz_le (n := 256) (Nat.le_refl _) (by decide))
theorem kz_rntt {a : Nat → Nat} {sm : Nat → Int64} {f pts : Nat → Int32} (hf : kz_R a f) (hp : kz_pts pts) : ∃ s g, kFX5_ntt 256 sm pts f = some (s, g) ∧ kz_R (kz_ntt a) g := by
  obtain ⟨⟨x, s1⟩, k1, k2⟩ : ∃ r, kb_w (fun u : Int32 × (Nat → Int64) => kSX5_ntt_2 256 pts f u.1 u.2) 100000 ((0 : Int32), sm) = some r ∧ ∀ k, k < 256 → r.2 k = lN (kz_ntt a k) := by
    refine kb_w_inv (σ := Int32 × (Nat → Int64)) (ρ := Int32 × (Nat → Int64)) (fun i u => u.1 = nI i ∧ ∀ k, k < 2 * i → u.2 k = lN (kz_ntt a k)) (fun r => ∀ k, k < 256 → r.2 k = lN (kz_ntt a k)) 128 ?_ ?_ 128 0 _ 100000 (by omega) (by omega) ⟨rfl, fun k hk => absurd hk (by omega)⟩
    · rintro i ⟨x, s0⟩ hi ⟨hu1, hu2⟩
      replace hu1 : x = nI i := hu1
      subst hu1
      have hr := kz_rev_lt i hi
      obtain ⟨⟨x', y', w'⟩, m1, m2, m3⟩ := kz_n29 (z := 2 * kz_rev i + 1) hf hp (by omega)
      replace m2 : x' = _ := m2
      replace m3 : y' = _ := m3
      subst m2 m3
      refine ⟨(nI (i + 1), vp_updL (vp_updL s0 (2 * i) (lN (kz_ntt a (2 * i)))) (2 * i + 1) (lN (kz_ntt a (2 * i + 1)))), ?_, rfl, fun k hk => ?_⟩
      · show kSX5_ntt_2 256 pts f (nI i) s0 = _
        unfold kSX5_ntt_2
        rw [show (2 : Int32) * nI i = nI (2 * i) from pk_mul _ _, nI_1, nI_clamp (show 2 * i < 2 ^ 31 by omega), nI_clamp (show 2 * i + 1 < 2 ^ 31 by omega)]
        refine (kb_b_ff (kz_nle (n := 128) hi (by decide))).trans ?_
        refine (kb_o_v (kz_turned i hi)).trans ?_
        refine (kb_n_v (v := nI (2 * kz_rev i + 1)) ?_).trans ?_
        · rw [show (2 : Int32) * nI (kz_rev i) = nI (2 * kz_rev i) from pk_mul _ _, nI_1]
        refine (kb_o_v m1).trans ?_
        refine (kb_g_tt (kb_in_n (by omega) (by decide))).trans ?_
        refine (kb_n_v (v := vp_updL s0 (2 * i) (lN (kz_ntt a (2 * i)))) ?_).trans ?_
        · have hb := kz_sumb (e := fun k => (2 * kz_rev i + 1) * k % 256) (t := 0) hf (by decide)
          have he := kz_ntt_ref a (i := i) (t := 0) (by decide)
          simp only [Nat.add_zero] at hb he
          rw [kz_lrem (by omega), he]
        refine (kb_g_tt (kb_in_n (by omega) (by decide))).trans ?_
        refine (kb_n_v (v := vp_updL (vp_updL s0 (2 * i) (lN (kz_ntt a (2 * i)))) (2 * i + 1) (lN (kz_ntt a (2 * i + 1)))) ?_).trans ?_
        · have hb := kz_sumb (e := fun k => (2 * kz_rev i + 1) * k % 256) (t := 1) hf (by decide)
          have he := kz_ntt_ref a (i := i) (t := 1) (by decide)
          rw [kz_lrem (by omega), he]
        exact (kb_n_v (kz_inc _)).trans rfl
      · show vp_updL (vp_updL s0 (2 * i) (lN (kz_ntt a (2 * i)))) (2 * i + 1) (lN (kz_ntt a (2 * i + 1))) k = lN (kz_ntt a k)
        by_cases e1 : k = 2 * i + 1
        · subst e1
          exact pk_uLs
        · rw [pk_uLn e1]
          by_cases e2 : k = 2 * i
          · subst e2
            exact pk_uLs
          · rw [pk_uLn e2]
            exact hu2 k (by omega)
    · rintro ⟨x, s0⟩ ⟨hu1, hu2⟩
      replace hu1 : x = nI 128 := hu1
      subst hu1
      refine ⟨(nI 128, s0), ?_, hu2⟩
      show kSX5_ntt_2 256 pts f (nI 128) s0 = _
      unfold kSX5_ntt_2
      exact kb_b_tt (kz_le (n := 128) (Nat.le_refl _) (by decide))
  obtain ⟨g, m1, m2⟩ := kz_putback (v := kz_ntt a) (sm := s1) (f := f) (S := fun x z => kSX5_ntt_129 256 s1 x z) (fun k _ => kz_ntt_lt a k) k2 (fun _ _ => rfl)
  refine ⟨s1, g, ?_, m2⟩
  unfold kFX5_ntt
  refine (kb_o_v k1).trans ?_
  exact kb_o_v m1
theorem kz_exp {z j : Nat} (hz : z ≤ 256) : (256 - z) * j % 256 = (256 - z * j % 256) % 256 := by
  have h : (256 - z) * j + z * j = 256 * j := by rw [← Nat.add_mul, Nat.sub_add_cancel hz]
  generalize (256 - z) * j = m at h ⊢
  generalize z * j = w at h ⊢
  omega
theorem kz_intt_ref (a : Nat → Nat) {j t : Nat} (ht : t < 2) : kz_sum (fun k => a (2 * k + t) * (17 ^ ((256 - (2 * kz_rev k + 1) * j % 256) % 256) % 3329)) 128 % 3329 = kz_iv a (2 * j + t) 0 128 % 3329 := by
  unfold kz_iv
  refine kz_sum_mod (fun k hk => ?_)
  rw [show (2 * j + t) % 2 = t by omega, show (2 * j + t) / 2 = j by omega, Nat.zero_add]
  refine kz_mulmod rfl ?_
  have hr := kz_rev_lt k hk
  rw [Nat.mod_mod, ← kz_exp (by omega), kz_p256, Nat.pow_mul]
  exact kz_powmod (Nat.mod_mod _ _).symm j
theorem kz_u17 {a : Nat → Nat} {f pts : Nat → Int32} {j : Nat} (hf : kz_R a f) (hp : kz_pts pts) (hj : j < 128) :
    ∃ r, kb_w (fun u : Int64 × Int64 × Int32 => kSX5_unntt_17 (nI j) 256 pts f u.1 u.2.1 u.2.2) 100000 ((0 : Int64), (0 : Int64), (0 : Int32)) = some r ∧ r.1 = lN (kz_sum (fun k => a (2 * k) * (17 ^ ((256 - (2 * kz_rev k + 1) * j % 256) % 256) % 3329)) 128) ∧ r.2.1 = lN (kz_sum (fun k => a (2 * k + 1) * (17 ^ ((256 - (2 * kz_rev k + 1) * j % 256) % 256) % 3329)) 128) := by
  refine kb_w_inv (σ := Int64 × Int64 × Int32) (ρ := Int64 × Int64 × Int32) (fun i u => u.1 = lN (kz_sum (fun k => a (2 * k) * (17 ^ ((256 - (2 * kz_rev k + 1) * j % 256) % 256) % 3329)) i) ∧ u.2.1 = lN (kz_sum (fun k => a (2 * k + 1) * (17 ^ ((256 - (2 * kz_rev k + 1) * j % 256) % 256) % 3329)) i) ∧ u.2.2 = nI i) (fun r => r.1 = lN (kz_sum (fun k => a (2 * k) * (17 ^ ((256 - (2 * kz_rev k + 1) * j % 256) % 256) % 3329)) 128) ∧ r.2.1 = lN (kz_sum (fun k => a (2 * k + 1) * (17 ^ ((256 - (2 * kz_rev k + 1) * j % 256) % 256) % 3329)) 128)) 128 ?_ ?_ 128 0 _ 100000 (by omega) (by omega) ⟨rfl, rfl, rfl⟩
  · rintro i ⟨x, y, w⟩ hi ⟨hu1, hu2, hu3⟩
    replace hu1 : x = lN (kz_sum (fun k => a (2 * k) * (17 ^ ((256 - (2 * kz_rev k + 1) * j % 256) % 256) % 3329)) i) := hu1
    replace hu2 : y = lN (kz_sum (fun k => a (2 * k + 1) * (17 ^ ((256 - (2 * kz_rev k + 1) * j % 256) % 256) % 3329)) i) := hu2
    replace hu3 : w = nI i := hu3
    subst hu1 hu2 hu3
    have e0 := hf (2 * i) (by omega)
    have e1 := hf (2 * i + 1) (by omega)
    have hr := kz_rev_lt i hi
    have hm : (2 * kz_rev i + 1) * j ≤ 255 * 127 := Nat.mul_le_mul (by omega) (by omega)
    have hq : (256 - (2 * kz_rev i + 1) * j % 256) % 256 < 256 := Nat.mod_lt _ (by decide)
    have hw : 17 ^ ((256 - (2 * kz_rev i + 1) * j % 256) % 256) % 3329 < 3329 := Nat.mod_lt _ (by decide)
    refine ⟨(_, _, nI (i + 1)), ?_, rfl, rfl, rfl⟩
    show kSX5_unntt_17 (nI j) 256 pts f _ _ (nI i) = _
    unfold kSX5_unntt_17
    rw [show (2 : Int32) * nI i = nI (2 * i) from pk_mul _ _, nI_1, nI_clamp (show 2 * i < 2 ^ 31 by omega), nI_clamp (show 2 * i + 1 < 2 ^ 31 by omega)]
    refine (kb_b_ff (kz_nle (n := 128) hi (by decide))).trans ?_
    refine (kb_o_v (kz_turned i hi)).trans ?_
    refine (kb_n_v (v := nI ((2 * kz_rev i + 1) * j % 256)) ?_).trans ?_
    · rw [show (2 : Int32) * nI (kz_rev i) = nI (2 * kz_rev i) from pk_mul _ _, nI_1, pk_mul]
      exact pk_rem (d := 256) (by omega) (by decide) (by decide)
    refine (kb_n_v (v := nI ((256 - (2 * kz_rev i + 1) * j % 256) % 256)) ?_).trans ?_
    · rw [show (256 : Int32) - nI ((2 * kz_rev i + 1) * j % 256) = nI (256 - (2 * kz_rev i + 1) * j % 256) from pk_sub (a := 256) (by omega)]
      exact pk_rem (d := 256) (by omega) (by decide) (by decide)
    refine (kb_g_tt (kb_in_n hq (by decide))).trans ?_
    refine (kb_n_v (v := lN (17 ^ ((256 - (2 * kz_rev i + 1) * j % 256) % 256) % 3329)) ?_).trans ?_
    · rw [nI_clamp (by omega), hp _ hq, nI_l (by omega)]
    refine (kb_g_tt (kb_in_n (by omega) (by decide))).trans ?_
    refine (kb_n_v (v := lN (kz_sum (fun k => a (2 * k) * (17 ^ ((256 - (2 * kz_rev k + 1) * j % 256) % 256) % 3329)) (i + 1))) ?_).trans ?_
    · rw [e0.2, nI_l (by omega), lN_mul, lN_add]
      rfl
    refine (kb_g_tt (kb_in_n (by omega) (by decide))).trans ?_
    refine (kb_n_v (v := lN (kz_sum (fun k => a (2 * k + 1) * (17 ^ ((256 - (2 * kz_rev k + 1) * j % 256) % 256) % 3329)) (i + 1))) ?_).trans ?_
    · rw [e1.2, nI_l (by omega), lN_mul, lN_add]
      rfl
    exact (kb_n_v (kz_inc _)).trans rfl
  · rintro ⟨x, y, w⟩ ⟨hu1, hu2, hu3⟩
    replace hu3 : w = nI 128 := hu3
    subst hu3
    refine ⟨(x, y, nI 128), ?_, hu1, hu2⟩
    show kSX5_unntt_17 (nI j) 256 pts f x y (nI 128) = _
    unfold kSX5_unntt_17
    exact kb_b_tt (kz_le (n := 128) (Nat.le_refl _) (by decide))
theorem kz_runntt {a : Nat → Nat} {sm : Nat → Int64} {f pts : Nat → Int32} (hf : kz_R a f) (hp : kz_pts pts) : ∃ s g, kFX5_unntt 256 sm pts f = some (s, g) ∧ kz_R (kz_intt a) g := by
  obtain ⟨⟨x, s1⟩, k1, k2⟩ : ∃ r, kb_w (fun u : Int32 × (Nat → Int64) => kSX5_unntt_2 256 pts f u.1 u.2) 100000 ((0 : Int32), sm) = some r ∧ ∀ k, k < 256 → r.2 k = lN (kz_intt a k) := by
    refine kb_w_inv (σ := Int32 × (Nat → Int64)) (ρ := Int32 × (Nat → Int64)) (fun i u => u.1 = nI i ∧ ∀ k, k < 2 * i → u.2 k = lN (kz_intt a k)) (fun r => ∀ k, k < 256 → r.2 k = lN (kz_intt a k)) 128 ?_ ?_ 128 0 _ 100000 (by omega) (by omega) ⟨rfl, fun k hk => absurd hk (by omega)⟩
    · rintro i ⟨x, s0⟩ hi ⟨hu1, hu2⟩
      replace hu1 : x = nI i := hu1
      subst hu1
      obtain ⟨⟨x', y', w'⟩, m1, m2, m3⟩ := kz_u17 (j := i) hf hp hi
      replace m2 : x' = _ := m2
      replace m3 : y' = _ := m3
      subst m2 m3
      have v9 : ∀ S k : Nat, S < 2 ^ 31 → S % 3329 = kz_iv a k 0 128 % 3329 → (lN S - lN S / (3329 : Int64) * (3329 : Int64)) * (3303 : Int64) - (lN S - lN S / (3329 : Int64) * (3329 : Int64)) * (3303 : Int64) / (3329 : Int64) * (3329 : Int64) = lN (kz_intt a k) := fun S k hS he => by
        have hq : S % 3329 < 3329 := Nat.mod_lt _ (by decide)
        rw [kz_lrem (by omega), show lN (S % 3329) * (3303 : Int64) = lN (S % 3329 * 3303) from lN_mul _ _, kz_lrem (by omega), he]
        rfl
      refine ⟨(nI (i + 1), vp_updL (vp_updL s0 (2 * i) (lN (kz_intt a (2 * i)))) (2 * i + 1) (lN (kz_intt a (2 * i + 1)))), ?_, rfl, fun k hk => ?_⟩
      · show kSX5_unntt_2 256 pts f (nI i) s0 = _
        unfold kSX5_unntt_2
        rw [show (2 : Int32) * nI i = nI (2 * i) from pk_mul _ _, nI_1, nI_clamp (show 2 * i < 2 ^ 31 by omega), nI_clamp (show 2 * i + 1 < 2 ^ 31 by omega)]
        refine (kb_b_ff (kz_nle (n := 128) hi (by decide))).trans ?_
        refine (kb_o_v m1).trans ?_
        refine (kb_n_v (v := lN (kz_intt a (2 * i))) ?_).trans ?_
        · have hb := kz_sumb (e := fun k => (256 - (2 * kz_rev k + 1) * i % 256) % 256) (t := 0) hf (by decide)
          have he := kz_intt_ref a (j := i) (t := 0) (by decide)
          simp only [Nat.add_zero] at hb he
          exact v9 _ _ hb he
        refine (kb_g_tt (kb_in_n (by omega) (by decide))).trans ?_
        refine (kb_n_v rfl).trans ?_
        refine (kb_n_v (v := lN (kz_intt a (2 * i + 1))) ?_).trans ?_
        · have hb := kz_sumb (e := fun k => (256 - (2 * kz_rev k + 1) * i % 256) % 256) (t := 1) hf (by decide)
          have he := kz_intt_ref a (j := i) (t := 1) (by decide)
          exact v9 _ _ hb he
        refine (kb_g_tt (kb_in_n (by omega) (by decide))).trans ?_
        refine (kb_n_v rfl).trans ?_
        exact (kb_n_v (kz_inc _)).trans rfl
      · show vp_updL (vp_updL s0 (2 * i) (lN (kz_intt a (2 * i)))) (2 * i + 1) (lN (kz_intt a (2 * i + 1))) k = lN (kz_intt a k)
        by_cases e1 : k = 2 * i + 1
        · subst e1
          exact pk_uLs
        · rw [pk_uLn e1]
          by_cases e2 : k = 2 * i
          · subst e2
            exact pk_uLs
          · rw [pk_uLn e2]
            exact hu2 k (by omega)
    · rintro ⟨x, s0⟩ ⟨hu1, hu2⟩
      replace hu1 : x = nI 128 := hu1
      subst hu1
      refine ⟨(nI 128, s0), ?_, hu2⟩
      show kSX5_unntt_2 256 pts f (nI 128) s0 = _
      unfold kSX5_unntt_2
      exact kb_b_tt (kz_le (n := 128) (Nat.le_refl _) (by decide))
  obtain ⟨g, m1, m2⟩ := kz_putback (v := kz_intt a) (sm := s1) (f := f) (S := fun x z => kSX5_unntt_147 256 s1 x z) (fun k _ => kz_intt_lt a k) k2 (fun _ _ => rfl)
  refine ⟨s1, g, ?_, m2⟩
  unfold kFX5_unntt
  refine (kb_o_v k1).trans ?_
  exact kb_o_v m1
theorem kz_rclear (f : Nat → Int32) : ∃ r, kFX5_clear 256 f = some r ∧ kz_R (fun _ => 0) r := by
  obtain ⟨r, k1, k2⟩ := kz_fill (v := fun _ => 0) (f := f) (S := fun x z => kSX5_clear_2 256 x z) (fun k _ => by decide) (fun k z hk => by
    show kSX5_clear_2 256 (nI k) z = _
    unfold kSX5_clear_2
    rw [nI_clamp (show k < 2 ^ 31 by omega)]
    refine (kb_b_ff (kz_nle (n := 256) (by omega) (by decide))).trans ?_
    refine (kb_g_tt (kb_in_n (by omega) (by decide))).trans ?_
    refine (kb_n_v rfl).trans ?_
    exact (kb_n_v (kz_inc _)).trans rfl) (fun z => kb_b_tt (kz_le (n := 256) (Nat.le_refl _) (by decide)))
  exact ⟨r, by unfold kFX5_clear; exact kb_o_v k1, k2⟩
theorem kz_rprod {s a b : Nat → Nat} {pts f1 f2 f3 : Nat → Int32} (hp : kz_pts pts) (h1 : kz_R s f1) (h2 : kz_R a f2) (h3 : kz_R b f3) : ∃ r, kFX5_addProduct 256 256 256 pts f1 f2 f3 = some r ∧ kz_R (kz_prod s a b) r := by
  obtain ⟨⟨x, g⟩, k1, k2⟩ : ∃ r, kb_w (fun u : Int32 × (Nat → Int32) => kSX5_addProduct_3 256 256 256 pts f2 f3 u.1 u.2) 100000 ((0 : Int32), f1) = some r ∧ kz_R (kz_prod s a b) r.2 := by
    refine kb_w_inv (σ := Int32 × (Nat → Int32)) (ρ := Int32 × (Nat → Int32)) (fun k u => u.1 = nI k ∧ kz_R (fun i => if i < 2 * k then kz_prod s a b i else s i) u.2) (fun r => kz_R (kz_prod s a b) r.2) 128 ?_ ?_ 128 0 _ 100000 (by omega) (by omega) ⟨rfl, kz_R_c h1 (fun i _ => by rw [if_neg (by omega)])⟩
    · rintro k ⟨z, g⟩ hk ⟨hu1, hu2⟩
      replace hu1 : z = nI k := hu1
      replace hu2 : kz_R (fun i => if i < 2 * k then kz_prod s a b i else s i) g := hu2
      subst hu1
      have hr := kz_rev_lt k hk
      have s0 := hu2 (2 * k) (by omega)
      have s1 := hu2 (2 * k + 1) (by omega)
      dsimp only at s0 s1
      rw [if_neg (Nat.lt_irrefl _)] at s0
      rw [if_neg (show ¬ 2 * k + 1 < 2 * k by omega)] at s1
      have a0 := h2 (2 * k) (by omega)
      have a1 := h2 (2 * k + 1) (by omega)
      have b0 := h3 (2 * k) (by omega)
      have b1 := h3 (2 * k + 1) (by omega)
      have m1 := kz_m2 a1.1 b1.1
      have m2 := kz_m2 a0.1 b0.1
      have m3 := kz_m2 a0.1 b1.1
      have m4 := kz_m2 a1.1 b0.1
      have hq : a (2 * k + 1) * b (2 * k + 1) % 3329 < 3329 := Nat.mod_lt _ (by decide)
      have m5 := kz_m2 hq (kz_sq_lt k)
      have p0 : kz_prod s a b (2 * k) = (s (2 * k) + a (2 * k) * b (2 * k) + a (2 * k + 1) * b (2 * k + 1) % 3329 * kz_sq k) % 3329 := by unfold kz_prod; rw [if_pos (by omega), show 2 * k / 2 = k by omega]
      have p1 : kz_prod s a b (2 * k + 1) = (s (2 * k + 1) + a (2 * k) * b (2 * k + 1) + a (2 * k + 1) * b (2 * k)) % 3329 := by unfold kz_prod; rw [if_neg (by omega), Nat.add_sub_cancel]
      refine ⟨(nI (k + 1), upd (upd g (2 * k) (nI (kz_prod s a b (2 * k)))) (2 * k + 1) (nI (kz_prod s a b (2 * k + 1)))), ?_, rfl, ?_⟩
      · show kSX5_addProduct_3 256 256 256 pts f2 f3 (nI k) g = _
        unfold kSX5_addProduct_3
        rw [show (2 : Int32) * nI k = nI (2 * k) from pk_mul _ _, nI_1, nI_clamp (show 2 * k < 2 ^ 31 by omega), nI_clamp (show 2 * k + 1 < 2 ^ 31 by omega)]
        refine (kb_b_ff (kz_nle (n := 128) hk (by decide))).trans ?_
        refine (kb_o_v (kz_turned k hk)).trans ?_
        dsimp only
        rw [show (2 : Int32) * nI (kz_rev k) = nI (2 * kz_rev k) from pk_mul _ _, nI_1, nI_clamp (show 2 * kz_rev k + 1 < 2 ^ 31 by omega)]
        refine (kb_g_tt (kb_in_n (by omega) (by decide))).trans ?_
        refine (kb_n_v (v := lN (kz_sq k)) (by rw [hp _ (by omega)]; exact nI_l (kz_lt31 (kz_sq_lt k)))).trans ?_
        refine (kb_g_tt (kb_in_n (by omega) (by decide))).trans ?_
        refine (kb_n_v (v := lN (a (2 * k))) (by rw [a0.2, nI_l (by omega)])).trans ?_
        refine (kb_g_tt (kb_in_n (by omega) (by decide))).trans ?_
        refine (kb_n_v (v := lN (a (2 * k + 1))) (by rw [a1.2, nI_l (by omega)])).trans ?_
        refine (kb_g_tt (kb_in_n (by omega) (by decide))).trans ?_
        refine (kb_n_v (v := lN (b (2 * k))) (by rw [b0.2, nI_l (by omega)])).trans ?_
        refine (kb_g_tt (kb_in_n (by omega) (by decide))).trans ?_
        refine (kb_n_v (v := lN (b (2 * k + 1))) (by rw [b1.2, nI_l (by omega)])).trans ?_
        refine (kb_g_tt (kb_in_n (by omega) (by decide))).trans ?_
        refine (kb_n_v (v := lN (a (2 * k + 1) * b (2 * k + 1) % 3329)) (by rw [lN_mul]; exact kz_lrem (by omega))).trans ?_
        refine (kb_n_v (v := lN (kz_prod s a b (2 * k))) ?_).trans ?_
        · rw [s0.2, nI_l (by omega), lN_mul, lN_mul, lN_add, lN_add, p0]
          exact kz_lrem (by omega)
        refine (kb_g_tt (kb_in_n (by omega) (by decide))).trans ?_
        refine (kb_n_v (v := upd g (2 * k) (nI (kz_prod s a b (2 * k)))) (by rw [lN_i])).trans ?_
        refine (kb_g_tt (kb_in_n (by omega) (by decide))).trans ?_
        refine (kb_n_v (v := lN (kz_prod s a b (2 * k + 1))) ?_).trans ?_
        · rw [pk_un (by omega), s1.2, nI_l (by omega), lN_mul, lN_mul, lN_add, lN_add, p1]
          exact kz_lrem (by omega)
        refine (kb_g_tt (kb_in_n (by omega) (by decide))).trans ?_
        refine (kb_n_v (v := upd (upd g (2 * k) (nI (kz_prod s a b (2 * k)))) (2 * k + 1) (nI (kz_prod s a b (2 * k + 1)))) (by rw [lN_i])).trans ?_
        exact (kb_n_v (kz_inc _)).trans rfl
      · refine kz_R_c (kz_R_u (k := 2 * k + 1) (kz_R_u (k := 2 * k) hu2 (kz_prod_lt _ _ _ _)) (kz_prod_lt _ _ _ _)) (fun i hi => ?_)
        show (if i = 2 * k + 1 then kz_prod s a b (2 * k + 1) else if i = 2 * k then kz_prod s a b (2 * k) else if i < 2 * k then kz_prod s a b i else s i) = if i < 2 * (k + 1) then kz_prod s a b i else s i
        by_cases e1 : i = 2 * k + 1
        · subst e1
          rw [if_pos rfl, if_pos (by omega)]
        by_cases e2 : i = 2 * k
        · subst e2
          rw [if_neg (by omega), if_pos rfl, if_pos (by omega)]
        rw [if_neg e1, if_neg e2]
        by_cases e5 : i < 2 * k
        · rw [if_pos e5, if_pos (by omega)]
        · rw [if_neg e5, if_neg (by omega)]
    · rintro ⟨z, g⟩ ⟨hu1, hu2⟩
      replace hu1 : z = nI 128 := hu1
      subst hu1
      refine ⟨(nI 128, g), ?_, kz_R_c hu2 (fun i hi => by show (if i < 2 * 128 then _ else _) = _; rw [if_pos (by omega)])⟩
      show kSX5_addProduct_3 256 256 256 pts f2 f3 (nI 128) g = _
      unfold kSX5_addProduct_3
      exact kb_b_tt (kz_le (n := 128) (Nat.le_refl _) (by decide))
  refine ⟨g, ?_, k2⟩
  unfold kFX5_addProduct
  exact kb_o_v k1
