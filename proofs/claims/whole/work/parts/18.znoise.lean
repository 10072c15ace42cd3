/-! Layer 2: the noise, of the class and of the reference. -/
theorem kz_tk_bit (w : Nat) (B : Nat → Nat) (s : Nat) {j n : Nat} (h : j < n) : kz_tk w B s n / 2 ^ j % 2 = B ((s + j) / w) / 2 ^ ((s + j) % w) % 2 := by
  obtain ⟨m, rfl⟩ : ∃ m, n = j + (1 + m) := ⟨n - j - 1, by omega⟩
  rw [kz_tk_div]
  have h1 := kz_tk_mod w B (s + j) 1 m
  rw [show (2 ^ 1 : Nat) = 2 from rfl] at h1
  rw [h1]
  show 0 + B ((s + j + 0) / w) / 2 ^ ((s + j + 0) % w) % 2 * 2 ^ 0 = _
  rw [Nat.pow_zero, Nat.mul_one, Nat.zero_add, Nat.add_zero]
/-- how many of e bits from bit s on are set -/
def kz_pc (y s e : Nat) : Nat := kz_sum (fun j => y / 2 ^ (s + j) % 2) e
def kz_no (e y : Nat) : Nat := (kz_pc y 0 e + 3329 - kz_pc y e e) % 3329
theorem kz_pc_le (y s : Nat) : ∀ e, kz_pc y s e ≤ e
  | 0 => Nat.le_refl _
  | e + 1 => by
    have h := kz_pc_le y s e
    show kz_pc y s e + y / 2 ^ (s + e) % 2 ≤ e + 1
    omega
theorem kz_bc : ∀ e ∈ [2, 3], ∀ y, y < 64 → kFX8_bitCount (nI y &&& (((1 : Int32) <<< (nI e &&& 31)) - (1 : Int32))) = some (nI (kz_pc y 0 e)) ∧ (y < 2 ^ (2 * e) → kFX8_bitCount (nI y >>> (nI e &&& 31)) = some (nI (kz_pc y e e))) := by decide +kernel
theorem kz_noise86 {a : Nat → Nat} {f : Nat → Int32} {e : Nat} (he : e ∈ [2, 3]) (hf : ∀ i, i < 256 → a i < 2 ^ (2 * e) ∧ f i = nI (a i)) :
    ∃ g, kb_w (fun u : Int32 × (Nat → Int32) => kSX1_fillWithNoise_86 (nI e) 256 u.1 u.2) 100000 ((0 : Int32), f) = some (nI 256, g) ∧ kz_R (fun i => kz_no e (a i)) g := by
  have he2 : e ≤ 3 := by
    simp only [List.mem_cons, List.not_mem_nil, or_false] at he
    omega
  have h64 : 2 ^ (2 * e) ≤ 2 ^ 6 := kz_p2 (by omega)
  have key := kz_for (S := fun i f => kSX1_fillWithNoise_86 (nI e) 256 i f) (g := f) nI 256 (fun k f => ∀ i, i < 256 → f i = if i < k then nI (kz_no e (a i)) else nI (a i)) (by decide) (fun k z hk hz => ⟨upd z k (nI (kz_no e (a k))), ?_, fun i hi => ?_⟩) (fun g _ => kb_b_tt (kz_le (n := 256) (Nat.le_refl _) (by decide))) (fun i hi => by rw [if_neg (by omega)]; exact (hf i hi).2)
  · obtain ⟨g, k1, k2⟩ := key
    exact ⟨g, k1, fun i hi => ⟨Nat.mod_lt _ (by decide), by rw [k2 i hi, if_pos hi]⟩⟩
  · show kSX1_fillWithNoise_86 (nI e) 256 (nI k) z = _
    have hzk := hz k hk
    rw [if_neg (by omega)] at hzk
    have hak := (hf k hk).1
    obtain ⟨b1, b2⟩ := kz_bc e he (a k) (by omega)
    have p1 := kz_pc_le (a k) 0 e
    have p2 := kz_pc_le (a k) e e
    unfold kSX1_fillWithNoise_86
    rw [nI_clamp (show k < 2 ^ 31 by omega), hzk]
    refine (kb_b_ff (kz_nle (n := 256) hk (by decide))).trans ?_
    refine (kb_g_tt (kb_in_n hk (by decide))).trans ?_
    refine (kb_o_v b1).trans ?_
    refine (kb_g_tt (kb_in_n hk (by decide))).trans ?_
    refine (kb_o_v (b2 hak)).trans ?_
    refine (kb_n_v (v := nI (kz_no e (a k))) ?_).trans ?_
    · rw [show nI (kz_pc (a k) 0 e) + (3329 : Int32) = nI (kz_pc (a k) 0 e + 3329) from nI_add _ _, pk_sub (by omega)]
      exact kz_rem (by omega)
    refine (kb_g_tt (kb_in_n hk (by decide))).trans ?_
    refine (kb_n_v rfl).trans ?_
    exact (kb_n_v (kz_inc _)).trans rfl
  · show upd z k (nI (kz_no e (a k))) i = _
    by_cases e' : i = k
    · subst e'
      rw [pk_us, if_pos (by omega)]
    · rw [pk_un e', hz i hi]
      by_cases e2 : i < k
      · rw [if_pos e2, if_pos (by omega)]
      · rw [if_neg e2, if_neg (by omega)]
/-- the reference's sum of bits -/
theorem kz_rno51 {B : Nat → Nat} {f : Nat → Int32} {e i : Nat} (hY : kz_Y B f 0 (64 * e)) (he : e ≤ 3) (hi : i < 256) :
    ∃ r, kb_w (fun u : Int32 × Int32 => kSX5_binomial_51 (nI e) (nI i) f u.1 u.2) 100000 ((0 : Int32), (0 : Int32)) = some r ∧ r.1 = nI (kz_pc (kz_tk 8 B (2 * i * e) (2 * e)) 0 e) - nI (kz_pc (kz_tk 8 B (2 * i * e) (2 * e)) e e) := by
  refine kb_w_inv (σ := Int32 × Int32) (ρ := Int32 × Int32) (fun k u => u.1 = nI (kz_pc (kz_tk 8 B (2 * i * e) (2 * e)) 0 k) - nI (kz_pc (kz_tk 8 B (2 * i * e) (2 * e)) e k) ∧ u.2 = nI k) (fun r => r.1 = nI (kz_pc (kz_tk 8 B (2 * i * e) (2 * e)) 0 e) - nI (kz_pc (kz_tk 8 B (2 * i * e) (2 * e)) e e)) e ?_ ?_ e 0 _ 100000 (by omega) (by omega) ⟨by show (0 : Int32) = nI 0 - nI 0; decide +kernel, rfl⟩
  · rintro k ⟨x, y⟩ hk ⟨h1, h2⟩
    replace h1 : x = _ := h1
    replace h2 : y = nI k := h2
    subst h1 h2
    have hm : 2 * i * e + 2 * e ≤ 512 * e := by rw [← Nat.add_mul]; exact Nat.mul_le_mul_right e (by omega)
    have q1 := kz_bitOf (n1 := 256) (at' := 0) (j := 2 * i * e + k) hY (by omega) (by omega) (by omega) (by decide) (by omega)
    have q2 := kz_bitOf (n1 := 256) (at' := 0) (j := 2 * i * e + e + k) hY (by omega) (by omega) (by omega) (by decide) (by omega)
    rw [show 8 * 0 + (2 * i * e + k) = 2 * i * e + k by omega, ← kz_tk_bit 8 B (2 * i * e) (n := 2 * e) (by omega)] at q1
    rw [show 8 * 0 + (2 * i * e + e + k) = 2 * i * e + (e + k) by omega, ← kz_tk_bit 8 B (2 * i * e) (n := 2 * e) (by omega)] at q2
    refine ⟨(nI (kz_pc (kz_tk 8 B (2 * i * e) (2 * e)) 0 (k + 1)) - nI (kz_pc (kz_tk 8 B (2 * i * e) (2 * e)) e (k + 1)), nI (k + 1)), ?_, rfl, rfl⟩
    show kSX5_binomial_51 (nI e) (nI i) f (nI (kz_pc (kz_tk 8 B (2 * i * e) (2 * e)) 0 k) - nI (kz_pc (kz_tk 8 B (2 * i * e) (2 * e)) e k)) (nI k) = _
    unfold kSX5_binomial_51
    rw [show (2 : Int32) * nI i = nI (2 * i) from pk_mul _ _, pk_mul, nI_add (2 * i * e) k, nI_add (2 * i * e) e, nI_add (2 * i * e + e) k]
    refine (kb_b_ff (kz_nle hk (by omega))).trans ?_
    refine (kb_o_v q1).trans ?_
    refine (kb_o_v q2).trans ?_
    refine (kb_n_v (v := nI (kz_pc (kz_tk 8 B (2 * i * e) (2 * e)) 0 (k + 1)) - nI (kz_pc (kz_tk 8 B (2 * i * e) (2 * e)) e (k + 1))) ?_).trans ?_
    · rw [show kz_pc (kz_tk 8 B (2 * i * e) (2 * e)) 0 (k + 1) = kz_pc (kz_tk 8 B (2 * i * e) (2 * e)) 0 k + kz_tk 8 B (2 * i * e) (2 * e) / 2 ^ k % 2 by show kz_pc (kz_tk 8 B (2 * i * e) (2 * e)) 0 k + kz_tk 8 B (2 * i * e) (2 * e) / 2 ^ (0 + k) % 2 = _; rw [Nat.zero_add], show kz_pc (kz_tk 8 B (2 * i * e) (2 * e)) e (k + 1) = kz_pc (kz_tk 8 B (2 * i * e) (2 * e)) e k + kz_tk 8 B (2 * i * e) (2 * e) / 2 ^ (e + k) % 2 from rfl]
      rw [← nI_add, ← nI_add]
      generalize nI (kz_pc (kz_tk 8 B (2 * i * e) (2 * e)) 0 k) = a1
      generalize nI (kz_pc (kz_tk 8 B (2 * i * e) (2 * e)) e k) = a2
      generalize nI (kz_tk 8 B (2 * i * e) (2 * e) / 2 ^ k % 2) = a3
      generalize nI (kz_tk 8 B (2 * i * e) (2 * e) / 2 ^ (e + k) % 2) = a4
      grind
    exact (kb_n_v (kz_inc _)).trans rfl
  · rintro ⟨x, y⟩ ⟨h1, h2⟩
    replace h2 : y = nI e := h2
    subst h2
    refine ⟨(x, nI e), ?_, h1⟩
    show kSX5_binomial_51 (nI e) (nI i) f x (nI e) = _
    unfold kSX5_binomial_51
    exact kb_b_tt (kz_le (Nat.le_refl _) (by omega))
theorem kz_rno37 {B : Nat → Nat} {f f1 : Nat → Int32} {e : Nat} (hY : kz_Y B f 0 (64 * e)) (he : e ≤ 3) :
    ∃ g, kb_w (fun u : Int32 × (Nat → Int32) => kSX5_binomial_37 (nI e) 256 f u.1 u.2) 100000 ((0 : Int32), f1) = some (nI 256, g) ∧ kz_R (fun i => kz_no e (kz_tk 8 B (2 * e * i) (2 * e))) g := by
  refine kz_fill (S := fun x z => kSX5_binomial_37 (nI e) 256 f x z) (fun k _ => Nat.mod_lt _ (by decide)) (fun k z hk => ?_) (fun z => kb_b_tt (kz_le (n := 256) (Nat.le_refl _) (by decide)))
  have hm : 2 * k * e ≤ 2 * 255 * 3 := Nat.mul_le_mul (by omega) he
  obtain ⟨⟨x, y⟩, k1, k2⟩ := kz_rno51 (i := k) hY he hk
  replace k2 : x = _ := k2
  subst k2
  have p1 := kz_pc_le (kz_tk 8 B (2 * k * e) (2 * e)) 0 e
  have p2 := kz_pc_le (kz_tk 8 B (2 * k * e) (2 * e)) e e
  show kSX5_binomial_37 (nI e) 256 f (nI k) z = _
  rw [show 2 * e * k = 2 * k * e by rw [Nat.mul_right_comm]]
  unfold kSX5_binomial_37
  rw [nI_clamp (show k < 2 ^ 31 by omega)]
  refine (kb_b_ff (kz_nle (n := 256) hk (by decide))).trans ?_
  refine (kb_o_v k1).trans ?_
  refine (kb_n_v (v := nI (kz_no e (kz_tk 8 B (2 * k * e) (2 * e)))) ?_).trans ?_
  · have h9 : nI (kz_pc (kz_tk 8 B (2 * k * e) (2 * e)) 0 e) - nI (kz_pc (kz_tk 8 B (2 * k * e) (2 * e)) e e) + (3329 : Int32) = nI (kz_pc (kz_tk 8 B (2 * k * e) (2 * e)) 0 e + 3329 - kz_pc (kz_tk 8 B (2 * k * e) (2 * e)) e e) := by
      rw [← pk_sub (by omega), ← nI_add, show (3329 : Int32) = nI 3329 from rfl]
      generalize nI (kz_pc (kz_tk 8 B (2 * k * e) (2 * e)) 0 e) = a1
      generalize nI (kz_pc (kz_tk 8 B (2 * k * e) (2 * e)) e e) = a2
      generalize nI 3329 = a3
      grind
    rw [h9]
    exact kz_rem (by omega)
  refine (kb_g_tt (kb_in_n hk (by decide))).trans ?_
  refine (kb_n_v rfl).trans ?_
  exact (kb_n_v (kz_inc _)).trans rfl
