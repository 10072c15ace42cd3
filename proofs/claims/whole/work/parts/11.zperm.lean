/-! Layer 2: the permutation, of the class and of the reference: one function of 25 lanes. -/
/-- a loop whose first part is a counter -/
theorem kz_for {G : Type} {S : Int32 → G → Option ((Int32 × G) ⊕ (Int32 × G))} (c : Nat → Int32) (n : Nat) (J : Nat → G → Prop) (hn : n < 100000) (hs : ∀ k g, k < n → J k g → ∃ g', S (c k) g = some (.inl (c (k + 1), g')) ∧ J (k + 1) g') (hx : ∀ g, J n g → S (c n) g = some (.inr (c n, g))) {g : G} (h0 : J 0 g) :
    ∃ g', kb_w (fun u : Int32 × G => S u.1 u.2) 100000 (c 0, g) = some (c n, g') ∧ J n g' := by
  obtain ⟨⟨x, g'⟩, k1, k2, k3⟩ : ∃ r, kb_w (fun u : Int32 × G => S u.1 u.2) 100000 (c 0, g) = some r ∧ r.1 = c n ∧ J n r.2 := by
    refine kb_w_inv (σ := Int32 × G) (ρ := Int32 × G) (fun k u => u.1 = c k ∧ J k u.2) (fun r => r.1 = c n ∧ J n r.2) n ?_ ?_ n 0 _ 100000 (by omega) hn ⟨rfl, h0⟩
    · rintro k ⟨x, g1⟩ hk ⟨h1, h2⟩
      replace h1 : x = c k := h1
      subst h1
      obtain ⟨g', e, j⟩ := hs k g1 hk h2
      exact ⟨(c (k + 1), g'), e, rfl, j⟩
    · rintro ⟨x, g1⟩ ⟨h1, h2⟩
      replace h1 : x = c n := h1
      subst h1
      exact ⟨(c n, g1), hx g1 h2, rfl, h2⟩
  replace k2 : x = c n := k2
  subst k2
  exact ⟨g', k1, k3⟩
def kz_rot (x : Int64) (t : Int32) : Int64 := (x <<< (t.toInt64 &&& 63)) ||| ((x.toUInt64 >>> (((64 : Int32) - t).toInt64.toUInt64 &&& Int64.toUInt64 63)).toInt64)
theorem kz_rot_0 (x : Int64) : kz_rot x 0 = x := by
  unfold kz_rot
  rw [show ((0 : Int32).toInt64 &&& 63) = 0 by decide +kernel, show (((64 : Int32) - 0).toInt64.toUInt64 &&& Int64.toUInt64 63) = 0 by decide +kernel]
  simp
theorem kz_left (x : Int64) (t : Int32) : kFX5_left x t = some (kz_rot x t) := by
  unfold kFX5_left
  by_cases h : t = 0
  · subst h
    exact (kb_b_tt (decide_eq_true rfl)).trans (by rw [kz_rot_0])
  · exact (kb_b_ff (decide_eq_false h)).trans rfl
def kz_tg (i : Nat) : Nat := i / 5 + 5 * ((2 * (i % 5) + 3 * (i / 5)) % 5)
def kz_in (p : Nat) : Nat := (p % 5 * 5 + (p / 5 + 5 * 3 - 3 * (p % 5)) * 3 % 5) 
def kz_tn (i : Nat) : Nat := [0, 1, 62, 28, 27, 36, 44, 6, 55, 20, 3, 10, 43, 25, 39, 41, 45, 15, 21, 8, 18, 2, 61, 56, 14].getD i 0
theorem kz_tg_in : ∀ i, i < 25 → kz_tg i < 25 ∧ kz_in (kz_tg i) = i := by decide +kernel
theorem kz_in_tg : ∀ p, p < 25 → kz_in p < 25 ∧ kz_tg (kz_in p) = p := by decide +kernel
def kz_C (a : Nat → Int64) (x : Nat) : Int64 := a x ^^^ a (x + 5) ^^^ a (x + 10) ^^^ a (x + 15) ^^^ a (x + 20)
def kz_D (a : Nat → Int64) (x : Nat) : Int64 := kz_C a ((x + 4) % 5) ^^^ kz_rot (kz_C a ((x + 1) % 5)) 1
def kz_B (a : Nat → Int64) (p : Nat) : Int64 := kz_rot (a (kz_in p) ^^^ kz_D a (kz_in p % 5)) (nI (kz_tn (kz_in p)))
def kz_X (m : Nat → Int64) (i : Nat) : Int64 := m i ^^^ ((m (i / 5 * 5 + (i % 5 + 1) % 5) ^^^ (-1 : Int64)) &&& m (i / 5 * 5 + (i % 5 + 2) % 5))
def kz_rd (rc : Nat → Int64) (r : Nat) (a : Nat → Int64) (i : Nat) : Int64 := if i = 0 then kz_X (kz_B a) 0 ^^^ rc r else kz_X (kz_B a) i
def kz_pm (rc : Nat → Int64) (a : Nat → Int64) : Nat → Nat → Int64
  | 0 => a
  | r + 1 => kz_rd rc r (kz_pm rc a r)
def kz_e25 (a b : Nat → Int64) : Prop := ∀ i, i < 25 → a i = b i
theorem kz_C_c {a b : Nat → Int64} (h : kz_e25 a b) {x : Nat} (hx : x < 5) : kz_C a x = kz_C b x := by
  unfold kz_C
  rw [h x (by omega), h (x + 5) (by omega), h (x + 10) (by omega), h (x + 15) (by omega), h (x + 20) (by omega)]
theorem kz_D_c {a b : Nat → Int64} (h : kz_e25 a b) (x : Nat) : kz_D a x = kz_D b x := by
  unfold kz_D
  rw [kz_C_c h (by omega), kz_C_c h (by omega)]
theorem kz_B_c {a b : Nat → Int64} (h : kz_e25 a b) : kz_e25 (kz_B a) (kz_B b) := fun p hp => by
  unfold kz_B
  rw [kz_D_c h, h _ (kz_in_tg p hp).1]
theorem kz_X_c {a b : Nat → Int64} (h : kz_e25 a b) : kz_e25 (kz_X a) (kz_X b) := fun i hi => by
  unfold kz_X
  rw [h i hi, h (i / 5 * 5 + (i % 5 + 1) % 5) (by omega), h (i / 5 * 5 + (i % 5 + 2) % 5) (by omega)]
theorem kz_rd_c {a b : Nat → Int64} (rc : Nat → Int64) (r : Nat) (h : kz_e25 a b) : kz_e25 (kz_rd rc r a) (kz_rd rc r b) := fun i hi => by
  unfold kz_rd
  rw [kz_X_c (kz_B_c h) i hi, kz_X_c (kz_B_c h) 0 (by omega)]
-- ===== the class
theorem kz_c28 (a c : Nat → Int64) : ∃ g, kb_w (fun u : Int32 × (Nat → Int64) => kSX4_permute_28 a u.1 u.2) 100000 ((0 : Int32), c) = some (nI 5, g) ∧ ∀ x, x < 5 → g x = kz_C a x := by
  refine kz_for (S := fun x c => kSX4_permute_28 a x c) nI 5 (fun k c => ∀ x, x < k → c x = kz_C a x) (by decide) (fun k g hk hg => ⟨vp_updL g k (kz_C a k), ?_, fun x hx => ?_⟩) (fun g _ => kb_b_tt (kz_le (n := 5) (Nat.le_refl _) (by decide))) (fun x hx => absurd hx (by omega))
  · show kSX4_permute_28 a (nI k) g = _
    unfold kSX4_permute_28
    rw [show nI k + (5 : Int32) = nI (k + 5) from nI_add _ _, show nI k + (10 : Int32) = nI (k + 10) from nI_add _ _, show nI k + (15 : Int32) = nI (k + 15) from nI_add _ _, show nI k + (20 : Int32) = nI (k + 20) from nI_add _ _, nI_clamp (show k < 2 ^ 31 by omega), nI_clamp (show k + 5 < 2 ^ 31 by omega), nI_clamp (show k + 10 < 2 ^ 31 by omega), nI_clamp (show k + 15 < 2 ^ 31 by omega), nI_clamp (show k + 20 < 2 ^ 31 by omega)]
    refine (kb_b_ff (kz_nle (n := 5) hk (by decide))).trans ?_
    refine (kb_g_tt (kb_in_n (by omega) (by decide))).trans ?_
    refine (kb_g_tt (kb_in_n (by omega) (by decide))).trans ?_
    refine (kb_g_tt (kb_in_n (by omega) (by decide))).trans ?_
    refine (kb_g_tt (kb_in_n (by omega) (by decide))).trans ?_
    refine (kb_g_tt (kb_in_n (by omega) (by decide))).trans ?_
    refine (kb_g_tt (kb_in_n (by omega) (by decide))).trans ?_
    refine (kb_n_v rfl).trans ?_
    exact (kb_n_v (kz_inc _)).trans rfl
  · by_cases e : x = k
    · subst e
      exact pk_uLs
    · rw [pk_uLn e]
      exact hg x (by omega)
def kz_tab (turns targets : Nat → Int32) : Prop := ∀ i, i < 25 → turns i = nI (kz_tn i) ∧ targets i = nI (kz_tg i)
theorem kz_c123 {a m : Nat → Int64} {turns targets : Nat → Int32} (hT : kz_tab turns targets) {x : Nat} (hx : x < 5) (hm : ∀ p, p < 25 → kz_in p % 5 < x → m p = kz_B a p) :
    ∃ g, kb_w (fun u : Int32 × (Nat → Int64) => kSX4_permute_123 (kz_D a x) a turns targets u.1 u.2) 100000 (nI x, m) = some (nI (x + 5 * 5), g) ∧ ∀ p, p < 25 → kz_in p % 5 < x + 1 → g p = kz_B a p := by
  have key := kz_for (S := fun i m => kSX4_permute_123 (kz_D a x) a turns targets i m) (g := m) (fun k => nI (x + 5 * k)) 5 (fun k m => ∀ p, p < 25 → kz_in p % 5 < x ∨ kz_in p % 5 = x ∧ kz_in p < x + 5 * k → m p = kz_B a p) (by decide) (fun k g hk hg => ⟨vp_updL g (kz_tg (x + 5 * k)) (kz_rot (a (x + 5 * k) ^^^ kz_D a x) (nI (kz_tn (x + 5 * k)))), ?_, fun p hp hc => ?_⟩) (fun g _ => kb_b_tt (kz_le (n := 25) (by omega) (by omega))) (fun p hp hc => hm p hp (by omega))
  · obtain ⟨g, k1, k2⟩ := key
    refine ⟨g, k1, fun p hp hc => k2 p hp ?_⟩
    have := (kz_in_tg p hp).1
    omega
  · show kSX4_permute_123 (kz_D a x) a turns targets (nI (x + 5 * k)) g = _
    have hi : x + 5 * k < 25 := by omega
    have hti := (kz_tg_in _ hi).1
    obtain ⟨t1, t2⟩ := hT _ hi
    unfold kSX4_permute_123
    rw [nI_clamp (show x + 5 * k < 2 ^ 31 by omega), t1, t2, nI_clamp (show kz_tg (x + 5 * k) < 2 ^ 31 by omega)]
    refine (kb_b_ff (kz_nle (n := 25) hi (by decide))).trans ?_
    refine (kb_g_tt (kb_in_n hi (by decide))).trans ?_
    refine (kb_n_v rfl).trans ?_
    refine (kb_g_tt (kb_in_n hi (by decide))).trans ?_
    refine (kb_g_tt (kb_in_n hi (by decide))).trans ?_
    refine (kb_g_tt (kb_in_n hi (by decide))).trans ?_
    refine (kb_g_tt (kb_in_n hti (by decide))).trans ?_
    refine (kb_n_v rfl).trans ?_
    refine (kb_n_v (v := nI (x + 5 * (k + 1))) ?_).trans rfl
    rw [show Int32.ofInt 5 = nI 5 by decide +kernel, nI_add]
    rfl
  · show vp_updL g (kz_tg (x + 5 * k)) (kz_rot (a (x + 5 * k) ^^^ kz_D a x) (nI (kz_tn (x + 5 * k)))) p = kz_B a p
    have hi : x + 5 * k < 25 := by omega
    by_cases e : p = kz_tg (x + 5 * k)
    · subst e
      rw [pk_uLs]
      unfold kz_B
      rw [(kz_tg_in _ hi).2, show (x + 5 * k) % 5 = x by omega]
    · rw [pk_uLn e]
      have hne : kz_in p ≠ x + 5 * k := fun h => e (by rw [← h]; exact (kz_in_tg p hp).2.symm)
      exact hg p hp (by omega)
theorem kz_mod5 {k : Nat} (j : Nat) (hk : k < 5) (hj : j < 5) : (nI k + nI j) - (nI k + nI j) / (5 : Int32) * (5 : Int32) = nI ((k + j) % 5) := by
  rw [nI_add]
  exact pk_rem (d := 5) (by omega) (by decide) (by decide)
theorem kz_c82 {a c m : Nat → Int64} {turns targets : Nat → Int32} (hT : kz_tab turns targets) (hc : ∀ x, x < 5 → c x = kz_C a x) :
    ∃ g, kb_w (fun u : Int32 × (Nat → Int64) => kSX4_permute_82 a c turns targets u.1 u.2) 100000 ((0 : Int32), m) = some (nI 5, g) ∧ kz_e25 g (kz_B a) := by
  have key := kz_for (S := fun i m => kSX4_permute_82 a c turns targets i m) (g := m) nI 5 (fun k m => ∀ p, p < 25 → kz_in p % 5 < k → m p = kz_B a p) (by decide) (fun k g hk hg => ?_) (fun g _ => kb_b_tt (kz_le (n := 5) (Nat.le_refl _) (by decide))) (fun p hp hc => absurd hc (by omega))
  · obtain ⟨g, k1, k2⟩ := key
    exact ⟨g, k1, fun p hp => k2 p hp (by omega)⟩
  · obtain ⟨g', m1, m2⟩ := kz_c123 (a := a) hT hk hg
    refine ⟨g', ?_, m2⟩
    show kSX4_permute_82 a c turns targets (nI k) g = _
    unfold kSX4_permute_82
    refine (kb_b_ff (kz_nle (n := 5) hk (by decide))).trans ?_
    refine (kb_n_v (v := nI ((k + 1) % 5)) (kz_mod5 1 hk (by decide))).trans ?_
    refine (kb_g_tt (kb_in_n (by omega) (by decide))).trans ?_
    refine (kb_n_v (v := kz_C a ((k + 1) % 5)) (by rw [nI_clamp (by omega)]; exact hc _ (by omega))).trans ?_
    refine (kb_n_v (v := nI ((k + 4) % 5)) (kz_mod5 4 hk (by decide))).trans ?_
    refine (kb_g_tt (kb_in_n (by omega) (by decide))).trans ?_
    refine (kb_n_v (v := kz_D a k) ?_).trans ?_
    · rw [nI_clamp (by omega), hc _ (by omega)]
      rfl
    refine (kb_o_v m1).trans ?_
    exact (kb_n_v (kz_inc _)).trans rfl
theorem kz_c187 {a m : Nat → Int64} : ∃ g, kb_w (fun u : Int32 × (Nat → Int64) => kSX4_permute_187 m u.1 u.2) 100000 ((0 : Int32), a) = some (nI 25, g) ∧ kz_e25 g (kz_X m) := by
  have key := kz_for (S := fun i a => kSX4_permute_187 m i a) (g := a) (fun k => nI (5 * k)) 5 (fun k a => ∀ i, i < 5 * k → a i = kz_X m i) (by decide) (fun k g hk hg => ⟨vp_updL (vp_updL (vp_updL (vp_updL (vp_updL g (5 * k) (kz_X m (5 * k))) (5 * k + 1) (kz_X m (5 * k + 1))) (5 * k + 2) (kz_X m (5 * k + 2))) (5 * k + 3) (kz_X m (5 * k + 3))) (5 * k + 4) (kz_X m (5 * k + 4)), ?_, fun i hi => ?_⟩) (fun g _ => kb_b_tt (kz_le (n := 25) (by omega) (by omega))) (fun i hi => absurd hi (by omega))
  · obtain ⟨g, k1, k2⟩ := key
    exact ⟨g, k1, fun i hi => k2 i (by omega)⟩
  · show kSX4_permute_187 m (nI (5 * k)) g = _
    have x0 : kz_X m (5 * k) = m (5 * k) ^^^ ((m (5 * k + 1) ^^^ (-1 : Int64)) &&& m (5 * k + 2)) := by
      unfold kz_X
      rw [show 5 * k / 5 * 5 + (5 * k % 5 + 1) % 5 = 5 * k + 1 by omega, show 5 * k / 5 * 5 + (5 * k % 5 + 2) % 5 = 5 * k + 2 by omega]
    have x1 : kz_X m (5 * k + 1) = m (5 * k + 1) ^^^ ((m (5 * k + 2) ^^^ (-1 : Int64)) &&& m (5 * k + 3)) := by
      unfold kz_X
      rw [show (5 * k + 1) / 5 * 5 + ((5 * k + 1) % 5 + 1) % 5 = 5 * k + 2 by omega, show (5 * k + 1) / 5 * 5 + ((5 * k + 1) % 5 + 2) % 5 = 5 * k + 3 by omega]
    have x2 : kz_X m (5 * k + 2) = m (5 * k + 2) ^^^ ((m (5 * k + 3) ^^^ (-1 : Int64)) &&& m (5 * k + 4)) := by
      unfold kz_X
      rw [show (5 * k + 2) / 5 * 5 + ((5 * k + 2) % 5 + 1) % 5 = 5 * k + 3 by omega, show (5 * k + 2) / 5 * 5 + ((5 * k + 2) % 5 + 2) % 5 = 5 * k + 4 by omega]
    have x3 : kz_X m (5 * k + 3) = m (5 * k + 3) ^^^ ((m (5 * k + 4) ^^^ (-1 : Int64)) &&& m (5 * k)) := by
      unfold kz_X
      rw [show (5 * k + 3) / 5 * 5 + ((5 * k + 3) % 5 + 1) % 5 = 5 * k + 4 by omega, show (5 * k + 3) / 5 * 5 + ((5 * k + 3) % 5 + 2) % 5 = 5 * k by omega]
    have x4 : kz_X m (5 * k + 4) = m (5 * k + 4) ^^^ ((m (5 * k) ^^^ (-1 : Int64)) &&& m (5 * k + 1)) := by
      unfold kz_X
      rw [show (5 * k + 4) / 5 * 5 + ((5 * k + 4) % 5 + 1) % 5 = 5 * k by omega, show (5 * k + 4) / 5 * 5 + ((5 * k + 4) % 5 + 2) % 5 = 5 * k + 1 by omega]
    rw [x0, x1, x2, x3, x4]
    unfold kSX4_permute_187
    rw [show nI (5 * k) + (1 : Int32) = nI (5 * k + 1) from nI_add _ _, show nI (5 * k) + (2 : Int32) = nI (5 * k + 2) from nI_add _ _, show nI (5 * k) + (3 : Int32) = nI (5 * k + 3) from nI_add _ _, show nI (5 * k) + (4 : Int32) = nI (5 * k + 4) from nI_add _ _, nI_clamp (show 5 * k < 2 ^ 31 by omega), nI_clamp (show 5 * k + 1 < 2 ^ 31 by omega), nI_clamp (show 5 * k + 2 < 2 ^ 31 by omega), nI_clamp (show 5 * k + 3 < 2 ^ 31 by omega), nI_clamp (show 5 * k + 4 < 2 ^ 31 by omega)]
    have i0 : kb_in (nI (5 * k)) 25 = true := kb_in_n (by omega) (by decide)
    have i1 : kb_in (nI (5 * k + 1)) 25 = true := kb_in_n (by omega) (by decide)
    have i2 : kb_in (nI (5 * k + 2)) 25 = true := kb_in_n (by omega) (by decide)
    have i3 : kb_in (nI (5 * k + 3)) 25 = true := kb_in_n (by omega) (by decide)
    have i4 : kb_in (nI (5 * k + 4)) 25 = true := kb_in_n (by omega) (by decide)
    refine (kb_b_ff (kz_nle (n := 25) (by omega) (by decide))).trans ?_
    refine (kb_g_tt i0).trans ?_
    refine (kb_g_tt i1).trans ?_
    refine (kb_g_tt i2).trans ?_
    refine (kb_g_tt i0).trans ?_
    refine (kb_n_v rfl).trans ?_
    refine (kb_g_tt i1).trans ?_
    refine (kb_g_tt i2).trans ?_
    refine (kb_g_tt i3).trans ?_
    refine (kb_g_tt i1).trans ?_
    refine (kb_n_v rfl).trans ?_
    refine (kb_g_tt i2).trans ?_
    refine (kb_g_tt i3).trans ?_
    refine (kb_g_tt i4).trans ?_
    refine (kb_g_tt i2).trans ?_
    refine (kb_n_v rfl).trans ?_
    refine (kb_g_tt i3).trans ?_
    refine (kb_g_tt i4).trans ?_
    refine (kb_g_tt i0).trans ?_
    refine (kb_g_tt i3).trans ?_
    refine (kb_n_v rfl).trans ?_
    refine (kb_g_tt i4).trans ?_
    refine (kb_g_tt i0).trans ?_
    refine (kb_g_tt i1).trans ?_
    refine (kb_g_tt i4).trans ?_
    refine (kb_n_v rfl).trans ?_
    refine (kb_n_v (v := nI (5 * (k + 1))) ?_).trans rfl
    rw [show Int32.ofInt 5 = nI 5 by decide +kernel, nI_add]
    rfl
  · show vp_updL (vp_updL (vp_updL (vp_updL (vp_updL g (5 * k) (kz_X m (5 * k))) (5 * k + 1) (kz_X m (5 * k + 1))) (5 * k + 2) (kz_X m (5 * k + 2))) (5 * k + 3) (kz_X m (5 * k + 3))) (5 * k + 4) (kz_X m (5 * k + 4)) i = kz_X m i
    by_cases e4 : i = 5 * k + 4
    · subst e4; exact pk_uLs
    rw [pk_uLn e4]
    by_cases e3 : i = 5 * k + 3
    · subst e3; exact pk_uLs
    rw [pk_uLn e3]
    by_cases e2 : i = 5 * k + 2
    · subst e2; exact pk_uLs
    rw [pk_uLn e2]
    by_cases e1 : i = 5 * k + 1
    · subst e1; exact pk_uLs
    rw [pk_uLn e1]
    by_cases e0 : i = 5 * k
    · subst e0; exact pk_uLs
    rw [pk_uLn e0]
    exact hg i (by omega)
theorem kz_e25_upd {g a : Nat → Int64} {v : Int64} (h : kz_e25 g a) : kz_e25 (vp_updL g 0 v) (fun i => if i = 0 then v else a i) := fun i hi => by
  by_cases e : i = 0
  · subst e
    exact pk_uLs
  · show vp_updL g 0 v i = if i = 0 then v else a i
    rw [pk_uLn e, if_neg e]
    exact h i hi
theorem kz_permute {a m c rc : Nat → Int64} {turns targets : Nat → Int32} (hT : kz_tab turns targets) : ∃ a' m' c', kFX4_permute a m c turns targets rc = some (a', m', c') ∧ kz_e25 a' (kz_pm rc a 24) := by
  have key := kz_for (S := fun i u => kSX4_permute_18 turns targets rc i u.1 u.2.1 u.2.2) (g := (c, a, m)) nI 24 (fun k u => kz_e25 u.2.1 (kz_pm rc a k)) (by decide) (fun k u hk hu => ?_) (fun g _ => kb_b_tt (kz_le (n := 24) (Nat.le_refl _) (by decide))) (fun i _ => rfl)
  · obtain ⟨⟨c', a', m'⟩, k1, k2⟩ := key
    refine ⟨a', m', c', ?_, k2⟩
    unfold kFX4_permute
    exact kb_o_v k1
  · obtain ⟨c0, a0, m0⟩ := u
    replace hu : kz_e25 a0 (kz_pm rc a k) := hu
    obtain ⟨c1, q1, q2⟩ := kz_c28 a0 c0
    obtain ⟨m1, q3, q4⟩ := kz_c82 (a := a0) (m := m0) hT q2
    obtain ⟨a1, q5, q6⟩ := kz_c187 (a := a0) (m := m1)
    refine ⟨(c1, vp_updL a1 0 (a1 0 ^^^ rc k), m1), ?_, ?_⟩
    · show kSX4_permute_18 turns targets rc (nI k) c0 a0 m0 = _
      unfold kSX4_permute_18
      refine (kb_b_ff (kz_nle (n := 24) hk (by decide))).trans ?_
      refine (kb_o_v q1).trans ?_
      refine (kb_o_v q3).trans ?_
      refine (kb_o_v q5).trans ?_
      refine (kb_g_tt (kb_in_n hk (by decide))).trans ?_
      refine (kb_n_v (v := vp_updL a1 0 (a1 0 ^^^ rc k)) (by rw [nI_clamp (by omega)]; rfl)).trans ?_
      exact (kb_n_v (kz_inc _)).trans rfl
    · intro i hi
      have h1 : kz_e25 a1 (kz_X (kz_B a0)) := fun i hi => (q6 i hi).trans (kz_X_c q4 i hi)
      show vp_updL a1 0 (a1 0 ^^^ rc k) i = kz_rd rc k (kz_pm rc a k) i
      rw [← kz_rd_c rc k hu i hi]
      rw [kz_e25_upd h1 i hi, h1 0 (by decide)]
      rfl
