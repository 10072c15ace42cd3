/-! Layer 2: the reference's permutation. -/
def kz_Cp (a : Nat → Int64) (x : Nat) : Nat → Int64
  | 0 => 0
  | k + 1 => kz_Cp a x k ^^^ a (x + 5 * k)
theorem kz_Cp_5 (a : Nat → Int64) (x : Nat) : kz_Cp a x 5 = kz_C a x := by
  show (0 : Int64) ^^^ a (x + 5 * 0) ^^^ a (x + 5 * 1) ^^^ a (x + 5 * 2) ^^^ a (x + 5 * 3) ^^^ a (x + 5 * 4) = kz_C a x
  rw [Int64.zero_xor]
  rfl
theorem kz_r24 {a c : Nat → Int64} {x : Nat} (hx : x < 5) (hc : ∀ y, y < x → c y = kz_C a y) :
    ∃ g, kb_w (fun u : Int32 × (Nat → Int64) => kSX5_permute_24 (nI x) a u.1 u.2) 100000 ((0 : Int32), vp_updL c x 0) = some (nI 5, g) ∧ ∀ y, y < x + 1 → g y = kz_C a y := by
  have key := kz_for (S := fun i c => kSX5_permute_24 (nI x) a i c) (g := vp_updL c x 0) nI 5 (fun k c => c x = kz_Cp a x k ∧ ∀ y, y < x → c y = kz_C a y) (by decide) (fun k g hk hg => ⟨vp_updL g x (kz_Cp a x (k + 1)), ?_, pk_uLs, fun y hy => by rw [pk_uLn (by omega)]; exact hg.2 y hy⟩) (fun g _ => kb_b_tt (kz_le (n := 5) (Nat.le_refl _) (by decide))) ⟨pk_uLs, fun y hy => by rw [pk_uLn (by omega)]; exact hc y hy⟩
  · obtain ⟨g, k1, k2, k3⟩ := key
    refine ⟨g, k1, fun y hy => ?_⟩
    by_cases e : y = x
    · subst e
      rw [k2, kz_Cp_5]
    · exact k3 y (by omega)
  · show kSX5_permute_24 (nI x) a (nI k) g = _
    unfold kSX5_permute_24
    rw [show (5 : Int32) * nI k = nI (5 * k) from pk_mul _ _, nI_add, nI_clamp (show x < 2 ^ 31 by omega), nI_clamp (show x + 5 * k < 2 ^ 31 by omega)]
    refine (kb_b_ff (kz_nle (n := 5) hk (by decide))).trans ?_
    refine (kb_g_tt (kb_in_n hx (by decide))).trans ?_
    refine (kb_g_tt (kb_in_n (by omega) (by decide))).trans ?_
    refine (kb_g_tt (kb_in_n hx (by decide))).trans ?_
    refine (kb_n_v (v := vp_updL g x (kz_Cp a x (k + 1))) (by rw [hg.1]; rfl)).trans ?_
    exact (kb_n_v (kz_inc _)).trans rfl
theorem kz_r10 (a c : Nat → Int64) : ∃ g, kb_w (fun u : Int32 × (Nat → Int64) => kSX5_permute_10 a u.1 u.2) 100000 ((0 : Int32), c) = some (nI 5, g) ∧ ∀ x, x < 5 → g x = kz_C a x := by
  refine kz_for (S := fun x c => kSX5_permute_10 a x c) nI 5 (fun k c => ∀ x, x < k → c x = kz_C a x) (by decide) (fun k g hk hg => ?_) (fun g _ => kb_b_tt (kz_le (n := 5) (Nat.le_refl _) (by decide))) (fun x hx => absurd hx (by omega))
  obtain ⟨g', m1, m2⟩ := kz_r24 (a := a) hk hg
  refine ⟨g', ?_, m2⟩
  show kSX5_permute_10 a (nI k) g = _
  unfold kSX5_permute_10
  refine (kb_b_ff (kz_nle (n := 5) hk (by decide))).trans ?_
  refine (kb_g_tt (kb_in_n hk (by decide))).trans ?_
  refine (kb_n_v (v := vp_updL g k 0) (by rw [nI_clamp (by omega)])).trans ?_
  refine (kb_o_v m1).trans ?_
  exact (kb_n_v (kz_inc _)).trans rfl
theorem kz_r69 {a s c : Nat → Int64} {x : Nat} (hx : x < 5) (hc : ∀ y, y < 5 → c y = kz_C a y) (hs : ∀ i, i < 25 → s i = if i % 5 < x then a i ^^^ kz_D a (i % 5) else a i) :
    ∃ g, kb_w (fun u : Int32 × (Nat → Int64) => kSX5_permute_69 (nI x) c u.1 u.2) 100000 ((0 : Int32), s) = some (nI 5, g) ∧ ∀ i, i < 25 → g i = if i % 5 < x + 1 then a i ^^^ kz_D a (i % 5) else a i := by
  have key := kz_for (S := fun i c' => kSX5_permute_69 (nI x) c i c') (g := s) nI 5 (fun k s => ∀ i, i < 25 → s i = if i % 5 < x ∨ i % 5 = x ∧ i / 5 < k then a i ^^^ kz_D a (i % 5) else a i) (by decide) (fun k g hk hg => ⟨vp_updL g (x + 5 * k) (a (x + 5 * k) ^^^ kz_D a x), ?_, fun i hi => ?_⟩) (fun g _ => kb_b_tt (kz_le (n := 5) (Nat.le_refl _) (by decide))) (fun i hi => ?_)
  · obtain ⟨g, k1, k2⟩ := key
    refine ⟨g, k1, fun i hi => ?_⟩
    rw [k2 i hi]
    by_cases e : i % 5 < x + 1
    · rw [if_pos e, if_pos (by omega)]
    · rw [if_neg e, if_neg (by omega)]
  · show kSX5_permute_69 (nI x) c (nI k) g = _
    have hgi := hg (x + 5 * k) (by omega)
    rw [if_neg (by omega)] at hgi
    unfold kSX5_permute_69
    rw [show (5 : Int32) * nI k = nI (5 * k) from pk_mul _ _, nI_add x (5 * k), nI_clamp (show x + 5 * k < 2 ^ 31 by omega)]
    refine (kb_b_ff (kz_nle (n := 5) hk (by decide))).trans ?_
    refine (kb_g_tt (kb_in_n (by omega) (by decide))).trans ?_
    refine (kb_n_v (v := nI ((x + 4) % 5)) (kz_mod5 4 hx (by decide))).trans ?_
    refine (kb_g_tt (kb_in_n (by omega) (by decide))).trans ?_
    refine (kb_n_v (v := nI ((x + 1) % 5)) (kz_mod5 1 hx (by decide))).trans ?_
    refine (kb_g_tt (kb_in_n (by omega) (by decide))).trans ?_
    refine (kb_o_v (kz_left _ _)).trans ?_
    refine (kb_g_tt (kb_in_n (by omega) (by decide))).trans ?_
    refine (kb_n_v (v := vp_updL g (x + 5 * k) (a (x + 5 * k) ^^^ kz_D a x)) ?_).trans ?_
    · rw [hgi, nI_clamp (show (x + 4) % 5 < 2 ^ 31 by omega), nI_clamp (show (x + 1) % 5 < 2 ^ 31 by omega), hc _ (by omega), hc _ (by omega)]
      rfl
    exact (kb_n_v (kz_inc _)).trans rfl
  · show vp_updL g (x + 5 * k) (a (x + 5 * k) ^^^ kz_D a x) i = _
    by_cases e : i = x + 5 * k
    · subst e
      rw [pk_uLs, if_pos (by omega), show (x + 5 * k) % 5 = x by omega]
    · rw [pk_uLn e, hg i hi]
      by_cases e2 : i % 5 < x ∨ i % 5 = x ∧ i / 5 < k
      · rw [if_pos e2, if_pos (by omega)]
      · rw [if_neg e2, if_neg (by omega)]
  · rw [hs i hi]
    by_cases e : i % 5 < x
    · rw [if_pos e, if_pos (Or.inl e)]
    · rw [if_neg e, if_neg (by omega)]
theorem kz_r62 {a c : Nat → Int64} (hc : ∀ y, y < 5 → c y = kz_C a y) :
    ∃ g, kb_w (fun u : Int32 × (Nat → Int64) => kSX5_permute_62 c u.1 u.2) 100000 ((0 : Int32), a) = some (nI 5, g) ∧ ∀ i, i < 25 → g i = a i ^^^ kz_D a (i % 5) := by
  have key := kz_for (S := fun i s => kSX5_permute_62 c i s) (g := a) nI 5 (fun k s => ∀ i, i < 25 → s i = if i % 5 < k then a i ^^^ kz_D a (i % 5) else a i) (by decide) (fun k g hk hg => ?_) (fun g _ => kb_b_tt (kz_le (n := 5) (Nat.le_refl _) (by decide))) (fun i hi => by rw [if_neg (by omega)])
  · obtain ⟨g, k1, k2⟩ := key
    exact ⟨g, k1, fun i hi => by rw [k2 i hi, if_pos (by omega)]⟩
  · obtain ⟨g', m1, m2⟩ := kz_r69 hk hc hg
    refine ⟨g', ?_, m2⟩
    show kSX5_permute_62 c (nI k) g = _
    unfold kSX5_permute_62
    refine (kb_b_ff (kz_nle (n := 5) hk (by decide))).trans ?_
    refine (kb_o_v m1).trans ?_
    exact (kb_n_v (kz_inc _)).trans rfl
theorem kz_r133 {a s o : Nat → Int64} {turns : Nat → Int32} {x : Nat} (hT : ∀ i, i < 25 → turns i = nI (kz_tn i)) (hx : x < 5) (hs : ∀ i, i < 25 → s i = a i ^^^ kz_D a (i % 5)) (ho : ∀ p, p < 25 → kz_in p % 5 < x → o p = kz_B a p) :
    ∃ g, kb_w (fun u : Int32 × (Nat → Int64) => kSX5_permute_133 (nI x) turns s u.1 u.2) 100000 ((0 : Int32), o) = some (nI 5, g) ∧ ∀ p, p < 25 → kz_in p % 5 < x + 1 → g p = kz_B a p := by
  have key := kz_for (S := fun i o => kSX5_permute_133 (nI x) turns s i o) (g := o) nI 5 (fun k o => ∀ p, p < 25 → kz_in p % 5 < x ∨ kz_in p % 5 = x ∧ kz_in p / 5 < k → o p = kz_B a p) (by decide) (fun k g hk hg => ⟨vp_updL g (kz_tg (x + 5 * k)) (kz_rot (s (x + 5 * k)) (nI (kz_tn (x + 5 * k)))), ?_, fun p hp hc => ?_⟩) (fun g _ => kb_b_tt (kz_le (n := 5) (Nat.le_refl _) (by decide))) (fun p hp hc => ho p hp (by omega))
  · obtain ⟨g, k1, k2⟩ := key
    refine ⟨g, k1, fun p hp hc => k2 p hp ?_⟩
    have := (kz_in_tg p hp).1
    omega
  · show kSX5_permute_133 (nI x) turns s (nI k) g = _
    have hi : x + 5 * k < 25 := by omega
    have ht : kz_tg (x + 5 * k) = k + 5 * ((2 * x + 3 * k) % 5) := by
      unfold kz_tg
      rw [show (x + 5 * k) / 5 = k by omega, show (x + 5 * k) % 5 = x by omega]
    have hti := (kz_tg_in _ hi).1
    unfold kSX5_permute_133
    rw [show (5 : Int32) * nI k = nI (5 * k) from pk_mul _ _, nI_add x (5 * k), nI_clamp (show x + 5 * k < 2 ^ 31 by omega), hT _ hi, show (2 : Int32) * nI x = nI (2 * x) from pk_mul _ _, show (3 : Int32) * nI k = nI (3 * k) from pk_mul _ _, nI_add (2 * x) (3 * k)]
    refine (kb_b_ff (kz_nle (n := 5) hk (by decide))).trans ?_
    refine (kb_n_v (v := nI ((2 * x + 3 * k) % 5)) (pk_rem (d := 5) (by omega) (by decide) (by decide))).trans ?_
    refine (kb_g_tt (kb_in_n hi (by decide))).trans ?_
    refine (kb_g_tt (kb_in_n hi (by decide))).trans ?_
    refine (kb_o_v (kz_left _ _)).trans ?_
    rw [show nI k + (5 : Int32) * nI ((2 * x + 3 * k) % 5) = nI (kz_tg (x + 5 * k)) by rw [show (5 : Int32) * nI ((2 * x + 3 * k) % 5) = nI (5 * ((2 * x + 3 * k) % 5)) from pk_mul _ _, nI_add, ht], nI_clamp (show kz_tg (x + 5 * k) < 2 ^ 31 by omega)]
    refine (kb_g_tt (kb_in_n hti (by decide))).trans ?_
    refine (kb_n_v rfl).trans ?_
    exact (kb_n_v (kz_inc _)).trans rfl
  · show vp_updL g (kz_tg (x + 5 * k)) (kz_rot (s (x + 5 * k)) (nI (kz_tn (x + 5 * k)))) p = kz_B a p
    have hi : x + 5 * k < 25 := by omega
    by_cases e : p = kz_tg (x + 5 * k)
    · subst e
      rw [pk_uLs, hs _ hi]
      unfold kz_B
      rw [(kz_tg_in _ hi).2]
    · rw [pk_uLn e]
      have hne : kz_in p ≠ x + 5 * k := fun h => e (by rw [← h]; exact (kz_in_tg p hp).2.symm)
      exact hg p hp (by omega)
theorem kz_r126 {a s o : Nat → Int64} {turns : Nat → Int32} (hT : ∀ i, i < 25 → turns i = nI (kz_tn i)) (hs : ∀ i, i < 25 → s i = a i ^^^ kz_D a (i % 5)) :
    ∃ g, kb_w (fun u : Int32 × (Nat → Int64) => kSX5_permute_126 turns s u.1 u.2) 100000 ((0 : Int32), o) = some (nI 5, g) ∧ kz_e25 g (kz_B a) := by
  have key := kz_for (S := fun i o => kSX5_permute_126 turns s i o) (g := o) nI 5 (fun k o => ∀ p, p < 25 → kz_in p % 5 < k → o p = kz_B a p) (by decide) (fun k g hk hg => ?_) (fun g _ => kb_b_tt (kz_le (n := 5) (Nat.le_refl _) (by decide))) (fun p hp hc => absurd hc (by omega))
  · obtain ⟨g, k1, k2⟩ := key
    exact ⟨g, k1, fun p hp => k2 p hp (by omega)⟩
  · obtain ⟨g', m1, m2⟩ := kz_r133 hT hk hs hg
    refine ⟨g', ?_, m2⟩
    show kSX5_permute_126 turns s (nI k) g = _
    unfold kSX5_permute_126
    refine (kb_b_ff (kz_nle (n := 5) hk (by decide))).trans ?_
    refine (kb_o_v m1).trans ?_
    exact (kb_n_v (kz_inc _)).trans rfl
theorem kz_r200 {m s : Nat → Int64} {x : Nat} (hx : x < 5) (hs : ∀ i, i < 25 → i % 5 < x → s i = kz_X m i) :
    ∃ g, kb_w (fun u : Int32 × (Nat → Int64) => kSX5_permute_200 (nI x) m u.1 u.2) 100000 ((0 : Int32), s) = some (nI 5, g) ∧ ∀ i, i < 25 → i % 5 < x + 1 → g i = kz_X m i := by
  have key := kz_for (S := fun i s => kSX5_permute_200 (nI x) m i s) (g := s) nI 5 (fun k s => ∀ i, i < 25 → i % 5 < x ∨ i % 5 = x ∧ i / 5 < k → s i = kz_X m i) (by decide) (fun k g hk hg => ⟨vp_updL g (x + 5 * k) (kz_X m (x + 5 * k)), ?_, fun i hi hc => ?_⟩) (fun g _ => kb_b_tt (kz_le (n := 5) (Nat.le_refl _) (by decide))) (fun i hi hc => hs i hi (by omega))
  · obtain ⟨g, k1, k2⟩ := key
    exact ⟨g, k1, fun i hi hc => k2 i hi (by omega)⟩
  · show kSX5_permute_200 (nI x) m (nI k) g = _
    unfold kSX5_permute_200
    rw [show (5 : Int32) * nI k = nI (5 * k) from pk_mul _ _, nI_add x (5 * k), nI_clamp (show x + 5 * k < 2 ^ 31 by omega)]
    refine (kb_b_ff (kz_nle (n := 5) hk (by decide))).trans ?_
    refine (kb_g_tt (kb_in_n (by omega) (by decide))).trans ?_
    refine (kb_n_v (v := nI ((x + 1) % 5)) (kz_mod5 1 hx (by decide))).trans ?_
    rw [nI_add ((x + 1) % 5) (5 * k), nI_clamp (show (x + 1) % 5 + 5 * k < 2 ^ 31 by omega)]
    refine (kb_g_tt (kb_in_n (by omega) (by decide))).trans ?_
    refine (kb_n_v (v := nI ((x + 2) % 5)) (kz_mod5 2 hx (by decide))).trans ?_
    rw [nI_add ((x + 2) % 5) (5 * k), nI_clamp (show (x + 2) % 5 + 5 * k < 2 ^ 31 by omega)]
    refine (kb_g_tt (kb_in_n (by omega) (by decide))).trans ?_
    refine (kb_g_tt (kb_in_n (by omega) (by decide))).trans ?_
    refine (kb_n_v (v := vp_updL g (x + 5 * k) (kz_X m (x + 5 * k))) ?_).trans ?_
    · unfold kz_X
      rw [show (x + 5 * k) / 5 * 5 + ((x + 5 * k) % 5 + 1) % 5 = (x + 1) % 5 + 5 * k by omega, show (x + 5 * k) / 5 * 5 + ((x + 5 * k) % 5 + 2) % 5 = (x + 2) % 5 + 5 * k by omega]
    exact (kb_n_v (kz_inc _)).trans rfl
  · show vp_updL g (x + 5 * k) (kz_X m (x + 5 * k)) i = _
    by_cases e : i = x + 5 * k
    · subst e
      exact pk_uLs
    · rw [pk_uLn e]
      exact hg i hi (by omega)
theorem kz_r193 (m s : Nat → Int64) : ∃ g, kb_w (fun u : Int32 × (Nat → Int64) => kSX5_permute_193 m u.1 u.2) 100000 ((0 : Int32), s) = some (nI 5, g) ∧ kz_e25 g (kz_X m) := by
  have key := kz_for (S := fun i s => kSX5_permute_193 m i s) (g := s) nI 5 (fun k s => ∀ i, i < 25 → i % 5 < k → s i = kz_X m i) (by decide) (fun k g hk hg => ?_) (fun g _ => kb_b_tt (kz_le (n := 5) (Nat.le_refl _) (by decide))) (fun i hi hc => absurd hc (by omega))
  · obtain ⟨g, k1, k2⟩ := key
    exact ⟨g, k1, fun i hi => k2 i hi (by omega)⟩
  · obtain ⟨g', m1, m2⟩ := kz_r200 hk hg
    refine ⟨g', ?_, m2⟩
    show kSX5_permute_193 m (nI k) g = _
    unfold kSX5_permute_193
    refine (kb_b_ff (kz_nle (n := 5) hk (by decide))).trans ?_
    refine (kb_o_v m1).trans ?_
    exact (kb_n_v (kz_inc _)).trans rfl
theorem kz_rpermute {a m c rc : Nat → Int64} {turns : Nat → Int32} (hT : ∀ i, i < 25 → turns i = nI (kz_tn i)) : ∃ a' m' c', kFX5_permute turns rc a m c = some (a', m', c') ∧ kz_e25 a' (kz_pm rc a 24) := by
  have key := kz_for (S := fun i u => kSX5_permute_2 turns rc i u.1 u.2.1 u.2.2) (g := (c, m, a)) nI 24 (fun k u => kz_e25 u.2.2 (kz_pm rc a k)) (by decide) (fun k u hk hu => ?_) (fun g _ => kb_b_tt (kz_le (n := 24) (Nat.le_refl _) (by decide))) (fun i _ => rfl)
  · obtain ⟨⟨c', m', a'⟩, k1, k2⟩ := key
    refine ⟨a', m', c', ?_, k2⟩
    unfold kFX5_permute
    exact kb_o_v k1
  · obtain ⟨c0, m0, a0⟩ := u
    replace hu : kz_e25 a0 (kz_pm rc a k) := hu
    obtain ⟨c1, q1, q2⟩ := kz_r10 a0 c0
    obtain ⟨s1, q3, q4⟩ := kz_r62 q2
    obtain ⟨m1, q5, q6⟩ := kz_r126 (o := m0) hT q4
    obtain ⟨a1, q7, q8⟩ := kz_r193 m1 s1
    refine ⟨(c1, m1, vp_updL a1 0 (a1 0 ^^^ rc k)), ?_, ?_⟩
    · show kSX5_permute_2 turns rc (nI k) c0 m0 a0 = _
      unfold kSX5_permute_2
      refine (kb_b_ff (kz_nle (n := 24) hk (by decide))).trans ?_
      refine (kb_o_v q1).trans ?_
      refine (kb_o_v q3).trans ?_
      refine (kb_o_v q5).trans ?_
      refine (kb_o_v q7).trans ?_
      refine (kb_g_tt (kb_in_n hk (by decide))).trans ?_
      refine (kb_n_v (v := vp_updL a1 0 (a1 0 ^^^ rc k)) (by rw [nI_clamp (by omega)]; rfl)).trans ?_
      exact (kb_n_v (kz_inc _)).trans rfl
    · intro i hi
      have h1 : kz_e25 a1 (kz_X (kz_B a0)) := fun i hi => (q8 i hi).trans (kz_X_c q6 i hi)
      show vp_updL a1 0 (a1 0 ^^^ rc k) i = kz_rd rc k (kz_pm rc a k) i
      rw [← kz_rd_c rc k hu i hi]
      rw [kz_e25_upd h1 i hi, h1 0 (by decide)]
      rfl
