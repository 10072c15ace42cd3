/-! Layer 2: fewer bits: compress and expand, of the class and of the reference. -/
def kz_cmp (x d : Nat) : Nat := (x * 2 ^ (d + 1) + 3329) / 6658 % 2 ^ d
def kz_ex (y d : Nat) : Nat := (3329 * y + 2 ^ (d - 1)) / 2 ^ d
theorem kz_ex_lt {y d : Nat} (h0 : 0 < d) (hd : d ≤ 11) (hy : y < 2 ^ d) : kz_ex y d < 3329 := by
  unfold kz_ex
  rw [Nat.div_lt_iff_lt_mul (Nat.two_pow_pos d)]
  obtain ⟨e, rfl⟩ : ∃ e, d = e + 1 := ⟨d - 1, by omega⟩
  have h1 : 2 ^ e ≤ 2 ^ 10 := kz_p2 (by omega)
  rw [Nat.add_sub_cancel]
  rw [Nat.pow_succ] at hy ⊢
  omega
theorem kz_rcmp1 : ∀ d ∈ [1, 4, 5, 10, 11], ∀ a, a < 53 → ∀ b, b < 64 → kFX5_compress (nI (64 * a + b)) (nI d) = some (nI (kz_cmp (64 * a + b) d)) := by decide +kernel
theorem kz_rcmp {x d : Nat} (hd : d ∈ [1, 4, 5, 10, 11]) (hx : x < 3329) : kFX5_compress (nI x) (nI d) = some (nI (kz_cmp x d)) := by
  have h := kz_rcmp1 d hd (x / 64) (by omega) (x % 64) (by omega)
  rw [Nat.div_add_mod] at h
  exact h
theorem kz_rex {y d : Nat} (h0 : 0 < d) (hd : d ≤ 11) (hy : y < 2 ^ d) : kFX5_expand (nI y) (nI d) = some (nI (kz_ex y d)) := by
  unfold kFX5_expand
  obtain ⟨e, rfl⟩ : ∃ e, d = e + 1 := ⟨d - 1, by omega⟩
  have h1 : 2 ^ (e + 1) ≤ 2 ^ 11 := kz_p2 hd
  rw [show (6658 : Int32) * nI y = nI (6658 * y) from pk_mul _ _, show (1 : Int32) <<< (nI (e + 1) &&& 31) = nI (1 * 2 ^ (e + 1)) from pk_shlN (n := 1) _ (e + 1) (kz_sl (e + 1) (by omega)) (by omega), nI_add, nI_1, pk_shrN (by omega) _ (e + 1 + 1) (kz_sl (e + 1 + 1) (by omega))]
  congr 2
  unfold kz_ex
  rw [Nat.add_sub_cancel, show 6658 * y + 1 * 2 ^ (e + 1) = 2 * (3329 * y + 2 ^ e) by rw [Nat.pow_succ]; omega, show 2 ^ (e + 1 + 1) = 2 * 2 ^ (e + 1) by rw [Nat.pow_succ]; omega, Nat.mul_div_mul_left _ _ (by decide)]
/-- a polynomial whose numbers have d bits -/
def kz_Q (d : Nat) (a : Nat → Nat) (f : Nat → Int32) : Prop := ∀ i, i < 256 → a i < 2 ^ d ∧ f i = nI (a i)
theorem kz_packC {a : Nat → Nat} {f row : Nat → Int32} {n3 d at' : Nat} (hf : kz_R a f) (hd : d ≤ 11) (hn : at' + 32 * d ≤ n3) (hn2 : n3 < 2 ^ 31) :
    ∃ f' r, kFX6_packCompressed (nI d) (nI at') 256 n3 f row = some (f', r) ∧ ∀ k, r k = if at' ≤ k ∧ k < at' + 32 * d then kz_by (kz_tk d (fun i => kz_cmp (a i) d) (8 * (k - at')) 8) else row k := by
  have key := kz_for (S := fun i f => kSX6_packCompressed_3 (nI d) 256 i f) (g := f) nI 256 (fun k f => ∀ i, i < 256 → f i = if i < k then nI (kz_cmp (a i) d) else nI (a i)) (by decide) (fun k g hk hg => ⟨upd g k (nI (kz_cmp (a k) d)), ?_, fun i hi => ?_⟩) (fun g _ => kb_b_tt (kz_le (n := 256) (Nat.le_refl _) (by decide))) (fun i hi => by rw [if_neg (by omega)]; exact (hf i hi).2)
  · obtain ⟨g, k1, k2⟩ := key
    have hF : ∀ i, i < 256 → kz_cmp (a i) d < 2 ^ d ∧ g i = nI (kz_cmp (a i) d) := fun i hi => ⟨Nat.mod_lt _ (Nat.two_pow_pos d), by rw [k2 i hi, if_pos hi]⟩
    obtain ⟨r, m1, m2⟩ := kz_pack (row := row) hF (by omega) hn hn2
    refine ⟨g, r, ?_, m2⟩
    unfold kFX6_packCompressed
    refine (kb_o_v k1).trans ?_
    exact kb_o_v m1
  · show kSX6_packCompressed_3 (nI d) 256 (nI k) g = _
    have hgk := hg k hk
    rw [if_neg (by omega)] at hgk
    have hak := (hf k hk).1
    have hp : a k * 2 ^ (d + 1) ≤ 3328 * 2 ^ 12 := Nat.mul_le_mul (by omega) (kz_p2 (by omega))
    unfold kSX6_packCompressed_3
    rw [nI_clamp (show k < 2 ^ 31 by omega)]
    refine (kb_b_ff (kz_nle (n := 256) hk (by decide))).trans ?_
    refine (kb_g_tt (kb_in_n hk (by decide))).trans ?_
    refine (kb_g_tt (kb_in_n hk (by decide))).trans ?_
    refine (kb_n_v (v := upd g k (nI (kz_cmp (a k) d))) ?_).trans ?_
    · rw [hgk, nI_1, pk_shlN _ (d + 1) (kz_sl (d + 1) (by omega)) (by omega), show nI (a k * 2 ^ (d + 1)) + (3329 : Int32) = nI (a k * 2 ^ (d + 1) + 3329) from nI_add _ _, show nI (a k * 2 ^ (d + 1) + 3329) / (6658 : Int32) = nI ((a k * 2 ^ (d + 1) + 3329) / 6658) from pk_div (d := 6658) (by omega) (by decide) (by decide), pk_andN (by omega) d (kz_msk d (by omega))]
      rfl
    exact (kb_n_v (kz_inc _)).trans rfl
  · show upd g k (nI (kz_cmp (a k) d)) i = _
    by_cases e : i = k
    · subst e
      rw [pk_us, if_pos (by omega)]
    · rw [pk_un e, hg i hi]
      by_cases e2 : i < k
      · rw [if_pos e2, if_pos (by omega)]
      · rw [if_neg e2, if_neg (by omega)]
theorem kz_unpackC {B : Nat → Nat} {f g : Nat → Int32} {n d at' : Nat} (hY : kz_Y B f at' (at' + 32 * d)) (hd0 : 0 < d) (hd : d ≤ 11) (hn : at' + 32 * d ≤ n) (hn2 : n < 2 ^ 31) :
    ∃ r, kFX6_unpackCompressed (nI at') (nI d) n 256 f g = some r ∧ kz_R (fun i => kz_ex (kz_tk 8 B (8 * at' + d * i) d) d) r := by
  obtain ⟨r0, m1, m2⟩ := kz_unpack (g := g) hY hd0 (by omega) hn hn2
  have key := kz_for (S := fun i f => kSX6_unpackCompressed_10 (nI d) 256 i f) (g := r0) nI 256 (fun k f => ∀ i, i < 256 → f i = if i < k then nI (kz_ex (kz_tk 8 B (8 * at' + d * i) d) d) else nI (kz_tk 8 B (8 * at' + d * i) d)) (by decide) (fun k z hk hz => ⟨upd z k (nI (kz_ex (kz_tk 8 B (8 * at' + d * k) d) d)), ?_, fun i hi => ?_⟩) (fun g _ => kb_b_tt (kz_le (n := 256) (Nat.le_refl _) (by decide))) (fun i hi => by rw [if_neg (by omega)]; exact m2 i hi)
  · obtain ⟨r, k1, k2⟩ := key
    refine ⟨r, ?_, fun i hi => ⟨kz_ex_lt hd0 hd (kz_tk_lt _ _ _ _), by rw [k2 i hi, if_pos hi]⟩⟩
    unfold kFX6_unpackCompressed
    refine (kb_o_v m1).trans ?_
    exact kb_o_v k1
  · show kSX6_unpackCompressed_10 (nI d) 256 (nI k) z = _
    have hzk := hz k hk
    rw [if_neg (by omega)] at hzk
    have hlt := kz_tk_lt 8 B (8 * at' + d * k) d
    have h1 : 2 ^ d ≤ 2 ^ 11 := kz_p2 hd
    have h2 : 2 ^ (d - 1) ≤ 2 ^ 11 := kz_p2 (by omega)
    unfold kSX6_unpackCompressed_10
    rw [nI_clamp (show k < 2 ^ 31 by omega)]
    refine (kb_b_ff (kz_nle (n := 256) hk (by decide))).trans ?_
    refine (kb_g_tt (kb_in_n hk (by decide))).trans ?_
    refine (kb_g_tt (kb_in_n hk (by decide))).trans ?_
    refine (kb_n_v (v := upd z k (nI (kz_ex (kz_tk 8 B (8 * at' + d * k) d) d))) ?_).trans ?_
    · generalize kz_tk 8 B (8 * at' + d * k) d = y at hzk hlt
      rw [hzk, show (3329 : Int32) * nI y = nI (3329 * y) from pk_mul _ _, show nI d - (1 : Int32) = nI (d - 1) from pk_sub (b := 1) (by omega), show (1 : Int32) <<< (nI (d - 1) &&& 31) = nI (1 * 2 ^ (d - 1)) from pk_shlN (n := 1) _ (d - 1) (kz_sl (d - 1) (by omega)) (by omega), nI_add, pk_shrN (by omega) _ d (kz_sl d (by omega)), Nat.one_mul]
      rfl
    exact (kb_n_v (kz_inc _)).trans rfl
  · show upd z k (nI (kz_ex (kz_tk 8 B (8 * at' + d * k) d) d)) i = _
    by_cases e : i = k
    · subst e
      rw [pk_us, if_pos (by omega)]
    · rw [pk_un e, hz i hi]
      by_cases e2 : i < k
      · rw [if_pos e2, if_pos (by omega)]
      · rw [if_neg e2, if_neg (by omega)]
theorem kz_unpackN {B : Nat → Nat} {f g : Nat → Int32} {n at' : Nat} (hY : kz_Y B f at' (at' + 384)) (hn : at' + 384 ≤ n) (hn2 : n < 2 ^ 31) :
    ∃ r, kFX6_unpackNumbers (nI at') n 256 f g = some r ∧ kz_R (fun i => kz_tk 8 B (8 * at' + 12 * i) 12 % 3329) r := by
  obtain ⟨r0, m1, m2⟩ := kz_unpack (g := g) (d := 12) (at' := at') hY (by decide) (by decide) (by omega) hn2
  have key := kz_for (S := fun i f => kSX6_unpackNumbers_10 256 i f) (g := r0) nI 256 (fun k f => ∀ i, i < 256 → f i = if i < k then nI (kz_tk 8 B (8 * at' + 12 * i) 12 % 3329) else nI (kz_tk 8 B (8 * at' + 12 * i) 12)) (by decide) (fun k z hk hz => ⟨upd z k (nI (kz_tk 8 B (8 * at' + 12 * k) 12 % 3329)), ?_, fun i hi => ?_⟩) (fun g _ => kb_b_tt (kz_le (n := 256) (Nat.le_refl _) (by decide))) (fun i hi => by rw [if_neg (by omega)]; exact m2 i hi)
  · obtain ⟨r, k1, k2⟩ := key
    refine ⟨r, ?_, fun i hi => ⟨Nat.mod_lt _ (by decide), by rw [k2 i hi, if_pos hi]⟩⟩
    unfold kFX6_unpackNumbers
    refine (kb_o_v m1).trans ?_
    exact kb_o_v k1
  · show kSX6_unpackNumbers_10 256 (nI k) z = _
    have hzk := hz k hk
    rw [if_neg (by omega)] at hzk
    have hlt := kz_tk_lt 8 B (8 * at' + 12 * k) 12
    unfold kSX6_unpackNumbers_10
    rw [nI_clamp (show k < 2 ^ 31 by omega)]
    refine (kb_b_ff (kz_nle (n := 256) hk (by decide))).trans ?_
    refine (kb_g_tt (kb_in_n hk (by decide))).trans ?_
    refine (kb_n_v (v := nI (kz_tk 8 B (8 * at' + 12 * k) 12 % 3329)) (by rw [hzk]; exact kz_rem (by omega))).trans ?_
    refine (kb_g_tt (kb_in_n hk (by decide))).trans ?_
    refine (kb_n_v rfl).trans ?_
    exact (kb_n_v (kz_inc _)).trans rfl
  · show upd z k (nI (kz_tk 8 B (8 * at' + 12 * k) 12 % 3329)) i = _
    by_cases e : i = k
    · subst e
      rw [pk_us, if_pos (by omega)]
    · rw [pk_un e, hz i hi]
      by_cases e2 : i < k
      · rw [if_pos e2, if_pos (by omega)]
      · rw [if_neg e2, if_neg (by omega)]
