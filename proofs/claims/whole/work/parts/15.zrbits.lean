/-! Layer 2: the reference's bits: bitOf, takeBits, putBits. -/
theorem kz_bit1 : ∀ b, b < 256 → ∀ s, s < 8 → (kz_by b >>> (nI s &&& 31)) &&& (1 : Int32) = nI (b / 2 ^ s % 2) := by decide +kernel
theorem kz_bitOf {B : Nat → Nat} {f : Nat → Int32} {n1 at' j lo hi : Nat} (hY : kz_Y B f lo hi) (hj0 : lo ≤ at' + j / 8) (hj : at' + j / 8 < hi) (hhi : hi ≤ n1) (hn1 : n1 < 2 ^ 31) (hj2 : j < 2 ^ 31) : kFX5_bitOf (nI at') (nI j) n1 f = some (nI (B ((8 * at' + j) / 8) / 2 ^ ((8 * at' + j) % 8) % 2)) := by
  unfold kFX5_bitOf
  obtain ⟨y1, y2⟩ := hY _ hj0 hj
  rw [show nI j - nI j / (8 : Int32) * (8 : Int32) = nI (j % 8) from pk_rem (d := 8) hj2 (by decide) (by decide), show nI j / (8 : Int32) = nI (j / 8) from pk_div (d := 8) hj2 (by decide) (by decide), nI_add, nI_clamp (show at' + j / 8 < 2 ^ 31 by omega), y2, kz_bit1 _ y1 _ (Nat.mod_lt _ (by decide)), show (8 * at' + j) / 8 = at' + j / 8 by omega, show (8 * at' + j) % 8 = j % 8 by omega]
  exact kb_g_tt (kb_in_n (by omega) hn1)
theorem kz_takeBits {B : Nat → Nat} {f : Nat → Int32} {n1 at' b d lo hi : Nat} (hY : kz_Y B f lo hi) (hlo : 8 * lo ≤ 8 * at' + b) (hn : 8 * at' + b + d ≤ 8 * hi) (hhi : hi ≤ n1) (hn1 : n1 < 2 ^ 27) (hd : d < 31) : kFX5_takeBits (nI at') (nI d) n1 (nI b) f = some (nI (kz_tk 8 B (8 * at' + b) d), nI (b + d)) := by
  obtain ⟨⟨x, y⟩, k1, k2⟩ : ∃ r, kb_w (fun u : Int32 × Int32 => kSX5_takeBits_6 (nI at') (nI d) n1 (nI b) f u.1 u.2) 100000 ((0 : Int32), (0 : Int32)) = some r ∧ r.1 = nI (kz_tk 8 B (8 * at' + b) d) := by
    refine kb_w_inv (σ := Int32 × Int32) (ρ := Int32 × Int32) (fun k u => u.1 = nI (kz_tk 8 B (8 * at' + b) k) ∧ u.2 = nI k) (fun r => r.1 = nI (kz_tk 8 B (8 * at' + b) d)) d ?_ ?_ d 0 _ 100000 (by omega) (by omega) ⟨rfl, rfl⟩
    · rintro k ⟨x, y⟩ hk ⟨h1, h2⟩
      replace h1 : x = _ := h1
      replace h2 : y = nI k := h2
      subst h1 h2
      refine ⟨(nI (kz_tk 8 B (8 * at' + b) (k + 1)), nI (k + 1)), ?_, rfl, rfl⟩
      show kSX5_takeBits_6 (nI at') (nI d) n1 (nI b) f (nI (kz_tk 8 B (8 * at' + b) k)) (nI k) = _
      unfold kSX5_takeBits_6
      rw [nI_add b k]
      refine (kb_b_ff (kz_nle hk (by omega))).trans ?_
      refine (kb_o_v (kz_bitOf hY (by omega) (by omega) hhi (by omega) (by omega))).trans ?_
      refine (kb_n_v (v := nI (kz_tk 8 B (8 * at' + b) (k + 1))) ?_).trans ?_
      · rw [← Nat.add_assoc, kz_orsh (kz_tk_lt _ _ _ _) (by omega) ?_]
        · rw [kz_tk_s, Nat.mul_comm (2 ^ k)]
        · have h9 : B ((8 * at' + b + k) / 8) / 2 ^ ((8 * at' + b + k) % 8) % 2 * 2 ^ k ≤ 1 * 2 ^ 30 := Nat.mul_le_mul (by omega) (kz_p2 (by omega))
          omega
      exact (kb_n_v (kz_inc _)).trans rfl
    · rintro ⟨x, y⟩ ⟨h1, h2⟩
      replace h2 : y = nI d := h2
      subst h2
      refine ⟨(x, nI d), ?_, h1⟩
      show kSX5_takeBits_6 (nI at') (nI d) n1 (nI b) f x (nI d) = _
      unfold kSX5_takeBits_6
      exact kb_b_tt (kz_le (Nat.le_refl _) (by omega))
  replace k2 : x = _ := k2
  subst k2
  unfold kFX5_takeBits
  refine (kb_o_v k1).trans ?_
  exact (kb_n_v (nI_add _ _)).trans rfl
-- ===== putBits
def kz_bs (bit : Nat → Nat) (i m : Nat) : Nat := kz_sum (fun k => bit (8 * i + k) * 2 ^ k) m
theorem kz_bs_lt {bit : Nat → Nat} (hb : ∀ j, bit j < 2) (i : Nat) : ∀ m, kz_bs bit i m < 2 ^ m
  | 0 => Nat.one_pos
  | m + 1 => by
    have h := kz_bs_lt hb i m
    show kz_bs bit i m + bit (8 * i + m) * 2 ^ m < 2 ^ (m + 1)
    have h2 : bit (8 * i + m) * 2 ^ m ≤ 1 * 2 ^ m := Nat.mul_le_mul_right _ (by have := hb (8 * i + m); omega)
    rw [Nat.pow_succ]
    omega
/-- bits s0 .. p - 1 have been laid into f0: the bytes as they now stand -/
def kz_W (bit : Nat → Nat) (f0 f : Nat → Int32) (s0 p : Nat) : Prop := ∀ i, f i = if s0 ≤ 8 * i ∧ 8 * i < p then kz_by (kz_bs bit i (if p ≤ 8 * i + 8 then p - 8 * i else 8)) else f0 i
theorem kz_or1 : ∀ s, s < 8 → ∀ a, a < 2 ^ s → ∀ b, b < 2 → vp_nar .byte ((kz_by a ||| ((nI b <<< (nI s &&& 31)).toInt8.toInt32)).toInt8.toInt32) = kz_by (a + b * 2 ^ s) := by decide +kernel
theorem kz_W_s {bit : Nat → Nat} {f0 f : Nat → Int32} {s0 p : Nat} (hs : s0 % 8 = 0) (hp : s0 ≤ p) (h : kz_W bit f0 f s0 p) : kz_W bit f0 (upd f (p / 8) (kz_by (kz_bs bit (p / 8) (p % 8 + 1)))) s0 (p + 1) := fun i => by
  by_cases e : i = p / 8
  · subst e
    rw [pk_us, if_pos (show s0 ≤ 8 * (p / 8) ∧ 8 * (p / 8) < p + 1 by omega), if_pos (show p + 1 ≤ 8 * (p / 8) + 8 by omega), show p + 1 - 8 * (p / 8) = p % 8 + 1 by omega]
  · rw [pk_un e, h i]
    by_cases c : s0 ≤ 8 * i ∧ 8 * i < p
    · rw [if_pos c, if_pos (show s0 ≤ 8 * i ∧ 8 * i < p + 1 by omega), if_neg (show ¬ p + 1 ≤ 8 * i + 8 by omega)]
      by_cases c2 : p ≤ 8 * i + 8
      · rw [if_pos c2, show p - 8 * i = 8 by omega]
      · rw [if_neg c2]
    · rw [if_neg c, if_neg (show ¬ (s0 ≤ 8 * i ∧ 8 * i < p + 1) by omega)]
theorem kz_putBits {bit : Nat → Nat} {f0 f : Nat → Int32} {s0 p d V n1 : Nat} (hb : ∀ j, bit j < 2) (hs : s0 % 8 = 0) (hp : s0 ≤ p) (h : kz_W bit f0 f s0 p) (hV : V < 2 ^ 31) (hbit : ∀ k, k < d → V / 2 ^ k % 2 = bit (p + k)) (hd : d < 31) (hn : p + d ≤ 8 * n1) (hn1 : n1 < 2 ^ 27) :
    ∃ g, kFX5_putBits (0 : Int32) (nI V) (nI d) n1 (nI p) f = some (nI (p + d), g) ∧ kz_W bit f0 g s0 (p + d) := by
  have key := kz_for (S := fun k f => kSX5_putBits_3 (0 : Int32) (nI V) (nI d) n1 (nI p) k f) (g := f) nI d (fun k f => kz_W bit f0 f s0 (p + k)) (by omega) (fun k g hk hg => ⟨_, ?_, kz_W_s hs (Nat.le_trans hp (Nat.le_add_right p k)) hg⟩) (fun g _ => kb_b_tt (kz_le (n := d) (Nat.le_refl _) (by omega))) h
  · obtain ⟨g, k1, k2⟩ := key
    refine ⟨g, ?_, k2⟩
    unfold kFX5_putBits
    refine (kb_o_v k1).trans ?_
    exact (kb_n_v (nI_add _ _)).trans rfl
  · show kSX5_putBits_3 (0 : Int32) (nI V) (nI d) n1 (nI p) (nI k) g = _
    have hv : (nI V >>> (nI k &&& 31)) &&& (1 : Int32) = nI (bit (p + k)) := by
      rw [pk_shrN hV _ k (kz_sl k (by omega)), pk_andN (by have := Nat.div_le_self V (2 ^ k); omega) 1 (by decide +kernel), show (2 ^ 1 : Nat) = 2 from rfl, hbit k hk]
    have hlt := kz_bs_lt hb ((p + k) / 8) ((p + k) % 8)
    have hbk := hb (p + k)
    have hsum : kz_bs bit ((p + k) / 8) ((p + k) % 8) + bit (p + k) * 2 ^ ((p + k) % 8) = kz_bs bit ((p + k) / 8) ((p + k) % 8 + 1) := by
      show _ = kz_bs bit ((p + k) / 8) ((p + k) % 8) + bit (8 * ((p + k) / 8) + (p + k) % 8) * 2 ^ ((p + k) % 8)
      rw [Nat.div_add_mod]
    unfold kSX5_putBits_3
    refine (kb_b_ff (kz_nle hk (by omega))).trans ?_
    refine (kb_n_v (v := nI (p + k)) (nI_add _ _)).trans ?_
    rw [show nI (p + k) - nI (p + k) / (8 : Int32) * (8 : Int32) = nI ((p + k) % 8) from pk_rem (d := 8) (by omega) (by decide) (by decide), show (0 : Int32) + nI (p + k) / (8 : Int32) = nI ((p + k) / 8) by rw [show nI (p + k) / (8 : Int32) = nI ((p + k) / 8) from pk_div (d := 8) (by omega) (by decide) (by decide), Int32.zero_add], nI_clamp (show (p + k) / 8 < 2 ^ 31 by omega), hv]
    have hg' := hg ((p + k) / 8)
    by_cases e : (p + k) % 8 = 0
    · refine (kb_b_tt (kz_eqt (b := 0) e)).trans ?_
      refine (kb_g_tt (kb_in_n (by omega) (by omega))).trans ?_
      refine (kb_n_v rfl).trans ?_
      refine (kb_g_tt (kb_in_n (by omega) (by omega))).trans ?_
      refine (kb_g_tt (kb_in_n (by omega) (by omega))).trans ?_
      refine (kb_n_v (v := upd g ((p + k) / 8) (kz_by (kz_bs bit ((p + k) / 8) ((p + k) % 8 + 1)))) ?_).trans ?_
      · rw [pk_us, ← hsum]
        have h0 : kz_bs bit ((p + k) / 8) ((p + k) % 8) = 0 := by rw [e]; rfl
        rw [h0]
        have h1 := kz_or1 ((p + k) % 8) (by omega) 0 (Nat.two_pow_pos _) (bit (p + k)) hbk
        rw [show vp_nar .byte (0 : Int32) = kz_by 0 by decide +kernel, h1]
        funext i
        unfold upd
        by_cases e2 : i = (p + k) / 8
        · rw [if_pos e2, if_pos e2]
        · rw [if_neg e2, if_neg e2, if_neg e2]
      exact (kb_n_v (kz_inc _)).trans rfl
    · refine (kb_b_ff (kz_eqf (b := 0) e (by omega) (by decide))).trans ?_
      refine (kb_g_tt (kb_in_n (by omega) (by omega))).trans ?_
      refine (kb_g_tt (kb_in_n (by omega) (by omega))).trans ?_
      refine (kb_n_v (v := upd g ((p + k) / 8) (kz_by (kz_bs bit ((p + k) / 8) ((p + k) % 8 + 1)))) ?_).trans ?_
      · rw [if_pos ⟨by omega, by omega⟩, if_pos (by omega), show p + k - 8 * ((p + k) / 8) = (p + k) % 8 by omega] at hg'
        rw [hg', kz_or1 ((p + k) % 8) (by omega) _ hlt (bit (p + k)) hbk, hsum]
      exact (kb_n_v (kz_inc _)).trans rfl
