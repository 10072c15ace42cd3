/-! Layer 2: NTT and its inverse as sums, layer by layer (numbers alone). -/
def kz_rev (i : Nat) : Nat := i % 2 * 64 + i / 2 % 2 * 32 + i / 4 % 2 * 16 + i / 8 % 2 * 8 + i / 16 % 2 * 4 + i / 32 % 2 * 2 + i / 64 % 2
def kz_pw (i : Nat) : Nat := 17 ^ kz_rev i % 3329
def kz_sq (i : Nat) : Nat := 17 ^ (2 * kz_rev i + 1) % 3329
def kz_ci (i : Nat) : Nat := 17 ^ (256 - (2 * kz_rev i + 1)) % 3329
theorem kz_pw_lt (i : Nat) : kz_pw i < 3329 := Nat.mod_lt _ (by decide)
theorem kz_sq_lt (i : Nat) : kz_sq i < 3329 := Nat.mod_lt _ (by decide)
def kz_ev (a : Nat → Nat) (t h c n : Nat) : Nat := kz_sum (fun k => a (t + k * h) * c ^ k) n
theorem kz_ev_split (a : Nat → Nat) (t h c n : Nat) : kz_ev a t h c (2 * n) = kz_ev a t (2 * h) (c * c) n + c * kz_ev a (t + h) (2 * h) (c * c) n := by
  unfold kz_ev
  rw [kz_sum_two, ← kz_sum_mul]
  congr 1
  · refine kz_sum_c (fun k _ => ?_)
    show a (t + 2 * k * h) * c ^ (2 * k) = a (t + k * (2 * h)) * (c * c) ^ k
    rw [Nat.pow_mul, Nat.pow_two, show 2 * k * h = k * (2 * h) by rw [Nat.mul_comm 2 k, Nat.mul_assoc]]
  · refine kz_sum_c (fun k _ => ?_)
    show a (t + (2 * k + 1) * h) * c ^ (2 * k + 1) = c * (a (t + h + k * (2 * h)) * (c * c) ^ k)
    rw [Nat.pow_succ, Nat.pow_mul, Nat.pow_two, show t + (2 * k + 1) * h = t + h + k * (2 * h) by rw [Nat.add_mul, Nat.one_mul, Nat.mul_comm 2 k, Nat.mul_assoc]; omega]
    rw [← Nat.mul_assoc, Nat.mul_comm _ c]
theorem kz_ev_mod {c d : Nat} (a : Nat → Nat) (t h n : Nat) (hc : c % 3329 = d % 3329) : kz_ev a t h c n % 3329 = kz_ev a t h d n % 3329 :=
  kz_sum_mod (fun _ _ => kz_mulmod rfl (kz_powmod hc _))
/-- one layer: the numbers at r b of each block -/
def kz_L (a r : Nat → Nat) (h i : Nat) : Nat := if i % (2 * h) < h then (a i + r (i / (2 * h)) * a (i + h) % 3329) % 3329 else (a (i - h) + 3329 - r (i / (2 * h)) * a i % 3329) % 3329
def kz_d (r : Nat → Nat) (j : Nat) : Nat := if j % 2 = 0 then r (j / 2) else 3329 - r (j / 2)
theorem kz_level {a g c r : Nat → Nat} {h B : Nat} (h0 : 0 < h) (hB : B * (2 * h) = 256) (hr : ∀ b, b < B → r b < 3329 ∧ r b * r b % 3329 = c b % 3329)
    (hg : ∀ i, i < 256 → g i = kz_ev a (i % (2 * h)) (2 * h) (c (i / (2 * h))) B % 3329) {i : Nat} (hi : i < 256) : kz_L g r h i = kz_ev a (i % h) h (kz_d r (i / h)) (2 * B) % 3329 := by
  have e := Nat.div_add_mod i (2 * h)
  have ht : i % (2 * h) < 2 * h := Nat.mod_lt _ (by omega)
  have hb : i / (2 * h) < B := (Nat.div_lt_iff_lt_mul (by omega)).mpr (by rw [hB]; exact hi)
  generalize hbe : i / (2 * h) = b at e hb
  generalize hte : i % (2 * h) = t at e ht
  obtain ⟨hrl, hrr⟩ := hr b hb
  have hBb : (b + 1) * (2 * h) ≤ 256 := by rw [← hB]; exact Nat.mul_le_mul_right _ hb
  rw [Nat.add_mul, Nat.one_mul, Nat.mul_comm b] at hBb
  have at' : ∀ u, u < 2 * h → g (2 * h * b + u) = kz_ev a u (2 * h) (c b) B % 3329 := fun u hu => by
    obtain ⟨k1, k2⟩ := kz_dm (x := 2 * h * b + u) rfl hu
    rw [hg _ (by omega), k1, k2]
  have e2 : 2 * h * b = h * (2 * b) := by rw [Nat.mul_comm 2 h, Nat.mul_assoc]
  unfold kz_L
  rw [hbe, hte]
  by_cases hth : t < h
  · rw [if_pos hth]
    obtain ⟨k1, k2⟩ := kz_dm (x := i) (d := h) (m := 2 * b) (t := t) (by omega) hth
    rw [k1, k2, show i = 2 * h * b + t by omega, show 2 * h * b + t + h = 2 * h * b + (t + h) by omega, at' t ht, at' (t + h) (by omega)]
    have hd : kz_d r (2 * b) = r b := by
      unfold kz_d
      rw [if_pos (by omega), show 2 * b / 2 = b by omega]
    rw [hd, kz_ev_split, kz_addmod (c := r b * kz_ev a (t + h) (2 * h) (r b * r b) B) (kz_ev_mod a t (2 * h) B hrr) rfl]
    refine (kz_addmod (Nat.mod_mod _ _) ?_)
    rw [Nat.mod_mod]
    exact kz_mulmod rfl ((Nat.mod_mod _ _).trans (kz_ev_mod a (t + h) (2 * h) B hrr).symm)
  · rw [if_neg hth]
    obtain ⟨k1, k2⟩ := kz_dm (x := i) (d := h) (m := 2 * b + 1) (t := t - h) (by rw [Nat.mul_add, Nat.mul_one]; omega) (by omega)
    rw [k1, k2, show i - h = 2 * h * b + (t - h) by omega, show i = 2 * h * b + t by omega, at' t ht, at' (t - h) (by omega), kz_submod (by omega)]
    have hd : kz_d r (2 * b + 1) = 3329 - r b := by
      unfold kz_d
      rw [if_neg (by omega), show (2 * b + 1) / 2 = b by omega]
    have hq : (3329 - r b) * (3329 - r b) % 3329 = c b % 3329 := by
      rw [← hrr]
      have h1 : (3329 - r b) * (3329 - r b) + r b * 3329 * 2 = 3329 * 3329 + r b * r b := by
        obtain ⟨s, hs⟩ : ∃ s, 3329 = r b + s := ⟨3329 - r b, by omega⟩
        have h2 : 3329 - r b = s := by omega
        rw [h2, hs]
        simp only [Nat.mul_add, Nat.add_mul, Nat.mul_comm s (r b)]
        omega
      omega
    rw [hd, kz_ev_split, kz_addmod (c := (3329 - r b) * kz_ev a (t - h + h) (2 * h) ((3329 - r b) * (3329 - r b)) B) (kz_ev_mod a (t - h) (2 * h) B hq) rfl, show t - h + h = t by omega]
    refine (kz_addmod (Nat.mod_mod _ _) ?_)
    exact kz_mulmod rfl ((Nat.mod_mod _ _).trans (kz_ev_mod a t (2 * h) B hq).symm)
/-- the numbers at which the blocks of a level are taken -/
def kz_cc : Nat → Nat → Nat
  | 0, _ => 3328
  | L + 1, b => kz_d (fun j => kz_pw (2 ^ L + j)) b
theorem kz_cc_sq : ∀ L, L < 7 → ∀ b, b < 2 ^ L → kz_pw (2 ^ L + b) * kz_pw (2 ^ L + b) % 3329 = kz_cc L b % 3329 := by decide +kernel
theorem kz_cc_7 : ∀ b, b < 128 → kz_cc 7 b = kz_sq b := by decide +kernel
def kz_ntt (a : Nat → Nat) (i : Nat) : Nat := kz_ev a (i % 2) 2 (kz_sq (i / 2)) 128 % 3329
theorem kz_ntt_lt (a : Nat → Nat) (i : Nat) : kz_ntt a i < 3329 := Nat.mod_lt _ (by decide)
-- ===== the inverse
/-- the sum over n leaves from s on, at place t -/
def kz_iv (p : Nat → Nat) (t s n : Nat) : Nat := kz_sum (fun k => p (2 * (s + k) + t % 2) * kz_ci (s + k) ^ (t / 2)) n
def kz_M (a r : Nat → Nat) (h i : Nat) : Nat := if i % (2 * h) < h then (a i + a (i + h)) % 3329 else r (i / (2 * h)) * (a i + 3329 - a (i - h)) % 3329
theorem kz_iv_app (p : Nat → Nat) (t s m n : Nat) : kz_iv p t s (m + n) = kz_iv p t s m + kz_iv p t (s + m) n := by
  unfold kz_iv
  rw [kz_sum_app]
  congr 1
  exact kz_sum_c (fun k _ => by rw [Nat.add_assoc])
theorem kz_iv_pow {p : Nat → Nat} {t s n u w : Nat} (h : ∀ k, k < n → kz_ci (s + k) ^ u % 3329 = w % 3329) : kz_iv p (2 * u + t) s n % 3329 = w * kz_iv p t s n % 3329 := by
  unfold kz_iv
  rw [← kz_sum_mul]
  refine kz_sum_mod (fun k hk => ?_)
  rw [show (2 * u + t) % 2 = t % 2 by omega, show (2 * u + t) / 2 = u + t / 2 by omega, Nat.pow_add, ← Nat.mul_assoc, Nat.mul_comm (p _), Nat.mul_assoc]
  exact kz_mulmod (h k hk) rfl
theorem kz_ilevel {p g r : Nat → Nat} {u B : Nat} (h0 : 0 < u) (hB : B * (2 * (2 * u)) = 256)
    (hr : ∀ b, b < B → r b < 3329 ∧ (∀ k, k < u → kz_ci (2 * u * b + k) ^ u % 3329 = (3329 - r b) % 3329) ∧ ∀ k, k < u → kz_ci (2 * u * b + u + k) ^ u % 3329 = r b % 3329)
    (hg : ∀ i, i < 256 → g i = kz_iv p (i % (2 * u)) (u * (i / (2 * u))) u % 3329) {i : Nat} (hi : i < 256) : kz_M g r (2 * u) i = kz_iv p (i % (2 * (2 * u))) (2 * u * (i / (2 * (2 * u)))) (2 * u) % 3329 := by
  have e := Nat.div_add_mod i (2 * (2 * u))
  have ht : i % (2 * (2 * u)) < 2 * (2 * u) := Nat.mod_lt _ (by omega)
  have hb : i / (2 * (2 * u)) < B := (Nat.div_lt_iff_lt_mul (by omega)).mpr (by rw [hB]; exact hi)
  generalize hbe : i / (2 * (2 * u)) = b at e hb
  generalize hte : i % (2 * (2 * u)) = t at e ht
  obtain ⟨hrl, hrL, hrR⟩ := hr b hb
  have hBb : (b + 1) * (2 * (2 * u)) ≤ 256 := by rw [← hB]; exact Nat.mul_le_mul_right _ hb
  rw [Nat.add_mul, Nat.one_mul, Nat.mul_comm b] at hBb
  have e2 : 2 * (2 * u) * b = 2 * u * (2 * b) := by rw [Nat.mul_comm 2 (2 * u), Nat.mul_assoc]
  have e3 : u * (2 * b) = 2 * u * b := by rw [Nat.mul_comm 2 u, Nat.mul_assoc]
  have atL : ∀ x, x < 2 * u → g (2 * (2 * u) * b + x) = kz_iv p x (2 * u * b) u % 3329 := fun x hx => by
    obtain ⟨k1, k2⟩ := kz_dm (x := 2 * (2 * u) * b + x) (d := 2 * u) (m := 2 * b) (t := x) (by rw [e2]) hx
    rw [hg _ (by omega), k1, k2, e3]
  have atR : ∀ x, x < 2 * u → g (2 * (2 * u) * b + (2 * u + x)) = kz_iv p x (2 * u * b + u) u % 3329 := fun x hx => by
    obtain ⟨k1, k2⟩ := kz_dm (x := 2 * (2 * u) * b + (2 * u + x)) (d := 2 * u) (m := 2 * b + 1) (t := x) (by rw [e2, Nat.mul_add, Nat.mul_one]; omega) hx
    rw [hg _ (by omega), k1, k2, Nat.mul_add, Nat.mul_one, e3]
  unfold kz_M
  rw [hbe, hte]
  by_cases hth : t < 2 * u
  · rw [if_pos hth, show i = 2 * (2 * u) * b + t by omega, show 2 * (2 * u) * b + t + 2 * u = 2 * (2 * u) * b + (2 * u + t) by omega, atL t hth, atR t hth, show 2 * u = u + u by omega, kz_iv_app, ← Nat.add_mod]
  · obtain ⟨x, rfl⟩ : ∃ x, t = 2 * u + x := ⟨t - 2 * u, by omega⟩
    have hx : x < 2 * u := by omega
    rw [if_neg hth, show i - 2 * u = 2 * (2 * u) * b + x by omega, show i = 2 * (2 * u) * b + (2 * u + x) by omega, atL x hx, atR x hx]
    have hl := kz_iv_pow (p := p) (t := x) (s := 2 * u * b) (n := u) (u := u) (w := 3329 - r b) hrL
    have hR := kz_iv_pow (p := p) (t := x) (s := 2 * u * b + u) (n := u) (u := u) (w := r b) hrR
    rw [show kz_iv p (2 * u + x) (2 * u * b) (2 * u) = kz_iv p (2 * u + x) (2 * u * b) u + kz_iv p (2 * u + x) (2 * u * b + u) u by rw [← kz_iv_app, show u + u = 2 * u by omega]]
    rw [kz_addmod hl hR]
    generalize kz_iv p x (2 * u * b) u = X
    generalize kz_iv p x (2 * u * b + u) u = Y
    have h1 : X % 3329 < 3329 := Nat.mod_lt _ (by decide)
    obtain ⟨s, hs⟩ : ∃ s, 3329 = r b + s := ⟨3329 - r b, by omega⟩
    have h2 : 3329 - r b = s := by omega
    rw [h2]
    obtain ⟨z, hz⟩ : ∃ z, 3329 = X % 3329 + z := ⟨3329 - X % 3329, by omega⟩
    have h3 : Y % 3329 + 3329 - X % 3329 = Y % 3329 + z := by omega
    rw [h3, Nat.mul_add]
    have h4 : r b * z + r b * (X % 3329) = 3329 * r b := by rw [← Nat.mul_add, Nat.add_comm z, ← hz, Nat.mul_comm]
    have h5 : s * (X % 3329) + r b * (X % 3329) = 3329 * (X % 3329) := by rw [← Nat.add_mul, Nat.add_comm s, ← hs]
    have h6 : s * X % 3329 = s * (X % 3329) % 3329 := kz_mulmod rfl (Nat.mod_mod _ _).symm
    have h7 : r b * Y % 3329 = r b * (Y % 3329) % 3329 := kz_mulmod rfl (Nat.mod_mod _ _).symm
    rw [kz_addmod h6 h7]
    generalize r b * (X % 3329) = A1 at h4 h5
    generalize r b * z = A2 at h4 ⊢
    generalize s * (X % 3329) = A3 at h5 ⊢
    generalize r b * (Y % 3329) = A4
    omega
/-- for the level of blocks of 2 u leaves: the powers that the inverse takes -/
theorem kz_ci_all : ∀ m, m < 7 → ∀ b, b < 64 / 2 ^ m → (∀ k, k < 2 ^ m → kz_ci (2 * 2 ^ m * b + k) ^ 2 ^ m % 3329 = (3329 - kz_pw (128 / 2 ^ m - 1 - b)) % 3329) ∧ ∀ k, k < 2 ^ m → kz_ci (2 * 2 ^ m * b + 2 ^ m + k) ^ 2 ^ m % 3329 = kz_pw (128 / 2 ^ m - 1 - b) % 3329 := by decide +kernel
def kz_intt (a : Nat → Nat) (i : Nat) : Nat := kz_iv a i 0 128 % 3329 * 3303 % 3329
theorem kz_intt_lt (a : Nat → Nat) (i : Nat) : kz_intt a i < 3329 := Nat.mod_lt _ (by decide)
