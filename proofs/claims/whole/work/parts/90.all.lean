/-! Layer 2, the base: what the pure words answer; numbers as nI; sums. -/
theorem kb_b_tt {β : Type} {c : Bool} {a b : Option β} (h : c = true) : kb_b c a b = a := by subst h; rfl
theorem kb_b_ff {β : Type} {c : Bool} {a b : Option β} (h : c = false) : kb_b c a b = b := by subst h; rfl
theorem kb_g_tt {β : Type} {c : Bool} {k : Option β} (h : c = true) : kb_g c k = k := by subst h; rfl
theorem kb_n_v {α β : Type} {e v : α} {k : α → Option β} (h : e = v) : kb_n e k = k v := by subst h; rfl
theorem kb_o_v {α β : Type} {x : Option α} {u : α} {k : α → Option β} (h : x = some u) : x.bind k = k u := by subst h; rfl
theorem kz_nle {n i : Nat} (h : i < n) (hn : n < 2 ^ 31) : decide (nI n ≤ nI i) = false := decide_eq_false (nI_ge h hn)
theorem kz_le {n i : Nat} (h : n ≤ i) (hi : i < 2 ^ 31) : decide (nI n ≤ nI i) = true := decide_eq_true (nI_le h hi)
theorem kz_lt {a b : Nat} (h : a < b) (hb : b < 2 ^ 31) : decide (nI a < nI b) = true := decide_eq_true (nI_lt h hb)
theorem kz_nlt {a b : Nat} (h : b ≤ a) (ha : a < 2 ^ 31) : decide (nI a < nI b) = false := decide_eq_false (nI_nlt h ha)
theorem kz_one : Int32.ofInt 1 = nI 1 := by decide +kernel
theorem kz_inc (i : Nat) : nI i + Int32.ofInt 1 = nI (i + 1) := by rw [kz_one, nI_add]
theorem kz_ofi (n : Nat) : Int32.ofInt (n : Int) = nI n := by
  unfold nI
  exact Int32.ofInt_eq_ofNat
-- ===== sums
def kz_sum (F : Nat → Nat) : Nat → Nat
  | 0 => 0
  | n + 1 => kz_sum F n + F n
theorem kz_sum_c {F G : Nat → Nat} : ∀ {n : Nat}, (∀ k, k < n → F k = G k) → kz_sum F n = kz_sum G n
  | 0, _ => rfl
  | n + 1, h => by
    show kz_sum F n + F n = kz_sum G n + G n
    rw [kz_sum_c (fun k hk => h k (Nat.lt_succ_of_lt hk)), h n (Nat.lt_succ_self n)]
theorem kz_sum_add (F G : Nat → Nat) : ∀ n, kz_sum (fun k => F k + G k) n = kz_sum F n + kz_sum G n
  | 0 => rfl
  | n + 1 => by
    show kz_sum (fun k => F k + G k) n + (F n + G n) = (kz_sum F n + F n) + (kz_sum G n + G n)
    rw [kz_sum_add F G n]; omega
theorem kz_sum_mul (c : Nat) (F : Nat → Nat) : ∀ n, kz_sum (fun k => c * F k) n = c * kz_sum F n
  | 0 => rfl
  | n + 1 => by
    show kz_sum (fun k => c * F k) n + c * F n = c * (kz_sum F n + F n)
    rw [kz_sum_mul c F n, Nat.mul_add]
theorem kz_sum_two (F : Nat → Nat) : ∀ n, kz_sum F (2 * n) = kz_sum (fun k => F (2 * k)) n + kz_sum (fun k => F (2 * k + 1)) n
  | 0 => rfl
  | n + 1 => by
    show kz_sum F (2 * n) + F (2 * n) + F (2 * n + 1) = (kz_sum (fun k => F (2 * k)) n + F (2 * n)) + (kz_sum (fun k => F (2 * k + 1)) n + F (2 * n + 1))
    rw [kz_sum_two F n]; omega
theorem kz_sum_app (F : Nat → Nat) (m : Nat) : ∀ n, kz_sum F (m + n) = kz_sum F m + kz_sum (fun k => F (m + k)) n
  | 0 => rfl
  | n + 1 => by
    show kz_sum F (m + n) + F (m + n) = kz_sum F m + (kz_sum (fun k => F (m + k)) n + F (m + n))
    rw [kz_sum_app F m n]; omega
theorem kz_sum_mod {F G : Nat → Nat} {q : Nat} : ∀ {n : Nat}, (∀ k, k < n → F k % q = G k % q) → kz_sum F n % q = kz_sum G n % q
  | 0, _ => rfl
  | n + 1, h => by
    show (kz_sum F n + F n) % q = (kz_sum G n + G n) % q
    rw [Nat.add_mod, kz_sum_mod (fun k hk => h k (Nat.lt_succ_of_lt hk)), h n (Nat.lt_succ_self n), ← Nat.add_mod]
theorem kz_sum_le {F : Nat → Nat} {M : Nat} : ∀ {n : Nat}, (∀ k, k < n → F k ≤ M) → kz_sum F n ≤ n * M
  | 0, _ => Nat.zero_le _
  | n + 1, h => by
    show kz_sum F n + F n ≤ (n + 1) * M
    have h1 := kz_sum_le (F := F) (M := M) (n := n) (fun k hk => h k (Nat.lt_succ_of_lt hk))
    have h2 := h n (Nat.lt_succ_self n)
    rw [Nat.add_mul, Nat.one_mul]; omega
theorem kz_mulmod {a b c d q : Nat} (h1 : a % q = b % q) (h2 : c % q = d % q) : a * c % q = b * d % q := by
  rw [Nat.mul_mod, h1, h2, ← Nat.mul_mod]
theorem kz_addmod {a b c d q : Nat} (h1 : a % q = b % q) (h2 : c % q = d % q) : (a + c) % q = (b + d) % q := by
  rw [Nat.add_mod, h1, h2, ← Nat.add_mod]
theorem kz_powmod {a b q : Nat} (h : a % q = b % q) (k : Nat) : a ^ k % q = b ^ k % q := by
  rw [Nat.pow_mod, h, ← Nat.pow_mod]
theorem kz_dm {x d m t : Nat} (h : x = d * m + t) (ht : t < d) : x / d = m ∧ x % d = t := by
  subst h
  exact ⟨by rw [Nat.mul_add_div (by omega), Nat.div_eq_of_lt ht, Nat.add_zero], by rw [Nat.mul_add_mod, Nat.mod_eq_of_lt ht]⟩
/-- a number minus another, modulo 3329: the other taken (3329 - r) times is the same -/
theorem kz_submod {x y r : Nat} (hr : r ≤ 3329) : (x + 3329 - r * y % 3329) % 3329 = (x + (3329 - r) * y) % 3329 := by
  have h : (3329 - r) * y + r * y = 3329 * y := by rw [← Nat.add_mul, Nat.sub_add_cancel hr]
  generalize (3329 - r) * y = z at h ⊢
  generalize r * y = m at h ⊢
  omega
-- ===== a polynomial's numbers
def kz_R (a : Nat → Nat) (f : Nat → Int32) : Prop := ∀ i, i < 256 → a i < 3329 ∧ f i = nI (a i)
theorem kz_R_c {a b : Nat → Nat} {f : Nat → Int32} (h : kz_R a f) (hab : ∀ i, i < 256 → a i = b i) : kz_R b f := fun i hi => by
  rw [← hab i hi]; exact h i hi
theorem kz_R_u {a : Nat → Nat} {f : Nat → Int32} {k v : Nat} (h : kz_R a f) (hv : v < 3329) : kz_R (fun j => if j = k then v else a j) (upd f k (nI v)) := fun i hi => by
  by_cases e : i = k
  · subst e
    exact ⟨by show (if i = i then v else a i) < 3329; rw [if_pos rfl]; exact hv, by show upd f i (nI v) i = nI (if i = i then v else a i); rw [if_pos rfl]; exact pk_us⟩
  · exact ⟨by show (if i = k then v else a i) < 3329; rw [if_neg e]; exact (h i hi).1, by show upd f k (nI v) i = nI (if i = k then v else a i); rw [if_neg e, pk_un e]; exact (h i hi).2⟩
theorem kz_rem {a : Nat} (h : a < 2 ^ 31) : nI a - nI a / (3329 : Int32) * (3329 : Int32) = nI (a % 3329) := pk_rem h (by decide) (by decide)
/-! Layer 2: NTT and its inverse as sums, layer by layer (numbers alone). -/
def kz_rev (i : Nat) : Nat := i % 2 * 64 + i / 2 % 2 * 32 + i / 4 % 2 * 16 + i / 8 % 2 * 8 + i / 16 % 2 * 4 + i / 32 % 2 * 2 + i / 64 % 2
def kz_pw (i : Nat) : Nat := 17 ^ kz_rev i % 3329
def kz_sq (i : Nat) : Nat := 17 ^ (2 * kz_rev i + 1) % 3329
def kz_ci (i : Nat) : Nat := 17 ^ (256 - (2 * kz_rev i + 1)) % 3329
theorem kz_pw_lt (i : Nat) : kz_pw i < 3329 := Nat.mod_lt _ (by decide)
theorem kz_sq_lt (i : Nat) : kz_sq i < 3329 := Nat.mod_lt _ (by decide)
def kz_ev (a : Nat → Nat) (t h c n : Nat) : Nat := kz_sum (fun k => a (t + k * h) * c ^ k) n
theorem kz_ev_split (a : Nat → Nat) (t h c n : Nat) : kz_ev a t h c (2 * n) = kz_ev a t (2 * h) (c * c) n + c * kz_ev a (t + h) (2 * h) (c * c) n := by
  unfold kz_ev
  rw [kz_sum_two, ← kz_sum_mul]
  congr 1
  · refine kz_sum_c (fun k _ => ?_)
    show a (t + 2 * k * h) * c ^ (2 * k) = a (t + k * (2 * h)) * (c * c) ^ k
    rw [Nat.pow_mul, Nat.pow_two, show 2 * k * h = k * (2 * h) by rw [Nat.mul_comm 2 k, Nat.mul_assoc]]
  · refine kz_sum_c (fun k _ => ?_)
    show a (t + (2 * k + 1) * h) * c ^ (2 * k + 1) = c * (a (t + h + k * (2 * h)) * (c * c) ^ k)
    rw [Nat.pow_succ, Nat.pow_mul, Nat.pow_two, show t + (2 * k + 1) * h = t + h + k * (2 * h) by rw [Nat.add_mul, Nat.one_mul, Nat.mul_comm 2 k, Nat.mul_assoc]; omega]
    rw [← Nat.mul_assoc, Nat.mul_comm _ c]
theorem kz_ev_mod {c d : Nat} (a : Nat → Nat) (t h n : Nat) (hc : c % 3329 = d % 3329) : kz_ev a t h c n % 3329 = kz_ev a t h d n % 3329 :=
  kz_sum_mod (fun _ _ => kz_mulmod rfl (kz_powmod hc _))
/-- one layer: the numbers at r b of each block -/
def kz_L (a r : Nat → Nat) (h i : Nat) : Nat := if i % (2 * h) < h then (a i + r (i / (2 * h)) * a (i + h) % 3329) % 3329 else (a (i - h) + 3329 - r (i / (2 * h)) * a i % 3329) % 3329
def kz_d (r : Nat → Nat) (j : Nat) : Nat := if j % 2 = 0 then r (j / 2) else 3329 - r (j / 2)
theorem kz_level {a g c r : Nat → Nat} {h B : Nat} (h0 : 0 < h) (hB : B * (2 * h) = 256) (hr : ∀ b, b < B → r b < 3329 ∧ r b * r b % 3329 = c b % 3329)
    (hg : ∀ i, i < 256 → g i = kz_ev a (i % (2 * h)) (2 * h) (c (i / (2 * h))) B % 3329) {i : Nat} (hi : i < 256) : kz_L g r h i = kz_ev a (i % h) h (kz_d r (i / h)) (2 * B) % 3329 := by
  have e := Nat.div_add_mod i (2 * h)
  have ht : i % (2 * h) < 2 * h := Nat.mod_lt _ (by omega)
  have hb : i / (2 * h) < B := (Nat.div_lt_iff_lt_mul (by omega)).mpr (by rw [hB]; exact hi)
  generalize hbe : i / (2 * h) = b at e hb
  generalize hte : i % (2 * h) = t at e ht
  obtain ⟨hrl, hrr⟩ := hr b hb
  have hBb : (b + 1) * (2 * h) ≤ 256 := by rw [← hB]; exact Nat.mul_le_mul_right _ hb
  rw [Nat.add_mul, Nat.one_mul, Nat.mul_comm b] at hBb
  have at' : ∀ u, u < 2 * h → g (2 * h * b + u) = kz_ev a u (2 * h) (c b) B % 3329 := fun u hu => by
    obtain ⟨k1, k2⟩ := kz_dm (x := 2 * h * b + u) rfl hu
    rw [hg _ (by omega), k1, k2]
  have e2 : 2 * h * b = h * (2 * b) := by rw [Nat.mul_comm 2 h, Nat.mul_assoc]
  unfold kz_L
  rw [hbe, hte]
  by_cases hth : t < h
  · rw [if_pos hth]
    obtain ⟨k1, k2⟩ := kz_dm (x := i) (d := h) (m := 2 * b) (t := t) (by omega) hth
    rw [k1, k2, show i = 2 * h * b + t by omega, show 2 * h * b + t + h = 2 * h * b + (t + h) by omega, at' t ht, at' (t + h) (by omega)]
    have hd : kz_d r (2 * b) = r b := by
      unfold kz_d
      rw [if_pos (by omega), show 2 * b / 2 = b by omega]
    rw [hd, kz_ev_split, kz_addmod (c := r b * kz_ev a (t + h) (2 * h) (r b * r b) B) (kz_ev_mod a t (2 * h) B hrr) rfl]
    refine (kz_addmod (Nat.mod_mod _ _) ?_)
    rw [Nat.mod_mod]
    exact kz_mulmod rfl ((Nat.mod_mod _ _).trans (kz_ev_mod a (t + h) (2 * h) B hrr).symm)
  · rw [if_neg hth]
    obtain ⟨k1, k2⟩ := kz_dm (x := i) (d := h) (m := 2 * b + 1) (t := t - h) (by rw [Nat.mul_add, Nat.mul_one]; omega) (by omega)
    rw [k1, k2, show i - h = 2 * h * b + (t - h) by omega, show i = 2 * h * b + t by omega, at' t ht, at' (t - h) (by omega), kz_submod (by omega)]
    have hd : kz_d r (2 * b + 1) = 3329 - r b := by
      unfold kz_d
      rw [if_neg (by omega), show (2 * b + 1) / 2 = b by omega]
    have hq : (3329 - r b) * (3329 - r b) % 3329 = c b % 3329 := by
      rw [← hrr]
      have h1 : (3329 - r b) * (3329 - r b) + r b * 3329 * 2 = 3329 * 3329 + r b * r b := by
        obtain ⟨s, hs⟩ : ∃ s, 3329 = r b + s := ⟨3329 - r b, by omega⟩
        have h2 : 3329 - r b = s := by omega
        rw [h2, hs]
        simp only [Nat.mul_add, Nat.add_mul, Nat.mul_comm s (r b)]
        omega
      omega
    rw [hd, kz_ev_split, kz_addmod (c := (3329 - r b) * kz_ev a (t - h + h) (2 * h) ((3329 - r b) * (3329 - r b)) B) (kz_ev_mod a (t - h) (2 * h) B hq) rfl, show t - h + h = t by omega]
    refine (kz_addmod (Nat.mod_mod _ _) ?_)
    exact kz_mulmod rfl ((Nat.mod_mod _ _).trans (kz_ev_mod a t (2 * h) B hq).symm)
/-- the numbers at which the blocks of a level are taken -/
def kz_cc : Nat → Nat → Nat
  | 0, _ => 3328
  | L + 1, b => kz_d (fun j => kz_pw (2 ^ L + j)) b
theorem kz_cc_sq : ∀ L, L < 7 → ∀ b, b < 2 ^ L → kz_pw (2 ^ L + b) * kz_pw (2 ^ L + b) % 3329 = kz_cc L b % 3329 := by decide +kernel
theorem kz_cc_7 : ∀ b, b < 128 → kz_cc 7 b = kz_sq b := by decide +kernel
def kz_ntt (a : Nat → Nat) (i : Nat) : Nat := kz_ev a (i % 2) 2 (kz_sq (i / 2)) 128 % 3329
theorem kz_ntt_lt (a : Nat → Nat) (i : Nat) : kz_ntt a i < 3329 := Nat.mod_lt _ (by decide)
-- ===== the inverse
/-- the sum over n leaves from s on, at place t -/
def kz_iv (p : Nat → Nat) (t s n : Nat) : Nat := kz_sum (fun k => p (2 * (s + k) + t % 2) * kz_ci (s + k) ^ (t / 2)) n
def kz_M (a r : Nat → Nat) (h i : Nat) : Nat := if i % (2 * h) < h then (a i + a (i + h)) % 3329 else r (i / (2 * h)) * (a i + 3329 - a (i - h)) % 3329
theorem kz_iv_app (p : Nat → Nat) (t s m n : Nat) : kz_iv p t s (m + n) = kz_iv p t s m + kz_iv p t (s + m) n := by
  unfold kz_iv
  rw [kz_sum_app]
  congr 1
  exact kz_sum_c (fun k _ => by rw [Nat.add_assoc])
theorem kz_iv_pow {p : Nat → Nat} {t s n u w : Nat} (h : ∀ k, k < n → kz_ci (s + k) ^ u % 3329 = w % 3329) : kz_iv p (2 * u + t) s n % 3329 = w * kz_iv p t s n % 3329 := by
  unfold kz_iv
  rw [← kz_sum_mul]
  refine kz_sum_mod (fun k hk => ?_)
  rw [show (2 * u + t) % 2 = t % 2 by omega, show (2 * u + t) / 2 = u + t / 2 by omega, Nat.pow_add, ← Nat.mul_assoc, Nat.mul_comm (p _), Nat.mul_assoc]
  exact kz_mulmod (h k hk) rfl
theorem kz_ilevel {p g r : Nat → Nat} {u B : Nat} (h0 : 0 < u) (hB : B * (2 * (2 * u)) = 256)
    (hr : ∀ b, b < B → r b < 3329 ∧ (∀ k, k < u → kz_ci (2 * u * b + k) ^ u % 3329 = (3329 - r b) % 3329) ∧ ∀ k, k < u → kz_ci (2 * u * b + u + k) ^ u % 3329 = r b % 3329)
    (hg : ∀ i, i < 256 → g i = kz_iv p (i % (2 * u)) (u * (i / (2 * u))) u % 3329) {i : Nat} (hi : i < 256) : kz_M g r (2 * u) i = kz_iv p (i % (2 * (2 * u))) (2 * u * (i / (2 * (2 * u)))) (2 * u) % 3329 := by
  have e := Nat.div_add_mod i (2 * (2 * u))
  have ht : i % (2 * (2 * u)) < 2 * (2 * u) := Nat.mod_lt _ (by omega)
  have hb : i / (2 * (2 * u)) < B := (Nat.div_lt_iff_lt_mul (by omega)).mpr (by rw [hB]; exact hi)
  generalize hbe : i / (2 * (2 * u)) = b at e hb
  generalize hte : i % (2 * (2 * u)) = t at e ht
  obtain ⟨hrl, hrL, hrR⟩ := hr b hb
  have hBb : (b + 1) * (2 * (2 * u)) ≤ 256 := by rw [← hB]; exact Nat.mul_le_mul_right _ hb
  rw [Nat.add_mul, Nat.one_mul, Nat.mul_comm b] at hBb
  have e2 : 2 * (2 * u) * b = 2 * u * (2 * b) := by rw [Nat.mul_comm 2 (2 * u), Nat.mul_assoc]
  have e3 : u * (2 * b) = 2 * u * b := by rw [Nat.mul_comm 2 u, Nat.mul_assoc]
  have atL : ∀ x, x < 2 * u → g (2 * (2 * u) * b + x) = kz_iv p x (2 * u * b) u % 3329 := fun x hx => by
    obtain ⟨k1, k2⟩ := kz_dm (x := 2 * (2 * u) * b + x) (d := 2 * u) (m := 2 * b) (t := x) (by rw [e2]) hx
    rw [hg _ (by omega), k1, k2, e3]
  have atR : ∀ x, x < 2 * u → g (2 * (2 * u) * b + (2 * u + x)) = kz_iv p x (2 * u * b + u) u % 3329 := fun x hx => by
    obtain ⟨k1, k2⟩ := kz_dm (x := 2 * (2 * u) * b + (2 * u + x)) (d := 2 * u) (m := 2 * b + 1) (t := x) (by rw [e2, Nat.mul_add, Nat.mul_one]; omega) hx
    rw [hg _ (by omega), k1, k2, Nat.mul_add, Nat.mul_one, e3]
  unfold kz_M
  rw [hbe, hte]
  by_cases hth : t < 2 * u
  · rw [if_pos hth, show i = 2 * (2 * u) * b + t by omega, show 2 * (2 * u) * b + t + 2 * u = 2 * (2 * u) * b + (2 * u + t) by omega, atL t hth, atR t hth, show 2 * u = u + u by omega, kz_iv_app, ← Nat.add_mod]
  · obtain ⟨x, rfl⟩ : ∃ x, t = 2 * u + x := ⟨t - 2 * u, by omega⟩
    have hx : x < 2 * u := by omega
    rw [if_neg hth, show i - 2 * u = 2 * (2 * u) * b + x by omega, show i = 2 * (2 * u) * b + (2 * u + x) by omega, atL x hx, atR x hx]
    have hl := kz_iv_pow (p := p) (t := x) (s := 2 * u * b) (n := u) (u := u) (w := 3329 - r b) hrL
    have hR := kz_iv_pow (p := p) (t := x) (s := 2 * u * b + u) (n := u) (u := u) (w := r b) hrR
    rw [show kz_iv p (2 * u + x) (2 * u * b) (2 * u) = kz_iv p (2 * u + x) (2 * u * b) u + kz_iv p (2 * u + x) (2 * u * b + u) u by rw [← kz_iv_app, show u + u = 2 * u by omega]]
    rw [kz_addmod hl hR]
    generalize kz_iv p x (2 * u * b) u = X
    generalize kz_iv p x (2 * u * b + u) u = Y
    have h1 : X % 3329 < 3329 := Nat.mod_lt _ (by decide)
    obtain ⟨s, hs⟩ : ∃ s, 3329 = r b + s := ⟨3329 - r b, by omega⟩
    have h2 : 3329 - r b = s := by omega
    rw [h2]
    obtain ⟨z, hz⟩ : ∃ z, 3329 = X % 3329 + z := ⟨3329 - X % 3329, by omega⟩
    have h3 : Y % 3329 + 3329 - X % 3329 = Y % 3329 + z := by omega
    rw [h3, Nat.mul_add]
    have h4 : r b * z + r b * (X % 3329) = 3329 * r b := by rw [← Nat.mul_add, Nat.add_comm z, ← hz, Nat.mul_comm]
    have h5 : s * (X % 3329) + r b * (X % 3329) = 3329 * (X % 3329) := by rw [← Nat.add_mul, Nat.add_comm s, ← hs]
    have h6 : s * X % 3329 = s * (X % 3329) % 3329 := kz_mulmod rfl (Nat.mod_mod _ _).symm
    have h7 : r b * Y % 3329 = r b * (Y % 3329) % 3329 := kz_mulmod rfl (Nat.mod_mod _ _).symm
    rw [kz_addmod h6 h7]
    generalize r b * (X % 3329) = A1 at h4 h5
    generalize r b * z = A2 at h4 ⊢
    generalize s * (X % 3329) = A3 at h5 ⊢
    generalize r b * (Y % 3329) = A4
    omega
/-- for the level of blocks of 2 u leaves: the powers that the inverse takes -/
theorem kz_ci_all : ∀ m, m < 7 → ∀ b, b < 64 / 2 ^ m → (∀ k, k < 2 ^ m → kz_ci (2 * 2 ^ m * b + k) ^ 2 ^ m % 3329 = (3329 - kz_pw (128 / 2 ^ m - 1 - b)) % 3329) ∧ ∀ k, k < 2 ^ m → kz_ci (2 * 2 ^ m * b + 2 ^ m + k) ^ 2 ^ m % 3329 = kz_pw (128 / 2 ^ m - 1 - b) % 3329 := by decide +kernel
def kz_intt (a : Nat → Nat) (i : Nat) : Nat := kz_iv a i 0 128 % 3329 * 3303 % 3329
theorem kz_intt_lt (a : Nat → Nat) (i : Nat) : kz_intt a i < 3329 := Nat.mod_lt _ (by decide)
/-! Layer 2: what the class's Ring answers. -/
theorem kz_m2 {x y : Nat} (hx : x < 3329) (hy : y < 3329) : x * y ≤ 11075584 := Nat.mul_le_mul (show x ≤ 3328 by omega) (show y ≤ 3328 by omega)
def kz_bf (a : Nat → Nat) (p s h k i : Nat) : Nat := if s ≤ i ∧ i < s + k then (a i + p * a (i + h) % 3329) % 3329 else if s + h ≤ i ∧ i < s + h + k then (a (i - h) + 3329 - p * a i % 3329) % 3329 else a i
theorem kz_t37 {a : Nat → Nat} {f : Nat → Int32} {p s h : Nat} (hp : p < 3329) (hsh : s + 2 * h ≤ 256) (hf : kz_R a f) :
    ∃ r, kb_w (fun u : Int32 × (Nat → Int32) => kSX2_transform_37 (nI h) (nI s) (nI p) 256 u.1 u.2) 100000 (nI s, f) = some r ∧ r.1 = nI (s + h) ∧ kz_R (kz_bf a p s h h) r.2 := by
  refine kb_w_inv (σ := Int32 × (Nat → Int32)) (ρ := Int32 × (Nat → Int32)) (fun k u => u.1 = nI (s + k) ∧ kz_R (kz_bf a p s h k) u.2) (fun r => r.1 = nI (s + h) ∧ kz_R (kz_bf a p s h h) r.2) h ?_ ?_ h 0 _ 100000 (by omega) (by omega) ⟨rfl, ?_⟩
  · rintro k ⟨x, g⟩ hk ⟨hu1, hu2⟩
    replace hu1 : x = nI (s + k) := hu1
    replace hu2 : kz_R (kz_bf a p s h k) g := hu2
    subst hu1
    have hj := hu2 (s + k) (by omega)
    have hjh := hu2 (s + k + h) (by omega)
    rw [show kz_bf a p s h k (s + k) = a (s + k) by unfold kz_bf; rw [if_neg (by omega), if_neg (by omega)]] at hj
    rw [show kz_bf a p s h k (s + k + h) = a (s + k + h) by unfold kz_bf; rw [if_neg (by omega), if_neg (by omega)]] at hjh
    have hm := kz_m2 hp hjh.1
    have hq : p * a (s + k + h) % 3329 < 3329 := Nat.mod_lt _ (by decide)
    have hv1 : (a (s + k) + 3329 - p * a (s + k + h) % 3329) % 3329 < 3329 := Nat.mod_lt _ (by decide)
    have hv2 : (a (s + k) + p * a (s + k + h) % 3329) % 3329 < 3329 := Nat.mod_lt _ (by decide)
    refine ⟨(nI (s + k + 1), upd (upd g (s + k + h) (nI ((a (s + k) + 3329 - p * a (s + k + h) % 3329) % 3329))) (s + k) (nI ((a (s + k) + p * a (s + k + h) % 3329) % 3329))), ?_, rfl, ?_⟩
    · show kSX2_transform_37 (nI h) (nI s) (nI p) 256 (nI (s + k)) g = _
      unfold kSX2_transform_37
      rw [nI_add s h, nI_add (s + k) h, nI_clamp (show s + k + h < 2 ^ 31 by omega), nI_clamp (show s + k < 2 ^ 31 by omega)]
      refine (kb_b_ff (kz_nle (by omega) (by omega))).trans ?_
      refine (kb_g_tt (kb_in_n (by omega) (by decide))).trans ?_
      refine (kb_n_v (v := nI (p * a (s + k + h) % 3329)) ?_).trans ?_
      · rw [hjh.2, pk_mul]
        exact kz_rem (by omega)
      refine (kb_g_tt (kb_in_n (by omega) (by decide))).trans ?_
      refine (kb_n_v (v := nI ((a (s + k) + 3329 - p * a (s + k + h) % 3329) % 3329)) ?_).trans ?_
      · rw [hj.2, show nI (a (s + k)) + (3329 : Int32) = nI (a (s + k) + 3329) from nI_add _ _, pk_sub (by omega)]
        exact kz_rem (by omega)
      refine (kb_g_tt (kb_in_n (by omega) (by decide))).trans ?_
      refine (kb_n_v rfl).trans ?_
      refine (kb_g_tt (kb_in_n (by omega) (by decide))).trans ?_
      refine (kb_n_v (v := nI ((a (s + k) + p * a (s + k + h) % 3329) % 3329)) ?_).trans ?_
      · rw [pk_un (by omega), hj.2, nI_add]
        exact kz_rem (by omega)
      refine (kb_g_tt (kb_in_n (by omega) (by decide))).trans ?_
      refine (kb_n_v rfl).trans ?_
      exact (kb_n_v (kz_inc _)).trans rfl
    · refine kz_R_c (kz_R_u (k := s + k) (kz_R_u (k := s + k + h) hu2 hv1) hv2) (fun i hi => ?_)
      show (if i = s + k then _ else if i = s + k + h then _ else kz_bf a p s h k i) = kz_bf a p s h (k + 1) i
      by_cases e1 : i = s + k
      · subst e1
        rw [if_pos rfl]
        unfold kz_bf
        rw [if_pos ⟨by omega, by omega⟩]
      · rw [if_neg e1]
        by_cases e2 : i = s + k + h
        · subst e2
          rw [if_pos rfl]
          unfold kz_bf
          rw [if_neg (by omega), if_pos ⟨by omega, by omega⟩, Nat.add_sub_cancel]
        · rw [if_neg e2]
          have c1 : (s ≤ i ∧ i < s + k) = (s ≤ i ∧ i < s + (k + 1)) := propext ⟨fun z => ⟨z.1, by omega⟩, fun z => ⟨z.1, by omega⟩⟩
          have c2 : (s + h ≤ i ∧ i < s + h + k) = (s + h ≤ i ∧ i < s + h + (k + 1)) := propext ⟨fun z => ⟨z.1, by omega⟩, fun z => ⟨z.1, by omega⟩⟩
          unfold kz_bf
          simp only [c1, c2]
  · rintro ⟨x, g⟩ ⟨hu1, hu2⟩
    replace hu1 : x = nI (s + h) := hu1
    subst hu1
    refine ⟨(nI (s + h), g), ?_, rfl, hu2⟩
    show kSX2_transform_37 (nI h) (nI s) (nI p) 256 (nI (s + h)) g = _
    unfold kSX2_transform_37
    rw [nI_add s h]
    exact kb_b_tt (kz_le (Nat.le_refl _) (by omega))
  · exact kz_R_c hf (fun i _ => by show a i = kz_bf a p s h 0 i; unfold kz_bf; rw [if_neg (by omega), if_neg (by omega)])
theorem kz_bfL {a A r : Nat → Nat} {h b i : Nat} (h0 : 0 < h) (hA : ∀ j, A j = if j / (2 * h) < b then kz_L a r h j else a j) : kz_bf A (r b) (b * (2 * h)) h h i = if i / (2 * h) < b + 1 then kz_L a r h i else a i := by
  have e := Nat.div_add_mod i (2 * h)
  have ht : i % (2 * h) < 2 * h := Nat.mod_lt _ (by omega)
  rcases Nat.lt_trichotomy (i / (2 * h)) b with hlt | heq | hgt
  · have hi2 : i < b * (2 * h) := (Nat.div_lt_iff_lt_mul (by omega)).mp hlt
    have hc : i / (2 * h) < b + 1 := by omega
    unfold kz_bf
    rw [if_neg (show ¬ (b * (2 * h) ≤ i ∧ i < b * (2 * h) + h) by omega), if_neg (show ¬ (b * (2 * h) + h ≤ i ∧ i < b * (2 * h) + h + h) by omega), hA i, if_pos hlt, if_pos hc]
  · rw [heq, Nat.mul_comm] at e
    have hc : i / (2 * h) < b + 1 := by omega
    have dm : ∀ z, z < 2 * h → (b * (2 * h) + z) / (2 * h) = b ∧ (b * (2 * h) + z) % (2 * h) = z := fun z hz => kz_dm (d := 2 * h) (m := b) (t := z) (by rw [Nat.mul_comm]) hz
    have no : ∀ z, z < 2 * h → A (b * (2 * h) + z) = a (b * (2 * h) + z) := fun z hz => by rw [hA, (dm z hz).1, if_neg (Nat.lt_irrefl b)]
    rw [if_pos hc]
    generalize i % (2 * h) = t at e ht
    subst e
    by_cases hth : t < h
    · have e1 : kz_bf A (r b) (b * (2 * h)) h h (b * (2 * h) + t) = (A (b * (2 * h) + t) + r b * A (b * (2 * h) + t + h) % 3329) % 3329 := by
        unfold kz_bf
        rw [if_pos ⟨by omega, by omega⟩]
      have e2 : kz_L a r h (b * (2 * h) + t) = (a (b * (2 * h) + t) + r b * a (b * (2 * h) + t + h) % 3329) % 3329 := by
        unfold kz_L
        rw [(dm t ht).1, (dm t ht).2, if_pos hth]
      rw [e1, e2, show b * (2 * h) + t + h = b * (2 * h) + (t + h) by omega, no t ht, no (t + h) (by omega)]
    · have e1 : kz_bf A (r b) (b * (2 * h)) h h (b * (2 * h) + t) = (A (b * (2 * h) + t - h) + 3329 - r b * A (b * (2 * h) + t) % 3329) % 3329 := by
        unfold kz_bf
        rw [if_neg (show ¬ (b * (2 * h) ≤ b * (2 * h) + t ∧ b * (2 * h) + t < b * (2 * h) + h) by omega), if_pos ⟨by omega, by omega⟩]
      have e2 : kz_L a r h (b * (2 * h) + t) = (a (b * (2 * h) + t - h) + 3329 - r b * a (b * (2 * h) + t) % 3329) % 3329 := by
        unfold kz_L
        rw [(dm t ht).1, (dm t ht).2, if_neg hth]
      rw [e1, e2, show b * (2 * h) + t - h = b * (2 * h) + (t - h) by omega, no t ht, no (t - h) (by omega)]
  · have hi2 : (b + 1) * (2 * h) ≤ i := (Nat.le_div_iff_mul_le (by omega)).mp hgt
    rw [Nat.add_mul, Nat.one_mul] at hi2
    unfold kz_bf
    rw [if_neg (show ¬ (b * (2 * h) ≤ i ∧ i < b * (2 * h) + h) by omega), if_neg (show ¬ (b * (2 * h) + h ≤ i ∧ i < b * (2 * h) + h + h) by omega), hA i, if_neg (show ¬ i / (2 * h) < b by omega), if_neg (show ¬ i / (2 * h) < b + 1 by omega)]
theorem kz_t14 {a w : Nat → Nat} {f P : Nat → Int32} {h B N : Nat} (h0 : 0 < h) (hB : B * (2 * h) = 256) (hN : N + B ≤ 128) (hP : ∀ i, i < 128 → w i < 3329 ∧ P i = nI (w i)) (hf : kz_R a f) :
    ∃ r, kb_w (fun u : Int32 × Int32 × (Nat → Int32) => kSX2_transform_14 (nI h) 256 P u.1 u.2.1 u.2.2) 100000 (nI N, (0 : Int32), f) = some r ∧ r.1 = nI (N + B) ∧ kz_R (kz_L a (fun b => w (N + b)) h) r.2.2 := by
  refine kb_w_inv (σ := Int32 × Int32 × (Nat → Int32)) (ρ := Int32 × Int32 × (Nat → Int32)) (fun b u => u.1 = nI (N + b) ∧ u.2.1 = nI (b * (2 * h)) ∧ kz_R (fun i => if i / (2 * h) < b then kz_L a (fun b => w (N + b)) h i else a i) u.2.2) (fun r => r.1 = nI (N + B) ∧ kz_R (kz_L a (fun b => w (N + b)) h) r.2.2) B ?_ ?_ B 0 _ 100000 (by omega) (by omega) ⟨rfl, ?_, ?_⟩
  · rintro b ⟨x, y, g⟩ hb ⟨hu1, hu2, hu3⟩
    replace hu1 : x = nI (N + b) := hu1
    replace hu2 : y = nI (b * (2 * h)) := hu2
    replace hu3 : kz_R (fun i => if i / (2 * h) < b then kz_L a (fun b => w (N + b)) h i else a i) g := hu3
    subst hu1 hu2
    have hBb : (b + 1) * (2 * h) ≤ 256 := by rw [← hB]; exact Nat.mul_le_mul_right _ hb
    have hb1 : (b + 1) * (2 * h) = b * (2 * h) + 2 * h := by rw [Nat.add_mul, Nat.one_mul]
    obtain ⟨hw, hPw⟩ := hP (N + b) (by omega)
    obtain ⟨⟨x', f'⟩, k1, k2, k3⟩ := kz_t37 (p := w (N + b)) (s := b * (2 * h)) (h := h) hw (by omega) hu3
    refine ⟨(nI (N + b + 1), nI ((b + 1) * (2 * h)), f'), ?_, rfl, rfl, ?_⟩
    · show kSX2_transform_14 (nI h) 256 P (nI (N + b)) (nI (b * (2 * h))) g = _
      unfold kSX2_transform_14
      refine (kb_b_ff (kz_nle (n := 256) (by omega) (by decide))).trans ?_
      refine (kb_g_tt (kb_in_n (by omega) (by decide))).trans ?_
      refine (kb_n_v (v := nI (w (N + b))) (by rw [nI_clamp (by omega)]; exact hPw)).trans ?_
      refine (kb_n_v (kz_inc _)).trans ?_
      refine (kb_o_v k1).trans ?_
      refine (kb_n_v (v := nI ((b + 1) * (2 * h))) ?_).trans rfl
      show nI (b * (2 * h)) + nI 2 * nI h = _
      rw [pk_mul, nI_add, hb1]
    · exact kz_R_c k3 (fun i hi => kz_bfL (r := fun b => w (N + b)) h0 (fun _ => rfl))
  · rintro ⟨x, y, g⟩ ⟨hu1, hu2, hu3⟩
    replace hu1 : x = nI (N + B) := hu1
    replace hu2 : y = nI (B * (2 * h)) := hu2
    subst hu1 hu2
    refine ⟨(nI (N + B), nI (B * (2 * h)), g), ?_, rfl, ?_⟩
    · show kSX2_transform_14 (nI h) 256 P (nI (N + B)) (nI (B * (2 * h))) g = _
      unfold kSX2_transform_14
      exact kb_b_tt (kz_le (n := 256) (by omega) (by omega))
    · refine kz_R_c hu3 (fun i hi => ?_)
      show (if i / (2 * h) < B then _ else _) = _
      rw [if_pos ((Nat.div_lt_iff_lt_mul (by omega)).mpr (by omega))]
  · show (0 : Int32) = nI (0 * (2 * h))
    rw [Nat.zero_mul]; rfl
  · exact kz_R_c hf (fun i _ => by show a i = if i / (2 * h) < 0 then _ else a i; rw [if_neg (Nat.not_lt_zero _)])
theorem kz_Lf : ∀ L, L < 7 → 0 < 128 / 2 ^ L ∧ 2 ^ L * (2 * (128 / 2 ^ L)) = 256 ∧ 2 ^ L + 2 ^ L ≤ 128 ∧ 256 / 2 ^ L = 2 * (128 / 2 ^ L) ∧ 128 / 2 ^ L / 2 = 128 / 2 ^ (L + 1) ∧ 256 / 2 ^ (L + 1) = 128 / 2 ^ L ∧ 2 ≤ 128 / 2 ^ L ∧ 128 / 2 ^ L ≤ 128 := by decide
theorem kz_transform {a : Nat → Nat} {f P : Nat → Int32} (hf : kz_R a f) (hP : ∀ i, i < 128 → kz_pw i < 3329 ∧ P i = nI (kz_pw i)) : ∃ g, kFX2_transform 256 P f = some g ∧ kz_R (kz_ntt a) g := by
  obtain ⟨⟨x, y, g⟩, k1, k2⟩ : ∃ r, kb_w (fun u : Int32 × Int32 × (Nat → Int32) => kSX2_transform_6 256 P u.1 u.2.1 u.2.2) 100000 ((1 : Int32), (128 : Int32), f) = some r ∧ kz_R (kz_ntt a) r.2.2 := by
    refine kb_w_inv (σ := Int32 × Int32 × (Nat → Int32)) (ρ := Int32 × Int32 × (Nat → Int32)) (fun L u => u.1 = nI (2 ^ L) ∧ u.2.1 = nI (128 / 2 ^ L) ∧ ∃ g, kz_R g u.2.2 ∧ ∀ i, i < 256 → g i = kz_ev a (i % (256 / 2 ^ L)) (256 / 2 ^ L) (kz_cc L (i / (256 / 2 ^ L))) (2 ^ L) % 3329) (fun r => kz_R (kz_ntt a) r.2.2) 7 ?_ ?_ 7 0 _ 100000 (by omega) (by omega) ⟨rfl, rfl, a, hf, ?_⟩
    · rintro L ⟨x, y, f1⟩ hL ⟨hu1, hu2, g, hg, hge⟩
      replace hu1 : x = nI (2 ^ L) := hu1
      replace hu2 : y = nI (128 / 2 ^ L) := hu2
      replace hg : kz_R g f1 := hg
      subst hu1 hu2
      obtain ⟨f0, f1', f2, f3, f4, f5, f6, f7⟩ := kz_Lf L hL
      rw [f3] at hge
      obtain ⟨⟨x', y', f'⟩, k1, k2, k3⟩ := kz_t14 (N := 2 ^ L) (B := 2 ^ L) f0 f1' f2 hP hg
      refine ⟨(nI (2 ^ L + 2 ^ L), nI (128 / 2 ^ (L + 1)), f'), ?_, ?_, rfl, _, k3, ?_⟩
      · show kSX2_transform_6 256 P (nI (2 ^ L)) (nI (128 / 2 ^ L)) f1 = _
        unfold kSX2_transform_6
        refine (kb_b_ff (kz_nlt (b := 2) f6 (by omega))).trans ?_
        refine (kb_o_v k1).trans ?_
        replace k2 : x' = nI (2 ^ L + 2 ^ L) := k2
        subst k2
        refine (kb_n_v (v := nI (128 / 2 ^ (L + 1))) ?_).trans rfl
        rw [← f4]
        exact pk_div (d := 2) (by omega) (by decide) (by decide)
      · show nI (2 ^ L + 2 ^ L) = nI (2 ^ (L + 1))
        rw [Nat.pow_succ, Nat.mul_two]
      · intro i hi
        rw [kz_level f0 f1' (fun b hb => ⟨kz_pw_lt _, kz_cc_sq L hL b hb⟩) hge hi, f5, show 2 ^ (L + 1) = 2 * 2 ^ L by rw [Nat.pow_succ, Nat.mul_comm]]
        rfl
    · rintro ⟨x, y, f1⟩ ⟨hu1, hu2, g, hg, hge⟩
      replace hu2 : y = nI 1 := hu2
      subst hu2
      refine ⟨(x, nI 1, f1), ?_, ?_⟩
      · show kSX2_transform_6 256 P x (nI 1) f1 = _
        unfold kSX2_transform_6
        exact kb_b_tt (kz_lt (b := 2) (by decide) (by decide))
      · refine kz_R_c hg (fun i hi => ?_)
        rw [hge i hi]
        show kz_ev a (i % 2) 2 (kz_cc 7 (i / 2)) 128 % 3329 = kz_ntt a i
        rw [kz_cc_7 (i / 2) (by omega)]
        rfl
    · intro i hi
      show a i = kz_ev a (i % 256) 256 3328 1 % 3329
      unfold kz_ev kz_sum kz_sum
      rw [Nat.pow_zero, Nat.mul_one, Nat.zero_mul, Nat.add_zero, Nat.zero_add, Nat.mod_eq_of_lt hi, Nat.mod_eq_of_lt (hf i hi).1]
  refine ⟨g, ?_, k2⟩
  unfold kFX2_transform
  exact kb_o_v k1
/-! Layer 2: the class's Ring, the way back, sums and products. -/
theorem kz_m1 : Int32.ofInt (-1) = -1 := by decide +kernel
theorem kz_dec {n : Nat} (h : 0 < n) : nI n + Int32.ofInt (-1) = nI (n - 1) := by rw [kz_m1]; exact sb_m1 h
def kz_bg (a : Nat → Nat) (p s h k i : Nat) : Nat := if s ≤ i ∧ i < s + k then (a i + a (i + h)) % 3329 else if s + h ≤ i ∧ i < s + h + k then p * (a i + 3329 - a (i - h)) % 3329 else a i
theorem kz_b38 {a : Nat → Nat} {f : Nat → Int32} {p s h : Nat} (hp : p < 3329) (hsh : s + 2 * h ≤ 256) (hf : kz_R a f) :
    ∃ r, kb_w (fun u : Int32 × (Nat → Int32) => kSX2_transformBack_38 (nI h) (nI s) (nI p) 256 u.1 u.2) 100000 (nI s, f) = some r ∧ r.1 = nI (s + h) ∧ kz_R (kz_bg a p s h h) r.2 := by
  refine kb_w_inv (σ := Int32 × (Nat → Int32)) (ρ := Int32 × (Nat → Int32)) (fun k u => u.1 = nI (s + k) ∧ kz_R (kz_bg a p s h k) u.2) (fun r => r.1 = nI (s + h) ∧ kz_R (kz_bg a p s h h) r.2) h ?_ ?_ h 0 _ 100000 (by omega) (by omega) ⟨rfl, ?_⟩
  · rintro k ⟨x, g⟩ hk ⟨hu1, hu2⟩
    replace hu1 : x = nI (s + k) := hu1
    replace hu2 : kz_R (kz_bg a p s h k) g := hu2
    subst hu1
    have hj := hu2 (s + k) (by omega)
    have hjh := hu2 (s + k + h) (by omega)
    rw [show kz_bg a p s h k (s + k) = a (s + k) by unfold kz_bg; rw [if_neg (by omega), if_neg (by omega)]] at hj
    rw [show kz_bg a p s h k (s + k + h) = a (s + k + h) by unfold kz_bg; rw [if_neg (by omega), if_neg (by omega)]] at hjh
    have hm : p * (a (s + k + h) + 3329 - a (s + k)) ≤ 3328 * 6657 := Nat.mul_le_mul (by omega) (by omega)
    have hv1 : p * (a (s + k + h) + 3329 - a (s + k)) % 3329 < 3329 := Nat.mod_lt _ (by decide)
    have hv2 : (a (s + k) + a (s + k + h)) % 3329 < 3329 := Nat.mod_lt _ (by decide)
    refine ⟨(nI (s + k + 1), upd (upd g (s + k) (nI ((a (s + k) + a (s + k + h)) % 3329))) (s + k + h) (nI (p * (a (s + k + h) + 3329 - a (s + k)) % 3329))), ?_, rfl, ?_⟩
    · show kSX2_transformBack_38 (nI h) (nI s) (nI p) 256 (nI (s + k)) g = _
      unfold kSX2_transformBack_38
      rw [nI_add s h, nI_add (s + k) h, nI_clamp (show s + k + h < 2 ^ 31 by omega), nI_clamp (show s + k < 2 ^ 31 by omega)]
      refine (kb_b_ff (kz_nle (by omega) (by omega))).trans ?_
      refine (kb_g_tt (kb_in_n (by omega) (by decide))).trans ?_
      refine (kb_g_tt (kb_in_n (by omega) (by decide))).trans ?_
      refine (kb_n_v (v := nI (a (s + k + h) + 3329 - a (s + k))) ?_).trans ?_
      · rw [hj.2, hjh.2, show nI (a (s + k + h)) + (3329 : Int32) = nI (a (s + k + h) + 3329) from nI_add _ _, pk_sub (by omega)]
      refine (kb_g_tt (kb_in_n (by omega) (by decide))).trans ?_
      refine (kb_g_tt (kb_in_n (by omega) (by decide))).trans ?_
      refine (kb_n_v (v := nI ((a (s + k) + a (s + k + h)) % 3329)) ?_).trans ?_
      · rw [hj.2, hjh.2, nI_add]
        exact kz_rem (by omega)
      refine (kb_g_tt (kb_in_n (by omega) (by decide))).trans ?_
      refine (kb_n_v rfl).trans ?_
      refine (kb_n_v (v := nI (p * (a (s + k + h) + 3329 - a (s + k)) % 3329)) ?_).trans ?_
      · rw [pk_mul]
        exact kz_rem (by omega)
      refine (kb_g_tt (kb_in_n (by omega) (by decide))).trans ?_
      refine (kb_n_v rfl).trans ?_
      exact (kb_n_v (kz_inc _)).trans rfl
    · refine kz_R_c (kz_R_u (k := s + k + h) (kz_R_u (k := s + k) hu2 hv2) hv1) (fun i hi => ?_)
      show (if i = s + k + h then _ else if i = s + k then _ else kz_bg a p s h k i) = kz_bg a p s h (k + 1) i
      by_cases e1 : i = s + k + h
      · subst e1
        rw [if_pos rfl]
        unfold kz_bg
        rw [if_neg (by omega), if_pos ⟨by omega, by omega⟩, Nat.add_sub_cancel]
      · rw [if_neg e1]
        by_cases e2 : i = s + k
        · subst e2
          rw [if_pos rfl]
          unfold kz_bg
          rw [if_pos ⟨by omega, by omega⟩]
        · rw [if_neg e2]
          have c1 : (s ≤ i ∧ i < s + k) = (s ≤ i ∧ i < s + (k + 1)) := propext ⟨fun z => ⟨z.1, by omega⟩, fun z => ⟨z.1, by omega⟩⟩
          have c2 : (s + h ≤ i ∧ i < s + h + k) = (s + h ≤ i ∧ i < s + h + (k + 1)) := propext ⟨fun z => ⟨z.1, by omega⟩, fun z => ⟨z.1, by omega⟩⟩
          unfold kz_bg
          simp only [c1, c2]
  · rintro ⟨x, g⟩ ⟨hu1, hu2⟩
    replace hu1 : x = nI (s + h) := hu1
    subst hu1
    refine ⟨(nI (s + h), g), ?_, rfl, hu2⟩
    show kSX2_transformBack_38 (nI h) (nI s) (nI p) 256 (nI (s + h)) g = _
    unfold kSX2_transformBack_38
    rw [nI_add s h]
    exact kb_b_tt (kz_le (Nat.le_refl _) (by omega))
  · exact kz_R_c hf (fun i _ => by show a i = kz_bg a p s h 0 i; unfold kz_bg; rw [if_neg (by omega), if_neg (by omega)])
theorem kz_bgM {a A r : Nat → Nat} {h b i : Nat} (h0 : 0 < h) (hA : ∀ j, A j = if j / (2 * h) < b then kz_M a r h j else a j) : kz_bg A (r b) (b * (2 * h)) h h i = if i / (2 * h) < b + 1 then kz_M a r h i else a i := by
  have e := Nat.div_add_mod i (2 * h)
  have ht : i % (2 * h) < 2 * h := Nat.mod_lt _ (by omega)
  rcases Nat.lt_trichotomy (i / (2 * h)) b with hlt | heq | hgt
  · have hi2 : i < b * (2 * h) := (Nat.div_lt_iff_lt_mul (by omega)).mp hlt
    have hc : i / (2 * h) < b + 1 := by omega
    unfold kz_bg
    rw [if_neg (show ¬ (b * (2 * h) ≤ i ∧ i < b * (2 * h) + h) by omega), if_neg (show ¬ (b * (2 * h) + h ≤ i ∧ i < b * (2 * h) + h + h) by omega), hA i, if_pos hlt, if_pos hc]
  · rw [heq, Nat.mul_comm] at e
    have hc : i / (2 * h) < b + 1 := by omega
    have dm : ∀ z, z < 2 * h → (b * (2 * h) + z) / (2 * h) = b ∧ (b * (2 * h) + z) % (2 * h) = z := fun z hz => kz_dm (d := 2 * h) (m := b) (t := z) (by rw [Nat.mul_comm]) hz
    have no : ∀ z, z < 2 * h → A (b * (2 * h) + z) = a (b * (2 * h) + z) := fun z hz => by rw [hA, (dm z hz).1, if_neg (Nat.lt_irrefl b)]
    rw [if_pos hc]
    generalize i % (2 * h) = t at e ht
    subst e
    by_cases hth : t < h
    · have e1 : kz_bg A (r b) (b * (2 * h)) h h (b * (2 * h) + t) = (A (b * (2 * h) + t) + A (b * (2 * h) + t + h)) % 3329 := by
        unfold kz_bg
        rw [if_pos ⟨by omega, by omega⟩]
      have e2 : kz_M a r h (b * (2 * h) + t) = (a (b * (2 * h) + t) + a (b * (2 * h) + t + h)) % 3329 := by
        unfold kz_M
        rw [(dm t ht).1, (dm t ht).2, if_pos hth]
      rw [e1, e2, show b * (2 * h) + t + h = b * (2 * h) + (t + h) by omega, no t ht, no (t + h) (by omega)]
    · have e1 : kz_bg A (r b) (b * (2 * h)) h h (b * (2 * h) + t) = r b * (A (b * (2 * h) + t) + 3329 - A (b * (2 * h) + t - h)) % 3329 := by
        unfold kz_bg
        rw [if_neg (show ¬ (b * (2 * h) ≤ b * (2 * h) + t ∧ b * (2 * h) + t < b * (2 * h) + h) by omega), if_pos ⟨by omega, by omega⟩]
      have e2 : kz_M a r h (b * (2 * h) + t) = r b * (a (b * (2 * h) + t) + 3329 - a (b * (2 * h) + t - h)) % 3329 := by
        unfold kz_M
        rw [(dm t ht).1, (dm t ht).2, if_neg hth]
      rw [e1, e2, show b * (2 * h) + t - h = b * (2 * h) + (t - h) by omega, no t ht, no (t - h) (by omega)]
  · have hi2 : (b + 1) * (2 * h) ≤ i := (Nat.le_div_iff_mul_le (by omega)).mp hgt
    rw [Nat.add_mul, Nat.one_mul] at hi2
    unfold kz_bg
    rw [if_neg (show ¬ (b * (2 * h) ≤ i ∧ i < b * (2 * h) + h) by omega), if_neg (show ¬ (b * (2 * h) + h ≤ i ∧ i < b * (2 * h) + h + h) by omega), hA i, if_neg (show ¬ i / (2 * h) < b by omega), if_neg (show ¬ i / (2 * h) < b + 1 by omega)]
theorem kz_b15 {a w : Nat → Nat} {f P : Nat → Int32} {h B N : Nat} (h0 : 0 < h) (hB : B * (2 * h) = 256) (hN : B ≤ N) (hN2 : N < 128) (hP : ∀ i, i < 128 → w i < 3329 ∧ P i = nI (w i)) (hf : kz_R a f) :
    ∃ r, kb_w (fun u : Int32 × Int32 × (Nat → Int32) => kSX2_transformBack_15 (nI h) 256 P u.1 u.2.1 u.2.2) 100000 (nI N, (0 : Int32), f) = some r ∧ r.1 = nI (N - B) ∧ kz_R (kz_M a (fun b => w (N - b)) h) r.2.2 := by
  refine kb_w_inv (σ := Int32 × Int32 × (Nat → Int32)) (ρ := Int32 × Int32 × (Nat → Int32)) (fun b u => u.1 = nI (N - b) ∧ u.2.1 = nI (b * (2 * h)) ∧ kz_R (fun i => if i / (2 * h) < b then kz_M a (fun b => w (N - b)) h i else a i) u.2.2) (fun r => r.1 = nI (N - B) ∧ kz_R (kz_M a (fun b => w (N - b)) h) r.2.2) B ?_ ?_ B 0 _ 100000 (by omega) (by omega) ⟨rfl, ?_, ?_⟩
  · rintro b ⟨x, y, g⟩ hb ⟨hu1, hu2, hu3⟩
    replace hu1 : x = nI (N - b) := hu1
    replace hu2 : y = nI (b * (2 * h)) := hu2
    replace hu3 : kz_R (fun i => if i / (2 * h) < b then kz_M a (fun b => w (N - b)) h i else a i) g := hu3
    subst hu1 hu2
    have hBb : (b + 1) * (2 * h) ≤ 256 := by rw [← hB]; exact Nat.mul_le_mul_right _ hb
    have hb1 : (b + 1) * (2 * h) = b * (2 * h) + 2 * h := by rw [Nat.add_mul, Nat.one_mul]
    obtain ⟨hw, hPw⟩ := hP (N - b) (by omega)
    obtain ⟨⟨x', f'⟩, k1, k2, k3⟩ := kz_b38 (p := w (N - b)) (s := b * (2 * h)) (h := h) hw (by omega) hu3
    refine ⟨(nI (N - b - 1), nI ((b + 1) * (2 * h)), f'), ?_, rfl, rfl, ?_⟩
    · show kSX2_transformBack_15 (nI h) 256 P (nI (N - b)) (nI (b * (2 * h))) g = _
      unfold kSX2_transformBack_15
      refine (kb_b_ff (kz_nle (n := 256) (by omega) (by decide))).trans ?_
      refine (kb_g_tt (kb_in_n (by omega) (by decide))).trans ?_
      refine (kb_n_v (v := nI (w (N - b))) (by rw [nI_clamp (by omega)]; exact hPw)).trans ?_
      refine (kb_n_v (kz_dec (by omega))).trans ?_
      refine (kb_o_v k1).trans ?_
      refine (kb_n_v (v := nI ((b + 1) * (2 * h))) ?_).trans rfl
      show nI (b * (2 * h)) + nI 2 * nI h = _
      rw [pk_mul, nI_add, hb1]
    · exact kz_R_c k3 (fun i hi => kz_bgM (r := fun b => w (N - b)) h0 (fun _ => rfl))
  · rintro ⟨x, y, g⟩ ⟨hu1, hu2, hu3⟩
    replace hu1 : x = nI (N - B) := hu1
    replace hu2 : y = nI (B * (2 * h)) := hu2
    subst hu1 hu2
    refine ⟨(nI (N - B), nI (B * (2 * h)), g), ?_, rfl, ?_⟩
    · show kSX2_transformBack_15 (nI h) 256 P (nI (N - B)) (nI (B * (2 * h))) g = _
      unfold kSX2_transformBack_15
      exact kb_b_tt (kz_le (n := 256) (by omega) (by omega))
    · refine kz_R_c hu3 (fun i hi => ?_)
      show (if i / (2 * h) < B then _ else _) = _
      rw [if_pos ((Nat.div_lt_iff_lt_mul (by omega)).mpr (by omega))]
  · show (0 : Int32) = nI (0 * (2 * h))
    rw [Nat.zero_mul]; rfl
  · exact kz_R_c hf (fun i _ => by show a i = if i / (2 * h) < 0 then _ else a i; rw [if_neg (Nat.not_lt_zero _)])
theorem kz_Mf : ∀ m, m < 7 → 0 < 2 ^ m ∧ 64 / 2 ^ m * (2 * (2 * 2 ^ m)) = 256 ∧ 64 / 2 ^ m ≤ 128 / 2 ^ m - 1 ∧ 128 / 2 ^ m - 1 < 128 ∧ 128 / 2 ^ m - 1 - 64 / 2 ^ m = 128 / 2 ^ (m + 1) - 1 ∧ 2 * 2 ^ m ≤ 128 ∧ 2 ^ (m + 1) = 2 * 2 ^ m := by decide
theorem kz_back5 {a : Nat → Nat} {f P : Nat → Int32} (hf : kz_R a f) (hP : ∀ i, i < 128 → kz_pw i < 3329 ∧ P i = nI (kz_pw i)) :
    ∃ r, kb_w (fun u : Int32 × Int32 × (Nat → Int32) => kSX2_transformBack_5 256 P u.1 u.2.1 u.2.2) 100000 ((127 : Int32), (2 : Int32), f) = some r ∧ kz_R (fun i => kz_iv a i 0 128 % 3329) r.2.2 := by
  refine kb_w_inv (σ := Int32 × Int32 × (Nat → Int32)) (ρ := Int32 × Int32 × (Nat → Int32)) (fun m u => u.1 = nI (128 / 2 ^ m - 1) ∧ u.2.1 = nI (2 * 2 ^ m) ∧ ∃ g, kz_R g u.2.2 ∧ ∀ i, i < 256 → g i = kz_iv a (i % (2 * 2 ^ m)) (2 ^ m * (i / (2 * 2 ^ m))) (2 ^ m) % 3329) (fun r => kz_R (fun i => kz_iv a i 0 128 % 3329) r.2.2) 7 ?_ ?_ 7 0 _ 100000 (by omega) (by omega) ⟨rfl, rfl, a, hf, ?_⟩
  · rintro m ⟨x, y, f1⟩ hm ⟨hu1, hu2, g, hg, hge⟩
    replace hu1 : x = nI (128 / 2 ^ m - 1) := hu1
    replace hu2 : y = nI (2 * 2 ^ m) := hu2
    replace hg : kz_R g f1 := hg
    subst hu1 hu2
    obtain ⟨f0, f1', f2, f3, f4, f5, f6⟩ := kz_Mf m hm
    obtain ⟨⟨x', y', f'⟩, k1, k2, k3⟩ := kz_b15 (N := 128 / 2 ^ m - 1) (B := 64 / 2 ^ m) (h := 2 * 2 ^ m) (by omega) f1' f2 f3 hP hg
    refine ⟨(nI (128 / 2 ^ m - 1 - 64 / 2 ^ m), nI (2 * (2 * 2 ^ m)), f'), ?_, ?_, ?_, _, k3, ?_⟩
    · show kSX2_transformBack_5 256 P (nI (128 / 2 ^ m - 1)) (nI (2 * 2 ^ m)) f1 = _
      unfold kSX2_transformBack_5
      refine (kb_b_ff (kz_nlt (a := 128) f5 (by decide))).trans ?_
      refine (kb_o_v k1).trans ?_
      replace k2 : x' = nI (128 / 2 ^ m - 1 - 64 / 2 ^ m) := k2
      subst k2
      refine (kb_n_v (v := nI (2 * (2 * 2 ^ m))) ?_).trans rfl
      show nI (2 * 2 ^ m) * nI 2 = _
      rw [pk_mul, Nat.mul_comm]
    · show nI (128 / 2 ^ m - 1 - 64 / 2 ^ m) = nI (128 / 2 ^ (m + 1) - 1)
      rw [f4]
    · show nI (2 * (2 * 2 ^ m)) = nI (2 * 2 ^ (m + 1))
      rw [f6]
    · intro i hi
      rw [f6, kz_ilevel f0 f1' (fun b hb => ⟨kz_pw_lt _, kz_ci_all m hm b hb⟩) hge hi]
  · rintro ⟨x, y, f1⟩ ⟨hu1, hu2, g, hg, hge⟩
    replace hu2 : y = nI 256 := hu2
    subst hu2
    refine ⟨(x, nI 256, f1), ?_, ?_⟩
    · show kSX2_transformBack_5 256 P x (nI 256) f1 = _
      unfold kSX2_transformBack_5
      exact kb_b_tt (kz_lt (a := 128) (by decide) (by decide))
    · refine kz_R_c hg (fun i hi => ?_)
      rw [hge i hi]
      show kz_iv a (i % 256) (128 * (i / 256)) 128 % 3329 = kz_iv a i 0 128 % 3329
      rw [Nat.mod_eq_of_lt hi, Nat.div_eq_of_lt hi]
  · intro i hi
    show a i = kz_iv a (i % 2) (1 * (i / 2)) 1 % 3329
    unfold kz_iv kz_sum kz_sum
    rw [show i % 2 / 2 = 0 by omega, Nat.pow_zero, Nat.mul_one, Nat.zero_add, Nat.one_mul, Nat.add_zero, show 2 * (i / 2) + i % 2 % 2 = i by omega, Nat.mod_eq_of_lt (hf i hi).1]
theorem kz_back {a : Nat → Nat} {f P : Nat → Int32} (hf : kz_R a f) (hP : ∀ i, i < 128 → kz_pw i < 3329 ∧ P i = nI (kz_pw i)) : ∃ g, kFX2_transformBack 256 P f = some g ∧ kz_R (kz_intt a) g := by
  obtain ⟨⟨x, y, f1⟩, k1, k2⟩ := kz_back5 hf hP
  replace k2 : kz_R (fun i => kz_iv a i 0 128 % 3329) f1 := k2
  obtain ⟨⟨x2, f2⟩, m1, m2⟩ : ∃ r, kb_w (fun u : Int32 × (Nat → Int32) => kSX2_transformBack_124 256 u.1 u.2) 100000 ((0 : Int32), f1) = some r ∧ kz_R (kz_intt a) r.2 := by
    refine kb_w_inv (σ := Int32 × (Nat → Int32)) (ρ := Int32 × (Nat → Int32)) (fun k u => u.1 = nI k ∧ kz_R (fun i => if i < k then kz_intt a i else kz_iv a i 0 128 % 3329) u.2) (fun r => kz_R (kz_intt a) r.2) 256 ?_ ?_ 256 0 _ 100000 (by omega) (by omega) ⟨rfl, kz_R_c k2 (fun i _ => by rw [if_neg (by omega)])⟩
    · rintro k ⟨z, g⟩ hk ⟨hu1, hu2⟩
      replace hu1 : z = nI k := hu1
      replace hu2 : kz_R (fun i => if i < k then kz_intt a i else kz_iv a i 0 128 % 3329) g := hu2
      subst hu1
      have hj := hu2 k hk
      dsimp only at hj
      rw [if_neg (Nat.lt_irrefl k)] at hj
      refine ⟨(nI (k + 1), upd g k (nI (kz_intt a k))), ?_, rfl, ?_⟩
      · show kSX2_transformBack_124 256 (nI k) g = _
        unfold kSX2_transformBack_124
        rw [nI_clamp (show k < 2 ^ 31 by omega)]
        refine (kb_b_ff (kz_nle (n := 256) (by omega) (by decide))).trans ?_
        refine (kb_g_tt (kb_in_n (by omega) (by decide))).trans ?_
        refine (kb_n_v (v := nI (kz_intt a k)) ?_).trans ?_
        · rw [hj.2, show nI (kz_iv a k 0 128 % 3329) * (3303 : Int32) = nI (kz_iv a k 0 128 % 3329 * 3303) from pk_mul _ _]
          exact kz_rem (by have := hj.1; omega)
        refine (kb_g_tt (kb_in_n (by omega) (by decide))).trans ?_
        refine (kb_n_v rfl).trans ?_
        exact (kb_n_v (kz_inc _)).trans rfl
      · refine kz_R_c (kz_R_u (k := k) hu2 (kz_intt_lt a k)) (fun i hi => ?_)
        show (if i = k then kz_intt a k else if i < k then kz_intt a i else kz_iv a i 0 128 % 3329) = if i < k + 1 then kz_intt a i else kz_iv a i 0 128 % 3329
        by_cases e : i = k
        · subst e
          rw [if_pos rfl, if_pos (by omega)]
        · rw [if_neg e]
          by_cases e2 : i < k
          · rw [if_pos e2, if_pos (by omega)]
          · rw [if_neg e2, if_neg (by omega)]
    · rintro ⟨z, g⟩ ⟨hu1, hu2⟩
      replace hu1 : z = nI 256 := hu1
      subst hu1
      refine ⟨(nI 256, g), ?_, kz_R_c hu2 (fun i hi => by show (if i < 256 then _ else _) = _; rw [if_pos hi])⟩
      show kSX2_transformBack_124 256 (nI 256) g = _
      unfold kSX2_transformBack_124
      exact kb_b_tt (kz_le (n := 256) (Nat.le_refl _) (by decide))
  refine ⟨f2, ?_, m2⟩
  unfold kFX2_transformBack
  refine (kb_o_v k1).trans ?_
  exact kb_o_v m1
/-- a loop over all 256 places that sets each out of itself -/
theorem kz_each {a v : Nat → Nat} {f : Nat → Int32} {S : Int32 → (Nat → Int32) → Option ((Int32 × (Nat → Int32)) ⊕ (Int32 × (Nat → Int32)))} (hf : kz_R a f) (hv : ∀ k, k < 256 → v k < 3329)
    (hs : ∀ k g, k < 256 → g k = nI (a k) → S (nI k) g = some (.inl (nI (k + 1), upd g k (nI (v k))))) (hx : ∀ g, S (nI 256) g = some (.inr (nI 256, g))) :
    ∃ g, kb_w (fun u : Int32 × (Nat → Int32) => S u.1 u.2) 100000 ((0 : Int32), f) = some (nI 256, g) ∧ kz_R v g := by
  obtain ⟨⟨x, g⟩, k1, k2, k3⟩ : ∃ r, kb_w (fun u : Int32 × (Nat → Int32) => S u.1 u.2) 100000 ((0 : Int32), f) = some r ∧ r.1 = nI 256 ∧ kz_R v r.2 := by
    refine kb_w_inv (σ := Int32 × (Nat → Int32)) (ρ := Int32 × (Nat → Int32)) (fun k u => u.1 = nI k ∧ kz_R (fun i => if i < k then v i else a i) u.2) (fun r => r.1 = nI 256 ∧ kz_R v r.2) 256 ?_ ?_ 256 0 _ 100000 (by omega) (by omega) ⟨rfl, kz_R_c hf (fun i _ => by rw [if_neg (by omega)])⟩
    · rintro k ⟨z, g⟩ hk ⟨hu1, hu2⟩
      replace hu1 : z = nI k := hu1
      replace hu2 : kz_R (fun i => if i < k then v i else a i) g := hu2
      subst hu1
      have hj := hu2 k hk
      dsimp only at hj
      rw [if_neg (Nat.lt_irrefl k)] at hj
      refine ⟨(nI (k + 1), upd g k (nI (v k))), hs k g hk hj.2, rfl, ?_⟩
      refine kz_R_c (kz_R_u (k := k) hu2 (hv k hk)) (fun i hi => ?_)
      show (if i = k then v k else if i < k then v i else a i) = if i < k + 1 then v i else a i
      by_cases e : i = k
      · subst e
        rw [if_pos rfl, if_pos (by omega)]
      · rw [if_neg e]
        by_cases e2 : i < k
        · rw [if_pos e2, if_pos (by omega)]
        · rw [if_neg e2, if_neg (by omega)]
    · rintro ⟨z, g⟩ ⟨hu1, hu2⟩
      replace hu1 : z = nI 256 := hu1
      subst hu1
      exact ⟨(nI 256, g), hx g, rfl, kz_R_c hu2 (fun i hi => by show (if i < 256 then _ else _) = _; rw [if_pos hi])⟩
  replace k2 : x = nI 256 := k2
  subst k2
  exact ⟨g, k1, k3⟩
theorem kz_add {a b : Nat → Nat} {f g : Nat → Int32} (hf : kz_R a f) (hg : kz_R b g) : ∃ r, kFX2_add 256 256 f g = some r ∧ kz_R (fun i => (a i + b i) % 3329) r := by
  obtain ⟨r, k1, k2⟩ := kz_each (v := fun i => (a i + b i) % 3329) (S := fun x z => kSX2_add_2 256 256 g x z) hf (fun k _ => Nat.mod_lt _ (by decide)) (fun k z hk hz => by
    show kSX2_add_2 256 256 g (nI k) z = _
    unfold kSX2_add_2
    have h1 := (hf k hk).1
    have h2 := hg k hk
    rw [nI_clamp (show k < 2 ^ 31 by omega)]
    refine (kb_b_ff (kz_nle (n := 256) (by omega) (by decide))).trans ?_
    refine (kb_g_tt (kb_in_n (by omega) (by decide))).trans ?_
    refine (kb_g_tt (kb_in_n (by omega) (by decide))).trans ?_
    refine (kb_n_v (v := nI ((a k + b k) % 3329)) ?_).trans ?_
    · rw [hz, h2.2, nI_add]
      exact kz_rem (by omega)
    refine (kb_g_tt (kb_in_n (by omega) (by decide))).trans ?_
    refine (kb_n_v rfl).trans ?_
    exact (kb_n_v (kz_inc _)).trans rfl) (fun z => kb_b_tt (kz_le (n := 256) (Nat.le_refl _) (by decide)))
  exact ⟨r, by unfold kFX2_add; exact kb_o_v k1, k2⟩
theorem kz_sub {a b : Nat → Nat} {f g : Nat → Int32} (hf : kz_R a f) (hg : kz_R b g) : ∃ r, kFX2_subtractFrom 256 256 f g = some r ∧ kz_R (fun i => (a i + 3329 - b i) % 3329) r := by
  obtain ⟨r, k1, k2⟩ := kz_each (v := fun i => (a i + 3329 - b i) % 3329) (S := fun x z => kSX2_subtractFrom_2 256 256 f x z) hg (fun k _ => Nat.mod_lt _ (by decide)) (fun k z hk hz => by
    show kSX2_subtractFrom_2 256 256 f (nI k) z = _
    unfold kSX2_subtractFrom_2
    have h1 := hf k hk
    have h2 := (hg k hk).1
    rw [nI_clamp (show k < 2 ^ 31 by omega)]
    refine (kb_b_ff (kz_nle (n := 256) (by omega) (by decide))).trans ?_
    refine (kb_g_tt (kb_in_n (by omega) (by decide))).trans ?_
    refine (kb_g_tt (kb_in_n (by omega) (by decide))).trans ?_
    refine (kb_n_v (v := nI ((a k + 3329 - b k) % 3329)) ?_).trans ?_
    · rw [hz, h1.2, show nI (a k) + (3329 : Int32) = nI (a k + 3329) from nI_add _ _, pk_sub (by omega)]
      exact kz_rem (by omega)
    refine (kb_g_tt (kb_in_n (by omega) (by decide))).trans ?_
    refine (kb_n_v rfl).trans ?_
    exact (kb_n_v (kz_inc _)).trans rfl) (fun z => kb_b_tt (kz_le (n := 256) (Nat.le_refl _) (by decide)))
  exact ⟨r, by unfold kFX2_subtractFrom; exact kb_o_v k1, k2⟩
/-! Layer 2: the class's Ring, clear and products. -/
/-- a loop over all 256 places that sets each, whatever stood there -/
theorem kz_fill {v : Nat → Nat} {f : Nat → Int32} {S : Int32 → (Nat → Int32) → Option ((Int32 × (Nat → Int32)) ⊕ (Int32 × (Nat → Int32)))} (hv : ∀ k, k < 256 → v k < 3329)
    (hs : ∀ k g, k < 256 → S (nI k) g = some (.inl (nI (k + 1), upd g k (nI (v k))))) (hx : ∀ g, S (nI 256) g = some (.inr (nI 256, g))) :
    ∃ g, kb_w (fun u : Int32 × (Nat → Int32) => S u.1 u.2) 100000 ((0 : Int32), f) = some (nI 256, g) ∧ kz_R v g := by
  obtain ⟨⟨x, g⟩, k1, k2, k3⟩ : ∃ r, kb_w (fun u : Int32 × (Nat → Int32) => S u.1 u.2) 100000 ((0 : Int32), f) = some r ∧ r.1 = nI 256 ∧ kz_R v r.2 := by
    refine kb_w_inv (σ := Int32 × (Nat → Int32)) (ρ := Int32 × (Nat → Int32)) (fun k u => u.1 = nI k ∧ ∀ i, i < k → u.2 i = nI (v i)) (fun r => r.1 = nI 256 ∧ kz_R v r.2) 256 ?_ ?_ 256 0 _ 100000 (by omega) (by omega) ⟨rfl, fun i hi => absurd hi (by omega)⟩
    · rintro k ⟨z, g⟩ hk ⟨hu1, hu2⟩
      replace hu1 : z = nI k := hu1
      subst hu1
      refine ⟨(nI (k + 1), upd g k (nI (v k))), hs k g hk, rfl, fun i hi => ?_⟩
      show upd g k (nI (v k)) i = nI (v i)
      by_cases e : i = k
      · subst e
        exact pk_us
      · rw [pk_un e]
        exact hu2 i (by omega)
    · rintro ⟨z, g⟩ ⟨hu1, hu2⟩
      replace hu1 : z = nI 256 := hu1
      subst hu1
      exact ⟨(nI 256, g), hx g, rfl, fun i hi => ⟨hv i hi, hu2 i hi⟩⟩
  replace k2 : x = nI 256 := k2
  subst k2
  exact ⟨g, k1, k3⟩
theorem kz_clear (f : Nat → Int32) : ∃ r, kFX2_clear 256 f = some r ∧ kz_R (fun _ => 0) r := by
  obtain ⟨r, k1, k2⟩ := kz_fill (v := fun _ => 0) (f := f) (S := fun x z => kSX2_clear_2 256 x z) (fun k _ => by decide) (fun k z hk => by
    show kSX2_clear_2 256 (nI k) z = _
    unfold kSX2_clear_2
    rw [nI_clamp (show k < 2 ^ 31 by omega)]
    refine (kb_b_ff (kz_nle (n := 256) (by omega) (by decide))).trans ?_
    refine (kb_g_tt (kb_in_n (by omega) (by decide))).trans ?_
    refine (kb_n_v rfl).trans ?_
    exact (kb_n_v (kz_inc _)).trans rfl) (fun z => kb_b_tt (kz_le (n := 256) (Nat.le_refl _) (by decide)))
  exact ⟨r, by unfold kFX2_clear; exact kb_o_v k1, k2⟩
theorem kz_pair {s a b : Nat → Nat} {f1 f2 f3 : Nat → Int32} (h1 : kz_R s f1) (h2 : kz_R a f2) (h3 : kz_R b f3) {t z : Nat} (ht : t + 1 < 256) (hz : z ≤ 3329) : ∃ r, kFX2_addPairProduct (nI t) (nI z) 256 256 256 f1 f2 f3 = some r ∧ kz_R (fun i => if i = t + 1 then (s (t + 1) + a t * b (t + 1) + a (t + 1) * b t) % 3329 else if i = t then (s t + a t * b t + a (t + 1) * b (t + 1) % 3329 * z) % 3329 else s i) r := by
  have s0 := h1 t (by omega)
  have s1 := h1 (t + 1) ht
  have a0 := h2 t (by omega)
  have a1 := h2 (t + 1) ht
  have b0 := h3 t (by omega)
  have b1 := h3 (t + 1) ht
  have m1 := kz_m2 a1.1 b1.1
  have m2 := kz_m2 a0.1 b0.1
  have m3 := kz_m2 a0.1 b1.1
  have m4 := kz_m2 a1.1 b0.1
  have hq : a (t + 1) * b (t + 1) % 3329 < 3329 := Nat.mod_lt _ (by decide)
  have m5 : a (t + 1) * b (t + 1) % 3329 * z ≤ 3329 * 3329 := Nat.mul_le_mul (by omega) hz
  refine ⟨upd (upd f1 t (nI ((s t + a t * b t + a (t + 1) * b (t + 1) % 3329 * z) % 3329))) (t + 1) (nI ((s (t + 1) + a t * b (t + 1) + a (t + 1) * b t) % 3329)), ?_, kz_R_u (k := t + 1) (kz_R_u (k := t) h1 (Nat.mod_lt _ (by decide))) (Nat.mod_lt _ (by decide))⟩
  unfold kFX2_addPairProduct
  rw [nI_1, nI_clamp (show t + 1 < 2 ^ 31 by omega), nI_clamp (show t < 2 ^ 31 by omega)]
  refine (kb_g_tt (kb_in_n ht (by decide))).trans ?_
  refine (kb_g_tt (kb_in_n ht (by decide))).trans ?_
  refine (kb_n_v (v := nI (a (t + 1) * b (t + 1) % 3329)) ?_).trans ?_
  · rw [a1.2, b1.2, pk_mul]
    exact kz_rem (by omega)
  refine (kb_g_tt (kb_in_n (by omega) (by decide))).trans ?_
  refine (kb_g_tt (kb_in_n (by omega) (by decide))).trans ?_
  refine (kb_g_tt (kb_in_n (by omega) (by decide))).trans ?_
  refine (kb_n_v (v := nI ((s t + a t * b t + a (t + 1) * b (t + 1) % 3329 * z) % 3329)) ?_).trans ?_
  · rw [s0.2, a0.2, b0.2, pk_mul, pk_mul, nI_add, nI_add]
    exact kz_rem (by omega)
  refine (kb_g_tt (kb_in_n (by omega) (by decide))).trans ?_
  refine (kb_n_v rfl).trans ?_
  refine (kb_g_tt (kb_in_n ht (by decide))).trans ?_
  refine (kb_g_tt (kb_in_n (by omega) (by decide))).trans ?_
  refine (kb_g_tt (kb_in_n ht (by decide))).trans ?_
  refine (kb_g_tt (kb_in_n ht (by decide))).trans ?_
  refine (kb_g_tt (kb_in_n (by omega) (by decide))).trans ?_
  refine (kb_n_v (v := nI ((s (t + 1) + a t * b (t + 1) + a (t + 1) * b t) % 3329)) ?_).trans ?_
  · rw [pk_un (by omega), s1.2, a0.2, b0.2, a1.2, b1.2, pk_mul, pk_mul, nI_add, nI_add]
    exact kz_rem (by omega)
  refine (kb_g_tt (kb_in_n ht (by decide))).trans ?_
  exact (kb_n_v rfl).trans rfl
theorem kz_sq_pw : ∀ j, j < 64 → kz_sq (2 * j) = kz_pw (64 + j) ∧ kz_sq (2 * j + 1) = 3329 - kz_pw (64 + j) := by decide +kernel
def kz_prod (s a b : Nat → Nat) (i : Nat) : Nat := if i % 2 = 0 then (s i + a i * b i + a (i + 1) * b (i + 1) % 3329 * kz_sq (i / 2)) % 3329 else (s i + a (i - 1) * b i + a i * b (i - 1)) % 3329
theorem kz_prod_lt (s a b : Nat → Nat) (i : Nat) : kz_prod s a b i < 3329 := by
  unfold kz_prod
  split <;> exact Nat.mod_lt _ (by decide)
theorem kz_addProduct {s a b : Nat → Nat} {P f1 f2 f3 : Nat → Int32} (hP : ∀ i, i < 128 → kz_pw i < 3329 ∧ P i = nI (kz_pw i)) (h1 : kz_R s f1) (h2 : kz_R a f2) (h3 : kz_R b f3) : ∃ r, kFX2_addProduct 256 256 256 P f1 f2 f3 = some r ∧ kz_R (kz_prod s a b) r := by
  obtain ⟨⟨x, g⟩, k1, k2⟩ : ∃ r, kb_w (fun u : Int32 × (Nat → Int32) => kSX2_addProduct_3 256 256 256 P f2 f3 u.1 u.2) 100000 ((0 : Int32), f1) = some r ∧ kz_R (kz_prod s a b) r.2 := by
    refine kb_w_inv (σ := Int32 × (Nat → Int32)) (ρ := Int32 × (Nat → Int32)) (fun k u => u.1 = nI k ∧ kz_R (fun i => if i < 4 * k then kz_prod s a b i else s i) u.2) (fun r => kz_R (kz_prod s a b) r.2) 64 ?_ ?_ 64 0 _ 100000 (by omega) (by omega) ⟨rfl, kz_R_c h1 (fun i _ => by rw [if_neg (by omega)])⟩
    · rintro k ⟨z, g⟩ hk ⟨hu1, hu2⟩
      replace hu1 : z = nI k := hu1
      replace hu2 : kz_R (fun i => if i < 4 * k then kz_prod s a b i else s i) g := hu2
      subst hu1
      obtain ⟨q1, q2⟩ := hP (64 + k) (by omega)
      obtain ⟨w1, w2⟩ := kz_sq_pw k hk
      obtain ⟨r1, m1, n1⟩ := kz_pair (t := 4 * k) (z := kz_pw (64 + k)) hu2 h2 h3 (by omega) (by omega)
      obtain ⟨r2, m2, n2⟩ := kz_pair (t := 4 * k + 2) (z := 3329 - kz_pw (64 + k)) n1 h2 h3 (by omega) (by omega)
      refine ⟨(nI (k + 1), r2), ?_, rfl, ?_⟩
      · show kSX2_addProduct_3 256 256 256 P f2 f3 (nI k) g = _
        unfold kSX2_addProduct_3
        rw [show (64 : Int32) + nI k = nI (64 + k) from nI_add _ _, show (4 : Int32) * nI k = nI (4 * k) from pk_mul _ _, show nI (4 * k) + (2 : Int32) = nI (4 * k + 2) from nI_add _ _, nI_clamp (show 64 + k < 2 ^ 31 by omega)]
        refine (kb_b_ff (kz_nle (n := 64) (by omega) (by decide))).trans ?_
        refine (kb_g_tt (kb_in_n (by omega) (by decide))).trans ?_
        refine (kb_n_v q2).trans ?_
        refine (kb_o_v m1).trans ?_
        rw [show (3329 : Int32) - nI (kz_pw (64 + k)) = nI (3329 - kz_pw (64 + k)) from pk_sub (a := 3329) (by omega)]
        refine (kb_o_v m2).trans ?_
        exact (kb_n_v (kz_inc _)).trans rfl
      · refine kz_R_c n2 (fun i hi => ?_)
        have p0 : ∀ t, t % 2 = 0 → kz_prod s a b t = (s t + a t * b t + a (t + 1) * b (t + 1) % 3329 * kz_sq (t / 2)) % 3329 := fun t h => by unfold kz_prod; rw [if_pos h]
        have p1 : ∀ t, t % 2 = 0 → kz_prod s a b (t + 1) = (s (t + 1) + a t * b (t + 1) + a (t + 1) * b t) % 3329 := fun t h => by unfold kz_prod; rw [if_neg (by omega), Nat.add_sub_cancel]
        have n0 : ∀ z, 4 * k ≤ z → ¬ z < 4 * k := fun z hz => by omega
        dsimp only
        by_cases e1 : i = 4 * k + 2 + 1
        · subst e1
          rw [if_pos (show 4 * k + 2 + 1 = 4 * k + 2 + 1 from rfl), if_pos (show 4 * k + 2 + 1 < 4 * (k + 1) by omega), p1 (4 * k + 2) (by omega), if_neg (show ¬ 4 * k + 2 + 1 = 4 * k + 1 by omega), if_neg (show ¬ 4 * k + 2 + 1 = 4 * k by omega), if_neg (n0 (4 * k + 2 + 1) (by omega))]
        by_cases e2 : i = 4 * k + 2
        · subst e2
          rw [if_neg e1, if_pos (show 4 * k + 2 = 4 * k + 2 from rfl), if_pos (show 4 * k + 2 < 4 * (k + 1) by omega), p0 (4 * k + 2) (by omega), show (4 * k + 2) / 2 = 2 * k + 1 by omega, w2, if_neg (show ¬ 4 * k + 2 = 4 * k + 1 by omega), if_neg (show ¬ 4 * k + 2 = 4 * k by omega), if_neg (n0 (4 * k + 2) (by omega))]
        by_cases e3 : i = 4 * k + 1
        · subst e3
          rw [if_neg e1, if_neg e2, if_pos (show 4 * k + 1 = 4 * k + 1 from rfl), if_pos (show 4 * k + 1 < 4 * (k + 1) by omega), p1 (4 * k) (by omega), if_neg (n0 (4 * k + 1) (by omega))]
        by_cases e4 : i = 4 * k
        · subst e4
          rw [if_neg e1, if_neg e2, if_neg e3, if_pos (show 4 * k = 4 * k from rfl), if_pos (show 4 * k < 4 * (k + 1) by omega), p0 (4 * k) (by omega), show 4 * k / 2 = 2 * k by omega, w1, if_neg (n0 (4 * k) (by omega))]
        rw [if_neg e1, if_neg e2, if_neg e3, if_neg e4]
        by_cases e5 : i < 4 * k
        · rw [if_pos e5, if_pos (show i < 4 * (k + 1) by omega)]
        · rw [if_neg e5, if_neg (show ¬ i < 4 * (k + 1) by omega)]
    · rintro ⟨z, g⟩ ⟨hu1, hu2⟩
      replace hu1 : z = nI 64 := hu1
      subst hu1
      refine ⟨(nI 64, g), ?_, kz_R_c hu2 (fun i hi => by show (if i < 4 * 64 then _ else _) = _; rw [if_pos (by omega)])⟩
      show kSX2_addProduct_3 256 256 256 P f2 f3 (nI 64) g = _
      unfold kSX2_addProduct_3
      exact kb_b_tt (kz_le (n := 64) (Nat.le_refl _) (by decide))
  refine ⟨g, ?_, k2⟩
  unfold kFX2_addProduct
  exact kb_o_v k1
/-! Layer 2: what the reference's polynomials answer (ntt, unntt, addProduct, clear). -/
theorem kz_turned : ∀ i, i < 128 → kFX5_turned (nI i) (7 : Int32) = some (nI (kz_rev i)) := by decide +kernel
theorem kz_rev_lt : ∀ i, i < 128 → kz_rev i < 128 := by decide +kernel
theorem kz_p256 (n : Nat) : 17 ^ (n % 256) % 3329 = 17 ^ n % 3329 := by
  have h : 17 ^ n = (17 ^ 256) ^ (n / 256) * 17 ^ (n % 256) := by rw [← Nat.pow_mul, ← Nat.pow_add, Nat.div_add_mod]
  have h2 : (17 ^ 256) ^ (n / 256) % 3329 = 1 % 3329 := (kz_powmod (show 17 ^ 256 % 3329 = 1 % 3329 by decide +kernel) _).trans (by rw [Nat.one_pow])
  rw [h, kz_mulmod h2 rfl, Nat.one_mul]
def kz_pts (f : Nat → Int32) : Prop := ∀ n, n < 256 → f n = nI (17 ^ n % 3329)
theorem kz_lt31 {x : Nat} (h : x < 3329) : x < 2 ^ 31 := by omega
theorem kz_lrem {a : Nat} (h : a < 2 ^ 63) : lN a - lN a / (3329 : Int64) * (3329 : Int64) = lN (a % 3329) := pk_lRem h (by decide) (by decide)
theorem kz_n29 {a : Nat → Nat} {f pts : Nat → Int32} {z : Nat} (hf : kz_R a f) (hp : kz_pts pts) (hz : z < 256) :
    ∃ r, kb_w (fun u : Int64 × Int64 × Int32 => kSX5_ntt_29 (nI z) 256 pts f u.1 u.2.1 u.2.2) 100000 ((0 : Int64), (0 : Int64), (0 : Int32)) = some r ∧ r.1 = lN (kz_sum (fun k => a (2 * k) * (17 ^ (z * k % 256) % 3329)) 128) ∧ r.2.1 = lN (kz_sum (fun k => a (2 * k + 1) * (17 ^ (z * k % 256) % 3329)) 128) := by
  refine kb_w_inv (σ := Int64 × Int64 × Int32) (ρ := Int64 × Int64 × Int32) (fun j u => u.1 = lN (kz_sum (fun k => a (2 * k) * (17 ^ (z * k % 256) % 3329)) j) ∧ u.2.1 = lN (kz_sum (fun k => a (2 * k + 1) * (17 ^ (z * k % 256) % 3329)) j) ∧ u.2.2 = nI j) (fun r => r.1 = lN (kz_sum (fun k => a (2 * k) * (17 ^ (z * k % 256) % 3329)) 128) ∧ r.2.1 = lN (kz_sum (fun k => a (2 * k + 1) * (17 ^ (z * k % 256) % 3329)) 128)) 128 ?_ ?_ 128 0 _ 100000 (by omega) (by omega) ⟨rfl, rfl, rfl⟩
  · rintro j ⟨x, y, w⟩ hj ⟨hu1, hu2, hu3⟩
    replace hu1 : x = lN (kz_sum (fun k => a (2 * k) * (17 ^ (z * k % 256) % 3329)) j) := hu1
    replace hu2 : y = lN (kz_sum (fun k => a (2 * k + 1) * (17 ^ (z * k % 256) % 3329)) j) := hu2
    replace hu3 : w = nI j := hu3
    subst hu1 hu2 hu3
    have e0 := hf (2 * j) (by omega)
    have e1 := hf (2 * j + 1) (by omega)
    have hm : z * j ≤ 255 * 127 := Nat.mul_le_mul (by omega) (by omega)
    have hq : z * j % 256 < 256 := Nat.mod_lt _ (by decide)
    have hw : 17 ^ (z * j % 256) % 3329 < 3329 := Nat.mod_lt _ (by decide)
    refine ⟨(_, _, nI (j + 1)), ?_, rfl, rfl, rfl⟩
    show kSX5_ntt_29 (nI z) 256 pts f _ _ (nI j) = _
    unfold kSX5_ntt_29
    rw [show (2 : Int32) * nI j = nI (2 * j) from pk_mul _ _, nI_1, nI_clamp (show 2 * j < 2 ^ 31 by omega), nI_clamp (show 2 * j + 1 < 2 ^ 31 by omega)]
    refine (kb_b_ff (kz_nle (n := 128) hj (by decide))).trans ?_
    refine (kb_n_v (v := nI (z * j % 256)) ?_).trans ?_
    · rw [pk_mul]
      exact pk_rem (d := 256) (by omega) (by decide) (by decide)
    refine (kb_g_tt (kb_in_n hq (by decide))).trans ?_
    refine (kb_n_v (v := lN (17 ^ (z * j % 256) % 3329)) ?_).trans ?_
    · rw [nI_clamp (by omega), hp _ hq, nI_l (by omega)]
    refine (kb_g_tt (kb_in_n (by omega) (by decide))).trans ?_
    refine (kb_n_v (v := lN (kz_sum (fun k => a (2 * k) * (17 ^ (z * k % 256) % 3329)) (j + 1))) ?_).trans ?_
    · rw [e0.2, nI_l (by omega), lN_mul, lN_add]
      rfl
    refine (kb_g_tt (kb_in_n (by omega) (by decide))).trans ?_
    refine (kb_n_v (v := lN (kz_sum (fun k => a (2 * k + 1) * (17 ^ (z * k % 256) % 3329)) (j + 1))) ?_).trans ?_
    · rw [e1.2, nI_l (by omega), lN_mul, lN_add]
      rfl
    exact (kb_n_v (kz_inc _)).trans rfl
  · rintro ⟨x, y, w⟩ ⟨hu1, hu2, hu3⟩
    replace hu3 : w = nI 128 := hu3
    subst hu3
    refine ⟨(x, y, nI 128), ?_, hu1, hu2⟩
    show kSX5_ntt_29 (nI z) 256 pts f x y (nI 128) = _
    unfold kSX5_ntt_29
    exact kb_b_tt (kz_le (n := 128) (Nat.le_refl _) (by decide))
theorem kz_ntt_ref (a : Nat → Nat) {i t : Nat} (ht : t < 2) : kz_sum (fun k => a (2 * k + t) * (17 ^ ((2 * kz_rev i + 1) * k % 256) % 3329)) 128 % 3329 = kz_ntt a (2 * i + t) := by
  unfold kz_ntt kz_ev
  rw [show (2 * i + t) % 2 = t by omega, show (2 * i + t) / 2 = i by omega]
  refine kz_sum_mod (fun k _ => ?_)
  rw [show t + k * 2 = 2 * k + t by omega]
  refine kz_mulmod rfl ?_
  rw [Nat.mod_mod, kz_p256, Nat.pow_mul]
  exact kz_powmod (Nat.mod_mod _ _).symm k
theorem kz_sumb {a : Nat → Nat} {f : Nat → Int32} {e : Nat → Nat} {t : Nat} (hf : kz_R a f) (ht : t < 2) : kz_sum (fun k => a (2 * k + t) * (17 ^ e k % 3329)) 128 < 2 ^ 31 := by
  have h : kz_sum (fun k => a (2 * k + t) * (17 ^ e k % 3329)) 128 ≤ 128 * 11075584 := kz_sum_le (fun k hk => kz_m2 (hf _ (by omega)).1 (Nat.mod_lt _ (by decide)))
  omega
/-- the sums of the reference, put back as numbers -/
theorem kz_putback {v : Nat → Nat} {sm : Nat → Int64} {f : Nat → Int32} {S : Int32 → (Nat → Int32) → Option ((Int32 × (Nat → Int32)) ⊕ (Int32 × (Nat → Int32)))} (hv : ∀ k, k < 256 → v k < 3329) (hsm : ∀ k, k < 256 → sm k = lN (v k))
    (hS : ∀ x z, S x z = kb_b (decide ((256 : Int32) ≤ x)) (some (.inr (x, z))) (kb_g (kb_in x 256) (kb_g (kb_in x 256) (kb_n (upd z x.toNatClampNeg ((sm x.toNatClampNeg).toInt32)) fun f_28 => kb_n (x + Int32.ofInt 1) fun x2_29 => some (.inl (x2_29, f_28)))))) :
    ∃ g, kb_w (fun u : Int32 × (Nat → Int32) => S u.1 u.2) 100000 ((0 : Int32), f) = some (nI 256, g) ∧ kz_R v g := by
  refine kz_fill hv (fun k z hk => ?_) (fun z => ?_)
  · rw [hS, nI_clamp (show k < 2 ^ 31 by omega)]
    refine (kb_b_ff (kz_nle (n := 256) (by omega) (by decide))).trans ?_
    refine (kb_g_tt (kb_in_n (by omega) (by decide))).trans ?_
    refine (kb_g_tt (kb_in_n (by omega) (by decide))).trans ?_
    refine (kb_n_v (v := upd z k (nI (v k))) (by rw [hsm k hk, lN_i])).trans ?_
    exact (kb_n_v (kz_inc _)).trans rfl
  · rw [hS]
    exact kb_b_tt (kz_le (n := 256) (Nat.le_refl _) (by decide))
theorem kz_rntt {a : Nat → Nat} {sm : Nat → Int64} {f pts : Nat → Int32} (hf : kz_R a f) (hp : kz_pts pts) : ∃ s g, kFX5_ntt 256 sm pts f = some (s, g) ∧ kz_R (kz_ntt a) g := by
  obtain ⟨⟨x, s1⟩, k1, k2⟩ : ∃ r, kb_w (fun u : Int32 × (Nat → Int64) => kSX5_ntt_2 256 pts f u.1 u.2) 100000 ((0 : Int32), sm) = some r ∧ ∀ k, k < 256 → r.2 k = lN (kz_ntt a k) := by
    refine kb_w_inv (σ := Int32 × (Nat → Int64)) (ρ := Int32 × (Nat → Int64)) (fun i u => u.1 = nI i ∧ ∀ k, k < 2 * i → u.2 k = lN (kz_ntt a k)) (fun r => ∀ k, k < 256 → r.2 k = lN (kz_ntt a k)) 128 ?_ ?_ 128 0 _ 100000 (by omega) (by omega) ⟨rfl, fun k hk => absurd hk (by omega)⟩
    · rintro i ⟨x, s0⟩ hi ⟨hu1, hu2⟩
      replace hu1 : x = nI i := hu1
      subst hu1
      have hr := kz_rev_lt i hi
      obtain ⟨⟨x', y', w'⟩, m1, m2, m3⟩ := kz_n29 (z := 2 * kz_rev i + 1) hf hp (by omega)
      replace m2 : x' = _ := m2
      replace m3 : y' = _ := m3
      subst m2 m3
      refine ⟨(nI (i + 1), vp_updL (vp_updL s0 (2 * i) (lN (kz_ntt a (2 * i)))) (2 * i + 1) (lN (kz_ntt a (2 * i + 1)))), ?_, rfl, fun k hk => ?_⟩
      · show kSX5_ntt_2 256 pts f (nI i) s0 = _
        unfold kSX5_ntt_2
        rw [show (2 : Int32) * nI i = nI (2 * i) from pk_mul _ _, nI_1, nI_clamp (show 2 * i < 2 ^ 31 by omega), nI_clamp (show 2 * i + 1 < 2 ^ 31 by omega)]
        refine (kb_b_ff (kz_nle (n := 128) hi (by decide))).trans ?_
        refine (kb_o_v (kz_turned i hi)).trans ?_
        refine (kb_n_v (v := nI (2 * kz_rev i + 1)) ?_).trans ?_
        · rw [show (2 : Int32) * nI (kz_rev i) = nI (2 * kz_rev i) from pk_mul _ _, nI_1]
        refine (kb_o_v m1).trans ?_
        refine (kb_g_tt (kb_in_n (by omega) (by decide))).trans ?_
        refine (kb_n_v (v := vp_updL s0 (2 * i) (lN (kz_ntt a (2 * i)))) ?_).trans ?_
        · have hb := kz_sumb (e := fun k => (2 * kz_rev i + 1) * k % 256) (t := 0) hf (by decide)
          have he := kz_ntt_ref a (i := i) (t := 0) (by decide)
          simp only [Nat.add_zero] at hb he
          rw [kz_lrem (by omega), he]
        refine (kb_g_tt (kb_in_n (by omega) (by decide))).trans ?_
        refine (kb_n_v (v := vp_updL (vp_updL s0 (2 * i) (lN (kz_ntt a (2 * i)))) (2 * i + 1) (lN (kz_ntt a (2 * i + 1)))) ?_).trans ?_
        · have hb := kz_sumb (e := fun k => (2 * kz_rev i + 1) * k % 256) (t := 1) hf (by decide)
          have he := kz_ntt_ref a (i := i) (t := 1) (by decide)
          rw [kz_lrem (by omega), he]
        exact (kb_n_v (kz_inc _)).trans rfl
      · show vp_updL (vp_updL s0 (2 * i) (lN (kz_ntt a (2 * i)))) (2 * i + 1) (lN (kz_ntt a (2 * i + 1))) k = lN (kz_ntt a k)
        by_cases e1 : k = 2 * i + 1
        · subst e1
          exact pk_uLs
        · rw [pk_uLn e1]
          by_cases e2 : k = 2 * i
          · subst e2
            exact pk_uLs
          · rw [pk_uLn e2]
            exact hu2 k (by omega)
    · rintro ⟨x, s0⟩ ⟨hu1, hu2⟩
      replace hu1 : x = nI 128 := hu1
      subst hu1
      refine ⟨(nI 128, s0), ?_, hu2⟩
      show kSX5_ntt_2 256 pts f (nI 128) s0 = _
      unfold kSX5_ntt_2
      exact kb_b_tt (kz_le (n := 128) (Nat.le_refl _) (by decide))
  obtain ⟨g, m1, m2⟩ := kz_putback (v := kz_ntt a) (sm := s1) (f := f) (S := fun x z => kSX5_ntt_129 256 s1 x z) (fun k _ => kz_ntt_lt a k) k2 (fun _ _ => rfl)
  refine ⟨s1, g, ?_, m2⟩
  unfold kFX5_ntt
  refine (kb_o_v k1).trans ?_
  exact kb_o_v m1
theorem kz_exp {z j : Nat} (hz : z ≤ 256) : (256 - z) * j % 256 = (256 - z * j % 256) % 256 := by
  have h : (256 - z) * j + z * j = 256 * j := by rw [← Nat.add_mul, Nat.sub_add_cancel hz]
  generalize (256 - z) * j = m at h ⊢
  generalize z * j = w at h ⊢
  omega
theorem kz_intt_ref (a : Nat → Nat) {j t : Nat} (ht : t < 2) : kz_sum (fun k => a (2 * k + t) * (17 ^ ((256 - (2 * kz_rev k + 1) * j % 256) % 256) % 3329)) 128 % 3329 = kz_iv a (2 * j + t) 0 128 % 3329 := by
  unfold kz_iv
  refine kz_sum_mod (fun k hk => ?_)
  rw [show (2 * j + t) % 2 = t by omega, show (2 * j + t) / 2 = j by omega, Nat.zero_add]
  refine kz_mulmod rfl ?_
  have hr := kz_rev_lt k hk
  rw [Nat.mod_mod, ← kz_exp (by omega), kz_p256, Nat.pow_mul]
  exact kz_powmod (Nat.mod_mod _ _).symm j
theorem kz_u17 {a : Nat → Nat} {f pts : Nat → Int32} {j : Nat} (hf : kz_R a f) (hp : kz_pts pts) (hj : j < 128) :
    ∃ r, kb_w (fun u : Int64 × Int64 × Int32 => kSX5_unntt_17 (nI j) 256 pts f u.1 u.2.1 u.2.2) 100000 ((0 : Int64), (0 : Int64), (0 : Int32)) = some r ∧ r.1 = lN (kz_sum (fun k => a (2 * k) * (17 ^ ((256 - (2 * kz_rev k + 1) * j % 256) % 256) % 3329)) 128) ∧ r.2.1 = lN (kz_sum (fun k => a (2 * k + 1) * (17 ^ ((256 - (2 * kz_rev k + 1) * j % 256) % 256) % 3329)) 128) := by
  refine kb_w_inv (σ := Int64 × Int64 × Int32) (ρ := Int64 × Int64 × Int32) (fun i u => u.1 = lN (kz_sum (fun k => a (2 * k) * (17 ^ ((256 - (2 * kz_rev k + 1) * j % 256) % 256) % 3329)) i) ∧ u.2.1 = lN (kz_sum (fun k => a (2 * k + 1) * (17 ^ ((256 - (2 * kz_rev k + 1) * j % 256) % 256) % 3329)) i) ∧ u.2.2 = nI i) (fun r => r.1 = lN (kz_sum (fun k => a (2 * k) * (17 ^ ((256 - (2 * kz_rev k + 1) * j % 256) % 256) % 3329)) 128) ∧ r.2.1 = lN (kz_sum (fun k => a (2 * k + 1) * (17 ^ ((256 - (2 * kz_rev k + 1) * j % 256) % 256) % 3329)) 128)) 128 ?_ ?_ 128 0 _ 100000 (by omega) (by omega) ⟨rfl, rfl, rfl⟩
  · rintro i ⟨x, y, w⟩ hi ⟨hu1, hu2, hu3⟩
    replace hu1 : x = lN (kz_sum (fun k => a (2 * k) * (17 ^ ((256 - (2 * kz_rev k + 1) * j % 256) % 256) % 3329)) i) := hu1
    replace hu2 : y = lN (kz_sum (fun k => a (2 * k + 1) * (17 ^ ((256 - (2 * kz_rev k + 1) * j % 256) % 256) % 3329)) i) := hu2
    replace hu3 : w = nI i := hu3
    subst hu1 hu2 hu3
    have e0 := hf (2 * i) (by omega)
    have e1 := hf (2 * i + 1) (by omega)
    have hr := kz_rev_lt i hi
    have hm : (2 * kz_rev i + 1) * j ≤ 255 * 127 := Nat.mul_le_mul (by omega) (by omega)
    have hq : (256 - (2 * kz_rev i + 1) * j % 256) % 256 < 256 := Nat.mod_lt _ (by decide)
    have hw : 17 ^ ((256 - (2 * kz_rev i + 1) * j % 256) % 256) % 3329 < 3329 := Nat.mod_lt _ (by decide)
    refine ⟨(_, _, nI (i + 1)), ?_, rfl, rfl, rfl⟩
    show kSX5_unntt_17 (nI j) 256 pts f _ _ (nI i) = _
    unfold kSX5_unntt_17
    rw [show (2 : Int32) * nI i = nI (2 * i) from pk_mul _ _, nI_1, nI_clamp (show 2 * i < 2 ^ 31 by omega), nI_clamp (show 2 * i + 1 < 2 ^ 31 by omega)]
    refine (kb_b_ff (kz_nle (n := 128) hi (by decide))).trans ?_
    refine (kb_o_v (kz_turned i hi)).trans ?_
    refine (kb_n_v (v := nI ((2 * kz_rev i + 1) * j % 256)) ?_).trans ?_
    · rw [show (2 : Int32) * nI (kz_rev i) = nI (2 * kz_rev i) from pk_mul _ _, nI_1, pk_mul]
      exact pk_rem (d := 256) (by omega) (by decide) (by decide)
    refine (kb_n_v (v := nI ((256 - (2 * kz_rev i + 1) * j % 256) % 256)) ?_).trans ?_
    · rw [show (256 : Int32) - nI ((2 * kz_rev i + 1) * j % 256) = nI (256 - (2 * kz_rev i + 1) * j % 256) from pk_sub (a := 256) (by omega)]
      exact pk_rem (d := 256) (by omega) (by decide) (by decide)
    refine (kb_g_tt (kb_in_n hq (by decide))).trans ?_
    refine (kb_n_v (v := lN (17 ^ ((256 - (2 * kz_rev i + 1) * j % 256) % 256) % 3329)) ?_).trans ?_
    · rw [nI_clamp (by omega), hp _ hq, nI_l (by omega)]
    refine (kb_g_tt (kb_in_n (by omega) (by decide))).trans ?_
    refine (kb_n_v (v := lN (kz_sum (fun k => a (2 * k) * (17 ^ ((256 - (2 * kz_rev k + 1) * j % 256) % 256) % 3329)) (i + 1))) ?_).trans ?_
    · rw [e0.2, nI_l (by omega), lN_mul, lN_add]
      rfl
    refine (kb_g_tt (kb_in_n (by omega) (by decide))).trans ?_
    refine (kb_n_v (v := lN (kz_sum (fun k => a (2 * k + 1) * (17 ^ ((256 - (2 * kz_rev k + 1) * j % 256) % 256) % 3329)) (i + 1))) ?_).trans ?_
    · rw [e1.2, nI_l (by omega), lN_mul, lN_add]
      rfl
    exact (kb_n_v (kz_inc _)).trans rfl
  · rintro ⟨x, y, w⟩ ⟨hu1, hu2, hu3⟩
    replace hu3 : w = nI 128 := hu3
    subst hu3
    refine ⟨(x, y, nI 128), ?_, hu1, hu2⟩
    show kSX5_unntt_17 (nI j) 256 pts f x y (nI 128) = _
    unfold kSX5_unntt_17
    exact kb_b_tt (kz_le (n := 128) (Nat.le_refl _) (by decide))
theorem kz_runntt {a : Nat → Nat} {sm : Nat → Int64} {f pts : Nat → Int32} (hf : kz_R a f) (hp : kz_pts pts) : ∃ s g, kFX5_unntt 256 sm pts f = some (s, g) ∧ kz_R (kz_intt a) g := by
  obtain ⟨⟨x, s1⟩, k1, k2⟩ : ∃ r, kb_w (fun u : Int32 × (Nat → Int64) => kSX5_unntt_2 256 pts f u.1 u.2) 100000 ((0 : Int32), sm) = some r ∧ ∀ k, k < 256 → r.2 k = lN (kz_intt a k) := by
    refine kb_w_inv (σ := Int32 × (Nat → Int64)) (ρ := Int32 × (Nat → Int64)) (fun i u => u.1 = nI i ∧ ∀ k, k < 2 * i → u.2 k = lN (kz_intt a k)) (fun r => ∀ k, k < 256 → r.2 k = lN (kz_intt a k)) 128 ?_ ?_ 128 0 _ 100000 (by omega) (by omega) ⟨rfl, fun k hk => absurd hk (by omega)⟩
    · rintro i ⟨x, s0⟩ hi ⟨hu1, hu2⟩
      replace hu1 : x = nI i := hu1
      subst hu1
      obtain ⟨⟨x', y', w'⟩, m1, m2, m3⟩ := kz_u17 (j := i) hf hp hi
      replace m2 : x' = _ := m2
      replace m3 : y' = _ := m3
      subst m2 m3
      have v9 : ∀ S k : Nat, S < 2 ^ 31 → S % 3329 = kz_iv a k 0 128 % 3329 → (lN S - lN S / (3329 : Int64) * (3329 : Int64)) * (3303 : Int64) - (lN S - lN S / (3329 : Int64) * (3329 : Int64)) * (3303 : Int64) / (3329 : Int64) * (3329 : Int64) = lN (kz_intt a k) := fun S k hS he => by
        have hq : S % 3329 < 3329 := Nat.mod_lt _ (by decide)
        rw [kz_lrem (by omega), show lN (S % 3329) * (3303 : Int64) = lN (S % 3329 * 3303) from lN_mul _ _, kz_lrem (by omega), he]
        rfl
      refine ⟨(nI (i + 1), vp_updL (vp_updL s0 (2 * i) (lN (kz_intt a (2 * i)))) (2 * i + 1) (lN (kz_intt a (2 * i + 1)))), ?_, rfl, fun k hk => ?_⟩
      · show kSX5_unntt_2 256 pts f (nI i) s0 = _
        unfold kSX5_unntt_2
        rw [show (2 : Int32) * nI i = nI (2 * i) from pk_mul _ _, nI_1, nI_clamp (show 2 * i < 2 ^ 31 by omega), nI_clamp (show 2 * i + 1 < 2 ^ 31 by omega)]
        refine (kb_b_ff (kz_nle (n := 128) hi (by decide))).trans ?_
        refine (kb_o_v m1).trans ?_
        refine (kb_n_v (v := lN (kz_intt a (2 * i))) ?_).trans ?_
        · have hb := kz_sumb (e := fun k => (256 - (2 * kz_rev k + 1) * i % 256) % 256) (t := 0) hf (by decide)
          have he := kz_intt_ref a (j := i) (t := 0) (by decide)
          simp only [Nat.add_zero] at hb he
          exact v9 _ _ hb he
        refine (kb_g_tt (kb_in_n (by omega) (by decide))).trans ?_
        refine (kb_n_v rfl).trans ?_
        refine (kb_n_v (v := lN (kz_intt a (2 * i + 1))) ?_).trans ?_
        · have hb := kz_sumb (e := fun k => (256 - (2 * kz_rev k + 1) * i % 256) % 256) (t := 1) hf (by decide)
          have he := kz_intt_ref a (j := i) (t := 1) (by decide)
          exact v9 _ _ hb he
        refine (kb_g_tt (kb_in_n (by omega) (by decide))).trans ?_
        refine (kb_n_v rfl).trans ?_
        exact (kb_n_v (kz_inc _)).trans rfl
      · show vp_updL (vp_updL s0 (2 * i) (lN (kz_intt a (2 * i)))) (2 * i + 1) (lN (kz_intt a (2 * i + 1))) k = lN (kz_intt a k)
        by_cases e1 : k = 2 * i + 1
        · subst e1
          exact pk_uLs
        · rw [pk_uLn e1]
          by_cases e2 : k = 2 * i
          · subst e2
            exact pk_uLs
          · rw [pk_uLn e2]
            exact hu2 k (by omega)
    · rintro ⟨x, s0⟩ ⟨hu1, hu2⟩
      replace hu1 : x = nI 128 := hu1
      subst hu1
      refine ⟨(nI 128, s0), ?_, hu2⟩
      show kSX5_unntt_2 256 pts f (nI 128) s0 = _
      unfold kSX5_unntt_2
      exact kb_b_tt (kz_le (n := 128) (Nat.le_refl _) (by decide))
  obtain ⟨g, m1, m2⟩ := kz_putback (v := kz_intt a) (sm := s1) (f := f) (S := fun x z => kSX5_unntt_147 256 s1 x z) (fun k _ => kz_intt_lt a k) k2 (fun _ _ => rfl)
  refine ⟨s1, g, ?_, m2⟩
  unfold kFX5_unntt
  refine (kb_o_v k1).trans ?_
  exact kb_o_v m1
theorem kz_rclear (f : Nat → Int32) : ∃ r, kFX5_clear 256 f = some r ∧ kz_R (fun _ => 0) r := by
  obtain ⟨r, k1, k2⟩ := kz_fill (v := fun _ => 0) (f := f) (S := fun x z => kSX5_clear_2 256 x z) (fun k _ => by decide) (fun k z hk => by
    show kSX5_clear_2 256 (nI k) z = _
    unfold kSX5_clear_2
    rw [nI_clamp (show k < 2 ^ 31 by omega)]
    refine (kb_b_ff (kz_nle (n := 256) (by omega) (by decide))).trans ?_
    refine (kb_g_tt (kb_in_n (by omega) (by decide))).trans ?_
    refine (kb_n_v rfl).trans ?_
    exact (kb_n_v (kz_inc _)).trans rfl) (fun z => kb_b_tt (kz_le (n := 256) (Nat.le_refl _) (by decide)))
  exact ⟨r, by unfold kFX5_clear; exact kb_o_v k1, k2⟩
theorem kz_rprod {s a b : Nat → Nat} {pts f1 f2 f3 : Nat → Int32} (hp : kz_pts pts) (h1 : kz_R s f1) (h2 : kz_R a f2) (h3 : kz_R b f3) : ∃ r, kFX5_addProduct 256 256 256 pts f1 f2 f3 = some r ∧ kz_R (kz_prod s a b) r := by
  obtain ⟨⟨x, g⟩, k1, k2⟩ : ∃ r, kb_w (fun u : Int32 × (Nat → Int32) => kSX5_addProduct_3 256 256 256 pts f2 f3 u.1 u.2) 100000 ((0 : Int32), f1) = some r ∧ kz_R (kz_prod s a b) r.2 := by
    refine kb_w_inv (σ := Int32 × (Nat → Int32)) (ρ := Int32 × (Nat → Int32)) (fun k u => u.1 = nI k ∧ kz_R (fun i => if i < 2 * k then kz_prod s a b i else s i) u.2) (fun r => kz_R (kz_prod s a b) r.2) 128 ?_ ?_ 128 0 _ 100000 (by omega) (by omega) ⟨rfl, kz_R_c h1 (fun i _ => by rw [if_neg (by omega)])⟩
    · rintro k ⟨z, g⟩ hk ⟨hu1, hu2⟩
      replace hu1 : z = nI k := hu1
      replace hu2 : kz_R (fun i => if i < 2 * k then kz_prod s a b i else s i) g := hu2
      subst hu1
      have hr := kz_rev_lt k hk
      have s0 := hu2 (2 * k) (by omega)
      have s1 := hu2 (2 * k + 1) (by omega)
      dsimp only at s0 s1
      rw [if_neg (Nat.lt_irrefl _)] at s0
      rw [if_neg (show ¬ 2 * k + 1 < 2 * k by omega)] at s1
      have a0 := h2 (2 * k) (by omega)
      have a1 := h2 (2 * k + 1) (by omega)
      have b0 := h3 (2 * k) (by omega)
      have b1 := h3 (2 * k + 1) (by omega)
      have m1 := kz_m2 a1.1 b1.1
      have m2 := kz_m2 a0.1 b0.1
      have m3 := kz_m2 a0.1 b1.1
      have m4 := kz_m2 a1.1 b0.1
      have hq : a (2 * k + 1) * b (2 * k + 1) % 3329 < 3329 := Nat.mod_lt _ (by decide)
      have m5 := kz_m2 hq (kz_sq_lt k)
      have p0 : kz_prod s a b (2 * k) = (s (2 * k) + a (2 * k) * b (2 * k) + a (2 * k + 1) * b (2 * k + 1) % 3329 * kz_sq k) % 3329 := by unfold kz_prod; rw [if_pos (by omega), show 2 * k / 2 = k by omega]
      have p1 : kz_prod s a b (2 * k + 1) = (s (2 * k + 1) + a (2 * k) * b (2 * k + 1) + a (2 * k + 1) * b (2 * k)) % 3329 := by unfold kz_prod; rw [if_neg (by omega), Nat.add_sub_cancel]
      refine ⟨(nI (k + 1), upd (upd g (2 * k) (nI (kz_prod s a b (2 * k)))) (2 * k + 1) (nI (kz_prod s a b (2 * k + 1)))), ?_, rfl, ?_⟩
      · show kSX5_addProduct_3 256 256 256 pts f2 f3 (nI k) g = _
        unfold kSX5_addProduct_3
        rw [show (2 : Int32) * nI k = nI (2 * k) from pk_mul _ _, nI_1, nI_clamp (show 2 * k < 2 ^ 31 by omega), nI_clamp (show 2 * k + 1 < 2 ^ 31 by omega)]
        refine (kb_b_ff (kz_nle (n := 128) hk (by decide))).trans ?_
        refine (kb_o_v (kz_turned k hk)).trans ?_
        rw [show (2 : Int32) * nI (kz_rev k) = nI (2 * kz_rev k) from pk_mul _ _, nI_1, nI_clamp (show 2 * kz_rev k + 1 < 2 ^ 31 by omega)]
        refine (kb_g_tt (kb_in_n (by omega) (by decide))).trans ?_
        refine (kb_n_v (v := lN (kz_sq k)) (by rw [hp _ (by omega)]; exact nI_l (kz_lt31 (kz_sq_lt k)))).trans ?_
        refine (kb_g_tt (kb_in_n (by omega) (by decide))).trans ?_
        refine (kb_n_v (v := lN (a (2 * k))) (by rw [a0.2, nI_l (by omega)])).trans ?_
        refine (kb_g_tt (kb_in_n (by omega) (by decide))).trans ?_
        refine (kb_n_v (v := lN (a (2 * k + 1))) (by rw [a1.2, nI_l (by omega)])).trans ?_
        refine (kb_g_tt (kb_in_n (by omega) (by decide))).trans ?_
        refine (kb_n_v (v := lN (b (2 * k))) (by rw [b0.2, nI_l (by omega)])).trans ?_
        refine (kb_g_tt (kb_in_n (by omega) (by decide))).trans ?_
        refine (kb_n_v (v := lN (b (2 * k + 1))) (by rw [b1.2, nI_l (by omega)])).trans ?_
        refine (kb_g_tt (kb_in_n (by omega) (by decide))).trans ?_
        refine (kb_n_v (v := lN (a (2 * k + 1) * b (2 * k + 1) % 3329)) (by rw [lN_mul]; exact kz_lrem (by omega))).trans ?_
        refine (kb_n_v (v := lN (kz_prod s a b (2 * k))) ?_).trans ?_
        · rw [s0.2, nI_l (by omega), lN_mul, lN_mul, lN_add, lN_add, p0]
          exact kz_lrem (by omega)
        refine (kb_g_tt (kb_in_n (by omega) (by decide))).trans ?_
        refine (kb_n_v (v := upd g (2 * k) (nI (kz_prod s a b (2 * k)))) (by rw [lN_i])).trans ?_
        refine (kb_g_tt (kb_in_n (by omega) (by decide))).trans ?_
        refine (kb_n_v (v := lN (kz_prod s a b (2 * k + 1))) ?_).trans ?_
        · rw [pk_un (by omega), s1.2, nI_l (by omega), lN_mul, lN_mul, lN_add, lN_add, p1]
          exact kz_lrem (by omega)
        refine (kb_g_tt (kb_in_n (by omega) (by decide))).trans ?_
        refine (kb_n_v (v := upd (upd g (2 * k) (nI (kz_prod s a b (2 * k)))) (2 * k + 1) (nI (kz_prod s a b (2 * k + 1)))) (by rw [lN_i])).trans ?_
        exact (kb_n_v (kz_inc _)).trans rfl
      · refine kz_R_c (kz_R_u (k := 2 * k + 1) (kz_R_u (k := 2 * k) hu2 (kz_prod_lt _ _ _ _)) (kz_prod_lt _ _ _ _)) (fun i hi => ?_)
        show (if i = 2 * k + 1 then kz_prod s a b (2 * k + 1) else if i = 2 * k then kz_prod s a b (2 * k) else if i < 2 * k then kz_prod s a b i else s i) = if i < 2 * (k + 1) then kz_prod s a b i else s i
        by_cases e1 : i = 2 * k + 1
        · subst e1
          rw [if_pos rfl, if_pos (by omega)]
        by_cases e2 : i = 2 * k
        · subst e2
          rw [if_neg (by omega), if_pos rfl, if_pos (by omega)]
        rw [if_neg e1, if_neg e2]
        by_cases e5 : i < 2 * k
        · rw [if_pos e5, if_pos (by omega)]
        · rw [if_neg e5, if_neg (by omega)]
    · rintro ⟨z, g⟩ ⟨hu1, hu2⟩
      replace hu1 : z = nI 128 := hu1
      subst hu1
      refine ⟨(nI 128, g), ?_, kz_R_c hu2 (fun i hi => by show (if i < 2 * 128 then _ else _) = _; rw [if_pos (by omega)])⟩
      show kSX5_addProduct_3 256 256 256 pts f2 f3 (nI 128) g = _
      unfold kSX5_addProduct_3
      exact kb_b_tt (kz_le (n := 128) (Nat.le_refl _) (by decide))
  refine ⟨g, ?_, k2⟩
  unfold kFX5_addProduct
  exact kb_o_v k1
/-! Layer 2: bits in bytes: the class's pack and unpack. -/
theorem kz_nior (a b : Nat) : nI a ||| nI b = nI (a ||| b) := by
  apply Int32.toBitVec_inj.1
  show BitVec.ofNat 32 a ||| BitVec.ofNat 32 b = BitVec.ofNat 32 (a ||| b)
  apply BitVec.eq_of_getLsbD_eq
  intro i hi
  simp [hi]
/-- a byte as it lies in an array -/
def kz_by (v : Nat) : Int32 := (nI v).toInt8.toInt32
theorem kz_by_255 {v : Nat} (h : v < 256) : kz_by v &&& (255 : Int32) = nI v := sc_k8 v h
theorem kz_by_mod (v : Nat) : kz_by (v % 256) = kz_by v := by
  unfold kz_by
  congr 1
  apply Int8.toBitVec_inj.1
  show (BitVec.ofNat 32 (v % 256)).signExtend 8 = (BitVec.ofNat 32 v).signExtend 8
  rw [BitVec.signExtend_eq_setWidth_of_le _ (by decide), BitVec.signExtend_eq_setWidth_of_le _ (by decide)]
  apply BitVec.eq_of_toNat_eq
  simp only [BitVec.toNat_setWidth, BitVec.toNat_ofNat]
  omega
theorem kz_sl : ∀ n, n < 32 → ((nI n &&& 31).toBitVec.smod 32).toNat = n := by decide +kernel
theorem kz_su : ∀ n, n < 32 → (((nI n).toUInt32 &&& Int32.toUInt32 31).toBitVec % 32).toNat = n := by decide +kernel
theorem kz_msk : ∀ d, d < 31 → (((1 : Int32) <<< (nI d &&& 31)) - (1 : Int32)).toBitVec.toNat = 2 ^ d - 1 := by decide +kernel
/-- n bits from bit s on, out of numbers of w bits -/
def kz_tk (w : Nat) (B : Nat → Nat) (s n : Nat) : Nat := kz_sum (fun k => B ((s + k) / w) / 2 ^ ((s + k) % w) % 2 * 2 ^ k) n
theorem kz_tk_s (w : Nat) (B : Nat → Nat) (s n : Nat) : kz_tk w B s (n + 1) = kz_tk w B s n + B ((s + n) / w) / 2 ^ ((s + n) % w) % 2 * 2 ^ n := rfl
theorem kz_tk_lt (w : Nat) (B : Nat → Nat) (s : Nat) : ∀ n, kz_tk w B s n < 2 ^ n
  | 0 => Nat.one_pos
  | n + 1 => by
    have h := kz_tk_lt w B s n
    rw [kz_tk_s, Nat.pow_succ]
    have h2 : B ((s + n) / w) / 2 ^ ((s + n) % w) % 2 * 2 ^ n ≤ 1 * 2 ^ n := Nat.mul_le_mul_right _ (by omega)
    omega
theorem kz_tk_app (w : Nat) (B : Nat → Nat) (s m n : Nat) : kz_tk w B s (m + n) = kz_tk w B s m + 2 ^ m * kz_tk w B (s + m) n := by
  unfold kz_tk
  rw [kz_sum_app, ← kz_sum_mul]
  congr 1
  refine kz_sum_c (fun k _ => ?_)
  show B ((s + (m + k)) / w) / 2 ^ ((s + (m + k)) % w) % 2 * 2 ^ (m + k) = 2 ^ m * (B ((s + m + k) / w) / 2 ^ ((s + m + k) % w) % 2 * 2 ^ k)
  rw [← Nat.add_assoc, Nat.pow_add, Nat.mul_left_comm]
theorem kz_tk_one {w : Nat} {B : Nat → Nat} {i : Nat} (h : B i < 2 ^ w) : kz_tk w B (w * i) w = B i := by
  have key : ∀ n, n ≤ w → kz_tk w B (w * i) n = B i % 2 ^ n := by
    intro n
    induction n with
    | zero => intro _; rw [Nat.pow_zero, Nat.mod_one]; rfl
    | succ n ih =>
      intro hn
      obtain ⟨k1, k2⟩ := kz_dm (x := w * i + n) (d := w) rfl (by omega)
      rw [kz_tk_s, ih (by omega), k1, k2, Nat.mod_pow_succ, Nat.mul_comm]
  rw [key w (Nat.le_refl _), Nat.mod_eq_of_lt h]
theorem kz_tk_mod (w : Nat) (B : Nat → Nat) (s m n : Nat) : kz_tk w B s (m + n) % 2 ^ m = kz_tk w B s m := by
  rw [kz_tk_app, Nat.add_mul_mod_self_left, Nat.mod_eq_of_lt (kz_tk_lt w B s m)]
theorem kz_tk_div (w : Nat) (B : Nat → Nat) (s m n : Nat) : kz_tk w B s (m + n) / 2 ^ m = kz_tk w B (s + m) n := by
  rw [kz_tk_app, Nat.add_mul_div_left _ _ (Nat.two_pow_pos m), Nat.div_eq_of_lt (kz_tk_lt w B s m), Nat.zero_add]
theorem kz_tk_c {w : Nat} {B C : Nat → Nat} {s n : Nat} (h : ∀ k, k < n → B ((s + k) / w) = C ((s + k) / w)) : kz_tk w B s n = kz_tk w C s n :=
  kz_sum_c (fun k hk => by show B ((s + k) / w) / _ % 2 * _ = C ((s + k) / w) / _ % 2 * _; rw [h k hk])
/-- a number laid above another -/
theorem kz_orsh {a b k : Nat} (ha : a < 2 ^ k) (hk : k < 32) (hb : b * 2 ^ k < 2 ^ 32) : nI a ||| (nI b <<< (nI k &&& 31)) = nI (a + 2 ^ k * b) := by
  rw [pk_shlN _ k (kz_sl k hk) hb, kz_nior, Nat.mul_comm b, Nat.or_comm, ← Nat.two_pow_add_eq_or_of_lt ha, Nat.add_comm]
theorem kz_p2 {a b : Nat} (h : a ≤ b) : 2 ^ a ≤ 2 ^ b := Nat.pow_le_pow_right (by decide) h
/-- bytes that an array holds -/
def kz_Y (B : Nat → Nat) (f : Nat → Int32) (lo hi : Nat) : Prop := ∀ i, lo ≤ i → i < hi → B i < 256 ∧ f i = kz_by (B i)
theorem kz_un20 {B : Nat → Nat} {f : Nat → Int32} {n d s hb nx c lo hi : Nat} (hY : kz_Y B f lo hi) (hd : d ≤ 12) (hhb : hb < 8) (hs : s + hb = 8 * nx) (hlo : 8 * lo ≤ s) (hn : s + d ≤ 8 * hi) (hhi : hi ≤ n) (hn2 : n < 2 ^ 31) (hc : c = (d - hb + 7) / 8) :
    ∃ r, kb_w (fun u : Int32 × Int32 × Int32 => kSX6_unpack_20 (nI d) n f u.1 u.2.1 u.2.2) 100000 (nI (kz_tk 8 B s hb), nI hb, nI nx) = some r ∧ r = (nI (kz_tk 8 B s (hb + 8 * c)), nI (hb + 8 * c), nI (nx + c)) := by
  refine kb_w_inv (σ := Int32 × Int32 × Int32) (ρ := Int32 × Int32 × Int32) (fun r u => u = (nI (kz_tk 8 B s (hb + 8 * r)), nI (hb + 8 * r), nI (nx + r))) (fun r => r = (nI (kz_tk 8 B s (hb + 8 * c)), nI (hb + 8 * c), nI (nx + c))) c ?_ ?_ c 0 _ 100000 (by omega) (by omega) rfl
  · rintro r u hr hu
    subst hu
    refine ⟨_, ?_, rfl⟩
    show kSX6_unpack_20 (nI d) n f (nI (kz_tk 8 B s (hb + 8 * r))) (nI (hb + 8 * r)) (nI (nx + r)) = _
    obtain ⟨y1, y2⟩ := hY (nx + r) (by omega) (by omega)
    unfold kSX6_unpack_20
    refine (kb_b_ff (kz_nle (n := d) (by omega) (by omega))).trans ?_
    refine (kb_g_tt (kb_in_n (by omega) hn2)).trans ?_
    refine (kb_n_v (v := nI (kz_tk 8 B s (hb + 8 * (r + 1)))) ?_).trans ?_
    · rw [nI_clamp (by omega), y2, kz_by_255 y1, kz_orsh (kz_tk_lt 8 B s _) (by omega) ?_]
      · have h1 := kz_tk_one (w := 8) (B := B) (i := nx + r) y1
        rw [show hb + 8 * (r + 1) = hb + 8 * r + 8 by omega, kz_tk_app 8 B s (hb + 8 * r) 8, show s + (hb + 8 * r) = 8 * (nx + r) by omega, h1]
      · have h2 : B (nx + r) * 2 ^ (hb + 8 * r) ≤ 255 * 2 ^ 12 := Nat.mul_le_mul (by omega) (kz_p2 (by omega))
        omega
    refine (kb_n_v (v := nI (nx + (r + 1))) (kz_inc _)).trans ?_
    refine (kb_n_v (v := nI (hb + 8 * (r + 1))) ?_).trans rfl
    rw [show Int32.ofInt 8 = nI 8 by decide +kernel, nI_add]
    rfl
  · rintro u hu
    subst hu
    refine ⟨_, ?_, rfl⟩
    show kSX6_unpack_20 (nI d) n f (nI (kz_tk 8 B s (hb + 8 * c))) (nI (hb + 8 * c)) (nI (nx + c)) = _
    unfold kSX6_unpack_20
    exact kb_b_tt (kz_le (n := d) (by omega) (by omega))
theorem kz_unpack {B : Nat → Nat} {f g : Nat → Int32} {n d at' : Nat} (hY : kz_Y B f at' (at' + 32 * d)) (hd0 : 0 < d) (hd : d ≤ 12) (hn : at' + 32 * d ≤ n) (hn2 : n < 2 ^ 31) :
    ∃ r, kFX6_unpack (nI at') (nI d) n 256 f g = some r ∧ ∀ i, i < 256 → r i = nI (kz_tk 8 B (8 * at' + d * i) d) := by
  obtain ⟨⟨x1, x2, x3, x4, r⟩, k1, k2⟩ : ∃ r, kb_w (fun u : Int32 × Int32 × Int32 × Int32 × (Nat → Int32) => kSX6_unpack_12 (nI d) n 256 f u.1 u.2.1 u.2.2.1 u.2.2.2.1 u.2.2.2.2) 100000 ((0 : Int32), (0 : Int32), nI at', (0 : Int32), g) = some r ∧ ∀ i, i < 256 → r.2.2.2.2 i = nI (kz_tk 8 B (8 * at' + d * i) d) := by
    refine kb_w_inv (σ := Int32 × Int32 × Int32 × Int32 × (Nat → Int32)) (ρ := Int32 × Int32 × Int32 × Int32 × (Nat → Int32)) (fun i u => ∃ hb nx, hb < 8 ∧ 8 * at' + d * i + hb = 8 * nx ∧ u.1 = nI (kz_tk 8 B (8 * at' + d * i) hb) ∧ u.2.1 = nI hb ∧ u.2.2.1 = nI nx ∧ u.2.2.2.1 = nI i ∧ ∀ k, k < i → u.2.2.2.2 k = nI (kz_tk 8 B (8 * at' + d * k) d)) (fun r => ∀ i, i < 256 → r.2.2.2.2 i = nI (kz_tk 8 B (8 * at' + d * i) d)) 256 ?_ ?_ 256 0 _ 100000 (by omega) (by omega) ⟨0, at', by omega, by omega, rfl, rfl, rfl, rfl, fun k hk => absurd hk (by omega)⟩
    · rintro i ⟨x1, x2, x3, x4, g1⟩ hi ⟨hb, nx, h1, h2, h3, h4, h5, h6, h7⟩
      replace h3 : x1 = _ := h3
      replace h4 : x2 = _ := h4
      replace h5 : x3 = _ := h5
      replace h6 : x4 = _ := h6
      subst h3 h4 h5 h6
      have hdi : d * i + d ≤ d * 256 := by rw [← Nat.mul_succ]; exact Nat.mul_le_mul_left d hi
      obtain ⟨r0, m1, m2⟩ := kz_un20 (c := (d - hb + 7) / 8) hY hd h1 h2 (by omega) (by omega) hn hn2 rfl
      subst m2
      generalize hc : (d - hb + 7) / 8 = c at m1
      have hw : hb + 8 * c = d + (hb + 8 * c - d) := by omega
      have hl : kz_tk 8 B (8 * at' + d * i) (hb + 8 * c) < 2 ^ 20 := Nat.lt_of_lt_of_le (kz_tk_lt _ _ _ _) (kz_p2 (by omega))
      refine ⟨(nI (kz_tk 8 B (8 * at' + d * (i + 1)) (hb + 8 * c - d)), nI (hb + 8 * c - d), nI (nx + c), nI (i + 1), upd g1 i (nI (kz_tk 8 B (8 * at' + d * i) d))), ?_, hb + 8 * c - d, nx + c, by omega, by rw [Nat.mul_succ]; omega, rfl, rfl, rfl, rfl, fun k hk => ?_⟩
      · show kSX6_unpack_12 (nI d) n 256 f (nI (kz_tk 8 B (8 * at' + d * i) hb)) (nI hb) (nI nx) (nI i) g1 = _
        unfold kSX6_unpack_12
        refine (kb_b_ff (kz_nle (n := 256) hi (by decide))).trans ?_
        refine (kb_o_v m1).trans ?_
        refine (kb_g_tt (kb_in_n hi (by decide))).trans ?_
        refine (kb_n_v (v := upd g1 i (nI (kz_tk 8 B (8 * at' + d * i) d))) ?_).trans ?_
        · rw [nI_clamp (by omega), pk_andN (by omega) d (kz_msk d (by omega)), hw, kz_tk_mod]
        refine (kb_n_v (v := nI (kz_tk 8 B (8 * at' + d * (i + 1)) (hb + 8 * c - d))) ?_).trans ?_
        · rw [pk_ushrN (by omega) _ d (kz_su d (by omega)), Nat.mul_succ, ← Nat.add_assoc]
          conv => lhs; rw [hw, kz_tk_div]
        refine (kb_n_v (v := nI (hb + 8 * c - d)) (pk_sub (by omega))).trans ?_
        exact (kb_n_v (kz_inc _)).trans rfl
      · show upd g1 i (nI (kz_tk 8 B (8 * at' + d * i) d)) k = _
        by_cases e : k = i
        · subst e
          exact pk_us
        · rw [pk_un e]
          exact h7 k (by omega)
    · rintro ⟨x1, x2, x3, x4, g1⟩ ⟨hb, nx, h1, h2, h3, h4, h5, h6, h7⟩
      replace h6 : x4 = nI 256 := h6
      subst h6
      refine ⟨(x1, x2, x3, nI 256, g1), ?_, h7⟩
      show kSX6_unpack_12 (nI d) n 256 f x1 x2 x3 (nI 256) g1 = _
      unfold kSX6_unpack_12
      exact kb_b_tt (kz_le (n := 256) (Nat.le_refl _) (by decide))
  refine ⟨r, ?_, k2⟩
  unfold kFX6_unpack
  exact kb_o_v k1
-- ===== pack
theorem kz_m8 {n : Nat} (h : 8 ≤ n) : nI n + Int32.ofInt (-8) = nI (n - 8) := by
  rw [← pk_sub h]
  rw [show Int32.ofInt (-8) = -nI 8 by decide +kernel, Int32.sub_eq_add_neg]
theorem kz_pk38 {F : Nat → Nat} {n3 d m hb at' c : Nat} {row : Nat → Int32} (hd : d ≤ 12) (hhb : hb < 8 + d) (hn : at' + m + c ≤ n3) (hn2 : n3 < 2 ^ 31) (hc : c = hb / 8) :
    ∃ r, kb_w (fun u : Int32 × Int32 × Int32 × (Nat → Int32) => kSX6_pack_38 n3 u.1 u.2.1 u.2.2.1 u.2.2.2) 100000 (nI (kz_tk d F (8 * m) hb), nI hb, nI (at' + m), row) = some r ∧ r.1 = nI (kz_tk d F (8 * (m + c)) (hb - 8 * c)) ∧ r.2.1 = nI (hb - 8 * c) ∧ r.2.2.1 = nI (at' + (m + c)) ∧ ∀ k, r.2.2.2 k = if at' + m ≤ k ∧ k < at' + m + c then kz_by (kz_tk d F (8 * (k - at')) 8) else row k := by
  refine kb_w_inv (σ := Int32 × Int32 × Int32 × (Nat → Int32)) (ρ := Int32 × Int32 × Int32 × (Nat → Int32)) (fun j u => u.1 = nI (kz_tk d F (8 * (m + j)) (hb - 8 * j)) ∧ u.2.1 = nI (hb - 8 * j) ∧ u.2.2.1 = nI (at' + (m + j)) ∧ ∀ k, u.2.2.2 k = if at' + m ≤ k ∧ k < at' + m + j then kz_by (kz_tk d F (8 * (k - at')) 8) else row k) (fun r => r.1 = nI (kz_tk d F (8 * (m + c)) (hb - 8 * c)) ∧ r.2.1 = nI (hb - 8 * c) ∧ r.2.2.1 = nI (at' + (m + c)) ∧ ∀ k, r.2.2.2 k = if at' + m ≤ k ∧ k < at' + m + c then kz_by (kz_tk d F (8 * (k - at')) 8) else row k) c ?_ ?_ c 0 _ 100000 (by omega) (by omega) ⟨rfl, rfl, rfl, fun k => by rw [if_neg (by omega)]⟩
  · rintro j ⟨x1, x2, x3, g⟩ hj ⟨h1, h2, h3, h4⟩
    replace h1 : x1 = _ := h1
    replace h2 : x2 = _ := h2
    replace h3 : x3 = _ := h3
    replace h4 : ∀ k, g k = if at' + m ≤ k ∧ k < at' + m + j then kz_by (kz_tk d F (8 * (k - at')) 8) else row k := h4
    subst h1 h2 h3
    have hw : hb - 8 * j = 8 + (hb - 8 * (j + 1)) := by omega
    have hl : kz_tk d F (8 * (m + j)) (hb - 8 * j) < 2 ^ 20 := Nat.lt_of_lt_of_le (kz_tk_lt _ _ _ _) (kz_p2 (by omega))
    refine ⟨(nI (kz_tk d F (8 * (m + (j + 1))) (hb - 8 * (j + 1))), nI (hb - 8 * (j + 1)), nI (at' + (m + (j + 1))), upd g (at' + (m + j)) (kz_by (kz_tk d F (8 * (m + j)) 8))), ?_, rfl, rfl, rfl, fun k => ?_⟩
    · show kSX6_pack_38 n3 (nI (kz_tk d F (8 * (m + j)) (hb - 8 * j))) (nI (hb - 8 * j)) (nI (at' + (m + j))) g = _
      unfold kSX6_pack_38
      refine (kb_b_ff (kz_nlt (b := 8) (by omega) (by omega))).trans ?_
      refine (kb_g_tt (kb_in_n (by omega) hn2)).trans ?_
      refine (kb_n_v (v := upd g (at' + (m + j)) (kz_by (kz_tk d F (8 * (m + j)) 8))) ?_).trans ?_
      · rw [nI_clamp (by omega), pk_vb]
        congr 1
        rw [← kz_by_mod (kz_tk d F (8 * (m + j)) 8), ← kz_tk_mod d F (8 * (m + j)) 8 (hb - 8 * (j + 1)), ← hw]
        rw [show (2 ^ 8 : Nat) = 256 from rfl, Nat.mod_mod, kz_by_mod]
        rfl
      refine (kb_n_v (v := nI (at' + (m + (j + 1)))) (kz_inc _)).trans ?_
      refine (kb_n_v (v := nI (kz_tk d F (8 * (m + (j + 1))) (hb - 8 * (j + 1)))) ?_).trans ?_
      · rw [show (8 : Int32) = nI 8 from rfl, pk_ushrN (by omega) _ 8 (kz_su 8 (by decide))]
        conv => lhs; rw [hw, kz_tk_div]
        rw [show 8 * (m + j) + 8 = 8 * (m + (j + 1)) by omega]
      refine (kb_n_v (v := nI (hb - 8 * (j + 1))) ?_).trans rfl
      rw [kz_m8 (by omega), show hb - 8 * j - 8 = hb - 8 * (j + 1) by omega]
    · show upd g (at' + (m + j)) (kz_by (kz_tk d F (8 * (m + j)) 8)) k = _
      by_cases e : k = at' + (m + j)
      · subst e
        rw [if_pos ⟨by omega, by omega⟩, show at' + (m + j) - at' = m + j by omega]
        exact pk_us
      · rw [pk_un e, h4 k]
        by_cases e2 : at' + m ≤ k ∧ k < at' + m + j
        · rw [if_pos e2, if_pos ⟨e2.1, by omega⟩]
        · rw [if_neg e2, if_neg (by omega)]
  · rintro ⟨x1, x2, x3, g⟩ ⟨h1, h2, h3, h4⟩
    refine ⟨(x1, x2, x3, g), ?_, h1, h2, h3, h4⟩
    replace h2 : x2 = nI (hb - 8 * c) := h2
    subst h2
    show kSX6_pack_38 n3 x1 (nI (hb - 8 * c)) x3 g = _
    unfold kSX6_pack_38
    exact kb_b_tt (kz_lt (b := 8) (by omega) (by decide))
theorem kz_pack {F : Nat → Nat} {f row : Nat → Int32} {n3 d at' : Nat} (hF : ∀ i, i < 256 → F i < 2 ^ d ∧ f i = nI (F i)) (hd : d ≤ 12) (hn : at' + 32 * d ≤ n3) (hn2 : n3 < 2 ^ 31) :
    ∃ r, kFX6_pack (nI d) (nI at') 256 n3 f row = some r ∧ ∀ k, r k = if at' ≤ k ∧ k < at' + 32 * d then kz_by (kz_tk d F (8 * (k - at')) 8) else row k := by
  obtain ⟨⟨x1, x2, x3, x4, r⟩, k1, k2⟩ : ∃ r, kb_w (fun u : Int32 × Int32 × Int32 × Int32 × (Nat → Int32) => kSX6_pack_12 (nI d) 256 n3 f u.1 u.2.1 u.2.2.1 u.2.2.2.1 u.2.2.2.2) 100000 ((0 : Int32), (0 : Int32), nI at', (0 : Int32), row) = some r ∧ ∀ k, r.2.2.2.2 k = if at' ≤ k ∧ k < at' + 32 * d then kz_by (kz_tk d F (8 * (k - at')) 8) else row k := by
    refine kb_w_inv (σ := Int32 × Int32 × Int32 × Int32 × (Nat → Int32)) (ρ := Int32 × Int32 × Int32 × Int32 × (Nat → Int32)) (fun i u => ∃ hb m, hb < 8 ∧ 8 * m + hb = d * i ∧ u.1 = nI (kz_tk d F (8 * m) hb) ∧ u.2.1 = nI hb ∧ u.2.2.1 = nI (at' + m) ∧ u.2.2.2.1 = nI i ∧ ∀ k, u.2.2.2.2 k = if at' ≤ k ∧ k < at' + m then kz_by (kz_tk d F (8 * (k - at')) 8) else row k) (fun r => ∀ k, r.2.2.2.2 k = if at' ≤ k ∧ k < at' + 32 * d then kz_by (kz_tk d F (8 * (k - at')) 8) else row k) 256 ?_ ?_ 256 0 _ 100000 (by omega) (by omega) ⟨0, 0, by omega, by omega, rfl, rfl, rfl, rfl, fun k => by rw [if_neg (by omega)]⟩
    · rintro i ⟨x1, x2, x3, x4, g1⟩ hi ⟨hb, m, h1, h2, h3, h4, h5, h6, h7⟩
      replace h3 : x1 = _ := h3
      replace h4 : x2 = _ := h4
      replace h5 : x3 = _ := h5
      replace h6 : x4 = _ := h6
      replace h7 : ∀ k, g1 k = if at' ≤ k ∧ k < at' + m then kz_by (kz_tk d F (8 * (k - at')) 8) else row k := h7
      subst h3 h4 h5 h6
      have hdi : d * i + d ≤ d * 256 := by rw [← Nat.mul_succ]; exact Nat.mul_le_mul_left d hi
      obtain ⟨hF1, hF2⟩ := hF i hi
      obtain ⟨⟨y1, y2, y3, g2⟩, m1, m2, m3, m4, m5⟩ := kz_pk38 (F := F) (d := d) (m := m) (hb := hb + d) (at' := at') (c := (hb + d) / 8) (n3 := n3) (row := g1) hd (by omega) (by omega) hn2 rfl
      replace m2 : y1 = _ := m2
      replace m3 : y2 = _ := m3
      replace m4 : y3 = _ := m4
      replace m5 : ∀ k, g2 k = _ := m5
      subst m2 m3 m4
      generalize hc : (hb + d) / 8 = c at m1 m5
      refine ⟨(nI (kz_tk d F (8 * (m + c)) (hb + d - 8 * c)), nI (hb + d - 8 * c), nI (at' + (m + c)), nI (i + 1), g2), ?_, hb + d - 8 * c, m + c, by omega, by rw [Nat.mul_succ]; omega, rfl, rfl, rfl, rfl, fun k => ?_⟩
      · show kSX6_pack_12 (nI d) 256 n3 f (nI (kz_tk d F (8 * m) hb)) (nI hb) (nI (at' + m)) (nI i) g1 = _
        unfold kSX6_pack_12
        refine (kb_b_ff (kz_nle (n := 256) hi (by decide))).trans ?_
        refine (kb_g_tt (kb_in_n hi (by decide))).trans ?_
        refine (kb_n_v (v := nI (kz_tk d F (8 * m) (hb + d))) ?_).trans ?_
        · rw [nI_clamp (by omega), hF2, kz_orsh (kz_tk_lt _ _ _ _) (by omega) ?_]
          · rw [kz_tk_app, h2, kz_tk_one hF1]
          · have q1 : F i * 2 ^ hb ≤ 2 ^ 12 * 2 ^ 8 := Nat.mul_le_mul (Nat.le_trans (Nat.le_of_lt hF1) (kz_p2 hd)) (kz_p2 (by omega))
            omega
        refine (kb_n_v (v := nI (hb + d)) (nI_add _ _)).trans ?_
        refine (kb_o_v m1).trans ?_
        exact (kb_n_v (kz_inc _)).trans rfl
      · show g2 k = _
        rw [m5 k]
        by_cases e2 : at' + m ≤ k ∧ k < at' + m + c
        · rw [if_pos e2, if_pos ⟨by omega, by omega⟩]
        · rw [if_neg e2, h7 k]
          by_cases e3 : at' ≤ k ∧ k < at' + m
          · rw [if_pos e3, if_pos ⟨e3.1, by omega⟩]
          · rw [if_neg e3, if_neg (by omega)]
    · rintro ⟨x1, x2, x3, x4, g1⟩ ⟨hb, m, h1, h2, h3, h4, h5, h6, h7⟩
      replace h6 : x4 = nI 256 := h6
      subst h6
      have hm : m = 32 * d := by omega
      subst hm
      refine ⟨(x1, x2, x3, nI 256, g1), ?_, h7⟩
      show kSX6_pack_12 (nI d) 256 n3 f x1 x2 x3 (nI 256) g1 = _
      unfold kSX6_pack_12
      exact kb_b_tt (kz_le (n := 256) (Nat.le_refl _) (by decide))
  refine ⟨r, ?_, k2⟩
  unfold kFX6_pack
  exact kb_o_v k1
/-! Layer 2: the permutation, of the class and of the reference: one function of 25 lanes. -/
/-- a loop whose first part is a counter -/
theorem kz_for {G : Type} {S : Int32 → G → Option ((Int32 × G) ⊕ (Int32 × G))} (c : Nat → Int32) (n : Nat) (J : Nat → G → Prop) (hn : n < 100000) (hs : ∀ k g, k < n → J k g → ∃ g', S (c k) g = some (.inl (c (k + 1), g')) ∧ J (k + 1) g') (hx : ∀ g, J n g → S (c n) g = some (.inr (c n, g))) {g : G} (h0 : J 0 g) :
    ∃ g', kb_w (fun u : Int32 × G => S u.1 u.2) 100000 (c 0, g) = some (c n, g') ∧ J n g' := by
  obtain ⟨⟨x, g'⟩, k1, k2, k3⟩ : ∃ r, kb_w (fun u : Int32 × G => S u.1 u.2) 100000 (c 0, g) = some r ∧ r.1 = c n ∧ J n r.2 := by
    refine kb_w_inv (σ := Int32 × G) (ρ := Int32 × G) (fun k u => u.1 = c k ∧ J k u.2) (fun r => r.1 = c n ∧ J n r.2) n ?_ ?_ n 0 _ 100000 (by omega) hn ⟨rfl, h0⟩
    · rintro k ⟨x, g1⟩ hk ⟨h1, h2⟩
      replace h1 : x = c k := h1
      subst h1
      obtain ⟨g', e, j⟩ := hs k g1 hk h2
      exact ⟨(c (k + 1), g'), e, rfl, j⟩
    · rintro ⟨x, g1⟩ ⟨h1, h2⟩
      replace h1 : x = c n := h1
      subst h1
      exact ⟨(c n, g1), hx g1 h2, rfl, h2⟩
  replace k2 : x = c n := k2
  subst k2
  exact ⟨g', k1, k3⟩
def kz_rot (x : Int64) (t : Int32) : Int64 := (x <<< (t.toInt64 &&& 63)) ||| ((x.toUInt64 >>> (((64 : Int32) - t).toInt64.toUInt64 &&& Int64.toUInt64 63)).toInt64)
theorem kz_rot_0 (x : Int64) : kz_rot x 0 = x := by
  unfold kz_rot
  rw [show ((0 : Int32).toInt64 &&& 63) = 0 by decide +kernel, show (((64 : Int32) - 0).toInt64.toUInt64 &&& Int64.toUInt64 63) = 0 by decide +kernel]
  simp
theorem kz_left (x : Int64) (t : Int32) : kFX5_left x t = some (kz_rot x t) := by
  unfold kFX5_left
  by_cases h : t = 0
  · subst h
    exact (kb_b_tt (decide_eq_true rfl)).trans (by rw [kz_rot_0])
  · exact (kb_b_ff (decide_eq_false h)).trans rfl
def kz_tg (i : Nat) : Nat := i / 5 + 5 * ((2 * (i % 5) + 3 * (i / 5)) % 5)
def kz_in (p : Nat) : Nat := (p % 5 * 5 + (p / 5 + 5 * 3 - 3 * (p % 5)) * 3 % 5) 
def kz_tn (i : Nat) : Nat := [0, 1, 62, 28, 27, 36, 44, 6, 55, 20, 3, 10, 43, 25, 39, 41, 45, 15, 21, 8, 18, 2, 61, 56, 14].getD i 0
theorem kz_tg_in : ∀ i, i < 25 → kz_tg i < 25 ∧ kz_in (kz_tg i) = i := by decide +kernel
theorem kz_in_tg : ∀ p, p < 25 → kz_in p < 25 ∧ kz_tg (kz_in p) = p := by decide +kernel
def kz_C (a : Nat → Int64) (x : Nat) : Int64 := a x ^^^ a (x + 5) ^^^ a (x + 10) ^^^ a (x + 15) ^^^ a (x + 20)
def kz_D (a : Nat → Int64) (x : Nat) : Int64 := kz_C a ((x + 4) % 5) ^^^ kz_rot (kz_C a ((x + 1) % 5)) 1
def kz_B (a : Nat → Int64) (p : Nat) : Int64 := kz_rot (a (kz_in p) ^^^ kz_D a (kz_in p % 5)) (nI (kz_tn (kz_in p)))
def kz_X (m : Nat → Int64) (i : Nat) : Int64 := m i ^^^ ((m (i / 5 * 5 + (i % 5 + 1) % 5) ^^^ (-1 : Int64)) &&& m (i / 5 * 5 + (i % 5 + 2) % 5))
def kz_rd (rc : Nat → Int64) (r : Nat) (a : Nat → Int64) (i : Nat) : Int64 := if i = 0 then kz_X (kz_B a) 0 ^^^ rc r else kz_X (kz_B a) i
def kz_pm (rc : Nat → Int64) (a : Nat → Int64) : Nat → Nat → Int64
  | 0 => a
  | r + 1 => kz_rd rc r (kz_pm rc a r)
def kz_e25 (a b : Nat → Int64) : Prop := ∀ i, i < 25 → a i = b i
theorem kz_C_c {a b : Nat → Int64} (h : kz_e25 a b) {x : Nat} (hx : x < 5) : kz_C a x = kz_C b x := by
  unfold kz_C
  rw [h x (by omega), h (x + 5) (by omega), h (x + 10) (by omega), h (x + 15) (by omega), h (x + 20) (by omega)]
theorem kz_D_c {a b : Nat → Int64} (h : kz_e25 a b) (x : Nat) : kz_D a x = kz_D b x := by
  unfold kz_D
  rw [kz_C_c h (by omega), kz_C_c h (by omega)]
theorem kz_B_c {a b : Nat → Int64} (h : kz_e25 a b) : kz_e25 (kz_B a) (kz_B b) := fun p hp => by
  unfold kz_B
  rw [kz_D_c h, h _ (kz_in_tg p hp).1]
theorem kz_X_c {a b : Nat → Int64} (h : kz_e25 a b) : kz_e25 (kz_X a) (kz_X b) := fun i hi => by
  unfold kz_X
  rw [h i hi, h (i / 5 * 5 + (i % 5 + 1) % 5) (by omega), h (i / 5 * 5 + (i % 5 + 2) % 5) (by omega)]
theorem kz_rd_c {a b : Nat → Int64} (rc : Nat → Int64) (r : Nat) (h : kz_e25 a b) : kz_e25 (kz_rd rc r a) (kz_rd rc r b) := fun i hi => by
  unfold kz_rd
  rw [kz_X_c (kz_B_c h) i hi, kz_X_c (kz_B_c h) 0 (by omega)]
-- ===== the class
theorem kz_c28 (a c : Nat → Int64) : ∃ g, kb_w (fun u : Int32 × (Nat → Int64) => kSX4_permute_28 a u.1 u.2) 100000 ((0 : Int32), c) = some (nI 5, g) ∧ ∀ x, x < 5 → g x = kz_C a x := by
  refine kz_for (S := fun x c => kSX4_permute_28 a x c) nI 5 (fun k c => ∀ x, x < k → c x = kz_C a x) (by decide) (fun k g hk hg => ⟨vp_updL g k (kz_C a k), ?_, fun x hx => ?_⟩) (fun g _ => kb_b_tt (kz_le (n := 5) (Nat.le_refl _) (by decide))) (fun x hx => absurd hx (by omega))
  · show kSX4_permute_28 a (nI k) g = _
    unfold kSX4_permute_28
    rw [show nI k + (5 : Int32) = nI (k + 5) from nI_add _ _, show nI k + (10 : Int32) = nI (k + 10) from nI_add _ _, show nI k + (15 : Int32) = nI (k + 15) from nI_add _ _, show nI k + (20 : Int32) = nI (k + 20) from nI_add _ _, nI_clamp (show k < 2 ^ 31 by omega), nI_clamp (show k + 5 < 2 ^ 31 by omega), nI_clamp (show k + 10 < 2 ^ 31 by omega), nI_clamp (show k + 15 < 2 ^ 31 by omega), nI_clamp (show k + 20 < 2 ^ 31 by omega)]
    refine (kb_b_ff (kz_nle (n := 5) hk (by decide))).trans ?_
    refine (kb_g_tt (kb_in_n (by omega) (by decide))).trans ?_
    refine (kb_g_tt (kb_in_n (by omega) (by decide))).trans ?_
    refine (kb_g_tt (kb_in_n (by omega) (by decide))).trans ?_
    refine (kb_g_tt (kb_in_n (by omega) (by decide))).trans ?_
    refine (kb_g_tt (kb_in_n (by omega) (by decide))).trans ?_
    refine (kb_g_tt (kb_in_n (by omega) (by decide))).trans ?_
    refine (kb_n_v rfl).trans ?_
    exact (kb_n_v (kz_inc _)).trans rfl
  · by_cases e : x = k
    · subst e
      exact pk_uLs
    · rw [pk_uLn e]
      exact hg x (by omega)
def kz_tab (turns targets : Nat → Int32) : Prop := ∀ i, i < 25 → turns i = nI (kz_tn i) ∧ targets i = nI (kz_tg i)
theorem kz_c123 {a m : Nat → Int64} {turns targets : Nat → Int32} (hT : kz_tab turns targets) {x : Nat} (hx : x < 5) (hm : ∀ p, p < 25 → kz_in p % 5 < x → m p = kz_B a p) :
    ∃ g, kb_w (fun u : Int32 × (Nat → Int64) => kSX4_permute_123 (kz_D a x) a turns targets u.1 u.2) 100000 (nI x, m) = some (nI (x + 5 * 5), g) ∧ ∀ p, p < 25 → kz_in p % 5 < x + 1 → g p = kz_B a p := by
  obtain ⟨g, k1, k2⟩ := kz_for (S := fun i m => kSX4_permute_123 (kz_D a x) a turns targets i m) (g := m) (fun k => nI (x + 5 * k)) 5 (fun k m => ∀ p, p < 25 → kz_in p % 5 < x ∨ kz_in p % 5 = x ∧ kz_in p < x + 5 * k → m p = kz_B a p) (by decide) (fun k g hk hg => ⟨vp_updL g (kz_tg (x + 5 * k)) (kz_rot (a (x + 5 * k) ^^^ kz_D a x) (nI (kz_tn (x + 5 * k)))), ?_, fun p hp hc => ?_⟩) (fun g _ => kb_b_tt (kz_le (n := 25) (by omega) (by omega))) (fun p hp hc => hm p hp (by omega))
  · refine ⟨g, k1, fun p hp hc => k2 p hp ?_⟩
    have := (kz_in_tg p hp).1
    omega
  · show kSX4_permute_123 (kz_D a x) a turns targets (nI (x + 5 * k)) g = _
    have hi : x + 5 * k < 25 := by omega
    have hti := (kz_tg_in _ hi).1
    obtain ⟨t1, t2⟩ := hT _ hi
    unfold kSX4_permute_123
    rw [nI_clamp (show x + 5 * k < 2 ^ 31 by omega), t1, t2, nI_clamp (show kz_tg (x + 5 * k) < 2 ^ 31 by omega)]
    refine (kb_b_ff (kz_nle (n := 25) hi (by decide))).trans ?_
    refine (kb_g_tt (kb_in_n hi (by decide))).trans ?_
    refine (kb_n_v rfl).trans ?_
    refine (kb_g_tt (kb_in_n hi (by decide))).trans ?_
    refine (kb_g_tt (kb_in_n hi (by decide))).trans ?_
    refine (kb_g_tt (kb_in_n hi (by decide))).trans ?_
    refine (kb_g_tt (kb_in_n hti (by decide))).trans ?_
    refine (kb_n_v rfl).trans ?_
    refine (kb_n_v (v := nI (x + 5 * (k + 1))) ?_).trans rfl
    rw [show Int32.ofInt 5 = nI 5 by decide +kernel, nI_add]
    rfl
  · show vp_updL g (kz_tg (x + 5 * k)) (kz_rot (a (x + 5 * k) ^^^ kz_D a x) (nI (kz_tn (x + 5 * k)))) p = kz_B a p
    have hi : x + 5 * k < 25 := by omega
    by_cases e : p = kz_tg (x + 5 * k)
    · subst e
      rw [pk_uLs]
      unfold kz_B
      rw [(kz_tg_in _ hi).2, show (x + 5 * k) % 5 = x by omega]
    · rw [pk_uLn e]
      have hne : kz_in p ≠ x + 5 * k := fun h => e (by rw [← h]; exact (kz_in_tg p hp).2.symm)
      exact hg p hp (by omega)
theorem kz_mod5 {k : Nat} (j : Nat) (hk : k < 5) (hj : j < 5) : (nI k + nI j) - (nI k + nI j) / (5 : Int32) * (5 : Int32) = nI ((k + j) % 5) := by
  rw [nI_add]
  exact pk_rem (d := 5) (by omega) (by decide) (by decide)
theorem kz_c82 {a c m : Nat → Int64} {turns targets : Nat → Int32} (hT : kz_tab turns targets) (hc : ∀ x, x < 5 → c x = kz_C a x) :
    ∃ g, kb_w (fun u : Int32 × (Nat → Int64) => kSX4_permute_82 a c turns targets u.1 u.2) 100000 ((0 : Int32), m) = some (nI 5, g) ∧ kz_e25 g (kz_B a) := by
  obtain ⟨g, k1, k2⟩ := kz_for (S := fun i m => kSX4_permute_82 a c turns targets i m) (g := m) nI 5 (fun k m => ∀ p, p < 25 → kz_in p % 5 < k → m p = kz_B a p) (by decide) (fun k g hk hg => ?_) (fun g _ => kb_b_tt (kz_le (n := 5) (Nat.le_refl _) (by decide))) (fun p hp hc => absurd hc (by omega))
  · exact ⟨g, k1, fun p hp => k2 p hp (by omega)⟩
  · obtain ⟨g', m1, m2⟩ := kz_c123 (a := a) hT hk hg
    refine ⟨g', ?_, m2⟩
    show kSX4_permute_82 a c turns targets (nI k) g = _
    unfold kSX4_permute_82
    refine (kb_b_ff (kz_nle (n := 5) hk (by decide))).trans ?_
    refine (kb_n_v (v := nI ((k + 1) % 5)) (kz_mod5 1 hk (by decide))).trans ?_
    refine (kb_g_tt (kb_in_n (by omega) (by decide))).trans ?_
    refine (kb_n_v (v := kz_C a ((k + 1) % 5)) (by rw [nI_clamp (by omega)]; exact hc _ (by omega))).trans ?_
    refine (kb_n_v (v := nI ((k + 4) % 5)) (kz_mod5 4 hk (by decide))).trans ?_
    refine (kb_g_tt (kb_in_n (by omega) (by decide))).trans ?_
    refine (kb_n_v (v := kz_D a k) ?_).trans ?_
    · rw [nI_clamp (by omega), hc _ (by omega)]
      rfl
    refine (kb_o_v m1).trans ?_
    exact (kb_n_v (kz_inc _)).trans rfl
theorem kz_c187 {a m : Nat → Int64} : ∃ g, kb_w (fun u : Int32 × (Nat → Int64) => kSX4_permute_187 m u.1 u.2) 100000 ((0 : Int32), a) = some (nI 25, g) ∧ kz_e25 g (kz_X m) := by
  obtain ⟨g, k1, k2⟩ := kz_for (S := fun i a => kSX4_permute_187 m i a) (g := a) (fun k => nI (5 * k)) 5 (fun k a => ∀ i, i < 5 * k → a i = kz_X m i) (by decide) (fun k g hk hg => ⟨vp_updL (vp_updL (vp_updL (vp_updL (vp_updL g (5 * k) (kz_X m (5 * k))) (5 * k + 1) (kz_X m (5 * k + 1))) (5 * k + 2) (kz_X m (5 * k + 2))) (5 * k + 3) (kz_X m (5 * k + 3))) (5 * k + 4) (kz_X m (5 * k + 4)), ?_, fun i hi => ?_⟩) (fun g _ => kb_b_tt (kz_le (n := 25) (by omega) (by omega))) (fun i hi => absurd hi (by omega))
  · exact ⟨g, k1, fun i hi => k2 i (by omega)⟩
  · show kSX4_permute_187 m (nI (5 * k)) g = _
    have x0 : kz_X m (5 * k) = m (5 * k) ^^^ ((m (5 * k + 1) ^^^ (-1 : Int64)) &&& m (5 * k + 2)) := by
      unfold kz_X
      rw [show 5 * k / 5 * 5 + (5 * k % 5 + 1) % 5 = 5 * k + 1 by omega, show 5 * k / 5 * 5 + (5 * k % 5 + 2) % 5 = 5 * k + 2 by omega]
    have x1 : kz_X m (5 * k + 1) = m (5 * k + 1) ^^^ ((m (5 * k + 2) ^^^ (-1 : Int64)) &&& m (5 * k + 3)) := by
      unfold kz_X
      rw [show (5 * k + 1) / 5 * 5 + ((5 * k + 1) % 5 + 1) % 5 = 5 * k + 2 by omega, show (5 * k + 1) / 5 * 5 + ((5 * k + 1) % 5 + 2) % 5 = 5 * k + 3 by omega]
    have x2 : kz_X m (5 * k + 2) = m (5 * k + 2) ^^^ ((m (5 * k + 3) ^^^ (-1 : Int64)) &&& m (5 * k + 4)) := by
      unfold kz_X
      rw [show (5 * k + 2) / 5 * 5 + ((5 * k + 2) % 5 + 1) % 5 = 5 * k + 3 by omega, show (5 * k + 2) / 5 * 5 + ((5 * k + 2) % 5 + 2) % 5 = 5 * k + 4 by omega]
    have x3 : kz_X m (5 * k + 3) = m (5 * k + 3) ^^^ ((m (5 * k + 4) ^^^ (-1 : Int64)) &&& m (5 * k)) := by
      unfold kz_X
      rw [show (5 * k + 3) / 5 * 5 + ((5 * k + 3) % 5 + 1) % 5 = 5 * k + 4 by omega, show (5 * k + 3) / 5 * 5 + ((5 * k + 3) % 5 + 2) % 5 = 5 * k by omega]
    have x4 : kz_X m (5 * k + 4) = m (5 * k + 4) ^^^ ((m (5 * k) ^^^ (-1 : Int64)) &&& m (5 * k + 1)) := by
      unfold kz_X
      rw [show (5 * k + 4) / 5 * 5 + ((5 * k + 4) % 5 + 1) % 5 = 5 * k by omega, show (5 * k + 4) / 5 * 5 + ((5 * k + 4) % 5 + 2) % 5 = 5 * k + 1 by omega]
    rw [x0, x1, x2, x3, x4]
    unfold kSX4_permute_187
    rw [show nI (5 * k) + (1 : Int32) = nI (5 * k + 1) from nI_add _ _, show nI (5 * k) + (2 : Int32) = nI (5 * k + 2) from nI_add _ _, show nI (5 * k) + (3 : Int32) = nI (5 * k + 3) from nI_add _ _, show nI (5 * k) + (4 : Int32) = nI (5 * k + 4) from nI_add _ _, nI_clamp (show 5 * k < 2 ^ 31 by omega), nI_clamp (show 5 * k + 1 < 2 ^ 31 by omega), nI_clamp (show 5 * k + 2 < 2 ^ 31 by omega), nI_clamp (show 5 * k + 3 < 2 ^ 31 by omega), nI_clamp (show 5 * k + 4 < 2 ^ 31 by omega)]
    have i0 : kb_in (nI (5 * k)) 25 = true := kb_in_n (by omega) (by decide)
    have i1 : kb_in (nI (5 * k + 1)) 25 = true := kb_in_n (by omega) (by decide)
    have i2 : kb_in (nI (5 * k + 2)) 25 = true := kb_in_n (by omega) (by decide)
    have i3 : kb_in (nI (5 * k + 3)) 25 = true := kb_in_n (by omega) (by decide)
    have i4 : kb_in (nI (5 * k + 4)) 25 = true := kb_in_n (by omega) (by decide)
    refine (kb_b_ff (kz_nle (n := 25) (by omega) (by decide))).trans ?_
    rw [i0, i1, i2, i3, i4]
    show kb_n (nI (5 * k) + Int32.ofInt 5) _ = _
    refine (kb_n_v (v := nI (5 * (k + 1))) ?_).trans rfl
    rw [show Int32.ofInt 5 = nI 5 by decide +kernel, nI_add]
    rfl
  · show vp_updL (vp_updL (vp_updL (vp_updL (vp_updL g (5 * k) (kz_X m (5 * k))) (5 * k + 1) (kz_X m (5 * k + 1))) (5 * k + 2) (kz_X m (5 * k + 2))) (5 * k + 3) (kz_X m (5 * k + 3))) (5 * k + 4) (kz_X m (5 * k + 4)) i = kz_X m i
    by_cases e4 : i = 5 * k + 4
    · subst e4; exact pk_uLs
    rw [pk_uLn e4]
    by_cases e3 : i = 5 * k + 3
    · subst e3; exact pk_uLs
    rw [pk_uLn e3]
    by_cases e2 : i = 5 * k + 2
    · subst e2; exact pk_uLs
    rw [pk_uLn e2]
    by_cases e1 : i = 5 * k + 1
    · subst e1; exact pk_uLs
    rw [pk_uLn e1]
    by_cases e0 : i = 5 * k
    · subst e0; exact pk_uLs
    rw [pk_uLn e0]
    exact hg i (by omega)
theorem kz_e25_upd {g a : Nat → Int64} {v : Int64} (h : kz_e25 g a) : kz_e25 (vp_updL g 0 v) (fun i => if i = 0 then v else a i) := fun i hi => by
  by_cases e : i = 0
  · subst e
    rw [if_pos rfl]
    exact pk_uLs
  · rw [pk_uLn e, if_neg e]
    exact h i hi
theorem kz_permute {a m c rc : Nat → Int64} {turns targets : Nat → Int32} (hT : kz_tab turns targets) : ∃ a' m' c', kFX4_permute a m c turns targets rc = some (a', m', c') ∧ kz_e25 a' (kz_pm rc a 24) := by
  obtain ⟨⟨c', a', m'⟩, k1, k2⟩ := kz_for (S := fun i u => kSX4_permute_18 turns targets rc i u.1 u.2.1 u.2.2) (g := (c, a, m)) nI 24 (fun k u => kz_e25 u.2.1 (kz_pm rc a k)) (by decide) (fun k u hk hu => ?_) (fun g _ => kb_b_tt (kz_le (n := 24) (Nat.le_refl _) (by decide))) (fun i _ => rfl)
  · refine ⟨a', m', c', ?_, k2⟩
    unfold kFX4_permute
    exact kb_o_v k1
  · obtain ⟨c0, a0, m0⟩ := u
    replace hu : kz_e25 a0 (kz_pm rc a k) := hu
    obtain ⟨c1, q1, q2⟩ := kz_c28 a0 c0
    obtain ⟨m1, q3, q4⟩ := kz_c82 (a := a0) (m := m0) hT q2
    obtain ⟨a1, q5, q6⟩ := kz_c187 (a := a0) (m := m1)
    refine ⟨(c1, vp_updL a1 0 (a1 0 ^^^ rc k), m1), ?_, ?_⟩
    · show kSX4_permute_18 turns targets rc (nI k) c0 a0 m0 = _
      unfold kSX4_permute_18
      refine (kb_b_ff (kz_nle (n := 24) hk (by decide))).trans ?_
      refine (kb_o_v q1).trans ?_
      refine (kb_o_v q3).trans ?_
      refine (kb_o_v q5).trans ?_
      refine (kb_g_tt (kb_in_n hk (by decide))).trans ?_
      refine (kb_n_v (v := vp_updL a1 0 (a1 0 ^^^ rc k)) (by rw [nI_clamp (by omega)]; rfl)).trans ?_
      exact (kb_n_v (kz_inc _)).trans rfl
    · intro i hi
      have h1 : kz_e25 a1 (kz_X (kz_B a0)) := fun i hi => (q6 i hi).trans (kz_X_c q4 i hi)
      show vp_updL a1 0 (a1 0 ^^^ rc k) i = kz_rd rc k (kz_pm rc a k) i
      rw [← kz_rd_c rc k hu i hi]
      rw [kz_e25_upd h1 i hi, h1 0 (by decide)]
      rfl
/-! Layer 2: the reference's permutation. -/
def kz_Cp (a : Nat → Int64) (x : Nat) : Nat → Int64
  | 0 => 0
  | k + 1 => kz_Cp a x k ^^^ a (x + 5 * k)
theorem kz_Cp_5 (a : Nat → Int64) (x : Nat) : kz_Cp a x 5 = kz_C a x := by
  show (0 : Int64) ^^^ a (x + 5 * 0) ^^^ a (x + 5 * 1) ^^^ a (x + 5 * 2) ^^^ a (x + 5 * 3) ^^^ a (x + 5 * 4) = kz_C a x
  rw [Int64.zero_xor]
  rfl
theorem kz_r24 {a c : Nat → Int64} {x : Nat} (hx : x < 5) (hc : ∀ y, y < x → c y = kz_C a y) :
    ∃ g, kb_w (fun u : Int32 × (Nat → Int64) => kSX5_permute_24 (nI x) a u.1 u.2) 100000 ((0 : Int32), vp_updL c x 0) = some (nI 5, g) ∧ ∀ y, y < x + 1 → g y = kz_C a y := by
  obtain ⟨g, k1, k2, k3⟩ := kz_for (S := fun i c => kSX5_permute_24 (nI x) a i c) (g := vp_updL c x 0) nI 5 (fun k c => c x = kz_Cp a x k ∧ ∀ y, y < x → c y = kz_C a y) (by decide) (fun k g hk hg => ⟨vp_updL g x (kz_Cp a x (k + 1)), ?_, pk_uLs, fun y hy => by rw [pk_uLn (by omega)]; exact hg.2 y hy⟩) (fun g _ => kb_b_tt (kz_le (n := 5) (Nat.le_refl _) (by decide))) ⟨pk_uLs, fun y hy => by rw [pk_uLn (by omega)]; exact hc y hy⟩
  · refine ⟨g, k1, fun y hy => ?_⟩
    by_cases e : y = x
    · subst e
      rw [k2, kz_Cp_5]
    · exact k3 y (by omega)
  · show kSX5_permute_24 (nI x) a (nI k) g = _
    unfold kSX5_permute_24
    rw [show (5 : Int32) * nI k = nI (5 * k) from pk_mul _ _, nI_add, nI_clamp (show x < 2 ^ 31 by omega), nI_clamp (show x + 5 * k < 2 ^ 31 by omega)]
    refine (kb_b_ff (kz_nle (n := 5) hk (by decide))).trans ?_
    refine (kb_g_tt (kb_in_n hx (by decide))).trans ?_
    refine (kb_g_tt (kb_in_n (by omega) (by decide))).trans ?_
    refine (kb_g_tt (kb_in_n hx (by decide))).trans ?_
    refine (kb_n_v (v := vp_updL g x (kz_Cp a x (k + 1))) (by rw [hg.1]; rfl)).trans ?_
    exact (kb_n_v (kz_inc _)).trans rfl
theorem kz_r10 (a c : Nat → Int64) : ∃ g, kb_w (fun u : Int32 × (Nat → Int64) => kSX5_permute_10 a u.1 u.2) 100000 ((0 : Int32), c) = some (nI 5, g) ∧ ∀ x, x < 5 → g x = kz_C a x := by
  refine kz_for (S := fun x c => kSX5_permute_10 a x c) nI 5 (fun k c => ∀ x, x < k → c x = kz_C a x) (by decide) (fun k g hk hg => ?_) (fun g _ => kb_b_tt (kz_le (n := 5) (Nat.le_refl _) (by decide))) (fun x hx => absurd hx (by omega))
  obtain ⟨g', m1, m2⟩ := kz_r24 (a := a) hk hg
  refine ⟨g', ?_, m2⟩
  show kSX5_permute_10 a (nI k) g = _
  unfold kSX5_permute_10
  refine (kb_b_ff (kz_nle (n := 5) hk (by decide))).trans ?_
  refine (kb_g_tt (kb_in_n hk (by decide))).trans ?_
  refine (kb_n_v (v := vp_updL g k 0) (by rw [nI_clamp (by omega)])).trans ?_
  refine (kb_o_v m1).trans ?_
  exact (kb_n_v (kz_inc _)).trans rfl
theorem kz_r69 {a s c : Nat → Int64} {x : Nat} (hx : x < 5) (hc : ∀ y, y < 5 → c y = kz_C a y) (hs : ∀ i, i < 25 → s i = if i % 5 < x then a i ^^^ kz_D a (i % 5) else a i) :
    ∃ g, kb_w (fun u : Int32 × (Nat → Int64) => kSX5_permute_69 (nI x) c u.1 u.2) 100000 ((0 : Int32), s) = some (nI 5, g) ∧ ∀ i, i < 25 → g i = if i % 5 < x + 1 then a i ^^^ kz_D a (i % 5) else a i := by
  obtain ⟨g, k1, k2⟩ := kz_for (S := fun i c' => kSX5_permute_69 (nI x) c i c') (g := s) nI 5 (fun k s => ∀ i, i < 25 → s i = if i % 5 < x ∨ i % 5 = x ∧ i / 5 < k then a i ^^^ kz_D a (i % 5) else a i) (by decide) (fun k g hk hg => ⟨vp_updL g (x + 5 * k) (a (x + 5 * k) ^^^ kz_D a x), ?_, fun i hi => ?_⟩) (fun g _ => kb_b_tt (kz_le (n := 5) (Nat.le_refl _) (by decide))) (fun i hi => ?_)
  · refine ⟨g, k1, fun i hi => ?_⟩
    rw [k2 i hi]
    by_cases e : i % 5 < x + 1
    · rw [if_pos e, if_pos (by omega)]
    · rw [if_neg e, if_neg (by omega)]
  · show kSX5_permute_69 (nI x) c (nI k) g = _
    have hgi := hg (x + 5 * k) (by omega)
    rw [if_neg (by omega)] at hgi
    unfold kSX5_permute_69
    rw [show (5 : Int32) * nI k = nI (5 * k) from pk_mul _ _, nI_add x (5 * k), nI_clamp (show x + 5 * k < 2 ^ 31 by omega)]
    refine (kb_b_ff (kz_nle (n := 5) hk (by decide))).trans ?_
    refine (kb_g_tt (kb_in_n (by omega) (by decide))).trans ?_
    refine (kb_n_v (v := nI ((x + 4) % 5)) (kz_mod5 4 hx (by decide))).trans ?_
    refine (kb_g_tt (kb_in_n (by omega) (by decide))).trans ?_
    refine (kb_n_v (v := nI ((x + 1) % 5)) (kz_mod5 1 hx (by decide))).trans ?_
    refine (kb_g_tt (kb_in_n (by omega) (by decide))).trans ?_
    refine (kb_o_v (kz_left _ _)).trans ?_
    refine (kb_g_tt (kb_in_n (by omega) (by decide))).trans ?_
    refine (kb_n_v (v := vp_updL g (x + 5 * k) (a (x + 5 * k) ^^^ kz_D a x)) ?_).trans ?_
    · rw [hgi, nI_clamp (show (x + 4) % 5 < 2 ^ 31 by omega), nI_clamp (show (x + 1) % 5 < 2 ^ 31 by omega), hc _ (by omega), hc _ (by omega)]
      rfl
    exact (kb_n_v (kz_inc _)).trans rfl
  · show vp_updL g (x + 5 * k) (a (x + 5 * k) ^^^ kz_D a x) i = _
    by_cases e : i = x + 5 * k
    · subst e
      rw [pk_uLs, if_pos (by omega), show (x + 5 * k) % 5 = x by omega]
    · rw [pk_uLn e, hg i hi]
      by_cases e2 : i % 5 < x ∨ i % 5 = x ∧ i / 5 < k
      · rw [if_pos e2, if_pos (by omega)]
      · rw [if_neg e2, if_neg (by omega)]
  · rw [hs i hi]
    by_cases e : i % 5 < x
    · rw [if_pos e, if_pos (Or.inl e)]
    · rw [if_neg e, if_neg (by omega)]
theorem kz_r62 {a c : Nat → Int64} (hc : ∀ y, y < 5 → c y = kz_C a y) :
    ∃ g, kb_w (fun u : Int32 × (Nat → Int64) => kSX5_permute_62 c u.1 u.2) 100000 ((0 : Int32), a) = some (nI 5, g) ∧ ∀ i, i < 25 → g i = a i ^^^ kz_D a (i % 5) := by
  obtain ⟨g, k1, k2⟩ := kz_for (S := fun i s => kSX5_permute_62 c i s) (g := a) nI 5 (fun k s => ∀ i, i < 25 → s i = if i % 5 < k then a i ^^^ kz_D a (i % 5) else a i) (by decide) (fun k g hk hg => ?_) (fun g _ => kb_b_tt (kz_le (n := 5) (Nat.le_refl _) (by decide))) (fun i hi => by rw [if_neg (by omega)])
  · exact ⟨g, k1, fun i hi => by rw [k2 i hi, if_pos (by omega)]⟩
  · obtain ⟨g', m1, m2⟩ := kz_r69 hk hc hg
    refine ⟨g', ?_, m2⟩
    show kSX5_permute_62 c (nI k) g = _
    unfold kSX5_permute_62
    refine (kb_b_ff (kz_nle (n := 5) hk (by decide))).trans ?_
    refine (kb_o_v m1).trans ?_
    exact (kb_n_v (kz_inc _)).trans rfl
theorem kz_r133 {a s o : Nat → Int64} {turns : Nat → Int32} {x : Nat} (hT : ∀ i, i < 25 → turns i = nI (kz_tn i)) (hx : x < 5) (hs : ∀ i, i < 25 → s i = a i ^^^ kz_D a (i % 5)) (ho : ∀ p, p < 25 → kz_in p % 5 < x → o p = kz_B a p) :
    ∃ g, kb_w (fun u : Int32 × (Nat → Int64) => kSX5_permute_133 (nI x) turns s u.1 u.2) 100000 ((0 : Int32), o) = some (nI 5, g) ∧ ∀ p, p < 25 → kz_in p % 5 < x + 1 → g p = kz_B a p := by
  obtain ⟨g, k1, k2⟩ := kz_for (S := fun i o => kSX5_permute_133 (nI x) turns s i o) (g := o) nI 5 (fun k o => ∀ p, p < 25 → kz_in p % 5 < x ∨ kz_in p % 5 = x ∧ kz_in p / 5 < k → o p = kz_B a p) (by decide) (fun k g hk hg => ⟨vp_updL g (kz_tg (x + 5 * k)) (kz_rot (s (x + 5 * k)) (nI (kz_tn (x + 5 * k)))), ?_, fun p hp hc => ?_⟩) (fun g _ => kb_b_tt (kz_le (n := 5) (Nat.le_refl _) (by decide))) (fun p hp hc => ho p hp (by omega))
  · refine ⟨g, k1, fun p hp hc => k2 p hp ?_⟩
    have := (kz_in_tg p hp).1
    omega
  · show kSX5_permute_133 (nI x) turns s (nI k) g = _
    have hi : x + 5 * k < 25 := by omega
    have ht : kz_tg (x + 5 * k) = k + 5 * ((2 * x + 3 * k) % 5) := by
      unfold kz_tg
      rw [show (x + 5 * k) / 5 = k by omega, show (x + 5 * k) % 5 = x by omega]
    have hti := (kz_tg_in _ hi).1
    unfold kSX5_permute_133
    rw [show (5 : Int32) * nI k = nI (5 * k) from pk_mul _ _, nI_add x (5 * k), nI_clamp (show x + 5 * k < 2 ^ 31 by omega), hT _ hi, show (2 : Int32) * nI x = nI (2 * x) from pk_mul _ _, show (3 : Int32) * nI k = nI (3 * k) from pk_mul _ _, nI_add (2 * x) (3 * k)]
    refine (kb_b_ff (kz_nle (n := 5) hk (by decide))).trans ?_
    refine (kb_n_v (v := nI ((2 * x + 3 * k) % 5)) (pk_rem (d := 5) (by omega) (by decide) (by decide))).trans ?_
    refine (kb_g_tt (kb_in_n hi (by decide))).trans ?_
    refine (kb_g_tt (kb_in_n hi (by decide))).trans ?_
    refine (kb_o_v (kz_left _ _)).trans ?_
    rw [show nI k + (5 : Int32) * nI ((2 * x + 3 * k) % 5) = nI (kz_tg (x + 5 * k)) by rw [show (5 : Int32) * nI ((2 * x + 3 * k) % 5) = nI (5 * ((2 * x + 3 * k) % 5)) from pk_mul _ _, nI_add, ht], nI_clamp (show kz_tg (x + 5 * k) < 2 ^ 31 by omega)]
    refine (kb_g_tt (kb_in_n hti (by decide))).trans ?_
    refine (kb_n_v rfl).trans ?_
    exact (kb_n_v (kz_inc _)).trans rfl
  · show vp_updL g (kz_tg (x + 5 * k)) (kz_rot (s (x + 5 * k)) (nI (kz_tn (x + 5 * k)))) p = kz_B a p
    have hi : x + 5 * k < 25 := by omega
    by_cases e : p = kz_tg (x + 5 * k)
    · subst e
      rw [pk_uLs, hs _ hi]
      unfold kz_B
      rw [(kz_tg_in _ hi).2]
    · rw [pk_uLn e]
      have hne : kz_in p ≠ x + 5 * k := fun h => e (by rw [← h]; exact (kz_in_tg p hp).2.symm)
      exact hg p hp (by omega)
theorem kz_r126 {a s o : Nat → Int64} {turns : Nat → Int32} (hT : ∀ i, i < 25 → turns i = nI (kz_tn i)) (hs : ∀ i, i < 25 → s i = a i ^^^ kz_D a (i % 5)) :
    ∃ g, kb_w (fun u : Int32 × (Nat → Int64) => kSX5_permute_126 turns s u.1 u.2) 100000 ((0 : Int32), o) = some (nI 5, g) ∧ kz_e25 g (kz_B a) := by
  obtain ⟨g, k1, k2⟩ := kz_for (S := fun i o => kSX5_permute_126 turns s i o) (g := o) nI 5 (fun k o => ∀ p, p < 25 → kz_in p % 5 < k → o p = kz_B a p) (by decide) (fun k g hk hg => ?_) (fun g _ => kb_b_tt (kz_le (n := 5) (Nat.le_refl _) (by decide))) (fun p hp hc => absurd hc (by omega))
  · exact ⟨g, k1, fun p hp => k2 p hp (by omega)⟩
  · obtain ⟨g', m1, m2⟩ := kz_r133 hT hk hs hg
    refine ⟨g', ?_, m2⟩
    show kSX5_permute_126 turns s (nI k) g = _
    unfold kSX5_permute_126
    refine (kb_b_ff (kz_nle (n := 5) hk (by decide))).trans ?_
    refine (kb_o_v m1).trans ?_
    exact (kb_n_v (kz_inc _)).trans rfl
theorem kz_r200 {m s : Nat → Int64} {x : Nat} (hx : x < 5) (hs : ∀ i, i < 25 → i % 5 < x → s i = kz_X m i) :
    ∃ g, kb_w (fun u : Int32 × (Nat → Int64) => kSX5_permute_200 (nI x) m u.1 u.2) 100000 ((0 : Int32), s) = some (nI 5, g) ∧ ∀ i, i < 25 → i % 5 < x + 1 → g i = kz_X m i := by
  obtain ⟨g, k1, k2⟩ := kz_for (S := fun i s => kSX5_permute_200 (nI x) m i s) (g := s) nI 5 (fun k s => ∀ i, i < 25 → i % 5 < x ∨ i % 5 = x ∧ i / 5 < k → s i = kz_X m i) (by decide) (fun k g hk hg => ⟨vp_updL g (x + 5 * k) (kz_X m (x + 5 * k)), ?_, fun i hi hc => ?_⟩) (fun g _ => kb_b_tt (kz_le (n := 5) (Nat.le_refl _) (by decide))) (fun i hi hc => hs i hi (by omega))
  · exact ⟨g, k1, fun i hi hc => k2 i hi (by omega)⟩
  · show kSX5_permute_200 (nI x) m (nI k) g = _
    unfold kSX5_permute_200
    rw [show (5 : Int32) * nI k = nI (5 * k) from pk_mul _ _, nI_add x (5 * k), nI_clamp (show x + 5 * k < 2 ^ 31 by omega)]
    refine (kb_b_ff (kz_nle (n := 5) hk (by decide))).trans ?_
    refine (kb_g_tt (kb_in_n (by omega) (by decide))).trans ?_
    refine (kb_n_v (v := nI ((x + 1) % 5)) (kz_mod5 1 hx (by decide))).trans ?_
    rw [nI_add ((x + 1) % 5) (5 * k), nI_clamp (show (x + 1) % 5 + 5 * k < 2 ^ 31 by omega)]
    refine (kb_g_tt (kb_in_n (by omega) (by decide))).trans ?_
    refine (kb_n_v (v := nI ((x + 2) % 5)) (kz_mod5 2 hx (by decide))).trans ?_
    rw [nI_add ((x + 2) % 5) (5 * k), nI_clamp (show (x + 2) % 5 + 5 * k < 2 ^ 31 by omega)]
    refine (kb_g_tt (kb_in_n (by omega) (by decide))).trans ?_
    refine (kb_g_tt (kb_in_n (by omega) (by decide))).trans ?_
    refine (kb_n_v (v := vp_updL g (x + 5 * k) (kz_X m (x + 5 * k))) ?_).trans ?_
    · unfold kz_X
      rw [show (x + 5 * k) / 5 * 5 + ((x + 5 * k) % 5 + 1) % 5 = (x + 1) % 5 + 5 * k by omega, show (x + 5 * k) / 5 * 5 + ((x + 5 * k) % 5 + 2) % 5 = (x + 2) % 5 + 5 * k by omega]
    exact (kb_n_v (kz_inc _)).trans rfl
  · show vp_updL g (x + 5 * k) (kz_X m (x + 5 * k)) i = _
    by_cases e : i = x + 5 * k
    · subst e
      exact pk_uLs
    · rw [pk_uLn e]
      exact hg i hi (by omega)
theorem kz_r193 (m s : Nat → Int64) : ∃ g, kb_w (fun u : Int32 × (Nat → Int64) => kSX5_permute_193 m u.1 u.2) 100000 ((0 : Int32), s) = some (nI 5, g) ∧ kz_e25 g (kz_X m) := by
  obtain ⟨g, k1, k2⟩ := kz_for (S := fun i s => kSX5_permute_193 m i s) (g := s) nI 5 (fun k s => ∀ i, i < 25 → i % 5 < k → s i = kz_X m i) (by decide) (fun k g hk hg => ?_) (fun g _ => kb_b_tt (kz_le (n := 5) (Nat.le_refl _) (by decide))) (fun i hi hc => absurd hc (by omega))
  · exact ⟨g, k1, fun i hi => k2 i hi (by omega)⟩
  · obtain ⟨g', m1, m2⟩ := kz_r200 hk hg
    refine ⟨g', ?_, m2⟩
    show kSX5_permute_193 m (nI k) g = _
    unfold kSX5_permute_193
    refine (kb_b_ff (kz_nle (n := 5) hk (by decide))).trans ?_
    refine (kb_o_v m1).trans ?_
    exact (kb_n_v (kz_inc _)).trans rfl
theorem kz_rpermute {a m c rc : Nat → Int64} {turns : Nat → Int32} (hT : ∀ i, i < 25 → turns i = nI (kz_tn i)) : ∃ a' m' c', kFX5_permute turns rc a m c = some (a', m', c') ∧ kz_e25 a' (kz_pm rc a 24) := by
  obtain ⟨⟨c', m', a'⟩, k1, k2⟩ := kz_for (S := fun i u => kSX5_permute_2 turns rc i u.1 u.2.1 u.2.2) (g := (c, m, a)) nI 24 (fun k u => kz_e25 u.2.2 (kz_pm rc a k)) (by decide) (fun k u hk hu => ?_) (fun g _ => kb_b_tt (kz_le (n := 24) (Nat.le_refl _) (by decide))) (fun i _ => rfl)
  · refine ⟨a', m', c', ?_, k2⟩
    unfold kFX5_permute
    exact kb_o_v k1
  · obtain ⟨c0, m0, a0⟩ := u
    replace hu : kz_e25 a0 (kz_pm rc a k) := hu
    obtain ⟨c1, q1, q2⟩ := kz_r10 a0 c0
    obtain ⟨s1, q3, q4⟩ := kz_r62 q2
    obtain ⟨m1, q5, q6⟩ := kz_r126 (o := m0) hT q4
    obtain ⟨a1, q7, q8⟩ := kz_r193 m1 s1
    refine ⟨(c1, m1, vp_updL a1 0 (a1 0 ^^^ rc k)), ?_, ?_⟩
    · show kSX5_permute_2 turns rc (nI k) c0 m0 a0 = _
      unfold kSX5_permute_2
      refine (kb_b_ff (kz_nle (n := 24) hk (by decide))).trans ?_
      refine (kb_o_v q1).trans ?_
      refine (kb_o_v q3).trans ?_
      refine (kb_o_v q5).trans ?_
      refine (kb_o_v q7).trans ?_
      refine (kb_g_tt (kb_in_n hk (by decide))).trans ?_
      refine (kb_n_v (v := vp_updL a1 0 (a1 0 ^^^ rc k)) (by rw [nI_clamp (by omega)]; rfl)).trans ?_
      exact (kb_n_v (kz_inc _)).trans rfl
    · intro i hi
      have h1 : kz_e25 a1 (kz_X (kz_B a0)) := fun i hi => (q8 i hi).trans (kz_X_c q6 i hi)
      show vp_updL a1 0 (a1 0 ^^^ rc k) i = kz_rd rc k (kz_pm rc a k) i
      rw [← kz_rd_c rc k hu i hi]
      rw [kz_e25_upd h1 i hi, h1 0 (by decide)]
      rfl
/-! Layer 2: the sponges, of the class and of the reference: one pure sponge. -/
theorem kz_eqt {a b : Nat} (h : a = b) : decide (nI a = nI b) = true := decide_eq_true (by rw [h])
theorem kz_eqf {a b : Nat} (h : a ≠ b) (ha : a < 2 ^ 31) (hb : b < 2 ^ 31) : decide (nI a = nI b) = false := decide_eq_false (fun e => h ((nI_eq ha hb).1 e))
theorem kz_pm_c {a b : Nat → Int64} (rc : Nat → Int64) (h : kz_e25 a b) : ∀ r, kz_e25 (kz_pm rc a r) (kz_pm rc b r)
  | 0 => h
  | r + 1 => kz_rd_c rc r (kz_pm_c rc h r)
def kz_mx (v : Int32) (p : Nat) : Int64 := ((v.toInt64) &&& (255 : Int64)) <<< ((nI (8 * (p % 8))).toInt64 &&& 63)
def kz_mixL (L : Nat → Int64) (v : Int32) (p : Nat) : Nat → Int64 := vp_updL L (p / 8) (L (p / 8) ^^^ kz_mx v p)
theorem kz_updL_c {a b : Nat → Int64} {k : Nat} {x y : Int64} (h : kz_e25 a b) (hx : x = y) : kz_e25 (vp_updL a k x) (vp_updL b k y) := fun i hi => by
  by_cases e : i = k
  · subst e
    rw [pk_uLs, pk_uLs, hx]
  · rw [pk_uLn e, pk_uLn e]
    exact h i hi
theorem kz_mixL_c {a b : Nat → Int64} (v : Int32) {p : Nat} (hp : p < 200) (h : kz_e25 a b) : kz_e25 (kz_mixL a v p) (kz_mixL b v p) :=
  kz_updL_c h (by rw [h (p / 8) (by omega)])
theorem kz_mixIn (L : Nat → Int64) (v : Int32) {p : Nat} (hp : p < 200) : kFX4_mixIn (nI p) v L = some (kz_mixL L v p) := by
  unfold kFX4_mixIn
  rw [pk_shrN (show p < 2 ^ 31 by omega) ((3 : Int32) &&& 31) 3 (by decide +kernel), pk_andN (show p < 2 ^ 32 by omega) 3 (by decide +kernel), show (2 ^ 3 : Nat) = 8 from rfl, nI_clamp (show p / 8 < 2 ^ 31 by omega), show (8 : Int32) * nI (p % 8) = nI (8 * (p % 8)) from pk_mul _ _]
  refine (kb_g_tt (kb_in_n (by omega) (by decide))).trans ?_
  refine (kb_g_tt (kb_in_n (by omega) (by decide))).trans ?_
  exact (kb_n_v rfl).trans rfl
theorem kz_flip (L : Nat → Int64) (v : Int32) {p : Nat} (hp : p < 200) : kFX5_flip (nI p) v L = some (kz_mixL L v p) := by
  unfold kFX5_flip
  rw [show nI p - nI p / (8 : Int32) * (8 : Int32) = nI (p % 8) from pk_rem (d := 8) (by omega) (by decide) (by decide), show nI p / (8 : Int32) = nI (p / 8) from pk_div (d := 8) (by omega) (by decide) (by decide), nI_clamp (show p / 8 < 2 ^ 31 by omega), show (8 : Int32) * nI (p % 8) = nI (8 * (p % 8)) from pk_mul _ _]
  refine (kb_g_tt (kb_in_n (by omega) (by decide))).trans ?_
  refine (kb_g_tt (kb_in_n (by omega) (by decide))).trans ?_
  exact (kb_n_v rfl).trans rfl
abbrev kz_SP : Type := (Nat → Int64) × Nat
def kz_ab1 (rc : Nat → Int64) (R : Nat) (v : Int32) (u : kz_SP) : kz_SP := if u.2 + 1 = R then (kz_pm rc (kz_mixL u.1 v u.2) 24, 0) else (kz_mixL u.1 v u.2, u.2 + 1)
def kz_ab (rc : Nat → Int64) (R : Nat) (v : Nat → Int32) (u : kz_SP) : Nat → kz_SP
  | 0 => u
  | n + 1 => kz_ab1 rc R (v n) (kz_ab rc R v u n)
def kz_fin (rc : Nat → Int64) (R : Nat) (sf : Int32) (u : kz_SP) : kz_SP := (kz_pm rc (kz_mixL (kz_mixL u.1 sf u.2) 128 (R - 1)) 24, 0)
def kz_sz (rc : Nat → Int64) (R : Nat) (u : kz_SP) : kz_SP := if u.2 = R then (kz_pm rc u.1 24, 0) else u
def kz_xo (u : kz_SP) : Int32 := ((u.1 (u.2 / 8)).toUInt64 >>> ((nI (8 * (u.2 % 8))).toInt64.toUInt64 &&& Int64.toUInt64 63)).toInt64.toInt32
def kz_ob (u : kz_SP) : Nat := (kz_xo u).toBitVec.toNat % 256
def kz_gv (rc : Nat → Int64) (R : Nat) (u : kz_SP) : Nat → kz_SP
  | 0 => u
  | n + 1 => ((kz_sz rc R (kz_gv rc R u n)).1, (kz_sz rc R (kz_gv rc R u n)).2 + 1)
/-- the byte of number n that comes out -/
def kz_gb (rc : Nat → Int64) (R : Nat) (u : kz_SP) (n : Nat) : Nat := kz_ob (kz_sz rc R (kz_gv rc R u n))
theorem kz_gb_lt (rc : Nat → Int64) (R : Nat) (u : kz_SP) (n : Nat) : kz_gb rc R u n < 256 := Nat.mod_lt _ (by decide)
theorem kz_ab1_lt {rc : Nat → Int64} {R : Nat} {v : Int32} {u : kz_SP} (hR : 0 < R) (h : u.2 < R) : (kz_ab1 rc R v u).2 < R := by
  unfold kz_ab1
  by_cases e : u.2 + 1 = R
  · rw [if_pos e]; exact hR
  · rw [if_neg e]
    show u.2 + 1 < R
    omega
theorem kz_ab_lt {rc : Nat → Int64} {R : Nat} {v : Nat → Int32} {u : kz_SP} (hR : 0 < R) (h : u.2 < R) : ∀ n, (kz_ab rc R v u n).2 < R
  | 0 => h
  | n + 1 => kz_ab1_lt hR (kz_ab_lt hR h n)
theorem kz_sz_lt {rc : Nat → Int64} {R : Nat} {u : kz_SP} (hR : 0 < R) (h : u.2 ≤ R) : (kz_sz rc R u).2 < R := by
  unfold kz_sz
  by_cases e : u.2 = R
  · rw [if_pos e]; exact hR
  · rw [if_neg e]; omega
theorem kz_gv_le {rc : Nat → Int64} {R : Nat} {u : kz_SP} (hR : 0 < R) (h : u.2 ≤ R) : ∀ n, (kz_gv rc R u n).2 ≤ R
  | 0 => h
  | n + 1 => kz_sz_lt hR (kz_gv_le hR h n)
-- ===== a number of 32 bits and its byte
theorem kz_nIx (x : Int32) : nI x.toBitVec.toNat = x := by
  apply Int32.toBitVec_inj.1
  show BitVec.ofNat 32 x.toBitVec.toNat = x.toBitVec
  simp
theorem kz_x255 (x : Int32) : x &&& (255 : Int32) = nI (x.toBitVec.toNat % 256) := pk_and x 8 (by decide +kernel)
theorem kz_xby (x : Int32) : x.toInt8.toInt32 = kz_by (x.toBitVec.toNat % 256) := by
  rw [kz_by_mod]
  unfold kz_by
  rw [kz_nIx]
-- ===== the class
theorem kz_start (f : Nat → Int64) (R : Int32) : ∃ g, kFX4_start R f = some ((0 : Int32), R, g) ∧ kz_e25 g (fun _ => 0) := by
  obtain ⟨g, k1, k2⟩ := kz_for (S := fun i f => kSX4_start_2 i f) (g := f) nI 25 (fun k f => ∀ i, i < k → f i = 0) (by decide) (fun k g hk hg => ⟨vp_updL g k 0, ?_, fun i hi => ?_⟩) (fun g _ => kb_b_tt (kz_le (n := 25) (Nat.le_refl _) (by decide))) (fun i hi => absurd hi (by omega))
  · refine ⟨g, ?_, k2⟩
    unfold kFX4_start
    exact kb_o_v k1
  · show kSX4_start_2 (nI k) g = _
    unfold kSX4_start_2
    rw [nI_clamp (show k < 2 ^ 31 by omega)]
    refine (kb_b_ff (kz_nle (n := 25) hk (by decide))).trans ?_
    refine (kb_g_tt (kb_in_n hk (by decide))).trans ?_
    refine (kb_n_v rfl).trans ?_
    exact (kb_n_v (kz_inc _)).trans rfl
  · show vp_updL g k 0 i = 0
    by_cases e : i = k
    · subst e; exact pk_uLs
    · rw [pk_uLn e]; exact hg i (by omega)
theorem kz_take {rc lanes moved columns : Nat → Int64} {turns targets f : Nat → Int32} {R at' n n1 : Nat} {u : kz_SP} (hT : kz_tab turns targets) (hR : 0 < R) (hR2 : R ≤ 200) (hu : u.2 < R) (hL : kz_e25 lanes u.1) (hn : at' + n ≤ n1) (hn1 : n1 < 2 ^ 31) (hn2 : n < 100000) :
    ∃ lanes' moved' columns', kFX4_take (nI at') (nI n) n1 (nI R) (nI u.2) lanes moved columns turns targets rc f = some (nI (kz_ab rc R (fun k => f (at' + k)) u n).2, lanes', moved', columns') ∧ kz_e25 lanes' (kz_ab rc R (fun k => f (at' + k)) u n).1 := by
  obtain ⟨⟨pl, c', l', m'⟩, k1, k2, k3⟩ := kz_for (S := fun i z => kSX4_take_3 (nI at') (nI n) n1 (nI R) turns targets rc f i z.1 z.2.1 z.2.2.1 z.2.2.2) (g := (nI u.2, columns, lanes, moved)) nI n (fun k z => z.1 = nI (kz_ab rc R (fun k => f (at' + k)) u k).2 ∧ kz_e25 z.2.2.1 (kz_ab rc R (fun k => f (at' + k)) u k).1) hn2 (fun k z hk hz => ?_) (fun g _ => kb_b_tt (kz_le (n := n) (Nat.le_refl _) (by omega))) ⟨rfl, hL⟩
  · have k2 : pl = _ := k2
    subst k2
    refine ⟨l', m', c', ?_, k3⟩
    unfold kFX4_take
    exact kb_o_v k1
  · obtain ⟨pl, c0, l0, m0⟩ := z
    obtain ⟨h1, h2⟩ := hz
    replace h1 : pl = _ := h1
    replace h2 : kz_e25 l0 (kz_ab rc R (fun k => f (at' + k)) u k).1 := h2
    subst h1
    have hlt := kz_ab_lt (rc := rc) (v := fun k => f (at' + k)) hR hu k
    show ∃ g', kSX4_take_3 (nI at') (nI n) n1 (nI R) turns targets rc f (nI k) (nI (kz_ab rc R (fun k => f (at' + k)) u k).2) c0 l0 m0 = some (.inl (nI (k + 1), g')) ∧ g'.1 = nI (kz_ab1 rc R (f (at' + k)) (kz_ab rc R (fun k => f (at' + k)) u k)).2 ∧ kz_e25 g'.2.2.1 (kz_ab1 rc R (f (at' + k)) (kz_ab rc R (fun k => f (at' + k)) u k)).1
    generalize kz_ab rc R (fun k => f (at' + k)) u k = w at h2 hlt
    have hc := kz_mixL_c (f (at' + k)) (p := w.2) (by omega) h2
    unfold kSX4_take_3
    rw [nI_add, nI_clamp (show at' + k < 2 ^ 31 by omega)]
    by_cases e : w.2 + 1 = R
    · obtain ⟨a', m', c', q1, q2⟩ := kz_permute (a := kz_mixL l0 (f (at' + k)) w.2) (m := m0) (c := c0) (rc := rc) hT
      refine ⟨((0 : Int32), c', a', m'), ?_, ?_, ?_⟩
      · refine (kb_b_ff (kz_nle hk (by omega))).trans ?_
        refine (kb_g_tt (kb_in_n (by omega) hn1)).trans ?_
        refine (kb_o_v (kz_mixIn l0 _ (by omega))).trans ?_
        refine (kb_n_v (v := nI (w.2 + 1)) (nI_1 _)).trans ?_
        refine (kb_b_tt (kz_eqt e)).trans ?_
        refine (kb_o_v q1).trans ?_
        exact (kb_n_v (kz_inc _)).trans rfl
      · show (0 : Int32) = _
        unfold kz_ab1
        rw [if_pos e]
        rfl
      · show kz_e25 a' _
        unfold kz_ab1
        rw [if_pos e]
        exact fun i hi => (q2 i hi).trans (kz_pm_c rc hc 24 i hi)
    · refine ⟨(nI (w.2 + 1), c0, kz_mixL l0 (f (at' + k)) w.2, m0), ?_, ?_, ?_⟩
      · refine (kb_b_ff (kz_nle hk (by omega))).trans ?_
        refine (kb_g_tt (kb_in_n (by omega) hn1)).trans ?_
        refine (kb_o_v (kz_mixIn l0 _ (by omega))).trans ?_
        refine (kb_n_v (v := nI (w.2 + 1)) (nI_1 _)).trans ?_
        refine (kb_b_ff (kz_eqf e (by omega) (by omega))).trans ?_
        exact (kb_n_v (kz_inc _)).trans rfl
      · show nI (w.2 + 1) = _
        unfold kz_ab1
        rw [if_neg e]
      · show kz_e25 (kz_mixL l0 (f (at' + k)) w.2) _
        unfold kz_ab1
        rw [if_neg e]
        exact hc
theorem kz_finish {rc lanes moved columns : Nat → Int64} {turns targets : Nat → Int32} {R : Nat} {sf : Int32} {u : kz_SP} (hT : kz_tab turns targets) (hR : 0 < R) (hR2 : R ≤ 200) (hu : u.2 < R) (hL : kz_e25 lanes u.1) :
    ∃ lanes' moved' columns', kFX4_finish sf (nI R) (nI u.2) lanes moved columns turns targets rc = some ((0 : Int32), lanes', moved', columns') ∧ kz_e25 lanes' (kz_fin rc R sf u).1 := by
  obtain ⟨a', m', c', q1, q2⟩ := kz_permute (a := kz_mixL (kz_mixL lanes sf u.2) 128 (R - 1)) (m := moved) (c := columns) (rc := rc) hT
  refine ⟨a', m', c', ?_, fun i hi => (q2 i hi).trans (kz_pm_c rc (kz_mixL_c 128 (by omega) (kz_mixL_c sf (by omega) hL)) 24 i hi)⟩
  unfold kFX4_finish
  refine (kb_o_v (kz_mixIn lanes sf (by omega))).trans ?_
  rw [show nI R - (1 : Int32) = nI (R - 1) from pk_sub (by omega)]
  refine (kb_o_v (kz_mixIn _ 128 (by omega))).trans ?_
  exact kb_o_v q1
theorem kz_give {rc lanes moved columns : Nat → Int64} {turns targets f : Nat → Int32} {R at' n n1 : Nat} {u : kz_SP} (hT : kz_tab turns targets) (hR : 0 < R) (hR2 : R ≤ 200) (hu : u.2 ≤ R) (hL : kz_e25 lanes u.1) (hn : at' + n ≤ n1) (hn1 : n1 < 2 ^ 31) (hn2 : n < 100000) :
    ∃ lanes' moved' columns' f', kFX4_give (nI at') (nI n) n1 (nI R) (nI u.2) lanes moved columns turns targets rc f = some (nI (kz_gv rc R u n).2, lanes', moved', columns', f') ∧ kz_e25 lanes' (kz_gv rc R u n).1 ∧ ∀ k, f' k = if at' ≤ k ∧ k < at' + n then kz_by (kz_gb rc R u (k - at')) else f k := by
  obtain ⟨⟨f', pl, c', l', m'⟩, k1, k2, k3, k4⟩ := kz_for (S := fun i z => kSX4_give_3 (nI at') (nI n) n1 (nI R) turns targets rc i z.1 z.2.1 z.2.2.1 z.2.2.2.1 z.2.2.2.2) (g := (f, nI u.2, columns, lanes, moved)) nI n (fun j z => z.2.1 = nI (kz_gv rc R u j).2 ∧ kz_e25 z.2.2.2.1 (kz_gv rc R u j).1 ∧ ∀ k, z.1 k = if at' ≤ k ∧ k < at' + j then kz_by (kz_gb rc R u (k - at')) else f k) hn2 (fun j z hj hz => ?_) (fun g _ => kb_b_tt (kz_le (n := n) (Nat.le_refl _) (by omega))) ⟨rfl, hL, fun k => by rw [if_neg (by omega)]⟩
  · have k2 : pl = _ := k2
    subst k2
    refine ⟨l', m', c', f', ?_, k3, k4⟩
    unfold kFX4_give
    exact kb_o_v k1
  · obtain ⟨f0, pl, c0, l0, m0⟩ := z
    obtain ⟨h1, h2, h3⟩ := hz
    replace h1 : pl = _ := h1
    replace h2 : kz_e25 l0 (kz_gv rc R u j).1 := h2
    replace h3 : ∀ k, f0 k = if at' ≤ k ∧ k < at' + j then kz_by (kz_gb rc R u (k - at')) else f k := h3
    subst h1
    have hle := kz_gv_le (rc := rc) hR hu j
    have hlt := kz_sz_lt (rc := rc) hR hle
    have hput : ∀ k, upd f0 (at' + j) (kz_by (kz_gb rc R u j)) k = if at' ≤ k ∧ k < at' + (j + 1) then kz_by (kz_gb rc R u (k - at')) else f k := fun k => by
      by_cases e : k = at' + j
      · subst e
        rw [pk_us, if_pos ⟨by omega, by omega⟩, show at' + j - at' = j by omega]
      · rw [pk_un e, h3 k]
        by_cases e2 : at' ≤ k ∧ k < at' + j
        · rw [if_pos e2, if_pos ⟨e2.1, by omega⟩]
        · rw [if_neg e2, if_neg (by omega)]
    have key : ∀ (l1 : Nat → Int64) (p : Nat), p < R → kz_e25 l1 (kz_sz rc R (kz_gv rc R u j)).1 → p = (kz_sz rc R (kz_gv rc R u j)).2 → vp_nar .byte ((((l1 (nI p >>> ((3 : Int32) &&& 31)).toNatClampNeg).toUInt64 >>> (((8 : Int32) * (nI p &&& (7 : Int32))).toInt64.toUInt64 &&& Int64.toUInt64 63)).toInt64).toInt32.toInt8.toInt32) = kz_by (kz_gb rc R u j) := fun l1 p hp hl he => by
      rw [pk_vb, kz_xby, pk_shrN (show p < 2 ^ 31 by omega) ((3 : Int32) &&& 31) 3 (by decide +kernel), pk_andN (show p < 2 ^ 32 by omega) 3 (by decide +kernel), show (2 ^ 3 : Nat) = 8 from rfl, nI_clamp (show p / 8 < 2 ^ 31 by omega), show (8 : Int32) * nI (p % 8) = nI (8 * (p % 8)) from pk_mul _ _, hl (p / 8) (by omega), he]
      rfl
    have g1 : ∀ p, p < R → kb_in (nI p >>> ((3 : Int32) &&& 31)) 25 = true := fun p hp => by
      rw [pk_shrN (show p < 2 ^ 31 by omega) ((3 : Int32) &&& 31) 3 (by decide +kernel), show (2 ^ 3 : Nat) = 8 from rfl]
      exact kb_in_n (by omega) (by decide)
    have hadd : nI at' + nI j = nI (at' + j) := nI_add _ _
    by_cases e : (kz_gv rc R u j).2 = R
    · have es : kz_sz rc R (kz_gv rc R u j) = (kz_pm rc (kz_gv rc R u j).1 24, 0) := by unfold kz_sz; rw [if_pos e]
      obtain ⟨a', m', c', q1, q2⟩ := kz_permute (a := l0) (m := m0) (c := c0) (rc := rc) hT
      have q3 : kz_e25 a' (kz_sz rc R (kz_gv rc R u j)).1 := by
        rw [es]
        exact fun i hi => (q2 i hi).trans (kz_pm_c rc h2 24 i hi)
      refine ⟨(upd f0 (at' + j) (kz_by (kz_gb rc R u j)), nI 1, c', a', m'), ?_, ?_, q3, hput⟩
      · show kSX4_give_3 (nI at') (nI n) n1 (nI R) turns targets rc (nI j) f0 (nI (kz_gv rc R u j).2) c0 l0 m0 = _
        unfold kSX4_give_3
        rw [hadd, nI_clamp (show at' + j < 2 ^ 31 by omega)]
        refine (kb_b_ff (kz_nle hj (by omega))).trans ?_
        refine (kb_b_tt (kz_eqt e)).trans ?_
        refine (kb_o_v q1).trans ?_
        refine (kb_g_tt (g1 0 hR)).trans ?_
        refine (kb_g_tt (kb_in_n (by omega) hn1)).trans ?_
        refine (kb_n_v (v := upd f0 (at' + j) (kz_by (kz_gb rc R u j))) (congrArg (upd f0 (at' + j)) (key a' 0 hR q3 (by rw [es])))).trans ?_
        refine (kb_n_v (v := nI 1) rfl).trans ?_
        exact (kb_n_v (kz_inc _)).trans rfl
      · show nI 1 = nI ((kz_sz rc R (kz_gv rc R u j)).2 + 1)
        rw [es]
    · have es : kz_sz rc R (kz_gv rc R u j) = kz_gv rc R u j := by unfold kz_sz; rw [if_neg e]
      refine ⟨(upd f0 (at' + j) (kz_by (kz_gb rc R u j)), nI ((kz_gv rc R u j).2 + 1), c0, l0, m0), ?_, ?_, ?_, hput⟩
      · show kSX4_give_3 (nI at') (nI n) n1 (nI R) turns targets rc (nI j) f0 (nI (kz_gv rc R u j).2) c0 l0 m0 = _
        unfold kSX4_give_3
        rw [hadd, nI_clamp (show at' + j < 2 ^ 31 by omega)]
        refine (kb_b_ff (kz_nle hj (by omega))).trans ?_
        refine (kb_b_ff (kz_eqf e (by omega) (by omega))).trans ?_
        refine (kb_g_tt (g1 _ (by omega))).trans ?_
        refine (kb_g_tt (kb_in_n (by omega) hn1)).trans ?_
        refine (kb_n_v (v := upd f0 (at' + j) (kz_by (kz_gb rc R u j))) (congrArg (upd f0 (at' + j)) (key l0 _ (by omega) (by rw [es]; exact h2) (by rw [es])))).trans ?_
        refine (kb_n_v (v := nI ((kz_gv rc R u j).2 + 1)) (nI_1 _)).trans ?_
        exact (kb_n_v (kz_inc _)).trans rfl
      · show nI ((kz_gv rc R u j).2 + 1) = nI ((kz_sz rc R (kz_gv rc R u j)).2 + 1)
        rw [es]
      · show kz_e25 l0 (kz_sz rc R (kz_gv rc R u j)).1
        rw [es]
        exact h2
-- ===== the reference, kinds above 6
theorem kz_rput {rc state other column words cubes : Nat → Int64} {turns block : Nat → Int32} {R kd : Nat} {tot : Int64} {u : kz_SP} (v : Int32) (hT : ∀ i, i < 25 → turns i = nI (kz_tn i)) (hk : 6 < kd) (hk2 : kd < 20) (hR2 : R ≤ 200) (hu : u.2 < R) (hL : kz_e25 state u.1) :
    ∃ s' o' c', kFX5_put v (nI kd) (nI R) (nI u.2) tot cubes turns rc state other column words block = some (nI (kz_ab1 rc R v u).2, tot + 1, s', o', c', words, block) ∧ kz_e25 s' (kz_ab1 rc R v u).1 := by
  have hsp : kFX5_sponge (nI kd) = some (1 : Int32) := kb_b_ff (kz_nle (n := kd) (i := 6) hk (by omega))
  have hc := kz_mixL_c v (p := u.2) (by omega) hL
  by_cases e : u.2 + 1 = R
  · obtain ⟨a', m', c', q1, q2⟩ := kz_rpermute (a := kz_mixL state v u.2) (m := other) (c := column) (rc := rc) hT
    refine ⟨a', m', c', ?_, ?_⟩
    · unfold kFX5_put
      refine (kb_o_v hsp).trans ?_
      refine (kb_b_ff (by decide)).trans ?_
      refine (kb_o_v (kz_flip state v (by omega))).trans ?_
      show kJX5_put_30 _ _ _ _ _ _ _ _ _ _ _ _ = _
      unfold kJX5_put_30
      refine (kb_n_v (v := nI (u.2 + 1)) (nI_1 _)).trans ?_
      refine (kb_n_v rfl).trans ?_
      refine (kb_b_tt (kz_eqt e)).trans ?_
      refine (kb_o_v hsp).trans ?_
      refine (kb_b_ff (by decide)).trans ?_
      refine (kb_o_v q1).trans ?_
      unfold kz_ab1
      rw [if_pos e]
      rfl
    · unfold kz_ab1
      rw [if_pos e]
      exact fun i hi => (q2 i hi).trans (kz_pm_c rc hc 24 i hi)
  · refine ⟨kz_mixL state v u.2, other, column, ?_, ?_⟩
    · unfold kFX5_put
      refine (kb_o_v hsp).trans ?_
      refine (kb_b_ff (by decide)).trans ?_
      refine (kb_o_v (kz_flip state v (by omega))).trans ?_
      show kJX5_put_30 _ _ _ _ _ _ _ _ _ _ _ _ = _
      unfold kJX5_put_30
      refine (kb_n_v (v := nI (u.2 + 1)) (nI_1 _)).trans ?_
      refine (kb_n_v rfl).trans ?_
      refine (kb_b_ff (kz_eqf e (by omega) (by omega))).trans ?_
      unfold kz_ab1
      rw [if_neg e]
    · unfold kz_ab1
      rw [if_neg e]
      exact hc
theorem kz_rsqueeze {rc state other column : Nat → Int64} {turns : Nat → Int32} {R : Nat} {u : kz_SP} (hT : ∀ i, i < 25 → turns i = nI (kz_tn i)) (hR : 0 < R) (hR2 : R ≤ 200) (hu : u.2 ≤ R) (hL : kz_e25 state u.1) :
    ∃ s' o' c', kFX5_squeeze (nI R) (nI u.2) turns rc state other column = some (nI (kz_ob (kz_sz rc R u)), nI ((kz_sz rc R u).2 + 1), s', o', c') ∧ kz_e25 s' (kz_sz rc R u).1 := by
  have hlt := kz_sz_lt (rc := rc) hR hu
  have key : ∀ (l1 o1 c1 : Nat → Int64) (p : Nat), p < R → kz_e25 l1 (kz_sz rc R u).1 → p = (kz_sz rc R u).2 → kJX5_squeeze_20 (nI p) l1 o1 c1 = some (nI (kz_ob (kz_sz rc R u)), nI ((kz_sz rc R u).2 + 1), l1, o1, c1) := fun l1 o1 c1 p hp hl he => by
    unfold kJX5_squeeze_20
    rw [show nI p - nI p / (8 : Int32) * (8 : Int32) = nI (p % 8) from pk_rem (d := 8) (by omega) (by decide) (by decide), show nI p / (8 : Int32) = nI (p / 8) from pk_div (d := 8) (by omega) (by decide) (by decide), nI_clamp (show p / 8 < 2 ^ 31 by omega), show (8 : Int32) * nI (p % 8) = nI (8 * (p % 8)) from pk_mul _ _, hl (p / 8) (by omega)]
    refine (kb_g_tt (kb_in_n (by omega) (by decide))).trans ?_
    refine (kb_n_v (v := nI (kz_ob (kz_sz rc R u))) ?_).trans ?_
    · rw [kz_x255, he]
      rfl
    refine (kb_n_v (v := nI (p + 1)) (nI_1 _)).trans ?_
    rw [he]
  by_cases e : u.2 = R
  · have es : kz_sz rc R u = (kz_pm rc u.1 24, 0) := by unfold kz_sz; rw [if_pos e]
    obtain ⟨a', m', c', q1, q2⟩ := kz_rpermute (a := state) (m := other) (c := column) (rc := rc) hT
    have q3 : kz_e25 a' (kz_sz rc R u).1 := by
      rw [es]
      exact fun i hi => (q2 i hi).trans (kz_pm_c rc hL 24 i hi)
    refine ⟨a', m', c', ?_, q3⟩
    unfold kFX5_squeeze
    refine (kb_b_tt (kz_eqt e)).trans ?_
    refine (kb_o_v q1).trans ?_
    exact key a' m' c' 0 hR q3 (by rw [es])
  · have es : kz_sz rc R u = u := by unfold kz_sz; rw [if_neg e]
    refine ⟨state, other, column, ?_, by rw [es]; exact hL⟩
    unfold kFX5_squeeze
    refine (kb_b_ff (kz_eqf e (by omega) (by omega))).trans ?_
    exact key state other column u.2 (by omega) (by rw [es]; exact hL) (by rw [es])
/-! Layer 2: the reference's sponge (kinds above 6): begin, put, finish, give. -/
theorem kz_rsp {kd : Nat} (hk : 6 < kd) (hk2 : kd < 20) : kFX5_sponge (nI kd) = some (1 : Int32) := kb_b_ff (kz_nle (n := kd) (i := 6) hk (by omega))
theorem kz_rput2 {rc state other column words cubes : Nat → Int64} {turns block f : Nat → Int32} {R kd at' n n1 : Nat} {tot : Int64} {u : kz_SP} (hT : ∀ i, i < 25 → turns i = nI (kz_tn i)) (hk : 6 < kd) (hk2 : kd < 20) (hR : 0 < R) (hR2 : R ≤ 200) (hu : u.2 < R) (hL : kz_e25 state u.1) (hn : at' + n ≤ n1) (hn1 : n1 < 2 ^ 31) (hn2 : n < 100000) :
    ∃ tot' s' o' c', kFX5_put2 (nI at') (nI n) n1 (nI kd) (nI R) (nI u.2) tot cubes turns rc state other column words block f = some (nI (kz_ab rc R (fun k => f (at' + k)) u n).2, tot', s', o', c', words, block) ∧ kz_e25 s' (kz_ab rc R (fun k => f (at' + k)) u n).1 := by
  obtain ⟨⟨fl, t', b', c', o', s', w'⟩, k1, k2, k3, k4, k5⟩ := kz_for (S := fun i z => kSX5_put2_3 (nI at') (nI n) n1 (nI kd) (nI R) cubes turns rc f i z.1 z.2.1 z.2.2.1 z.2.2.2.1 z.2.2.2.2.1 z.2.2.2.2.2.1 z.2.2.2.2.2.2) (g := (nI u.2, tot, block, column, other, state, words)) nI n (fun k z => z.1 = nI (kz_ab rc R (fun k => f (at' + k)) u k).2 ∧ z.2.2.1 = block ∧ kz_e25 z.2.2.2.2.2.1 (kz_ab rc R (fun k => f (at' + k)) u k).1 ∧ z.2.2.2.2.2.2 = words) hn2 (fun k z hk' hz => ?_) (fun g _ => kb_b_tt (kz_le (n := n) (Nat.le_refl _) (by omega))) ⟨rfl, rfl, hL, rfl⟩
  · have k2 : fl = _ := k2
    replace k3 : b' = block := k3
    replace k5 : w' = words := k5
    subst k2 k3 k5
    refine ⟨t', s', o', c', ?_, k4⟩
    unfold kFX5_put2
    exact kb_o_v k1
  · obtain ⟨fl, t0, b0, c0, o0, s0, w0⟩ := z
    obtain ⟨h1, h2, h3, h4⟩ := hz
    replace h1 : fl = _ := h1
    replace h2 : b0 = block := h2
    replace h3 : kz_e25 s0 (kz_ab rc R (fun k => f (at' + k)) u k).1 := h3
    replace h4 : w0 = words := h4
    subst h1 h2 h4
    have hlt := kz_ab_lt (rc := rc) (v := fun k => f (at' + k)) hR hu k
    obtain ⟨s1, o1, c1, q1, q2⟩ := kz_rput (tot := t0) (other := o0) (column := c0) (words := w0) (cubes := cubes) (block := b0) (f (at' + k)) hT hk hk2 hR2 hlt h3
    refine ⟨(_, t0 + 1, b0, c1, o1, s1, w0), ?_, rfl, rfl, q2, rfl⟩
    show kSX5_put2_3 (nI at') (nI n) n1 (nI kd) (nI R) cubes turns rc f (nI k) (nI (kz_ab rc R (fun k => f (at' + k)) u k).2) t0 b0 c0 o0 s0 w0 = _
    unfold kSX5_put2_3
    rw [nI_add at' k, nI_clamp (show at' + k < 2 ^ 31 by omega)]
    refine (kb_b_ff (kz_nle hk' (by omega))).trans ?_
    refine (kb_g_tt (kb_in_n (by omega) hn1)).trans ?_
    refine (kb_o_v q1).trans ?_
    exact (kb_n_v (kz_inc _)).trans rfl
def kz_sf (kd : Nat) : Int32 := if kd ≤ 10 then 6 else 31
theorem kz_rfinish {rc state other column words cubes : Nat → Int64} {turns block : Nat → Int32} {R kd : Nat} {tot : Int64} {u : kz_SP} (hT : ∀ i, i < 25 → turns i = nI (kz_tn i)) (hk : 6 < kd) (hk2 : kd < 20) (hR : 0 < R) (hR2 : R ≤ 200) (hu : u.2 < R) (hL : kz_e25 state u.1) :
    ∃ s' o' c', kFX5_finish (nI kd) (nI R) (nI u.2) tot cubes turns rc state other column words block = some ((0 : Int32), tot, s', o', c', words, block) ∧ kz_e25 s' (kz_fin rc R (kz_sf kd) u).1 := by
  obtain ⟨a', m', c', q1, q2⟩ := kz_rpermute (a := kz_mixL (kz_mixL state (kz_sf kd) u.2) 128 (R - 1)) (m := other) (c := column) (rc := rc) hT
  refine ⟨a', m', c', ?_, fun i hi => (q2 i hi).trans (kz_pm_c rc (kz_mixL_c 128 (by omega) (kz_mixL_c _ (by omega) hL)) 24 i hi)⟩
  unfold kFX5_finish
  refine (kb_o_v (kz_rsp hk hk2)).trans ?_
  refine (kb_b_ff (by decide)).trans ?_
  rw [show nI R - (1 : Int32) = nI (R - 1) from pk_sub (by omega)]
  by_cases e : kd ≤ 10
  · have es : kz_sf kd = 6 := by unfold kz_sf; rw [if_pos e]
    rw [es] at q1
    refine (kb_b_tt (kz_le (n := kd) (i := 10) e (by omega))).trans ?_
    refine (kb_o_v (kz_flip state 6 (by omega))).trans ?_
    refine (kb_o_v (kz_flip _ 128 (by omega))).trans ?_
    exact kb_o_v q1
  · have es : kz_sf kd = 31 := by unfold kz_sf; rw [if_neg e]
    rw [es] at q1
    refine (kb_b_ff (kz_nle (n := kd) (i := 10) (by omega) (by omega))).trans ?_
    refine (kb_o_v (kz_flip state 31 (by omega))).trans ?_
    refine (kb_o_v (kz_flip _ 128 (by omega))).trans ?_
    exact kb_o_v q1
theorem kz_nby {v : Nat} : (nI v).toInt8.toInt32 = kz_by v := rfl
theorem kz_rgive {rc state other column words cubes : Nat → Int64} {turns block f : Nat → Int32} {R kd at' n n1 : Nat} {tot : Int64} {u : kz_SP} (hT : ∀ i, i < 25 → turns i = nI (kz_tn i)) (hk : 6 < kd) (hk2 : kd < 20) (hR : 0 < R) (hR2 : R ≤ 200) (hu : u.2 < R) (hL : kz_e25 state u.1) (hn : at' + n ≤ n1) (hn1 : n1 < 2 ^ 31) (hn2 : n < 100000) :
    ∃ s' o' c' f', kFX5_give (nI at') (nI n) n1 (nI kd) (nI R) (nI u.2) tot cubes turns rc state other column words block f = some (nI (kz_gv rc R (kz_fin rc R (kz_sf kd) u) n).2, tot, s', o', c', words, block, f') ∧ kz_e25 s' (kz_gv rc R (kz_fin rc R (kz_sf kd) u) n).1 ∧ ∀ k, f' k = if at' ≤ k ∧ k < at' + n then kz_by (kz_gb rc R (kz_fin rc R (kz_sf kd) u) (k - at')) else f k := by
  obtain ⟨s1, o1, c1, q1, q2⟩ := kz_rfinish (rc := rc) (other := other) (column := column) (words := words) (cubes := cubes) (block := block) (tot := tot) hT hk hk2 hR hR2 hu hL
  generalize hw : kz_fin rc R (kz_sf kd) u = w at q2
  have hw0 : w.2 = 0 := by rw [← hw]; rfl
  obtain ⟨⟨f', pl, c', o', s'⟩, k1, k2, k3, k4⟩ := kz_for (S := fun i z => kSX5_give_7 (nI at') (nI n) n1 (nI kd) (nI R) turns rc i z.1 z.2.1 z.2.2.1 z.2.2.2.1 z.2.2.2.2) (g := (f, nI w.2, c1, o1, s1)) nI n (fun j z => z.2.1 = nI (kz_gv rc R w j).2 ∧ kz_e25 z.2.2.2.2 (kz_gv rc R w j).1 ∧ ∀ k, z.1 k = if at' ≤ k ∧ k < at' + j then kz_by (kz_gb rc R w (k - at')) else f k) hn2 (fun j z hj hz => ?_) (fun g _ => kb_b_tt (kz_le (n := n) (Nat.le_refl _) (by omega))) ⟨rfl, q2, fun k => by rw [if_neg (by omega)]⟩
  · have k2 : pl = _ := k2
    subst k2
    refine ⟨s', o', c', f', ?_, k3, k4⟩
    unfold kFX5_give
    refine (kb_o_v q1).trans ?_
    rw [hw0] at k1
    exact kb_o_v k1
  · obtain ⟨f0, pl, c0, o0, s0⟩ := z
    obtain ⟨h1, h2, h3⟩ := hz
    replace h1 : pl = _ := h1
    replace h2 : kz_e25 s0 (kz_gv rc R w j).1 := h2
    replace h3 : ∀ k, f0 k = if at' ≤ k ∧ k < at' + j then kz_by (kz_gb rc R w (k - at')) else f k := h3
    subst h1
    have hle := kz_gv_le (rc := rc) (u := w) hR (by omega) j
    obtain ⟨s2, o2, c2, p1, p2⟩ := kz_rsqueeze (other := o0) (column := c0) hT hR hR2 hle h2
    refine ⟨(upd f0 (at' + j) (kz_by (kz_gb rc R w j)), nI (kz_gv rc R w (j + 1)).2, c2, o2, s2), ?_, rfl, p2, fun k => ?_⟩
    · show kSX5_give_7 (nI at') (nI n) n1 (nI kd) (nI R) turns rc (nI j) f0 (nI (kz_gv rc R w j).2) c0 o0 s0 = _
      unfold kSX5_give_7
      rw [nI_add at' j, nI_clamp (show at' + j < 2 ^ 31 by omega)]
      refine (kb_b_ff (kz_nle hj (by omega))).trans ?_
      refine (kb_o_v (kz_rsp hk hk2)).trans ?_
      refine (kb_b_ff (by decide)).trans ?_
      refine (kb_o_v p1).trans ?_
      refine (kb_g_tt (kb_in_n (by omega) hn1)).trans ?_
      refine (kb_n_v (v := upd f0 (at' + j) (kz_by (kz_gb rc R w j))) (congrArg (upd f0 (at' + j)) (pk_vb _))).trans ?_
      exact (kb_n_v (kz_inc _)).trans rfl
    · show upd f0 (at' + j) (kz_by (kz_gb rc R w j)) k = _
      by_cases e : k = at' + j
      · subst e
        rw [pk_us, if_pos ⟨by omega, by omega⟩, show at' + j - at' = j by omega]
      · rw [pk_un e, h3 k]
        by_cases e2 : at' ≤ k ∧ k < at' + j
        · rw [if_pos e2, if_pos ⟨e2.1, by omega⟩]
        · rw [if_neg e2, if_neg (by omega)]
def kz_rt (kd : Nat) : Nat := if kd = 11 then 168 else if kd = 8 ∨ kd = 12 then 136 else 72
theorem kz_rbegin {kd : Nat} (roots s224 s256 state : Nat → Int64) (hk : kd = 8 ∨ kd = 10 ∨ kd = 11 ∨ kd = 12) : ∃ s', kFX5_begin (nI kd) roots s224 s256 state = some ((0 : Int32), nI kd, nI (kz_rt kd), (0 : Int64), s') ∧ kz_e25 s' (fun _ => 0) := by
  obtain ⟨g, k1, k2⟩ := kz_for (S := fun i f => kSX5_begin_17 i f) (g := state) nI 25 (fun k f => ∀ i, i < k → f i = 0) (by decide) (fun k g hk hg => ⟨vp_updL g k 0, by
    show kSX5_begin_17 (nI k) g = _
    unfold kSX5_begin_17
    rw [nI_clamp (show k < 2 ^ 31 by omega)]
    refine (kb_b_ff (kz_nle (n := 25) hk (by decide))).trans ?_
    refine (kb_g_tt (kb_in_n hk (by decide))).trans ?_
    refine (kb_n_v rfl).trans ?_
    exact (kb_n_v (kz_inc _)).trans rfl, fun i hi => by
    show vp_updL g k 0 i = 0
    by_cases e : i = k
    · subst e; exact pk_uLs
    · rw [pk_uLn e]; exact hg i (by omega)⟩) (fun g _ => kb_b_tt (kz_le (n := 25) (Nat.le_refl _) (by decide))) (fun i hi => absurd hi (by omega))
  refine ⟨g, ?_, k2⟩
  have hJ : ∀ (d : Nat) (y : Int32), 7 ≤ d → d < 20 → kJX5_begin_84 (nI d) (nI d) (0 : Int32) (0 : Int64) roots s224 s256 g y = some ((0 : Int32), nI d, y, (0 : Int64), g) := fun d y hd hd2 => by
    unfold kJX5_begin_84
    have hb : kb_w (fun u : Int32 × (Nat → Int64) => kSX5_begin_89 (nI d) roots s224 s256 u.1 u.2) 100000 ((0 : Int32), g) = some ((0 : Int32), g) := by
      have hs : kSX5_begin_89 (nI d) roots s224 s256 (0 : Int32) g = some (.inr ((0 : Int32), g)) := by
        unfold kSX5_begin_89
        refine (kb_b_ff (kz_nle (n := 8) (i := 0) (by decide) (by decide))).trans ?_
        exact kb_b_tt (kz_le (n := 7) hd (by omega))
      show (match kSX5_begin_89 (nI d) roots s224 s256 (0 : Int32) g with | none => none | some (.inl s') => kb_w _ 99999 s' | some (.inr r) => some r) = _
      rw [hs]
    exact kb_o_v hb
  unfold kFX5_begin
  refine (kb_o_v k1).trans ?_
  rcases hk with rfl | rfl | rfl | rfl
  · exact hJ 8 136 (by decide) (by decide)
  · exact hJ 10 72 (by decide) (by decide)
  · exact hJ 11 168 (by decide) (by decide)
  · exact hJ 12 136 (by decide) (by decide)
/-! Layer 2: the reference's bits: bitOf, takeBits, putBits. -/
theorem kz_bit1 : ∀ b, b < 256 → ∀ s, s < 8 → (kz_by b >>> (nI s &&& 31)) &&& (1 : Int32) = nI (b / 2 ^ s % 2) := by decide +kernel
theorem kz_bitOf {B : Nat → Nat} {f : Nat → Int32} {n1 at' j lo hi : Nat} (hY : kz_Y B f lo hi) (hj0 : lo ≤ at' + j / 8) (hj : at' + j / 8 < hi) (hhi : hi ≤ n1) (hn1 : n1 < 2 ^ 31) (hj2 : j < 2 ^ 31) : kFX5_bitOf (nI at') (nI j) n1 f = some (nI (B ((8 * at' + j) / 8) / 2 ^ ((8 * at' + j) % 8) % 2)) := by
  unfold kFX5_bitOf
  obtain ⟨y1, y2⟩ := hY _ hj0 hj
  rw [show nI j - nI j / (8 : Int32) * (8 : Int32) = nI (j % 8) from pk_rem (d := 8) hj2 (by decide) (by decide), show nI j / (8 : Int32) = nI (j / 8) from pk_div (d := 8) hj2 (by decide) (by decide), nI_add, nI_clamp (show at' + j / 8 < 2 ^ 31 by omega), y2, kz_bit1 _ y1 _ (Nat.mod_lt _ (by decide)), show (8 * at' + j) / 8 = at' + j / 8 by omega, show (8 * at' + j) % 8 = j % 8 by omega]
  exact kb_g_tt (kb_in_n (by omega) hn1)
theorem kz_takeBits {B : Nat → Nat} {f : Nat → Int32} {n1 at' b d lo hi : Nat} (hY : kz_Y B f lo hi) (hlo : 8 * lo ≤ 8 * at' + b) (hn : 8 * at' + b + d ≤ 8 * hi) (hhi : hi ≤ n1) (hn1 : n1 < 2 ^ 27) (hd : d < 31) : kFX5_takeBits (nI at') (nI d) n1 (nI b) f = some (nI (kz_tk 8 B (8 * at' + b) d), nI (b + d)) := by
  obtain ⟨⟨x, y⟩, k1, k2⟩ : ∃ r, kb_w (fun u : Int32 × Int32 => kSX5_takeBits_6 (nI at') (nI d) n1 (nI b) f u.1 u.2) 100000 ((0 : Int32), (0 : Int32)) = some r ∧ r.1 = nI (kz_tk 8 B (8 * at' + b) d) := by
    refine kb_w_inv (σ := Int32 × Int32) (ρ := Int32 × Int32) (fun k u => u.1 = nI (kz_tk 8 B (8 * at' + b) k) ∧ u.2 = nI k) (fun r => r.1 = nI (kz_tk 8 B (8 * at' + b) d)) d ?_ ?_ d 0 _ 100000 (by omega) (by omega) ⟨rfl, rfl⟩
    · rintro k ⟨x, y⟩ hk ⟨h1, h2⟩
      replace h1 : x = _ := h1
      replace h2 : y = nI k := h2
      subst h1 h2
      refine ⟨(nI (kz_tk 8 B (8 * at' + b) (k + 1)), nI (k + 1)), ?_, rfl, rfl⟩
      show kSX5_takeBits_6 (nI at') (nI d) n1 (nI b) f (nI (kz_tk 8 B (8 * at' + b) k)) (nI k) = _
      unfold kSX5_takeBits_6
      rw [nI_add b k]
      refine (kb_b_ff (kz_nle hk (by omega))).trans ?_
      refine (kb_o_v (kz_bitOf hY (by omega) (by omega) hhi (by omega) (by omega))).trans ?_
      refine (kb_n_v (v := nI (kz_tk 8 B (8 * at' + b) (k + 1))) ?_).trans ?_
      · rw [← Nat.add_assoc, kz_orsh (kz_tk_lt _ _ _ _) (by omega) ?_]
        · rw [kz_tk_s, Nat.mul_comm]
        · have h9 : B ((8 * at' + b + k) / 8) / 2 ^ ((8 * at' + b + k) % 8) % 2 * 2 ^ k ≤ 1 * 2 ^ 30 := Nat.mul_le_mul (by omega) (kz_p2 (by omega))
          omega
      exact (kb_n_v (kz_inc _)).trans rfl
    · rintro ⟨x, y⟩ ⟨h1, h2⟩
      replace h2 : y = nI d := h2
      subst h2
      refine ⟨(x, nI d), ?_, h1⟩
      show kSX5_takeBits_6 (nI at') (nI d) n1 (nI b) f x (nI d) = _
      unfold kSX5_takeBits_6
      exact kb_b_tt (kz_le (Nat.le_refl _) (by omega))
  replace k2 : x = _ := k2
  subst k2
  unfold kFX5_takeBits
  refine (kb_o_v k1).trans ?_
  exact (kb_n_v (nI_add _ _)).trans rfl
-- ===== putBits
def kz_bs (bit : Nat → Nat) (i m : Nat) : Nat := kz_sum (fun k => bit (8 * i + k) * 2 ^ k) m
theorem kz_bs_lt {bit : Nat → Nat} (hb : ∀ j, bit j < 2) (i : Nat) : ∀ m, kz_bs bit i m < 2 ^ m
  | 0 => Nat.one_pos
  | m + 1 => by
    have h := kz_bs_lt hb i m
    show kz_bs bit i m + bit (8 * i + m) * 2 ^ m < 2 ^ (m + 1)
    have h2 : bit (8 * i + m) * 2 ^ m ≤ 1 * 2 ^ m := Nat.mul_le_mul_right _ (by have := hb (8 * i + m); omega)
    rw [Nat.pow_succ]
    omega
/-- bits s0 .. p - 1 have been laid into f0: the bytes as they now stand -/
def kz_W (bit : Nat → Nat) (f0 f : Nat → Int32) (s0 p : Nat) : Prop := ∀ i, f i = if s0 ≤ 8 * i ∧ 8 * i < p then kz_by (kz_bs bit i (if p ≤ 8 * i + 8 then p - 8 * i else 8)) else f0 i
theorem kz_or1 : ∀ s, s < 8 → ∀ a, a < 2 ^ s → ∀ b, b < 2 → vp_nar .byte ((kz_by a ||| ((nI b <<< (nI s &&& 31)).toInt8.toInt32)).toInt8.toInt32) = kz_by (a + b * 2 ^ s) := by decide +kernel
theorem kz_W_s {bit : Nat → Nat} {f0 f : Nat → Int32} {s0 p : Nat} (hb : ∀ j, bit j < 2) (hs : s0 % 8 = 0) (hp : s0 ≤ p) (h : kz_W bit f0 f s0 p) : kz_W bit f0 (upd f (p / 8) (kz_by (kz_bs bit (p / 8) (p % 8 + 1)))) s0 (p + 1) := fun i => by
  by_cases e : i = p / 8
  · subst e
    rw [pk_us, if_pos ⟨by omega, by omega⟩, if_pos (by omega), show p + 1 - 8 * (p / 8) = p % 8 + 1 by omega]
  · rw [pk_un e, h i]
    by_cases c : s0 ≤ 8 * i ∧ 8 * i < p
    · rw [if_pos c, if_pos ⟨c.1, by omega⟩]
      rw [if_neg (by omega)]
      by_cases c2 : p ≤ 8 * i + 8
      · rw [if_pos c2, show p - 8 * i = 8 by omega]
      · rw [if_neg c2]
    · rw [if_neg c, if_neg (by omega)]
theorem kz_putBits {bit : Nat → Nat} {f0 f : Nat → Int32} {s0 p d V n1 : Nat} (hb : ∀ j, bit j < 2) (hs : s0 % 8 = 0) (hp : s0 ≤ p) (h : kz_W bit f0 f s0 p) (hV : V < 2 ^ 31) (hbit : ∀ k, k < d → V / 2 ^ k % 2 = bit (p + k)) (hd : d < 31) (hn : p + d ≤ 8 * n1) (hn1 : n1 < 2 ^ 27) :
    ∃ g, kFX5_putBits (0 : Int32) (nI V) (nI d) n1 (nI p) f = some (nI (p + d), g) ∧ kz_W bit f0 g s0 (p + d) := by
  obtain ⟨g, k1, k2⟩ := kz_for (S := fun k f => kSX5_putBits_3 (0 : Int32) (nI V) (nI d) n1 (nI p) k f) (g := f) nI d (fun k f => kz_W bit f0 f s0 (p + k)) (by omega) (fun k g hk hg => ⟨_, ?_, kz_W_s hb hs (by omega) hg⟩) (fun g _ => kb_b_tt (kz_le (n := d) (Nat.le_refl _) (by omega))) h
  · refine ⟨g, ?_, k2⟩
    unfold kFX5_putBits
    refine (kb_o_v k1).trans ?_
    exact (kb_n_v (nI_add _ _)).trans rfl
  · show kSX5_putBits_3 (0 : Int32) (nI V) (nI d) n1 (nI p) (nI k) g = _
    have hv : (nI V >>> (nI k &&& 31)) &&& (1 : Int32) = nI (bit (p + k)) := by
      rw [pk_shrN hV _ k (kz_sl k (by omega)), pk_andN (by have := Nat.div_le_self V (2 ^ k); omega) 1 (by decide +kernel), show (2 ^ 1 : Nat) = 2 from rfl, hbit k hk]
    have hlt := kz_bs_lt hb ((p + k) / 8) ((p + k) % 8)
    have hbk := hb (p + k)
    have hsum : kz_bs bit ((p + k) / 8) ((p + k) % 8) + bit (p + k) * 2 ^ ((p + k) % 8) = kz_bs bit ((p + k) / 8) ((p + k) % 8 + 1) := by
      show _ = kz_bs bit ((p + k) / 8) ((p + k) % 8) + bit (8 * ((p + k) / 8) + (p + k) % 8) * 2 ^ ((p + k) % 8)
      rw [Nat.div_add_mod]
    unfold kSX5_putBits_3
    refine (kb_b_ff (kz_nle hk (by omega))).trans ?_
    refine (kb_n_v (v := nI (p + k)) (nI_add _ _)).trans ?_
    rw [show nI (p + k) - nI (p + k) / (8 : Int32) * (8 : Int32) = nI ((p + k) % 8) from pk_rem (d := 8) (by omega) (by decide) (by decide), show (0 : Int32) + nI (p + k) / (8 : Int32) = nI ((p + k) / 8) by rw [show nI (p + k) / (8 : Int32) = nI ((p + k) / 8) from pk_div (d := 8) (by omega) (by decide) (by decide), Int32.zero_add], nI_clamp (show (p + k) / 8 < 2 ^ 31 by omega), hv]
    have hg' := hg ((p + k) / 8)
    by_cases e : (p + k) % 8 = 0
    · refine (kb_b_tt (kz_eqt (b := 0) e)).trans ?_
      refine (kb_g_tt (kb_in_n (by omega) (by omega))).trans ?_
      refine (kb_n_v rfl).trans ?_
      refine (kb_g_tt (kb_in_n (by omega) (by omega))).trans ?_
      refine (kb_g_tt (kb_in_n (by omega) (by omega))).trans ?_
      refine (kb_n_v (v := upd g ((p + k) / 8) (kz_by (kz_bs bit ((p + k) / 8) ((p + k) % 8 + 1)))) ?_).trans ?_
      · rw [pk_us, ← hsum]
        have h0 : kz_bs bit ((p + k) / 8) ((p + k) % 8) = 0 := by rw [e]; rfl
        rw [h0]
        have h1 := kz_or1 ((p + k) % 8) (by omega) 0 (Nat.two_pow_pos _) (bit (p + k)) hbk
        rw [show vp_nar .byte (0 : Int32) = kz_by 0 by decide +kernel, h1]
        funext i
        unfold upd
        by_cases e2 : i = (p + k) / 8
        · rw [if_pos e2, if_pos e2]
        · rw [if_neg e2, if_neg e2, if_neg e2]
      exact (kb_n_v (kz_inc _)).trans rfl
    · refine (kb_b_ff (kz_eqf (b := 0) e (by omega) (by decide))).trans ?_
      refine (kb_g_tt (kb_in_n (by omega) (by omega))).trans ?_
      refine (kb_g_tt (kb_in_n (by omega) (by omega))).trans ?_
      refine (kb_n_v (v := upd g ((p + k) / 8) (kz_by (kz_bs bit ((p + k) / 8) ((p + k) % 8 + 1)))) ?_).trans ?_
      · rw [if_pos ⟨by omega, by omega⟩, if_pos (by omega), show p + k - 8 * ((p + k) / 8) = (p + k) % 8 by omega] at hg'
        rw [hg', kz_or1 ((p + k) % 8) (by omega) _ hlt (bit (p + k)) hbk, hsum]
      exact (kb_n_v (kz_inc _)).trans rfl
/-! Layer 2: fewer bits: compress and expand, of the class and of the reference. -/
def kz_cmp (x d : Nat) : Nat := (x * 2 ^ (d + 1) + 3329) / 6658 % 2 ^ d
def kz_ex (y d : Nat) : Nat := (3329 * y + 2 ^ (d - 1)) / 2 ^ d
theorem kz_ex_lt {y d : Nat} (h0 : 0 < d) (hd : d ≤ 11) (hy : y < 2 ^ d) : kz_ex y d < 3329 := by
  unfold kz_ex
  rw [Nat.div_lt_iff_lt_mul (Nat.two_pow_pos d)]
  obtain ⟨e, rfl⟩ : ∃ e, d = e + 1 := ⟨d - 1, by omega⟩
  have h1 : 2 ^ e ≤ 2 ^ 10 := kz_p2 (by omega)
  rw [Nat.add_sub_cancel]
  rw [Nat.pow_succ] at hy ⊢
  omega
theorem kz_rcmp1 : ∀ d ∈ [1, 4, 5, 10, 11], ∀ a, a < 53 → ∀ b, b < 64 → kFX5_compress (nI (64 * a + b)) (nI d) = some (nI (kz_cmp (64 * a + b) d)) := by decide +kernel
theorem kz_rcmp {x d : Nat} (hd : d ∈ [1, 4, 5, 10, 11]) (hx : x < 3329) : kFX5_compress (nI x) (nI d) = some (nI (kz_cmp x d)) := by
  have h := kz_rcmp1 d hd (x / 64) (by omega) (x % 64) (by omega)
  rw [Nat.div_add_mod] at h
  exact h
theorem kz_rex {y d : Nat} (h0 : 0 < d) (hd : d ≤ 11) (hy : y < 2 ^ d) : kFX5_expand (nI y) (nI d) = some (nI (kz_ex y d)) := by
  unfold kFX5_expand
  obtain ⟨e, rfl⟩ : ∃ e, d = e + 1 := ⟨d - 1, by omega⟩
  have h1 : 2 ^ (e + 1) ≤ 2 ^ 11 := kz_p2 hd
  rw [show (6658 : Int32) * nI y = nI (6658 * y) from pk_mul _ _, show (1 : Int32) <<< (nI (e + 1) &&& 31) = nI (1 * 2 ^ (e + 1)) from pk_shlN (n := 1) _ (e + 1) (kz_sl (e + 1) (by omega)) (by omega), nI_add, nI_1, pk_shrN (by omega) _ (e + 1 + 1) (kz_sl (e + 1 + 1) (by omega))]
  congr 2
  unfold kz_ex
  rw [Nat.add_sub_cancel, show 6658 * y + 1 * 2 ^ (e + 1) = 2 * (3329 * y + 2 ^ e) by rw [Nat.pow_succ]; omega, show 2 ^ (e + 1 + 1) = 2 * 2 ^ (e + 1) by rw [Nat.pow_succ]; omega, Nat.mul_div_mul_left _ _ (by decide)]
/-- a polynomial whose numbers have d bits -/
def kz_Q (d : Nat) (a : Nat → Nat) (f : Nat → Int32) : Prop := ∀ i, i < 256 → a i < 2 ^ d ∧ f i = nI (a i)
theorem kz_packC {a : Nat → Nat} {f row : Nat → Int32} {n3 d at' : Nat} (hf : kz_R a f) (hd : d ≤ 11) (hn : at' + 32 * d ≤ n3) (hn2 : n3 < 2 ^ 31) :
    ∃ f' r, kFX6_packCompressed (nI d) (nI at') 256 n3 f row = some (f', r) ∧ ∀ k, r k = if at' ≤ k ∧ k < at' + 32 * d then kz_by (kz_tk d (fun i => kz_cmp (a i) d) (8 * (k - at')) 8) else row k := by
  obtain ⟨g, k1, k2⟩ := kz_for (S := fun i f => kSX6_packCompressed_3 (nI d) 256 i f) (g := f) nI 256 (fun k f => ∀ i, i < 256 → f i = if i < k then nI (kz_cmp (a i) d) else nI (a i)) (by decide) (fun k g hk hg => ⟨upd g k (nI (kz_cmp (a k) d)), ?_, fun i hi => ?_⟩) (fun g _ => kb_b_tt (kz_le (n := 256) (Nat.le_refl _) (by decide))) (fun i hi => by rw [if_neg (by omega)]; exact (hf i hi).2)
  · have hF : ∀ i, i < 256 → kz_cmp (a i) d < 2 ^ d ∧ g i = nI (kz_cmp (a i) d) := fun i hi => ⟨Nat.mod_lt _ (Nat.two_pow_pos d), by rw [k2 i hi, if_pos hi]⟩
    obtain ⟨r, m1, m2⟩ := kz_pack (row := row) hF (by omega) hn hn2
    refine ⟨g, r, ?_, m2⟩
    unfold kFX6_packCompressed
    refine (kb_o_v k1).trans ?_
    exact kb_o_v m1
  · show kSX6_packCompressed_3 (nI d) 256 (nI k) g = _
    have hgk := hg k hk
    rw [if_neg (by omega)] at hgk
    have hak := (hf k hk).1
    have hp : a k * 2 ^ (d + 1) ≤ 3328 * 2 ^ 12 := Nat.mul_le_mul (by omega) (kz_p2 (by omega))
    unfold kSX6_packCompressed_3
    rw [nI_clamp (show k < 2 ^ 31 by omega)]
    refine (kb_b_ff (kz_nle (n := 256) hk (by decide))).trans ?_
    refine (kb_g_tt (kb_in_n hk (by decide))).trans ?_
    refine (kb_g_tt (kb_in_n hk (by decide))).trans ?_
    refine (kb_n_v (v := upd g k (nI (kz_cmp (a k) d))) ?_).trans ?_
    · rw [hgk, nI_1, pk_shlN _ (d + 1) (kz_sl (d + 1) (by omega)) (by omega), show nI (a k * 2 ^ (d + 1)) + (3329 : Int32) = nI (a k * 2 ^ (d + 1) + 3329) from nI_add _ _, show nI (a k * 2 ^ (d + 1) + 3329) / (6658 : Int32) = nI ((a k * 2 ^ (d + 1) + 3329) / 6658) from pk_div (d := 6658) (by omega) (by decide) (by decide), pk_andN (by omega) d (kz_msk d (by omega))]
      rfl
    exact (kb_n_v (kz_inc _)).trans rfl
  · show upd g k (nI (kz_cmp (a k) d)) i = _
    by_cases e : i = k
    · subst e
      rw [pk_us, if_pos (by omega)]
    · rw [pk_un e, hg i hi]
      by_cases e2 : i < k
      · rw [if_pos e2, if_pos (by omega)]
      · rw [if_neg e2, if_neg (by omega)]
theorem kz_unpackC {B : Nat → Nat} {f g : Nat → Int32} {n d at' : Nat} (hY : kz_Y B f at' (at' + 32 * d)) (hd0 : 0 < d) (hd : d ≤ 11) (hn : at' + 32 * d ≤ n) (hn2 : n < 2 ^ 31) :
    ∃ r, kFX6_unpackCompressed (nI at') (nI d) n 256 f g = some r ∧ kz_R (fun i => kz_ex (kz_tk 8 B (8 * at' + d * i) d) d) r := by
  obtain ⟨r0, m1, m2⟩ := kz_unpack (g := g) hY hd0 (by omega) hn hn2
  obtain ⟨r, k1, k2⟩ := kz_for (S := fun i f => kSX6_unpackCompressed_10 (nI d) 256 i f) (g := r0) nI 256 (fun k f => ∀ i, i < 256 → f i = if i < k then nI (kz_ex (kz_tk 8 B (8 * at' + d * i) d) d) else nI (kz_tk 8 B (8 * at' + d * i) d)) (by decide) (fun k z hk hz => ⟨upd z k (nI (kz_ex (kz_tk 8 B (8 * at' + d * k) d) d)), ?_, fun i hi => ?_⟩) (fun g _ => kb_b_tt (kz_le (n := 256) (Nat.le_refl _) (by decide))) (fun i hi => by rw [if_neg (by omega)]; exact m2 i hi)
  · refine ⟨r, ?_, fun i hi => ⟨kz_ex_lt hd0 hd (kz_tk_lt _ _ _ _), by rw [k2 i hi, if_pos hi]⟩⟩
    unfold kFX6_unpackCompressed
    refine (kb_o_v m1).trans ?_
    exact kb_o_v k1
  · show kSX6_unpackCompressed_10 (nI d) 256 (nI k) z = _
    have hzk := hz k hk
    rw [if_neg (by omega)] at hzk
    have hlt := kz_tk_lt 8 B (8 * at' + d * k) d
    have h1 : 2 ^ d ≤ 2 ^ 11 := kz_p2 hd
    have h2 : 2 ^ (d - 1) ≤ 2 ^ 11 := kz_p2 (by omega)
    unfold kSX6_unpackCompressed_10
    rw [nI_clamp (show k < 2 ^ 31 by omega)]
    refine (kb_b_ff (kz_nle (n := 256) hk (by decide))).trans ?_
    refine (kb_g_tt (kb_in_n hk (by decide))).trans ?_
    refine (kb_g_tt (kb_in_n hk (by decide))).trans ?_
    refine (kb_n_v (v := upd z k (nI (kz_ex (kz_tk 8 B (8 * at' + d * k) d) d))) ?_).trans ?_
    · generalize kz_tk 8 B (8 * at' + d * k) d = y at hzk hlt
      rw [hzk, show (3329 : Int32) * nI y = nI (3329 * y) from pk_mul _ _, show nI d - (1 : Int32) = nI (d - 1) from pk_sub (by omega), show (1 : Int32) <<< (nI (d - 1) &&& 31) = nI (1 * 2 ^ (d - 1)) from pk_shlN (n := 1) _ (d - 1) (kz_sl (d - 1) (by omega)) (by omega), nI_add, pk_shrN (by omega) _ d (kz_sl d (by omega)), Nat.one_mul]
      rfl
    exact (kb_n_v (kz_inc _)).trans rfl
  · show upd z k (nI (kz_ex (kz_tk 8 B (8 * at' + d * k) d) d)) i = _
    by_cases e : i = k
    · subst e
      rw [pk_us, if_pos (by omega)]
    · rw [pk_un e, hz i hi]
      by_cases e2 : i < k
      · rw [if_pos e2, if_pos (by omega)]
      · rw [if_neg e2, if_neg (by omega)]
theorem kz_unpackN {B : Nat → Nat} {f g : Nat → Int32} {n at' : Nat} (hY : kz_Y B f at' (at' + 384)) (hn : at' + 384 ≤ n) (hn2 : n < 2 ^ 31) :
    ∃ r, kFX6_unpackNumbers (nI at') n 256 f g = some r ∧ kz_R (fun i => kz_tk 8 B (8 * at' + 12 * i) 12 % 3329) r := by
  obtain ⟨r0, m1, m2⟩ := kz_unpack (g := g) (d := 12) (at' := at') hY (by decide) (by decide) (by omega) hn2
  obtain ⟨r, k1, k2⟩ := kz_for (S := fun i f => kSX6_unpackNumbers_10 256 i f) (g := r0) nI 256 (fun k f => ∀ i, i < 256 → f i = if i < k then nI (kz_tk 8 B (8 * at' + 12 * i) 12 % 3329) else nI (kz_tk 8 B (8 * at' + 12 * i) 12)) (by decide) (fun k z hk hz => ⟨upd z k (nI (kz_tk 8 B (8 * at' + 12 * k) 12 % 3329)), ?_, fun i hi => ?_⟩) (fun g _ => kb_b_tt (kz_le (n := 256) (Nat.le_refl _) (by decide))) (fun i hi => by rw [if_neg (by omega)]; exact m2 i hi)
  · refine ⟨r, ?_, fun i hi => ⟨Nat.mod_lt _ (by decide), by rw [k2 i hi, if_pos hi]⟩⟩
    unfold kFX6_unpackNumbers
    refine (kb_o_v m1).trans ?_
    exact kb_o_v k1
  · show kSX6_unpackNumbers_10 256 (nI k) z = _
    have hzk := hz k hk
    rw [if_neg (by omega)] at hzk
    have hlt := kz_tk_lt 8 B (8 * at' + 12 * k) 12
    unfold kSX6_unpackNumbers_10
    rw [nI_clamp (show k < 2 ^ 31 by omega)]
    refine (kb_b_ff (kz_nle (n := 256) hk (by decide))).trans ?_
    refine (kb_g_tt (kb_in_n hk (by decide))).trans ?_
    refine (kb_n_v (v := nI (kz_tk 8 B (8 * at' + 12 * k) 12 % 3329)) (by rw [hzk]; exact kz_rem (by omega))).trans ?_
    refine (kb_g_tt (kb_in_n hk (by decide))).trans ?_
    refine (kb_n_v rfl).trans ?_
    exact (kb_n_v (kz_inc _)).trans rfl
  · show upd z k (nI (kz_tk 8 B (8 * at' + 12 * k) 12 % 3329)) i = _
    by_cases e : i = k
    · subst e
      rw [pk_us, if_pos (by omega)]
    · rw [pk_un e, hz i hi]
      by_cases e2 : i < k
      · rw [if_pos e2, if_pos (by omega)]
      · rw [if_neg e2, if_neg (by omega)]
/-! Layer 2: SAMPLE, of the class and of the reference. -/
theorem kb_w_ex {σ ρ : Type} {step : σ → Option (σ ⊕ ρ)} (I : Nat → σ → Prop) (post : ρ → Prop) (n : Nat) (hs : ∀ i s, i < n → I i s → (∃ s', step s = some (.inl s') ∧ I (i + 1) s') ∨ ∃ r, step s = some (.inr r) ∧ post r) (hx : ∀ s, I n s → ∃ r, step s = some (.inr r) ∧ post r) :
    ∀ (d i : Nat) (s : σ) (fuel : Nat), i + d = n → d < fuel → I i s → ∃ r, kb_w step fuel s = some r ∧ post r := by
  intro d
  induction d with
  | zero =>
    intro i s fuel hi hf h
    obtain ⟨f, rfl⟩ : ∃ f, fuel = f + 1 := ⟨fuel - 1, by omega⟩
    have hi : i = n := by omega
    subst hi
    obtain ⟨r, h1, h2⟩ := hx s h
    exact ⟨r, by simp [kb_w, h1], h2⟩
  | succ d ih =>
    intro i s fuel hi hf h
    obtain ⟨f, rfl⟩ : ∃ f, fuel = f + 1 := ⟨fuel - 1, by omega⟩
    rcases hs i s (by omega) h with ⟨s', h1, h2⟩ | ⟨r, h1, h2⟩
    · obtain ⟨r, h3, h4⟩ := ih (i + 1) s' f (by omega) (by omega) h2
      exact ⟨r, by simp [kb_w, h1, h3], h4⟩
    · exact ⟨r, by simp [kb_w, h1], h2⟩
theorem kz_gv_add (rc : Nat → Int64) (R : Nat) (u : kz_SP) (m : Nat) : ∀ n, kz_gv rc R (kz_gv rc R u m) n = kz_gv rc R u (m + n)
  | 0 => rfl
  | n + 1 => by
    show ((kz_sz rc R (kz_gv rc R (kz_gv rc R u m) n)).1, (kz_sz rc R (kz_gv rc R (kz_gv rc R u m) n)).2 + 1) = ((kz_sz rc R (kz_gv rc R u (m + n))).1, (kz_sz rc R (kz_gv rc R u (m + n))).2 + 1)
    rw [kz_gv_add rc R u m n]
theorem kz_gb_add (rc : Nat → Int64) (R : Nat) (u : kz_SP) (m n : Nat) : kz_gb rc R (kz_gv rc R u m) n = kz_gb rc R u (m + n) := by
  unfold kz_gb
  rw [kz_gv_add]
def kz_up (p : Nat → Nat) (k v : Nat) : Nat → Nat := fun i => if i = k then v else p i
def kz_s1 (u : Nat × (Nat → Nat)) (x y : Nat) : Nat × (Nat → Nat) := if 3329 ≤ x then (if 3329 ≤ y then u else (u.1 + 1, kz_up u.2 u.1 y)) else (if 3329 ≤ y then (u.1 + 1, kz_up u.2 u.1 x) else if 256 ≤ u.1 + 1 then (u.1 + 1, kz_up u.2 u.1 x) else (u.1 + 2, kz_up (kz_up u.2 u.1 x) (u.1 + 1) y))
/-- the numbers found in the first t triples -/
def kz_sm (g : Nat → Nat) : Nat → Nat × (Nat → Nat)
  | 0 => (0, fun _ => 0)
  | t + 1 => if (kz_sm g t).1 < 256 then kz_s1 (kz_sm g t) (g (3 * t) + 256 * (g (3 * t + 1) % 16)) (g (3 * t + 1) / 16 + 16 * g (3 * t + 2)) else kz_sm g t
theorem kz_sm_le (g : Nat → Nat) : ∀ t, (kz_sm g t).1 ≤ 256
  | 0 => by decide
  | t + 1 => by
    have h := kz_sm_le g t
    show (if (kz_sm g t).1 < 256 then kz_s1 (kz_sm g t) (g (3 * t) + 256 * (g (3 * t + 1) % 16)) (g (3 * t + 1) / 16 + 16 * g (3 * t + 2)) else kz_sm g t).1 ≤ 256
    by_cases c : (kz_sm g t).1 < 256
    · rw [if_pos c]
      generalize kz_sm g t = u at h c
      unfold kz_s1
      split
      · split
        · exact h
        · exact c
      · split
        · exact c
        · split
          · exact c
          · show u.1 + 2 ≤ 256
            omega
    · rw [if_neg c]
      exact h
theorem kz_sm_stop (g : Nat → Nat) {t : Nat} (h : ¬ (kz_sm g t).1 < 256) : ∀ k, kz_sm g (t + k) = kz_sm g t
  | 0 => rfl
  | k + 1 => by
    have ih := kz_sm_stop g h k
    show (if (kz_sm g (t + k)).1 < 256 then _ else kz_sm g (t + k)) = kz_sm g t
    rw [ih, if_neg h]
def kz_Rn (n : Nat) (p : Nat → Nat) (f : Nat → Int32) : Prop := ∀ i, i < n → p i < 3329 ∧ f i = nI (p i)
theorem kz_Rn_u {n v : Nat} {p : Nat → Nat} {f : Nat → Int32} (h : kz_Rn n p f) (hv : v < 3329) : kz_Rn (n + 1) (kz_up p n v) (upd f n (nI v)) := fun i hi => by
  unfold kz_up
  by_cases e : i = n
  · subst e
    exact ⟨by rw [if_pos rfl]; exact hv, by rw [if_pos rfl]; exact pk_us⟩
  · exact ⟨by rw [if_neg e]; exact (h i (by omega)).1, by rw [if_neg e, pk_un e]; exact (h i (by omega)).2⟩
theorem kz_16 {b : Nat} (hb : b < 256) : nI b - nI b / (16 : Int32) * (16 : Int32) = nI (b % 16) := pk_rem (d := 16) (by omega) (by decide) (by decide)
theorem kz_d16 {b : Nat} (hb : b < 256) : nI b / (16 : Int32) = nI (b / 16) := pk_div (d := 16) (by omega) (by decide) (by decide)
theorem kz_sx {a b : Nat} (hb : b < 256) : nI a + (256 : Int32) * (nI b - nI b / (16 : Int32) * (16 : Int32)) = nI (a + 256 * (b % 16)) := by
  rw [kz_16 hb, show (256 : Int32) * nI (b % 16) = nI (256 * (b % 16)) from pk_mul _ _, nI_add]
theorem kz_sy {b c : Nat} (hb : b < 256) : nI b / (16 : Int32) + (16 : Int32) * nI c = nI (b / 16 + 16 * c) := by
  rw [kz_d16 hb, show (16 : Int32) * nI c = nI (16 * c) from pk_mul _ _, nI_add]
theorem kz_sample {rc lanes moved columns : Nat → Int64} {turns targets three f : Nat → Int32} {R : Nat} {u : kz_SP} (hT : kz_tab turns targets) (hR : 0 < R) (hR2 : R ≤ 200) (hu : u.2 ≤ R) (hL : kz_e25 lanes u.1) :
    ∃ pl l' m' c' three' f', kFX1_sample 256 (nI R) (nI u.2) lanes moved columns turns targets rc three f = some (if (kz_sm (kz_gb rc R u) 280).1 < 256 then .inr ("java/lang/ArithmeticException", (pl, l', m', c', three', f')) else .inl (pl, l', m', c', three', f')) ∧ kz_Rn (kz_sm (kz_gb rc R u) 280).1 (kz_sm (kz_gb rc R u) 280).2 f' := by
  obtain ⟨⟨x2, x3, f', pl, c', l', m', th⟩, k1, k2, k3⟩ : ∃ r, kb_w (fun z : Int32 × Int32 × (Nat → Int32) × Int32 × (Nat → Int64) × (Nat → Int64) × (Nat → Int64) × (Nat → Int32) => kSX1_sample_4 256 (nI R) turns targets rc z.1 z.2.1 z.2.2.1 z.2.2.2.1 z.2.2.2.2.1 z.2.2.2.2.2.1 z.2.2.2.2.2.2.1 z.2.2.2.2.2.2.2) 100000 ((0 : Int32), (0 : Int32), f, nI u.2, columns, lanes, moved, three) = some r ∧ r.1 = nI (kz_sm (kz_gb rc R u) 280).1 ∧ kz_Rn (kz_sm (kz_gb rc R u) 280).1 (kz_sm (kz_gb rc R u) 280).2 r.2.2.1 := by
    refine kb_w_ex (σ := Int32 × Int32 × (Nat → Int32) × Int32 × (Nat → Int64) × (Nat → Int64) × (Nat → Int64) × (Nat → Int32)) (ρ := Int32 × Int32 × (Nat → Int32) × Int32 × (Nat → Int64) × (Nat → Int64) × (Nat → Int64) × (Nat → Int32)) (fun t z => z.1 = nI (kz_sm (kz_gb rc R u) t).1 ∧ z.2.1 = nI t ∧ kz_Rn (kz_sm (kz_gb rc R u) t).1 (kz_sm (kz_gb rc R u) t).2 z.2.2.1 ∧ z.2.2.2.1 = nI (kz_gv rc R u (3 * t)).2 ∧ kz_e25 z.2.2.2.2.2.1 (kz_gv rc R u (3 * t)).1) (fun r => r.1 = nI (kz_sm (kz_gb rc R u) 280).1 ∧ kz_Rn (kz_sm (kz_gb rc R u) 280).1 (kz_sm (kz_gb rc R u) 280).2 r.2.2.1) 280 ?_ ?_ 280 0 _ 100000 (by omega) (by omega) ⟨rfl, rfl, fun i hi => absurd hi (Nat.not_lt_zero _), rfl, hL⟩
    · rintro t ⟨x2, x3, f0, pl, c0, l0, m0, th⟩ ht ⟨h1, h2, h3, h4, h5⟩
      replace h1 : x2 = _ := h1
      replace h2 : x3 = _ := h2
      replace h3 : kz_Rn _ _ f0 := h3
      replace h4 : pl = _ := h4
      replace h5 : kz_e25 l0 _ := h5
      subst h1 h2 h4
      have hn := kz_sm_le (kz_gb rc R u) t
      by_cases c : (kz_sm (kz_gb rc R u) t).1 < 256
      · left
        obtain ⟨l1, m1, c1, th1, q1, q2, q3⟩ := kz_give (f := th) (moved := m0) (columns := c0) (at' := 0) (n := 3) (n1 := 3) hT hR hR2 (kz_gv_le (rc := rc) hR hu (3 * t)) h5 (by decide) (by decide) (by decide)
        rw [kz_gv_add] at q1 q2
        have b0 : th1 0 = kz_by (kz_gb rc R u (3 * t)) := by rw [q3 0, if_pos ⟨by decide, by decide⟩, kz_gb_add]
        have b1 : th1 1 = kz_by (kz_gb rc R u (3 * t + 1)) := by rw [q3 1, if_pos ⟨by decide, by decide⟩, kz_gb_add]
        have b2 : th1 2 = kz_by (kz_gb rc R u (3 * t + 2)) := by rw [q3 2, if_pos ⟨by decide, by decide⟩, kz_gb_add]
        have a0 := kz_gb_lt rc R u (3 * t)
        have a1 := kz_gb_lt rc R u (3 * t + 1)
        have a2 := kz_gb_lt rc R u (3 * t + 2)
        have hsm : kz_sm (kz_gb rc R u) (t + 1) = kz_s1 (kz_sm (kz_gb rc R u) t) (kz_gb rc R u (3 * t) + 256 * (kz_gb rc R u (3 * t + 1) % 16)) (kz_gb rc R u (3 * t + 1) / 16 + 16 * kz_gb rc R u (3 * t + 2)) := by
          show (if (kz_sm (kz_gb rc R u) t).1 < 256 then _ else _) = _
          rw [if_pos c]
        rw [hsm, show 3 * (t + 1) = 3 * t + 3 by omega]
        generalize kz_gb rc R u (3 * t) = A at *
        generalize kz_gb rc R u (3 * t + 1) = B at *
        generalize kz_gb rc R u (3 * t + 2) = C at *
        generalize kz_sm (kz_gb rc R u) t = w at *
        have e1 : kSX1_sample_4 256 (nI R) turns targets rc (nI w.1) (nI t) f0 (nI (kz_gv rc R u (3 * t)).2) c0 l0 m0 th = _ := rfl
        show ∃ s', kSX1_sample_4 256 (nI R) turns targets rc (nI w.1) (nI t) f0 (nI (kz_gv rc R u (3 * t)).2) c0 l0 m0 th = some (.inl s') ∧ _
        have hx : A + 256 * (B % 16) < 2 ^ 31 := by omega
        have hy : B / 16 + 16 * C < 2 ^ 31 := by omega
        unfold kSX1_sample_4
        unfold kz_s1
        by_cases cx : 3329 ≤ A + 256 * (B % 16)
        · rw [if_pos cx]
          by_cases cy : 3329 ≤ B / 16 + 16 * C
          · rw [if_pos cy]
            refine ⟨(nI w.1, nI (t + 1), f0, nI (kz_gv rc R u (3 * t + 3)).2, c1, l1, m1, th1), ?_, rfl, rfl, h3, rfl, q2⟩
            refine (kb_b_ff (kz_nle (n := 280) ht (by decide))).trans ?_
            refine (kb_b_ff (kz_nle (n := 256) c (by decide))).trans ?_
            refine (kb_o_v q1).trans ?_
            refine (kb_n_v (v := nI A) ((congrArg (· &&& (255 : Int32)) b0).trans (kz_by_255 a0))).trans ?_
            refine (kb_n_v (v := nI B) ((congrArg (· &&& (255 : Int32)) b1).trans (kz_by_255 a1))).trans ?_
            refine (kb_n_v (v := nI C) ((congrArg (· &&& (255 : Int32)) b2).trans (kz_by_255 a2))).trans ?_
            refine (kb_n_v (kz_sx a1)).trans ?_
            refine (kb_n_v (kz_sy a1)).trans ?_
            refine (kb_b_tt (kz_le (n := 3329) cx hx)).trans ?_
            refine (kb_b_tt (kz_le (n := 3329) cy hy)).trans ?_
            exact (kb_n_v (kz_inc _)).trans rfl
          · rw [if_neg cy]
            refine ⟨(nI (w.1 + 1), nI (t + 1), upd f0 w.1 (nI (B / 16 + 16 * C)), nI (kz_gv rc R u (3 * t + 3)).2, c1, l1, m1, th1), ?_, rfl, rfl, kz_Rn_u h3 (by omega), rfl, q2⟩
            refine (kb_b_ff (kz_nle (n := 280) ht (by decide))).trans ?_
            refine (kb_b_ff (kz_nle (n := 256) c (by decide))).trans ?_
            refine (kb_o_v q1).trans ?_
            refine (kb_n_v (v := nI A) ((congrArg (· &&& (255 : Int32)) b0).trans (kz_by_255 a0))).trans ?_
            refine (kb_n_v (v := nI B) ((congrArg (· &&& (255 : Int32)) b1).trans (kz_by_255 a1))).trans ?_
            refine (kb_n_v (v := nI C) ((congrArg (· &&& (255 : Int32)) b2).trans (kz_by_255 a2))).trans ?_
            refine (kb_n_v (kz_sx a1)).trans ?_
            refine (kb_n_v (kz_sy a1)).trans ?_
            refine (kb_b_tt (kz_le (n := 3329) cx hx)).trans ?_
            refine (kb_b_ff (kz_nle (n := 3329) (by omega) (by decide))).trans ?_
            refine (kb_b_ff (kz_nle (n := 256) c (by decide))).trans ?_
            refine (kb_g_tt (kb_in_n c (by decide))).trans ?_
            refine (kb_n_v (v := upd f0 w.1 (nI (B / 16 + 16 * C))) (by rw [nI_clamp (by omega)])).trans ?_
            refine (kb_n_v (kz_inc _)).trans ?_
            exact (kb_n_v (kz_inc _)).trans rfl
        · rw [if_neg cx]
          by_cases cy : 3329 ≤ B / 16 + 16 * C
          · rw [if_pos cy]
            refine ⟨(nI (w.1 + 1), nI (t + 1), upd f0 w.1 (nI (A + 256 * (B % 16))), nI (kz_gv rc R u (3 * t + 3)).2, c1, l1, m1, th1), ?_, rfl, rfl, kz_Rn_u h3 (by omega), rfl, q2⟩
            refine (kb_b_ff (kz_nle (n := 280) ht (by decide))).trans ?_
            refine (kb_b_ff (kz_nle (n := 256) c (by decide))).trans ?_
            refine (kb_o_v q1).trans ?_
            refine (kb_n_v (v := nI A) ((congrArg (· &&& (255 : Int32)) b0).trans (kz_by_255 a0))).trans ?_
            refine (kb_n_v (v := nI B) ((congrArg (· &&& (255 : Int32)) b1).trans (kz_by_255 a1))).trans ?_
            refine (kb_n_v (v := nI C) ((congrArg (· &&& (255 : Int32)) b2).trans (kz_by_255 a2))).trans ?_
            refine (kb_n_v (kz_sx a1)).trans ?_
            refine (kb_n_v (kz_sy a1)).trans ?_
            refine (kb_b_ff (kz_nle (n := 3329) (by omega) (by decide))).trans ?_
            refine (kb_g_tt (kb_in_n c (by decide))).trans ?_
            refine (kb_n_v (v := upd f0 w.1 (nI (A + 256 * (B % 16)))) (by rw [nI_clamp (by omega)])).trans ?_
            refine (kb_n_v (kz_inc _)).trans ?_
            refine (kb_b_tt (kz_le (n := 3329) cy hy)).trans ?_
            exact (kb_n_v (kz_inc _)).trans rfl
          · rw [if_neg cy]
            by_cases c5 : 256 ≤ w.1 + 1
            · rw [if_pos c5]
              refine ⟨(nI (w.1 + 1), nI (t + 1), upd f0 w.1 (nI (A + 256 * (B % 16))), nI (kz_gv rc R u (3 * t + 3)).2, c1, l1, m1, th1), ?_, rfl, rfl, kz_Rn_u h3 (by omega), rfl, q2⟩
              refine (kb_b_ff (kz_nle (n := 280) ht (by decide))).trans ?_
              refine (kb_b_ff (kz_nle (n := 256) c (by decide))).trans ?_
              refine (kb_o_v q1).trans ?_
              refine (kb_n_v (v := nI A) ((congrArg (· &&& (255 : Int32)) b0).trans (kz_by_255 a0))).trans ?_
              refine (kb_n_v (v := nI B) ((congrArg (· &&& (255 : Int32)) b1).trans (kz_by_255 a1))).trans ?_
              refine (kb_n_v (v := nI C) ((congrArg (· &&& (255 : Int32)) b2).trans (kz_by_255 a2))).trans ?_
              refine (kb_n_v (kz_sx a1)).trans ?_
              refine (kb_n_v (kz_sy a1)).trans ?_
              refine (kb_b_ff (kz_nle (n := 3329) (by omega) (by decide))).trans ?_
              refine (kb_g_tt (kb_in_n c (by decide))).trans ?_
              refine (kb_n_v (v := upd f0 w.1 (nI (A + 256 * (B % 16)))) (by rw [nI_clamp (by omega)])).trans ?_
              refine (kb_n_v (kz_inc _)).trans ?_
              refine (kb_b_ff (kz_nle (n := 3329) (by omega) (by decide))).trans ?_
              refine (kb_b_tt (kz_le (n := 256) c5 (by omega))).trans ?_
              exact (kb_n_v (kz_inc _)).trans rfl
            · rw [if_neg c5]
              refine ⟨(nI (w.1 + 2), nI (t + 1), upd (upd f0 w.1 (nI (A + 256 * (B % 16)))) (w.1 + 1) (nI (B / 16 + 16 * C)), nI (kz_gv rc R u (3 * t + 3)).2, c1, l1, m1, th1), ?_, rfl, rfl, kz_Rn_u (kz_Rn_u h3 (by omega)) (by omega), rfl, q2⟩
              refine (kb_b_ff (kz_nle (n := 280) ht (by decide))).trans ?_
              refine (kb_b_ff (kz_nle (n := 256) c (by decide))).trans ?_
              refine (kb_o_v q1).trans ?_
              refine (kb_n_v (v := nI A) ((congrArg (· &&& (255 : Int32)) b0).trans (kz_by_255 a0))).trans ?_
              refine (kb_n_v (v := nI B) ((congrArg (· &&& (255 : Int32)) b1).trans (kz_by_255 a1))).trans ?_
              refine (kb_n_v (v := nI C) ((congrArg (· &&& (255 : Int32)) b2).trans (kz_by_255 a2))).trans ?_
              refine (kb_n_v (kz_sx a1)).trans ?_
              refine (kb_n_v (kz_sy a1)).trans ?_
              refine (kb_b_ff (kz_nle (n := 3329) (by omega) (by decide))).trans ?_
              refine (kb_g_tt (kb_in_n c (by decide))).trans ?_
              refine (kb_n_v (v := upd f0 w.1 (nI (A + 256 * (B % 16)))) (by rw [nI_clamp (by omega)])).trans ?_
              refine (kb_n_v (kz_inc _)).trans ?_
              refine (kb_b_ff (kz_nle (n := 3329) (by omega) (by decide))).trans ?_
              refine (kb_b_ff (kz_nle (n := 256) (by omega) (by decide))).trans ?_
              refine (kb_g_tt (kb_in_n (by omega) (by decide))).trans ?_
              refine (kb_n_v (v := upd (upd f0 w.1 (nI (A + 256 * (B % 16)))) (w.1 + 1) (nI (B / 16 + 16 * C))) (by rw [nI_clamp (by omega)])).trans ?_
              refine (kb_n_v (v := nI (w.1 + 2)) (kz_inc _)).trans ?_
              exact (kb_n_v (kz_inc _)).trans rfl
      · right
        have hst := kz_sm_stop (kz_gb rc R u) c (280 - t)
        rw [show t + (280 - t) = 280 by omega] at hst
        refine ⟨(nI (kz_sm (kz_gb rc R u) t).1, nI t, f0, nI (kz_gv rc R u (3 * t)).2, c0, l0, m0, th), ?_, ?_, ?_⟩
        · show kSX1_sample_4 256 (nI R) turns targets rc (nI (kz_sm (kz_gb rc R u) t).1) (nI t) f0 (nI (kz_gv rc R u (3 * t)).2) c0 l0 m0 th = _
          unfold kSX1_sample_4
          refine (kb_b_ff (kz_nle (n := 280) ht (by decide))).trans ?_
          exact kb_b_tt (kz_le (n := 256) (by omega) (by omega))
        · rw [hst]
        · rw [hst]; exact h3
    · rintro ⟨x2, x3, f0, pl, c0, l0, m0, th⟩ ⟨h1, h2, h3, h4, h5⟩
      replace h2 : x3 = nI 280 := h2
      subst h2
      refine ⟨(x2, nI 280, f0, pl, c0, l0, m0, th), ?_, h1, h3⟩
      show kSX1_sample_4 256 (nI R) turns targets rc x2 (nI 280) f0 pl c0 l0 m0 th = _
      unfold kSX1_sample_4
      exact kb_b_tt (kz_le (n := 280) (Nat.le_refl _) (by decide))
  replace k2 : x2 = _ := k2
  subst k2
  refine ⟨pl, l', m', c', th, f', ?_, k3⟩
  have hn := kz_sm_le (kz_gb rc R u) 280
  unfold kFX1_sample
  refine (kb_o_v k1).trans ?_
  by_cases c : (kz_sm (kz_gb rc R u) 280).1 < 256
  · rw [if_pos c]
    exact kb_b_ff (kz_nle (n := 256) c (by decide))
  · rw [if_neg c]
    exact kb_b_tt (kz_le (n := 256) (by omega) (by omega))
/-! Layer 2: the noise, of the class and of the reference. -/
theorem kz_tk_bit (w : Nat) (B : Nat → Nat) (s : Nat) {j n : Nat} (h : j < n) : kz_tk w B s n / 2 ^ j % 2 = B ((s + j) / w) / 2 ^ ((s + j) % w) % 2 := by
  obtain ⟨m, rfl⟩ : ∃ m, n = j + (1 + m) := ⟨n - j - 1, by omega⟩
  rw [kz_tk_div]
  have h1 := kz_tk_mod w B (s + j) 1 m
  rw [show (2 ^ 1 : Nat) = 2 from rfl] at h1
  rw [h1]
  show 0 + B ((s + j + 0) / w) / 2 ^ ((s + j + 0) % w) % 2 * 2 ^ 0 = _
  rw [Nat.pow_zero, Nat.mul_one, Nat.zero_add, Nat.add_zero]
/-- how many of e bits from bit s on are set -/
def kz_pc (y s e : Nat) : Nat := kz_sum (fun j => y / 2 ^ (s + j) % 2) e
def kz_no (e y : Nat) : Nat := (kz_pc y 0 e + 3329 - kz_pc y e e) % 3329
theorem kz_pc_le (y s : Nat) : ∀ e, kz_pc y s e ≤ e
  | 0 => Nat.le_refl _
  | e + 1 => by
    have h := kz_pc_le y s e
    show kz_pc y s e + y / 2 ^ (s + e) % 2 ≤ e + 1
    omega
theorem kz_bc : ∀ e ∈ [2, 3], ∀ y, y < 64 → kFX8_bitCount (nI y &&& (((1 : Int32) <<< (nI e &&& 31)) - (1 : Int32))) = some (nI (kz_pc y 0 e)) ∧ (y < 2 ^ (2 * e) → kFX8_bitCount (nI y >>> (nI e &&& 31)) = some (nI (kz_pc y e e))) := by decide +kernel
theorem kz_noise86 {a : Nat → Nat} {f : Nat → Int32} {e : Nat} (he : e ∈ [2, 3]) (hf : ∀ i, i < 256 → a i < 2 ^ (2 * e) ∧ f i = nI (a i)) :
    ∃ g, kb_w (fun u : Int32 × (Nat → Int32) => kSX1_fillWithNoise_86 (nI e) 256 u.1 u.2) 100000 ((0 : Int32), f) = some (nI 256, g) ∧ kz_R (fun i => kz_no e (a i)) g := by
  have he2 : e ≤ 3 := by
    simp only [List.mem_cons, List.not_mem_nil, or_false] at he
    omega
  have h64 : 2 ^ (2 * e) ≤ 2 ^ 6 := kz_p2 (by omega)
  obtain ⟨g, k1, k2⟩ := kz_for (S := fun i f => kSX1_fillWithNoise_86 (nI e) 256 i f) (g := f) nI 256 (fun k f => ∀ i, i < 256 → f i = if i < k then nI (kz_no e (a i)) else nI (a i)) (by decide) (fun k z hk hz => ⟨upd z k (nI (kz_no e (a k))), ?_, fun i hi => ?_⟩) (fun g _ => kb_b_tt (kz_le (n := 256) (Nat.le_refl _) (by decide))) (fun i hi => by rw [if_neg (by omega)]; exact (hf i hi).2)
  · exact ⟨g, k1, fun i hi => ⟨Nat.mod_lt _ (by decide), by rw [k2 i hi, if_pos hi]⟩⟩
  · show kSX1_fillWithNoise_86 (nI e) 256 (nI k) z = _
    have hzk := hz k hk
    rw [if_neg (by omega)] at hzk
    have hak := (hf k hk).1
    obtain ⟨b1, b2⟩ := kz_bc e he (a k) (by omega)
    have p1 := kz_pc_le (a k) 0 e
    have p2 := kz_pc_le (a k) e e
    unfold kSX1_fillWithNoise_86
    rw [nI_clamp (show k < 2 ^ 31 by omega), hzk]
    refine (kb_b_ff (kz_nle (n := 256) hk (by decide))).trans ?_
    refine (kb_g_tt (kb_in_n hk (by decide))).trans ?_
    refine (kb_o_v b1).trans ?_
    refine (kb_g_tt (kb_in_n hk (by decide))).trans ?_
    refine (kb_o_v (b2 hak)).trans ?_
    refine (kb_n_v (v := nI (kz_no e (a k))) ?_).trans ?_
    · rw [show nI (kz_pc (a k) 0 e) + (3329 : Int32) = nI (kz_pc (a k) 0 e + 3329) from nI_add _ _, pk_sub (by omega)]
      exact kz_rem (by omega)
    refine (kb_g_tt (kb_in_n hk (by decide))).trans ?_
    refine (kb_n_v rfl).trans ?_
    exact (kb_n_v (kz_inc _)).trans rfl
  · show upd z k (nI (kz_no e (a k))) i = _
    by_cases e' : i = k
    · subst e'
      rw [pk_us, if_pos (by omega)]
    · rw [pk_un e', hz i hi]
      by_cases e2 : i < k
      · rw [if_pos e2, if_pos (by omega)]
      · rw [if_neg e2, if_neg (by omega)]
/-- the reference's sum of bits -/
theorem kz_rno51 {B : Nat → Nat} {f : Nat → Int32} {e i : Nat} (hY : kz_Y B f 0 (64 * e)) (he : e ≤ 3) (hi : i < 256) :
    ∃ r, kb_w (fun u : Int32 × Int32 => kSX5_binomial_51 (nI e) (nI i) f u.1 u.2) 100000 ((0 : Int32), (0 : Int32)) = some r ∧ r.1 = nI (kz_pc (kz_tk 8 B (2 * i * e) (2 * e)) 0 e) - nI (kz_pc (kz_tk 8 B (2 * i * e) (2 * e)) e e) := by
  refine kb_w_inv (σ := Int32 × Int32) (ρ := Int32 × Int32) (fun k u => u.1 = nI (kz_pc (kz_tk 8 B (2 * i * e) (2 * e)) 0 k) - nI (kz_pc (kz_tk 8 B (2 * i * e) (2 * e)) e k) ∧ u.2 = nI k) (fun r => r.1 = nI (kz_pc (kz_tk 8 B (2 * i * e) (2 * e)) 0 e) - nI (kz_pc (kz_tk 8 B (2 * i * e) (2 * e)) e e)) e ?_ ?_ e 0 _ 100000 (by omega) (by omega) ⟨by decide +kernel, rfl⟩
  · rintro k ⟨x, y⟩ hk ⟨h1, h2⟩
    replace h1 : x = _ := h1
    replace h2 : y = nI k := h2
    subst h1 h2
    have hm : 2 * i * e + 2 * e ≤ 512 * e := by rw [← Nat.add_mul]; exact Nat.mul_le_mul_right e (by omega)
    have q1 := kz_bitOf (n1 := 256) (at' := 0) (j := 2 * i * e + k) hY (by omega) (by omega) (by omega) (by decide) (by omega)
    have q2 := kz_bitOf (n1 := 256) (at' := 0) (j := 2 * i * e + e + k) hY (by omega) (by omega) (by omega) (by decide) (by omega)
    rw [show 8 * 0 + (2 * i * e + k) = 2 * i * e + k by omega, ← kz_tk_bit 8 B (2 * i * e) (n := 2 * e) (by omega)] at q1
    rw [show 8 * 0 + (2 * i * e + e + k) = 2 * i * e + (e + k) by omega, ← kz_tk_bit 8 B (2 * i * e) (n := 2 * e) (by omega)] at q2
    refine ⟨(nI (kz_pc (kz_tk 8 B (2 * i * e) (2 * e)) 0 (k + 1)) - nI (kz_pc (kz_tk 8 B (2 * i * e) (2 * e)) e (k + 1)), nI (k + 1)), ?_, rfl, rfl⟩
    show kSX5_binomial_51 (nI e) (nI i) f (nI (kz_pc (kz_tk 8 B (2 * i * e) (2 * e)) 0 k) - nI (kz_pc (kz_tk 8 B (2 * i * e) (2 * e)) e k)) (nI k) = _
    unfold kSX5_binomial_51
    rw [show (2 : Int32) * nI i = nI (2 * i) from pk_mul _ _, pk_mul, nI_add (2 * i * e) k, nI_add (2 * i * e) e, nI_add (2 * i * e + e) k]
    refine (kb_b_ff (kz_nle hk (by omega))).trans ?_
    refine (kb_o_v q1).trans ?_
    refine (kb_o_v q2).trans ?_
    refine (kb_n_v (v := nI (kz_pc (kz_tk 8 B (2 * i * e) (2 * e)) 0 (k + 1)) - nI (kz_pc (kz_tk 8 B (2 * i * e) (2 * e)) e (k + 1))) ?_).trans ?_
    · rw [show kz_pc (kz_tk 8 B (2 * i * e) (2 * e)) 0 (k + 1) = kz_pc (kz_tk 8 B (2 * i * e) (2 * e)) 0 k + kz_tk 8 B (2 * i * e) (2 * e) / 2 ^ k % 2 by show _ + kz_tk 8 B (2 * i * e) (2 * e) / 2 ^ (0 + k) % 2 = _; rw [Nat.zero_add], show kz_pc (kz_tk 8 B (2 * i * e) (2 * e)) e (k + 1) = kz_pc (kz_tk 8 B (2 * i * e) (2 * e)) e k + kz_tk 8 B (2 * i * e) (2 * e) / 2 ^ (e + k) % 2 from rfl]
      rw [← nI_add, ← nI_add]
      generalize nI (kz_pc (kz_tk 8 B (2 * i * e) (2 * e)) 0 k) = a1
      generalize nI (kz_pc (kz_tk 8 B (2 * i * e) (2 * e)) e k) = a2
      generalize nI (kz_tk 8 B (2 * i * e) (2 * e) / 2 ^ k % 2) = a3
      generalize nI (kz_tk 8 B (2 * i * e) (2 * e) / 2 ^ (e + k) % 2) = a4
      grind
    exact (kb_n_v (kz_inc _)).trans rfl
  · rintro ⟨x, y⟩ ⟨h1, h2⟩
    replace h2 : y = nI e := h2
    subst h2
    refine ⟨(x, nI e), ?_, h1⟩
    show kSX5_binomial_51 (nI e) (nI i) f x (nI e) = _
    unfold kSX5_binomial_51
    exact kb_b_tt (kz_le (Nat.le_refl _) (by omega))
theorem kz_rno37 {B : Nat → Nat} {f f1 : Nat → Int32} {e : Nat} (hY : kz_Y B f 0 (64 * e)) (he : e ≤ 3) :
    ∃ g, kb_w (fun u : Int32 × (Nat → Int32) => kSX5_binomial_37 (nI e) 256 f u.1 u.2) 100000 ((0 : Int32), f1) = some (nI 256, g) ∧ kz_R (fun i => kz_no e (kz_tk 8 B (2 * e * i) (2 * e))) g := by
  refine kz_fill (S := fun x z => kSX5_binomial_37 (nI e) 256 f x z) (fun k _ => Nat.mod_lt _ (by decide)) (fun k z hk => ?_) (fun z => kb_b_tt (kz_le (n := 256) (Nat.le_refl _) (by decide)))
  have hm : 2 * k * e ≤ 2 * 255 * 3 := Nat.mul_le_mul (by omega) he
  obtain ⟨⟨x, y⟩, k1, k2⟩ := kz_rno51 (i := k) hY he hk
  replace k2 : x = _ := k2
  subst k2
  have p1 := kz_pc_le (kz_tk 8 B (2 * k * e) (2 * e)) 0 e
  have p2 := kz_pc_le (kz_tk 8 B (2 * k * e) (2 * e)) e e
  show kSX5_binomial_37 (nI e) 256 f (nI k) z = _
  rw [show 2 * e * k = 2 * k * e by rw [Nat.mul_right_comm]]
  unfold kSX5_binomial_37
  rw [nI_clamp (show k < 2 ^ 31 by omega)]
  refine (kb_b_ff (kz_nle (n := 256) hk (by decide))).trans ?_
  refine (kb_o_v k1).trans ?_
  refine (kb_n_v (v := nI (kz_no e (kz_tk 8 B (2 * k * e) (2 * e)))) ?_).trans ?_
  · have h9 : nI (kz_pc (kz_tk 8 B (2 * k * e) (2 * e)) 0 e) - nI (kz_pc (kz_tk 8 B (2 * k * e) (2 * e)) e e) + (3329 : Int32) = nI (kz_pc (kz_tk 8 B (2 * k * e) (2 * e)) 0 e + 3329 - kz_pc (kz_tk 8 B (2 * k * e) (2 * e)) e e) := by
      rw [← pk_sub (by omega), ← nI_add, show (3329 : Int32) = nI 3329 from rfl]
      generalize nI (kz_pc (kz_tk 8 B (2 * k * e) (2 * e)) 0 e) = a1
      generalize nI (kz_pc (kz_tk 8 B (2 * k * e) (2 * e)) e e) = a2
      generalize nI 3329 = a3
      grind
    rw [h9]
    exact kz_rem (by omega)
  refine (kb_g_tt (kb_in_n hk (by decide))).trans ?_
  refine (kb_n_v rfl).trans ?_
  exact (kb_n_v (kz_inc _)).trans rfl
/-! Layer 2: SAMPLE of the reference (its loop). -/
theorem kz_rsample36 {rc state other column : Nat → Int64} {turns f : Nat → Int32} {R : Nat} {u : kz_SP} (hT : ∀ i, i < 25 → turns i = nI (kz_tn i)) (hR : 0 < R) (hR2 : R ≤ 200) (hu : u.2 ≤ R) (hL : kz_e25 state u.1) :
    ∃ r, kb_w (fun z : Int32 × Int32 × (Nat → Int32) × Int32 × (Nat → Int64) × (Nat → Int64) × (Nat → Int64) => kSX5_sample_36 256 (nI R) turns rc z.1 z.2.1 z.2.2.1 z.2.2.2.1 z.2.2.2.2.1 z.2.2.2.2.2.1 z.2.2.2.2.2.2) 100000 ((0 : Int32), (0 : Int32), f, nI u.2, column, other, state) = some r ∧ r.1 = nI (kz_sm (kz_gb rc R u) 280).1 ∧ kz_Rn (kz_sm (kz_gb rc R u) 280).1 (kz_sm (kz_gb rc R u) 280).2 r.2.2.1 := by
  refine kb_w_ex (σ := Int32 × Int32 × (Nat → Int32) × Int32 × (Nat → Int64) × (Nat → Int64) × (Nat → Int64)) (ρ := Int32 × Int32 × (Nat → Int32) × Int32 × (Nat → Int64) × (Nat → Int64) × (Nat → Int64)) (fun t z => z.1 = nI (kz_sm (kz_gb rc R u) t).1 ∧ z.2.1 = nI t ∧ kz_Rn (kz_sm (kz_gb rc R u) t).1 (kz_sm (kz_gb rc R u) t).2 z.2.2.1 ∧ z.2.2.2.1 = nI (kz_gv rc R u (3 * t)).2 ∧ kz_e25 z.2.2.2.2.2.2 (kz_gv rc R u (3 * t)).1) (fun r => r.1 = nI (kz_sm (kz_gb rc R u) 280).1 ∧ kz_Rn (kz_sm (kz_gb rc R u) 280).1 (kz_sm (kz_gb rc R u) 280).2 r.2.2.1) 280 ?_ ?_ 280 0 _ 100000 (by omega) (by omega) ⟨rfl, rfl, fun i hi => absurd hi (Nat.not_lt_zero _), rfl, hL⟩
  · rintro t ⟨x2, x3, f0, pl, c0, o0, l0⟩ ht ⟨h1, h2, h3, h4, h5⟩
    replace h1 : x2 = _ := h1
    replace h2 : x3 = _ := h2
    replace h3 : kz_Rn _ _ f0 := h3
    replace h4 : pl = _ := h4
    replace h5 : kz_e25 l0 _ := h5
    subst h1 h2 h4
    have hn := kz_sm_le (kz_gb rc R u) t
    by_cases c : (kz_sm (kz_gb rc R u) t).1 < 256
    · left
      obtain ⟨l1, o1, c1, q1, r1⟩ := kz_rsqueeze (other := o0) (column := c0) hT hR hR2 (kz_gv_le (rc := rc) hR hu (3 * t)) h5
      obtain ⟨l2, o2, c2, q2, r2⟩ := kz_rsqueeze (u := kz_gv rc R u (3 * t + 1)) (other := o1) (column := c1) hT hR hR2 (kz_gv_le (rc := rc) hR hu (3 * t + 1)) r1
      obtain ⟨l3, o3, c3, q3, r3⟩ := kz_rsqueeze (u := kz_gv rc R u (3 * t + 2)) (other := o2) (column := c2) hT hR hR2 (kz_gv_le (rc := rc) hR hu (3 * t + 2)) r2
      have a0 := kz_gb_lt rc R u (3 * t)
      have a1 := kz_gb_lt rc R u (3 * t + 1)
      have a2 := kz_gb_lt rc R u (3 * t + 2)
      have hsm : kz_sm (kz_gb rc R u) (t + 1) = kz_s1 (kz_sm (kz_gb rc R u) t) (kz_gb rc R u (3 * t) + 256 * (kz_gb rc R u (3 * t + 1) % 16)) (kz_gb rc R u (3 * t + 1) / 16 + 16 * kz_gb rc R u (3 * t + 2)) := by
        show (if (kz_sm (kz_gb rc R u) t).1 < 256 then _ else _) = _
        rw [if_pos c]
      rw [hsm, show 3 * (t + 1) = 3 * t + 3 by omega]
      replace q1 : kFX5_squeeze (nI R) (nI (kz_gv rc R u (3 * t)).2) turns rc l0 o0 c0 = some (nI (kz_gb rc R u (3 * t)), nI (kz_gv rc R u (3 * t + 1)).2, l1, o1, c1) := q1
      replace q2 : kFX5_squeeze (nI R) (nI (kz_gv rc R u (3 * t + 1)).2) turns rc l1 o1 c1 = some (nI (kz_gb rc R u (3 * t + 1)), nI (kz_gv rc R u (3 * t + 2)).2, l2, o2, c2) := q2
      replace q3 : kFX5_squeeze (nI R) (nI (kz_gv rc R u (3 * t + 2)).2) turns rc l2 o2 c2 = some (nI (kz_gb rc R u (3 * t + 2)), nI (kz_gv rc R u (3 * t + 3)).2, l3, o3, c3) := q3
      replace r3 : kz_e25 l3 (kz_gv rc R u (3 * t + 3)).1 := r3
      generalize kz_gb rc R u (3 * t) = A at *
      generalize kz_gb rc R u (3 * t + 1) = B at *
      generalize kz_gb rc R u (3 * t + 2) = C at *
      generalize kz_sm (kz_gb rc R u) t = w at *
      show ∃ s', kSX5_sample_36 256 (nI R) turns rc (nI w.1) (nI t) f0 (nI (kz_gv rc R u (3 * t)).2) c0 o0 l0 = some (.inl s') ∧ _
      have hx : A + 256 * (B % 16) < 2 ^ 31 := by omega
      have hy : B / 16 + 16 * C < 2 ^ 31 := by omega
      unfold kSX5_sample_36
      unfold kz_s1
      by_cases cx : 3329 ≤ A + 256 * (B % 16)
      · rw [if_pos cx]
        by_cases cy : 3329 ≤ B / 16 + 16 * C
        · rw [if_pos cy]
          refine ⟨(nI w.1, nI (t + 1), f0, nI (kz_gv rc R u (3 * t + 3)).2, c3, o3, l3), ?_, rfl, rfl, h3, rfl, r3⟩
          refine (kb_b_ff (kz_nle (n := 280) ht (by decide))).trans ?_
          refine (kb_b_ff (kz_nle (n := 256) c (by decide))).trans ?_
          refine (kb_o_v q1).trans ?_
          refine (kb_o_v q2).trans ?_
          refine (kb_o_v q3).trans ?_
          rw [kz_sx a1, kz_sy a1]
          refine (kb_b_tt (kz_le (n := 3329) cx hx)).trans ?_
          refine (kb_b_ff (kz_nle (n := 256) c (by decide))).trans ?_
          refine (kb_b_tt (kz_le (n := 3329) cy hy)).trans ?_
          exact (kb_n_v (kz_inc _)).trans rfl
        · rw [if_neg cy]
          refine ⟨(nI (w.1 + 1), nI (t + 1), upd f0 w.1 (nI (B / 16 + 16 * C)), nI (kz_gv rc R u (3 * t + 3)).2, c3, o3, l3), ?_, rfl, rfl, kz_Rn_u h3 (by omega), rfl, r3⟩
          refine (kb_b_ff (kz_nle (n := 280) ht (by decide))).trans ?_
          refine (kb_b_ff (kz_nle (n := 256) c (by decide))).trans ?_
          refine (kb_o_v q1).trans ?_
          refine (kb_o_v q2).trans ?_
          refine (kb_o_v q3).trans ?_
          rw [kz_sx a1, kz_sy a1]
          refine (kb_b_tt (kz_le (n := 3329) cx hx)).trans ?_
          refine (kb_b_ff (kz_nle (n := 256) c (by decide))).trans ?_
          refine (kb_b_ff (kz_nle (n := 3329) (by omega) (by decide))).trans ?_
          refine (kb_g_tt (kb_in_n c (by decide))).trans ?_
          refine (kb_n_v (v := upd f0 w.1 (nI (B / 16 + 16 * C))) (by rw [nI_clamp (by omega)])).trans ?_
          refine (kb_n_v (kz_inc _)).trans ?_
          exact (kb_n_v (kz_inc _)).trans rfl
      · rw [if_neg cx]
        by_cases cy : 3329 ≤ B / 16 + 16 * C
        · rw [if_pos cy]
          refine ⟨(nI (w.1 + 1), nI (t + 1), upd f0 w.1 (nI (A + 256 * (B % 16))), nI (kz_gv rc R u (3 * t + 3)).2, c3, o3, l3), ?_, rfl, rfl, kz_Rn_u h3 (by omega), rfl, r3⟩
          refine (kb_b_ff (kz_nle (n := 280) ht (by decide))).trans ?_
          refine (kb_b_ff (kz_nle (n := 256) c (by decide))).trans ?_
          refine (kb_o_v q1).trans ?_
          refine (kb_o_v q2).trans ?_
          refine (kb_o_v q3).trans ?_
          rw [kz_sx a1, kz_sy a1]
          refine (kb_b_ff (kz_nle (n := 3329) (by omega) (by decide))).trans ?_
          refine (kb_g_tt (kb_in_n c (by decide))).trans ?_
          refine (kb_n_v (v := upd f0 w.1 (nI (A + 256 * (B % 16)))) (by rw [nI_clamp (by omega)])).trans ?_
          refine (kb_n_v (kz_inc _)).trans ?_
          by_cases c5 : 256 ≤ w.1 + 1
          · refine (kb_b_tt (kz_le (n := 256) c5 (by omega))).trans ?_
            exact (kb_n_v (kz_inc _)).trans rfl
          · refine (kb_b_ff (kz_nle (n := 256) (by omega) (by decide))).trans ?_
            refine (kb_b_tt (kz_le (n := 3329) cy hy)).trans ?_
            exact (kb_n_v (kz_inc _)).trans rfl
        · rw [if_neg cy]
          by_cases c5 : 256 ≤ w.1 + 1
          · rw [if_pos c5]
            refine ⟨(nI (w.1 + 1), nI (t + 1), upd f0 w.1 (nI (A + 256 * (B % 16))), nI (kz_gv rc R u (3 * t + 3)).2, c3, o3, l3), ?_, rfl, rfl, kz_Rn_u h3 (by omega), rfl, r3⟩
            refine (kb_b_ff (kz_nle (n := 280) ht (by decide))).trans ?_
            refine (kb_b_ff (kz_nle (n := 256) c (by decide))).trans ?_
            refine (kb_o_v q1).trans ?_
            refine (kb_o_v q2).trans ?_
            refine (kb_o_v q3).trans ?_
            rw [kz_sx a1, kz_sy a1]
            refine (kb_b_ff (kz_nle (n := 3329) (by omega) (by decide))).trans ?_
            refine (kb_g_tt (kb_in_n c (by decide))).trans ?_
            refine (kb_n_v (v := upd f0 w.1 (nI (A + 256 * (B % 16)))) (by rw [nI_clamp (by omega)])).trans ?_
            refine (kb_n_v (kz_inc _)).trans ?_
            refine (kb_b_tt (kz_le (n := 256) c5 (by omega))).trans ?_
            exact (kb_n_v (kz_inc _)).trans rfl
          · rw [if_neg c5]
            refine ⟨(nI (w.1 + 2), nI (t + 1), upd (upd f0 w.1 (nI (A + 256 * (B % 16)))) (w.1 + 1) (nI (B / 16 + 16 * C)), nI (kz_gv rc R u (3 * t + 3)).2, c3, o3, l3), ?_, rfl, rfl, kz_Rn_u (kz_Rn_u h3 (by omega)) (by omega), rfl, r3⟩
            refine (kb_b_ff (kz_nle (n := 280) ht (by decide))).trans ?_
            refine (kb_b_ff (kz_nle (n := 256) c (by decide))).trans ?_
            refine (kb_o_v q1).trans ?_
            refine (kb_o_v q2).trans ?_
            refine (kb_o_v q3).trans ?_
            rw [kz_sx a1, kz_sy a1]
            refine (kb_b_ff (kz_nle (n := 3329) (by omega) (by decide))).trans ?_
            refine (kb_g_tt (kb_in_n c (by decide))).trans ?_
            refine (kb_n_v (v := upd f0 w.1 (nI (A + 256 * (B % 16)))) (by rw [nI_clamp (by omega)])).trans ?_
            refine (kb_n_v (kz_inc _)).trans ?_
            refine (kb_b_ff (kz_nle (n := 256) (by omega) (by decide))).trans ?_
            refine (kb_b_ff (kz_nle (n := 3329) (by omega) (by decide))).trans ?_
            refine (kb_g_tt (kb_in_n (by omega) (by decide))).trans ?_
            refine (kb_n_v (v := upd (upd f0 w.1 (nI (A + 256 * (B % 16)))) (w.1 + 1) (nI (B / 16 + 16 * C))) (by rw [nI_clamp (by omega)])).trans ?_
            refine (kb_n_v (v := nI (w.1 + 2)) (kz_inc _)).trans ?_
            exact (kb_n_v (kz_inc _)).trans rfl
    · right
      have hst := kz_sm_stop (kz_gb rc R u) c (280 - t)
      rw [show t + (280 - t) = 280 by omega] at hst
      refine ⟨(nI (kz_sm (kz_gb rc R u) t).1, nI t, f0, nI (kz_gv rc R u (3 * t)).2, c0, o0, l0), ?_, ?_, ?_⟩
      · show kSX5_sample_36 256 (nI R) turns rc (nI (kz_sm (kz_gb rc R u) t).1) (nI t) f0 (nI (kz_gv rc R u (3 * t)).2) c0 o0 l0 = _
        unfold kSX5_sample_36
        refine (kb_b_ff (kz_nle (n := 280) ht (by decide))).trans ?_
        exact kb_b_tt (kz_le (n := 256) (by omega) (by omega))
      · rw [hst]
      · rw [hst]; exact h3
  · rintro ⟨x2, x3, f0, pl, c0, o0, l0⟩ ⟨h1, h2, h3, h4, h5⟩
    replace h2 : x3 = nI 280 := h2
    subst h2
    refine ⟨(x2, nI 280, f0, pl, c0, o0, l0), ?_, h1, h3⟩
    show kSX5_sample_36 256 (nI R) turns rc x2 (nI 280) f0 pl c0 o0 l0 = _
    unfold kSX5_sample_36
    exact kb_b_tt (kz_le (n := 280) (Nat.le_refl _) (by decide))
/-! Layer 2: the class's hashes and noise, as whole methods. -/
def kz_z : kz_SP := (fun _ => 0, 0)
theorem kz_by_s : ∀ k, k < 128 → kz_by k = nI k := by decide +kernel
theorem kz_fillHash {rc lanes moved columns : Nat → Int64} {turns targets hash f : Nat → Int32} {at' n n1 : Nat} (hT : kz_tab turns targets) (hn : at' + n ≤ n1) (hn1 : n1 < 2 ^ 31) (hn2 : n < 100000) :
    ∃ pl l' m' c' h', kFX1_fillHash (nI at') (nI n) n1 lanes moved columns turns targets rc hash f = some (pl, (136 : Int32), l', m', c', h') ∧ ∀ k, k < 32 → h' k = kz_by (kz_gb rc 136 (kz_fin rc 136 6 (kz_ab rc 136 (fun k => f (at' + k)) kz_z n)) k) := by
  obtain ⟨l1, p1, e1⟩ := kz_start lanes (136 : Int32)
  obtain ⟨l2, m2, c2, p2, e2⟩ := kz_take (rc := rc) (moved := moved) (columns := columns) (f := f) (R := 136) (u := kz_z) hT (by decide) (by decide) (by decide) e1 hn hn1 hn2
  have hlt := kz_ab_lt (rc := rc) (R := 136) (v := fun k => f (at' + k)) (u := kz_z) (by decide) (by decide) n
  obtain ⟨l3, m3, c3, p3, e3⟩ := kz_finish (rc := rc) (moved := m2) (columns := c2) (sf := 6) hT (by decide) (by decide) hlt e2
  obtain ⟨l4, m4, c4, h4, p4, e4, b4⟩ := kz_give (rc := rc) (moved := m3) (columns := c3) (f := hash) (R := 136) (at' := 0) (n := 32) (n1 := 32) (u := kz_fin rc 136 6 (kz_ab rc 136 (fun k => f (at' + k)) kz_z n)) hT (by decide) (by decide) (by decide) e3 (by decide) (by decide) (by decide)
  refine ⟨_, l4, m4, c4, h4, ?_, fun k hk => by rw [b4 k, if_pos ⟨by omega, by omega⟩]; rfl⟩
  unfold kFX1_fillHash
  refine (kb_o_v p1).trans ?_
  refine (kb_o_v p2).trans ?_
  refine (kb_o_v p3).trans ?_
  exact kb_o_v p4
theorem kz_deriveSeeds {rc lanes moved columns : Nat → Int64} {turns targets seeds f g : Nat → Int32} {at' n1 n2 : Nat} (hT : kz_tab turns targets) (hn1 : 32 ≤ n1) (hn1' : n1 < 2 ^ 31) (hn2 : at' + 32 ≤ n2) (hn2' : n2 < 2 ^ 31) :
    ∃ pl l' m' c' s', kFX1_deriveSeeds (nI at') n1 n2 lanes moved columns turns targets rc seeds f g = some (pl, (72 : Int32), l', m', c', s') ∧ ∀ k, k < 64 → s' k = kz_by (kz_gb rc 72 (kz_fin rc 72 6 (kz_ab rc 72 (fun k => g (at' + k)) (kz_ab rc 72 (fun k => f (0 + k)) kz_z 32) 32)) k) := by
  obtain ⟨l1, p1, e1⟩ := kz_start lanes (72 : Int32)
  obtain ⟨l2, m2, c2, p2, e2⟩ := kz_take (rc := rc) (moved := moved) (columns := columns) (f := f) (R := 72) (at' := 0) (n := 32) (n1 := n1) (u := kz_z) hT (by decide) (by decide) (by decide) e1 (by omega) hn1' (by decide)
  have hlt := kz_ab_lt (rc := rc) (R := 72) (v := fun k => f (0 + k)) (u := kz_z) (by decide) (by decide) 32
  obtain ⟨l5, m5, c5, p5, e5⟩ := kz_take (rc := rc) (moved := m2) (columns := c2) (f := g) (R := 72) (at' := at') (n := 32) (n1 := n2) hT (by decide) (by decide) hlt e2 hn2 hn2' (by decide)
  have hlt2 := kz_ab_lt (rc := rc) (R := 72) (v := fun k => g (at' + k)) (by decide) hlt 32
  obtain ⟨l3, m3, c3, p3, e3⟩ := kz_finish (rc := rc) (moved := m5) (columns := c5) (sf := 6) hT (by decide) (by decide) hlt2 e5
  obtain ⟨l4, m4, c4, h4, p4, e4, b4⟩ := kz_give (rc := rc) (moved := m3) (columns := c3) (f := seeds) (R := 72) (at' := 0) (n := 64) (n1 := 64) (u := kz_fin rc 72 6 (kz_ab rc 72 (fun k => g (at' + k)) (kz_ab rc 72 (fun k => f (0 + k)) kz_z 32) 32)) hT (by decide) (by decide) (by decide) e3 (by decide) (by decide) (by decide)
  refine ⟨_, l4, m4, c4, h4, ?_, fun k hk => by rw [b4 k, if_pos ⟨by omega, by omega⟩]; rfl⟩
  unfold kFX1_deriveSeeds
  refine (kb_o_v p1).trans ?_
  refine (kb_o_v p2).trans ?_
  refine (kb_o_v p5).trans ?_
  refine (kb_o_v p3).trans ?_
  exact kb_o_v p4
/-- the bytes of the noise number b under a seed s -/
def kz_nb (rc : Nat → Int64) (s : Nat → Int32) (b : Nat) : Nat → Nat := kz_gb rc 136 (kz_fin rc 136 31 (kz_ab1 rc 136 (nI b) (kz_ab rc 136 s kz_z 32)))
def kz_np (rc : Nat → Int64) (s : Nat → Int32) (e b : Nat) (i : Nat) : Nat := kz_no e (kz_tk 8 (kz_nb rc s b) (2 * e * i) (2 * e))
theorem kz_fillNoise {rc lanes moved columns : Nat → Int64} {turns targets counters nbytes seeds f : Nat → Int32} {e b : Nat} (hT : kz_tab turns targets) (he : e ∈ [2, 3]) (hb : b < 128) :
    ∃ pl l' m' c' ct' nb' f', kFX1_fillWithNoise (nI e) (nI b) 256 lanes moved columns turns targets rc counters nbytes seeds f = some (pl, (136 : Int32), l', m', c', ct', nb', f') ∧ kz_R (kz_np rc (fun k => seeds (32 + k)) e b) f' := by
  have he2 : 2 ≤ e ∧ e ≤ 3 := by
    simp only [List.mem_cons, List.not_mem_nil, or_false] at he
    omega
  obtain ⟨l1, p1, e1⟩ := kz_start lanes (136 : Int32)
  obtain ⟨l2, m2, c2, p2, e2⟩ := kz_take (rc := rc) (moved := moved) (columns := columns) (f := seeds) (R := 136) (at' := 32) (n := 32) (n1 := 64) (u := kz_z) hT (by decide) (by decide) (by decide) e1 (by decide) (by decide) (by decide)
  have hlt := kz_ab_lt (rc := rc) (R := 136) (v := fun k => seeds (32 + k)) (u := kz_z) (by decide) (by decide) 32
  obtain ⟨l5, m5, c5, p5, e5⟩ := kz_take (rc := rc) (moved := m2) (columns := c2) (f := upd counters 0 (nI b)) (R := 136) (at' := 0) (n := 1) (n1 := 2) hT (by decide) (by decide) hlt e2 (by decide) (by decide) (by decide)
  have h1 : kz_ab rc 136 (fun k => upd counters 0 (nI b) (0 + k)) (kz_ab rc 136 (fun k => seeds (32 + k)) kz_z 32) 1 = kz_ab1 rc 136 (nI b) (kz_ab rc 136 (fun k => seeds (32 + k)) kz_z 32) := rfl
  rw [h1] at p5 e5
  have hlt2 := kz_ab1_lt (rc := rc) (v := nI b) (by decide) hlt
  obtain ⟨l3, m3, c3, p3, e3⟩ := kz_finish (rc := rc) (moved := m5) (columns := c5) (sf := 31) hT (by decide) (by decide) hlt2 e5
  obtain ⟨l4, m4, c4, h4, p4, e4, b4⟩ := kz_give (rc := rc) (moved := m3) (columns := c3) (f := nbytes) (R := 136) (at' := 0) (n := 64 * e) (n1 := 192) (u := kz_fin rc 136 31 (kz_ab1 rc 136 (nI b) (kz_ab rc 136 (fun k => seeds (32 + k)) kz_z 32))) hT (by decide) (by decide) (by decide) e3 (by omega) (by decide) (by omega)
  have hY : kz_Y (kz_nb rc (fun k => seeds (32 + k)) b) h4 0 (0 + 32 * (2 * e)) := fun i _ hi => ⟨kz_gb_lt _ _ _ _, by rw [b4 i, if_pos ⟨by omega, by omega⟩]; rfl⟩
  obtain ⟨f5, p6, b6⟩ := kz_unpack (n := 192) (g := f) hY (by omega) (by omega) (by omega) (by decide)
  obtain ⟨f7, p7, b7⟩ := kz_noise86 (a := fun i => kz_tk 8 (kz_nb rc (fun k => seeds (32 + k)) b) (8 * 0 + 2 * e * i) (2 * e)) he (fun i hi => ⟨kz_tk_lt _ _ _ _, b6 i hi⟩)
  refine ⟨_, l4, m4, c4, upd counters 0 (nI b), h4, f7, ?_, kz_R_c b7 (fun i _ => by show kz_no e (kz_tk 8 _ (8 * 0 + 2 * e * i) (2 * e)) = kz_np rc _ e b i; rw [Nat.mul_zero, Nat.zero_add]; rfl)⟩
  unfold kFX1_fillWithNoise
  refine (kb_o_v p1).trans ?_
  refine (kb_o_v p2).trans ?_
  refine (kb_n_v (v := upd counters 0 (nI b)) ?_).trans ?_
  · rw [pk_vb, ← kz_by_s b hb]
    rfl
  refine (kb_o_v p5).trans ?_
  refine (kb_o_v p3).trans ?_
  rw [show (64 : Int32) * nI e = nI (64 * e) from pk_mul _ _, show (2 : Int32) * nI e = nI (2 * e) from pk_mul _ _]
  refine (kb_o_v p4).trans ?_
  refine (kb_o_v p6).trans ?_
  exact kb_o_v p7
