/-! Layer 2, the base: what the pure words answer; numbers as nI; sums. -/
theorem kb_b_tt {β : Type} {c : Bool} {a b : Option β} (h : c = true) : kb_b c a b = a := by subst h; rfl
theorem kb_b_ff {β : Type} {c : Bool} {a b : Option β} (h : c = false) : kb_b c a b = b := by subst h; rfl
theorem kb_g_tt {β : Type} {c : Bool} {k : Option β} (h : c = true) : kb_g c k = k := by subst h; rfl
theorem kb_n_v {α β : Type} {e v : α} {k : α → Option β} (h : e = v) : kb_n e k = k v := by subst h; rfl
theorem kb_o_v {α β : Type} {x : Option α} {u : α} {k : α → Option β} (h : x = some u) : x.bind k = k u := by subst h; rfl
theorem kz_nle {n i : Nat} (h : i < n) (hn : n < 2 ^ 31) : decide (nI n ≤ nI i) = false := decide_eq_false (nI_ge h hn)
theorem kz_le {n i : Nat} (h : n ≤ i) (hi : i < 2 ^ 31) : decide (nI n ≤ nI i) = true := decide_eq_true (nI_le h hi)
theorem kz_lt {a b : Nat} (h : a < b) (hb : b < 2 ^ 31) : decide (nI a < nI b) = true := decide_eq_true (nI_lt h hb)
theorem kz_nlt {a b : Nat} (h : b ≤ a) (ha : a < 2 ^ 31) : decide (nI a < nI b) = false := decide_eq_false (nI_nlt h ha)
theorem kz_one : Int32.ofInt 1 = nI 1 := by decide +kernel
theorem kz_inc (i : Nat) : nI i + Int32.ofInt 1 = nI (i + 1) := by rw [kz_one, nI_add]
theorem kz_ofi (n : Nat) : Int32.ofInt (n : Int) = nI n := by
  unfold nI
  exact Int32.ofInt_eq_ofNat
-- ===== sums
def kz_sum (F : Nat → Nat) : Nat → Nat
  | 0 => 0
  | n + 1 => kz_sum F n + F n
theorem kz_sum_c {F G : Nat → Nat} : ∀ {n : Nat}, (∀ k, k < n → F k = G k) → kz_sum F n = kz_sum G n
  | 0, _ => rfl
  | n + 1, h => by
    show kz_sum F n + F n = kz_sum G n + G n
    rw [kz_sum_c (fun k hk => h k (Nat.lt_succ_of_lt hk)), h n (Nat.lt_succ_self n)]
theorem kz_sum_add (F G : Nat → Nat) : ∀ n, kz_sum (fun k => F k + G k) n = kz_sum F n + kz_sum G n
  | 0 => rfl
  | n + 1 => by
    show kz_sum (fun k => F k + G k) n + (F n + G n) = (kz_sum F n + F n) + (kz_sum G n + G n)
    rw [kz_sum_add F G n]; omega
theorem kz_sum_mul (c : Nat) (F : Nat → Nat) : ∀ n, kz_sum (fun k => c * F k) n = c * kz_sum F n
  | 0 => rfl
  | n + 1 => by
    show kz_sum (fun k => c * F k) n + c * F n = c * (kz_sum F n + F n)
    rw [kz_sum_mul c F n, Nat.mul_add]
theorem kz_sum_two (F : Nat → Nat) : ∀ n, kz_sum F (2 * n) = kz_sum (fun k => F (2 * k)) n + kz_sum (fun k => F (2 * k + 1)) n
  | 0 => rfl
  | n + 1 => by
    show kz_sum F (2 * n) + F (2 * n) + F (2 * n + 1) = (kz_sum (fun k => F (2 * k)) n + F (2 * n)) + (kz_sum (fun k => F (2 * k + 1)) n + F (2 * n + 1))
    rw [kz_sum_two F n]; omega
theorem kz_sum_app (F : Nat → Nat) (m : Nat) : ∀ n, kz_sum F (m + n) = kz_sum F m + kz_sum (fun k => F (m + k)) n
  | 0 => rfl
  | n + 1 => by
    show kz_sum F (m + n) + F (m + n) = kz_sum F m + (kz_sum (fun k => F (m + k)) n + F (m + n))
    rw [kz_sum_app F m n]; omega
theorem kz_sum_mod {F G : Nat → Nat} {q : Nat} : ∀ {n : Nat}, (∀ k, k < n → F k % q = G k % q) → kz_sum F n % q = kz_sum G n % q
  | 0, _ => rfl
  | n + 1, h => by
    show (kz_sum F n + F n) % q = (kz_sum G n + G n) % q
    rw [Nat.add_mod, kz_sum_mod (fun k hk => h k (Nat.lt_succ_of_lt hk)), h n (Nat.lt_succ_self n), ← Nat.add_mod]
theorem kz_sum_le {F : Nat → Nat} {M : Nat} : ∀ {n : Nat}, (∀ k, k < n → F k ≤ M) → kz_sum F n ≤ n * M
  | 0, _ => Nat.zero_le _
  | n + 1, h => by
    show kz_sum F n + F n ≤ (n + 1) * M
    have h1 := kz_sum_le (F := F) (M := M) (n := n) (fun k hk => h k (Nat.lt_succ_of_lt hk))
    have h2 := h n (Nat.lt_succ_self n)
    rw [Nat.add_mul, Nat.one_mul]; omega
theorem kz_mulmod {a b c d q : Nat} (h1 : a % q = b % q) (h2 : c % q = d % q) : a * c % q = b * d % q := by
  rw [Nat.mul_mod, h1, h2, ← Nat.mul_mod]
theorem kz_addmod {a b c d q : Nat} (h1 : a % q = b % q) (h2 : c % q = d % q) : (a + c) % q = (b + d) % q := by
  rw [Nat.add_mod, h1, h2, ← Nat.add_mod]
theorem kz_powmod {a b q : Nat} (h : a % q = b % q) (k : Nat) : a ^ k % q = b ^ k % q := by
  rw [Nat.pow_mod, h, ← Nat.pow_mod]
theorem kz_dm {x d m t : Nat} (h : x = d * m + t) (ht : t < d) : x / d = m ∧ x % d = t := by
  subst h
  exact ⟨by rw [Nat.mul_add_div (by omega), Nat.div_eq_of_lt ht, Nat.add_zero], by rw [Nat.mul_add_mod, Nat.mod_eq_of_lt ht]⟩
/-- a number minus another, modulo 3329: the other taken (3329 - r) times is the same -/
theorem kz_submod {x y r : Nat} (hr : r ≤ 3329) : (x + 3329 - r * y % 3329) % 3329 = (x + (3329 - r) * y) % 3329 := by
  have h : (3329 - r) * y + r * y = 3329 * y := by rw [← Nat.add_mul, Nat.sub_add_cancel hr]
  generalize (3329 - r) * y = z at h ⊢
  generalize r * y = m at h ⊢
  omega
-- ===== a polynomial's numbers
def kz_R (a : Nat → Nat) (f : Nat → Int32) : Prop := ∀ i, i < 256 → a i < 3329 ∧ f i = nI (a i)
theorem kz_R_c {a b : Nat → Nat} {f : Nat → Int32} (h : kz_R a f) (hab : ∀ i, i < 256 → a i = b i) : kz_R b f := fun i hi => by
  rw [← hab i hi]; exact h i hi
theorem kz_R_u {a : Nat → Nat} {f : Nat → Int32} {k v : Nat} (h : kz_R a f) (hv : v < 3329) : kz_R (fun j => if j = k then v else a j) (upd f k (nI v)) := fun i hi => by
  by_cases e : i = k
  · subst e
    exact ⟨by show (if i = i then v else a i) < 3329; rw [if_pos rfl]; exact hv, by show upd f i (nI v) i = nI (if i = i then v else a i); rw [if_pos rfl]; exact pk_us⟩
  · exact ⟨by show (if i = k then v else a i) < 3329; rw [if_neg e]; exact (h i hi).1, by show upd f k (nI v) i = nI (if i = k then v else a i); rw [if_neg e, pk_un e]; exact (h i hi).2⟩
theorem kz_rem {a : Nat} (h : a < 2 ^ 31) : nI a - nI a / (3329 : Int32) * (3329 : Int32) = nI (a % 3329) := pk_rem h (by decide) (by decide)
