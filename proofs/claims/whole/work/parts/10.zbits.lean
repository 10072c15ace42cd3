/-! Layer 2: bits in bytes: the class's pack and unpack. -/
theorem kz_nior (a b : Nat) : nI a ||| nI b = nI (a ||| b) := by
  apply Int32.toBitVec_inj.1
  show BitVec.ofNat 32 a ||| BitVec.ofNat 32 b = BitVec.ofNat 32 (a ||| b)
  apply BitVec.eq_of_getLsbD_eq
  intro i hi
  simp [hi]
/-- a byte as it lies in an array -/
def kz_by (v : Nat) : Int32 := (nI v).toInt8.toInt32
theorem kz_by_255 {v : Nat} (h : v < 256) : kz_by v &&& (255 : Int32) = nI v := sc_k8 v h
theorem kz_by_mod (v : Nat) : kz_by (v % 256) = kz_by v := by
  unfold kz_by
  congr 1
  apply Int8.toBitVec_inj.1
  show (BitVec.ofNat 32 (v % 256)).signExtend 8 = (BitVec.ofNat 32 v).signExtend 8
  rw [BitVec.signExtend_eq_setWidth_of_le _ (by decide), BitVec.signExtend_eq_setWidth_of_le _ (by decide)]
  apply BitVec.eq_of_toNat_eq
  simp only [BitVec.toNat_setWidth, BitVec.toNat_ofNat]
  omega
theorem kz_sl : ∀ n, n < 32 → ((nI n &&& 31).toBitVec.smod 32).toNat = n := by decide +kernel
theorem kz_su : ∀ n, n < 32 → (((nI n).toUInt32 &&& Int32.toUInt32 31).toBitVec % 32).toNat = n := by decide +kernel
theorem kz_msk : ∀ d, d < 31 → (((1 : Int32) <<< (nI d &&& 31)) - (1 : Int32)).toBitVec.toNat = 2 ^ d - 1 := by decide +kernel
/-- n bits from bit s on, out of numbers of w bits -/
def kz_tk (w : Nat) (B : Nat → Nat) (s n : Nat) : Nat := kz_sum (fun k => B ((s + k) / w) / 2 ^ ((s + k) % w) % 2 * 2 ^ k) n
theorem kz_tk_s (w : Nat) (B : Nat → Nat) (s n : Nat) : kz_tk w B s (n + 1) = kz_tk w B s n + B ((s + n) / w) / 2 ^ ((s + n) % w) % 2 * 2 ^ n := rfl
theorem kz_tk_lt (w : Nat) (B : Nat → Nat) (s : Nat) : ∀ n, kz_tk w B s n < 2 ^ n
  | 0 => Nat.one_pos
  | n + 1 => by
    have h := kz_tk_lt w B s n
    rw [kz_tk_s, Nat.pow_succ]
    have h2 : B ((s + n) / w) / 2 ^ ((s + n) % w) % 2 * 2 ^ n ≤ 1 * 2 ^ n := Nat.mul_le_mul_right _ (by omega)
    omega
theorem kz_tk_app (w : Nat) (B : Nat → Nat) (s m n : Nat) : kz_tk w B s (m + n) = kz_tk w B s m + 2 ^ m * kz_tk w B (s + m) n := by
  unfold kz_tk
  rw [kz_sum_app, ← kz_sum_mul]
  congr 1
  refine kz_sum_c (fun k _ => ?_)
  show B ((s + (m + k)) / w) / 2 ^ ((s + (m + k)) % w) % 2 * 2 ^ (m + k) = 2 ^ m * (B ((s + m + k) / w) / 2 ^ ((s + m + k) % w) % 2 * 2 ^ k)
  rw [← Nat.add_assoc, Nat.pow_add, Nat.mul_left_comm]
theorem kz_tk_one {w : Nat} {B : Nat → Nat} {i : Nat} (h : B i < 2 ^ w) : kz_tk w B (w * i) w = B i := by
  have key : ∀ n, n ≤ w → kz_tk w B (w * i) n = B i % 2 ^ n := by
    intro n
    induction n with
    | zero => intro _; rw [Nat.pow_zero, Nat.mod_one]; rfl
    | succ n ih =>
      intro hn
      obtain ⟨k1, k2⟩ := kz_dm (x := w * i + n) (d := w) rfl (by omega)
      rw [kz_tk_s, ih (by omega), k1, k2, Nat.mod_pow_succ, Nat.mul_comm]
  rw [key w (Nat.le_refl _), Nat.mod_eq_of_lt h]
theorem kz_tk_mod (w : Nat) (B : Nat → Nat) (s m n : Nat) : kz_tk w B s (m + n) % 2 ^ m = kz_tk w B s m := by
  rw [kz_tk_app, Nat.add_mul_mod_self_left, Nat.mod_eq_of_lt (kz_tk_lt w B s m)]
theorem kz_tk_div (w : Nat) (B : Nat → Nat) (s m n : Nat) : kz_tk w B s (m + n) / 2 ^ m = kz_tk w B (s + m) n := by
  rw [kz_tk_app, Nat.add_mul_div_left _ _ (Nat.two_pow_pos m), Nat.div_eq_of_lt (kz_tk_lt w B s m), Nat.zero_add]
theorem kz_tk_c {w : Nat} {B C : Nat → Nat} {s n : Nat} (h : ∀ k, k < n → B ((s + k) / w) = C ((s + k) / w)) : kz_tk w B s n = kz_tk w C s n :=
  kz_sum_c (fun k hk => by show B ((s + k) / w) / _ % 2 * _ = C ((s + k) / w) / _ % 2 * _; rw [h k hk])
/-- a number laid above another -/
theorem kz_orsh {a b k : Nat} (ha : a < 2 ^ k) (hk : k < 32) (hb : b * 2 ^ k < 2 ^ 32) : nI a ||| (nI b <<< (nI k &&& 31)) = nI (a + 2 ^ k * b) := by
  rw [pk_shlN _ k (kz_sl k hk) hb, kz_nior, Nat.mul_comm b, Nat.or_comm, ← Nat.two_pow_add_eq_or_of_lt ha, Nat.add_comm]
theorem kz_p2 {a b : Nat} (h : a ≤ b) : 2 ^ a ≤ 2 ^ b := Nat.pow_le_pow_right (by decide) h
/-- bytes that an array holds -/
def kz_Y (B : Nat → Nat) (f : Nat → Int32) (lo hi : Nat) : Prop := ∀ i, lo ≤ i → i < hi → B i < 256 ∧ f i = kz_by (B i)
theorem kz_un20 {B : Nat → Nat} {f : Nat → Int32} {n d s hb nx c lo hi : Nat} (hY : kz_Y B f lo hi) (hd : d ≤ 12) (hhb : hb < 8) (hs : s + hb = 8 * nx) (hlo : 8 * lo ≤ s) (hn : s + d ≤ 8 * hi) (hhi : hi ≤ n) (hn2 : n < 2 ^ 31) (hc : c = (d - hb + 7) / 8) :
    ∃ r, kb_w (fun u : Int32 × Int32 × Int32 => kSX6_unpack_20 (nI d) n f u.1 u.2.1 u.2.2) 100000 (nI (kz_tk 8 B s hb), nI hb, nI nx) = some r ∧ r = (nI (kz_tk 8 B s (hb + 8 * c)), nI (hb + 8 * c), nI (nx + c)) := by
  refine kb_w_inv (σ := Int32 × Int32 × Int32) (ρ := Int32 × Int32 × Int32) (fun r u => u = (nI (kz_tk 8 B s (hb + 8 * r)), nI (hb + 8 * r), nI (nx + r))) (fun r => r = (nI (kz_tk 8 B s (hb + 8 * c)), nI (hb + 8 * c), nI (nx + c))) c ?_ ?_ c 0 _ 100000 (by omega) (by omega) rfl
  · rintro r u hr hu
    subst hu
    refine ⟨_, ?_, rfl⟩
    show kSX6_unpack_20 (nI d) n f (nI (kz_tk 8 B s (hb + 8 * r))) (nI (hb + 8 * r)) (nI (nx + r)) = _
    obtain ⟨y1, y2⟩ := hY (nx + r) (by omega) (by omega)
    unfold kSX6_unpack_20
    refine (kb_b_ff (kz_nle (n := d) (by omega) (by omega))).trans ?_
    refine (kb_g_tt (kb_in_n (by omega) hn2)).trans ?_
    refine (kb_n_v (v := nI (kz_tk 8 B s (hb + 8 * (r + 1)))) ?_).trans ?_
    · rw [nI_clamp (by omega), y2, kz_by_255 y1, kz_orsh (kz_tk_lt 8 B s _) (by omega) ?_]
      · have h1 := kz_tk_one (w := 8) (B := B) (i := nx + r) y1
        rw [show hb + 8 * (r + 1) = hb + 8 * r + 8 by omega, kz_tk_app 8 B s (hb + 8 * r) 8, show s + (hb + 8 * r) = 8 * (nx + r) by omega, h1]
      · have h2 : B (nx + r) * 2 ^ (hb + 8 * r) ≤ 255 * 2 ^ 12 := Nat.mul_le_mul (by omega) (kz_p2 (by omega))
        omega
    refine (kb_n_v (v := nI (nx + (r + 1))) (kz_inc _)).trans ?_
    refine (kb_n_v (v := nI (hb + 8 * (r + 1))) ?_).trans rfl
    rw [show Int32.ofInt 8 = nI 8 by decide +kernel, nI_add]
    rfl
  · rintro u hu
    subst hu
    refine ⟨_, ?_, rfl⟩
    show kSX6_unpack_20 (nI d) n f (nI (kz_tk 8 B s (hb + 8 * c))) (nI (hb + 8 * c)) (nI (nx + c)) = _
    unfold kSX6_unpack_20
    exact kb_b_tt (kz_le (n := d) (by omega) (by omega))
theorem kz_unpack {B : Nat → Nat} {f g : Nat → Int32} {n d at' : Nat} (hY : kz_Y B f at' (at' + 32 * d)) (hd0 : 0 < d) (hd : d ≤ 12) (hn : at' + 32 * d ≤ n) (hn2 : n < 2 ^ 31) :
    ∃ r, kFX6_unpack (nI at') (nI d) n 256 f g = some r ∧ ∀ i, i < 256 → r i = nI (kz_tk 8 B (8 * at' + d * i) d) := by
  obtain ⟨⟨x1, x2, x3, x4, r⟩, k1, k2⟩ : ∃ r, kb_w (fun u : Int32 × Int32 × Int32 × Int32 × (Nat → Int32) => kSX6_unpack_12 (nI d) n 256 f u.1 u.2.1 u.2.2.1 u.2.2.2.1 u.2.2.2.2) 100000 ((0 : Int32), (0 : Int32), nI at', (0 : Int32), g) = some r ∧ ∀ i, i < 256 → r.2.2.2.2 i = nI (kz_tk 8 B (8 * at' + d * i) d) := by
    refine kb_w_inv (σ := Int32 × Int32 × Int32 × Int32 × (Nat → Int32)) (ρ := Int32 × Int32 × Int32 × Int32 × (Nat → Int32)) (fun i u => ∃ hb nx, hb < 8 ∧ 8 * at' + d * i + hb = 8 * nx ∧ u.1 = nI (kz_tk 8 B (8 * at' + d * i) hb) ∧ u.2.1 = nI hb ∧ u.2.2.1 = nI nx ∧ u.2.2.2.1 = nI i ∧ ∀ k, k < i → u.2.2.2.2 k = nI (kz_tk 8 B (8 * at' + d * k) d)) (fun r => ∀ i, i < 256 → r.2.2.2.2 i = nI (kz_tk 8 B (8 * at' + d * i) d)) 256 ?_ ?_ 256 0 _ 100000 (by omega) (by omega) ⟨0, at', by omega, by omega, rfl, rfl, rfl, rfl, fun k hk => absurd hk (by omega)⟩
    · rintro i ⟨x1, x2, x3, x4, g1⟩ hi ⟨hb, nx, h1, h2, h3, h4, h5, h6, h7⟩
      replace h3 : x1 = _ := h3
      replace h4 : x2 = _ := h4
      replace h5 : x3 = _ := h5
      replace h6 : x4 = _ := h6
      subst h3 h4 h5 h6
      have hdi : d * i + d ≤ d * 256 := by rw [← Nat.mul_succ]; exact Nat.mul_le_mul_left d hi
      obtain ⟨r0, m1, m2⟩ := kz_un20 (c := (d - hb + 7) / 8) hY hd h1 h2 (by omega) (by omega) hn hn2 rfl
      subst m2
      generalize hc : (d - hb + 7) / 8 = c at m1
      have hw : hb + 8 * c = d + (hb + 8 * c - d) := by omega
      have hl : kz_tk 8 B (8 * at' + d * i) (hb + 8 * c) < 2 ^ 20 := Nat.lt_of_lt_of_le (kz_tk_lt _ _ _ _) (kz_p2 (by omega))
      refine ⟨(nI (kz_tk 8 B (8 * at' + d * (i + 1)) (hb + 8 * c - d)), nI (hb + 8 * c - d), nI (nx + c), nI (i + 1), upd g1 i (nI (kz_tk 8 B (8 * at' + d * i) d))), ?_, hb + 8 * c - d, nx + c, by omega, by rw [Nat.mul_succ]; omega, rfl, rfl, rfl, rfl, fun k hk => ?_⟩
      · show kSX6_unpack_12 (nI d) n 256 f (nI (kz_tk 8 B (8 * at' + d * i) hb)) (nI hb) (nI nx) (nI i) g1 = _
        unfold kSX6_unpack_12
        refine (kb_b_ff (kz_nle (n := 256) hi (by decide))).trans ?_
        refine (kb_o_v m1).trans ?_
        refine (kb_g_tt (kb_in_n hi (by decide))).trans ?_
        refine (kb_n_v (v := upd g1 i (nI (kz_tk 8 B (8 * at' + d * i) d))) ?_).trans ?_
        · rw [nI_clamp (by omega), pk_andN (by omega) d (kz_msk d (by omega)), hw, kz_tk_mod]
        refine (kb_n_v (v := nI (kz_tk 8 B (8 * at' + d * (i + 1)) (hb + 8 * c - d))) ?_).trans ?_
        · rw [pk_ushrN (by omega) _ d (kz_su d (by omega)), Nat.mul_succ, ← Nat.add_assoc]
          conv => lhs; rw [hw, kz_tk_div]
        refine (kb_n_v (v := nI (hb + 8 * c - d)) (pk_sub (by omega))).trans ?_
        exact (kb_n_v (kz_inc _)).trans rfl
      · show upd g1 i (nI (kz_tk 8 B (8 * at' + d * i) d)) k = _
        by_cases e : k = i
        · subst e
          exact pk_us
        · rw [pk_un e]
          exact h7 k (by omega)
    · rintro ⟨x1, x2, x3, x4, g1⟩ ⟨hb, nx, h1, h2, h3, h4, h5, h6, h7⟩
      replace h6 : x4 = nI 256 := h6
      subst h6
      refine ⟨(x1, x2, x3, nI 256, g1), ?_, h7⟩
      show kSX6_unpack_12 (nI d) n 256 f x1 x2 x3 (nI 256) g1 = _
      unfold kSX6_unpack_12
      exact kb_b_tt (kz_le (n := 256) (Nat.le_refl _) (by decide))
  refine ⟨r, ?_, k2⟩
  unfold kFX6_unpack
  exact kb_o_v k1
-- ===== pack
theorem kz_m8 {n : Nat} (h : 8 ≤ n) : nI n + Int32.ofInt (-8) = nI (n - 8) := by
  rw [← pk_sub h]
  rw [show Int32.ofInt (-8) = -nI 8 by decide +kernel, Int32.sub_eq_add_neg]
theorem kz_pk38 {F : Nat → Nat} {n3 d m hb at' c : Nat} {row : Nat → Int32} (hd : d ≤ 12) (hhb : hb < 8 + d) (hn : at' + m + c ≤ n3) (hn2 : n3 < 2 ^ 31) (hc : c = hb / 8) :
    ∃ r, kb_w (fun u : Int32 × Int32 × Int32 × (Nat → Int32) => kSX6_pack_38 n3 u.1 u.2.1 u.2.2.1 u.2.2.2) 100000 (nI (kz_tk d F (8 * m) hb), nI hb, nI (at' + m), row) = some r ∧ r.1 = nI (kz_tk d F (8 * (m + c)) (hb - 8 * c)) ∧ r.2.1 = nI (hb - 8 * c) ∧ r.2.2.1 = nI (at' + (m + c)) ∧ ∀ k, r.2.2.2 k = if at' + m ≤ k ∧ k < at' + m + c then kz_by (kz_tk d F (8 * (k - at')) 8) else row k := by
  refine kb_w_inv (σ := Int32 × Int32 × Int32 × (Nat → Int32)) (ρ := Int32 × Int32 × Int32 × (Nat → Int32)) (fun j u => u.1 = nI (kz_tk d F (8 * (m + j)) (hb - 8 * j)) ∧ u.2.1 = nI (hb - 8 * j) ∧ u.2.2.1 = nI (at' + (m + j)) ∧ ∀ k, u.2.2.2 k = if at' + m ≤ k ∧ k < at' + m + j then kz_by (kz_tk d F (8 * (k - at')) 8) else row k) (fun r => r.1 = nI (kz_tk d F (8 * (m + c)) (hb - 8 * c)) ∧ r.2.1 = nI (hb - 8 * c) ∧ r.2.2.1 = nI (at' + (m + c)) ∧ ∀ k, r.2.2.2 k = if at' + m ≤ k ∧ k < at' + m + c then kz_by (kz_tk d F (8 * (k - at')) 8) else row k) c ?_ ?_ c 0 _ 100000 (by omega) (by omega) ⟨rfl, rfl, rfl, fun k => by rw [if_neg (by omega)]⟩
  · rintro j ⟨x1, x2, x3, g⟩ hj ⟨h1, h2, h3, h4⟩
    replace h1 : x1 = _ := h1
    replace h2 : x2 = _ := h2
    replace h3 : x3 = _ := h3
    replace h4 : ∀ k, g k = if at' + m ≤ k ∧ k < at' + m + j then kz_by (kz_tk d F (8 * (k - at')) 8) else row k := h4
    subst h1 h2 h3
    have hw : hb - 8 * j = 8 + (hb - 8 * (j + 1)) := by omega
    have hl : kz_tk d F (8 * (m + j)) (hb - 8 * j) < 2 ^ 20 := Nat.lt_of_lt_of_le (kz_tk_lt _ _ _ _) (kz_p2 (by omega))
    refine ⟨(nI (kz_tk d F (8 * (m + (j + 1))) (hb - 8 * (j + 1))), nI (hb - 8 * (j + 1)), nI (at' + (m + (j + 1))), upd g (at' + (m + j)) (kz_by (kz_tk d F (8 * (m + j)) 8))), ?_, rfl, rfl, rfl, fun k => ?_⟩
    · show kSX6_pack_38 n3 (nI (kz_tk d F (8 * (m + j)) (hb - 8 * j))) (nI (hb - 8 * j)) (nI (at' + (m + j))) g = _
      unfold kSX6_pack_38
      refine (kb_b_ff (kz_nlt (b := 8) (by omega) (by omega))).trans ?_
      refine (kb_g_tt (kb_in_n (by omega) hn2)).trans ?_
      refine (kb_n_v (v := upd g (at' + (m + j)) (kz_by (kz_tk d F (8 * (m + j)) 8))) ?_).trans ?_
      · rw [nI_clamp (by omega), pk_vb]
        congr 1
        rw [← kz_by_mod (kz_tk d F (8 * (m + j)) 8), ← kz_tk_mod d F (8 * (m + j)) 8 (hb - 8 * (j + 1)), ← hw]
        rw [show (2 ^ 8 : Nat) = 256 from rfl, Nat.mod_mod, kz_by_mod]
        rfl
      refine (kb_n_v (v := nI (at' + (m + (j + 1)))) (kz_inc _)).trans ?_
      refine (kb_n_v (v := nI (kz_tk d F (8 * (m + (j + 1))) (hb - 8 * (j + 1)))) ?_).trans ?_
      · rw [show (8 : Int32) = nI 8 from rfl, pk_ushrN (by omega) _ 8 (kz_su 8 (by decide))]
        conv => lhs; rw [hw, kz_tk_div]
        rw [show 8 * (m + j) + 8 = 8 * (m + (j + 1)) by omega]
      refine (kb_n_v (v := nI (hb - 8 * (j + 1))) ?_).trans rfl
      rw [kz_m8 (by omega), show hb - 8 * j - 8 = hb - 8 * (j + 1) by omega]
    · show upd g (at' + (m + j)) (kz_by (kz_tk d F (8 * (m + j)) 8)) k = _
      by_cases e : k = at' + (m + j)
      · subst e
        rw [if_pos ⟨by omega, by omega⟩, show at' + (m + j) - at' = m + j by omega]
        exact pk_us
      · rw [pk_un e, h4 k]
        by_cases e2 : at' + m ≤ k ∧ k < at' + m + j
        · rw [if_pos e2, if_pos ⟨e2.1, by omega⟩]
        · rw [if_neg e2, if_neg (by omega)]
  · rintro ⟨x1, x2, x3, g⟩ ⟨h1, h2, h3, h4⟩
    refine ⟨(x1, x2, x3, g), ?_, h1, h2, h3, h4⟩
    replace h2 : x2 = nI (hb - 8 * c) := h2
    subst h2
    show kSX6_pack_38 n3 x1 (nI (hb - 8 * c)) x3 g = _
    unfold kSX6_pack_38
    exact kb_b_tt (kz_lt (b := 8) (by omega) (by decide))
theorem kz_pack {F : Nat → Nat} {f row : Nat → Int32} {n3 d at' : Nat} (hF : ∀ i, i < 256 → F i < 2 ^ d ∧ f i = nI (F i)) (hd : d ≤ 12) (hn : at' + 32 * d ≤ n3) (hn2 : n3 < 2 ^ 31) :
    ∃ r, kFX6_pack (nI d) (nI at') 256 n3 f row = some r ∧ ∀ k, r k = if at' ≤ k ∧ k < at' + 32 * d then kz_by (kz_tk d F (8 * (k - at')) 8) else row k := by
  obtain ⟨⟨x1, x2, x3, x4, r⟩, k1, k2⟩ : ∃ r, kb_w (fun u : Int32 × Int32 × Int32 × Int32 × (Nat → Int32) => kSX6_pack_12 (nI d) 256 n3 f u.1 u.2.1 u.2.2.1 u.2.2.2.1 u.2.2.2.2) 100000 ((0 : Int32), (0 : Int32), nI at', (0 : Int32), row) = some r ∧ ∀ k, r.2.2.2.2 k = if at' ≤ k ∧ k < at' + 32 * d then kz_by (kz_tk d F (8 * (k - at')) 8) else row k := by
    refine kb_w_inv (σ := Int32 × Int32 × Int32 × Int32 × (Nat → Int32)) (ρ := Int32 × Int32 × Int32 × Int32 × (Nat → Int32)) (fun i u => ∃ hb m, hb < 8 ∧ 8 * m + hb = d * i ∧ u.1 = nI (kz_tk d F (8 * m) hb) ∧ u.2.1 = nI hb ∧ u.2.2.1 = nI (at' + m) ∧ u.2.2.2.1 = nI i ∧ ∀ k, u.2.2.2.2 k = if at' ≤ k ∧ k < at' + m then kz_by (kz_tk d F (8 * (k - at')) 8) else row k) (fun r => ∀ k, r.2.2.2.2 k = if at' ≤ k ∧ k < at' + 32 * d then kz_by (kz_tk d F (8 * (k - at')) 8) else row k) 256 ?_ ?_ 256 0 _ 100000 (by omega) (by omega) ⟨0, 0, by omega, by omega, rfl, rfl, rfl, rfl, fun k => by rw [if_neg (by omega)]⟩
    · rintro i ⟨x1, x2, x3, x4, g1⟩ hi ⟨hb, m, h1, h2, h3, h4, h5, h6, h7⟩
      replace h3 : x1 = _ := h3
      replace h4 : x2 = _ := h4
      replace h5 : x3 = _ := h5
      replace h6 : x4 = _ := h6
      replace h7 : ∀ k, g1 k = if at' ≤ k ∧ k < at' + m then kz_by (kz_tk d F (8 * (k - at')) 8) else row k := h7
      subst h3 h4 h5 h6
      have hdi : d * i + d ≤ d * 256 := by rw [← Nat.mul_succ]; exact Nat.mul_le_mul_left d hi
      obtain ⟨hF1, hF2⟩ := hF i hi
      obtain ⟨⟨y1, y2, y3, g2⟩, m1, m2, m3, m4, m5⟩ := kz_pk38 (F := F) (d := d) (m := m) (hb := hb + d) (at' := at') (c := (hb + d) / 8) (n3 := n3) (row := g1) hd (by omega) (by omega) hn2 rfl
      replace m2 : y1 = _ := m2
      replace m3 : y2 = _ := m3
      replace m4 : y3 = _ := m4
      replace m5 : ∀ k, g2 k = _ := m5
      subst m2 m3 m4
      generalize hc : (hb + d) / 8 = c at m1 m5
      refine ⟨(nI (kz_tk d F (8 * (m + c)) (hb + d - 8 * c)), nI (hb + d - 8 * c), nI (at' + (m + c)), nI (i + 1), g2), ?_, hb + d - 8 * c, m + c, by omega, by rw [Nat.mul_succ]; omega, rfl, rfl, rfl, rfl, fun k => ?_⟩
      · show kSX6_pack_12 (nI d) 256 n3 f (nI (kz_tk d F (8 * m) hb)) (nI hb) (nI (at' + m)) (nI i) g1 = _
        unfold kSX6_pack_12
        refine (kb_b_ff (kz_nle (n := 256) hi (by decide))).trans ?_
        refine (kb_g_tt (kb_in_n hi (by decide))).trans ?_
        refine (kb_n_v (v := nI (kz_tk d F (8 * m) (hb + d))) ?_).trans ?_
        · rw [nI_clamp (by omega), hF2, kz_orsh (kz_tk_lt _ _ _ _) (by omega) ?_]
          · rw [kz_tk_app, h2, kz_tk_one hF1]
          · have q1 : F i * 2 ^ hb ≤ 2 ^ 12 * 2 ^ 8 := Nat.mul_le_mul (Nat.le_trans (Nat.le_of_lt hF1) (kz_p2 hd)) (kz_p2 (by omega))
            omega
        refine (kb_n_v (v := nI (hb + d)) (nI_add _ _)).trans ?_
        refine (kb_o_v m1).trans ?_
        exact (kb_n_v (kz_inc _)).trans rfl
      · show g2 k = _
        rw [m5 k]
        by_cases e2 : at' + m ≤ k ∧ k < at' + m + c
        · rw [if_pos e2, if_pos ⟨by omega, by omega⟩]
        · rw [if_neg e2, h7 k]
          by_cases e3 : at' ≤ k ∧ k < at' + m
          · rw [if_pos e3, if_pos ⟨e3.1, by omega⟩]
          · rw [if_neg e3, if_neg (by omega)]
    · rintro ⟨x1, x2, x3, x4, g1⟩ ⟨hb, m, h1, h2, h3, h4, h5, h6, h7⟩
      replace h6 : x4 = nI 256 := h6
      subst h6
      have hm : m = 32 * d := by omega
      subst hm
      refine ⟨(x1, x2, x3, nI 256, g1), ?_, h7⟩
      show kSX6_pack_12 (nI d) 256 n3 f x1 x2 x3 (nI 256) g1 = _
      unfold kSX6_pack_12
      exact kb_b_tt (kz_le (n := 256) (Nat.le_refl _) (by decide))
  refine ⟨r, ?_, k2⟩
  unfold kFX6_pack
  exact kb_o_v k1
