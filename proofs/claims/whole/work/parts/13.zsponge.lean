/-! Layer 2: the sponges, of the class and of the reference: one pure sponge. -/
theorem kz_eqt {a b : Nat} (h : a = b) : decide (nI a = nI b) = true := decide_eq_true (by rw [h])
theorem kz_eqf {a b : Nat} (h : a ≠ b) (ha : a < 2 ^ 31) (hb : b < 2 ^ 31) : decide (nI a = nI b) = false := decide_eq_false (fun e => h ((nI_eq ha hb).1 e))
theorem kz_pm_c {a b : Nat → Int64} (rc : Nat → Int64) (h : kz_e25 a b) : ∀ r, kz_e25 (kz_pm rc a r) (kz_pm rc b r)
  | 0 => h
  | r + 1 => kz_rd_c rc r (kz_pm_c rc h r)
def kz_mx (v : Int32) (p : Nat) : Int64 := ((v.toInt64) &&& (255 : Int64)) <<< ((nI (8 * (p % 8))).toInt64 &&& 63)
def kz_mixL (L : Nat → Int64) (v : Int32) (p : Nat) : Nat → Int64 := vp_updL L (p / 8) (L (p / 8) ^^^ kz_mx v p)
theorem kz_updL_c {a b : Nat → Int64} {k : Nat} {x y : Int64} (h : kz_e25 a b) (hx : x = y) : kz_e25 (vp_updL a k x) (vp_updL b k y) := fun i hi => by
  by_cases e : i = k
  · subst e
    rw [pk_uLs, pk_uLs, hx]
  · rw [pk_uLn e, pk_uLn e]
    exact h i hi
theorem kz_mixL_c {a b : Nat → Int64} (v : Int32) {p : Nat} (hp : p < 200) (h : kz_e25 a b) : kz_e25 (kz_mixL a v p) (kz_mixL b v p) :=
  kz_updL_c h (by rw [h (p / 8) (by omega)])
theorem kz_mixIn (L : Nat → Int64) (v : Int32) {p : Nat} (hp : p < 200) : kFX4_mixIn (nI p) v L = some (kz_mixL L v p) := by
  unfold kFX4_mixIn
  rw [pk_shrN (show p < 2 ^ 31 by omega) ((3 : Int32) &&& 31) 3 (by decide +kernel), pk_andN (show p < 2 ^ 32 by omega) 3 (by decide +kernel), show (2 ^ 3 : Nat) = 8 from rfl, nI_clamp (show p / 8 < 2 ^ 31 by omega), show (8 : Int32) * nI (p % 8) = nI (8 * (p % 8)) from pk_mul _ _]
  refine (kb_g_tt (kb_in_n (by omega) (by decide))).trans ?_
  refine (kb_g_tt (kb_in_n (by omega) (by decide))).trans ?_
  exact (kb_n_v rfl).trans rfl
theorem kz_flip (L : Nat → Int64) (v : Int32) {p : Nat} (hp : p < 200) : kFX5_flip (nI p) v L = some (kz_mixL L v p) := by
  unfold kFX5_flip
  rw [show nI p - nI p / (8 : Int32) * (8 : Int32) = nI (p % 8) from pk_rem (d := 8) (by omega) (by decide) (by decide), show nI p / (8 : Int32) = nI (p / 8) from pk_div (d := 8) (by omega) (by decide) (by decide), nI_clamp (show p / 8 < 2 ^ 31 by omega), show (8 : Int32) * nI (p % 8) = nI (8 * (p % 8)) from pk_mul _ _]
  refine (kb_g_tt (kb_in_n (by omega) (by decide))).trans ?_
  refine (kb_g_tt (kb_in_n (by omega) (by decide))).trans ?_
  exact (kb_n_v rfl).trans rfl
abbrev kz_SP : Type := (Nat → Int64) × Nat
def kz_ab1 (rc : Nat → Int64) (R : Nat) (v : Int32) (u : kz_SP) : kz_SP := if u.2 + 1 = R then (kz_pm rc (kz_mixL u.1 v u.2) 24, 0) else (kz_mixL u.1 v u.2, u.2 + 1)
def kz_ab (rc : Nat → Int64) (R : Nat) (v : Nat → Int32) (u : kz_SP) : Nat → kz_SP
  | 0 => u
  | n + 1 => kz_ab1 rc R (v n) (kz_ab rc R v u n)
def kz_fin (rc : Nat → Int64) (R : Nat) (sf : Int32) (u : kz_SP) : kz_SP := (kz_pm rc (kz_mixL (kz_mixL u.1 sf u.2) 128 (R - 1)) 24, 0)
def kz_sz (rc : Nat → Int64) (R : Nat) (u : kz_SP) : kz_SP := if u.2 = R then (kz_pm rc u.1 24, 0) else u
def kz_xo (u : kz_SP) : Int32 := ((u.1 (u.2 / 8)).toUInt64 >>> ((nI (8 * (u.2 % 8))).toInt64.toUInt64 &&& Int64.toUInt64 63)).toInt64.toInt32
def kz_ob (u : kz_SP) : Nat := (kz_xo u).toBitVec.toNat % 256
def kz_gv (rc : Nat → Int64) (R : Nat) (u : kz_SP) : Nat → kz_SP
  | 0 => u
  | n + 1 => ((kz_sz rc R (kz_gv rc R u n)).1, (kz_sz rc R (kz_gv rc R u n)).2 + 1)
/-- the byte of number n that comes out -/
def kz_gb (rc : Nat → Int64) (R : Nat) (u : kz_SP) (n : Nat) : Nat := kz_ob (kz_sz rc R (kz_gv rc R u n))
theorem kz_gb_lt (rc : Nat → Int64) (R : Nat) (u : kz_SP) (n : Nat) : kz_gb rc R u n < 256 := Nat.mod_lt _ (by decide)
theorem kz_ab1_lt {rc : Nat → Int64} {R : Nat} {v : Int32} {u : kz_SP} (hR : 0 < R) (h : u.2 < R) : (kz_ab1 rc R v u).2 < R := by
  unfold kz_ab1
  by_cases e : u.2 + 1 = R
  · rw [if_pos e]; exact hR
  · rw [if_neg e]
    show u.2 + 1 < R
    omega
theorem kz_ab_lt {rc : Nat → Int64} {R : Nat} {v : Nat → Int32} {u : kz_SP} (hR : 0 < R) (h : u.2 < R) : ∀ n, (kz_ab rc R v u n).2 < R
  | 0 => h
  | n + 1 => kz_ab1_lt hR (kz_ab_lt hR h n)
theorem kz_sz_lt {rc : Nat → Int64} {R : Nat} {u : kz_SP} (hR : 0 < R) (h : u.2 ≤ R) : (kz_sz rc R u).2 < R := by
  unfold kz_sz
  by_cases e : u.2 = R
  · rw [if_pos e]; exact hR
  · rw [if_neg e]; omega
theorem kz_gv_le {rc : Nat → Int64} {R : Nat} {u : kz_SP} (hR : 0 < R) (h : u.2 ≤ R) : ∀ n, (kz_gv rc R u n).2 ≤ R
  | 0 => h
  | n + 1 => kz_sz_lt hR (kz_gv_le hR h n)
-- ===== a number of 32 bits and its byte
theorem kz_nIx (x : Int32) : nI x.toBitVec.toNat = x := by
  apply Int32.toBitVec_inj.1
  show BitVec.ofNat 32 x.toBitVec.toNat = x.toBitVec
  simp
theorem kz_x255 (x : Int32) : x &&& (255 : Int32) = nI (x.toBitVec.toNat % 256) := pk_and x 8 (by decide +kernel)
theorem kz_xby (x : Int32) : x.toInt8.toInt32 = kz_by (x.toBitVec.toNat % 256) := by
  rw [kz_by_mod]
  unfold kz_by
  rw [kz_nIx]
-- ===== the class
theorem kz_start (f : Nat → Int64) (R : Int32) : ∃ g, kFX4_start R f = some ((0 : Int32), R, g) ∧ kz_e25 g (fun _ => 0) := by
  have key := kz_for (S := fun i f => kSX4_start_2 i f) (g := f) nI 25 (fun k f => ∀ i, i < k → f i = 0) (by decide) (fun k g hk hg => ⟨vp_updL g k 0, ?_, fun i hi => ?_⟩) (fun g _ => kb_b_tt (kz_le (n := 25) (Nat.le_refl _) (by decide))) (fun i hi => absurd hi (by omega))
  · obtain ⟨g, k1, k2⟩ := key
    refine ⟨g, ?_, k2⟩
    unfold kFX4_start
    exact kb_o_v k1
  · show kSX4_start_2 (nI k) g = _
    unfold kSX4_start_2
    rw [nI_clamp (show k < 2 ^ 31 by omega)]
    refine (kb_b_ff (kz_nle (n := 25) hk (by decide))).trans ?_
    refine (kb_g_tt (kb_in_n hk (by decide))).trans ?_
    refine (kb_n_v rfl).trans ?_
    exact (kb_n_v (kz_inc _)).trans rfl
  · show vp_updL g k 0 i = 0
    by_cases e : i = k
    · subst e; exact pk_uLs
    · rw [pk_uLn e]; exact hg i (by omega)
theorem kz_take {rc lanes moved columns : Nat → Int64} {turns targets f : Nat → Int32} {R at' n n1 : Nat} {u : kz_SP} (hT : kz_tab turns targets) (hR : 0 < R) (hR2 : R ≤ 200) (hu : u.2 < R) (hL : kz_e25 lanes u.1) (hn : at' + n ≤ n1) (hn1 : n1 < 2 ^ 31) (hn2 : n < 100000) :
    ∃ lanes' moved' columns', kFX4_take (nI at') (nI n) n1 (nI R) (nI u.2) lanes moved columns turns targets rc f = some (nI (kz_ab rc R (fun k => f (at' + k)) u n).2, lanes', moved', columns') ∧ kz_e25 lanes' (kz_ab rc R (fun k => f (at' + k)) u n).1 := by
  have key := kz_for (S := fun i z => kSX4_take_3 (nI at') (nI n) n1 (nI R) turns targets rc f i z.1 z.2.1 z.2.2.1 z.2.2.2) (g := (nI u.2, columns, lanes, moved)) nI n (fun k z => z.1 = nI (kz_ab rc R (fun k => f (at' + k)) u k).2 ∧ kz_e25 z.2.2.1 (kz_ab rc R (fun k => f (at' + k)) u k).1) hn2 (fun k z hk hz => ?_) (fun g _ => kb_b_tt (kz_le (n := n) (Nat.le_refl _) (by omega))) ⟨rfl, hL⟩
  · obtain ⟨⟨pl, c', l', m'⟩, k1, k2, k3⟩ := key
    have k2 : pl = _ := k2
    subst k2
    refine ⟨l', m', c', ?_, k3⟩
    unfold kFX4_take
    exact kb_o_v k1
  · obtain ⟨pl, c0, l0, m0⟩ := z
    obtain ⟨h1, h2⟩ := hz
    replace h1 : pl = _ := h1
    replace h2 : kz_e25 l0 (kz_ab rc R (fun k => f (at' + k)) u k).1 := h2
    subst h1
    have hlt := kz_ab_lt (rc := rc) (v := fun k => f (at' + k)) hR hu k
    show ∃ g', kSX4_take_3 (nI at') (nI n) n1 (nI R) turns targets rc f (nI k) (nI (kz_ab rc R (fun k => f (at' + k)) u k).2) c0 l0 m0 = some (.inl (nI (k + 1), g')) ∧ g'.1 = nI (kz_ab1 rc R (f (at' + k)) (kz_ab rc R (fun k => f (at' + k)) u k)).2 ∧ kz_e25 g'.2.2.1 (kz_ab1 rc R (f (at' + k)) (kz_ab rc R (fun k => f (at' + k)) u k)).1
    generalize kz_ab rc R (fun k => f (at' + k)) u k = w at h2 hlt
    have hc := kz_mixL_c (f (at' + k)) (p := w.2) (by omega) h2
    unfold kSX4_take_3
    rw [nI_add, nI_clamp (show at' + k < 2 ^ 31 by omega)]
    by_cases e : w.2 + 1 = R
    · obtain ⟨a', m', c', q1, q2⟩ := kz_permute (a := kz_mixL l0 (f (at' + k)) w.2) (m := m0) (c := c0) (rc := rc) hT
      refine ⟨((0 : Int32), c', a', m'), ?_, ?_, ?_⟩
      · refine (kb_b_ff (kz_nle hk (by omega))).trans ?_
        refine (kb_g_tt (kb_in_n (by omega) hn1)).trans ?_
        refine (kb_o_v (kz_mixIn l0 _ (by omega))).trans ?_
        refine (kb_n_v (v := nI (w.2 + 1)) (nI_1 _)).trans ?_
        refine (kb_b_tt (kz_eqt e)).trans ?_
        refine (kb_o_v q1).trans ?_
        exact (kb_n_v (kz_inc _)).trans rfl
      · show (0 : Int32) = _
        unfold kz_ab1
        rw [if_pos e]
        rfl
      · show kz_e25 a' _
        unfold kz_ab1
        rw [if_pos e]
        exact fun i hi => (q2 i hi).trans (kz_pm_c rc hc 24 i hi)
    · refine ⟨(nI (w.2 + 1), c0, kz_mixL l0 (f (at' + k)) w.2, m0), ?_, ?_, ?_⟩
      · refine (kb_b_ff (kz_nle hk (by omega))).trans ?_
        refine (kb_g_tt (kb_in_n (by omega) hn1)).trans ?_
        refine (kb_o_v (kz_mixIn l0 _ (by omega))).trans ?_
        refine (kb_n_v (v := nI (w.2 + 1)) (nI_1 _)).trans ?_
        refine (kb_b_ff (kz_eqf e (by omega) (by omega))).trans ?_
        exact (kb_n_v (kz_inc _)).trans rfl
      · show nI (w.2 + 1) = _
        unfold kz_ab1
        rw [if_neg e]
      · show kz_e25 (kz_mixL l0 (f (at' + k)) w.2) _
        unfold kz_ab1
        rw [if_neg e]
        exact hc
theorem kz_finish {rc lanes moved columns : Nat → Int64} {turns targets : Nat → Int32} {R : Nat} {sf : Int32} {u : kz_SP} (hT : kz_tab turns targets) (hR : 0 < R) (hR2 : R ≤ 200) (hu : u.2 < R) (hL : kz_e25 lanes u.1) :
    ∃ lanes' moved' columns', kFX4_finish sf (nI R) (nI u.2) lanes moved columns turns targets rc = some ((0 : Int32), lanes', moved', columns') ∧ kz_e25 lanes' (kz_fin rc R sf u).1 := by
  obtain ⟨a', m', c', q1, q2⟩ := kz_permute (a := kz_mixL (kz_mixL lanes sf u.2) 128 (R - 1)) (m := moved) (c := columns) (rc := rc) hT
  refine ⟨a', m', c', ?_, fun i hi => (q2 i hi).trans (kz_pm_c rc (kz_mixL_c 128 (by omega) (kz_mixL_c sf (by omega) hL)) 24 i hi)⟩
  unfold kFX4_finish
  refine (kb_o_v (kz_mixIn lanes sf (by omega))).trans ?_
  rw [show nI R - (1 : Int32) = nI (R - 1) from pk_sub (b := 1) (by omega)]
  refine (kb_o_v (kz_mixIn _ 128 (by omega))).trans ?_
  exact kb_o_v q1
theorem kz_give {rc lanes moved columns : Nat → Int64} {turns targets f : Nat → Int32} {R at' n n1 : Nat} {u : kz_SP} (hT : kz_tab turns targets) (hR : 0 < R) (hR2 : R ≤ 200) (hu : u.2 ≤ R) (hL : kz_e25 lanes u.1) (hn : at' + n ≤ n1) (hn1 : n1 < 2 ^ 31) (hn2 : n < 100000) :
    ∃ lanes' moved' columns' f', kFX4_give (nI at') (nI n) n1 (nI R) (nI u.2) lanes moved columns turns targets rc f = some (nI (kz_gv rc R u n).2, lanes', moved', columns', f') ∧ kz_e25 lanes' (kz_gv rc R u n).1 ∧ ∀ k, f' k = if at' ≤ k ∧ k < at' + n then kz_by (kz_gb rc R u (k - at')) else f k := by
  have key := kz_for (S := fun i z => kSX4_give_3 (nI at') (nI n) n1 (nI R) turns targets rc i z.1 z.2.1 z.2.2.1 z.2.2.2.1 z.2.2.2.2) (g := (f, nI u.2, columns, lanes, moved)) nI n (fun j z => z.2.1 = nI (kz_gv rc R u j).2 ∧ kz_e25 z.2.2.2.1 (kz_gv rc R u j).1 ∧ ∀ k, z.1 k = if at' ≤ k ∧ k < at' + j then kz_by (kz_gb rc R u (k - at')) else f k) hn2 (fun j z hj hz => ?_) (fun g _ => kb_b_tt (kz_le (n := n) (Nat.le_refl _) (by omega))) ⟨rfl, hL, fun k => by rw [if_neg (by omega)]⟩
  · obtain ⟨⟨f', pl, c', l', m'⟩, k1, k2, k3, k4⟩ := key
    have k2 : pl = _ := k2
    subst k2
    refine ⟨l', m', c', f', ?_, k3, k4⟩
    unfold kFX4_give
    exact kb_o_v k1
  · obtain ⟨f0, pl, c0, l0, m0⟩ := z
    obtain ⟨h1, h2, h3⟩ := hz
    replace h1 : pl = _ := h1
    replace h2 : kz_e25 l0 (kz_gv rc R u j).1 := h2
    replace h3 : ∀ k, f0 k = if at' ≤ k ∧ k < at' + j then kz_by (kz_gb rc R u (k - at')) else f k := h3
    subst h1
    have hle := kz_gv_le (rc := rc) hR hu j
    have hlt := kz_sz_lt (rc := rc) hR hle
    have hput : ∀ k, upd f0 (at' + j) (kz_by (kz_gb rc R u j)) k = if at' ≤ k ∧ k < at' + (j + 1) then kz_by (kz_gb rc R u (k - at')) else f k := fun k => by
      by_cases e : k = at' + j
      · subst e
        rw [pk_us, if_pos ⟨by omega, by omega⟩, show at' + j - at' = j by omega]
      · rw [pk_un e, h3 k]
        by_cases e2 : at' ≤ k ∧ k < at' + j
        · rw [if_pos e2, if_pos ⟨e2.1, by omega⟩]
        · rw [if_neg e2, if_neg (by omega)]
    have key : ∀ (l1 : Nat → Int64) (p : Nat), p < R → kz_e25 l1 (kz_sz rc R (kz_gv rc R u j)).1 → p = (kz_sz rc R (kz_gv rc R u j)).2 → vp_nar .byte ((((l1 (nI p >>> ((3 : Int32) &&& 31)).toNatClampNeg).toUInt64 >>> (((8 : Int32) * (nI p &&& (7 : Int32))).toInt64.toUInt64 &&& Int64.toUInt64 63)).toInt64).toInt32.toInt8.toInt32) = kz_by (kz_gb rc R u j) := fun l1 p hp hl he => by
      rw [pk_vb, kz_xby, pk_shrN (show p < 2 ^ 31 by omega) ((3 : Int32) &&& 31) 3 (by decide +kernel), pk_andN (show p < 2 ^ 32 by omega) 3 (by decide +kernel), show (2 ^ 3 : Nat) = 8 from rfl, nI_clamp (show p / 8 < 2 ^ 31 by omega), show (8 : Int32) * nI (p % 8) = nI (8 * (p % 8)) from pk_mul _ _, hl (p / 8) (by omega), he]
      rfl
    have g1 : ∀ p, p < R → kb_in (nI p >>> ((3 : Int32) &&& 31)) 25 = true := fun p hp => by
      rw [pk_shrN (show p < 2 ^ 31 by omega) ((3 : Int32) &&& 31) 3 (by decide +kernel), show (2 ^ 3 : Nat) = 8 from rfl]
      exact kb_in_n (by omega) (by decide)
    have hadd : nI at' + nI j = nI (at' + j) := nI_add _ _
    by_cases e : (kz_gv rc R u j).2 = R
    · have es : kz_sz rc R (kz_gv rc R u j) = (kz_pm rc (kz_gv rc R u j).1 24, 0) := by unfold kz_sz; rw [if_pos e]
      obtain ⟨a', m', c', q1, q2⟩ := kz_permute (a := l0) (m := m0) (c := c0) (rc := rc) hT
      have q3 : kz_e25 a' (kz_sz rc R (kz_gv rc R u j)).1 := by
        rw [es]
        exact fun i hi => (q2 i hi).trans (kz_pm_c rc h2 24 i hi)
      refine ⟨(upd f0 (at' + j) (kz_by (kz_gb rc R u j)), nI 1, c', a', m'), ?_, ?_, q3, hput⟩
      · show kSX4_give_3 (nI at') (nI n) n1 (nI R) turns targets rc (nI j) f0 (nI (kz_gv rc R u j).2) c0 l0 m0 = _
        unfold kSX4_give_3
        rw [hadd, nI_clamp (show at' + j < 2 ^ 31 by omega)]
        refine (kb_b_ff (kz_nle hj (by omega))).trans ?_
        refine (kb_b_tt (kz_eqt e)).trans ?_
        refine (kb_o_v q1).trans ?_
        refine (kb_g_tt (g1 0 hR)).trans ?_
        refine (kb_g_tt (kb_in_n (by omega) hn1)).trans ?_
        refine (kb_n_v (v := upd f0 (at' + j) (kz_by (kz_gb rc R u j))) (congrArg (upd f0 (at' + j)) (key a' 0 hR q3 (by rw [es])))).trans ?_
        refine (kb_n_v (v := nI 1) rfl).trans ?_
        exact (kb_n_v (kz_inc _)).trans rfl
      · show nI 1 = nI ((kz_sz rc R (kz_gv rc R u j)).2 + 1)
        rw [es]
    · have es : kz_sz rc R (kz_gv rc R u j) = kz_gv rc R u j := by unfold kz_sz; rw [if_neg e]
      refine ⟨(upd f0 (at' + j) (kz_by (kz_gb rc R u j)), nI ((kz_gv rc R u j).2 + 1), c0, l0, m0), ?_, ?_, ?_, hput⟩
      · show kSX4_give_3 (nI at') (nI n) n1 (nI R) turns targets rc (nI j) f0 (nI (kz_gv rc R u j).2) c0 l0 m0 = _
        unfold kSX4_give_3
        rw [hadd, nI_clamp (show at' + j < 2 ^ 31 by omega)]
        refine (kb_b_ff (kz_nle hj (by omega))).trans ?_
        refine (kb_b_ff (kz_eqf e (by omega) (by omega))).trans ?_
        refine (kb_g_tt (g1 _ (by omega))).trans ?_
        refine (kb_g_tt (kb_in_n (by omega) hn1)).trans ?_
        refine (kb_n_v (v := upd f0 (at' + j) (kz_by (kz_gb rc R u j))) (congrArg (upd f0 (at' + j)) (key l0 _ (by omega) (by rw [es]; exact h2) (by rw [es])))).trans ?_
        refine (kb_n_v (v := nI ((kz_gv rc R u j).2 + 1)) (nI_1 _)).trans ?_
        exact (kb_n_v (kz_inc _)).trans rfl
      · show nI ((kz_gv rc R u j).2 + 1) = nI ((kz_sz rc R (kz_gv rc R u j)).2 + 1)
        rw [es]
      · show kz_e25 l0 (kz_sz rc R (kz_gv rc R u j)).1
        rw [es]
        exact h2
-- ===== the reference, kinds above 6
theorem kz_rput {rc state other column words cubes : Nat → Int64} {turns block : Nat → Int32} {R kd : Nat} {tot : Int64} {u : kz_SP} (v : Int32) (hT : ∀ i, i < 25 → turns i = nI (kz_tn i)) (hk : 6 < kd) (hk2 : kd < 20) (hR2 : R ≤ 200) (hu : u.2 < R) (hL : kz_e25 state u.1) :
    ∃ s' o' c', kFX5_put v (nI kd) (nI R) (nI u.2) tot cubes turns rc state other column words block = some (nI (kz_ab1 rc R v u).2, tot + 1, s', o', c', words, block) ∧ kz_e25 s' (kz_ab1 rc R v u).1 := by
  have hsp : kFX5_sponge (nI kd) = some (1 : Int32) := kb_b_ff (kz_nle (n := kd) (i := 6) hk (by omega))
  have hc := kz_mixL_c v (p := u.2) (by omega) hL
  by_cases e : u.2 + 1 = R
  · obtain ⟨a', m', c', q1, q2⟩ := kz_rpermute (a := kz_mixL state v u.2) (m := other) (c := column) (rc := rc) hT
    refine ⟨a', m', c', ?_, ?_⟩
    · unfold kFX5_put
      refine (kb_o_v hsp).trans ?_
      refine (kb_b_ff (by decide)).trans ?_
      refine (kb_o_v (kz_flip state v (by omega))).trans ?_
      show kJX5_put_30 _ _ _ _ _ _ _ _ _ _ _ _ = _
      unfold kJX5_put_30
      refine (kb_n_v (v := nI (u.2 + 1)) (nI_1 _)).trans ?_
      refine (kb_n_v rfl).trans ?_
      refine (kb_b_tt (kz_eqt e)).trans ?_
      refine (kb_o_v hsp).trans ?_
      refine (kb_b_ff (by decide)).trans ?_
      refine (kb_o_v q1).trans ?_
      unfold kz_ab1
      rw [if_pos e]
      rfl
    · unfold kz_ab1
      rw [if_pos e]
      exact fun i hi => (q2 i hi).trans (kz_pm_c rc hc 24 i hi)
  · refine ⟨kz_mixL state v u.2, other, column, ?_, ?_⟩
    · unfold kFX5_put
      refine (kb_o_v hsp).trans ?_
      refine (kb_b_ff (by decide)).trans ?_
      refine (kb_o_v (kz_flip state v (by omega))).trans ?_
      show kJX5_put_30 _ _ _ _ _ _ _ _ _ _ _ _ = _
      unfold kJX5_put_30
      refine (kb_n_v (v := nI (u.2 + 1)) (nI_1 _)).trans ?_
      refine (kb_n_v rfl).trans ?_
      refine (kb_b_ff (kz_eqf e (by omega) (by omega))).trans ?_
      unfold kz_ab1
      rw [if_neg e]
    · unfold kz_ab1
      rw [if_neg e]
      exact hc
theorem kz_rsqueeze {rc state other column : Nat → Int64} {turns : Nat → Int32} {R : Nat} {u : kz_SP} (hT : ∀ i, i < 25 → turns i = nI (kz_tn i)) (hR : 0 < R) (hR2 : R ≤ 200) (hu : u.2 ≤ R) (hL : kz_e25 state u.1) :
    ∃ s' o' c', kFX5_squeeze (nI R) (nI u.2) turns rc state other column = some (nI (kz_ob (kz_sz rc R u)), nI ((kz_sz rc R u).2 + 1), s', o', c') ∧ kz_e25 s' (kz_sz rc R u).1 := by
  have hlt := kz_sz_lt (rc := rc) hR hu
  have key : ∀ (l1 o1 c1 : Nat → Int64) (p : Nat), p < R → kz_e25 l1 (kz_sz rc R u).1 → p = (kz_sz rc R u).2 → kJX5_squeeze_20 (nI p) l1 o1 c1 = some (nI (kz_ob (kz_sz rc R u)), nI ((kz_sz rc R u).2 + 1), l1, o1, c1) := fun l1 o1 c1 p hp hl he => by
    unfold kJX5_squeeze_20
    rw [show nI p - nI p / (8 : Int32) * (8 : Int32) = nI (p % 8) from pk_rem (d := 8) (by omega) (by decide) (by decide), show nI p / (8 : Int32) = nI (p / 8) from pk_div (d := 8) (by omega) (by decide) (by decide), nI_clamp (show p / 8 < 2 ^ 31 by omega), show (8 : Int32) * nI (p % 8) = nI (8 * (p % 8)) from pk_mul _ _, hl (p / 8) (by omega)]
    refine (kb_g_tt (kb_in_n (by omega) (by decide))).trans ?_
    refine (kb_n_v (v := nI (kz_ob (kz_sz rc R u))) ?_).trans ?_
    · rw [kz_x255, he]
      rfl
    refine (kb_n_v (v := nI (p + 1)) (nI_1 _)).trans ?_
    rw [he]
  by_cases e : u.2 = R
  · have es : kz_sz rc R u = (kz_pm rc u.1 24, 0) := by unfold kz_sz; rw [if_pos e]
    obtain ⟨a', m', c', q1, q2⟩ := kz_rpermute (a := state) (m := other) (c := column) (rc := rc) hT
    have q3 : kz_e25 a' (kz_sz rc R u).1 := by
      rw [es]
      exact fun i hi => (q2 i hi).trans (kz_pm_c rc hL 24 i hi)
    refine ⟨a', m', c', ?_, q3⟩
    unfold kFX5_squeeze
    refine (kb_b_tt (kz_eqt e)).trans ?_
    refine (kb_o_v q1).trans ?_
    exact key a' m' c' 0 hR q3 (by rw [es])
  · have es : kz_sz rc R u = u := by unfold kz_sz; rw [if_neg e]
    refine ⟨state, other, column, ?_, by rw [es]; exact hL⟩
    unfold kFX5_squeeze
    refine (kb_b_ff (kz_eqf e (by omega) (by omega))).trans ?_
    exact key state other column u.2 (by omega) (by rw [es]; exact hL) (by rw [es])
