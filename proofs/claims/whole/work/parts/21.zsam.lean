/-! Layer 2: the words of the KEM's specification; SAMPLE and the noise of the reference as whole methods; moves and comparisons. -/
theorem kz_ab_c {rc : Nat → Int64} {R : Nat} {v w : Nat → Int32} {u : kz_SP} : ∀ {n : Nat}, (∀ k, k < n → v k = w k) → kz_ab rc R v u n = kz_ab rc R w u n
  | 0, _ => rfl
  | n + 1, h => by
    show kz_ab1 rc R (v n) (kz_ab rc R v u n) = kz_ab1 rc R (w n) (kz_ab rc R w u n)
    rw [kz_ab_c (fun k hk => h k (Nat.lt_succ_of_lt hk)), h n (Nat.lt_succ_self n)]
/-- the sponge behind the 32 bytes of a seed and the two numbers of a place of the matrix -/
def kz_suv (rc : Nat → Int64) (v : Nat → Int32) (j i : Nat) : kz_SP := kz_fin rc 168 31 (kz_ab1 rc 168 (nI i) (kz_ab1 rc 168 (nI j) (kz_ab rc 168 v kz_z 32)))
/-- SAMPLE: how many numbers were found, and the numbers -/
def kz_smp (rc : Nat → Int64) (v : Nat → Int32) (j i : Nat) : Nat × (Nat → Nat) := kz_sm (kz_gb rc 168 (kz_suv rc v j i)) 280
theorem kz_smp_le (rc : Nat → Int64) (v : Nat → Int32) (j i : Nat) : (kz_smp rc v j i).1 ≤ 256 := kz_sm_le _ _
/-- NTT of the noise number b -/
def kz_vec (rc : Nat → Int64) (s : Nat → Int32) (e b : Nat) : Nat → Nat := kz_ntt (kz_np rc s e b)
/-- a sum of products -/
def kz_acc (s0 : Nat → Nat) (A S : Nat → Nat → Nat) : Nat → Nat → Nat
  | 0 => s0
  | j + 1 => kz_prod (kz_acc s0 A S j) (A j) (S j)
theorem kz_acc_c {s0 : Nat → Nat} {A S : Nat → Nat → Nat} : ∀ n, kz_acc s0 A S n = kz_acc s0 S A n
  | 0 => rfl
  | n + 1 => by
    show kz_prod (kz_acc s0 A S n) (A n) (S n) = kz_prod (kz_acc s0 S A n) (S n) (A n)
    rw [kz_acc_c n]
    funext i
    unfold kz_prod
    by_cases h : i % 2 = 0
    · rw [if_pos h, if_pos h, Nat.mul_comm (A n i), Nat.mul_comm (A n (i + 1))]
    · rw [if_neg h, if_neg h, Nat.add_assoc, Nat.add_assoc, Nat.add_comm (A n (i - 1) * S n i), Nat.mul_comm (A n i), Nat.mul_comm (A n (i - 1))]
theorem kz_np_c {rc : Nat → Int64} {v w : Nat → Int32} {e b : Nat} (h : ∀ k, k < 32 → v k = w k) : kz_np rc v e b = kz_np rc w e b := by
  funext i
  unfold kz_np kz_nb
  rw [kz_ab_c h]
theorem kz_Rn_R {w : Nat × (Nat → Nat)} {f : Nat → Int32} (hc : ¬ w.1 < 256) (h : kz_Rn w.1 w.2 f) : kz_R w.2 f := fun i hi => h i (by omega)
theorem kz_vu {α : Type} (f : Nat → α) (k : Nat) (v w : α) : va_up (va_up f k v) k w = va_up f k w := by
  funext j
  by_cases h : j = k
  · subst h
    rw [va_up_self, va_up_self]
  · rw [va_up_ne _ _ h, va_up_ne _ _ h, va_up_ne _ _ h]
theorem kz_vi {α : Type} (f : Nat → α) (k : Nat) : va_up f k (f k) = f := by
  funext j
  by_cases h : j = k
  · subst h
    rw [va_up_self]
  · rw [va_up_ne _ _ h]
theorem kz_il {α β γ : Type} {a : α} {f : α → γ} {g : β → γ} {y : γ} (h : f a = y) : kb_s (.inl a) f g = y := h
theorem kz_ir {α β γ : Type} {b : β} {f : α → γ} {g : β → γ} {y : γ} (h : g b = y) : kb_s (.inr b) f g = y := h
theorem kz_Y_m {B : Nat → Nat} {f : Nat → Int32} {lo hi lo' hi' : Nat} (h : kz_Y B f lo hi) (h1 : lo ≤ lo') (h2 : hi' ≤ hi) : kz_Y B f lo' hi' := fun i h3 h4 => h i (by omega) (by omega)
theorem kz_Rlt {a : Nat → Nat} {f : Nat → Int32} (h : kz_R a f) : ∀ i, i < 256 → a i < 2 ^ 12 ∧ f i = nI (a i) := fun i hi => ⟨Nat.lt_of_lt_of_le (h i hi).1 (by decide), (h i hi).2⟩
theorem kz_rsample {rc roots cubes s224 s256 state other column words : Nat → Int64} {turns block f g v : Nat → Int32} {at' j i n2 : Nat} (hT : ∀ i, i < 25 → turns i = nI (kz_tn i)) (hv : ∀ k, k < 32 → g (at' + k) = v k) (hn : at' + 32 ≤ n2) (hn2 : n2 < 2 ^ 31) :
    ∃ fl tot s o c f', kFX5_sample (nI at') (nI j) (nI i) 256 n2 roots cubes s224 s256 turns rc state other column words block f g = some ((if (kz_smp rc v j i).1 < 256 then (0 : Int32) else 1), fl, nI 11, nI 168, tot, s, o, c, words, block, f') ∧ kz_Rn (kz_smp rc v j i).1 (kz_smp rc v j i).2 f' := by
  obtain ⟨s1, p1, e1⟩ := kz_rbegin (kd := 11) roots s224 s256 state (by decide)
  rw [show kz_rt 11 = 168 from rfl] at p1
  obtain ⟨t2, s2, o2, c2, p2, e2⟩ := kz_rput2 (rc := rc) (kd := 11) (R := 168) (at' := at') (n := 32) (n1 := n2) (tot := (0 : Int64)) (u := kz_z) (other := other) (column := column) (words := words) (cubes := cubes) (block := block) (f := g) hT (by decide) (by decide) (by decide) (by decide) (by decide) e1 hn hn2 (by decide)
  rw [kz_ab_c hv] at p2 e2
  have hlt := kz_ab_lt (rc := rc) (R := 168) (v := v) (u := kz_z) (by decide) (by decide) 32
  have hle := kz_smp_le rc v j i
  have hsu : kz_smp rc v j i = kz_sm (kz_gb rc 168 (kz_fin rc 168 31 (kz_ab1 rc 168 (nI i) (kz_ab1 rc 168 (nI j) (kz_ab rc 168 v kz_z 32))))) 280 := rfl
  generalize kz_smp rc v j i = w at hle hsu ⊢
  generalize kz_ab rc 168 v kz_z 32 = U at p2 e2 hlt hsu
  obtain ⟨s3, o3, c3, p3, e3⟩ := kz_rput (rc := rc) (kd := 11) (R := 168) (tot := t2) (other := o2) (column := c2) (words := words) (cubes := cubes) (block := block) (nI j) hT (by decide) (by decide) (by decide) hlt e2
  have hlt3 := kz_ab1_lt (rc := rc) (v := nI j) (by decide) hlt
  generalize kz_ab1 rc 168 (nI j) U = U3 at p3 e3 hlt3 hsu
  obtain ⟨s4, o4, c4, p4, e4⟩ := kz_rput (rc := rc) (kd := 11) (R := 168) (tot := t2 + 1) (other := o3) (column := c3) (words := words) (cubes := cubes) (block := block) (nI i) hT (by decide) (by decide) (by decide) hlt3 e3
  have hlt4 := kz_ab1_lt (rc := rc) (v := nI i) (by decide) hlt3
  generalize kz_ab1 rc 168 (nI i) U3 = U4 at p4 e4 hlt4 hsu
  obtain ⟨s5, o5, c5, p5, e5⟩ := kz_rfinish (rc := rc) (kd := 11) (R := 168) (tot := t2 + 1 + 1) (other := o4) (column := c4) (words := words) (cubes := cubes) (block := block) hT (by decide) (by decide) (by decide) (by decide) hlt4 e4
  rw [show kz_sf 11 = 31 from rfl] at e5
  obtain ⟨⟨x6, x7, f', fl, c6, o6, s6⟩, p6, q6, r6⟩ := kz_rsample36 (rc := rc) (R := 168) (f := f) (other := o5) (column := c5) (u := kz_fin rc 168 31 U4) hT (by decide) (by decide) (by rw [kz_fin0]; decide) e5
  rw [kz_fin0] at p6
  rw [← hsu] at q6 r6
  replace q6 : x6 = nI w.1 := q6
  replace r6 : kz_Rn w.1 w.2 f' := r6
  subst q6
  refine ⟨fl, t2 + 1 + 1, s6, o6, c6, f', ?_, r6⟩
  unfold kFX5_sample
  refine (kb_o_v p1).trans ?_
  refine (kb_o_v p2).trans ?_
  refine (kb_o_v p3).trans ?_
  refine (kb_o_v p4).trans ?_
  refine (kb_o_v p5).trans ?_
  refine (kb_o_v p6).trans ?_
  by_cases h : w.1 < 256
  · rw [if_pos h]
    exact kb_b_ff (kz_eqf (b := 256) (by omega) (by omega) (by decide))
  · rw [if_neg h]
    exact kb_b_tt (kz_eqt (b := 256) (by omega))
theorem kz_rbinomial {rc roots cubes s224 s256 state other column words : Nat → Int64} {turns block noise f g v : Nat → Int32} {e at' b n3 : Nat} (hT : ∀ i, i < 25 → turns i = nI (kz_tn i)) (hv : ∀ k, k < 32 → g (at' + k) = v k) (he : e ≤ 3) (hn : at' + 32 ≤ n3) (hn3 : n3 < 2 ^ 31) :
    ∃ fl tot s o c nz f', kFX5_binomial (nI e) (nI at') (nI b) 256 n3 roots cubes s224 s256 turns rc state other column words block noise f g = some (fl, nI 12, nI 136, tot, s, o, c, words, block, nz, f') ∧ kz_R (kz_np rc v e b) f' := by
  obtain ⟨s1, p1, e1⟩ := kz_rbegin (kd := 12) roots s224 s256 state (by decide)
  rw [show kz_rt 12 = 136 from rfl] at p1
  obtain ⟨t2, s2, o2, c2, p2, e2⟩ := kz_rput2 (rc := rc) (kd := 12) (R := 136) (at' := at') (n := 32) (n1 := n3) (tot := (0 : Int64)) (u := kz_z) (other := other) (column := column) (words := words) (cubes := cubes) (block := block) (f := g) hT (by decide) (by decide) (by decide) (by decide) (by decide) e1 hn hn3 (by decide)
  rw [kz_ab_c hv] at p2 e2
  have hlt := kz_ab_lt (rc := rc) (R := 136) (v := v) (u := kz_z) (by decide) (by decide) 32
  have hnb : kz_nb rc v b = kz_gb rc 136 (kz_fin rc 136 31 (kz_ab1 rc 136 (nI b) (kz_ab rc 136 v kz_z 32))) := rfl
  unfold kz_np
  rw [hnb]
  generalize kz_ab rc 136 v kz_z 32 = U at p2 e2 hlt ⊢
  obtain ⟨s3, o3, c3, p3, e3⟩ := kz_rput (rc := rc) (kd := 12) (R := 136) (tot := t2) (other := o2) (column := c2) (words := words) (cubes := cubes) (block := block) (nI b) hT (by decide) (by decide) (by decide) hlt e2
  have hlt3 := kz_ab1_lt (rc := rc) (v := nI b) (by decide) hlt
  generalize kz_ab1 rc 136 (nI b) U = V at p3 e3 hlt3 ⊢
  obtain ⟨s4, o4, c4, nz, p4, e4, b4⟩ := kz_rgive (rc := rc) (kd := 12) (R := 136) (at' := 0) (n := 64 * e) (n1 := 256) (tot := t2 + 1) (other := o3) (column := c3) (words := words) (cubes := cubes) (block := block) (f := noise) hT (by decide) (by decide) (by decide) (by decide) hlt3 e3 (by omega) (by decide) (by omega)
  rw [show kz_sf 12 = 31 from rfl] at p4 b4
  generalize nI (kz_gv rc 136 (kz_fin rc 136 31 V) (64 * e)).2 = pl at p4
  have hY : kz_Y (kz_gb rc 136 (kz_fin rc 136 31 V)) nz 0 (64 * e) := fun i _ hi => ⟨kz_gb_lt _ _ _ _, by rw [b4 i, if_pos ⟨by omega, by omega⟩, Nat.sub_zero]⟩
  obtain ⟨f', p5, b5⟩ := kz_rno37 (f1 := f) hY he
  refine ⟨pl, t2 + 1, s4, o4, c4, nz, f', ?_, b5⟩
  unfold kFX5_binomial
  refine (kb_o_v p1).trans ?_
  refine (kb_o_v p2).trans ?_
  refine (kb_o_v p3).trans ?_
  rw [show (64 : Int32) * nI e = nI (64 * e) from pk_mul _ _]
  refine (kb_o_v p4).trans ?_
  exact kb_o_v p5
theorem kz_rkem59 (f : Nat → Int32) : ∃ g, kb_w (fun u : Int32 × (Nat → Int32) => kSX5_kem_59 u.1 u.2) 100000 ((1 : Int32), upd f 0 (1 : Int32)) = some (nI 256, g) ∧ kz_pts g := by
  have key := kz_for (S := fun i g => kSX5_kem_59 i g) (g := upd f 0 (1 : Int32)) (fun k => nI (k + 1)) 255 (fun k g => ∀ n, n < k + 1 → g n = nI (17 ^ n % 3329)) (by decide) (fun k g hk hg => ⟨upd g (k + 1) (nI (17 ^ (k + 1) % 3329)), ?_, fun n hn => ?_⟩) (fun g _ => kb_b_tt (kz_le (n := 256) (Nat.le_refl _) (by decide))) (fun n hn => ?_)
  · obtain ⟨g, k1, k2⟩ := key
    exact ⟨g, k1, fun n hn => k2 n hn⟩
  · show kSX5_kem_59 (nI (k + 1)) g = _
    have hgk := hg k (by omega)
    have hq : 17 ^ k % 3329 < 3329 := Nat.mod_lt _ (by decide)
    unfold kSX5_kem_59
    rw [show nI (k + 1) - (1 : Int32) = nI k from nI_pred k, nI_clamp (show k < 2 ^ 31 by omega), nI_clamp (show k + 1 < 2 ^ 31 by omega)]
    refine (kb_b_ff (kz_nle (n := 256) (by omega) (by decide))).trans ?_
    refine (kb_g_tt (kb_in_n (by omega) (by decide))).trans ?_
    refine (kb_n_v (v := nI (17 ^ (k + 1) % 3329)) ?_).trans ?_
    · rw [hgk, show nI (17 ^ k % 3329) * (17 : Int32) = nI (17 ^ k % 3329 * 17) from pk_mul _ _, kz_rem (by omega), Nat.pow_succ, kz_mulmod (Nat.mod_mod _ _) rfl]
    refine (kb_g_tt (kb_in_n (by omega) (by decide))).trans ?_
    refine (kb_n_v rfl).trans ?_
    exact (kb_n_v (kz_inc _)).trans rfl
  · show upd g (k + 1) (nI (17 ^ (k + 1) % 3329)) n = _
    by_cases h : n = k + 1
    · subst h
      exact pk_us
    · rw [pk_un h]
      exact hg n (by omega)
  · have h0 : n = 0 := by omega
    subst h0
    exact pk_us
theorem kz_rkem {st : Nat} (hst : st < 3) (f : Nat → Int32) : ∃ g, kFX5_kem (nI st) f = some ((if st = 2 then (11 : Int32) else 10), (if st = 2 then (5 : Int32) else 4), (if st = 0 then (3 : Int32) else 2), nI (2 + st), g) ∧ kz_pts g := by
  obtain ⟨g, k1, k2⟩ := kz_rkem59 f
  refine ⟨g, ?_, k2⟩
  have hJ : ∀ (a b c d : Int32), kJX5_kem_47 a b c f d = some (c, d, b, a, g) := fun a b c d => by
    unfold kJX5_kem_47
    refine (kb_n_v (v := upd f 0 (1 : Int32)) rfl).trans ?_
    exact kb_o_v k1
  unfold kFX5_kem
  refine (kb_n_v (v := nI (2 + st)) (nI_add 2 st)).trans ?_
  rcases (show st = 0 ∨ st = 1 ∨ st = 2 by omega) with rfl | rfl | rfl
  · exact hJ _ _ _ _
  · exact hJ _ _ _ _
  · exact hJ _ _ _ _
theorem kz_move {f g : Nat → Int32} {a b n n1 n3 : Nat} (hf : ∀ k, k < n → vp_nar .byte (f (a + k)) = f (a + k)) (h1 : a + n ≤ n1) (h3 : b + n ≤ n3) (hn1 : n1 < 2 ^ 31) (hn3 : n3 < 2 ^ 31) (hn : n < 100000) : ∃ r, kFX5_move (nI a) (nI b) (nI n) n1 n3 f g = some r ∧ ∀ k, r k = if b ≤ k ∧ k < b + n then f (a + (k - b)) else g k := by
  have key := kz_for (S := fun i g => kSX5_move_3 (nI a) (nI b) (nI n) n1 n3 f i g) (g := g) nI n (fun i r => ∀ k, r k = if b ≤ k ∧ k < b + i then f (a + (k - b)) else g k) hn (fun i r hi hr => ⟨upd r (b + i) (f (a + i)), ?_, fun k => ?_⟩) (fun g _ => kb_b_tt (kz_le (n := n) (Nat.le_refl _) (by omega))) (fun k => by rw [if_neg (by omega)])
  · obtain ⟨r, k1, k2⟩ := key
    refine ⟨r, ?_, k2⟩
    unfold kFX5_move
    exact kb_o_v k1
  · show kSX5_move_3 (nI a) (nI b) (nI n) n1 n3 f (nI i) r = _
    unfold kSX5_move_3
    rw [nI_add a i, nI_add b i, nI_clamp (show a + i < 2 ^ 31 by omega), nI_clamp (show b + i < 2 ^ 31 by omega), hf i hi]
    refine (kb_b_ff (kz_nle hi (by omega))).trans ?_
    refine (kb_g_tt (kb_in_n (by omega) hn1)).trans ?_
    refine (kb_g_tt (kb_in_n (by omega) hn3)).trans ?_
    refine (kb_n_v rfl).trans ?_
    exact (kb_n_v (kz_inc _)).trans rfl
  · show upd r (b + i) (f (a + i)) k = _
    by_cases e : k = b + i
    · subst e
      rw [pk_us, if_pos ⟨by omega, by omega⟩, show b + i - b = i by omega]
    · rw [pk_un e, hr k]
      by_cases e2 : b ≤ k ∧ k < b + i
      · rw [if_pos e2, if_pos ⟨e2.1, by omega⟩]
      · rw [if_neg e2, if_neg (by omega)]
theorem kz_alike {f g : Nat → Int32} {a b n n1 n3 : Nat} (h1 : a + n ≤ n1) (h3 : b + n ≤ n3) (hn1 : n1 < 2 ^ 31) (hn3 : n3 < 2 ^ 31) (hn : n < 100000) : ∃ x : Int32, kFX5_alike (nI a) (nI b) (nI n) n1 n3 f g = some x ∧ ((x = 1 ∧ ∀ k, k < n → f (a + k) = g (b + k)) ∨ (x = 0 ∧ ¬ ∀ k, k < n → f (a + k) = g (b + k))) := by
  obtain ⟨⟨x, y⟩, k1, k2⟩ : ∃ r, kb_w (fun u : Int32 × Int32 => kSX5_alike_6 (nI a) (nI b) (nI n) n1 n3 f g u.1 u.2) 100000 ((1 : Int32), (0 : Int32)) = some r ∧ ((r.1 = 1 ∧ ∀ k, k < n → f (a + k) = g (b + k)) ∨ (r.1 = 0 ∧ ¬ ∀ k, k < n → f (a + k) = g (b + k))) := by
    refine kb_w_inv (σ := Int32 × Int32) (ρ := Int32 × Int32) (fun i u => u.2 = nI i ∧ ((u.1 = 1 ∧ ∀ k, k < i → f (a + k) = g (b + k)) ∨ (u.1 = 0 ∧ ¬ ∀ k, k < i → f (a + k) = g (b + k)))) (fun r => ((r.1 = 1 ∧ ∀ k, k < n → f (a + k) = g (b + k)) ∨ (r.1 = 0 ∧ ¬ ∀ k, k < n → f (a + k) = g (b + k)))) n ?_ ?_ n 0 _ 100000 (by omega) hn ⟨rfl, Or.inl ⟨rfl, fun k hk => absurd hk (by omega)⟩⟩
    · rintro i ⟨x, y⟩ hi ⟨h2, h⟩
      replace h2 : y = nI i := h2
      subst h2
      by_cases e : f (a + i) = g (b + i)
      · refine ⟨(x, nI (i + 1)), ?_, rfl, ?_⟩
        · show kSX5_alike_6 (nI a) (nI b) (nI n) n1 n3 f g x (nI i) = _
          unfold kSX5_alike_6
          rw [nI_add a i, nI_add b i, nI_clamp (show a + i < 2 ^ 31 by omega), nI_clamp (show b + i < 2 ^ 31 by omega)]
          refine (kb_b_ff (kz_nle hi (by omega))).trans ?_
          refine (kb_g_tt (kb_in_n (by omega) hn1)).trans ?_
          refine (kb_g_tt (kb_in_n (by omega) hn3)).trans ?_
          refine (kb_b_tt (decide_eq_true e)).trans ?_
          exact (kb_n_v (kz_inc _)).trans rfl
        · rcases h with ⟨h, hh⟩ | ⟨h, hh⟩
          · refine Or.inl ⟨h, fun k hk => ?_⟩
            by_cases ek : k = i
            · subst ek; exact e
            · exact hh k (by omega)
          · exact Or.inr ⟨h, fun z => hh (fun k hk => z k (by omega))⟩
      · refine ⟨((0 : Int32), nI (i + 1)), ?_, rfl, Or.inr ⟨rfl, fun z => e (z i (by omega))⟩⟩
        show kSX5_alike_6 (nI a) (nI b) (nI n) n1 n3 f g x (nI i) = _
        unfold kSX5_alike_6
        rw [nI_add a i, nI_add b i, nI_clamp (show a + i < 2 ^ 31 by omega), nI_clamp (show b + i < 2 ^ 31 by omega)]
        refine (kb_b_ff (kz_nle hi (by omega))).trans ?_
        refine (kb_g_tt (kb_in_n (by omega) hn1)).trans ?_
        refine (kb_g_tt (kb_in_n (by omega) hn3)).trans ?_
        refine (kb_b_ff (decide_eq_false e)).trans ?_
        exact (kb_n_v (kz_inc _)).trans rfl
    · rintro ⟨x, y⟩ ⟨h2, h⟩
      replace h2 : y = nI n := h2
      subst h2
      refine ⟨(x, nI n), ?_, h⟩
      show kSX5_alike_6 (nI a) (nI b) (nI n) n1 n3 f g x (nI n) = _
      unfold kSX5_alike_6
      exact kb_b_tt (kz_le (Nat.le_refl _) (by omega))
  refine ⟨x, ?_, k2⟩
  unfold kFX5_alike
  refine (kb_o_v k1).trans ?_
  refine kb_g_tt ?_
  rcases k2 with ⟨h, -⟩ | ⟨h, -⟩
  · replace h : x = 1 := h
    subst h
    exact (by decide : kb_z (1 : Int32) = true)
  · replace h : x = 0 := h
    subst h
    exact (by decide : kb_z (0 : Int32) = true)
theorem kz_or0 {x y z : Int32} : x ||| (y ^^^ z) = 0 ↔ x = 0 ∧ y = z := by
  constructor
  · intro h
    have h1 : (x ||| (y ^^^ z)).toBitVec = (0 : Int32).toBitVec := congrArg Int32.toBitVec h
    rw [Int32.toBitVec_or, Int32.toBitVec_xor] at h1
    have h2 : ∀ i : Nat, (x.toBitVec ||| (y.toBitVec ^^^ z.toBitVec)).getLsbD i = false := fun i => by rw [h1]; exact BitVec.getLsbD_zero
    constructor
    · apply Int32.toBitVec_inj.1
      apply BitVec.eq_of_getLsbD_eq
      intro i hi
      have h3 := h2 i
      rw [BitVec.getLsbD_or, BitVec.getLsbD_xor, Bool.or_eq_false_iff] at h3
      rw [h3.1]
      exact (BitVec.getLsbD_zero).symm
    · apply Int32.toBitVec_inj.1
      apply BitVec.eq_of_getLsbD_eq
      intro i hi
      have h3 := h2 i
      rw [BitVec.getLsbD_or, BitVec.getLsbD_xor, Bool.or_eq_false_iff] at h3
      cases hy : y.toBitVec.getLsbD i <;> cases hz : z.toBitVec.getLsbD i <;> simp [hy, hz] at h3 ⊢
  · rintro ⟨rfl, rfl⟩
    apply Int32.toBitVec_inj.1
    rw [Int32.toBitVec_or, Int32.toBitVec_xor]
    apply BitVec.eq_of_getLsbD_eq
    intro i hi
    rw [BitVec.getLsbD_or, BitVec.getLsbD_xor, Bool.xor_self, Bool.or_false]
theorem kz_startAlike {f g : Nat → Int32} {a n n1 n3 : Nat} (h1 : a + n ≤ n1) (h3 : n ≤ n3) (hn1 : n1 < 2 ^ 31) (hn3 : n3 < 2 ^ 31) (hn : n < 100000) : ∃ x : Int32, kFX0_startAlike (nI a) (nI n) n1 n3 f g = some x ∧ ((x = 1 ∧ ∀ k, k < n → f (a + k) = g k) ∨ (x = 0 ∧ ¬ ∀ k, k < n → f (a + k) = g k)) := by
  obtain ⟨⟨x, y⟩, k1, k2⟩ : ∃ r, kb_w (fun u : Int32 × Int32 => kSX0_startAlike_6 (nI a) (nI n) n1 n3 f g u.1 u.2) 100000 ((0 : Int32), (0 : Int32)) = some r ∧ (r.1 = 0 ↔ ∀ k, k < n → f (a + k) = g k) := by
    refine kb_w_inv (σ := Int32 × Int32) (ρ := Int32 × Int32) (fun i u => u.2 = nI i ∧ (u.1 = 0 ↔ ∀ k, k < i → f (a + k) = g k)) (fun r => (r.1 = 0 ↔ ∀ k, k < n → f (a + k) = g k)) n ?_ ?_ n 0 _ 100000 (by omega) hn ⟨rfl, ⟨fun _ k hk => absurd hk (by omega), fun _ => rfl⟩⟩
    · rintro i ⟨x, y⟩ hi ⟨h2, h⟩
      replace h2 : y = nI i := h2
      replace h : x = 0 ↔ ∀ k, k < i → f (a + k) = g k := h
      subst h2
      refine ⟨(x ||| (f (a + i) ^^^ g i), nI (i + 1)), ?_, rfl, ?_⟩
      · show kSX0_startAlike_6 (nI a) (nI n) n1 n3 f g x (nI i) = _
        unfold kSX0_startAlike_6
        rw [nI_add a i, nI_clamp (show a + i < 2 ^ 31 by omega), nI_clamp (show i < 2 ^ 31 by omega)]
        refine (kb_b_ff (kz_nle hi (by omega))).trans ?_
        refine (kb_g_tt (kb_in_n (by omega) hn1)).trans ?_
        refine (kb_g_tt (kb_in_n (by omega) hn3)).trans ?_
        refine (kb_n_v rfl).trans ?_
        exact (kb_n_v (kz_inc _)).trans rfl
      · show x ||| (f (a + i) ^^^ g i) = 0 ↔ ∀ k, k < i + 1 → f (a + k) = g k
        rw [kz_or0, h]
        constructor
        · rintro ⟨e1, e2⟩ k hk
          by_cases ek : k = i
          · subst ek
            exact e2
          · exact e1 k (by omega)
        · intro e1
          exact ⟨fun k hk => e1 k (by omega), e1 i (by omega)⟩
    · rintro ⟨x, y⟩ ⟨h2, h⟩
      replace h2 : y = nI n := h2
      subst h2
      refine ⟨(x, nI n), ?_, h⟩
      show kSX0_startAlike_6 (nI a) (nI n) n1 n3 f g x (nI n) = _
      unfold kSX0_startAlike_6
      exact kb_b_tt (kz_le (Nat.le_refl _) (by omega))
  replace k2 : x = 0 ↔ ∀ k, k < n → f (a + k) = g k := k2
  by_cases h : x = 0
  · refine ⟨1, ?_, Or.inl ⟨rfl, k2.1 h⟩⟩
    unfold kFX0_startAlike
    refine (kb_o_v k1).trans ?_
    exact kb_b_tt (decide_eq_true h)
  · refine ⟨0, ?_, Or.inr ⟨rfl, fun z => h (k2.2 z)⟩⟩
    unfold kFX0_startAlike
    refine (kb_o_v k1).trans ?_
    exact kb_b_ff (decide_eq_false h)
/-! Layer 2: the class's KEYS, ENCRYPT and what is beneath them. -/
theorem kz_numS (K : Nat) : kFX3_numbersSize (nI K) = some (nI (384 * K)) := congrArg some (pk_mul 384 K)
theorem kz_pubS (K : Nat) : kFX3_publicSize (nI K) = some (nI (384 * K + 32)) := (kb_o_v (kz_numS K)).trans (congrArg some (nI_add (384 * K) 32))
theorem kz_hashP (K : Nat) : kFX3_hashPlace (nI K) = some (nI (768 * K + 32)) := by
  unfold kFX3_hashPlace
  refine (kb_o_v (kz_numS K)).trans ?_
  refine (kb_o_v (kz_pubS K)).trans ?_
  dsimp only
  rw [nI_add]
  exact congrArg (fun x => some (nI x)) (by omega)
theorem kz_secS (K : Nat) : kFX3_secretSize (nI K) = some (nI (768 * K + 96)) := (kb_o_v (kz_hashP K)).trans (congrArg some (nI_add (768 * K + 32) 64))
theorem kz_vpS (d : Nat) : kFX3_vectorPartSize (nI d) = some (nI (32 * d)) := congrArg some (pk_mul 32 d)
theorem kz_scP (K d : Nat) : kFX3_scalarPlace (nI K) (nI d) = some (nI (32 * d * K)) := (kb_o_v (kz_vpS d)).trans (congrArg some (pk_mul (32 * d) K))
theorem kz_pkS (K du dv : Nat) : kFX3_packetSize (nI K) (nI du) (nI dv) = some (nI (32 * du * K + 32 * dv)) := by
  unfold kFX3_packetSize
  refine (kb_o_v (kz_scP K du)).trans ?_
  dsimp only
  rw [show (32 : Int32) * nI dv = nI (32 * dv) from pk_mul _ _, nI_add]
theorem kz_ij {i i' j j' K : Nat} (h : i' < i) (hj : j' < K) : i' * K + j' < i * K + j := by
  have h1 := Nat.mul_le_mul_right K (show i' + 1 ≤ i from h)
  rw [Nat.add_mul, Nat.one_mul] at h1
  omega
theorem kz_ij16 {i j K : Nat} (hK : K ≤ 4) (hi : i < K) (hj : j < K) : i * K + j < 16 := by
  have h1 : i * K ≤ 3 * 4 := Nat.mul_le_mul (by omega) hK
  by_cases h : i = 3
  · omega
  · have h2 : i * K ≤ 2 * 4 := Nat.mul_le_mul (by omega) hK
    omega
abbrev kz_pows (P : Nat → Int32) : Prop := ∀ i, i < 128 → kz_pw i < 3329 ∧ P i = nI (kz_pw i)
theorem kz_fillNoiseV {rc lanes moved columns : Nat → Int64} {turns targets counters nbytes seeds f s : Nat → Int32} {e b : Nat} (hT : kz_tab turns targets) (he : e ∈ [2, 3]) (hb : b < 128) (hs : ∀ k, k < 32 → seeds (32 + k) = s k) :
    ∃ pl l' m' c' ct' nb' f', kFX1_fillWithNoise (nI e) (nI b) 256 lanes moved columns turns targets rc counters nbytes seeds f = some (pl, (136 : Int32), l', m', c', ct', nb', f') ∧ kz_R (kz_np rc s e b) f' := by
  obtain ⟨pl, l, m, c, ct, nb, f', h1, h2⟩ := kz_fillNoise (rc := rc) (lanes := lanes) (moved := moved) (columns := columns) (counters := counters) (nbytes := nbytes) (seeds := seeds) (f := f) (b := b) hT he hb
  rw [kz_np_c hs] at h2
  exact ⟨pl, l, m, c, ct, nb, f', h1, h2⟩
theorem kz_fillVector {rc lanes moved columns : Nat → Int64} {turns targets powers counters nbytes seeds s : Nat → Int32} {K e : Nat} {rt pl : Int32} {V : Nat → Nat → Int32} (hT : kz_tab turns targets) (hP : kz_pows powers) (hK : K ≤ 4) (he : e ∈ [2, 3]) (hs : ∀ k, k < 32 → seeds (32 + k) = s k) :
    ∃ pl' rt' l m c ct nb V', kFX1_fillVector rt pl lanes moved columns turns targets rc powers counters nbytes seeds (nI K) (nI e) V = some (pl', rt', l, m, c, ct, nb, V') ∧ ∀ i, i < K → kz_R (kz_vec rc s e i) (V' i) := by
  have key := kz_for (G := (Nat → Int32) × (Nat → Int32) × Int32 × Int32 × (Nat → Int64) × (Nat → Int64) × (Nat → Int64) × (Nat → Nat → Int32)) (S := fun i g => kSX1_fillVector_2 turns targets rc powers seeds (nI K) (nI e) i g.1 g.2.1 g.2.2.1 g.2.2.2.1 g.2.2.2.2.1 g.2.2.2.2.2.1 g.2.2.2.2.2.2.1 g.2.2.2.2.2.2.2) (g := (counters, nbytes, pl, rt, columns, lanes, moved, V)) nI K (fun i g => ∀ i', i' < i → kz_R (kz_vec rc s e i') (g.2.2.2.2.2.2.2 i')) (by omega) ?_ ?_ ?_
  · obtain ⟨⟨ct, nb, pl', rt', c', l', m', V'⟩, k1, k2⟩ := key
    refine ⟨pl', rt', l', m', c', ct, nb, V', ?_, k2⟩
    unfold kFX1_fillVector
    exact kb_o_v k1
  · rintro i ⟨ct, nb, pl, rt, c, l, m, V⟩ hi h
    obtain ⟨pl1, l1, m1, c1, ct1, nb1, f1, p1, e1⟩ := kz_fillNoiseV (rc := rc) (lanes := l) (moved := m) (columns := c) (counters := ct) (nbytes := nb) (f := V i) (b := i) hT he (by omega) hs
    obtain ⟨f2, p2, e2⟩ := kz_transform e1 hP
    refine ⟨(ct1, nb1, pl1, (136 : Int32), c1, l1, m1, va_up (va_up V i f1) i f2), ?_, fun i' hi' => ?_⟩
    · show kSX1_fillVector_2 turns targets rc powers seeds (nI K) (nI e) (nI i) ct nb pl rt c l m V = _
      unfold kSX1_fillVector_2
      rw [nI_clamp (show i < 2 ^ 31 by omega)]
      refine (kb_b_ff (kz_nle hi (by omega))).trans ?_
      refine (kb_g_tt (kb_in_n (by omega) (by decide))).trans ?_
      refine (kb_o_v p1).trans ?_
      refine (kb_n_v (v := va_up V i f1) rfl).trans ?_
      refine (kb_g_tt (kb_in_n (by omega) (by decide))).trans ?_
      dsimp only
      rw [va_up_self]
      refine (kb_o_v p2).trans ?_
      refine (kb_n_v (v := va_up (va_up V i f1) i f2) rfl).trans ?_
      exact (kb_n_v (kz_inc _)).trans rfl
    · show kz_R _ (va_up (va_up V i f1) i f2 i')
      by_cases e9 : i' = i
      · subst e9
        rw [va_up_self]
        exact e2
      · rw [va_up_ne _ _ e9, va_up_ne _ _ e9]
        exact h i' (by omega)
  · rintro ⟨ct, nb, pl, rt, c, l, m, V⟩ h
    exact kb_b_tt (kz_le (Nat.le_refl _) (by omega))
  · intro i' h
    exact absurd h (by omega)
-- ===== the matrix
theorem kz_sM12 {rc lanes moved columns : Nat → Int64} {turns targets f v ct0 three0 : Nat → Int32} {K i at' n2 : Nat} {M0 : Nat → Nat → Int32} {pl rt : Int32} (hT : kz_tab turns targets) (hK : K ≤ 4) (hi : i < K) (hv : ∀ k, k < 32 → f (at' + k) = v k) (hn : at' + 32 ≤ n2) (hn2 : n2 < 2 ^ 31) (hM : ∀ i' j', i' < i → j' < K → kz_R (kz_smp rc v j' i').2 (M0 (i' * K + j'))) :
    ∃ r, kb_w (fun u : Int32 × (Nat → Int32) × (Nat → Nat → Int32) × Int32 × Int32 × (Nat → Int64) × (Nat → Int64) × (Nat → Int64) × (Nat → Int32) => kSX1_sampleMatrix_12 (nI K) (nI at') (nI i) n2 turns targets rc f u.1 u.2.1 u.2.2.1 u.2.2.2.1 u.2.2.2.2.1 u.2.2.2.2.2.1 u.2.2.2.2.2.2.1 u.2.2.2.2.2.2.2.1 u.2.2.2.2.2.2.2.2) 6 ((0 : Int32), ct0, M0, pl, rt, columns, lanes, moved, three0) = some r ∧
      ((∃ s, r = .inl s ∧ (∀ j', j' < K → ¬ (kz_smp rc v j' i).1 < 256) ∧ ∀ i' j', i' < i + 1 → j' < K → kz_R (kz_smp rc v j' i').2 (s.2.2.1 (i' * K + j'))) ∨ ((∃ j', j' < K ∧ (kz_smp rc v j' i).1 < 256) ∧ ∃ x, r = .inr ("java/lang/ArithmeticException", x))) := by
  refine kb_w_ex (σ := Int32 × (Nat → Int32) × (Nat → Nat → Int32) × Int32 × Int32 × (Nat → Int64) × (Nat → Int64) × (Nat → Int64) × (Nat → Int32)) (ρ := (Int32 × (Nat → Int32) × (Nat → Nat → Int32) × Int32 × Int32 × (Nat → Int64) × (Nat → Int64) × (Nat → Int64) × (Nat → Int32)) ⊕ (String × (Int32 × Int32 × (Nat → Int64) × (Nat → Int64) × (Nat → Int64) × (Nat → Int32) × (Nat → Int32) × (Nat → Nat → Int32)))) (fun j u => u.1 = nI j ∧ (∀ j', j' < j → ¬ (kz_smp rc v j' i).1 < 256 ∧ kz_R (kz_smp rc v j' i).2 (u.2.2.1 (i * K + j'))) ∧ ∀ i' j', i' < i → j' < K → kz_R (kz_smp rc v j' i').2 (u.2.2.1 (i' * K + j'))) (fun r => (∃ s, r = .inl s ∧ (∀ j', j' < K → ¬ (kz_smp rc v j' i).1 < 256) ∧ ∀ i' j', i' < i + 1 → j' < K → kz_R (kz_smp rc v j' i').2 (s.2.2.1 (i' * K + j'))) ∨ ((∃ j', j' < K ∧ (kz_smp rc v j' i).1 < 256) ∧ ∃ x, r = .inr ("java/lang/ArithmeticException", x))) K ?_ ?_ K 0 _ 6 (by omega) (by omega) ⟨rfl, fun j' h => absurd h (by omega), hM⟩
  · rintro j ⟨x, ct, M, pl, rt, c, l, m, th⟩ hj ⟨h1, h2, h3⟩
    replace h1 : x = nI j := h1
    subst h1
    obtain ⟨l1, p1, e1⟩ := kz_start l (168 : Int32)
    obtain ⟨l2, m2, c2, p2, e2⟩ := kz_take (rc := rc) (moved := m) (columns := c) (f := f) (R := 168) (at' := at') (n := 32) (n1 := n2) (u := kz_z) hT (by decide) (by decide) (by decide) e1 hn hn2 (by decide)
    rw [kz_ab_c hv] at p2 e2
    have hlt := kz_ab_lt (rc := rc) (R := 168) (v := v) (u := kz_z) (by decide) (by decide) 32
    have hsu : kz_smp rc v j i = kz_sm (kz_gb rc 168 (kz_fin rc 168 31 (kz_ab1 rc 168 (nI i) (kz_ab1 rc 168 (nI j) (kz_ab rc 168 v kz_z 32))))) 280 := rfl
    generalize kz_ab rc 168 v kz_z 32 = U at p2 e2 hlt hsu
    obtain ⟨l3, m3, c3, p3, e3⟩ := kz_take (rc := rc) (moved := m2) (columns := c2) (f := upd (upd ct 0 (nI j)) 1 (nI i)) (R := 168) (at' := 0) (n := 2) (n1 := 2) hT (by decide) (by decide) hlt e2 (by decide) (by decide) (by decide)
    have h12 : kz_ab rc 168 (fun k => upd (upd ct 0 (nI j)) 1 (nI i) (0 + k)) U 2 = kz_ab1 rc 168 (nI i) (kz_ab1 rc 168 (nI j) U) := by
      show kz_ab1 rc 168 (upd (upd ct 0 (nI j)) 1 (nI i) 1) (kz_ab1 rc 168 (upd (upd ct 0 (nI j)) 1 (nI i) 0) U) = _
      rw [pk_us, pk_un (by decide), pk_us]
    rw [h12] at p3 e3
    have hlt3 := kz_ab1_lt (rc := rc) (v := nI i) (by decide) (kz_ab1_lt (rc := rc) (v := nI j) (by decide) hlt)
    generalize kz_ab1 rc 168 (nI i) (kz_ab1 rc 168 (nI j) U) = V at p3 e3 hlt3 hsu
    obtain ⟨l4, m4, c4, p4, e4⟩ := kz_finish (rc := rc) (moved := m3) (columns := c3) (sf := 31) hT (by decide) (by decide) hlt3 e3
    obtain ⟨pl5, l5, m5, c5, th5, f5, p5, e5⟩ := kz_sample (rc := rc) (moved := m4) (columns := c4) (three := th) (f := M (i * K + j)) (R := 168) (u := kz_fin rc 168 31 V) hT (by decide) (by decide) (by rw [kz_fin0]; decide) e4
    rw [kz_fin0, ← hsu] at p5
    rw [← hsu] at e5
    have hij := kz_ij16 hK hi hj
    have hid : nI i * nI K + nI j = nI (i * K + j) := by rw [pk_mul, nI_add]
    by_cases hc : (kz_smp rc v j i).1 < 256
    · rw [if_pos hc] at p5
      refine Or.inr ⟨.inr ("java/lang/ArithmeticException", (pl5, nI 168, l5, m5, c5, upd (upd ct 0 (nI j)) 1 (nI i), th5, va_up M (i * K + j) f5)), ?_, Or.inr ⟨⟨j, hj, hc⟩, _, rfl⟩⟩
      show kSX1_sampleMatrix_12 (nI K) (nI at') (nI i) n2 turns targets rc f (nI j) ct M pl rt c l m th = _
      unfold kSX1_sampleMatrix_12
      rw [hid, nI_clamp (show i * K + j < 2 ^ 31 by omega)]
      refine (kb_b_ff (kz_nle hj (by omega))).trans ?_
      refine (kb_o_v p1).trans ?_
      refine (kb_o_v p2).trans ?_
      refine (kb_n_v (v := upd ct 0 (nI j)) ?_).trans ?_
      · rw [pk_vb, show (nI j).toInt8.toInt32 = nI j from kz_by_s j (by omega)]
        rfl
      refine (kb_n_v (v := upd (upd ct 0 (nI j)) 1 (nI i)) ?_).trans ?_
      · rw [pk_vb, show (nI i).toInt8.toInt32 = nI i from kz_by_s i (by omega)]
        rfl
      refine (kb_o_v p3).trans ?_
      refine (kb_o_v p4).trans ?_
      refine (kb_g_tt (kb_in_n hij (by decide))).trans ?_
      exact (kb_o_v p5).trans rfl
    · rw [if_neg hc] at p5
      refine Or.inl ⟨(nI (j + 1), upd (upd ct 0 (nI j)) 1 (nI i), va_up M (i * K + j) f5, pl5, nI 168, c5, l5, m5, th5), ?_, rfl, ?_, ?_⟩
      · show kSX1_sampleMatrix_12 (nI K) (nI at') (nI i) n2 turns targets rc f (nI j) ct M pl rt c l m th = _
        unfold kSX1_sampleMatrix_12
        rw [hid, nI_clamp (show i * K + j < 2 ^ 31 by omega)]
        refine (kb_b_ff (kz_nle hj (by omega))).trans ?_
        refine (kb_o_v p1).trans ?_
        refine (kb_o_v p2).trans ?_
        refine (kb_n_v (v := upd ct 0 (nI j)) ?_).trans ?_
        · rw [pk_vb, show (nI j).toInt8.toInt32 = nI j from kz_by_s j (by omega)]
          rfl
        refine (kb_n_v (v := upd (upd ct 0 (nI j)) 1 (nI i)) ?_).trans ?_
        · rw [pk_vb, show (nI i).toInt8.toInt32 = nI i from kz_by_s i (by omega)]
          rfl
        refine (kb_o_v p3).trans ?_
        refine (kb_o_v p4).trans ?_
        refine (kb_g_tt (kb_in_n hij (by decide))).trans ?_
        refine (kb_o_v p5).trans ?_
        refine kz_il ?_
        refine (kb_n_v (v := va_up M (i * K + j) f5) rfl).trans ?_
        exact (kb_n_v (kz_inc _)).trans rfl
      · intro j' hj'
        show ¬ (kz_smp rc v j' i).1 < 256 ∧ kz_R _ (va_up M (i * K + j) f5 (i * K + j'))
        by_cases e9 : j' = j
        · subst e9
          rw [va_up_self]
          exact ⟨hc, kz_Rn_R hc e5⟩
        · rw [va_up_ne _ _ (by omega)]
          exact h2 j' (by omega)
      · intro i' j' hi' hj'
        show kz_R _ (va_up M (i * K + j) f5 (i' * K + j'))
        rw [va_up_ne _ _ (Nat.ne_of_lt (kz_ij hi' hj'))]
        exact h3 i' j' hi' hj'
  · rintro ⟨x, ct, M, pl, rt, c, l, m, th⟩ ⟨h1, h2, h3⟩
    replace h1 : x = nI K := h1
    subst h1
    refine ⟨.inl (nI K, ct, M, pl, rt, c, l, m, th), kb_b_tt (kz_le (Nat.le_refl _) (by omega)), Or.inl ⟨_, rfl, fun j' hj' => (h2 j' hj').1, fun i' j' hi' hj' => ?_⟩⟩
    show kz_R _ (M (i' * K + j'))
    by_cases e9 : i' = i
    · subst e9
      exact (h2 j' hj').2
    · exact h3 i' j' (by omega) hj'
theorem kz_sampleMatrix {rc lanes moved columns : Nat → Int64} {turns targets f v counters three : Nat → Int32} {K at' n2 : Nat} {M0 : Nat → Nat → Int32} {pl rt : Int32} (hT : kz_tab turns targets) (hK : K ≤ 4) (hv : ∀ k, k < 32 → f (at' + k) = v k) (hn : at' + 32 ≤ n2) (hn2 : n2 < 2 ^ 31) :
    ∃ r, kFX1_sampleMatrix (nI K) (nI at') n2 rt pl lanes moved columns turns targets rc counters three f M0 = some r ∧
      ((∃ s, r = .inl s ∧ (∀ i j, i < K → j < K → ¬ (kz_smp rc v j i).1 < 256) ∧ ∀ i j, i < K → j < K → kz_R (kz_smp rc v j i).2 (s.2.2.2.2.2.2.2 (i * K + j))) ∨ ((∃ i j, i < K ∧ j < K ∧ (kz_smp rc v j i).1 < 256) ∧ ∃ x, r = .inr ("java/lang/ArithmeticException", x))) := by
  obtain ⟨r, k1, k2⟩ : ∃ r, kb_w (fun u : Int32 × (Nat → Int32) × (Nat → Nat → Int32) × Int32 × Int32 × (Nat → Int64) × (Nat → Int64) × (Nat → Int64) × (Nat → Int32) => kSX1_sampleMatrix_3 (nI K) (nI at') n2 turns targets rc f u.1 u.2.1 u.2.2.1 u.2.2.2.1 u.2.2.2.2.1 u.2.2.2.2.2.1 u.2.2.2.2.2.2.1 u.2.2.2.2.2.2.2.1 u.2.2.2.2.2.2.2.2) 6 ((0 : Int32), counters, M0, pl, rt, columns, lanes, moved, three) = some r ∧
      ((∃ s, r = .inl s ∧ (∀ i j, i < K → j < K → ¬ (kz_smp rc v j i).1 < 256) ∧ ∀ i j, i < K → j < K → kz_R (kz_smp rc v j i).2 (s.2.2.1 (i * K + j))) ∨ ((∃ i j, i < K ∧ j < K ∧ (kz_smp rc v j i).1 < 256) ∧ ∃ x, r = .inr ("java/lang/ArithmeticException", x))) := by
    refine kb_w_ex (σ := Int32 × (Nat → Int32) × (Nat → Nat → Int32) × Int32 × Int32 × (Nat → Int64) × (Nat → Int64) × (Nat → Int64) × (Nat → Int32)) (ρ := (Int32 × (Nat → Int32) × (Nat → Nat → Int32) × Int32 × Int32 × (Nat → Int64) × (Nat → Int64) × (Nat → Int64) × (Nat → Int32)) ⊕ (String × (Int32 × Int32 × (Nat → Int64) × (Nat → Int64) × (Nat → Int64) × (Nat → Int32) × (Nat → Int32) × (Nat → Nat → Int32)))) (fun i u => u.1 = nI i ∧ (∀ i' j', i' < i → j' < K → ¬ (kz_smp rc v j' i').1 < 256) ∧ ∀ i' j', i' < i → j' < K → kz_R (kz_smp rc v j' i').2 (u.2.2.1 (i' * K + j'))) (fun r => (∃ s, r = .inl s ∧ (∀ i j, i < K → j < K → ¬ (kz_smp rc v j i).1 < 256) ∧ ∀ i j, i < K → j < K → kz_R (kz_smp rc v j i).2 (s.2.2.1 (i * K + j))) ∨ ((∃ i j, i < K ∧ j < K ∧ (kz_smp rc v j i).1 < 256) ∧ ∃ x, r = .inr ("java/lang/ArithmeticException", x))) K ?_ ?_ K 0 _ 6 (by omega) (by omega) ⟨rfl, fun i' j' h => absurd h (by omega), fun i' j' h => absurd h (by omega)⟩
    · rintro i ⟨x, ct, M, pl, rt, c, l, m, th⟩ hi ⟨h1, h2, h3⟩
      replace h1 : x = nI i := h1
      subst h1
      obtain ⟨r, k1, k2⟩ := kz_sM12 (rc := rc) (lanes := l) (moved := m) (columns := c) (ct0 := ct) (three0 := th) (M0 := M) (pl := pl) (rt := rt) hT hK hi hv hn hn2 h3
      rcases k2 with ⟨⟨x', ct', M', pl', rt', c', l', m', th'⟩, rfl, k3, k4⟩ | ⟨⟨j, hj, hc⟩, x, rfl⟩
      · refine Or.inl ⟨(nI (i + 1), ct', M', pl', rt', c', l', m', th'), ?_, rfl, fun i' j' hi' hj' => ?_, k4⟩
        · show kSX1_sampleMatrix_3 (nI K) (nI at') n2 turns targets rc f (nI i) ct M pl rt c l m th = _
          unfold kSX1_sampleMatrix_3
          refine (kb_b_ff (kz_nle hi (by omega))).trans ?_
          refine (kb_o_v k1).trans ?_
          refine kz_il ?_
          exact (kb_n_v (kz_inc _)).trans rfl
        · by_cases e9 : i' = i
          · subst e9
            exact k3 j' hj'
          · exact h2 i' j' (by omega) hj'
      · refine Or.inr ⟨.inr ("java/lang/ArithmeticException", x), ?_, Or.inr ⟨⟨i, j, hi, hj, hc⟩, x, rfl⟩⟩
        show kSX1_sampleMatrix_3 (nI K) (nI at') n2 turns targets rc f (nI i) ct M pl rt c l m th = _
        unfold kSX1_sampleMatrix_3
        refine (kb_b_ff (kz_nle hi (by omega))).trans ?_
        exact (kb_o_v k1).trans rfl
    · rintro ⟨x, ct, M, pl, rt, c, l, m, th⟩ ⟨h1, h2, h3⟩
      replace h1 : x = nI K := h1
      subst h1
      exact ⟨.inl (nI K, ct, M, pl, rt, c, l, m, th), kb_b_tt (kz_le (Nat.le_refl _) (by omega)), Or.inl ⟨_, rfl, h2, h3⟩⟩
  rcases k2 with ⟨⟨x', ct', M', pl', rt', c', l', m', th'⟩, rfl, k3, k4⟩ | ⟨hh, x, rfl⟩
  · refine ⟨.inl (pl', rt', l', m', c', ct', th', M'), ?_, Or.inl ⟨_, rfl, k3, k4⟩⟩
    unfold kFX1_sampleMatrix
    exact (kb_o_v k1).trans rfl
  · refine ⟨.inr ("java/lang/ArithmeticException", x), ?_, Or.inr ⟨hh, x, rfl⟩⟩
    unfold kFX1_sampleMatrix
    exact (kb_o_v k1).trans rfl
-- ===== ENCRYPT
theorem kz_eV15 {powers f : Nat → Int32} {M V : Nat → Nat → Int32} {A S : Nat → Nat → Nat} {s0 : Nat → Nat} {K i : Nat} (hP : kz_pows powers) (hK : K ≤ 4) (hi : i < K) (hM : ∀ j, j < K → kz_R (A j) (M (j * K + i))) (hV : ∀ j, j < K → kz_R (S j) (V j)) (hf : kz_R s0 f) :
    ∃ g, kb_w (fun u : Int32 × (Nat → Int32) => kSX1_encryptVectorPart_15 (nI i) (nI K) powers M V u.1 u.2) 100000 ((0 : Int32), f) = some (nI K, g) ∧ kz_R (kz_acc s0 A S K) g := by
  have key := kz_for (S := fun x g => kSX1_encryptVectorPart_15 (nI i) (nI K) powers M V x g) (g := f) nI K (fun j g => kz_R (kz_acc s0 A S j) g) (by omega) (fun j g hj h => ?_) (fun g h => kb_b_tt (kz_le (Nat.le_refl _) (by omega))) hf
  · exact key
  · obtain ⟨r, p1, e1⟩ := kz_addProduct hP h (hM j hj) (hV j hj)
    refine ⟨r, ?_, e1⟩
    show kSX1_encryptVectorPart_15 (nI i) (nI K) powers M V (nI j) g = _
    have hij := kz_ij16 hK hj hi
    unfold kSX1_encryptVectorPart_15
    rw [pk_mul, nI_add, nI_clamp (show j * K + i < 2 ^ 31 by omega), nI_clamp (show j < 2 ^ 31 by omega)]
    refine (kb_b_ff (kz_nle hj (by omega))).trans ?_
    refine (kb_g_tt (kb_in_n hij (by decide))).trans ?_
    refine (kb_g_tt (kb_in_n (by omega) (by decide))).trans ?_
    refine (kb_o_v p1).trans ?_
    exact (kb_n_v (kz_inc _)).trans rfl
/-- one of the polynomials U of ENCRYPT, not yet compressed -/
def kz_eU (rc : Nat → Int64) (v s : Nat → Int32) (K e i c : Nat) : Nat := (kz_intt (kz_acc (fun _ => 0) (fun j => (kz_smp rc v i j).2) (fun j => kz_vec rc s e j) K) c + kz_np rc s 2 (K + i) c) % 3329
/-- the numbers of 12 bits in a row from a place on -/
def kz_nm (B : Nat → Nat) (at' j c : Nat) : Nat := kz_tk 8 B (8 * (at' + 384 * j) + 12 * c) 12 % 3329
/-- V of ENCRYPT, not yet compressed -/
def kz_eV (rc : Nat → Int64) (B : Nat → Nat) (at' : Nat) (s : Nat → Int32) (K e : Nat) (Bm : Nat → Nat) (c : Nat) : Nat := ((kz_intt (kz_acc (fun _ => 0) (kz_nm B at') (fun j => kz_vec rc s e j) K) c + kz_np rc s 2 (2 * K) c) % 3329 + kz_ex (kz_tk 8 Bm (8 * 0 + 1 * c) 1) 1) % 3329
/-- bytes of numbers of d bits -/
abbrev kz_pb (d : Nat) (F : Nat → Nat) (k : Nat) : Nat := kz_tk d F (8 * k) 8
theorem kz_blk {b d i : Nat} {T : Nat → Nat → Nat} {r row f : Nat → Int32} (hr : ∀ k, r k = if b * i ≤ k ∧ k < b * i + b then kz_by (kz_pb d (T i) (k - b * i)) else row k) (hrow : ∀ p, row p = if p < b * i then kz_by (kz_pb d (T (p / b)) (p % b)) else f p) : ∀ p, r p = if p < b * (i + 1) then kz_by (kz_pb d (T (p / b)) (p % b)) else f p := fun p => by
  have e9 : b * (i + 1) = b * i + b := Nat.mul_succ b i
  rw [hr p, e9]
  by_cases h1 : b * i ≤ p ∧ p < b * i + b
  · have h2 := kz_dm (x := p) (d := b) (m := i) (t := p - b * i) (by omega) (by omega)
    rw [if_pos h1, if_pos h1.2, h2.1, h2.2]
  · rw [if_neg h1, hrow p]
    by_cases h2 : p < b * i
    · rw [if_pos h2, if_pos (by omega)]
    · rw [if_neg h2, if_neg (by omega)]
theorem kz_encryptVectorPart {rc lanes moved columns : Nat → Int64} {turns targets powers sum term counters nbytes enc seeds s v : Nat → Int32} {K e i du : Nat} {M V : Nat → Nat → Int32} (hT : kz_tab turns targets) (hP : kz_pows powers) (hK : K ≤ 4) (hi : i < K) (hd : du ≤ 11) (hs : ∀ k, k < 32 → seeds (32 + k) = s k) (hM : ∀ i j, i < K → j < K → kz_R (kz_smp rc v j i).2 (M (i * K + j))) (hV : ∀ j, j < K → kz_R (kz_vec rc s e j) (V j)) :
    ∃ pl rt l m c sm tm ct nb en, kFX1_encryptVectorPart (nI i) lanes moved columns turns targets rc powers sum term counters nbytes enc seeds (nI K) (nI du) M V = some (pl, rt, l, m, c, sm, tm, ct, nb, en) ∧ ∀ k, en k = if 32 * du * i ≤ k ∧ k < 32 * du * i + 32 * du then kz_by (kz_pb du (fun c => kz_cmp (kz_eU rc v s K e i c) du) (k - 32 * du * i)) else enc k := by
  obtain ⟨f1, p1, e1⟩ := kz_clear sum
  obtain ⟨f2, p2, e2⟩ := kz_eV15 (A := fun j => (kz_smp rc v i j).2) (S := fun j => kz_vec rc s e j) hP hK hi (fun j hj => hM j i hj hi) hV e1
  obtain ⟨f3, p3, e3⟩ := kz_back e2 hP
  obtain ⟨pl, l, m, c, ct, nb, f4, p4, e4⟩ := kz_fillNoiseV (rc := rc) (lanes := lanes) (moved := moved) (columns := columns) (counters := counters) (nbytes := nbytes) (f := term) (e := 2) (b := K + i) hT (by decide) (by omega) hs
  obtain ⟨f5, p5, e5⟩ := kz_add e3 e4
  have hb : 32 * du * i + 32 * du ≤ 1568 := by
    have h1 : 32 * du * (i + 1) ≤ 352 * 4 := Nat.mul_le_mul (by omega) (by omega)
    rw [Nat.mul_succ] at h1
    omega
  obtain ⟨f6, en, p6, e6⟩ := kz_packC (row := enc) (n3 := 1568) (d := du) (at' := 32 * du * i) e5 hd hb (by decide)
  refine ⟨pl, 136, l, m, c, f6, f4, ct, nb, en, ?_, e6⟩
  unfold kFX1_encryptVectorPart
  rw [nI_add]
  refine (kb_o_v p1).trans ?_
  refine (kb_o_v p2).trans ?_
  refine (kb_o_v p3).trans ?_
  refine (kb_o_v p4).trans ?_
  refine (kb_o_v p5).trans ?_
  refine (kb_o_v (kz_vpS du)).trans ?_
  dsimp only
  rw [pk_mul]
  exact kb_o_v p6
theorem kz_eS10 {powers key sum term : Nat → Int32} {V : Nat → Nat → Int32} {S : Nat → Nat → Nat} {s0 B : Nat → Nat} {K at' n2 : Nat} (hP : kz_pows powers) (hK : K ≤ 4) (hY : kz_Y B key at' (at' + 384 * K)) (hn : at' + 384 * K ≤ n2) (hn2 : n2 < 2 ^ 31) (hV : ∀ j, j < K → kz_R (S j) (V j)) (hf : kz_R s0 sum) :
    ∃ g, kb_w (fun u : Int32 × (Nat → Int32) × (Nat → Int32) => kSX1_encryptScalar_10 (nI at') n2 powers (nI K) key V u.1 u.2.1 u.2.2) 100000 ((0 : Int32), sum, term) = some (nI K, g) ∧ kz_R (kz_acc s0 (kz_nm B at') S K) g.1 := by
  have hk := kz_for (G := (Nat → Int32) × (Nat → Int32)) (S := fun x g => kSX1_encryptScalar_10 (nI at') n2 powers (nI K) key V x g.1 g.2) (g := (sum, term)) nI K (fun j g => kz_R (kz_acc s0 (kz_nm B at') S j) g.1) (by omega) ?_ ?_ hf
  · exact hk
  · rintro j ⟨sm, tm⟩ hj h
    replace h : kz_R (kz_acc s0 (kz_nm B at') S j) sm := h
    obtain ⟨r1, p1, e1⟩ := kz_unpackN (B := B) (f := key) (g := tm) (n := n2) (at' := at' + 384 * j) (kz_Y_m hY (by omega) (by omega)) (by omega) hn2
    obtain ⟨r2, p2, e2⟩ := kz_addProduct hP h e1 (hV j hj)
    refine ⟨(r2, r1), ?_, e2⟩
    show kSX1_encryptScalar_10 (nI at') n2 powers (nI K) key V (nI j) sm tm = _
    unfold kSX1_encryptScalar_10
    rw [show (384 : Int32) * nI j = nI (384 * j) from pk_mul _ _, nI_add, nI_clamp (show j < 2 ^ 31 by omega)]
    refine (kb_b_ff (kz_nle hj (by omega))).trans ?_
    refine (kb_o_v p1).trans ?_
    refine (kb_g_tt (kb_in_n (by omega) (by decide))).trans ?_
    refine (kb_o_v p2).trans ?_
    exact (kb_n_v (kz_inc _)).trans rfl
  · rintro ⟨sm, tm⟩ h
    exact kb_b_tt (kz_le (Nat.le_refl _) (by omega))
theorem kz_encryptScalar {rc lanes moved columns : Nat → Int64} {turns targets powers sum term counters nbytes enc seeds s key plain : Nat → Int32} {K e du dv at' n2 n4 : Nat} {B Bm : Nat → Nat} {V : Nat → Nat → Int32} (hT : kz_tab turns targets) (hP : kz_pows powers) (hK : K ≤ 4) (hdu : du ≤ 11) (hdv : dv ≤ 5) (hs : ∀ k, k < 32 → seeds (32 + k) = s k) (hV : ∀ j, j < K → kz_R (kz_vec rc s e j) (V j)) (hY : kz_Y B key at' (at' + 384 * K)) (hn : at' + 384 * K ≤ n2) (hn2 : n2 < 2 ^ 31) (hYm : kz_Y Bm plain 0 32) (hn4 : 32 ≤ n4) (hn42 : n4 < 2 ^ 31) :
    ∃ pl rt l m c sm tm ct nb en, kFX1_encryptScalar (nI at') n2 n4 lanes moved columns turns targets rc powers sum term counters nbytes enc seeds (nI K) (nI du) (nI dv) key plain V = some (pl, rt, l, m, c, sm, tm, ct, nb, en) ∧ ∀ k, en k = if 32 * du * K ≤ k ∧ k < 32 * du * K + 32 * dv then kz_by (kz_pb dv (fun c => kz_cmp (kz_eV rc B at' s K e Bm c) dv) (k - 32 * du * K)) else enc k := by
  obtain ⟨f1, p1, e1⟩ := kz_clear sum
  obtain ⟨⟨f2, t2⟩, p2, e2⟩ := kz_eS10 (term := term) (S := fun j => kz_vec rc s e j) hP hK hY hn hn2 hV e1
  replace e2 : kz_R (kz_acc (fun _ => 0) (kz_nm B at') (fun j => kz_vec rc s e j) K) f2 := e2
  obtain ⟨f3, p3, e3⟩ := kz_back e2 hP
  obtain ⟨pl, l, m, c, ct, nb, f4, p4, e4⟩ := kz_fillNoiseV (rc := rc) (lanes := lanes) (moved := moved) (columns := columns) (counters := counters) (nbytes := nbytes) (f := t2) (e := 2) (b := 2 * K) hT (by decide) (by omega) hs
  obtain ⟨f5, p5, e5⟩ := kz_add e3 e4
  obtain ⟨f6, p6, e6⟩ := kz_unpackC (B := Bm) (f := plain) (g := f4) (n := n4) (d := 1) (at' := 0) hYm (by decide) (by decide) (by omega) hn42
  obtain ⟨f7, p7, e7⟩ := kz_add e5 e6
  have hb : 32 * du * K + 32 * dv ≤ 1568 := by
    have h1 : 32 * du * K ≤ 352 * 4 := Nat.mul_le_mul (by omega) (by omega)
    omega
  obtain ⟨f8, en, p8, e8⟩ := kz_packC (row := enc) (n3 := 1568) (d := dv) (at' := 32 * du * K) e7 (by omega) hb (by decide)
  refine ⟨pl, 136, l, m, c, f8, f6, ct, nb, en, ?_, e8⟩
  unfold kFX1_encryptScalar
  rw [show (2 : Int32) * nI K = nI (2 * K) from pk_mul _ _]
  refine (kb_o_v p1).trans ?_
  refine (kb_o_v p2).trans ?_
  refine (kb_o_v p3).trans ?_
  refine (kb_o_v p4).trans ?_
  refine (kb_o_v p5).trans ?_
  refine (kb_o_v p6).trans ?_
  refine (kb_o_v p7).trans ?_
  refine (kb_o_v (kz_scP K du)).trans ?_
  exact kb_o_v p8
/-- the bytes of a packet -/
def kz_ct (U : Nat → Nat → Nat) (V : Nat → Nat) (K du dv p : Nat) : Nat := if p < 32 * du * K then kz_pb du (U (p / (32 * du))) (p % (32 * du)) else kz_pb dv V (p - 32 * du * K)
/-- ENCRYPT -/
def kz_enc (rc : Nat → Int64) (v s : Nat → Int32) (B : Nat → Nat) (at' : Nat) (Bm : Nat → Nat) (K e du dv : Nat) : Nat → Nat := kz_ct (fun i c => kz_cmp (kz_eU rc v s K e i c) du) (fun c => kz_cmp (kz_eV rc B at' s K e Bm c) dv) K du dv
theorem kz_ct_end {U : Nat → Nat → Nat} {V : Nat → Nat} {K du dv : Nat} {r row f : Nat → Int32} (hr : ∀ k, r k = if 32 * du * K ≤ k ∧ k < 32 * du * K + 32 * dv then kz_by (kz_pb dv V (k - 32 * du * K)) else row k) (hrow : ∀ p, row p = if p < 32 * du * K then kz_by (kz_pb du (U (p / (32 * du))) (p % (32 * du))) else f p) : ∀ p, r p = if p < 32 * du * K + 32 * dv then kz_by (kz_ct U V K du dv p) else f p := fun p => by
  rw [hr p]
  unfold kz_ct
  by_cases h1 : 32 * du * K ≤ p ∧ p < 32 * du * K + 32 * dv
  · rw [if_pos h1, if_pos h1.2, if_neg (Nat.not_lt.2 h1.1)]
  · rw [if_neg h1, hrow p]
    by_cases h2 : p < 32 * du * K
    · rw [if_pos h2, if_pos (by omega), if_pos h2]
    · rw [if_neg h2, if_neg (by omega)]
theorem kz_e23 {rc lanes moved columns : Nat → Int64} {turns targets powers sum term counters nbytes enc seeds s v : Nat → Int32} {K e du : Nat} {M V : Nat → Nat → Int32} {pl rt : Int32} (hT : kz_tab turns targets) (hP : kz_pows powers) (hK : K ≤ 4) (hd : du ≤ 11) (hs : ∀ k, k < 32 → seeds (32 + k) = s k) (hM : ∀ i j, i < K → j < K → kz_R (kz_smp rc v j i).2 (M (i * K + j))) (hV : ∀ j, j < K → kz_R (kz_vec rc s e j) (V j)) :
    ∃ g, kb_w (fun u : Int32 × (Nat → Int32) × (Nat → Int32) × (Nat → Int32) × Int32 × Int32 × (Nat → Int64) × (Nat → Int64) × (Nat → Int64) × (Nat → Int32) × (Nat → Int32) => kSX1_encrypt_23 turns targets rc powers seeds (nI K) (nI du) M V u.1 u.2.1 u.2.2.1 u.2.2.2.1 u.2.2.2.2.1 u.2.2.2.2.2.1 u.2.2.2.2.2.2.1 u.2.2.2.2.2.2.2.1 u.2.2.2.2.2.2.2.2.1 u.2.2.2.2.2.2.2.2.2.1 u.2.2.2.2.2.2.2.2.2.2) 100000 ((0 : Int32), counters, enc, nbytes, pl, rt, columns, lanes, moved, sum, term) = some (nI K, g) ∧ ∀ p, g.2.1 p = if p < 32 * du * K then kz_by (kz_pb du (fun c => kz_cmp (kz_eU rc v s K e (p / (32 * du)) c) du) (p % (32 * du))) else enc p := by
  have key := kz_for (G := (Nat → Int32) × (Nat → Int32) × (Nat → Int32) × Int32 × Int32 × (Nat → Int64) × (Nat → Int64) × (Nat → Int64) × (Nat → Int32) × (Nat → Int32)) (S := fun x g => kSX1_encrypt_23 turns targets rc powers seeds (nI K) (nI du) M V x g.1 g.2.1 g.2.2.1 g.2.2.2.1 g.2.2.2.2.1 g.2.2.2.2.2.1 g.2.2.2.2.2.2.1 g.2.2.2.2.2.2.2.1 g.2.2.2.2.2.2.2.2.1 g.2.2.2.2.2.2.2.2.2) (g := (counters, enc, nbytes, pl, rt, columns, lanes, moved, sum, term)) nI K (fun i g => ∀ p, g.2.1 p = if p < 32 * du * i then kz_by (kz_pb du (fun c => kz_cmp (kz_eU rc v s K e (p / (32 * du)) c) du) (p % (32 * du))) else enc p) (by omega) ?_ ?_ ?_
  · exact key
  · rintro i ⟨ct, en, nb, pl, rt, c, l, m, sm, tm⟩ hi h
    replace h : ∀ p, en p = if p < 32 * du * i then kz_by (kz_pb du (fun c => kz_cmp (kz_eU rc v s K e (p / (32 * du)) c) du) (p % (32 * du))) else enc p := h
    obtain ⟨pl', rt', l', m', c', sm', tm', ct', nb', en', p1, e1⟩ := kz_encryptVectorPart (rc := rc) (lanes := l) (moved := m) (columns := c) (sum := sm) (term := tm) (counters := ct) (nbytes := nb) (enc := en) (e := e) (v := v) hT hP hK hi hd hs hM hV
    refine ⟨(ct', en', nb', pl', rt', c', l', m', sm', tm'), ?_, kz_blk (T := fun i c => kz_cmp (kz_eU rc v s K e i c) du) e1 h⟩
    show kSX1_encrypt_23 turns targets rc powers seeds (nI K) (nI du) M V (nI i) ct en nb pl rt c l m sm tm = _
    unfold kSX1_encrypt_23
    refine (kb_b_ff (kz_nle hi (by omega))).trans ?_
    refine (kb_o_v p1).trans ?_
    exact (kb_n_v (kz_inc _)).trans rfl
  · rintro ⟨ct, en, nb, pl, rt, c, l, m, sm, tm⟩ h
    exact kb_b_tt (kz_le (Nat.le_refl _) (by omega))
  · intro p
    rw [Nat.mul_zero, if_neg (Nat.not_lt_zero p)]
/-- whether all samples of a seed give 256 numbers -/
def kz_all (rc : Nat → Int64) (v : Nat → Int32) (K : Nat) : Prop := ∀ i j, i < K → j < K → ¬ (kz_smp rc v j i).1 < 256
theorem kz_encrypt {rc lanes moved columns : Nat → Int64} {turns targets powers sum term counters three nbytes enc seeds s v key plain : Nat → Int32} {K e du dv at' n2 n4 : Nat} {B Bm : Nat → Nat} {M V : Nat → Nat → Int32} {pl rt : Int32} (hT : kz_tab turns targets) (hP : kz_pows powers) (hK : K ≤ 4) (he : e ∈ [2, 3]) (hdu : du ≤ 11) (hdv : dv ≤ 5) (hs : ∀ k, k < 32 → seeds (32 + k) = s k) (hv : ∀ k, k < 32 → key (at' + 384 * K + k) = v k) (hY : kz_Y B key at' (at' + 384 * K)) (hn : at' + 384 * K + 32 ≤ n2) (hn2 : n2 < 2 ^ 31) (hYm : kz_Y Bm plain 0 32) (hn4 : 32 ≤ n4) (hn42 : n4 < 2 ^ 31) :
    ∃ r, kFX1_encrypt (nI at') n2 n4 rt pl lanes moved columns turns targets rc powers sum term counters three nbytes enc seeds (nI K) (nI e) (nI du) (nI dv) key plain M V = some r ∧
      ((∃ t, r = .inl t ∧ kz_all rc v K ∧ ∀ p, t.2.2.2.2.2.2.2.2.2.2.1 p = if p < 32 * du * K + 32 * dv then kz_by (kz_enc rc v s B at' Bm K e du dv p) else enc p) ∨ (¬ kz_all rc v K ∧ ∃ x, r = .inr ("java/lang/ArithmeticException", x))) := by
  obtain ⟨r1, p1, e1⟩ := kz_sampleMatrix (rc := rc) (lanes := lanes) (moved := moved) (columns := columns) (counters := counters) (three := three) (f := key) (M0 := M) (pl := pl) (rt := rt) (n2 := n2) hT hK hv hn hn2
  rcases e1 with ⟨⟨pl1, rt1, l1, m1, c1, ct1, th1, M1⟩, rfl, ha, hM⟩ | ⟨⟨i, j, hi, hj, hc⟩, x, rfl⟩
  · replace hM : ∀ i j, i < K → j < K → kz_R (kz_smp rc v j i).2 (M1 (i * K + j)) := hM
    obtain ⟨pl2, rt2, l2, m2, c2, ct2, nb2, V2, p2, hV⟩ := kz_fillVector (rc := rc) (lanes := l1) (moved := m1) (columns := c1) (counters := ct1) (nbytes := nbytes) (rt := rt1) (pl := pl1) (V := V) hT hP hK he hs
    obtain ⟨⟨ct3, en3, nb3, pl3, rt3, c3, l3, m3, sm3, tm3⟩, p3, e3⟩ := kz_e23 (rc := rc) (lanes := l2) (moved := m2) (columns := c2) (sum := sum) (term := term) (counters := ct2) (nbytes := nb2) (enc := enc) (pl := pl2) (rt := rt2) hT hP hK hdu hs hM hV
    replace e3 : ∀ p, en3 p = if p < 32 * du * K then kz_by (kz_pb du (fun c => kz_cmp (kz_eU rc v s K e (p / (32 * du)) c) du) (p % (32 * du))) else enc p := e3
    obtain ⟨pl4, rt4, l4, m4, c4, sm4, tm4, ct4, nb4, en4, p4, e4⟩ := kz_encryptScalar (rc := rc) (lanes := l3) (moved := m3) (columns := c3) (sum := sm3) (term := tm3) (counters := ct3) (nbytes := nb3) (enc := en3) (dv := dv) hT hP hK hdu hdv hs hV hY (show at' + 384 * K ≤ n2 by omega) hn2 hYm hn4 hn42
    refine ⟨.inl (pl4, rt4, l4, m4, c4, sm4, tm4, ct4, th1, nb4, en4, M1, V2), ?_, Or.inl ⟨_, rfl, ha, kz_ct_end (U := fun i c => kz_cmp (kz_eU rc v s K e i c) du) e4 e3⟩⟩
    unfold kFX1_encrypt
    refine (kb_o_v (kz_numS K)).trans ?_
    dsimp only
    rw [nI_add]
    refine (kb_o_v p1).trans ?_
    refine kz_il ?_
    refine (kb_o_v p2).trans ?_
    refine (kb_o_v p3).trans ?_
    exact (kb_o_v p4).trans rfl
  · refine ⟨.inr ("java/lang/ArithmeticException", (x.1, x.2.1, x.2.2.1, x.2.2.2.1, x.2.2.2.2.1, sum, term, x.2.2.2.2.2.1, x.2.2.2.2.2.2.1, nbytes, enc, x.2.2.2.2.2.2.2, V)), ?_, Or.inr ⟨fun h => h i j hi hj hc, _, rfl⟩⟩
    unfold kFX1_encrypt
    refine (kb_o_v (kz_numS K)).trans ?_
    dsimp only
    rw [nI_add]
    exact (kb_o_v p1).trans rfl
/-! Layer 2: the class's makeKeys, isReduced, holdsItsHash, wrap, open. -/
theorem kz_by_f0 : ∀ b, b < 256 → fits .byte (.int (kz_by b)) = true := by decide +kernel
theorem kz_by_fit (b : Nat) : fits .byte (.int (kz_by b)) = true := by
  rw [← kz_by_mod]
  exact kz_by_f0 _ (Nat.mod_lt _ (by decide))
theorem kz_ft {f : Nat → Int32} {a n : Nat} (h : ∀ i, i < n → ∃ b, f (a + i) = kz_by b) : kb_ft f a n = true := by
  unfold kb_ft
  refine List.all_eq_true.mpr (fun i hi => ?_)
  obtain ⟨b, hb⟩ := h i (List.mem_range.mp hi)
  rw [hb]
  exact kz_by_fit b
theorem kz_cp {sp dp n n0 n1 : Nat} (h1 : sp + n ≤ n0) (h2 : dp + n ≤ n1) (h3 : n0 < 2 ^ 31) (h4 : n1 < 2 ^ 31) : kb_cp (nI sp) (nI dp) (nI n) n0 n1 = true := by
  simp only [kb_cp, Bool.and_eq_true, Bool.not_eq_true', decide_eq_false_iff_not, decide_eq_true_eq]
  rw [nI_clamp (show sp < 2 ^ 31 by omega), nI_clamp (show dp < 2 ^ 31 by omega), nI_clamp (show n < 2 ^ 31 by omega)]
  exact ⟨⟨⟨⟨nI_pos (by omega), nI_pos (by omega)⟩, nI_pos (by omega)⟩, h1⟩, h2⟩
/-- the 64 bytes of KEYS -/
def kz_gk (rc : Nat → Int64) (v : Nat → Int32) (K : Nat) : Nat → Nat := kz_gb rc 72 (kz_fin rc 72 6 (kz_ab1 rc 72 (nI K) (kz_ab rc 72 v kz_z 32)))
/-- T of KEYS -/
def kz_kT (rc : Nat → Int64) (r s : Nat → Int32) (K e i : Nat) : Nat → Nat := kz_acc (kz_vec rc s e (K + i)) (fun j => (kz_smp rc r j i).2) (fun j => kz_vec rc s e j) K
def kz_rho (rc : Nat → Int64) (v : Nat → Int32) (K k : Nat) : Int32 := kz_by (kz_gk rc v K k)
def kz_sig (rc : Nat → Int64) (v : Nat → Int32) (K k : Nat) : Int32 := kz_by (kz_gk rc v K (32 + k))
/-- the public key's bytes -/
def kz_PK (rc : Nat → Int64) (v : Nat → Int32) (K e p : Nat) : Nat := if p < 384 * K then kz_pb 12 (kz_kT rc (kz_rho rc v K) (kz_sig rc v K) K e (p / 384)) (p % 384) else kz_gk rc v K (p - 384 * K)
/-- SHA3-256 -/
def kz_H (rc : Nat → Int64) (w : Nat → Int32) (n : Nat) : Nat → Nat := kz_gb rc 136 (kz_fin rc 136 6 (kz_ab rc 136 w kz_z n))
/-- SHA3-512 of two times 32 bytes -/
def kz_gs (rc : Nat → Int64) (m h : Nat → Int32) : Nat → Nat := kz_gb rc 72 (kz_fin rc 72 6 (kz_ab rc 72 h (kz_ab rc 72 m kz_z 32) 32))
/-- SHAKE256 of 32 bytes and n bytes -/
def kz_J (rc : Nat → Int64) (z c : Nat → Int32) (n : Nat) : Nat → Nat := kz_gb rc 136 (kz_fin rc 136 31 (kz_ab rc 136 c (kz_ab rc 136 z kz_z 32) n))
/-- the secret key's bytes; z: the bytes of RANDOM -/
def kz_SK (rc : Nat → Int64) (z : Nat → Nat) (K e p : Nat) : Nat := if p < 384 * K then kz_pb 12 (kz_vec rc (kz_sig rc (fun k => kz_by (z k)) K) e (p / 384)) (p % 384) else if p < 768 * K + 32 then kz_PK rc (fun k => kz_by (z k)) K e (p - 384 * K) else if p < 768 * K + 64 then kz_H rc (fun k => kz_by (kz_PK rc (fun k => kz_by (z k)) K e k)) (384 * K + 32) (p - (768 * K + 32)) else z (32 + (p - (768 * K + 64)))
theorem kz_mK128 {powers f : Nat → Int32} {M V : Nat → Nat → Int32} {A S : Nat → Nat → Nat} {s0 : Nat → Nat} {K i : Nat} (hP : kz_pows powers) (hK : K ≤ 4) (hi : i < K) (hM : ∀ j, j < K → kz_R (A j) (M (i * K + j))) (hV : ∀ j, j < K → kz_R (S j) (V j)) (hf : kz_R s0 f) :
    ∃ g, kb_w (fun u : Int32 × (Nat → Int32) => kSX1_makeKeys_128 (nI K) (nI i) powers M V u.1 u.2) 100000 ((0 : Int32), f) = some (nI K, g) ∧ kz_R (kz_acc s0 A S K) g := by
  have key := kz_for (S := fun x g => kSX1_makeKeys_128 (nI K) (nI i) powers M V x g) (g := f) nI K (fun j g => kz_R (kz_acc s0 A S j) g) (by omega) (fun j g hj h => ?_) (fun g h => kb_b_tt (kz_le (Nat.le_refl _) (by omega))) hf
  · exact key
  · obtain ⟨r, p1, e1⟩ := kz_addProduct hP h (hM j hj) (hV j hj)
    refine ⟨r, ?_, e1⟩
    show kSX1_makeKeys_128 (nI K) (nI i) powers M V (nI j) g = _
    have hij := kz_ij16 hK hi hj
    unfold kSX1_makeKeys_128
    rw [pk_mul, nI_add, nI_clamp (show i * K + j < 2 ^ 31 by omega), nI_clamp (show j < 2 ^ 31 by omega)]
    refine (kb_b_ff (kz_nle hj (by omega))).trans ?_
    refine (kb_g_tt (kb_in_n hij (by decide))).trans ?_
    refine (kb_g_tt (kb_in_n (by omega) (by decide))).trans ?_
    refine (kb_o_v p1).trans ?_
    exact (kb_n_v (kz_inc _)).trans rfl
theorem kz_mK90 {rc lanes moved columns : Nat → Int64} {turns targets powers sum counters nbytes seeds r s f3 f4 : Nat → Int32} {K e n3 n4 : Nat} {M V : Nat → Nat → Int32} {pl rt : Int32} (hT : kz_tab turns targets) (hP : kz_pows powers) (hK : K ≤ 4) (he : e ∈ [2, 3]) (hs : ∀ k, k < 32 → seeds (32 + k) = s k) (hM : ∀ i j, i < K → j < K → kz_R (kz_smp rc r j i).2 (M (i * K + j))) (hV : ∀ j, j < K → kz_R (kz_vec rc s e j) (V j)) (hn3 : 384 * K ≤ n3) (hn32 : n3 < 2 ^ 31) (hn4 : 384 * K ≤ n4) (hn42 : n4 < 2 ^ 31) :
    ∃ g, kb_w (fun u : Int32 × (Nat → Int32) × (Nat → Int32) × (Nat → Int32) × (Nat → Int32) × Int32 × Int32 × (Nat → Int64) × (Nat → Int64) × (Nat → Int64) × (Nat → Int32) => kSX1_makeKeys_90 (nI K) n3 n4 turns targets rc powers seeds (nI e) M V u.1 u.2.1 u.2.2.1 u.2.2.2.1 u.2.2.2.2.1 u.2.2.2.2.2.1 u.2.2.2.2.2.2.1 u.2.2.2.2.2.2.2.1 u.2.2.2.2.2.2.2.2.1 u.2.2.2.2.2.2.2.2.2.1 u.2.2.2.2.2.2.2.2.2.2) 100000 ((0 : Int32), f3, f4, counters, nbytes, pl, rt, columns, lanes, moved, sum) = some (nI K, g) ∧ (∀ p, g.1 p = if p < 384 * K then kz_by (kz_pb 12 (kz_kT rc r s K e (p / 384)) (p % 384)) else f3 p) ∧ ∀ p, g.2.1 p = if p < 384 * K then kz_by (kz_pb 12 (kz_vec rc s e (p / 384)) (p % 384)) else f4 p := by
  have key := kz_for (G := (Nat → Int32) × (Nat → Int32) × (Nat → Int32) × (Nat → Int32) × Int32 × Int32 × (Nat → Int64) × (Nat → Int64) × (Nat → Int64) × (Nat → Int32)) (S := fun x g => kSX1_makeKeys_90 (nI K) n3 n4 turns targets rc powers seeds (nI e) M V x g.1 g.2.1 g.2.2.1 g.2.2.2.1 g.2.2.2.2.1 g.2.2.2.2.2.1 g.2.2.2.2.2.2.1 g.2.2.2.2.2.2.2.1 g.2.2.2.2.2.2.2.2.1 g.2.2.2.2.2.2.2.2.2) (g := (f3, f4, counters, nbytes, pl, rt, columns, lanes, moved, sum)) nI K (fun i g => (∀ p, g.1 p = if p < 384 * i then kz_by (kz_pb 12 (kz_kT rc r s K e (p / 384)) (p % 384)) else f3 p) ∧ ∀ p, g.2.1 p = if p < 384 * i then kz_by (kz_pb 12 (kz_vec rc s e (p / 384)) (p % 384)) else f4 p) (by omega) ?_ ?_ ⟨fun p => by rw [Nat.mul_zero, if_neg (Nat.not_lt_zero p)], fun p => by rw [Nat.mul_zero, if_neg (Nat.not_lt_zero p)]⟩
  · exact key
  · rintro i ⟨a3, a4, ct, nb, pl, rt, c, l, m, sm⟩ hi ⟨h3, h4⟩
    replace h3 : ∀ p, a3 p = if p < 384 * i then kz_by (kz_pb 12 (kz_kT rc r s K e (p / 384)) (p % 384)) else f3 p := h3
    replace h4 : ∀ p, a4 p = if p < 384 * i then kz_by (kz_pb 12 (kz_vec rc s e (p / 384)) (p % 384)) else f4 p := h4
    obtain ⟨pl1, l1, m1, c1, ct1, nb1, f1, p1, e1⟩ := kz_fillNoiseV (rc := rc) (lanes := l) (moved := m) (columns := c) (counters := ct) (nbytes := nb) (f := sm) (b := K + i) hT he (by omega) hs
    obtain ⟨f2, p2, e2⟩ := kz_transform e1 hP
    obtain ⟨g3, p3, e3⟩ := kz_mK128 (A := fun j => (kz_smp rc r j i).2) (S := fun j => kz_vec rc s e j) hP hK hi (fun j hj => hM i j hi hj) hV e2
    obtain ⟨r4, p4, e4⟩ := kz_pack (row := a3) (n3 := n3) (d := 12) (at' := 384 * i) (kz_Rlt e3) (by decide) (by omega) hn32
    obtain ⟨r5, p5, e5⟩ := kz_pack (row := a4) (n3 := n4) (d := 12) (at' := 384 * i) (kz_Rlt (hV i hi)) (by decide) (by omega) hn42
    refine ⟨(r4, r5, ct1, nb1, pl1, (136 : Int32), c1, l1, m1, g3), ?_, kz_blk (T := kz_kT rc r s K e) e4 h3, kz_blk (T := kz_vec rc s e) e5 h4⟩
    show kSX1_makeKeys_90 (nI K) n3 n4 turns targets rc powers seeds (nI e) M V (nI i) a3 a4 ct nb pl rt c l m sm = _
    unfold kSX1_makeKeys_90
    rw [nI_add, show (384 : Int32) * nI i = nI (384 * i) from pk_mul _ _, nI_clamp (show i < 2 ^ 31 by omega)]
    refine (kb_b_ff (kz_nle hi (by omega))).trans ?_
    refine (kb_o_v p1).trans ?_
    refine (kb_o_v p2).trans ?_
    refine (kb_o_v p3).trans ?_
    refine (kb_o_v p4).trans ?_
    refine (kb_g_tt (kb_in_n (by omega) (by decide))).trans ?_
    refine (kb_o_v p5).trans ?_
    exact (kb_n_v (kz_inc _)).trans rfl
  · rintro ⟨a3, a4, ct, nb, pl, rt, c, l, m, sm⟩ h
    exact kb_b_tt (kz_le (Nat.le_refl _) (by omega))
theorem kz_PK_end {rc : Nat → Int64} {v a3 f3 sd : Nat → Int32} {K e : Nat} (h3 : ∀ p, a3 p = if p < 384 * K then kz_by (kz_pb 12 (kz_kT rc (kz_rho rc v K) (kz_sig rc v K) K e (p / 384)) (p % 384)) else f3 p) (hsd : ∀ k, k < 32 → sd k = kz_by (kz_gk rc v K k)) : ∀ p, va_cpy sd a3 0 (384 * K) 32 p = if p < 384 * K + 32 then kz_by (kz_PK rc v K e p) else f3 p := fun p => by
  unfold va_cpy kz_PK
  by_cases h1 : 384 * K ≤ p ∧ p < 384 * K + 32
  · rw [if_pos h1, if_pos h1.2, if_neg (by omega), Nat.zero_add, hsd _ (by omega)]
  · rw [if_neg h1, h3 p]
    by_cases h2 : p < 384 * K
    · rw [if_pos h2, if_pos (by omega), if_pos h2]
    · rw [if_neg h2, if_neg (by omega)]
theorem kz_SK_end {rc : Nat → Int64} {z : Nat → Nat} {a3 a4 f4 h rnd : Nat → Int32} {K e : Nat} (h4 : ∀ p, a4 p = if p < 384 * K then kz_by (kz_pb 12 (kz_vec rc (kz_sig rc (fun k => kz_by (z k)) K) e (p / 384)) (p % 384)) else f4 p) (h3 : ∀ p, p < 384 * K + 32 → a3 p = kz_by (kz_PK rc (fun k => kz_by (z k)) K e p)) (hh : ∀ k, k < 32 → h k = kz_by (kz_H rc (fun k => kz_by (kz_PK rc (fun k => kz_by (z k)) K e k)) (384 * K + 32) k)) (hz : ∀ k, k < 32 → rnd (32 + k) = kz_by (z (32 + k))) :
    ∀ p, va_cpy rnd (va_cpy h (va_cpy a3 a4 0 (384 * K) (384 * K + 32)) 0 (768 * K + 32) 32) 32 (768 * K + 32 + 32) 32 p = if p < 768 * K + 96 then kz_by (kz_SK rc z K e p) else f4 p := fun p => by
  unfold va_cpy kz_SK
  by_cases c1 : 768 * K + 32 + 32 ≤ p ∧ p < 768 * K + 32 + 32 + 32
  · rw [if_pos c1, if_pos (by omega), if_neg (by omega), if_neg (by omega), if_neg (by omega), hz _ (by omega)]
  · rw [if_neg c1]
    by_cases c2 : 768 * K + 32 ≤ p ∧ p < 768 * K + 32 + 32
    · rw [if_pos c2, if_pos (by omega), if_neg (by omega), if_neg (by omega), if_pos (by omega), Nat.zero_add, hh _ (by omega)]
    · rw [if_neg c2]
      by_cases c3 : 384 * K ≤ p ∧ p < 384 * K + (384 * K + 32)
      · rw [if_pos c3, if_pos (by omega), if_neg (by omega), if_pos (by omega), Nat.zero_add, h3 _ (by omega)]
      · rw [if_neg c3, h4 p]
        by_cases c4 : p < 384 * K
        · rw [if_pos c4, if_pos (by omega), if_pos c4]
        · rw [if_neg c4, if_neg (by omega)]
theorem kz_makeKeys {rc lanes moved columns : Nat → Int64} {turns targets powers sum counters three nbytes hash seeds f2 f3 f4 : Nat → Int32} {z : Nat → Nat} {K e n2 n3 n4 : Nat} {M V : Nat → Nat → Int32} (hT : kz_tab turns targets) (hP : kz_pows powers) (hK : K ≤ 4) (he : e ∈ [2, 3]) (hz : kz_Y z f2 0 64) (hn2 : 64 ≤ n2) (hn22 : n2 < 2 ^ 31) (hn3 : 384 * K + 32 ≤ n3) (hn32 : n3 < 2 ^ 31) (hn4 : 768 * K + 96 ≤ n4) (hn42 : n4 < 2 ^ 31) :
    ∃ r, kFX1_makeKeys n2 n3 n4 lanes moved columns turns targets rc powers sum counters three nbytes hash seeds (nI K) (nI e) f2 f3 f4 M V = some r ∧
      ((∃ t, r = .inl t ∧ kz_all rc (kz_rho rc (fun k => kz_by (z k)) K) K ∧ (∀ p, t.2.2.2.2.2.2.2.2.2.2.2.1 p = if p < 384 * K + 32 then kz_by (kz_PK rc (fun k => kz_by (z k)) K e p) else f3 p) ∧ ∀ p, t.2.2.2.2.2.2.2.2.2.2.2.2.1 p = if p < 768 * K + 96 then kz_by (kz_SK rc z K e p) else f4 p) ∨ (¬ kz_all rc (kz_rho rc (fun k => kz_by (z k)) K) K ∧ ∃ x, r = .inr ("java/lang/ArithmeticException", x) ∧ x.2.2.2.2.2.2.2.2.2.2.2.1 = f3 ∧ x.2.2.2.2.2.2.2.2.2.2.2.2.1 = f4)) := by
  have hgk : kz_gk rc (fun k => kz_by (z k)) K = kz_gb rc 72 (kz_fin rc 72 6 (kz_ab1 rc 72 (nI K) (kz_ab rc 72 (fun k => kz_by (z k)) kz_z 32))) := rfl
  obtain ⟨l1, p1, e1⟩ := kz_start lanes (72 : Int32)
  obtain ⟨l2, m2, c2, p2, e2⟩ := kz_take (rc := rc) (moved := moved) (columns := columns) (f := f2) (R := 72) (at' := 0) (n := 32) (n1 := n2) (u := kz_z) hT (by decide) (by decide) (by decide) e1 (by omega) hn22 (by decide)
  rw [kz_ab_c (w := fun k => kz_by (z k)) (fun k hk => by rw [Nat.zero_add]; exact (hz k (Nat.zero_le _) (by omega)).2)] at p2 e2
  have hlt := kz_ab_lt (rc := rc) (R := 72) (v := fun k => kz_by (z k)) (u := kz_z) (by decide) (by decide) 32
  generalize kz_ab rc 72 (fun k => kz_by (z k)) kz_z 32 = U at p2 e2 hlt hgk
  obtain ⟨l3, m3, c3, p3, e3⟩ := kz_take (rc := rc) (moved := m2) (columns := c2) (f := upd counters 0 (nI K)) (R := 72) (at' := 0) (n := 1) (n1 := 2) hT (by decide) (by decide) hlt e2 (by decide) (by decide) (by decide)
  have h12 : kz_ab rc 72 (fun k => upd counters 0 (nI K) (0 + k)) U 1 = kz_ab1 rc 72 (nI K) U := by
    show kz_ab1 rc 72 (upd counters 0 (nI K) 0) U = _
    rw [pk_us]
  rw [h12] at p3 e3
  have hlt3 := kz_ab1_lt (rc := rc) (v := nI K) (by decide) hlt
  generalize kz_ab1 rc 72 (nI K) U = W at p3 e3 hlt3 hgk
  obtain ⟨l4, m4, c4, p4, e4⟩ := kz_finish (rc := rc) (moved := m3) (columns := c3) (sf := 6) hT (by decide) (by decide) hlt3 e3
  obtain ⟨l5, m5, c5, s5, p5, e5, b5⟩ := kz_give (rc := rc) (moved := m4) (columns := c4) (f := seeds) (R := 72) (at' := 0) (n := 64) (n1 := 64) (u := kz_fin rc 72 6 W) hT (by decide) (by decide) (by rw [kz_fin0]; decide) e4 (by decide) (by decide) (by decide)
  rw [kz_fin0] at p5
  rw [← hgk] at b5
  generalize nI (kz_gv rc 72 (kz_fin rc 72 6 W) 64).2 = pl5 at p5
  have hsd : ∀ k, k < 64 → s5 k = kz_by (kz_gk rc (fun k => kz_by (z k)) K k) := fun k hk => by rw [b5 k, if_pos ⟨by omega, by omega⟩, Nat.sub_zero]
  obtain ⟨r6, p6, e6⟩ := kz_sampleMatrix (rc := rc) (lanes := l5) (moved := m5) (columns := c5) (counters := upd counters 0 (nI K)) (three := three) (f := s5) (M0 := M) (pl := pl5) (rt := nI 72) (n2 := 64) (at' := 0) (v := kz_rho rc (fun k => kz_by (z k)) K) hT hK (fun k hk => by rw [Nat.zero_add]; exact hsd k (by omega)) (by decide) (by decide)
  have hcnt : upd counters (0 : Int32).toNatClampNeg (vp_nar .byte ((nI K).toInt8.toInt32)) = upd counters 0 (nI K) := by
    rw [pk_vb, show (nI K).toInt8.toInt32 = nI K from kz_by_s K (by omega)]
    rfl
  rcases e6 with ⟨⟨pl6, rt6, l6, m6, c6, ct6, th6, M6⟩, rfl, ha, hM⟩ | ⟨⟨i, j, hi, hj, hc⟩, ⟨x1, x2, x3, x4, x5, x6, x7, x8⟩, rfl⟩
  · replace hM : ∀ i j, i < K → j < K → kz_R (kz_smp rc (kz_rho rc (fun k => kz_by (z k)) K) j i).2 (M6 (i * K + j)) := hM
    have hs : ∀ k, k < 32 → s5 (32 + k) = kz_sig rc (fun k => kz_by (z k)) K k := fun k hk => hsd (32 + k) (by omega)
    obtain ⟨pl7, rt7, l7, m7, c7, ct7, nb7, V7, p7, hV⟩ := kz_fillVector (rc := rc) (lanes := l6) (moved := m6) (columns := c6) (counters := ct6) (nbytes := nbytes) (rt := rt6) (pl := pl6) (V := V) hT hP hK he hs
    obtain ⟨⟨a3, a4, ct8, nb8, pl8, rt8, c8, l8, m8, sm8⟩, p8, h3, h4⟩ := kz_mK90 (rc := rc) (lanes := l7) (moved := m7) (columns := c7) (sum := sum) (counters := ct7) (nbytes := nb7) (pl := pl7) (rt := rt7) (f3 := f3) (f4 := f4) (n3 := n3) (n4 := n4) hT hP hK he hs hM hV (by omega) hn32 (by omega) hn42
    replace h3 : ∀ p, a3 p = if p < 384 * K then kz_by (kz_pb 12 (kz_kT rc (kz_rho rc (fun k => kz_by (z k)) K) (kz_sig rc (fun k => kz_by (z k)) K) K e (p / 384)) (p % 384)) else f3 p := h3
    replace h4 : ∀ p, a4 p = if p < 384 * K then kz_by (kz_pb 12 (kz_vec rc (kz_sig rc (fun k => kz_by (z k)) K) e (p / 384)) (p % 384)) else f4 p := h4
    have h9 := kz_PK_end h3 (fun k hk => hsd k (by omega))
    have h9b : ∀ p, p < 384 * K + 32 → va_cpy s5 a3 0 (384 * K) 32 p = kz_by (kz_PK rc (fun k => kz_by (z k)) K e p) := fun p hp => by rw [h9 p, if_pos hp]
    obtain ⟨pl10, l10, m10, c10, hs10, p10, e10⟩ := kz_fillHash (rc := rc) (lanes := l8) (moved := m8) (columns := c8) (hash := hash) (f := va_cpy s5 a3 0 (384 * K) 32) (at' := 0) (n := 384 * K + 32) (n1 := n3) hT (by omega) hn32 (by omega)
    rw [kz_ab_c (w := fun k => kz_by (kz_PK rc (fun k => kz_by (z k)) K e k)) (fun k hk => by rw [Nat.zero_add]; exact h9b k hk)] at e10
    have h11 := kz_SK_end (h := hs10) (rnd := f2) h4 h9b e10 (fun k hk => (hz (32 + k) (Nat.zero_le _) (by omega)).2)
    refine ⟨.inl (pl10, (136 : Int32), l10, m10, c10, sm8, ct8, th6, nb8, hs10, s5, va_cpy s5 a3 0 (384 * K) 32, _, M6, V7), ?_, Or.inl ⟨_, rfl, ha, h9, h11⟩⟩
    unfold kFX1_makeKeys
    refine (kb_o_v p1).trans ?_
    refine (kb_o_v p2).trans ?_
    refine (kb_n_v (v := upd counters 0 (nI K)) hcnt).trans ?_
    refine (kb_o_v p3).trans ?_
    refine (kb_o_v p4).trans ?_
    refine (kb_o_v p5).trans ?_
    refine (kb_o_v p6).trans ?_
    refine kz_il ?_
    refine (kb_o_v p7).trans ?_
    refine (kb_o_v p8).trans ?_
    refine (kb_o_v (kz_numS K)).trans ?_
    refine (kb_g_tt (kz_cp (sp := 0) (n := 32) (by decide) (by omega) (by decide) hn32)).trans ?_
    refine (kb_g_tt (kz_ft (a := 0) (n := 32) (fun i hi => ⟨_, hsd (0 + i) (by omega)⟩))).trans ?_
    refine (kb_n_v (v := va_cpy s5 a3 0 (384 * K) 32) ?_).trans ?_
    · rw [nI_clamp (show 384 * K < 2 ^ 31 by omega)]
      rfl
    refine (kb_o_v (kz_numS K)).trans ?_
    refine (kb_o_v (kz_pubS K)).trans ?_
    dsimp only
    rw [nI_clamp (show 384 * K < 2 ^ 31 by omega), nI_clamp (show 384 * K + 32 < 2 ^ 31 by omega)]
    refine (kb_g_tt (kz_cp (sp := 0) (by omega) (by omega) hn32 hn42)).trans ?_
    refine (kb_g_tt (kz_ft (a := 0) (fun i hi => ⟨_, h9b (0 + i) (by omega)⟩))).trans ?_
    refine (kb_n_v (v := va_cpy (va_cpy s5 a3 0 (384 * K) 32) a4 0 (384 * K) (384 * K + 32)) rfl).trans ?_
    refine (kb_o_v (kz_pubS K)).trans ?_
    refine (kb_o_v p10).trans ?_
    refine (kb_o_v (kz_hashP K)).trans ?_
    refine (kb_g_tt (kz_cp (sp := 0) (n := 32) (by decide) (by omega) (by decide) hn42)).trans ?_
    refine (kb_g_tt (kz_ft (a := 0) (n := 32) (fun i hi => ⟨_, e10 (0 + i) (by omega)⟩))).trans ?_
    refine (kb_n_v (v := va_cpy hs10 (va_cpy (va_cpy s5 a3 0 (384 * K) 32) a4 0 (384 * K) (384 * K + 32)) 0 (768 * K + 32) 32) ?_).trans ?_
    · rw [nI_clamp (show 768 * K + 32 < 2 ^ 31 by omega)]
      rfl
    refine (kb_o_v (kz_hashP K)).trans ?_
    dsimp only
    rw [show nI (768 * K + 32) + (32 : Int32) = nI (768 * K + 32 + 32) from nI_add _ 32, nI_clamp (show 768 * K + 32 + 32 < 2 ^ 31 by omega)]
    refine (kb_g_tt (kz_cp (sp := 32) (n := 32) (by omega) (by omega) hn22 hn42)).trans ?_
    refine (kb_g_tt (kz_ft (a := 32) (n := 32) (fun i hi => ⟨_, (hz (32 + i) (Nat.zero_le _) (by omega)).2⟩))).trans ?_
    exact (kb_n_v rfl).trans rfl
  · refine ⟨.inr ("java/lang/ArithmeticException", (x1, x2, x3, x4, x5, sum, x6, x7, nbytes, hash, s5, f3, f4, x8, V)), ?_, Or.inr ⟨fun h => h i j hi hj hc, _, rfl, ?_⟩⟩
    · unfold kFX1_makeKeys
      refine (kb_o_v p1).trans ?_
      refine (kb_o_v p2).trans ?_
      refine (kb_n_v (v := upd counters 0 (nI K)) hcnt).trans ?_
      refine (kb_o_v p3).trans ?_
      refine (kb_o_v p4).trans ?_
      refine (kb_o_v p5).trans ?_
      exact (kb_o_v p6).trans rfl
    · exact ⟨rfl, rfl⟩
-- ===== the checks
def kz_red (B : Nat → Nat) (K : Nat) : Prop := ∀ i c, i < K → c < 256 → kz_tk 8 B (8 * (384 * i) + 12 * c) 12 < 3329
theorem kz_iR28 {f : Nat → Int32} {T : Nat → Nat} (hf : ∀ c, c < 256 → T c < 4096 ∧ f c = nI (T c)) : ∃ r, kb_w (fun u : Int32 => kSX1_isReduced_28 f u) 100000 (0 : Int32) = some r ∧ ((∃ y, r = .inr y ∧ ∀ c, c < 256 → T c < 3329) ∨ ∃ y, r = .inl y ∧ ¬ ∀ c, c < 256 → T c < 3329) := by
  refine kb_w_ex (σ := Int32) (ρ := Int32 ⊕ Int32) (fun j u => u = nI j ∧ ∀ c, c < j → T c < 3329) (fun r => (∃ y, r = .inr y ∧ ∀ c, c < 256 → T c < 3329) ∨ ∃ y, r = .inl y ∧ ¬ ∀ c, c < 256 → T c < 3329) 256 ?_ ?_ 256 0 _ 100000 (by omega) (by decide) ⟨rfl, fun c h => absurd h (by omega)⟩
  · rintro j u hj ⟨rfl, h⟩
    by_cases hc : T j < 3329
    · refine Or.inl ⟨nI (j + 1), ?_, rfl, fun c hc' => ?_⟩
      · show kSX1_isReduced_28 f (nI j) = _
        unfold kSX1_isReduced_28
        rw [nI_clamp (show j < 2 ^ 31 by omega), (hf j hj).2]
        refine (kb_b_ff (kz_nle (n := 256) hj (by decide))).trans ?_
        refine (kb_g_tt (kb_in_n hj (by decide))).trans ?_
        refine (kb_b_tt (kz_lt (b := 3329) hc (by decide))).trans ?_
        exact (kb_n_v (kz_inc _)).trans rfl
      · by_cases e9 : c = j
        · subst e9
          exact hc
        · exact h c (by omega)
    · refine Or.inr ⟨.inl (nI j), ?_, Or.inr ⟨_, rfl, fun h9 => hc (h9 j hj)⟩⟩
      show kSX1_isReduced_28 f (nI j) = _
      unfold kSX1_isReduced_28
      rw [nI_clamp (show j < 2 ^ 31 by omega), (hf j hj).2]
      refine (kb_b_ff (kz_nle (n := 256) hj (by decide))).trans ?_
      refine (kb_g_tt (kb_in_n hj (by decide))).trans ?_
      exact kb_b_ff (kz_nlt (b := 3329) (by omega) (by have := (hf j hj).1; omega))
  · rintro u ⟨rfl, h⟩
    exact ⟨.inr (nI 256), kb_b_tt (kz_le (n := 256) (Nat.le_refl _) (by decide)), Or.inl ⟨_, rfl, h⟩⟩
theorem kz_isReduced {f term : Nat → Int32} {B : Nat → Nat} {K n2 : Nat} (hK : K ≤ 4) (hY : kz_Y B f 0 (384 * K)) (hn : 384 * K ≤ n2) (hn2 : n2 < 2 ^ 31) : ∃ x t, kFX1_isReduced n2 term (nI K) f = some (x, t) ∧ ((x = 1 ∧ kz_red B K) ∨ (x = 0 ∧ ¬ kz_red B K)) := by
  obtain ⟨r, k1, k2⟩ : ∃ r, kb_w (fun u : Int32 × (Nat → Int32) => kSX1_isReduced_2 n2 (nI K) f u.1 u.2) 100000 ((0 : Int32), term) = some r ∧ ((∃ y, r = .inr y ∧ kz_red B K) ∨ ∃ y, r = .inl y ∧ ¬ kz_red B K) := by
    refine kb_w_ex (σ := Int32 × (Nat → Int32)) (ρ := (Int32 × (Nat → Int32)) ⊕ (Int32 × (Nat → Int32))) (fun i u => u.1 = nI i ∧ ∀ i' c, i' < i → c < 256 → kz_tk 8 B (8 * (384 * i') + 12 * c) 12 < 3329) (fun r => (∃ y, r = .inr y ∧ kz_red B K) ∨ ∃ y, r = .inl y ∧ ¬ kz_red B K) K ?_ ?_ K 0 _ 100000 (by omega) (by omega) ⟨rfl, fun i' c h => absurd h (by omega)⟩
    · rintro i ⟨x, t⟩ hi ⟨h1, h2⟩
      replace h1 : x = nI i := h1
      subst h1
      obtain ⟨g, p1, e1⟩ := kz_unpack (B := B) (f := f) (g := t) (n := n2) (d := 12) (at' := 384 * i) (kz_Y_m hY (by omega) (by omega)) (by decide) (by decide) (by omega) hn2
      obtain ⟨r, p2, e2⟩ := kz_iR28 (f := g) (T := fun c => kz_tk 8 B (8 * (384 * i) + 12 * c) 12) (fun c hc => ⟨kz_tk_lt _ _ _ 12, e1 c hc⟩)
      rcases e2 with ⟨y, rfl, e2⟩ | ⟨y, rfl, e2⟩
      · refine Or.inl ⟨(nI (i + 1), g), ?_, rfl, fun i' c hi' hc => ?_⟩
        · show kSX1_isReduced_2 n2 (nI K) f (nI i) t = _
          unfold kSX1_isReduced_2
          rw [show (384 : Int32) * nI i = nI (384 * i) from pk_mul _ _]
          refine (kb_b_ff (kz_nle hi (by omega))).trans ?_
          refine (kb_o_v p1).trans ?_
          refine (kb_o_v p2).trans ?_
          refine kz_ir ?_
          exact (kb_n_v (kz_inc _)).trans rfl
        · by_cases e9 : i' = i
          · subst e9
            exact e2 c hc
          · exact h2 i' c (by omega) hc
      · refine Or.inr ⟨.inl (nI i, g), ?_, Or.inr ⟨_, rfl, fun h9 => e2 (fun c hc => h9 i c hi hc)⟩⟩
        show kSX1_isReduced_2 n2 (nI K) f (nI i) t = _
        unfold kSX1_isReduced_2
        rw [show (384 : Int32) * nI i = nI (384 * i) from pk_mul _ _]
        refine (kb_b_ff (kz_nle hi (by omega))).trans ?_
        refine (kb_o_v p1).trans ?_
        exact (kb_o_v p2).trans rfl
    · rintro ⟨x, t⟩ ⟨h1, h2⟩
      replace h1 : x = nI K := h1
      subst h1
      exact ⟨.inr (nI K, t), kb_b_tt (kz_le (Nat.le_refl _) (by omega)), Or.inl ⟨_, rfl, h2⟩⟩
  rcases k2 with ⟨⟨y1, y2⟩, rfl, k2⟩ | ⟨⟨y1, y2⟩, rfl, k2⟩
  · refine ⟨1, y2, ?_, Or.inl ⟨rfl, k2⟩⟩
    unfold kFX1_isReduced
    exact (kb_o_v k1).trans rfl
  · refine ⟨0, y2, ?_, Or.inr ⟨rfl, k2⟩⟩
    unfold kFX1_isReduced
    exact (kb_o_v k1).trans rfl
/-- whether the secret key's h is the hash of its public key -/
def kz_hh (rc : Nat → Int64) (B : Nat → Nat) (K : Nat) : Prop := ∀ k, k < 32 → kz_by (B (768 * K + 32 + k)) = kz_by (kz_H rc (fun k => kz_by (B (384 * K + k))) (384 * K + 32) k)
theorem kz_holdsItsHash {rc lanes moved columns : Nat → Int64} {turns targets hash f : Nat → Int32} {B : Nat → Nat} {K n2 : Nat} (hT : kz_tab turns targets) (hK : K ≤ 4) (hY : kz_Y B f 0 (768 * K + 96)) (hn : 768 * K + 96 ≤ n2) (hn2 : n2 < 2 ^ 31) :
    ∃ x pl rt l m c h', kFX1_holdsItsHash n2 lanes moved columns turns targets rc hash (nI K) f = some (x, pl, rt, l, m, c, h') ∧ ((x = 1 ∧ kz_hh rc B K) ∨ (x = 0 ∧ ¬ kz_hh rc B K)) := by
  obtain ⟨pl, l, m, c, h', p1, e1⟩ := kz_fillHash (rc := rc) (lanes := lanes) (moved := moved) (columns := columns) (hash := hash) (f := f) (at' := 384 * K) (n := 384 * K + 32) (n1 := n2) hT (by omega) hn2 (by omega)
  rw [kz_ab_c (w := fun k => kz_by (B (384 * K + k))) (fun k hk => (hY (384 * K + k) (Nat.zero_le _) (by omega)).2)] at e1
  obtain ⟨x, p2, e2⟩ := kz_startAlike (f := f) (g := h') (a := 768 * K + 32) (n := 32) (n1 := n2) (n3 := 32) (by omega) (by decide) hn2 (by decide) (by decide)
  have hiff : (∀ k, k < 32 → f (768 * K + 32 + k) = h' k) ↔ kz_hh rc B K := by
    constructor
    · intro h k hk
      have h9 := h k hk
      rw [(hY (768 * K + 32 + k) (Nat.zero_le _) (by omega)).2, e1 k hk] at h9
      exact h9
    · intro h k hk
      rw [(hY (768 * K + 32 + k) (Nat.zero_le _) (by omega)).2, e1 k hk]
      exact h k hk
  rw [hiff] at e2
  refine ⟨x, pl, 136, l, m, c, h', ?_, e2⟩
  unfold kFX1_holdsItsHash
  refine (kb_o_v (kz_numS K)).trans ?_
  refine (kb_o_v (kz_pubS K)).trans ?_
  refine (kb_o_v p1).trans ?_
  refine (kb_o_v (kz_hashP K)).trans ?_
  refine (kb_o_v p2).trans ?_
  refine kb_g_tt ?_
  rcases e2 with ⟨rfl, -⟩ | ⟨rfl, -⟩
  · decide
  · decide
-- ===== WRAP
def kz_wS (rc : Nat → Int64) (B z : Nat → Nat) (K : Nat) : Nat → Nat := kz_gs rc (fun k => kz_by (z k)) (fun k => kz_by (kz_H rc (fun k => kz_by (B k)) (384 * K + 32) k))
def kz_wC (rc : Nat → Int64) (B z : Nat → Nat) (K e du dv : Nat) : Nat → Nat := kz_enc rc (fun k => kz_by (B (384 * K + k))) (fun k => kz_by (kz_wS rc B z K (32 + k))) B 0 z K e du dv
theorem kz_wrap {rc lanes moved columns : Nat → Int64} {turns targets powers sum term counters three nbytes hash enc seeds f2 f3 f4 f5 : Nat → Int32} {B z : Nat → Nat} {K e du dv n2 n3 n4 n5 : Nat} {M V : Nat → Nat → Int32} (hT : kz_tab turns targets) (hP : kz_pows powers) (hK : K ≤ 4) (he : e ∈ [2, 3]) (hdu : du ≤ 11) (hdv : dv ≤ 5) (hB : kz_Y B f2 0 (384 * K + 32)) (hz : kz_Y z f3 0 32) (hn2 : 384 * K + 32 ≤ n2) (hn22 : n2 < 2 ^ 31) (hn3 : 32 ≤ n3) (hn32 : n3 < 2 ^ 31) (hn4 : 32 * du * K + 32 * dv ≤ n4) (hn42 : n4 < 2 ^ 31) (hn5 : 32 ≤ n5) (hn52 : n5 < 2 ^ 31) :
    ∃ r, kFX1_wrap n2 n3 n4 n5 lanes moved columns turns targets rc powers sum term counters three nbytes hash enc seeds (nI K) (nI e) (nI du) (nI dv) f2 f3 f4 f5 M V = some r ∧
      ((∃ t, r = .inl t ∧ kz_all rc (fun k => kz_by (B (384 * K + k))) K ∧ (∀ p, t.2.2.2.2.2.2.2.2.2.2.2.2.2.1 p = if p < 32 * du * K + 32 * dv then kz_by (kz_wC rc B z K e du dv p) else f4 p) ∧ ∀ p, t.2.2.2.2.2.2.2.2.2.2.2.2.2.2.1 p = if p < 32 then kz_by (kz_wS rc B z K p) else f5 p) ∨ (¬ kz_all rc (fun k => kz_by (B (384 * K + k))) K ∧ ∃ x, r = .inr ("java/lang/ArithmeticException", x) ∧ x.2.2.2.2.2.2.2.2.2.2.2.2.2.1 = f4 ∧ x.2.2.2.2.2.2.2.2.2.2.2.2.2.2.1 = f5)) := by
  obtain ⟨pl1, l1, m1, c1, h1, p1, e1⟩ := kz_fillHash (rc := rc) (lanes := lanes) (moved := moved) (columns := columns) (hash := hash) (f := f2) (at' := 0) (n := 384 * K + 32) (n1 := n2) hT (by omega) hn22 (by omega)
  rw [kz_ab_c (w := fun k => kz_by (B k)) (fun k hk => by rw [Nat.zero_add]; exact (hB k (Nat.zero_le _) hk).2)] at e1
  obtain ⟨pl2, l2, m2, c2, s2, p2, e2⟩ := kz_deriveSeeds (rc := rc) (lanes := l1) (moved := m1) (columns := c1) (seeds := seeds) (f := f3) (g := h1) (at' := 0) (n1 := n3) (n2 := 32) hT hn3 hn32 (by decide) (by decide)
  rw [kz_ab_c (w := fun k => kz_by (kz_H rc (fun k => kz_by (B k)) (384 * K + 32) k)) (fun k hk => by rw [Nat.zero_add]; exact e1 k hk), kz_ab_c (v := fun k => f3 (0 + k)) (w := fun k => kz_by (z k)) (fun k hk => by rw [Nat.zero_add]; exact (hz k (Nat.zero_le _) hk).2)] at e2
  replace e2 : ∀ k, k < 64 → s2 k = kz_by (kz_wS rc B z K k) := e2
  obtain ⟨r3, p3, e3⟩ := kz_encrypt (rc := rc) (lanes := l2) (moved := m2) (columns := c2) (sum := sum) (term := term) (counters := counters) (three := three) (nbytes := nbytes) (enc := enc) (seeds := s2) (s := fun k => kz_by (kz_wS rc B z K (32 + k))) (v := fun k => kz_by (B (384 * K + k))) (key := f2) (plain := f3) (B := B) (Bm := z) (M := M) (V := V) (pl := pl2) (rt := (72 : Int32)) (at' := 0) (n2 := n2) (n4 := n3) (dv := dv) hT hP hK he hdu hdv (fun k hk => e2 (32 + k) (by omega)) (fun k hk => by rw [Nat.zero_add]; exact (hB (384 * K + k) (Nat.zero_le _) (by omega)).2) (kz_Y_m hB (by omega) (by omega)) (by omega) hn22 hz hn3 hn32
  have hb : 32 * du * K + 32 * dv ≤ 1568 := by
    have h1 : 32 * du * K ≤ 352 * 4 := Nat.mul_le_mul (by omega) (by omega)
    omega
  rcases e3 with ⟨⟨w1, w2, g1, g2, g3, g4, g5, g6, g7, g8, en, M3, V3⟩, rfl, ha, e3⟩ | ⟨ha, ⟨x1, x2, x3, x4, x5, x6, x7, x8, x9, x10, x11, x12, x13⟩, rfl⟩
  · replace e3 : ∀ p, en p = if p < 32 * du * K + 32 * dv then kz_by (kz_wC rc B z K e du dv p) else enc p := e3
    refine ⟨.inl (w1, w2, g1, g2, g3, g4, g5, g6, g7, g8, h1, en, s2, va_cpy en f4 0 0 (32 * du * K + 32 * dv), va_cpy s2 f5 0 0 32, M3, V3), ?_, Or.inl ⟨_, rfl, ha, fun p => ?_, fun p => ?_⟩⟩
    · unfold kFX1_wrap
      refine (kb_o_v (kz_pubS K)).trans ?_
      refine (kb_o_v p1).trans ?_
      refine (kb_o_v p2).trans ?_
      refine (kb_o_v p3).trans ?_
      refine kz_il ?_
      refine (kb_o_v (kz_pkS K du dv)).trans ?_
      dsimp only
      rw [nI_clamp (show 32 * du * K + 32 * dv < 2 ^ 31 by omega)]
      refine (kb_g_tt (kz_cp (sp := 0) (dp := 0) (by omega) (by omega) (by decide) hn42)).trans ?_
      refine (kb_g_tt (kz_ft (a := 0) (fun i hi => ⟨_, by rw [e3, if_pos (by omega)]⟩))).trans ?_
      refine (kb_n_v (v := va_cpy en f4 0 0 (32 * du * K + 32 * dv)) rfl).trans ?_
      refine (kb_g_tt (kz_cp (sp := 0) (dp := 0) (n := 32) (by decide) (by omega) (by decide) hn52)).trans ?_
      refine (kb_g_tt (kz_ft (a := 0) (n := 32) (fun i hi => ⟨_, e2 (0 + i) (by omega)⟩))).trans ?_
      exact (kb_n_v (v := va_cpy s2 f5 0 0 32) rfl).trans rfl
    · show va_cpy en f4 0 0 (32 * du * K + 32 * dv) p = _
      unfold va_cpy
      by_cases h9 : p < 32 * du * K + 32 * dv
      · rw [if_pos ⟨Nat.zero_le _, by omega⟩, if_pos h9, Nat.zero_add, Nat.sub_zero, e3 p, if_pos h9]
      · rw [if_neg (by omega), if_neg h9]
    · show va_cpy s2 f5 0 0 32 p = _
      unfold va_cpy
      by_cases h9 : p < 32
      · rw [if_pos ⟨Nat.zero_le _, by omega⟩, if_pos h9, Nat.zero_add, Nat.sub_zero, e2 p (by omega)]
      · rw [if_neg (by omega), if_neg h9]
  · refine ⟨.inr ("java/lang/ArithmeticException", (x1, x2, x3, x4, x5, x6, x7, x8, x9, x10, h1, x11, s2, f4, f5, x12, x13)), ?_, Or.inr ⟨ha, _, rfl, ?_⟩⟩
    · unfold kFX1_wrap
      refine (kb_o_v (kz_pubS K)).trans ?_
      refine (kb_o_v p1).trans ?_
      refine (kb_o_v p2).trans ?_
      exact (kb_o_v p3).trans rfl
    · exact ⟨rfl, rfl⟩
-- ===== OPEN
def kz_rU (B : Nat → Nat) (du j c : Nat) : Nat := kz_ex (kz_tk 8 B (8 * (32 * du * j) + du * c) du) du
def kz_rW (Bs Bc : Nat → Nat) (K du dv c : Nat) : Nat := (kz_ex (kz_tk 8 Bc (8 * (32 * du * K) + dv * c) dv) dv + 3329 - kz_intt (kz_acc (fun _ => 0) (kz_nm Bs 0) (fun j => kz_ntt (kz_rU Bc du j)) K) c) % 3329
/-- the message that OPEN finds -/
def kz_oM (Bs Bc : Nat → Nat) (K du dv : Nat) : Nat → Nat := kz_pb 1 (fun c => kz_cmp (kz_rW Bs Bc K du dv c) 1)
theorem kz_duj {du j K : Nat} (h : j < K) : 32 * du * j + 32 * du ≤ 32 * du * K := by
  have h1 := Nat.mul_le_mul_left (32 * du) (show j + 1 ≤ K from h)
  rw [Nat.mul_succ] at h1
  exact h1
theorem kz_rM10 {powers sk pkt sum term : Nat → Int32} {V : Nat → Nat → Int32} {Bs Bc : Nat → Nat} {s0 : Nat → Nat} {K du n2 n3 : Nat} (hP : kz_pows powers) (hK : K ≤ 4) (hd0 : 0 < du) (hd : du ≤ 11) (hs : kz_Y Bs sk 0 (384 * K)) (hn2 : 384 * K ≤ n2) (hn22 : n2 < 2 ^ 31) (hc : kz_Y Bc pkt 0 (32 * du * K)) (hn3 : 32 * du * K ≤ n3) (hn32 : n3 < 2 ^ 31) (hf : kz_R s0 sum) :
    ∃ g, kb_w (fun u : Int32 × (Nat → Int32) × (Nat → Int32) × (Nat → Nat → Int32) => kSX1_recoverMessage_10 n2 n3 powers (nI K) (nI du) sk pkt u.1 u.2.1 u.2.2.1 u.2.2.2) 100000 ((0 : Int32), sum, term, V) = some (nI K, g) ∧ kz_R (kz_acc s0 (kz_nm Bs 0) (fun j => kz_ntt (kz_rU Bc du j)) K) g.1 := by
  have key := kz_for (G := (Nat → Int32) × (Nat → Int32) × (Nat → Nat → Int32)) (S := fun x g => kSX1_recoverMessage_10 n2 n3 powers (nI K) (nI du) sk pkt x g.1 g.2.1 g.2.2) (g := (sum, term, V)) nI K (fun j g => kz_R (kz_acc s0 (kz_nm Bs 0) (fun j => kz_ntt (kz_rU Bc du j)) j) g.1) (by omega) ?_ ?_ hf
  · exact key
  · rintro j ⟨sm, tm, V⟩ hj h
    replace h : kz_R (kz_acc s0 (kz_nm Bs 0) (fun j => kz_ntt (kz_rU Bc du j)) j) sm := h
    have hdj := kz_duj (du := du) hj
    obtain ⟨f1, p1, e1⟩ := kz_unpackC (B := Bc) (f := pkt) (g := V j) (n := n3) (d := du) (at' := 32 * du * j) (kz_Y_m hc (by omega) (by omega)) hd0 hd (by omega) hn32
    obtain ⟨f2, p2, e2⟩ := kz_transform e1 hP
    obtain ⟨f3, p3, e3⟩ := kz_unpackN (B := Bs) (f := sk) (g := tm) (n := n2) (at' := 0 + 384 * j) (kz_Y_m hs (by omega) (by omega)) (by omega) hn22
    obtain ⟨f4, p4, e4⟩ := kz_addProduct hP h e3 e2
    refine ⟨(f4, f3, va_up (va_up V j f1) j f2), ?_, e4⟩
    show kSX1_recoverMessage_10 n2 n3 powers (nI K) (nI du) sk pkt (nI j) sm tm V = _
    unfold kSX1_recoverMessage_10
    rw [show (384 : Int32) * nI j = nI (0 + 384 * j) from by rw [Nat.zero_add]; exact pk_mul _ _, nI_clamp (show j < 2 ^ 31 by omega)]
    refine (kb_b_ff (kz_nle hj (by omega))).trans ?_
    refine (kb_o_v (kz_vpS du)).trans ?_
    refine (kb_g_tt (kb_in_n (by omega) (by decide))).trans ?_
    rw [pk_mul]
    refine (kb_o_v p1).trans ?_
    refine (kb_n_v (v := va_up V j f1) rfl).trans ?_
    refine (kb_g_tt (kb_in_n (by omega) (by decide))).trans ?_
    dsimp only
    rw [va_up_self]
    refine (kb_o_v p2).trans ?_
    refine (kb_n_v (v := va_up (va_up V j f1) j f2) rfl).trans ?_
    refine (kb_o_v p3).trans ?_
    refine (kb_g_tt (kb_in_n (by omega) (by decide))).trans ?_
    rw [va_up_self]
    refine (kb_o_v p4).trans ?_
    exact (kb_n_v (kz_inc _)).trans rfl
  · rintro ⟨sm, tm, V⟩ h
    exact kb_b_tt (kz_le (Nat.le_refl _) (by omega))
theorem kz_recover {powers sk pkt sum term msg : Nat → Int32} {V : Nat → Nat → Int32} {Bs Bc : Nat → Nat} {K du dv n2 n3 : Nat} (hP : kz_pows powers) (hK : K ≤ 4) (hd0 : 0 < du) (hd : du ≤ 11) (hv0 : 0 < dv) (hv : dv ≤ 5) (hs : kz_Y Bs sk 0 (384 * K)) (hn2 : 384 * K ≤ n2) (hn22 : n2 < 2 ^ 31) (hc : kz_Y Bc pkt 0 (32 * du * K + 32 * dv)) (hn3 : 32 * du * K + 32 * dv ≤ n3) (hn32 : n3 < 2 ^ 31) :
    ∃ sm tm ms V', kFX1_recoverMessage n2 n3 powers sum term msg (nI K) (nI du) (nI dv) sk pkt V = some (sm, tm, ms, V') ∧ ∀ k, k < 32 → ms k = kz_by (kz_oM Bs Bc K du dv k) := by
  obtain ⟨f1, p1, e1⟩ := kz_clear sum
  obtain ⟨⟨f2, t2, V2⟩, p2, e2⟩ := kz_rM10 (term := term) (V := V) (n2 := n2) (n3 := n3) hP hK hd0 hd hs hn2 hn22 (kz_Y_m hc (by omega) (by omega)) (by omega) hn32 e1
  replace e2 : kz_R (kz_acc (fun _ => 0) (kz_nm Bs 0) (fun j => kz_ntt (kz_rU Bc du j)) K) f2 := e2
  obtain ⟨f3, p3, e3⟩ := kz_back e2 hP
  obtain ⟨f4, p4, e4⟩ := kz_unpackC (B := Bc) (f := pkt) (g := t2) (n := n3) (d := dv) (at' := 32 * du * K) (kz_Y_m hc (by omega) (by omega)) hv0 (by omega) (by omega) hn32
  obtain ⟨f5, p5, e5⟩ := kz_sub e4 e3
  obtain ⟨f6, ms, p6, e6⟩ := kz_packC (row := msg) (n3 := 32) (d := 1) (at' := 0) e5 (by decide) (by decide) (by decide)
  refine ⟨f6, f4, ms, V2, ?_, fun k hk => ?_⟩
  · unfold kFX1_recoverMessage
    refine (kb_o_v p1).trans ?_
    refine (kb_o_v p2).trans ?_
    refine (kb_o_v p3).trans ?_
    refine (kb_o_v (kz_scP K du)).trans ?_
    refine (kb_o_v p4).trans ?_
    refine (kb_o_v p5).trans ?_
    exact kb_o_v p6
  · rw [e6 k, if_pos ⟨by omega, by omega⟩, Nat.sub_zero]
    rfl
def kz_oS (rc : Nat → Int64) (Bs Bc : Nat → Nat) (K du dv : Nat) : Nat → Nat := kz_gs rc (fun k => kz_by (kz_oM Bs Bc K du dv k)) (fun k => kz_by (Bs (768 * K + 32 + k)))
def kz_oC (rc : Nat → Int64) (Bs Bc : Nat → Nat) (K e du dv : Nat) : Nat → Nat := kz_enc rc (fun k => kz_by (Bs (384 * K + 384 * K + k))) (fun k => kz_by (kz_oS rc Bs Bc K du dv (32 + k))) Bs (384 * K) (kz_oM Bs Bc K du dv) K e du dv
/-- whether the packet is the one that encrypting again gives -/
def kz_gen (rc : Nat → Int64) (Bs Bc : Nat → Nat) (K e du dv : Nat) : Prop := ∀ k, k < 32 * du * K + 32 * dv → kz_by (Bc k) = kz_by (kz_oC rc Bs Bc K e du dv k)
theorem kz_pb_lt (d : Nat) (F : Nat → Nat) (k : Nat) : kz_pb d F k < 256 := kz_tk_lt _ _ _ 8
theorem kz_oM_lt (Bs Bc : Nat → Nat) (K du dv k : Nat) : kz_oM Bs Bc K du dv k < 256 := by
  unfold kz_oM
  exact kz_pb_lt _ _ _
set_option maxHeartbeats 4000000 in
theorem kz_open {rc lanes moved columns : Nat → Int64} {turns targets powers sum term counters three nbytes msg enc seeds f2 f3 f4 : Nat → Int32} {Bs Bc : Nat → Nat} {K e du dv n2 n3 n4 : Nat} {M V : Nat → Nat → Int32} (hT : kz_tab turns targets) (hP : kz_pows powers) (hK : K ≤ 4) (he : e ∈ [2, 3]) (hd0 : 0 < du) (hdu : du ≤ 11) (hv0 : 0 < dv) (hdv : dv ≤ 5) (hs : kz_Y Bs f2 0 (768 * K + 96)) (hc : kz_Y Bc f3 0 (32 * du * K + 32 * dv)) (hn2 : 768 * K + 96 ≤ n2) (hn22 : n2 < 2 ^ 31) (hn3 : 32 * du * K + 32 * dv ≤ n3) (hn32 : n3 < 2 ^ 31) (hn4 : 32 ≤ n4) (hn42 : n4 < 2 ^ 31) :
    ∃ r, kFX1_open n2 n3 n4 lanes moved columns turns targets rc powers sum term counters three nbytes msg enc seeds (nI K) (nI e) (nI du) (nI dv) f2 f3 f4 M V = some r ∧
      ((∃ t, r = .inl t ∧ kz_all rc (fun k => kz_by (Bs (384 * K + 384 * K + k))) K ∧ ((t.1 = 1 ∧ kz_gen rc Bs Bc K e du dv ∧ ∀ p, t.2.2.2.2.2.2.2.2.2.2.2.2.2.2.1 p = if p < 32 then kz_by (kz_oS rc Bs Bc K du dv p) else f4 p) ∨ (t.1 = 0 ∧ ¬ kz_gen rc Bs Bc K e du dv ∧ ∀ p, t.2.2.2.2.2.2.2.2.2.2.2.2.2.2.1 p = if p < 32 then kz_by (kz_J rc (fun k => kz_by (Bs (768 * K + 64 + k))) (fun k => kz_by (Bc k)) (32 * du * K + 32 * dv) p) else f4 p))) ∨ (¬ kz_all rc (fun k => kz_by (Bs (384 * K + 384 * K + k))) K ∧ ∃ x, r = .inr ("java/lang/ArithmeticException", x) ∧ x.2.2.2.2.2.2.2.2.2.2.2.2.2.1 = f4)) := by
  obtain ⟨sm, tm, ms, V1, p1, e1⟩ := kz_recover (sum := sum) (term := term) (msg := msg) (V := V) (n2 := n2) (n3 := n3) hP hK hd0 hdu hv0 hdv (kz_Y_m hs (by omega) (by omega)) (by omega) hn22 hc hn3 hn32
  obtain ⟨pl2, l2, m2, c2, s2, p2, e2⟩ := kz_deriveSeeds (rc := rc) (lanes := lanes) (moved := moved) (columns := columns) (seeds := seeds) (f := ms) (g := f2) (at' := 768 * K + 32) (n1 := 32) (n2 := n2) hT (by decide) (by decide) (by omega) hn22
  rw [kz_ab_c (w := fun k => kz_by (Bs (768 * K + 32 + k))) (fun k hk => (hs (768 * K + 32 + k) (Nat.zero_le _) (by omega)).2), kz_ab_c (v := fun k => ms (0 + k)) (w := fun k => kz_by (kz_oM Bs Bc K du dv k)) (fun k hk => by rw [Nat.zero_add]; exact e1 k hk)] at e2
  replace e2 : ∀ k, k < 64 → s2 k = kz_by (kz_oS rc Bs Bc K du dv k) := e2
  obtain ⟨r3, p3, e3⟩ := kz_encrypt (rc := rc) (lanes := l2) (moved := m2) (columns := c2) (sum := sm) (term := tm) (counters := counters) (three := three) (nbytes := nbytes) (enc := enc) (seeds := s2) (s := fun k => kz_by (kz_oS rc Bs Bc K du dv (32 + k))) (v := fun k => kz_by (Bs (384 * K + 384 * K + k))) (key := f2) (plain := ms) (B := Bs) (Bm := kz_oM Bs Bc K du dv) (M := M) (V := V1) (pl := pl2) (rt := (72 : Int32)) (at' := 384 * K) (n2 := n2) (n4 := 32) (dv := dv) hT hP hK he hdu hdv (fun k hk => e2 (32 + k) (by omega)) (fun k hk => (hs (384 * K + 384 * K + k) (Nat.zero_le _) (by omega)).2) (kz_Y_m hs (by omega) (by omega)) (by omega) hn22 (fun i _ hi => ⟨kz_oM_lt Bs Bc K du dv i, e1 i hi⟩) (by decide) (by decide)
  have hb : 32 * du * K + 32 * dv ≤ 1568 := by
    have h1 : 32 * du * K ≤ 352 * 4 := Nat.mul_le_mul (by omega) (by omega)
    omega
  rcases e3 with ⟨⟨w1, w2, g1, g2, g3, g4, g5, g6, g7, g8, en, M3, V3⟩, rfl, ha, e3⟩ | ⟨ha, ⟨x1, x2, x3, x4, x5, x6, x7, x8, x9, x10, x11, x12, x13⟩, rfl⟩
  · replace e3 : ∀ p, en p = if p < 32 * du * K + 32 * dv then kz_by (kz_oC rc Bs Bc K e du dv p) else enc p := e3
    obtain ⟨x, p4, e4⟩ := kz_startAlike (f := f3) (g := en) (a := 0) (n := 32 * du * K + 32 * dv) (n1 := n3) (n3 := 1568) (by omega) (by omega) hn32 (by decide) (by omega)
    have hiff : (∀ k, k < 32 * du * K + 32 * dv → f3 (0 + k) = en k) ↔ kz_gen rc Bs Bc K e du dv := by
      constructor
      · intro h k hk
        have h9 := h k hk
        rw [Nat.zero_add, (hc k (Nat.zero_le _) (by omega)).2, e3 k, if_pos hk] at h9
        exact h9
      · intro h k hk
        rw [Nat.zero_add, (hc k (Nat.zero_le _) (by omega)).2, e3 k, if_pos hk]
        exact h k hk
    rw [hiff] at e4
    rcases e4 with ⟨rfl, hg⟩ | ⟨rfl, hg⟩
    · refine ⟨.inl ((1 : Int32), w1, w2, g1, g2, g3, g4, g5, g6, g7, g8, ms, en, s2, va_cpy s2 f4 0 0 32, M3, V3), ?_, Or.inl ⟨_, rfl, ha, Or.inl ⟨rfl, hg, fun p => ?_⟩⟩⟩
      · unfold kFX1_open
        refine (kb_o_v p1).trans ?_
        refine (kb_o_v (kz_hashP K)).trans ?_
        refine (kb_o_v p2).trans ?_
        refine (kb_o_v (kz_numS K)).trans ?_
        refine (kb_o_v p3).trans ?_
        refine kz_il ?_
        refine (kb_o_v (kz_pkS K du dv)).trans ?_
        refine (kb_o_v p4).trans ?_
        refine (kb_b_ff (by decide)).trans ?_
        refine (kb_g_tt (kz_cp (sp := 0) (dp := 0) (n := 32) (by decide) (by omega) (by decide) hn42)).trans ?_
        refine (kb_g_tt (kz_ft (a := 0) (n := 32) (fun i hi => ⟨_, e2 (0 + i) (by omega)⟩))).trans ?_
        refine (kb_n_v (v := va_cpy s2 f4 0 0 32) rfl).trans ?_
        exact kb_g_tt (by decide)
      · show va_cpy s2 f4 0 0 32 p = _
        unfold va_cpy
        by_cases h9 : p < 32
        · rw [if_pos ⟨Nat.zero_le _, by omega⟩, if_pos h9, Nat.zero_add, Nat.sub_zero, e2 p (by omega)]
        · rw [if_neg (by omega), if_neg h9]
    · obtain ⟨l5, p5, e5⟩ := kz_start g1 (136 : Int32)
      obtain ⟨l6, m6, c6, p6, e6⟩ := kz_take (rc := rc) (moved := g2) (columns := g3) (f := f2) (R := 136) (at' := 768 * K + 64) (n := 32) (n1 := n2) (u := kz_z) hT (by decide) (by decide) (by decide) e5 (by omega) hn22 (by decide)
      rw [kz_ab_c (w := fun k => kz_by (Bs (768 * K + 64 + k))) (fun k hk => (hs (768 * K + 64 + k) (Nat.zero_le _) (by omega)).2)] at p6 e6
      have hlt6 := kz_ab_lt (rc := rc) (R := 136) (v := fun k => kz_by (Bs (768 * K + 64 + k))) (u := kz_z) (by decide) (by decide) 32
      have hJ : kz_J rc (fun k => kz_by (Bs (768 * K + 64 + k))) (fun k => kz_by (Bc k)) (32 * du * K + 32 * dv) = kz_gb rc 136 (kz_fin rc 136 31 (kz_ab rc 136 (fun k => kz_by (Bc k)) (kz_ab rc 136 (fun k => kz_by (Bs (768 * K + 64 + k))) kz_z 32) (32 * du * K + 32 * dv))) := rfl
      rw [hJ]
      generalize kz_ab rc 136 (fun k => kz_by (Bs (768 * K + 64 + k))) kz_z 32 = U at p6 e6 hlt6 ⊢
      obtain ⟨l7, m7, c7, p7, e7⟩ := kz_take (rc := rc) (moved := m6) (columns := c6) (f := f3) (R := 136) (at' := 0) (n := 32 * du * K + 32 * dv) (n1 := n3) hT (by decide) (by decide) hlt6 e6 (by omega) hn32 (by omega)
      rw [kz_ab_c (w := fun k => kz_by (Bc k)) (fun k hk => by rw [Nat.zero_add]; exact (hc k (Nat.zero_le _) hk).2)] at p7 e7
      have hlt7 := kz_ab_lt (rc := rc) (R := 136) (v := fun k => kz_by (Bc k)) (by decide) hlt6 (32 * du * K + 32 * dv)
      generalize kz_ab rc 136 (fun k => kz_by (Bc k)) U (32 * du * K + 32 * dv) = W at p7 e7 hlt7 ⊢
      obtain ⟨l8, m8, c8, p8, e8⟩ := kz_finish (rc := rc) (moved := m7) (columns := c7) (sf := 31) hT (by decide) (by decide) hlt7 e7
      obtain ⟨l9, m9, c9, h9, p9, e9, b9⟩ := kz_give (rc := rc) (moved := m8) (columns := c8) (f := f4) (R := 136) (at' := 0) (n := 32) (n1 := n4) (u := kz_fin rc 136 31 W) hT (by decide) (by decide) (by rw [kz_fin0]; decide) e8 (by omega) hn42 (by decide)
      rw [kz_fin0] at p9
      generalize nI (kz_gv rc 136 (kz_fin rc 136 31 W) 32).2 = pl9 at p9
      refine ⟨.inl ((0 : Int32), pl9, nI 136, l9, m9, c9, g4, g5, g6, g7, g8, ms, en, s2, h9, M3, V3), ?_, Or.inl ⟨_, rfl, ha, Or.inr ⟨rfl, hg, fun p => ?_⟩⟩⟩
      · unfold kFX1_open
        refine (kb_o_v p1).trans ?_
        refine (kb_o_v (kz_hashP K)).trans ?_
        refine (kb_o_v p2).trans ?_
        refine (kb_o_v (kz_numS K)).trans ?_
        refine (kb_o_v p3).trans ?_
        refine kz_il ?_
        refine (kb_o_v (kz_pkS K du dv)).trans ?_
        refine (kb_o_v p4).trans ?_
        refine (kb_b_tt (by decide)).trans ?_
        refine (kb_o_v p5).trans ?_
        refine (kb_o_v (kz_hashP K)).trans ?_
        dsimp only
        rw [show nI (768 * K + 32) + (32 : Int32) = nI (768 * K + 64) from nI_add (768 * K + 32) 32]
        refine (kb_o_v p6).trans ?_
        refine (kb_o_v (kz_pkS K du dv)).trans ?_
        refine (kb_o_v p7).trans ?_
        refine (kb_o_v p8).trans ?_
        refine (kb_o_v p9).trans ?_
        exact kb_g_tt (by decide)
      · show h9 p = _
        rw [b9 p]
        by_cases h : p < 32
        · rw [if_pos ⟨Nat.zero_le _, by omega⟩, if_pos h, Nat.sub_zero]
        · rw [if_neg (by omega), if_neg h]
  · refine ⟨.inr ("java/lang/ArithmeticException", (x1, x2, x3, x4, x5, x6, x7, x8, x9, x10, ms, x11, s2, f4, x12, x13)), ?_, Or.inr ⟨ha, _, rfl, ?_⟩⟩
    · unfold kFX1_open
      refine (kb_o_v p1).trans ?_
      refine (kb_o_v (kz_hashP K)).trans ?_
      refine (kb_o_v p2).trans ?_
      refine (kb_o_v (kz_numS K)).trans ?_
      exact (kb_o_v p3).trans rfl
    · rfl
/-! Layer 2: the reference's ENCRYPT and what is beneath it. -/
theorem kz_rpack {X : Type} {S : Int32 → Int32 × X → Option ((Int32 × Int32 × X) ⊕ (Int32 × Int32 × X))} (put : (Nat → Int32) → X) {F : Nat → Nat} {f0 : Nat → Int32} {a d n1 : Nat} (hF : ∀ c, c < 256 → F c < 2 ^ d) (hd0 : 0 < d) (hd : d < 31) (hn : a + 32 * d ≤ n1) (hn1 : n1 < 2 ^ 27)
    (hs : ∀ c p g w g', c < 256 → kFX5_putBits (0 : Int32) (nI (F c)) (nI d) n1 (nI p) g = some (w, g') → S (nI c) (nI p, put g) = some (.inl (nI (c + 1), w, put g')))
    (hx : ∀ p g, S (nI 256) (nI p, put g) = some (.inr (nI 256, nI p, put g))) :
    ∃ g', kb_w (fun u : Int32 × Int32 × X => S u.1 u.2) 100000 ((0 : Int32), nI (8 * a), put f0) = some (nI 256, nI (8 * (a + 32 * d)), put g') ∧ ∀ k, g' k = if a ≤ k ∧ k < a + 32 * d then kz_by (kz_pb d F (k - a)) else f0 k := by
  have key := kz_for (G := Int32 × X) (S := S) (g := (nI (8 * a), put f0)) nI 256 (fun c g => ∃ g', g = (nI (8 * a + d * c), put g') ∧ kz_W (fun j => F ((j - 8 * a) / d) / 2 ^ ((j - 8 * a) % d) % 2) f0 g' (8 * a) (8 * a + d * c)) (by decide) (fun c g hc h => ?_) (fun g h => ?_) ⟨f0, rfl, fun i => by rw [if_neg (by omega)]⟩
  · obtain ⟨g, k1, g', rfl, k3⟩ := key
    refine ⟨g', ?_, fun k => ?_⟩
    · refine k1.trans ?_
      rw [show 8 * (a + 32 * d) = 8 * a + d * 256 by omega]
    · rw [k3 k]
      by_cases h : a ≤ k ∧ k < a + 32 * d
      · rw [if_pos h, if_pos ⟨by omega, by omega⟩, show (if 8 * a + d * 256 ≤ 8 * k + 8 then 8 * a + d * 256 - 8 * k else 8) = 8 by split <;> omega]
        refine congrArg kz_by ?_
        unfold kz_bs kz_pb kz_tk
        refine kz_sum_c (fun m hm => ?_)
        dsimp only
        rw [show 8 * k + m - 8 * a = 8 * (k - a) + m by omega]
      · rw [if_neg h, if_neg (by omega)]
  · obtain ⟨g', rfl, h⟩ := h
    have hcd : d * c + d ≤ 256 * d := by
      have h1 := Nat.mul_le_mul_left d (show c + 1 ≤ 256 from hc)
      rw [Nat.mul_succ] at h1
      omega
    obtain ⟨g2, p2, w2⟩ := kz_putBits (V := F c) (d := d) (n1 := n1) (fun j => Nat.mod_lt _ (by decide)) (show 8 * a % 8 = 0 by omega) (show 8 * a ≤ 8 * a + d * c by omega) h (Nat.lt_of_lt_of_le (hF c hc) (Nat.pow_le_pow_right (by decide) (by omega))) (fun k hk => by
      have h1 := kz_dm (x := 8 * a + d * c + k - 8 * a) (d := d) (m := c) (t := k) (by omega) hk
      show F c / 2 ^ k % 2 = F ((8 * a + d * c + k - 8 * a) / d) / 2 ^ ((8 * a + d * c + k - 8 * a) % d) % 2
      rw [h1.1, h1.2]) hd (by omega) hn1
    have e9 : 8 * a + d * (c + 1) = 8 * a + d * c + d := by rw [Nat.mul_succ]; omega
    refine ⟨(nI (8 * a + d * (c + 1)), put g2), ?_, g2, rfl, ?_⟩
    · rw [e9]
      exact hs c _ _ _ _ hc p2
    · rw [e9]
      exact w2
  · obtain ⟨g', rfl, h⟩ := h
    exact hx _ _
theorem kz_rtake {S : Int32 → Int32 × (Nat → Nat → Int32) → Option ((Int32 × Int32 × (Nat → Nat → Int32)) ⊕ (Int32 × Int32 × (Nat → Nat → Int32)))} {M : Nat → Nat → Int32} {v : Nat → Nat} {t p0 d : Nat} (hv : ∀ c, c < 256 → v c < 3329)
    (hs : ∀ c g, c < 256 → S (nI c) (nI (p0 + d * c), va_up M t g) = some (.inl (nI (c + 1), nI (p0 + d * c + d), va_up M t (upd g c (nI (v c))))))
    (hx : ∀ p g, S (nI 256) (nI p, va_up M t g) = some (.inr (nI 256, nI p, va_up M t g))) :
    ∃ g, kb_w (fun u : Int32 × Int32 × (Nat → Nat → Int32) => S u.1 u.2) 100000 ((0 : Int32), nI p0, M) = some (nI 256, nI (p0 + d * 256), va_up M t g) ∧ kz_R v g := by
  have key := kz_for (G := Int32 × (Nat → Nat → Int32)) (S := S) (g := (nI p0, M)) nI 256 (fun c w => ∃ g, w = (nI (p0 + d * c), va_up M t g) ∧ ∀ i, i < c → v i < 3329 ∧ g i = nI (v i)) (by decide) (fun c w hc h => ?_) (fun w h => ?_) ⟨M t, by rw [Nat.mul_zero, Nat.add_zero, kz_vi], fun i hi => absurd hi (by omega)⟩
  · obtain ⟨w, k1, g, rfl, k3⟩ := key
    exact ⟨g, k1, k3⟩
  · obtain ⟨g, rfl, h⟩ := h
    refine ⟨(nI (p0 + d * c + d), va_up M t (upd g c (nI (v c)))), hs c g hc, upd g c (nI (v c)), by rw [Nat.mul_succ, Nat.add_assoc], fun i hi => ?_⟩
    by_cases e9 : i = c
    · subst e9
      exact ⟨hv i hc, pk_us⟩
    · rw [pk_un e9]
      exact h i (by omega)
  · obtain ⟨g, rfl, h⟩ := h
    exact hx _ _
theorem kz_tk1 (B : Nat → Nat) (s : Nat) : kz_tk 8 B s 1 = B (s / 8) / 2 ^ (s % 8) % 2 := by
  show 0 + B ((s + 0) / 8) / 2 ^ ((s + 0) % 8) % 2 * 2 ^ 0 = _
  rw [Nat.zero_add, Nat.pow_zero, Nat.mul_one, Nat.add_zero]
/-- the first K rows of a grid hold the polynomials of a vector -/
abbrev kz_VM (S : Nat → Nat → Nat) (K : Nat) (M : Nat → Nat → Int32) : Prop := ∀ j, j < K → kz_R (S j) (M j)
theorem kz_VM_u {S : Nat → Nat → Nat} {K t : Nat} {M : Nat → Nat → Int32} (h : kz_VM S K M) (ht : K ≤ t) (g : Nat → Int32) : kz_VM S K (va_up M t g) := fun j hj => by
  rw [va_up_ne _ _ (show j ≠ t by omega)]
  exact h j hj
theorem kz_d10 {du : Nat} (h : du ∈ [10, 11]) : du ∈ [1, 4, 5, 10, 11] ∧ 10 ≤ du ∧ du ≤ 11 := by
  simp only [List.mem_cons, List.not_mem_nil, or_false] at h ⊢
  omega
theorem kz_d4 {dv : Nat} (h : dv ∈ [4, 5]) : dv ∈ [1, 4, 5, 10, 11] ∧ 4 ≤ dv ∧ dv ≤ 5 := by
  simp only [List.mem_cons, List.not_mem_nil, or_false] at h ⊢
  omega
theorem kz_e2 {e : Nat} (h : e ∈ [2, 3]) : 2 ≤ e ∧ e ≤ 3 := by
  simp only [List.mem_cons, List.not_mem_nil, or_false] at h
  omega
theorem kz_cmp_lt (x d : Nat) : kz_cmp x d < 2 ^ d := Nat.mod_lt _ (Nat.two_pow_pos d)
theorem kz_256 (du i : Nat) : 256 * du * i = 8 * (32 * du * i) := by
  rw [← Nat.mul_assoc 8 (32 * du) i, show 8 * (32 * du) = 256 * du by omega]
-- ===== the vector of noise
theorem kz_re3 {rc roots cubes s224 s256 state other column words sum : Nat → Int64} {turns block noise pts r s : Nat → Int32} {M : Nat → Nat → Int32} {K e fr n4 : Nat} {fl kd rt : Int32} {tot : Int64} (hT : ∀ i, i < 25 → turns i = nI (kz_tn i)) (hp : kz_pts pts) (hK : K ≤ 4) (he : e ≤ 3) (hs : ∀ k, k < 32 → r (fr + k) = s k) (hn : fr + 32 ≤ n4) (hn4 : n4 < 2 ^ 31) :
    ∃ g, kb_w (fun u : Int32 × Int32 × Int32 × Int32 × Int64 × (Nat → Int32) × (Nat → Int64) × (Nat → Nat → Int32) × (Nat → Int32) × (Nat → Int64) × (Nat → Int64) × (Nat → Int64) × (Nat → Int64) => kSX5_encrypt_3 (nI fr) n4 (nI K) (nI e) roots cubes s224 s256 turns rc pts r u.1 u.2.1 u.2.2.1 u.2.2.2.1 u.2.2.2.2.1 u.2.2.2.2.2.1 u.2.2.2.2.2.2.1 u.2.2.2.2.2.2.2.1 u.2.2.2.2.2.2.2.2.1 u.2.2.2.2.2.2.2.2.2.1 u.2.2.2.2.2.2.2.2.2.2.1 u.2.2.2.2.2.2.2.2.2.2.2.1 u.2.2.2.2.2.2.2.2.2.2.2.2) 100000 ((0 : Int32), fl, kd, rt, tot, block, column, M, noise, other, state, sum, words) = some (nI K, g) ∧ kz_VM (kz_vec rc s e) K g.2.2.2.2.2.2.1 := by
  have key := kz_for (G := Int32 × Int32 × Int32 × Int64 × (Nat → Int32) × (Nat → Int64) × (Nat → Nat → Int32) × (Nat → Int32) × (Nat → Int64) × (Nat → Int64) × (Nat → Int64) × (Nat → Int64)) (S := fun x g => kSX5_encrypt_3 (nI fr) n4 (nI K) (nI e) roots cubes s224 s256 turns rc pts r x g.1 g.2.1 g.2.2.1 g.2.2.2.1 g.2.2.2.2.1 g.2.2.2.2.2.1 g.2.2.2.2.2.2.1 g.2.2.2.2.2.2.2.1 g.2.2.2.2.2.2.2.2.1 g.2.2.2.2.2.2.2.2.2.1 g.2.2.2.2.2.2.2.2.2.2.1 g.2.2.2.2.2.2.2.2.2.2.2) (g := (fl, kd, rt, tot, block, column, M, noise, other, state, sum, words)) nI K (fun i g => kz_VM (kz_vec rc s e) i g.2.2.2.2.2.2.1) (by omega) ?_ ?_ (fun j hj => absurd hj (by omega))
  · exact key
  · rintro i ⟨fl, kd, rt, tot, bl, co, M, nz, ot, st, sm, wo⟩ hi h
    replace h : kz_VM (kz_vec rc s e) i M := h
    obtain ⟨fl1, t1, s1, o1, c1, nz1, f1, p1, e1⟩ := kz_rbinomial (rc := rc) (roots := roots) (cubes := cubes) (s224 := s224) (s256 := s256) (state := st) (other := ot) (column := co) (words := wo) (block := bl) (noise := nz) (f := M i) (g := r) (b := i) hT hs he hn hn4
    obtain ⟨sm2, f2, p2, e2⟩ := kz_rntt (sm := sm) e1 hp
    refine ⟨(fl1, nI 12, nI 136, t1, bl, c1, va_up (va_up M i f1) i f2, nz1, o1, s1, sm2, wo), ?_, fun j hj => ?_⟩
    · show kSX5_encrypt_3 (nI fr) n4 (nI K) (nI e) roots cubes s224 s256 turns rc pts r (nI i) fl kd rt tot bl co M nz ot st sm wo = _
      unfold kSX5_encrypt_3
      rw [nI_clamp (show i < 2 ^ 31 by omega)]
      refine (kb_b_ff (kz_nle hi (by omega))).trans ?_
      refine (kb_g_tt (kb_in_n (by omega) (by decide))).trans ?_
      refine (kb_o_v p1).trans ?_
      refine (kb_n_v (v := va_up M i f1) rfl).trans ?_
      refine (kb_g_tt (kb_in_n (by omega) (by decide))).trans ?_
      dsimp only
      rw [va_up_self]
      refine (kb_o_v p2).trans ?_
      refine (kb_n_v (v := va_up (va_up M i f1) i f2) rfl).trans ?_
      exact (kb_n_v (kz_inc _)).trans rfl
    · show kz_R _ (va_up (va_up M i f1) i f2 j)
      by_cases e9 : j = i
      · subst e9
        rw [va_up_self]
        exact e2
      · rw [va_up_ne _ _ e9, va_up_ne _ _ e9]
        exact h j (by omega)
  · rintro ⟨fl, kd, rt, tot, bl, co, M, nz, ot, st, sm, wo⟩ h
    exact kb_b_tt (kz_le (Nat.le_refl _) (by omega))
-- ===== one row of the matrix
theorem kz_re83 {rc roots cubes s224 s256 state other column words : Nat → Int64} {turns block pts key v : Nat → Int32} {M : Nat → Nat → Int32} {S : Nat → Nat → Nat} {s0 : Nat → Nat} {K i at' n1 : Nat} {fl kd rt : Int32} {tot : Int64} (hT : ∀ i, i < 25 → turns i = nI (kz_tn i)) (hp : kz_pts pts) (hK : K ≤ 4) (hv : ∀ k, k < 32 → key (at' + 384 * K + k) = v k) (hn : at' + 384 * K + 32 ≤ n1) (hn1 : n1 < 2 ^ 31) (hS : kz_VM S K M) (hf : kz_R s0 (M 10)) :
    ∃ r, kb_w (fun u : Int32 × Int32 × Int32 × Int32 × Int64 × (Nat → Int32) × (Nat → Int64) × (Nat → Nat → Int32) × (Nat → Int64) × (Nat → Int64) × (Nat → Int64) => kSX5_encrypt_83 (nI at') (nI i) n1 (nI K) roots cubes s224 s256 turns rc pts key u.1 u.2.1 u.2.2.1 u.2.2.2.1 u.2.2.2.2.1 u.2.2.2.2.2.1 u.2.2.2.2.2.2.1 u.2.2.2.2.2.2.2.1 u.2.2.2.2.2.2.2.2.1 u.2.2.2.2.2.2.2.2.2.1 u.2.2.2.2.2.2.2.2.2.2) 100000 ((0 : Int32), fl, kd, rt, tot, block, column, M, other, state, words) = some r ∧
      ((∃ t, r = .inr t ∧ (∀ j, j < K → ¬ (kz_smp rc v i j).1 < 256) ∧ kz_R (kz_acc s0 (fun j => (kz_smp rc v i j).2) S K) (t.2.2.2.2.2.2.2.1 10) ∧ kz_VM S K t.2.2.2.2.2.2.2.1) ∨ ((∃ j, j < K ∧ (kz_smp rc v i j).1 < 256) ∧ ∃ t, r = .inl t)) := by
  refine kb_w_ex (σ := Int32 × Int32 × Int32 × Int32 × Int64 × (Nat → Int32) × (Nat → Int64) × (Nat → Nat → Int32) × (Nat → Int64) × (Nat → Int64) × (Nat → Int64)) (ρ := (Int32 × Int32 × Int32 × Int32 × Int64 × (Nat → Int32) × (Nat → Int64) × (Nat → Nat → Int32) × (Nat → Int64) × (Nat → Int64) × (Nat → Int64)) ⊕ (Int32 × Int32 × Int32 × Int32 × Int64 × (Nat → Int32) × (Nat → Int64) × (Nat → Nat → Int32) × (Nat → Int64) × (Nat → Int64) × (Nat → Int64))) (fun j u => u.1 = nI j ∧ (∀ j', j' < j → ¬ (kz_smp rc v i j').1 < 256) ∧ kz_R (kz_acc s0 (fun j => (kz_smp rc v i j).2) S j) (u.2.2.2.2.2.2.2.1 10) ∧ kz_VM S K u.2.2.2.2.2.2.2.1) (fun r => (∃ t, r = .inr t ∧ (∀ j, j < K → ¬ (kz_smp rc v i j).1 < 256) ∧ kz_R (kz_acc s0 (fun j => (kz_smp rc v i j).2) S K) (t.2.2.2.2.2.2.2.1 10) ∧ kz_VM S K t.2.2.2.2.2.2.2.1) ∨ ((∃ j, j < K ∧ (kz_smp rc v i j).1 < 256) ∧ ∃ t, r = .inl t)) K ?_ ?_ K 0 _ 100000 (by omega) (by omega) ⟨rfl, fun j hj => absurd hj (by omega), hf, hS⟩
  · rintro j ⟨x, fl, kd, rt, tot, bl, co, M, ot, st, wo⟩ hj ⟨h1, h2, h3, h4⟩
    replace h1 : x = nI j := h1
    subst h1
    replace h3 : kz_R (kz_acc s0 (fun j => (kz_smp rc v i j).2) S j) (M 10) := h3
    replace h4 : kz_VM S K M := h4
    obtain ⟨fl1, t1, s1, o1, c1, f1, p1, e1⟩ := kz_rsample (rc := rc) (roots := roots) (cubes := cubes) (s224 := s224) (s256 := s256) (state := st) (other := ot) (column := co) (words := wo) (block := bl) (f := M 11) (g := key) (at' := at' + 384 * K) (j := i) (i := j) (n2 := n1) hT hv hn hn1
    have hat : nI at' + (384 : Int32) * nI K = nI (at' + 384 * K) := by rw [show (384 : Int32) * nI K = nI (384 * K) from pk_mul _ _, nI_add]
    by_cases hc : (kz_smp rc v i j).1 < 256
    · rw [if_pos hc] at p1
      refine Or.inr ⟨.inl (nI j, fl1, nI 11, nI 168, t1, bl, c1, va_up M 11 f1, o1, s1, wo), ?_, Or.inr ⟨⟨j, hj, hc⟩, _, rfl⟩⟩
      show kSX5_encrypt_83 (nI at') (nI i) n1 (nI K) roots cubes s224 s256 turns rc pts key (nI j) fl kd rt tot bl co M ot st wo = _
      unfold kSX5_encrypt_83
      rw [hat]
      refine (kb_b_ff (kz_nle hj (by omega))).trans ?_
      refine (kb_o_v p1).trans ?_
      refine (kb_n_v (v := va_up M 11 f1) rfl).trans ?_
      exact kb_b_tt (show decide ((0 : Int32) = 0) = true by decide)
    · rw [if_neg hc] at p1
      obtain ⟨f2, p2, e2⟩ := kz_rprod hp h3 (kz_Rn_R hc e1) (h4 j hj)
      refine Or.inl ⟨(nI (j + 1), fl1, nI 11, nI 168, t1, bl, c1, va_up (va_up M 11 f1) 10 f2, o1, s1, wo), ?_, rfl, ?_, ?_, ?_⟩
      · show kSX5_encrypt_83 (nI at') (nI i) n1 (nI K) roots cubes s224 s256 turns rc pts key (nI j) fl kd rt tot bl co M ot st wo = _
        unfold kSX5_encrypt_83
        rw [hat, nI_clamp (show j < 2 ^ 31 by omega)]
        refine (kb_b_ff (kz_nle hj (by omega))).trans ?_
        refine (kb_o_v p1).trans ?_
        refine (kb_n_v (v := va_up M 11 f1) rfl).trans ?_
        refine (kb_b_ff (show decide ((1 : Int32) = 0) = false by decide)).trans ?_
        refine (kb_g_tt (kb_in_n (by omega) (by decide))).trans ?_
        refine (kb_g_tt (decide_eq_true (by omega))).trans ?_
        refine (kb_g_tt (decide_eq_true (by omega))).trans ?_
        dsimp only
        rw [va_up_self, va_up_ne _ _ (show (10 : Nat) ≠ 11 by decide), va_up_ne _ _ (show j ≠ 11 by omega)]
        refine (kb_o_v p2).trans ?_
        refine (kb_n_v (v := va_up (va_up M 11 f1) 10 f2) rfl).trans ?_
        exact (kb_n_v (kz_inc _)).trans rfl
      · intro j' hj'
        by_cases e9 : j' = j
        · subst e9
          exact hc
        · exact h2 j' (by omega)
      · show kz_R (kz_acc s0 (fun j => (kz_smp rc v i j).2) S (j + 1)) (va_up (va_up M 11 f1) 10 f2 10)
        rw [va_up_self]
        exact e2
      · exact kz_VM_u (kz_VM_u h4 (by omega) f1) (by omega) f2
  · rintro ⟨x, fl, kd, rt, tot, bl, co, M, ot, st, wo⟩ ⟨h1, h2, h3, h4⟩
    replace h1 : x = nI K := h1
    subst h1
    exact ⟨.inr (nI K, fl, kd, rt, tot, bl, co, M, ot, st, wo), kb_b_tt (kz_le (Nat.le_refl _) (by omega)), Or.inl ⟨_, rfl, h2, h3, h4⟩⟩
-- ===== numbers into bytes
theorem kz_re206 {a b : Nat → Nat} {M : Nat → Nat → Int32} {back : Nat → Int32} {du at' : Nat} (hdu : du ∈ [10, 11]) (ha : kz_R a (M 10)) (hb : kz_R b (M 12)) (hn : at' + 32 * du ≤ 8192) :
    ∃ g, kb_w (fun u : Int32 × Int32 × (Nat → Int32) => kSX5_encrypt_206 (nI du) M u.1 u.2.1 u.2.2) 100000 ((0 : Int32), nI (8 * at'), back) = some (nI 256, nI (8 * (at' + 32 * du)), g) ∧ ∀ k, g k = if at' ≤ k ∧ k < at' + 32 * du then kz_by (kz_pb du (fun c => kz_cmp ((a c + b c) % 3329) du) (k - at')) else back k := by
  obtain ⟨hd1, hd2, hd3⟩ := kz_d10 hdu
  refine kz_rpack (S := fun x u => kSX5_encrypt_206 (nI du) M x u.1 u.2) (fun g => g) (F := fun c => kz_cmp ((a c + b c) % 3329) du) (n1 := 8192) (fun c _ => kz_cmp_lt _ _) (by omega) (by omega) hn (by decide) (fun c p g w g' hc h => ?_) (fun p g => kb_b_tt (kz_le (n := 256) (Nat.le_refl _) (by decide)))
  have h1 := ha c hc
  have h2 := hb c hc
  show kSX5_encrypt_206 (nI du) M (nI c) (nI p) g = _
  unfold kSX5_encrypt_206
  rw [nI_clamp (show c < 2 ^ 31 by omega), h1.2, h2.2, nI_add]
  refine (kb_b_ff (kz_nle (n := 256) hc (by decide))).trans ?_
  refine (kb_g_tt (kb_in_n hc (by decide))).trans ?_
  refine (kb_g_tt (kb_in_n hc (by decide))).trans ?_
  refine (kb_n_v (v := nI ((a c + b c) % 3329)) (kz_rem (by omega))).trans ?_
  refine (kb_o_v (kz_rcmp hd1 (Nat.mod_lt _ (by decide)))).trans ?_
  refine (kb_o_v h).trans ?_
  exact (kb_n_v (kz_inc _)).trans rfl
theorem kz_re421 {a b : Nat → Nat} {M : Nat → Nat → Int32} {back m : Nat → Int32} {Bm : Nat → Nat} {dv at' n3 : Nat} (hdv : dv ∈ [4, 5]) (ha : kz_R a (M 10)) (hb : kz_R b (M 12)) (hm : kz_Y Bm m 0 32) (hn3 : 32 ≤ n3) (hn32 : n3 < 2 ^ 31) (hn : at' + 32 * dv ≤ 8192) :
    ∃ g, kb_w (fun u : Int32 × Int32 × (Nat → Int32) => kSX5_encrypt_421 n3 (nI dv) m M u.1 u.2.1 u.2.2) 100000 ((0 : Int32), nI (8 * at'), back) = some (nI 256, nI (8 * (at' + 32 * dv)), g) ∧ ∀ k, g k = if at' ≤ k ∧ k < at' + 32 * dv then kz_by (kz_pb dv (fun c => kz_cmp (((a c + b c) % 3329 + kz_ex (kz_tk 8 Bm (8 * 0 + 1 * c) 1) 1) % 3329) dv) (k - at')) else back k := by
  obtain ⟨hd1, hd2, hd3⟩ := kz_d4 hdv
  refine kz_rpack (S := fun x u => kSX5_encrypt_421 n3 (nI dv) m M x u.1 u.2) (fun g => g) (F := fun c => kz_cmp (((a c + b c) % 3329 + kz_ex (kz_tk 8 Bm (8 * 0 + 1 * c) 1) 1) % 3329) dv) (n1 := 8192) (fun c _ => kz_cmp_lt _ _) (by omega) (by omega) hn (by decide) (fun c p g w g' hc h => ?_) (fun p g => kb_b_tt (kz_le (n := 256) (Nat.le_refl _) (by decide)))
  have h1 := ha c hc
  have h2 := hb c hc
  have h3 := kz_bitOf (B := Bm) (f := m) (n1 := n3) (at' := 0) (j := c) (lo := 0) (hi := 32) hm (by omega) (by omega) hn3 hn32 (by omega)
  rw [← kz_tk1, show 8 * 0 + c = 8 * 0 + 1 * c by omega] at h3
  have h4 : kz_tk 8 Bm (8 * 0 + 1 * c) 1 < 2 ^ 1 := kz_tk_lt _ _ _ 1
  have h5 := kz_ex_lt (d := 1) (by decide) (by decide) h4
  have h6 := kz_rex (d := 1) (by decide) (by decide) h4
  show kSX5_encrypt_421 n3 (nI dv) m M (nI c) (nI p) g = _
  unfold kSX5_encrypt_421
  rw [nI_clamp (show c < 2 ^ 31 by omega), h1.2, h2.2, nI_add]
  refine (kb_b_ff (kz_nle (n := 256) hc (by decide))).trans ?_
  refine (kb_g_tt (kb_in_n hc (by decide))).trans ?_
  refine (kb_g_tt (kb_in_n hc (by decide))).trans ?_
  refine (kb_o_v h3).trans ?_
  refine (kb_o_v h6).trans ?_
  dsimp only at h ⊢
  generalize kz_ex (kz_tk 8 Bm (8 * 0 + 1 * c) 1) 1 = x at h h5 ⊢
  rw [nI_add]
  refine (kb_n_v (v := nI (((a c + b c) % 3329 + x) % 3329)) (by rw [kz_rem (by omega), Nat.mod_add_mod])).trans ?_
  refine (kb_o_v (kz_rcmp hd1 (Nat.mod_lt _ (by decide)))).trans ?_
  refine (kb_o_v h).trans ?_
  exact (kb_n_v (kz_inc _)).trans rfl
-- ===== the numbers of a key
theorem kz_re312 {B : Nat → Nat} {key : Nat → Int32} {M : Nat → Nat → Int32} {at' j n1 : Nat} (hY : kz_Y B key at' (at' + 384 * (j + 1))) (hn : at' + 384 * (j + 1) ≤ n1) (hn1 : n1 < 2 ^ 27) :
    ∃ g, kb_w (fun u : Int32 × Int32 × (Nat → Nat → Int32) => kSX5_encrypt_312 (nI at') n1 key u.1 u.2.1 u.2.2) 100000 ((0 : Int32), nI (3072 * j), M) = some (nI 256, nI (3072 * j + 12 * 256), va_up M 11 g) ∧ kz_R (kz_nm B at' j) g := by
  refine kz_rtake (S := fun x u => kSX5_encrypt_312 (nI at') n1 key x u.1 u.2) (fun c _ => Nat.mod_lt _ (by decide)) (fun c g hc => ?_) (fun p g => kb_b_tt (kz_le (n := 256) (Nat.le_refl _) (by decide)))
  have h1 := kz_takeBits (B := B) (f := key) (n1 := n1) (at' := at') (b := 3072 * j + 12 * c) (d := 12) hY (by omega) (by omega) hn hn1 (by decide)
  rw [show 8 * at' + (3072 * j + 12 * c) = 8 * (at' + 384 * j) + 12 * c by omega] at h1
  have h2 : kz_tk 8 B (8 * (at' + 384 * j) + 12 * c) 12 < 2 ^ 12 := kz_tk_lt _ _ _ 12
  show kSX5_encrypt_312 (nI at') n1 key (nI c) (nI (3072 * j + 12 * c)) (va_up M 11 g) = _
  unfold kSX5_encrypt_312 kz_nm
  rw [nI_clamp (show c < 2 ^ 31 by omega)]
  refine (kb_b_ff (kz_nle (n := 256) hc (by decide))).trans ?_
  refine (kb_o_v h1).trans ?_
  refine (kb_g_tt (kb_in_n hc (by decide))).trans ?_
  dsimp only
  generalize kz_tk 8 B (8 * (at' + 384 * j) + 12 * c) 12 = x at h2 ⊢
  rw [kz_rem (by omega), va_up_self, kz_vu]
  refine (kb_n_v rfl).trans ?_
  exact (kb_n_v (kz_inc _)).trans rfl
theorem kz_re290 {B s0 : Nat → Nat} {S : Nat → Nat → Nat} {key pts : Nat → Int32} {M : Nat → Nat → Int32} {bt : Int32} {at' K n1 : Nat} (hp : kz_pts pts) (hK : K ≤ 4) (hY : kz_Y B key at' (at' + 384 * K)) (hn : at' + 384 * K ≤ n1) (hn1 : n1 < 2 ^ 27) (hS : kz_VM S K M) (hf : kz_R s0 (M 10)) :
    ∃ g, kb_w (fun u : Int32 × Int32 × (Nat → Nat → Int32) => kSX5_encrypt_290 (nI at') n1 (nI K) pts key u.1 u.2.1 u.2.2) 100000 ((0 : Int32), bt, M) = some (nI K, g) ∧ kz_R (kz_acc s0 (kz_nm B at') S K) (g.2 10) := by
  have hk := kz_for (G := Int32 × (Nat → Nat → Int32)) (S := fun x g => kSX5_encrypt_290 (nI at') n1 (nI K) pts key x g.1 g.2) (g := (bt, M)) nI K (fun j g => kz_R (kz_acc s0 (kz_nm B at') S j) (g.2 10) ∧ kz_VM S K g.2) (by omega) ?_ ?_ ⟨hf, hS⟩
  · obtain ⟨g, k1, k2, -⟩ := hk
    exact ⟨g, k1, k2⟩
  · rintro j ⟨bt, M⟩ hj ⟨h1, h2⟩
    replace h1 : kz_R (kz_acc s0 (kz_nm B at') S j) (M 10) := h1
    replace h2 : kz_VM S K M := h2
    obtain ⟨g, p1, e1⟩ := kz_re312 (B := B) (key := key) (M := M) (at' := at') (j := j) (n1 := n1) (kz_Y_m hY (by omega) (by omega)) (by omega) hn1
    obtain ⟨f2, p2, e2⟩ := kz_rprod hp h1 e1 (h2 j hj)
    refine ⟨(nI (3072 * j + 12 * 256), va_up (va_up M 11 g) 10 f2), ?_, ?_, kz_VM_u (kz_VM_u h2 (by omega) g) (by omega) f2⟩
    · show kSX5_encrypt_290 (nI at') n1 (nI K) pts key (nI j) bt M = _
      unfold kSX5_encrypt_290
      rw [nI_clamp (show j < 2 ^ 31 by omega)]
      refine (kb_b_ff (kz_nle hj (by omega))).trans ?_
      refine (kb_n_v (v := nI (3072 * j)) (pk_mul 3072 j)).trans ?_
      refine (kb_o_v p1).trans ?_
      refine (kb_g_tt (kb_in_n (by omega) (by decide))).trans ?_
      refine (kb_g_tt (decide_eq_true (by omega))).trans ?_
      refine (kb_g_tt (decide_eq_true (by omega))).trans ?_
      dsimp only
      rw [va_up_self, va_up_ne _ _ (show (10 : Nat) ≠ 11 by decide), va_up_ne _ _ (show j ≠ 11 by omega)]
      refine (kb_o_v p2).trans ?_
      refine (kb_n_v (v := va_up (va_up M 11 g) 10 f2) rfl).trans ?_
      exact (kb_n_v (kz_inc _)).trans rfl
    · show kz_R (kz_acc s0 (kz_nm B at') S (j + 1)) (va_up (va_up M 11 g) 10 f2 10)
      rw [va_up_self]
      exact e2
  · rintro ⟨bt, M⟩ h
    exact kb_b_tt (kz_le (Nat.le_refl _) (by omega))
-- ===== the polynomials U
theorem kz_re61 {rc roots cubes s224 s256 state other column words sum : Nat → Int64} {turns block noise pts key r s v back : Nat → Int32} {M : Nat → Nat → Int32} {K e du fr at' n1 n4 : Nat} {bt fl kd rt : Int32} {tot : Int64} (hT : ∀ i, i < 25 → turns i = nI (kz_tn i)) (hp : kz_pts pts) (hK : K ≤ 4) (hdu : du ∈ [10, 11]) (hs : ∀ k, k < 32 → r (fr + k) = s k) (hfr : fr + 32 ≤ n4) (hn4 : n4 < 2 ^ 31) (hv : ∀ k, k < 32 → key (at' + 384 * K + k) = v k) (hn : at' + 384 * K + 32 ≤ n1) (hn1 : n1 < 2 ^ 31) (hS : kz_VM (kz_vec rc s e) K M) :
    ∃ g, kb_w (fun u : Int32 × Int32 × Int32 × Int32 × Int32 × Int32 × Int64 × (Nat → Int32) × (Nat → Int32) × (Nat → Int64) × (Nat → Nat → Int32) × (Nat → Int32) × (Nat → Int64) × (Nat → Int64) × (Nat → Int64) × (Nat → Int64) => kSX5_encrypt_61 (nI at') (nI fr) n1 n4 (nI K) (nI du) roots cubes s224 s256 turns rc pts key r u.1 u.2.1 u.2.2.1 u.2.2.2.1 u.2.2.2.2.1 u.2.2.2.2.2.1 u.2.2.2.2.2.2.1 u.2.2.2.2.2.2.2.1 u.2.2.2.2.2.2.2.2.1 u.2.2.2.2.2.2.2.2.2.1 u.2.2.2.2.2.2.2.2.2.2.1 u.2.2.2.2.2.2.2.2.2.2.2.1 u.2.2.2.2.2.2.2.2.2.2.2.2.1 u.2.2.2.2.2.2.2.2.2.2.2.2.2.1 u.2.2.2.2.2.2.2.2.2.2.2.2.2.2.1 u.2.2.2.2.2.2.2.2.2.2.2.2.2.2.2) 100000 ((0 : Int32), (0 : Int32), bt, fl, kd, rt, tot, back, block, column, M, noise, other, state, sum, words) = some g ∧
      ((∃ t, g = .inr t ∧ kz_all rc v K ∧ t.1 = nI (8 * (32 * du * K)) ∧ kz_VM (kz_vec rc s e) K t.2.2.2.2.2.2.2.2.2.2.1 ∧ ∀ p, t.2.2.2.2.2.2.2.1 p = if p < 32 * du * K then kz_by (kz_pb du (fun c => kz_cmp (kz_eU rc v s K e (p / (32 * du)) c) du) (p % (32 * du))) else back p) ∨ (¬ kz_all rc v K ∧ ∃ t, g = .inl t)) := by
  obtain ⟨hd1, hd2, hd3⟩ := kz_d10 hdu
  refine kb_w_ex (σ := Int32 × Int32 × Int32 × Int32 × Int32 × Int32 × Int64 × (Nat → Int32) × (Nat → Int32) × (Nat → Int64) × (Nat → Nat → Int32) × (Nat → Int32) × (Nat → Int64) × (Nat → Int64) × (Nat → Int64) × (Nat → Int64)) (ρ := (Int32 × Int32 × Int32 × Int32 × Int32 × Int32 × Int64 × (Nat → Int32) × (Nat → Int32) × (Nat → Int64) × (Nat → Nat → Int32) × (Nat → Int32) × (Nat → Int64) × (Nat → Int64) × (Nat → Int64) × (Nat → Int64)) ⊕ (Int32 × Int32 × Int32 × Int32 × Int32 × Int32 × Int64 × (Nat → Int32) × (Nat → Int32) × (Nat → Int64) × (Nat → Nat → Int32) × (Nat → Int32) × (Nat → Int64) × (Nat → Int64) × (Nat → Int64) × (Nat → Int64))) (fun i u => u.2.1 = nI i ∧ u.1 = nI (8 * (32 * du * i)) ∧ (∀ i' j, i' < i → j < K → ¬ (kz_smp rc v i' j).1 < 256) ∧ kz_VM (kz_vec rc s e) K u.2.2.2.2.2.2.2.2.2.2.1 ∧ ∀ p, u.2.2.2.2.2.2.2.1 p = if p < 32 * du * i then kz_by (kz_pb du (fun c => kz_cmp (kz_eU rc v s K e (p / (32 * du)) c) du) (p % (32 * du))) else back p) (fun g => (∃ t, g = .inr t ∧ kz_all rc v K ∧ t.1 = nI (8 * (32 * du * K)) ∧ kz_VM (kz_vec rc s e) K t.2.2.2.2.2.2.2.2.2.2.1 ∧ ∀ p, t.2.2.2.2.2.2.2.1 p = if p < 32 * du * K then kz_by (kz_pb du (fun c => kz_cmp (kz_eU rc v s K e (p / (32 * du)) c) du) (p % (32 * du))) else back p) ∨ (¬ kz_all rc v K ∧ ∃ t, g = .inl t)) K ?_ ?_ K 0 _ 100000 (by omega) (by omega) ⟨rfl, by rw [Nat.mul_zero]; rfl, fun i' j h => absurd h (by omega), hS, fun p => by rw [Nat.mul_zero, if_neg (Nat.not_lt_zero p)]⟩
  · rintro i ⟨en, x, bt, fl, kd, rt, tot, bk, bl, co, M, nz, ot, st, sm, wo⟩ hi ⟨h1, -, h3, h4, h5⟩
    replace h1 : x = nI i := h1
    subst h1
    replace h4 : kz_VM (kz_vec rc s e) K M := h4
    replace h5 : ∀ p, bk p = if p < 32 * du * i then kz_by (kz_pb du (fun c => kz_cmp (kz_eU rc v s K e (p / (32 * du)) c) du) (p % (32 * du))) else back p := h5
    obtain ⟨f1, p1, e1⟩ := kz_rclear (M 10)
    obtain ⟨r2, p2, e2⟩ := kz_re83 (rc := rc) (roots := roots) (cubes := cubes) (s224 := s224) (s256 := s256) (state := st) (other := ot) (column := co) (words := wo) (block := bl) (key := key) (v := v) (M := va_up M 10 f1) (S := kz_vec rc s e) (s0 := fun _ => 0) (i := i) (fl := fl) (kd := kd) (rt := rt) (tot := tot) hT hp hK hv hn hn1 (kz_VM_u h4 (by omega) f1) (by rw [va_up_self]; exact e1)
    rcases e2 with ⟨⟨y0, y1, y2, y3, y4, y5, y6, M2, y8, y9, y10⟩, rfl, hall, e2, hV2⟩ | ⟨⟨j, hj, hc⟩, ⟨y0, y1, y2, y3, y4, y5, y6, y7, y8, y9, y10⟩, rfl⟩
    · replace e2 : kz_R (kz_acc (fun _ => 0) (fun j => (kz_smp rc v i j).2) (kz_vec rc s e) K) (M2 10) := e2
      replace hV2 : kz_VM (kz_vec rc s e) K M2 := hV2
      obtain ⟨sm3, f3, p3, e3⟩ := kz_runntt (sm := sm) e2 hp
      obtain ⟨fl4, t4, s4, o4, c4, nz4, f4, p4, e4⟩ := kz_rbinomial (rc := rc) (roots := roots) (cubes := cubes) (s224 := s224) (s256 := s256) (state := y9) (other := y8) (column := y6) (words := y10) (block := y5) (noise := nz) (f := va_up M2 10 f3 12) (g := r) (e := 2) (b := K + i) hT hs (by decide) hfr hn4
      have hdi := kz_duj (du := du) hi
      have hdK : 32 * du * K ≤ 352 * 4 := Nat.mul_le_mul (by omega) (by omega)
      obtain ⟨g5, p5, e5⟩ := kz_re206 (a := kz_intt (kz_acc (fun _ => 0) (fun j => (kz_smp rc v i j).2) (kz_vec rc s e) K)) (b := kz_np rc s 2 (K + i)) (M := va_up (va_up M2 10 f3) 12 f4) (back := bk) (du := du) (at' := 32 * du * i) hdu (by rw [va_up_ne _ _ (show (10 : Nat) ≠ 12 by decide), va_up_self]; exact e3) (by rw [va_up_self]; exact e4) (by omega)
      refine Or.inl ⟨(nI (8 * (32 * du * i + 32 * du)), nI (i + 1), nI (8 * (32 * du * i + 32 * du)), fl4, nI 12, nI 136, t4, g5, y5, c4, va_up (va_up M2 10 f3) 12 f4, nz4, o4, s4, sm3, y10), ?_, rfl, ?_, ?_, ?_, ?_⟩
      · show kSX5_encrypt_61 (nI at') (nI fr) n1 n4 (nI K) (nI du) roots cubes s224 s256 turns rc pts key r en (nI i) bt fl kd rt tot bk bl co M nz ot st sm wo = _
        unfold kSX5_encrypt_61
        rw [nI_add]
        refine (kb_b_ff (kz_nle hi (by omega))).trans ?_
        refine (kb_o_v p1).trans ?_
        refine (kb_n_v (v := va_up M 10 f1) rfl).trans ?_
        refine (kb_o_v p2).trans ?_
        refine kz_ir ?_
        refine (kb_o_v p3).trans ?_
        refine (kb_n_v (v := va_up M2 10 f3) rfl).trans ?_
        refine (kb_o_v p4).trans ?_
        refine (kb_n_v (v := va_up (va_up M2 10 f3) 12 f4) rfl).trans ?_
        refine (kb_n_v (v := nI (8 * (32 * du * i))) (by rw [show (256 : Int32) * nI du = nI (256 * du) from pk_mul _ _, pk_mul, kz_256])).trans ?_
        refine (kb_o_v p5).trans ?_
        exact (kb_n_v (kz_inc _)).trans rfl
      · show nI (8 * (32 * du * i + 32 * du)) = nI (8 * (32 * du * (i + 1)))
        rw [Nat.mul_succ]
      · intro i' j hi' hj
        by_cases e9 : i' = i
        · subst e9
          exact hall j hj
        · exact h3 i' j (by omega) hj
      · exact kz_VM_u (kz_VM_u hV2 (by omega) f3) (by omega) f4
      · exact kz_blk (T := fun i c => kz_cmp (kz_eU rc v s K e i c) du) e5 h5
    · refine Or.inr ⟨.inl (en, nI i, bt, y1, y2, y3, y4, bk, y5, y6, y7, nz, y8, y9, sm, y10), ?_, Or.inr ⟨fun h => h j i hj hi hc, _, rfl⟩⟩
      show kSX5_encrypt_61 (nI at') (nI fr) n1 n4 (nI K) (nI du) roots cubes s224 s256 turns rc pts key r en (nI i) bt fl kd rt tot bk bl co M nz ot st sm wo = _
      unfold kSX5_encrypt_61
      refine (kb_b_ff (kz_nle hi (by omega))).trans ?_
      refine (kb_o_v p1).trans ?_
      refine (kb_n_v (v := va_up M 10 f1) rfl).trans ?_
      exact (kb_o_v p2).trans rfl
  · rintro ⟨en, x, bt, fl, kd, rt, tot, bk, bl, co, M, nz, ot, st, sm, wo⟩ ⟨h1, h2, h3, h4, h5⟩
    replace h1 : x = nI K := h1
    subst h1
    exact ⟨.inr (en, nI K, bt, fl, kd, rt, tot, bk, bl, co, M, nz, ot, st, sm, wo), kb_b_tt (kz_le (Nat.le_refl _) (by omega)), Or.inl ⟨_, rfl, fun i j hi hj => h3 j i hj hi, h2, h4, h5⟩⟩
theorem kz_rencrypt {rc roots cubes s224 s256 state other column words sum : Nat → Int64} {turns block noise pts key m r s v back : Nat → Int32} {M : Nat → Nat → Int32} {B Bm : Nat → Nat} {K e du dv fr at' n1 n3 n4 : Nat} {fl kd rt : Int32} {tot : Int64} (hT : ∀ i, i < 25 → turns i = nI (kz_tn i)) (hp : kz_pts pts) (hK : K ≤ 4) (he : e ∈ [2, 3]) (hdu : du ∈ [10, 11]) (hdv : dv ∈ [4, 5]) (hs : ∀ k, k < 32 → r (fr + k) = s k) (hfr : fr + 32 ≤ n4) (hn4 : n4 < 2 ^ 31) (hv : ∀ k, k < 32 → key (at' + 384 * K + k) = v k) (hY : kz_Y B key at' (at' + 384 * K)) (hn : at' + 384 * K + 32 ≤ n1) (hn1 : n1 < 2 ^ 27) (hYm : kz_Y Bm m 0 32) (hn3 : 32 ≤ n3) (hn32 : n3 < 2 ^ 31) :
    ∃ g, kFX5_encrypt (nI at') (nI fr) n1 n3 n4 kd rt fl tot (nI K) (nI e) (nI du) (nI dv) roots cubes s224 s256 turns rc state other column words block sum pts noise back key m r M = some g ∧
      ((g.1 = 1 ∧ kz_all rc v K ∧ ∀ p, g.2.2.2.2.2.2.2.2.2.2.2.2.2.1 p = if p < 32 * du * K + 32 * dv then kz_by (kz_enc rc v s B at' Bm K e du dv p) else back p) ∨ (g.1 = 0 ∧ ¬ kz_all rc v K)) := by
  obtain ⟨hd1, hd2, hd3⟩ := kz_d10 hdu
  obtain ⟨hv1, hv2, hv3⟩ := kz_d4 hdv
  obtain ⟨he1, he2⟩ := kz_e2 he
  obtain ⟨⟨a0, a1, a2, a3, a4, a5, M1, a7, a8, a9, a10, a11⟩, p1, e1⟩ := kz_re3 (rc := rc) (roots := roots) (cubes := cubes) (s224 := s224) (s256 := s256) (state := state) (other := other) (column := column) (words := words) (sum := sum) (block := block) (noise := noise) (M := M) (fl := fl) (kd := kd) (rt := rt) (tot := tot) hT hp hK he2 hs hfr hn4
  replace e1 : kz_VM (kz_vec rc s e) K M1 := e1
  obtain ⟨g2, p2, e2⟩ := kz_re61 (rc := rc) (roots := roots) (cubes := cubes) (s224 := s224) (s256 := s256) (state := a9) (other := a8) (column := a5) (words := a11) (sum := a10) (block := a4) (noise := a7) (key := key) (v := v) (M := M1) (bt := (0 : Int32)) (fl := a0) (kd := a1) (rt := a2) (tot := a3) (back := back) hT hp hK hdu hs hfr hn4 hv hn (by omega) e1
  rcases e2 with ⟨⟨b0, b1, b2, b3, b4, b5, b6, bk, b8, b9, M2, b11, b12, b13, b14, b15⟩, rfl, ha, hb0, hV2, e2⟩ | ⟨ha, ⟨b0, b1, b2, b3, b4, b5, b6, b7, b8, b9, b10, b11, b12, b13, b14, b15⟩, rfl⟩
  · replace hb0 : b0 = nI (8 * (32 * du * K)) := hb0
    subst hb0
    replace hV2 : kz_VM (kz_vec rc s e) K M2 := hV2
    replace e2 : ∀ p, bk p = if p < 32 * du * K then kz_by (kz_pb du (fun c => kz_cmp (kz_eU rc v s K e (p / (32 * du)) c) du) (p % (32 * du))) else back p := e2
    obtain ⟨f3, p3, e3⟩ := kz_rclear (M2 10)
    obtain ⟨⟨c0, M4⟩, p4, e4⟩ := kz_re290 (B := B) (s0 := fun _ => 0) (S := kz_vec rc s e) (key := key) (M := va_up M2 10 f3) (bt := b2) (at' := at') (n1 := n1) hp hK hY (by omega) hn1 (kz_VM_u hV2 (by omega) f3) (by rw [va_up_self]; exact e3)
    replace e4 : kz_R (kz_acc (fun _ => 0) (kz_nm B at') (kz_vec rc s e) K) (M4 10) := e4
    obtain ⟨sm5, f5, p5, e5⟩ := kz_runntt (sm := b14) e4 hp
    obtain ⟨fl6, t6, s6, o6, c6, nz6, f6, p6, e6⟩ := kz_rbinomial (rc := rc) (roots := roots) (cubes := cubes) (s224 := s224) (s256 := s256) (state := b13) (other := b12) (column := b9) (words := b15) (block := b8) (noise := b11) (f := va_up M4 10 f5 12) (g := r) (e := 2) (b := 2 * K) hT hs (by decide) hfr hn4
    have hdK : 32 * du * K ≤ 352 * 4 := Nat.mul_le_mul (by omega) (by omega)
    obtain ⟨g7, p7, e7⟩ := kz_re421 (a := kz_intt (kz_acc (fun _ => 0) (kz_nm B at') (kz_vec rc s e) K)) (b := kz_np rc s 2 (2 * K)) (M := va_up (va_up M4 10 f5) 12 f6) (back := bk) (m := m) (Bm := Bm) (dv := dv) (at' := 32 * du * K) (n3 := n3) hdv (by rw [va_up_ne _ _ (show (10 : Nat) ≠ 12 by decide), va_up_self]; exact e5) (by rw [va_up_self]; exact e6) hYm hn3 hn32 (by omega)
    refine ⟨((1 : Int32), nI (8 * (32 * du * K + 32 * dv)), fl6, nI 12, nI 136, t6, s6, o6, c6, b15, b8, sm5, nz6, g7, va_up (va_up M4 10 f5) 12 f6), ?_, Or.inl ⟨rfl, ha, kz_ct_end (U := fun i c => kz_cmp (kz_eU rc v s K e i c) du) e7 e2⟩⟩
    unfold kFX5_encrypt
    rw [show (2 : Int32) * nI K = nI (2 * K) from pk_mul _ _]
    refine (kb_o_v p1).trans ?_
    refine (kb_o_v p2).trans ?_
    refine kz_ir ?_
    refine (kb_o_v p3).trans ?_
    refine (kb_n_v (v := va_up M2 10 f3) rfl).trans ?_
    refine (kb_o_v p4).trans ?_
    refine (kb_o_v p5).trans ?_
    refine (kb_n_v (v := va_up M4 10 f5) rfl).trans ?_
    refine (kb_o_v p6).trans ?_
    refine (kb_n_v (v := va_up (va_up M4 10 f5) 12 f6) rfl).trans ?_
    exact (kb_o_v p7).trans rfl
  · refine ⟨((0 : Int32), b2, b3, b4, b5, b6, b13, b12, b9, b15, b8, b14, b11, b7, b10), ?_, Or.inr ⟨rfl, ha⟩⟩
    unfold kFX5_encrypt
    refine (kb_o_v p1).trans ?_
    exact (kb_o_v p2).trans rfl
/-! Layer 2: the reference's kemKeys, kemWrap, kemOpen behind the checks of numbers and lengths. -/
theorem kz_good1 (c : Int32) : kFX5_good (1 : Int32) c = some ((1 : Int32), (0 : Int32)) := (kb_b_ff (by decide)).trans (kb_g_tt (by decide))
theorem kz_good0 (c : Int32) : kFX5_good (0 : Int32) c = some ((0 : Int32), c) := (kb_b_tt (by decide)).trans (kb_g_tt (by decide))
theorem kz_bn (b : Nat) : vp_nar .byte (kz_by b) = kz_by b := pk_vb (nI b)
theorem kz_rk85 {rc roots cubes s224 s256 state other column words sum : Nat → Int64} {turns block noise pts r s : Nat → Int32} {M : Nat → Nat → Int32} {K e : Nat} {fl kd rt : Int32} {tot : Int64} (hT : ∀ i, i < 25 → turns i = nI (kz_tn i)) (hp : kz_pts pts) (hK : K ≤ 4) (he : e ≤ 3) (hs : ∀ k, k < 32 → r (32 + k) = s k) :
    ∃ g, kb_w (fun u : Int32 × Int32 × Int32 × Int32 × Int64 × (Nat → Int32) × (Nat → Int64) × (Nat → Nat → Int32) × (Nat → Int32) × (Nat → Int64) × (Nat → Int64) × (Nat → Int64) × (Nat → Int64) => kSX5_kemKeys_85 (nI K) (nI e) roots cubes s224 s256 turns rc pts r u.1 u.2.1 u.2.2.1 u.2.2.2.1 u.2.2.2.2.1 u.2.2.2.2.2.1 u.2.2.2.2.2.2.1 u.2.2.2.2.2.2.2.1 u.2.2.2.2.2.2.2.2.1 u.2.2.2.2.2.2.2.2.2.1 u.2.2.2.2.2.2.2.2.2.2.1 u.2.2.2.2.2.2.2.2.2.2.2.1 u.2.2.2.2.2.2.2.2.2.2.2.2) 100000 ((0 : Int32), fl, kd, rt, tot, block, column, M, noise, other, state, sum, words) = some (nI K, g) ∧ kz_VM (kz_vec rc s e) K g.2.2.2.2.2.2.1 := by
  have key := kz_for (G := Int32 × Int32 × Int32 × Int64 × (Nat → Int32) × (Nat → Int64) × (Nat → Nat → Int32) × (Nat → Int32) × (Nat → Int64) × (Nat → Int64) × (Nat → Int64) × (Nat → Int64)) (S := fun x g => kSX5_kemKeys_85 (nI K) (nI e) roots cubes s224 s256 turns rc pts r x g.1 g.2.1 g.2.2.1 g.2.2.2.1 g.2.2.2.2.1 g.2.2.2.2.2.1 g.2.2.2.2.2.2.1 g.2.2.2.2.2.2.2.1 g.2.2.2.2.2.2.2.2.1 g.2.2.2.2.2.2.2.2.2.1 g.2.2.2.2.2.2.2.2.2.2.1 g.2.2.2.2.2.2.2.2.2.2.2) (g := (fl, kd, rt, tot, block, column, M, noise, other, state, sum, words)) nI K (fun i g => kz_VM (kz_vec rc s e) i g.2.2.2.2.2.2.1) (by omega) ?_ ?_ (fun j hj => absurd hj (by omega))
  · exact key
  · rintro i ⟨fl, kd, rt, tot, bl, co, M, nz, ot, st, sm, wo⟩ hi h
    replace h : kz_VM (kz_vec rc s e) i M := h
    obtain ⟨fl1, t1, s1, o1, c1, nz1, f1, p1, e1⟩ := kz_rbinomial (rc := rc) (roots := roots) (cubes := cubes) (s224 := s224) (s256 := s256) (state := st) (other := ot) (column := co) (words := wo) (block := bl) (noise := nz) (f := M i) (g := r) (b := i) (at' := 32) (n3 := 256) hT hs he (by decide) (by decide)
    obtain ⟨sm2, f2, p2, e2⟩ := kz_rntt (sm := sm) e1 hp
    refine ⟨(fl1, nI 12, nI 136, t1, bl, c1, va_up (va_up M i f1) i f2, nz1, o1, s1, sm2, wo), ?_, fun j hj => ?_⟩
    · show kSX5_kemKeys_85 (nI K) (nI e) roots cubes s224 s256 turns rc pts r (nI i) fl kd rt tot bl co M nz ot st sm wo = _
      unfold kSX5_kemKeys_85
      rw [nI_clamp (show i < 2 ^ 31 by omega)]
      refine (kb_b_ff (kz_nle hi (by omega))).trans ?_
      refine (kb_g_tt (kb_in_n (by omega) (by decide))).trans ?_
      refine (kb_o_v p1).trans ?_
      refine (kb_n_v (v := va_up M i f1) rfl).trans ?_
      refine (kb_g_tt (kb_in_n (by omega) (by decide))).trans ?_
      dsimp only
      rw [va_up_self]
      refine (kb_o_v p2).trans ?_
      refine (kb_n_v (v := va_up (va_up M i f1) i f2) rfl).trans ?_
      exact (kb_n_v (kz_inc _)).trans rfl
    · show kz_R _ (va_up (va_up M i f1) i f2 j)
      by_cases e9 : j = i
      · subst e9
        rw [va_up_self]
        exact e2
      · rw [va_up_ne _ _ e9, va_up_ne _ _ e9]
        exact h j (by omega)
  · rintro ⟨fl, kd, rt, tot, bl, co, M, nz, ot, st, sm, wo⟩ h
    exact kb_b_tt (kz_le (Nat.le_refl _) (by omega))
theorem kz_rk185 {rc roots cubes s224 s256 state other column words : Nat → Int64} {turns block pts r v : Nat → Int32} {M : Nat → Nat → Int32} {S : Nat → Nat → Nat} {s0 : Nat → Nat} {K i : Nat} {fl kd rt : Int32} {tot : Int64} (hT : ∀ i, i < 25 → turns i = nI (kz_tn i)) (hp : kz_pts pts) (hK : K ≤ 4) (hv : ∀ k, k < 32 → r k = v k) (hS : kz_VM S K M) (hf : kz_R s0 (M 10)) :
    ∃ g, kb_w (fun u : Int32 × Int32 × Int32 × Int32 × Int32 × Int64 × (Nat → Int32) × (Nat → Int64) × (Nat → Nat → Int32) × (Nat → Int64) × (Nat → Int64) × (Nat → Int64) => kSX5_kemKeys_185 (nI i) (nI K) roots cubes s224 s256 turns rc pts r u.1 u.2.1 u.2.2.1 u.2.2.2.1 u.2.2.2.2.1 u.2.2.2.2.2.1 u.2.2.2.2.2.2.1 u.2.2.2.2.2.2.2.1 u.2.2.2.2.2.2.2.2.1 u.2.2.2.2.2.2.2.2.2.1 u.2.2.2.2.2.2.2.2.2.2.1 u.2.2.2.2.2.2.2.2.2.2.2) 100000 ((0 : Int32), (0 : Int32), fl, kd, rt, tot, block, column, M, other, state, words) = some g ∧
      ((∃ t, g = .inr t ∧ t.2.1 = 0 ∧ (∀ j, j < K → ¬ (kz_smp rc v j i).1 < 256) ∧ kz_R (kz_acc s0 (fun j => (kz_smp rc v j i).2) S K) (t.2.2.2.2.2.2.2.2.1 10) ∧ kz_VM S K t.2.2.2.2.2.2.2.2.1) ∨ ((∃ j, j < K ∧ (kz_smp rc v j i).1 < 256) ∧ ∃ t, g = .inl t ∧ t.2.1 = 3)) := by
  refine kb_w_ex (σ := Int32 × Int32 × Int32 × Int32 × Int32 × Int64 × (Nat → Int32) × (Nat → Int64) × (Nat → Nat → Int32) × (Nat → Int64) × (Nat → Int64) × (Nat → Int64)) (ρ := (Int32 × Int32 × Int32 × Int32 × Int32 × Int64 × (Nat → Int32) × (Nat → Int64) × (Nat → Nat → Int32) × (Nat → Int64) × (Nat → Int64) × (Nat → Int64)) ⊕ (Int32 × Int32 × Int32 × Int32 × Int32 × Int64 × (Nat → Int32) × (Nat → Int64) × (Nat → Nat → Int32) × (Nat → Int64) × (Nat → Int64) × (Nat → Int64))) (fun j u => u.1 = nI j ∧ u.2.1 = 0 ∧ (∀ j', j' < j → ¬ (kz_smp rc v j' i).1 < 256) ∧ kz_R (kz_acc s0 (fun j => (kz_smp rc v j i).2) S j) (u.2.2.2.2.2.2.2.2.1 10) ∧ kz_VM S K u.2.2.2.2.2.2.2.2.1) (fun g => (∃ t, g = .inr t ∧ t.2.1 = 0 ∧ (∀ j, j < K → ¬ (kz_smp rc v j i).1 < 256) ∧ kz_R (kz_acc s0 (fun j => (kz_smp rc v j i).2) S K) (t.2.2.2.2.2.2.2.2.1 10) ∧ kz_VM S K t.2.2.2.2.2.2.2.2.1) ∨ ((∃ j, j < K ∧ (kz_smp rc v j i).1 < 256) ∧ ∃ t, g = .inl t ∧ t.2.1 = 3)) K ?_ ?_ K 0 _ 100000 (by omega) (by omega) ⟨rfl, rfl, fun j hj => absurd hj (by omega), hf, hS⟩
  · rintro j ⟨x, cd, fl, kd, rt, tot, bl, co, M, ot, st, wo⟩ hj ⟨h1, h0, h2, h3, h4⟩
    replace h1 : x = nI j := h1
    subst h1
    replace h3 : kz_R (kz_acc s0 (fun j => (kz_smp rc v j i).2) S j) (M 10) := h3
    replace h4 : kz_VM S K M := h4
    obtain ⟨fl1, t1, s1, o1, c1, f1, p1, e1⟩ := kz_rsample (rc := rc) (roots := roots) (cubes := cubes) (s224 := s224) (s256 := s256) (state := st) (other := ot) (column := co) (words := wo) (block := bl) (f := M 11) (g := r) (v := v) (at' := 0) (j := j) (i := i) (n2 := 256) hT (fun k hk => by rw [Nat.zero_add]; exact hv k hk) (by decide) (by decide)
    by_cases hc : (kz_smp rc v j i).1 < 256
    · rw [if_pos hc] at p1
      refine Or.inr ⟨.inl (nI j, (3 : Int32), fl1, nI 11, nI 168, t1, bl, c1, va_up M 11 f1, o1, s1, wo), ?_, Or.inr ⟨⟨j, hj, hc⟩, _, rfl, rfl⟩⟩
      show kSX5_kemKeys_185 (nI i) (nI K) roots cubes s224 s256 turns rc pts r (nI j) cd fl kd rt tot bl co M ot st wo = _
      unfold kSX5_kemKeys_185
      refine (kb_b_ff (kz_nle hj (by omega))).trans ?_
      refine (kb_o_v p1).trans ?_
      refine (kb_n_v (v := va_up M 11 f1) rfl).trans ?_
      refine (kb_o_v (kz_good0 3)).trans ?_
      exact kb_b_tt (by decide)
    · rw [if_neg hc] at p1
      obtain ⟨f2, p2, e2⟩ := kz_rprod hp h3 (kz_Rn_R hc e1) (h4 j hj)
      refine Or.inl ⟨(nI (j + 1), (0 : Int32), fl1, nI 11, nI 168, t1, bl, c1, va_up (va_up M 11 f1) 10 f2, o1, s1, wo), ?_, rfl, rfl, ?_, ?_, ?_⟩
      · show kSX5_kemKeys_185 (nI i) (nI K) roots cubes s224 s256 turns rc pts r (nI j) cd fl kd rt tot bl co M ot st wo = _
        unfold kSX5_kemKeys_185
        rw [nI_clamp (show j < 2 ^ 31 by omega)]
        refine (kb_b_ff (kz_nle hj (by omega))).trans ?_
        refine (kb_o_v p1).trans ?_
        refine (kb_n_v (v := va_up M 11 f1) rfl).trans ?_
        refine (kb_o_v (kz_good1 3)).trans ?_
        refine (kb_b_ff (by decide)).trans ?_
        refine (kb_g_tt (kb_in_n (by omega) (by decide))).trans ?_
        refine (kb_g_tt (decide_eq_true (by omega))).trans ?_
        refine (kb_g_tt (decide_eq_true (by omega))).trans ?_
        dsimp only
        rw [va_up_self, va_up_ne _ _ (show (10 : Nat) ≠ 11 by decide), va_up_ne _ _ (show j ≠ 11 by omega)]
        refine (kb_o_v p2).trans ?_
        refine (kb_n_v (v := va_up (va_up M 11 f1) 10 f2) rfl).trans ?_
        exact (kb_n_v (kz_inc _)).trans rfl
      · intro j' hj'
        by_cases e9 : j' = j
        · subst e9
          exact hc
        · exact h2 j' (by omega)
      · show kz_R (kz_acc s0 (fun j => (kz_smp rc v j i).2) S (j + 1)) (va_up (va_up M 11 f1) 10 f2 10)
        rw [va_up_self]
        exact e2
      · exact kz_VM_u (kz_VM_u h4 (by omega) f1) (by omega) f2
  · rintro ⟨x, cd, fl, kd, rt, tot, bl, co, M, ot, st, wo⟩ ⟨h1, h0, h2, h3, h4⟩
    replace h1 : x = nI K := h1
    subst h1
    exact ⟨.inr (nI K, cd, fl, kd, rt, tot, bl, co, M, ot, st, wo), kb_b_tt (kz_le (Nat.le_refl _) (by omega)), Or.inl ⟨_, rfl, h0, h2, h3, h4⟩⟩
theorem kz_rk253 {a : Nat → Nat} {M : Nat → Nat → Int32} {pk : Nat → Int32} {at' : Nat} (ha : kz_R a (M 10)) (hn : at' + 384 ≤ 8192) :
    ∃ g, kb_w (fun u : Int32 × Int32 × (Nat → Int32) => kSX5_kemKeys_253 M u.1 u.2.1 u.2.2) 100000 ((0 : Int32), nI (8 * at'), pk) = some (nI 256, nI (8 * (at' + 384)), g) ∧ ∀ k, g k = if at' ≤ k ∧ k < at' + 384 then kz_by (kz_pb 12 a (k - at')) else pk k := by
  refine kz_rpack (S := fun x u => kSX5_kemKeys_253 M x u.1 u.2) (fun g => g) (F := a) (d := 12) (n1 := 8192) (fun c hc => Nat.lt_of_lt_of_le (ha c hc).1 (by decide)) (by omega) (by omega) hn (by decide) (fun c p g w g' hc h => ?_) (fun p g => kb_b_tt (kz_le (n := 256) (Nat.le_refl _) (by decide)))
  have h1 := ha c hc
  show kSX5_kemKeys_253 M (nI c) (nI p) g = _
  unfold kSX5_kemKeys_253
  rw [nI_clamp (show c < 2 ^ 31 by omega), h1.2]
  refine (kb_b_ff (kz_nle (n := 256) hc (by decide))).trans ?_
  refine (kb_g_tt (kb_in_n hc (by decide))).trans ?_
  refine (kb_o_v h).trans ?_
  exact (kb_n_v (kz_inc _)).trans rfl
theorem kz_rk367 {a : Nat → Nat} {M X : Nat → Nat → Int32} {f : Nat → Int32} {i at' : Nat} (hi : i < 30) (ha : kz_R a (M i)) (hn : at' + 384 ≤ 8192) :
    ∃ g, kb_w (fun u : Int32 × Int32 × (Nat → Nat → Int32) => kSX5_kemKeys_367 (nI i) M u.1 u.2.1 u.2.2) 100000 ((0 : Int32), nI (8 * at'), va_up X 2 f) = some (nI 256, nI (8 * (at' + 384)), va_up X 2 g) ∧ ∀ k, g k = if at' ≤ k ∧ k < at' + 384 then kz_by (kz_pb 12 a (k - at')) else f k := by
  refine kz_rpack (S := fun x u => kSX5_kemKeys_367 (nI i) M x u.1 u.2) (fun g => va_up X 2 g) (F := a) (d := 12) (n1 := 8192) (fun c hc => Nat.lt_of_lt_of_le (ha c hc).1 (by decide)) (by omega) (by omega) hn (by decide) (fun c p g w g' hc h => ?_) (fun p g => kb_b_tt (kz_le (n := 256) (Nat.le_refl _) (by decide)))
  have h1 := ha c hc
  show kSX5_kemKeys_367 (nI i) M (nI c) (nI p) (va_up X 2 g) = _
  unfold kSX5_kemKeys_367
  rw [nI_clamp (show c < 2 ^ 31 by omega), nI_clamp (show i < 2 ^ 31 by omega), h1.2, va_up_self]
  refine (kb_b_ff (kz_nle (n := 256) hc (by decide))).trans ?_
  refine (kb_g_tt (kb_in_n hi (by decide))).trans ?_
  refine (kb_g_tt (kb_in_n hc (by decide))).trans ?_
  refine (kb_o_v h).trans ?_
  refine (kb_n_v (kz_vu X 2 g g')).trans ?_
  exact (kb_n_v (kz_inc _)).trans rfl
theorem kz_rk356 {S : Nat → Nat → Nat} {M X : Nat → Nat → Int32} {f : Nat → Int32} {K : Nat} (hK : K ≤ 4) (hS : kz_VM S K M) :
    ∃ g, kb_w (fun u : Int32 × Int32 × (Nat → Nat → Int32) => kSX5_kemKeys_356 (nI K) M u.1 u.2.1 u.2.2) 100000 ((0 : Int32), (0 : Int32), va_up X 2 f) = some (nI K, nI (8 * (384 * K)), va_up X 2 g) ∧ ∀ p, g p = if p < 384 * K then kz_by (kz_pb 12 (S (p / 384)) (p % 384)) else f p := by
  have key := kz_for (G := Int32 × (Nat → Nat → Int32)) (S := fun x g => kSX5_kemKeys_356 (nI K) M x g.1 g.2) (g := ((0 : Int32), va_up X 2 f)) nI K (fun i w => ∃ g, w = (nI (8 * (384 * i)), va_up X 2 g) ∧ ∀ p, g p = if p < 384 * i then kz_by (kz_pb 12 (S (p / 384)) (p % 384)) else f p) (by omega) (fun i w hi h => ?_) (fun w h => ?_) ⟨f, rfl, fun p => by rw [Nat.mul_zero, if_neg (Nat.not_lt_zero p)]⟩
  · obtain ⟨w, k1, g, rfl, k2⟩ := key
    exact ⟨g, k1, k2⟩
  · obtain ⟨g, rfl, h⟩ := h
    obtain ⟨g', p1, e1⟩ := kz_rk367 (X := X) (f := g) (i := i) (at' := 384 * i) (by omega) (hS i hi) (by omega)
    refine ⟨(nI (8 * (384 * (i + 1))), va_up X 2 g'), ?_, g', rfl, kz_blk (T := S) e1 h⟩
    show kSX5_kemKeys_356 (nI K) M (nI i) (nI (8 * (384 * i))) (va_up X 2 g) = _
    unfold kSX5_kemKeys_356
    refine (kb_b_ff (kz_nle hi (by omega))).trans ?_
    refine (kb_o_v p1).trans ?_
    exact (kb_n_v (kz_inc _)).trans rfl
  · obtain ⟨g, rfl, h⟩ := h
    exact kb_b_tt (kz_le (Nat.le_refl _) (by omega))
theorem kz_rk137 {rc roots cubes s224 s256 state other column words sum : Nat → Int64} {turns block noise pts r s v pk : Nat → Int32} {M : Nat → Nat → Int32} {K e : Nat} {fl kd rt : Int32} {tot : Int64} (hT : ∀ i, i < 25 → turns i = nI (kz_tn i)) (hp : kz_pts pts) (hK : K ≤ 4) (he : e ≤ 3) (hs : ∀ k, k < 32 → r (32 + k) = s k) (hv : ∀ k, k < 32 → r k = v k) (hS : kz_VM (kz_vec rc s e) K M) :
    ∃ g, kb_w (fun u : Int32 × Int32 × Int32 × Int32 × Int32 × Int32 × Int64 × (Nat → Int32) × (Nat → Int64) × (Nat → Nat → Int32) × (Nat → Int32) × (Nat → Int64) × (Nat → Int32) × (Nat → Int64) × (Nat → Int64) × (Nat → Int64) => kSX5_kemKeys_137 (nI K) (nI e) roots cubes s224 s256 turns rc pts r u.1 u.2.1 u.2.2.1 u.2.2.2.1 u.2.2.2.2.1 u.2.2.2.2.2.1 u.2.2.2.2.2.2.1 u.2.2.2.2.2.2.2.1 u.2.2.2.2.2.2.2.2.1 u.2.2.2.2.2.2.2.2.2.1 u.2.2.2.2.2.2.2.2.2.2.1 u.2.2.2.2.2.2.2.2.2.2.2.1 u.2.2.2.2.2.2.2.2.2.2.2.2.1 u.2.2.2.2.2.2.2.2.2.2.2.2.2.1 u.2.2.2.2.2.2.2.2.2.2.2.2.2.2.1 u.2.2.2.2.2.2.2.2.2.2.2.2.2.2.2) 100000 ((0 : Int32), (0 : Int32), (0 : Int32), fl, kd, rt, tot, block, column, M, noise, other, pk, state, sum, words) = some g ∧
      ((∃ t, g = .inr t ∧ t.2.2.1 = 0 ∧ kz_all rc v K ∧ kz_VM (kz_vec rc s e) K t.2.2.2.2.2.2.2.2.2.1 ∧ ∀ p, t.2.2.2.2.2.2.2.2.2.2.2.2.1 p = if p < 384 * K then kz_by (kz_pb 12 (kz_kT rc v s K e (p / 384)) (p % 384)) else pk p) ∨ (¬ kz_all rc v K ∧ ∃ t, g = .inl t ∧ t.2.2.1 = 3)) := by
  refine kb_w_ex (σ := Int32 × Int32 × Int32 × Int32 × Int32 × Int32 × Int64 × (Nat → Int32) × (Nat → Int64) × (Nat → Nat → Int32) × (Nat → Int32) × (Nat → Int64) × (Nat → Int32) × (Nat → Int64) × (Nat → Int64) × (Nat → Int64)) (ρ := (Int32 × Int32 × Int32 × Int32 × Int32 × Int32 × Int64 × (Nat → Int32) × (Nat → Int64) × (Nat → Nat → Int32) × (Nat → Int32) × (Nat → Int64) × (Nat → Int32) × (Nat → Int64) × (Nat → Int64) × (Nat → Int64)) ⊕ (Int32 × Int32 × Int32 × Int32 × Int32 × Int32 × Int64 × (Nat → Int32) × (Nat → Int64) × (Nat → Nat → Int32) × (Nat → Int32) × (Nat → Int64) × (Nat → Int32) × (Nat → Int64) × (Nat → Int64) × (Nat → Int64))) (fun i u => u.1 = nI i ∧ u.2.1 = nI (8 * (384 * i)) ∧ u.2.2.1 = 0 ∧ (∀ i' j, i' < i → j < K → ¬ (kz_smp rc v j i').1 < 256) ∧ kz_VM (kz_vec rc s e) K u.2.2.2.2.2.2.2.2.2.1 ∧ ∀ p, u.2.2.2.2.2.2.2.2.2.2.2.2.1 p = if p < 384 * i then kz_by (kz_pb 12 (kz_kT rc v s K e (p / 384)) (p % 384)) else pk p) (fun g => (∃ t, g = .inr t ∧ t.2.2.1 = 0 ∧ kz_all rc v K ∧ kz_VM (kz_vec rc s e) K t.2.2.2.2.2.2.2.2.2.1 ∧ ∀ p, t.2.2.2.2.2.2.2.2.2.2.2.2.1 p = if p < 384 * K then kz_by (kz_pb 12 (kz_kT rc v s K e (p / 384)) (p % 384)) else pk p) ∨ (¬ kz_all rc v K ∧ ∃ t, g = .inl t ∧ t.2.2.1 = 3)) K ?_ ?_ K 0 _ 100000 (by omega) (by omega) ⟨rfl, rfl, rfl, fun i' j h => absurd h (by omega), hS, fun p => by rw [Nat.mul_zero, if_neg (Nat.not_lt_zero p)]⟩
  · rintro i ⟨x, bt, cd, fl, kd, rt, tot, bl, co, M, nz, ot, pc, st, sm, wo⟩ hi ⟨h1, h2, h0, h3, h4, h5⟩
    replace h1 : x = nI i := h1
    replace h2 : bt = nI (8 * (384 * i)) := h2
    replace h0 : cd = 0 := h0
    subst h1 h2 h0
    replace h4 : kz_VM (kz_vec rc s e) K M := h4
    replace h5 : ∀ p, pc p = if p < 384 * i then kz_by (kz_pb 12 (kz_kT rc v s K e (p / 384)) (p % 384)) else pk p := h5
    obtain ⟨fl1, t1, s1, o1, c1, nz1, f1, p1, e1⟩ := kz_rbinomial (rc := rc) (roots := roots) (cubes := cubes) (s224 := s224) (s256 := s256) (state := st) (other := ot) (column := co) (words := wo) (block := bl) (noise := nz) (f := M 10) (g := r) (b := K + i) (at' := 32) (n3 := 256) hT hs he (by decide) (by decide)
    obtain ⟨sm2, f2, p2, e2⟩ := kz_rntt (sm := sm) e1 hp
    obtain ⟨r3, p3, e3⟩ := kz_rk185 (rc := rc) (roots := roots) (cubes := cubes) (s224 := s224) (s256 := s256) (state := s1) (other := o1) (column := c1) (words := wo) (block := bl) (v := v) (M := va_up (va_up M 10 f1) 10 f2) (S := kz_vec rc s e) (s0 := kz_vec rc s e (K + i)) (i := i) (fl := fl1) (kd := nI 12) (rt := nI 136) (tot := t1) hT hp hK hv (kz_VM_u (kz_VM_u h4 (by omega) f1) (by omega) f2) (by rw [va_up_self]; exact e2)
    rcases e3 with ⟨⟨y0, y1, y2, y3, y4, y5, y6, y7, M3, y9, y10, y11⟩, rfl, hy1, hall, e3, hV3⟩ | ⟨⟨j, hj, hc⟩, ⟨y0, y1, y2, y3, y4, y5, y6, y7, y8, y9, y10, y11⟩, rfl, hy1⟩
    · replace hy1 : y1 = 0 := hy1
      subst hy1
      replace e3 : kz_R (kz_kT rc v s K e i) (M3 10) := e3
      replace hV3 : kz_VM (kz_vec rc s e) K M3 := hV3
      obtain ⟨g4, p4, e4⟩ := kz_rk253 (pk := pc) (at' := 384 * i) e3 (by omega)
      refine Or.inl ⟨(nI (i + 1), nI (8 * (384 * i + 384)), (0 : Int32), y2, y3, y4, y5, y6, y7, M3, nz1, y9, g4, y10, sm2, y11), ?_, rfl, ?_, rfl, ?_, hV3, kz_blk (T := kz_kT rc v s K e) e4 h5⟩
      · show kSX5_kemKeys_137 (nI K) (nI e) roots cubes s224 s256 turns rc pts r (nI i) (nI (8 * (384 * i))) (0 : Int32) fl kd rt tot bl co M nz ot pc st sm wo = _
        unfold kSX5_kemKeys_137
        rw [nI_add]
        refine (kb_b_ff (kz_nle hi (by omega))).trans ?_
        refine (kb_o_v p1).trans ?_
        refine (kb_n_v (v := va_up M 10 f1) rfl).trans ?_
        dsimp only
        rw [va_up_self]
        refine (kb_o_v p2).trans ?_
        refine (kb_n_v (v := va_up (va_up M 10 f1) 10 f2) rfl).trans ?_
        refine (kb_o_v p3).trans ?_
        refine kz_ir ?_
        refine (kb_o_v p4).trans ?_
        exact (kb_n_v (kz_inc _)).trans rfl
      · show nI (8 * (384 * i + 384)) = nI (8 * (384 * (i + 1)))
        rw [show 384 * (i + 1) = 384 * i + 384 by omega]
      · intro i' j hi' hj
        by_cases e9 : i' = i
        · subst e9
          exact hall j hj
        · exact h3 i' j (by omega) hj
    · refine Or.inr ⟨.inl (nI i, nI (8 * (384 * i)), y1, y2, y3, y4, y5, y6, y7, y8, nz1, y9, pc, y10, sm2, y11), ?_, Or.inr ⟨fun h => h i j hi hj hc, _, rfl, hy1⟩⟩
      show kSX5_kemKeys_137 (nI K) (nI e) roots cubes s224 s256 turns rc pts r (nI i) (nI (8 * (384 * i))) (0 : Int32) fl kd rt tot bl co M nz ot pc st sm wo = _
      unfold kSX5_kemKeys_137
      rw [nI_add]
      refine (kb_b_ff (kz_nle hi (by omega))).trans ?_
      refine (kb_o_v p1).trans ?_
      refine (kb_n_v (v := va_up M 10 f1) rfl).trans ?_
      dsimp only
      rw [va_up_self]
      refine (kb_o_v p2).trans ?_
      refine (kb_n_v (v := va_up (va_up M 10 f1) 10 f2) rfl).trans ?_
      exact (kb_o_v p3).trans rfl
  · rintro ⟨x, bt, cd, fl, kd, rt, tot, bl, co, M, nz, ot, pc, st, sm, wo⟩ ⟨h1, h2, h0, h3, h4, h5⟩
    replace h1 : x = nI K := h1
    subst h1
    exact ⟨.inr (nI K, bt, cd, fl, kd, rt, tot, bl, co, M, nz, ot, pc, st, sm, wo), kb_b_tt (kz_le (Nat.le_refl _) (by omega)), Or.inl ⟨_, rfl, h0, fun i j hi hj => h3 i j hi hj, h4, h5⟩⟩
/-- the numbers of a set -/
def kz_sK (st : Nat) : Nat := 2 + st
def kz_sE (st : Nat) : Nat := if st = 0 then 3 else 2
def kz_sU (st : Nat) : Nat := if st = 2 then 11 else 10
def kz_sV (st : Nat) : Nat := if st = 2 then 5 else 4
theorem kz_set {st : Nat} (h : st < 3) : kz_sK st ≤ 4 ∧ 2 ≤ kz_sK st ∧ kz_sE st ∈ [2, 3] ∧ kz_sU st ∈ [10, 11] ∧ kz_sV st ∈ [4, 5] := by
  rcases (show st = 0 ∨ st = 1 ∨ st = 2 by omega) with rfl | rfl | rfl <;> decide
theorem kz_rkemS {st : Nat} (hst : st < 3) (f : Nat → Int32) : ∃ g, kFX5_kem (nI st) f = some (nI (kz_sU st), nI (kz_sV st), nI (kz_sE st), nI (kz_sK st), g) ∧ kz_pts g := by
  obtain ⟨g, h1, h2⟩ := kz_rkem hst f
  refine ⟨g, h1.trans ?_, h2⟩
  rcases (show st = 0 ∨ st = 1 ∨ st = 2 by omega) with rfl | rfl | rfl <;> rfl
theorem kz_mv_PK {rc : Nat → Int64} {v sd pc pk g : Nat → Int32} {K e : Nat} (h1 : ∀ p, pc p = if p < 384 * K then kz_by (kz_pb 12 (kz_kT rc (kz_rho rc v K) (kz_sig rc v K) K e (p / 384)) (p % 384)) else pk p) (hsd : ∀ k, k < 32 → sd k = kz_by (kz_gk rc v K k)) (hg : ∀ k, g k = if 384 * K ≤ k ∧ k < 384 * K + 32 then sd (0 + (k - 384 * K)) else pc k) : ∀ p, p < 384 * K + 32 → g p = kz_by (kz_PK rc v K e p) := fun p hp => by
  rw [hg p]
  unfold kz_PK
  by_cases c1 : 384 * K ≤ p ∧ p < 384 * K + 32
  · rw [if_pos c1, if_neg (by omega), Nat.zero_add, hsd _ (by omega)]
  · rw [if_neg c1, h1 p, if_pos (by omega), if_pos (by omega)]
theorem kz_rkeys {rc roots cubes s224 s256 state other column words sum : Nat → Int64} {turns length block pts seed noise pk : Nat → Int32} {X M : Nat → Nat → Int32} {z : Nat → Nat} {st : Nat} {kd rt fl bt k0 e0 du0 dv0 : Int32} {tot : Int64} (hT : ∀ i, i < 25 → turns i = nI (kz_tn i)) (hst : st < 3) (hz : kz_Y z (X 0) 0 64) :
    ∃ g, kJX5_kemKeys_31 (nI st) kd rt fl tot bt k0 e0 du0 dv0 length roots cubes s224 s256 turns rc state other column words block sum pts seed noise pk X M (1 : Int32) = some g ∧
      ((g.2.2.1 = 0 ∧ kz_all rc (kz_rho rc (fun k => kz_by (z k)) (kz_sK st)) (kz_sK st) ∧ g.1 = nI (768 * kz_sK st + 96) ∧ g.2.2.2.2.2.2.2.2.2.2.2.1 = upd (upd length 1 (nI (384 * kz_sK st + 32))) 2 (nI (768 * kz_sK st + 96)) ∧ ∃ a1 a2, g.2.2.2.2.2.2.2.2.2.2.2.2.2.2.2.2.2.2.2.2.2.2.1 = va_up (va_up X 1 a1) 2 a2 ∧ (∀ p, a1 p = if p < 384 * kz_sK st + 32 then kz_by (kz_PK rc (fun k => kz_by (z k)) (kz_sK st) (kz_sE st) p) else X 1 p) ∧ ∀ p, a2 p = if p < 768 * kz_sK st + 96 then kz_by (kz_SK rc z (kz_sK st) (kz_sE st) p) else X 2 p) ∨
       (g.2.2.1 = 3 ∧ ¬ kz_all rc (kz_rho rc (fun k => kz_by (z k)) (kz_sK st)) (kz_sK st) ∧ g.2.2.2.2.2.2.2.2.2.2.2.1 = length ∧ g.2.2.2.2.2.2.2.2.2.2.2.2.2.2.2.2.2.2.2.2.2.2.1 = X)) := by
  obtain ⟨pts', hkem, hp⟩ := kz_rkemS hst pts
  obtain ⟨hK, hK2, he, hdu, hdv⟩ := kz_set hst
  generalize kz_sK st = K at hkem hK hK2 ⊢
  generalize kz_sE st = e at hkem he ⊢
  generalize kz_sU st = du at hkem hdu
  generalize kz_sV st = dv at hkem hdv
  obtain ⟨he1, he2⟩ := kz_e2 he
  have hgk : kz_gk rc (fun k => kz_by (z k)) K = kz_gb rc 72 (kz_fin rc 72 6 (kz_ab1 rc 72 (nI K) (kz_ab rc 72 (fun k => kz_by (z k)) kz_z 32))) := rfl
  obtain ⟨s1, p1, e1⟩ := kz_rbegin (kd := 10) roots s224 s256 state (by decide)
  rw [show kz_rt 10 = 72 from rfl] at p1
  obtain ⟨t2, s2, o2, c2, p2, e2⟩ := kz_rput2 (rc := rc) (kd := 10) (R := 72) (at' := 0) (n := 32) (n1 := 8192) (tot := (0 : Int64)) (u := kz_z) (other := other) (column := column) (words := words) (cubes := cubes) (block := block) (f := X 0) hT (by decide) (by decide) (by decide) (by decide) (by decide) e1 (by decide) (by decide) (by decide)
  rw [kz_ab_c (w := fun k => kz_by (z k)) (fun k hk => by rw [Nat.zero_add]; exact (hz k (Nat.zero_le _) (by omega)).2)] at p2 e2
  have hlt := kz_ab_lt (rc := rc) (R := 72) (v := fun k => kz_by (z k)) (u := kz_z) (by decide) (by decide) 32
  generalize kz_ab rc 72 (fun k => kz_by (z k)) kz_z 32 = U at p2 e2 hlt hgk
  obtain ⟨s3, o3, c3, p3, e3⟩ := kz_rput (rc := rc) (kd := 10) (R := 72) (tot := t2) (other := o2) (column := c2) (words := words) (cubes := cubes) (block := block) (nI K) hT (by decide) (by decide) (by decide) hlt e2
  have hlt3 := kz_ab1_lt (rc := rc) (v := nI K) (by decide) hlt
  generalize kz_ab1 rc 72 (nI K) U = W at p3 e3 hlt3 hgk
  obtain ⟨s4, o4, c4, sd, p4, e4, b4⟩ := kz_rgive (rc := rc) (kd := 10) (R := 72) (at' := 0) (n := 64) (n1 := 256) (tot := t2 + 1) (other := o3) (column := c3) (words := words) (cubes := cubes) (block := block) (f := seed) hT (by decide) (by decide) (by decide) (by decide) hlt3 e3 (by decide) (by decide) (by decide)
  rw [show kz_sf 10 = 6 from rfl] at p4 b4
  rw [← hgk] at b4
  generalize nI (kz_gv rc 72 (kz_fin rc 72 6 W) 64).2 = fl4 at p4
  have hsd : ∀ k, k < 64 → sd k = kz_by (kz_gk rc (fun k => kz_by (z k)) K k) := fun k hk => by rw [b4 k, if_pos ⟨by omega, by omega⟩, Nat.sub_zero]
  have hs : ∀ k, k < 32 → sd (32 + k) = kz_sig rc (fun k => kz_by (z k)) K k := fun k hk => hsd (32 + k) (by omega)
  have hv : ∀ k, k < 32 → sd k = kz_rho rc (fun k => kz_by (z k)) K k := fun k hk => hsd k (by omega)
  obtain ⟨⟨a0, a1, a2, a3, a4, a5, M5, a7, a8, a9, a10, a11⟩, p5, e5⟩ := kz_rk85 (rc := rc) (roots := roots) (cubes := cubes) (s224 := s224) (s256 := s256) (state := s4) (other := o4) (column := c4) (words := words) (sum := sum) (block := block) (noise := noise) (M := M) (fl := fl4) (kd := nI 10) (rt := nI 72) (tot := t2 + 1) hT hp hK he2 hs
  replace e5 : kz_VM (kz_vec rc (kz_sig rc (fun k => kz_by (z k)) K) e) K M5 := e5
  obtain ⟨g6, p6, e6⟩ := kz_rk137 (rc := rc) (roots := roots) (cubes := cubes) (s224 := s224) (s256 := s256) (state := a9) (other := a8) (column := a5) (words := a11) (sum := a10) (block := a4) (noise := a7) (pk := pk) (M := M5) (fl := a0) (kd := a1) (rt := a2) (tot := a3) hT hp hK he2 hs hv e5
  rcases e6 with ⟨⟨y0, y1, y2, y3, y4, y5, y6, y7, y8, M6, y10, y11, pc, y13, y14, y15⟩, rfl, hy2, ha, hV6, e6⟩ | ⟨ha, ⟨y0, y1, y2, y3, y4, y5, y6, y7, y8, y9, y10, y11, y12, y13, y14, y15⟩, rfl, hy2⟩
  · replace hy2 : y2 = 0 := hy2
    subst hy2
    replace hV6 : kz_VM (kz_vec rc (kz_sig rc (fun k => kz_by (z k)) K) e) K M6 := hV6
    replace e6 : ∀ p, pc p = if p < 384 * K then kz_by (kz_pb 12 (kz_kT rc (kz_rho rc (fun k => kz_by (z k)) K) (kz_sig rc (fun k => kz_by (z k)) K) K e (p / 384)) (p % 384)) else pk p := e6
    obtain ⟨g7, p7, e7⟩ := kz_move (f := sd) (g := pc) (a := 0) (b := 384 * K) (n := 32) (n1 := 256) (n3 := 8192) (fun k hk => by rw [hsd _ (by omega)]; exact kz_bn _) (by decide) (by omega) (by decide) (by decide) (by decide)
    have h7 := kz_mv_PK e6 (fun k hk => hsd k (by omega)) e7
    obtain ⟨g8, p8, e8⟩ := kz_move (f := g7) (g := X 1) (a := 0) (b := 0) (n := 384 * K + 32) (n1 := 8192) (n3 := 8192) (fun k hk => by rw [h7 _ (by omega)]; exact kz_bn _) (by omega) (by omega) (by decide) (by decide) (by omega)
    obtain ⟨g9, p9, e9⟩ := kz_rk356 (X := va_up X 1 g8) (f := X 2) hK hV6
    rw [show va_up (va_up X 1 g8) 2 (X 2) = va_up X 1 g8 from (congrArg (va_up (va_up X 1 g8) 2) (va_up_ne X g8 (show (2 : Nat) ≠ 1 by decide)).symm).trans (kz_vi _ _)] at p9
    obtain ⟨g10, p10, e10⟩ := kz_move (f := g7) (g := g9) (a := 0) (b := 384 * K) (n := 384 * K + 32) (n1 := 8192) (n3 := 8192) (fun k hk => by rw [h7 _ (by omega)]; exact kz_bn _) (by omega) (by omega) (by decide) (by decide) (by omega)
    obtain ⟨s11, p11, e11⟩ := kz_rbegin (kd := 8) roots s224 s256 y13 (by decide)
    rw [show kz_rt 8 = 136 from rfl] at p11
    obtain ⟨t12, s12, o12, c12, p12, e12⟩ := kz_rput2 (rc := rc) (kd := 8) (R := 136) (at' := 0) (n := 384 * K + 32) (n1 := 8192) (tot := (0 : Int64)) (u := kz_z) (other := y11) (column := y8) (words := y15) (cubes := cubes) (block := y7) (f := g7) hT (by decide) (by decide) (by decide) (by decide) (by decide) e11 (by omega) (by decide) (by omega)
    rw [kz_ab_c (w := fun k => kz_by (kz_PK rc (fun k => kz_by (z k)) K e k)) (fun k hk => by rw [Nat.zero_add]; exact h7 k hk)] at p12 e12
    have hlt12 := kz_ab_lt (rc := rc) (R := 136) (v := fun k => kz_by (kz_PK rc (fun k => kz_by (z k)) K e k)) (u := kz_z) (by decide) (by decide) (384 * K + 32)
    have hH : kz_H rc (fun k => kz_by (kz_PK rc (fun k => kz_by (z k)) K e k)) (384 * K + 32) = kz_gb rc 136 (kz_fin rc 136 6 (kz_ab rc 136 (fun k => kz_by (kz_PK rc (fun k => kz_by (z k)) K e k)) kz_z (384 * K + 32))) := rfl
    generalize kz_ab rc 136 (fun k => kz_by (kz_PK rc (fun k => kz_by (z k)) K e k)) kz_z (384 * K + 32) = U12 at p12 e12 hlt12 hH
    obtain ⟨s13, o13, c13, g13, p13, e13, b13⟩ := kz_rgive (rc := rc) (kd := 8) (R := 136) (at' := 384 * K + (384 * K + 32)) (n := 32) (n1 := 8192) (tot := t12) (other := o12) (column := c12) (words := y15) (cubes := cubes) (block := y7) (f := g10) hT (by decide) (by decide) (by decide) (by decide) hlt12 e12 (by omega) (by decide) (by decide)
    rw [show kz_sf 8 = 6 from rfl] at p13 b13
    rw [← hH] at b13
    generalize nI (kz_gv rc 136 (kz_fin rc 136 6 U12) 32).2 = fl13 at p13
    obtain ⟨g14, p14, e14⟩ := kz_move (f := X 0) (g := g13) (a := 32) (b := 384 * K + (384 * K + 32) + 32) (n := 32) (n1 := 8192) (n3 := 8192) (fun k hk => by rw [(hz (32 + k) (Nat.zero_le _) (by omega)).2]; exact kz_bn _) (by decide) (by omega) (by decide) (by decide) (by decide)
    refine ⟨(nI (768 * K + 96), nI (8 * (384 * K)), (0 : Int32), nI du, nI dv, nI e, fl13, nI K, nI 8, nI 136, t12, upd (upd length 1 (nI (384 * K + 32))) 2 (nI (768 * K + 96)), s13, o13, c13, y15, y7, y14, pts', sd, y10, g7, va_up (va_up X 1 g8) 2 g14, M6), ?_, Or.inl ⟨rfl, ha, rfl, rfl, g8, g14, rfl, fun p => ?_, fun p => ?_⟩⟩
    · unfold kJX5_kemKeys_31
      refine (kb_o_v (kz_good1 2)).trans ?_
      refine (kb_b_ff (by decide)).trans ?_
      refine (kb_o_v hkem).trans ?_
      refine (kb_o_v p1).trans ?_
      refine (kb_o_v p2).trans ?_
      refine (kb_o_v p3).trans ?_
      refine (kb_o_v p4).trans ?_
      refine (kb_o_v p5).trans ?_
      refine (kb_o_v p6).trans ?_
      refine kz_ir ?_
      dsimp only
      rw [show (384 : Int32) * nI K = nI (384 * K) from pk_mul _ _, show (768 : Int32) * nI K = nI (768 * K) from pk_mul _ _]
      refine (kb_o_v p7).trans ?_
      refine (kb_n_v (v := nI (384 * K + 32)) (nI_add (384 * K) 32)).trans ?_
      refine (kb_o_v p8).trans ?_
      refine (kb_n_v (v := va_up X 1 g8) rfl).trans ?_
      refine (kb_n_v (v := upd length 1 (nI (384 * K + 32))) rfl).trans ?_
      refine (kb_o_v p9).trans ?_
      dsimp only
      rw [va_up_self, nI_add]
      refine (kb_o_v p10).trans ?_
      refine (kb_n_v (v := va_up (va_up X 1 g8) 2 g10) (kz_vu _ 2 g9 g10)).trans ?_
      refine (kb_o_v p11).trans ?_
      refine (kb_o_v p12).trans ?_
      dsimp only
      rw [va_up_self]
      refine (kb_o_v p13).trans ?_
      refine (kb_n_v (v := va_up (va_up X 1 g8) 2 g13) (kz_vu _ 2 g10 g13)).trans ?_
      dsimp only
      rw [va_up_self, va_up_ne _ _ (show (0 : Nat) ≠ 2 by decide), va_up_ne _ _ (show (0 : Nat) ≠ 1 by decide), show nI (384 * K + (384 * K + 32)) + (32 : Int32) = nI (384 * K + (384 * K + 32) + 32) from nI_add _ 32]
      refine (kb_o_v p14).trans ?_
      refine (kb_n_v (v := va_up (va_up X 1 g8) 2 g14) (kz_vu _ 2 g13 g14)).trans ?_
      refine (kb_n_v (v := upd (upd length 1 (nI (384 * K + 32))) 2 (nI (768 * K + 96))) (by rw [show nI (768 * K) + (96 : Int32) = nI (768 * K + 96) from nI_add _ 96]; rfl)).trans ?_
      rfl
    · rw [e8 p]
      by_cases c1 : p < 384 * K + 32
      · rw [if_pos ⟨Nat.zero_le _, by omega⟩, if_pos c1, Nat.sub_zero, Nat.zero_add, h7 p c1]
      · rw [if_neg (by omega), if_neg c1]
    · rw [e14 p]
      unfold kz_SK
      by_cases c1 : 384 * K + (384 * K + 32) + 32 ≤ p ∧ p < 384 * K + (384 * K + 32) + 32 + 32
      · rw [if_pos c1, if_pos (by omega), if_neg (by omega), if_neg (by omega), if_neg (by omega), (hz (32 + (p - (384 * K + (384 * K + 32) + 32))) (Nat.zero_le _) (by omega)).2, show 384 * K + (384 * K + 32) + 32 = 768 * K + 64 by omega]
      · rw [if_neg c1, b13 p]
        by_cases c2 : 384 * K + (384 * K + 32) ≤ p ∧ p < 384 * K + (384 * K + 32) + 32
        · rw [if_pos c2, if_pos (by omega), if_neg (by omega), if_neg (by omega), if_pos (by omega), show 384 * K + (384 * K + 32) = 768 * K + 32 by omega]
        · rw [if_neg c2, e10 p]
          by_cases c3 : 384 * K ≤ p ∧ p < 384 * K + (384 * K + 32)
          · rw [if_pos c3, if_pos (by omega), if_neg (by omega), if_pos (by omega), Nat.zero_add, h7 _ (by omega)]
          · rw [if_neg c3, e9 p]
            by_cases c4 : p < 384 * K
            · rw [if_pos c4, if_pos (by omega), if_pos c4]
            · rw [if_neg c4, if_neg (by omega)]
  · refine ⟨((0 : Int32), y1, y2, nI du, nI dv, nI e, y3, nI K, y4, y5, y6, length, y13, y11, y8, y15, y7, y14, pts', sd, y10, y12, X, y9), ?_, Or.inr ⟨hy2, ha, rfl, rfl⟩⟩
    unfold kJX5_kemKeys_31
    refine (kb_o_v (kz_good1 2)).trans ?_
    refine (kb_b_ff (by decide)).trans ?_
    refine (kb_o_v hkem).trans ?_
    refine (kb_o_v p1).trans ?_
    refine (kb_o_v p2).trans ?_
    refine (kb_o_v p3).trans ?_
    refine (kb_o_v p4).trans ?_
    refine (kb_o_v p5).trans ?_
    exact (kb_o_v p6).trans rfl
/-! Layer 2: the reference's kemWrap and kemOpen behind the checks of numbers and lengths. -/
theorem kz_rw78 {B : Nat → Nat} {X : Nat → Nat → Int32} {K : Nat} (hK : K ≤ 4) (hB : kz_Y B (X 1) 0 (384 * K)) :
    ∃ r, kb_w (fun u : Int32 × Int32 × Int32 => kSX5_kemWrap_78 (nI K) X u.1 u.2.1 u.2.2) 100000 ((1 : Int32), (0 : Int32), (0 : Int32)) = some r ∧ ((r.1 = 1 ∧ kz_red B K) ∨ (r.1 = 0 ∧ ¬ kz_red B K)) := by
  have hiff : (∀ m, m < 256 * K → kz_tk 8 B (12 * m) 12 < 3329) ↔ kz_red B K := by
    constructor
    · intro h i c hi hc
      have h1 := h (256 * i + c) (by omega)
      rw [show 12 * (256 * i + c) = 8 * (384 * i) + 12 * c by omega] at h1
      exact h1
    · intro h m hm
      have h1 := h (m / 256) (m % 256) (by omega) (by omega)
      rw [show 8 * (384 * (m / 256)) + 12 * (m % 256) = 12 * m by omega] at h1
      exact h1
  rw [← hiff]
  refine kb_w_ex (σ := Int32 × Int32 × Int32) (ρ := Int32 × Int32 × Int32) (fun i u => u.2.1 = nI i ∧ u.2.2 = nI (12 * i) ∧ ((u.1 = 1 ∧ ∀ m, m < i → kz_tk 8 B (12 * m) 12 < 3329) ∨ (u.1 = 0 ∧ ¬ ∀ m, m < 256 * K → kz_tk 8 B (12 * m) 12 < 3329))) (fun r => (r.1 = 1 ∧ ∀ m, m < 256 * K → kz_tk 8 B (12 * m) 12 < 3329) ∨ (r.1 = 0 ∧ ¬ ∀ m, m < 256 * K → kz_tk 8 B (12 * m) 12 < 3329)) (256 * K) ?_ ?_ (256 * K) 0 _ 100000 (by omega) (by omega) ⟨rfl, rfl, Or.inl ⟨rfl, fun m hm => absurd hm (by omega)⟩⟩
  · rintro i ⟨x, y, b⟩ hi ⟨h1, h2, h3⟩
    replace h1 : y = nI i := h1
    replace h2 : b = nI (12 * i) := h2
    subst h1 h2
    rcases h3 with ⟨h3, h4⟩ | ⟨h3, h4⟩
    · replace h3 : x = 1 := h3
      subst h3
      have t1 := kz_takeBits (B := B) (f := X 1) (n1 := 8192) (at' := 0) (b := 12 * i) (d := 12) hB (by omega) (by omega) (by omega) (by decide) (by decide)
      rw [Nat.mul_zero, Nat.zero_add] at t1
      have hlt : kz_tk 8 B (12 * i) 12 < 2 ^ 12 := kz_tk_lt _ _ _ 12
      by_cases hc : kz_tk 8 B (12 * i) 12 < 3329
      · refine Or.inl ⟨((1 : Int32), nI (i + 1), nI (12 * i + 12)), ?_, rfl, rfl, Or.inl ⟨rfl, fun m hm => ?_⟩⟩
        · show kSX5_kemWrap_78 (nI K) X (1 : Int32) (nI i) (nI (12 * i)) = _
          unfold kSX5_kemWrap_78
          rw [show (256 : Int32) * nI K = nI (256 * K) from pk_mul _ _]
          refine (kb_b_ff (kz_nle hi (by omega))).trans ?_
          refine (kb_b_ff (by decide)).trans ?_
          refine (kb_o_v t1).trans ?_
          refine (kb_b_tt (kz_lt (b := 3329) hc (by decide))).trans ?_
          exact (kb_n_v (kz_inc _)).trans rfl
        · by_cases e9 : m = i
          · subst e9
            exact hc
          · exact h4 m (by omega)
      · refine Or.inl ⟨((0 : Int32), nI (i + 1), nI (12 * i + 12)), ?_, rfl, rfl, Or.inr ⟨rfl, fun h => hc (h i hi)⟩⟩
        show kSX5_kemWrap_78 (nI K) X (1 : Int32) (nI i) (nI (12 * i)) = _
        unfold kSX5_kemWrap_78
        rw [show (256 : Int32) * nI K = nI (256 * K) from pk_mul _ _]
        refine (kb_b_ff (kz_nle hi (by omega))).trans ?_
        refine (kb_b_ff (by decide)).trans ?_
        refine (kb_o_v t1).trans ?_
        refine (kb_b_ff (kz_nlt (b := 3329) (by omega) (by omega))).trans ?_
        exact (kb_n_v (kz_inc _)).trans rfl
    · replace h3 : x = 0 := h3
      subst h3
      refine Or.inr ⟨((0 : Int32), nI i, nI (12 * i)), ?_, Or.inr ⟨rfl, h4⟩⟩
      show kSX5_kemWrap_78 (nI K) X (0 : Int32) (nI i) (nI (12 * i)) = _
      unfold kSX5_kemWrap_78
      rw [show (256 : Int32) * nI K = nI (256 * K) from pk_mul _ _]
      refine (kb_b_ff (kz_nle hi (by omega))).trans ?_
      exact kb_b_tt (by decide)
  · rintro ⟨x, y, b⟩ ⟨h1, h2, h3⟩
    replace h1 : y = nI (256 * K) := h1
    subst h1
    refine ⟨(x, nI (256 * K), b), ?_, h3⟩
    show kSX5_kemWrap_78 (nI K) X x (nI (256 * K)) b = _
    unfold kSX5_kemWrap_78
    rw [show (256 : Int32) * nI K = nI (256 * K) from pk_mul _ _]
    exact kb_b_tt (kz_le (Nat.le_refl _) (by omega))
theorem kz_nn (du K dv : Nat) : 32 * (du * K + dv) = 32 * du * K + 32 * dv := by rw [Nat.mul_add, Nat.mul_assoc]
/-- SHA3-256 of the reference, into a place of a row -/
theorem kz_rhash {rc roots cubes s224 s256 state other column words : Nat → Int64} {turns block f g w : Nat → Int32} {a n n1 b n2 : Nat} (hT : ∀ i, i < 25 → turns i = nI (kz_tn i)) (hw : ∀ k, k < n → f (a + k) = w k) (hn : a + n ≤ n1) (hn1 : n1 < 2 ^ 31) (hn2 : n < 100000) (hb : b + 32 ≤ n2) (hb2 : n2 < 2 ^ 31) :
    ∃ s1 t2 s2 o2 c2 x2 fl s3 o3 c3 g', kFX5_begin (8 : Int32) roots s224 s256 state = some ((0 : Int32), nI 8, nI 136, (0 : Int64), s1) ∧ kFX5_put2 (nI a) (nI n) n1 (nI 8) (nI 136) (0 : Int32) (0 : Int64) cubes turns rc s1 other column words block f = some (x2, t2, s2, o2, c2, words, block) ∧ kFX5_give (nI b) (32 : Int32) n2 (nI 8) (nI 136) x2 t2 cubes turns rc s2 o2 c2 words block g = some (fl, t2, s3, o3, c3, words, block, g') ∧ ∀ k, g' k = if b ≤ k ∧ k < b + 32 then kz_by (kz_H rc w n (k - b)) else g k := by
  obtain ⟨s1, p1, e1⟩ := kz_rbegin (kd := 8) roots s224 s256 state (by decide)
  rw [show kz_rt 8 = 136 from rfl] at p1
  obtain ⟨t2, s2, o2, c2, p2, e2⟩ := kz_rput2 (rc := rc) (kd := 8) (R := 136) (at' := a) (n := n) (n1 := n1) (tot := (0 : Int64)) (u := kz_z) (other := other) (column := column) (words := words) (cubes := cubes) (block := block) (f := f) hT (by decide) (by decide) (by decide) (by decide) (by decide) e1 hn hn1 hn2
  rw [kz_ab_c hw] at p2 e2
  have hlt := kz_ab_lt (rc := rc) (R := 136) (v := w) (u := kz_z) (by decide) (by decide) n
  have hH : kz_H rc w n = kz_gb rc 136 (kz_fin rc 136 6 (kz_ab rc 136 w kz_z n)) := rfl
  generalize kz_ab rc 136 w kz_z n = U at p2 e2 hlt hH
  obtain ⟨s3, o3, c3, g', p3, e3, b3⟩ := kz_rgive (rc := rc) (kd := 8) (R := 136) (at' := b) (n := 32) (n1 := n2) (tot := t2) (other := o2) (column := c2) (words := words) (cubes := cubes) (block := block) (f := g) hT (by decide) (by decide) (by decide) (by decide) hlt e2 hb hb2 (by decide)
  rw [show kz_sf 8 = 6 from rfl] at p3 b3
  rw [← hH] at b3
  exact ⟨s1, t2, s2, o2, c2, _, _, s3, o3, c3, g', p1, p2, p3, b3⟩
/-- SHA3-512 of two times 32 bytes, of the reference, into a place of a row -/
theorem kz_rseeds {rc roots cubes s224 s256 state other column words : Nat → Int64} {turns block f h g m w : Nat → Int32} {a n1 b n2 c n3 : Nat} (hT : ∀ i, i < 25 → turns i = nI (kz_tn i)) (hm : ∀ k, k < 32 → f (a + k) = m k) (ha : a + 32 ≤ n1) (hn1 : n1 < 2 ^ 31) (hw : ∀ k, k < 32 → h (b + k) = w k) (hb : b + 32 ≤ n2) (hn2 : n2 < 2 ^ 31) (hc : c + 64 ≤ n3) (hn3 : n3 < 2 ^ 31) :
    ∃ s1 x2 t2 s2 o2 c2 x3 t3 s3 o3 c3 fl s4 o4 c4 g', kFX5_begin (10 : Int32) roots s224 s256 state = some ((0 : Int32), nI 10, nI 72, (0 : Int64), s1) ∧ kFX5_put2 (nI a) (32 : Int32) n1 (nI 10) (nI 72) (0 : Int32) (0 : Int64) cubes turns rc s1 other column words block f = some (x2, t2, s2, o2, c2, words, block) ∧ kFX5_put2 (nI b) (32 : Int32) n2 (nI 10) (nI 72) x2 t2 cubes turns rc s2 o2 c2 words block h = some (x3, t3, s3, o3, c3, words, block) ∧ kFX5_give (nI c) (64 : Int32) n3 (nI 10) (nI 72) x3 t3 cubes turns rc s3 o3 c3 words block g = some (fl, t3, s4, o4, c4, words, block, g') ∧ ∀ k, g' k = if c ≤ k ∧ k < c + 64 then kz_by (kz_gs rc m w (k - c)) else g k := by
  obtain ⟨s1, p1, e1⟩ := kz_rbegin (kd := 10) roots s224 s256 state (by decide)
  rw [show kz_rt 10 = 72 from rfl] at p1
  obtain ⟨t2, s2, o2, c2, p2, e2⟩ := kz_rput2 (rc := rc) (kd := 10) (R := 72) (at' := a) (n := 32) (n1 := n1) (tot := (0 : Int64)) (u := kz_z) (other := other) (column := column) (words := words) (cubes := cubes) (block := block) (f := f) hT (by decide) (by decide) (by decide) (by decide) (by decide) e1 ha hn1 (by decide)
  rw [kz_ab_c hm] at p2 e2
  have hlt := kz_ab_lt (rc := rc) (R := 72) (v := m) (u := kz_z) (by decide) (by decide) 32
  have hG : kz_gs rc m w = kz_gb rc 72 (kz_fin rc 72 6 (kz_ab rc 72 w (kz_ab rc 72 m kz_z 32) 32)) := rfl
  generalize kz_ab rc 72 m kz_z 32 = U at p2 e2 hlt hG
  obtain ⟨t3, s3, o3, c3, p3, e3⟩ := kz_rput2 (rc := rc) (kd := 10) (R := 72) (at' := b) (n := 32) (n1 := n2) (tot := t2) (other := o2) (column := c2) (words := words) (cubes := cubes) (block := block) (f := h) hT (by decide) (by decide) (by decide) (by decide) hlt e2 hb hn2 (by decide)
  rw [kz_ab_c hw] at p3 e3
  have hlt3 := kz_ab_lt (rc := rc) (R := 72) (v := w) (by decide) hlt 32
  generalize kz_ab rc 72 w U 32 = V at p3 e3 hlt3 hG
  obtain ⟨s4, o4, c4, g', p4, e4, b4⟩ := kz_rgive (rc := rc) (kd := 10) (R := 72) (at' := c) (n := 64) (n1 := n3) (tot := t3) (other := o3) (column := c3) (words := words) (cubes := cubes) (block := block) (f := g) hT (by decide) (by decide) (by decide) (by decide) hlt3 e3 hc hn3 (by decide)
  rw [show kz_sf 10 = 6 from rfl] at p4 b4
  rw [← hG] at b4
  exact ⟨s1, _, t2, s2, o2, c2, _, t3, s3, o3, c3, _, s4, o4, c4, g', p1, p2, p3, p4, b4⟩
/-- SHAKE256 of 32 bytes and n bytes, of the reference, into the first 32 places of a row -/
theorem kz_rJ {rc roots cubes s224 s256 state other column words : Nat → Int64} {turns block f h g m w : Nat → Int32} {a n1 n n2 n3 : Nat} (hT : ∀ i, i < 25 → turns i = nI (kz_tn i)) (hm : ∀ k, k < 32 → f (a + k) = m k) (ha : a + 32 ≤ n1) (hn1 : n1 < 2 ^ 31) (hw : ∀ k, k < n → h k = w k) (hb : n ≤ n2) (hn2 : n2 < 2 ^ 31) (hn : n < 100000) (hc : 32 ≤ n3) (hn3 : n3 < 2 ^ 31) :
    ∃ s1 x2 t2 s2 o2 c2 x3 t3 s3 o3 c3 fl s4 o4 c4 g', kFX5_begin (12 : Int32) roots s224 s256 state = some ((0 : Int32), nI 12, nI 136, (0 : Int64), s1) ∧ kFX5_put2 (nI a) (32 : Int32) n1 (nI 12) (nI 136) (0 : Int32) (0 : Int64) cubes turns rc s1 other column words block f = some (x2, t2, s2, o2, c2, words, block) ∧ kFX5_put2 (0 : Int32) (nI n) n2 (nI 12) (nI 136) x2 t2 cubes turns rc s2 o2 c2 words block h = some (x3, t3, s3, o3, c3, words, block) ∧ kFX5_give (0 : Int32) (32 : Int32) n3 (nI 12) (nI 136) x3 t3 cubes turns rc s3 o3 c3 words block g = some (fl, t3, s4, o4, c4, words, block, g') ∧ ∀ k, g' k = if k < 32 then kz_by (kz_J rc m w n k) else g k := by
  obtain ⟨s1, p1, e1⟩ := kz_rbegin (kd := 12) roots s224 s256 state (by decide)
  rw [show kz_rt 12 = 136 from rfl] at p1
  obtain ⟨t2, s2, o2, c2, p2, e2⟩ := kz_rput2 (rc := rc) (kd := 12) (R := 136) (at' := a) (n := 32) (n1 := n1) (tot := (0 : Int64)) (u := kz_z) (other := other) (column := column) (words := words) (cubes := cubes) (block := block) (f := f) hT (by decide) (by decide) (by decide) (by decide) (by decide) e1 ha hn1 (by decide)
  rw [kz_ab_c hm] at p2 e2
  have hlt := kz_ab_lt (rc := rc) (R := 136) (v := m) (u := kz_z) (by decide) (by decide) 32
  have hG : kz_J rc m w n = kz_gb rc 136 (kz_fin rc 136 31 (kz_ab rc 136 w (kz_ab rc 136 m kz_z 32) n)) := rfl
  generalize kz_ab rc 136 m kz_z 32 = U at p2 e2 hlt hG
  obtain ⟨t3, s3, o3, c3, p3, e3⟩ := kz_rput2 (rc := rc) (kd := 12) (R := 136) (at' := 0) (n := n) (n1 := n2) (tot := t2) (other := o2) (column := c2) (words := words) (cubes := cubes) (block := block) (f := h) hT (by decide) (by decide) (by decide) (by decide) hlt e2 (by omega) hn2 hn
  rw [kz_ab_c (w := w) (fun k hk => by rw [Nat.zero_add]; exact hw k hk)] at p3 e3
  have hlt3 := kz_ab_lt (rc := rc) (R := 136) (v := w) (by decide) hlt n
  generalize kz_ab rc 136 w U n = V at p3 e3 hlt3 hG
  obtain ⟨s4, o4, c4, g', p4, e4, b4⟩ := kz_rgive (rc := rc) (kd := 12) (R := 136) (at' := 0) (n := 32) (n1 := n3) (tot := t3) (other := o3) (column := c3) (words := words) (cubes := cubes) (block := block) (f := g) hT (by decide) (by decide) (by decide) (by decide) hlt3 e3 (by omega) hn3 (by decide)
  rw [show kz_sf 12 = 31 from rfl] at p4 b4
  rw [← hG] at b4
  refine ⟨s1, _, t2, s2, o2, c2, _, t3, s3, o3, c3, _, s4, o4, c4, g', p1, p2, p3, p4, fun k => ?_⟩
  rw [b4 k]
  by_cases h : k < 32
  · rw [if_pos ⟨Nat.zero_le _, by omega⟩, if_pos h, Nat.sub_zero]
  · rw [if_neg (by omega), if_neg h]
theorem kz_rw121z {rc roots cubes s224 s256 state other column words sum : Nat → Int64} {turns length block pts seed noise back : Nat → Int32} {X M : Nat → Nat → Int32} {kd rt fl bt k0 e0 du0 dv0 : Int32} {tot : Int64} :
    ∃ g, kJX5_kemWrap_121 (0 : Int32) kd rt fl tot bt k0 e0 du0 dv0 length roots cubes s224 s256 turns rc state other column words block sum pts seed noise back X M = some g ∧ g.2.2.1 = 3 ∧ g.2.2.2.2.2.2.2.2.2.2.2.1 = length ∧ g.2.2.2.2.2.2.2.2.2.2.2.2.2.2.2.2.2.2.2.2.2.2.1 = X := by
  refine ⟨((0 : Int32), bt, (3 : Int32), du0, dv0, e0, fl, k0, kd, rt, tot, length, state, other, column, words, block, sum, pts, seed, noise, back, X, M), ?_, rfl, rfl, rfl⟩
  unfold kJX5_kemWrap_121
  refine (kb_o_v (kz_good0 3)).trans ?_
  exact kb_b_tt (by decide)
theorem kz_rw121 {rc roots cubes s224 s256 state other column words sum : Nat → Int64} {turns length block pts seed noise back : Nat → Int32} {X M : Nat → Nat → Int32} {B z : Nat → Nat} {K e du dv : Nat} {kd rt fl bt : Int32} {tot : Int64} (hT : ∀ i, i < 25 → turns i = nI (kz_tn i)) (hp : kz_pts pts) (hK : K ≤ 4) (he : e ∈ [2, 3]) (hdu : du ∈ [10, 11]) (hdv : dv ∈ [4, 5]) (hlen : length 1 = nI (384 * K + 32)) (hB : kz_Y B (X 1) 0 (384 * K + 32)) (hz : kz_Y z (X 0) 0 32) :
    ∃ g, kJX5_kemWrap_121 (1 : Int32) kd rt fl tot bt (nI K) (nI e) (nI du) (nI dv) length roots cubes s224 s256 turns rc state other column words block sum pts seed noise back X M = some g ∧
      ((g.2.2.1 = 0 ∧ kz_all rc (fun k => kz_by (B (384 * K + k))) K ∧ g.1 = nI (32 * du * K + 32 * dv) ∧ g.2.2.2.2.2.2.2.2.2.2.2.1 = upd (upd length 5 (nI (32 * du * K + 32 * dv))) 6 (nI 32) ∧ ∃ a5 a6, g.2.2.2.2.2.2.2.2.2.2.2.2.2.2.2.2.2.2.2.2.2.2.1 = va_up (va_up X 5 a5) 6 a6 ∧ (∀ p, a5 p = if p < 32 * du * K + 32 * dv then kz_by (kz_wC rc B z K e du dv p) else X 5 p) ∧ ∀ p, a6 p = if p < 32 then kz_by (kz_wS rc B z K p) else X 6 p) ∨
       (g.2.2.1 = 4 ∧ ¬ kz_all rc (fun k => kz_by (B (384 * K + k))) K ∧ g.2.2.2.2.2.2.2.2.2.2.2.1 = length ∧ g.2.2.2.2.2.2.2.2.2.2.2.2.2.2.2.2.2.2.2.2.2.2.1 = X)) := by
  obtain ⟨hd1, hd2, hd3⟩ := kz_d10 hdu
  obtain ⟨hv1, hv2, hv3⟩ := kz_d4 hdv
  have hdK : 32 * du * K ≤ 352 * 4 := Nat.mul_le_mul (by omega) (by omega)
  obtain ⟨s1, t1, s1', o1, c1, x1, fl1, s1b, o1b, c1b, sd1, p1a, p1b, p1c, e1⟩ := kz_rhash (rc := rc) (roots := roots) (cubes := cubes) (s224 := s224) (s256 := s256) (state := state) (other := other) (column := column) (words := words) (block := block) (f := X 1) (g := seed) (w := fun k => kz_by (B k)) (a := 0) (n := 384 * K + 32) (n1 := 8192) (b := 128) (n2 := 256) hT (fun k hk => by rw [Nat.zero_add]; exact (hB k (Nat.zero_le _) hk).2) (by omega) (by decide) (by omega) (by decide) (by decide)
  obtain ⟨s2, x2, t2, s2a, o2a, c2a, x3, t3, s3, o3, c3, fl4, s4, o4, c4, sd2, p2a, p2b, p2c, p2d, e2⟩ := kz_rseeds (rc := rc) (roots := roots) (cubes := cubes) (s224 := s224) (s256 := s256) (state := s1b) (other := o1b) (column := c1b) (words := words) (block := block) (f := X 0) (h := sd1) (g := sd1) (m := fun k => kz_by (z k)) (w := fun k => kz_by (kz_H rc (fun k => kz_by (B k)) (384 * K + 32) k)) (a := 0) (n1 := 8192) (b := 128) (n2 := 256) (c := 64) (n3 := 256) hT (fun k hk => by rw [Nat.zero_add]; exact (hz k (Nat.zero_le _) hk).2) (by decide) (by decide) (fun k hk => by rw [e1 (128 + k), if_pos ⟨by omega, by omega⟩, show 128 + k - 128 = k by omega]) (by decide) (by decide) (by decide) (by decide)
  replace e2 : ∀ k, sd2 k = if 64 ≤ k ∧ k < 64 + 64 then kz_by (kz_wS rc B z K (k - 64)) else sd1 k := e2
  obtain ⟨⟨r3, b1, b2, b3, b4, b5, b6, b7, b8, b9, b10, b11, b12, bk, M3⟩, p3, e3⟩ := kz_rencrypt (rc := rc) (roots := roots) (cubes := cubes) (s224 := s224) (s256 := s256) (state := s4) (other := o4) (column := c4) (words := words) (sum := sum) (block := block) (noise := noise) (key := X 1) (m := X 0) (r := sd2) (s := fun k => kz_by (kz_wS rc B z K (32 + k))) (v := fun k => kz_by (B (384 * K + k))) (back := back) (M := M) (B := B) (Bm := z) (e := e) (du := du) (dv := dv) (fr := 96) (at' := 0) (n1 := 8192) (n3 := 8192) (n4 := 256) (fl := fl4) (kd := nI 10) (rt := nI 72) (tot := t3) hT hp hK he hdu hdv (fun k hk => by rw [e2 (96 + k), if_pos ⟨by omega, by omega⟩, show 96 + k - 64 = 32 + k by omega]) (by decide) (by decide) (fun k hk => by rw [Nat.zero_add]; exact (hB (384 * K + k) (Nat.zero_le _) (by omega)).2) (kz_Y_m hB (by omega) (by omega)) (by omega) (by decide) hz (by decide) (by decide)
  rcases e3 with ⟨h3, ha, e3⟩ | ⟨h3, ha⟩
  · replace h3 : r3 = 1 := h3
    subst h3
    replace e3 : ∀ p, bk p = if p < 32 * du * K + 32 * dv then kz_by (kz_wC rc B z K e du dv p) else back p := e3
    obtain ⟨g5, p5, e5⟩ := kz_move (f := bk) (g := X 5) (a := 0) (b := 0) (n := 32 * du * K + 32 * dv) (n1 := 8192) (n3 := 8192) (fun k hk => by rw [e3, if_pos (by omega)]; exact kz_bn _) (by omega) (by omega) (by decide) (by decide) (by omega)
    obtain ⟨g6, p6, e6⟩ := kz_move (f := sd2) (g := X 6) (a := 64) (b := 0) (n := 32) (n1 := 256) (n3 := 8192) (fun k hk => by rw [e2, if_pos ⟨by omega, by omega⟩]; exact kz_bn _) (by decide) (by decide) (by decide) (by decide) (by decide)
    refine ⟨(nI (32 * du * K + 32 * dv), b1, (0 : Int32), nI du, nI dv, nI e, b2, nI K, b3, b4, b5, upd (upd length 5 (nI (32 * du * K + 32 * dv))) 6 (nI 32), b6, b7, b8, b9, b10, b11, pts, sd2, b12, bk, va_up (va_up X 5 g5) 6 g6, M3), ?_, Or.inl ⟨rfl, ha, rfl, rfl, g5, g6, rfl, fun p => ?_, fun p => ?_⟩⟩
    · unfold kJX5_kemWrap_121
      refine (kb_o_v (kz_good1 3)).trans ?_
      refine (kb_b_ff (by decide)).trans ?_
      refine (kb_o_v p1a).trans ?_
      dsimp only
      rw [show length (1 : Int32).toNatClampNeg = nI (384 * K + 32) from hlen]
      refine (kb_o_v p1b).trans ?_
      refine (kb_o_v p1c).trans ?_
      refine (kb_o_v p2a).trans ?_
      refine (kb_o_v p2b).trans ?_
      refine (kb_o_v p2c).trans ?_
      refine (kb_o_v p2d).trans ?_
      refine (kb_o_v p3).trans ?_
      refine (kb_o_v (kz_good1 4)).trans ?_
      refine (kb_b_ff (by decide)).trans ?_
      refine (kb_n_v (v := nI (32 * du * K + 32 * dv)) ?_).trans ?_
      · rw [pk_mul, nI_add, ← kz_nn]
        exact pk_mul 32 _
      refine (kb_o_v p5).trans ?_
      refine (kb_n_v (v := va_up X 5 g5) rfl).trans ?_
      refine (kb_n_v (v := upd length 5 (nI (32 * du * K + 32 * dv))) rfl).trans ?_
      dsimp only
      rw [va_up_ne _ _ (show (6 : Nat) ≠ 5 by decide)]
      refine (kb_o_v p6).trans ?_
      refine (kb_n_v (v := va_up (va_up X 5 g5) 6 g6) rfl).trans ?_
      exact (kb_n_v (v := upd (upd length 5 (nI (32 * du * K + 32 * dv))) 6 (nI 32)) rfl).trans rfl
    · rw [e5 p]
      by_cases c1 : p < 32 * du * K + 32 * dv
      · rw [if_pos ⟨Nat.zero_le _, by omega⟩, if_pos c1, Nat.sub_zero, Nat.zero_add, e3 p, if_pos c1]
      · rw [if_neg (by omega), if_neg c1]
    · rw [e6 p]
      by_cases c1 : p < 32
      · rw [if_pos ⟨Nat.zero_le _, by omega⟩, if_pos c1, Nat.sub_zero, e2, if_pos ⟨by omega, by omega⟩, show 64 + p - 64 = p by omega]
      · rw [if_neg (by omega), if_neg c1]
  · replace h3 : r3 = 0 := h3
    subst h3
    refine ⟨((0 : Int32), b1, (4 : Int32), nI du, nI dv, nI e, b2, nI K, b3, b4, b5, length, b6, b7, b8, b9, b10, b11, pts, sd2, b12, bk, X, M3), ?_, Or.inr ⟨rfl, ha, rfl, rfl⟩⟩
    unfold kJX5_kemWrap_121
    refine (kb_o_v (kz_good1 3)).trans ?_
    refine (kb_b_ff (by decide)).trans ?_
    refine (kb_o_v p1a).trans ?_
    dsimp only
    rw [show length (1 : Int32).toNatClampNeg = nI (384 * K + 32) from hlen]
    refine (kb_o_v p1b).trans ?_
    refine (kb_o_v p1c).trans ?_
    refine (kb_o_v p2a).trans ?_
    refine (kb_o_v p2b).trans ?_
    refine (kb_o_v p2c).trans ?_
    refine (kb_o_v p2d).trans ?_
    refine (kb_o_v p3).trans ?_
    refine (kb_o_v (kz_good0 4)).trans ?_
    exact kb_b_tt (by decide)
theorem kz_rwrap {rc roots cubes s224 s256 state other column words sum : Nat → Int64} {turns length block pts seed noise back : Nat → Int32} {X M : Nat → Nat → Int32} {B z : Nat → Nat} {st L : Nat} {kd rt fl bt k0 e0 du0 dv0 : Int32} {tot : Int64} (hT : ∀ i, i < 25 → turns i = nI (kz_tn i)) (hst : st < 3) (hlen : length 1 = nI L) (hL : L < 2 ^ 31) (hB : kz_Y B (X 1) 0 L) (hz : kz_Y z (X 0) 0 32) :
    ∃ g, kJX5_kemWrap_31 (nI st) kd rt fl tot bt k0 e0 du0 dv0 length roots cubes s224 s256 turns rc state other column words block sum pts seed noise back X M (1 : Int32) = some g ∧
      ((L = 384 * kz_sK st + 32 ∧ kz_red B (kz_sK st) ∧ g.2.2.1 = 0 ∧ kz_all rc (fun k => kz_by (B (384 * kz_sK st + k))) (kz_sK st) ∧ g.1 = nI (32 * kz_sU st * kz_sK st + 32 * kz_sV st) ∧ g.2.2.2.2.2.2.2.2.2.2.2.1 = upd (upd length 5 (nI (32 * kz_sU st * kz_sK st + 32 * kz_sV st))) 6 (nI 32) ∧ ∃ a5 a6, g.2.2.2.2.2.2.2.2.2.2.2.2.2.2.2.2.2.2.2.2.2.2.1 = va_up (va_up X 5 a5) 6 a6 ∧ (∀ p, a5 p = if p < 32 * kz_sU st * kz_sK st + 32 * kz_sV st then kz_by (kz_wC rc B z (kz_sK st) (kz_sE st) (kz_sU st) (kz_sV st) p) else X 5 p) ∧ ∀ p, a6 p = if p < 32 then kz_by (kz_wS rc B z (kz_sK st) p) else X 6 p) ∨
       (L = 384 * kz_sK st + 32 ∧ kz_red B (kz_sK st) ∧ g.2.2.1 = 4 ∧ ¬ kz_all rc (fun k => kz_by (B (384 * kz_sK st + k))) (kz_sK st) ∧ g.2.2.2.2.2.2.2.2.2.2.2.1 = length ∧ g.2.2.2.2.2.2.2.2.2.2.2.2.2.2.2.2.2.2.2.2.2.2.1 = X) ∨
       (¬ (L = 384 * kz_sK st + 32 ∧ kz_red B (kz_sK st)) ∧ g.2.2.1 = 3 ∧ g.2.2.2.2.2.2.2.2.2.2.2.1 = length ∧ g.2.2.2.2.2.2.2.2.2.2.2.2.2.2.2.2.2.2.2.2.2.2.1 = X)) := by
  obtain ⟨pts', hkem, hp⟩ := kz_rkemS hst pts
  obtain ⟨hK, hK2, he, hdu, hdv⟩ := kz_set hst
  generalize kz_sK st = K at hkem hK hK2 ⊢
  generalize kz_sE st = e at hkem he ⊢
  generalize kz_sU st = du at hkem hdu ⊢
  generalize kz_sV st = dv at hkem hdv ⊢
  have hsz : (384 : Int32) * nI K + (32 : Int32) = nI (384 * K + 32) := by rw [show (384 : Int32) * nI K = nI (384 * K) from pk_mul _ _]; exact nI_add (384 * K) 32
  by_cases hLe : L = 384 * K + 32
  · subst hLe
    obtain ⟨⟨x, y, b⟩, p1, e1⟩ := kz_rw78 (X := X) (B := B) hK (kz_Y_m hB (by omega) (by omega))
    rcases e1 with ⟨h1, hr⟩ | ⟨h1, hr⟩
    · replace h1 : x = 1 := h1
      subst h1
      obtain ⟨g, p2, e2⟩ := kz_rw121 (rc := rc) (roots := roots) (cubes := cubes) (s224 := s224) (s256 := s256) (state := state) (other := other) (column := column) (words := words) (sum := sum) (block := block) (seed := seed) (noise := noise) (back := back) (X := X) (M := M) (kd := kd) (rt := rt) (fl := fl) (bt := b) (tot := tot) hT hp hK he hdu hdv hlen hB hz
      refine ⟨g, ?_, ?_⟩
      · unfold kJX5_kemWrap_31
        refine (kb_o_v (kz_good1 2)).trans ?_
        refine (kb_b_ff (by decide)).trans ?_
        refine (kb_o_v hkem).trans ?_
        dsimp only
        rw [show length (1 : Int32).toNatClampNeg = nI (384 * K + 32) from hlen, hsz]
        refine (kb_b_tt (kz_eqt rfl)).trans ?_
        unfold kJX5_kemWrap_70
        refine (kb_o_v p1).trans ?_
        exact p2
      · rcases e2 with ⟨q1, q2, q3, q4, q5⟩ | ⟨q1, q2, q3, q4⟩
        · exact Or.inl ⟨rfl, hr, q1, q2, q3, q4, q5⟩
        · exact Or.inr (Or.inl ⟨rfl, hr, q1, q2, q3, q4⟩)
    · replace h1 : x = 0 := h1
      subst h1
      obtain ⟨g, p2, e2⟩ := kz_rw121z (rc := rc) (roots := roots) (cubes := cubes) (s224 := s224) (s256 := s256) (state := state) (other := other) (column := column) (words := words) (sum := sum) (turns := turns) (length := length) (block := block) (pts := pts') (seed := seed) (noise := noise) (back := back) (X := X) (M := M) (kd := kd) (rt := rt) (fl := fl) (bt := b) (tot := tot) (k0 := nI K) (e0 := nI e) (du0 := nI du) (dv0 := nI dv)
      refine ⟨g, ?_, Or.inr (Or.inr ⟨fun h => hr h.2, e2⟩)⟩
      unfold kJX5_kemWrap_31
      refine (kb_o_v (kz_good1 2)).trans ?_
      refine (kb_b_ff (by decide)).trans ?_
      refine (kb_o_v hkem).trans ?_
      dsimp only
      rw [show length (1 : Int32).toNatClampNeg = nI (384 * K + 32) from hlen, hsz]
      refine (kb_b_tt (kz_eqt rfl)).trans ?_
      unfold kJX5_kemWrap_70
      refine (kb_o_v p1).trans ?_
      exact p2
  · obtain ⟨g, p2, e2⟩ := kz_rw121z (rc := rc) (roots := roots) (cubes := cubes) (s224 := s224) (s256 := s256) (state := state) (other := other) (column := column) (words := words) (sum := sum) (turns := turns) (length := length) (block := block) (pts := pts') (seed := seed) (noise := noise) (back := back) (X := X) (M := M) (kd := kd) (rt := rt) (fl := fl) (bt := (0 : Int32)) (tot := tot) (k0 := nI K) (e0 := nI e) (du0 := nI du) (dv0 := nI dv)
    refine ⟨g, ?_, Or.inr (Or.inr ⟨fun h => hLe h.1, e2⟩)⟩
    unfold kJX5_kemWrap_31
    refine (kb_o_v (kz_good1 2)).trans ?_
    refine (kb_b_ff (by decide)).trans ?_
    refine (kb_o_v hkem).trans ?_
    dsimp only
    rw [show length (1 : Int32).toNatClampNeg = nI L from hlen, hsz]
    refine (kb_b_ff (kz_eqf hLe hL (by omega))).trans ?_
    unfold kJX5_kemWrap_70
    refine (kb_o_v (u := ((0 : Int32), (0 : Int32), (0 : Int32))) ?_).trans ?_
    · have hstep : kSX5_kemWrap_78 (nI K) X (0 : Int32) (0 : Int32) (0 : Int32) = some (.inr ((0 : Int32), (0 : Int32), (0 : Int32))) := by
        unfold kSX5_kemWrap_78
        rw [show (256 : Int32) * nI K = nI (256 * K) from pk_mul _ _]
        refine (kb_b_ff (kz_nle (i := 0) (by omega) (by omega))).trans ?_
        exact kb_b_tt (by decide)
      show kb_w _ (99999 + 1) _ = _
      unfold kb_w
      dsimp only
      rw [hstep]
    · exact p2
-- ===== kemOpen
theorem kz_ro198 {B : Nat → Nat} {X M : Nat → Nat → Int32} {du j K : Nat} (hd0 : 0 < du) (hd : du ≤ 11) (hj : j < K) (hK : K ≤ 4) (hY : kz_Y B (X 5) 0 (32 * du * K)) :
    ∃ g, kb_w (fun u : Int32 × Int32 × (Nat → Nat → Int32) => kSX5_kemOpen_198 (nI du) X u.1 u.2.1 u.2.2) 100000 ((0 : Int32), nI (8 * (32 * du * j)), M) = some (nI 256, nI (8 * (32 * du * j) + du * 256), va_up M 11 g) ∧ kz_R (kz_rU B du j) g := by
  have hdj := kz_duj (du := du) hj
  have hdK : 32 * du * K ≤ 352 * 4 := Nat.mul_le_mul (by omega) (by omega)
  refine kz_rtake (S := fun x u => kSX5_kemOpen_198 (nI du) X x u.1 u.2) (fun c hc => kz_ex_lt hd0 hd (kz_tk_lt _ _ _ du)) (fun c g hc => ?_) (fun p g => kb_b_tt (kz_le (n := 256) (Nat.le_refl _) (by decide)))
  have hcd : du * c + du ≤ 256 * du := by
    have h1 := Nat.mul_le_mul_left du (show c + 1 ≤ 256 from hc)
    rw [Nat.mul_succ] at h1
    omega
  have h1 := kz_takeBits (B := B) (f := X 5) (n1 := 8192) (at' := 0) (b := 8 * (32 * du * j) + du * c) (d := du) hY (by omega) (by omega) (by omega) (by decide) (by omega)
  rw [Nat.mul_zero, Nat.zero_add] at h1
  have h2 : kz_tk 8 B (8 * (32 * du * j) + du * c) du < 2 ^ du := kz_tk_lt _ _ _ du
  have h3 := kz_rex hd0 hd h2
  show kSX5_kemOpen_198 (nI du) X (nI c) (nI (8 * (32 * du * j) + du * c)) (va_up M 11 g) = _
  unfold kSX5_kemOpen_198
  rw [nI_clamp (show c < 2 ^ 31 by omega)]
  refine (kb_b_ff (kz_nle (n := 256) hc (by decide))).trans ?_
  refine (kb_o_v h1).trans ?_
  refine (kb_o_v h3).trans ?_
  refine (kb_g_tt (kb_in_n hc (by decide))).trans ?_
  dsimp only
  rw [va_up_self, kz_vu]
  refine (kb_n_v rfl).trans ?_
  exact (kb_n_v (kz_inc _)).trans rfl
theorem kz_ro371 {B : Nat → Nat} {X M : Nat → Nat → Int32} {dv a : Nat} (hd0 : 0 < dv) (hd : dv ≤ 5) (ha : a + 32 * dv ≤ 8192) (hY : kz_Y B (X 5) 0 (a + 32 * dv)) :
    ∃ g, kb_w (fun u : Int32 × Int32 × (Nat → Nat → Int32) => kSX5_kemOpen_371 (nI dv) X u.1 u.2.1 u.2.2) 100000 ((0 : Int32), nI (8 * a), M) = some (nI 256, nI (8 * a + dv * 256), va_up M 11 g) ∧ kz_R (fun c => kz_ex (kz_tk 8 B (8 * a + dv * c) dv) dv) g := by
  refine kz_rtake (S := fun x u => kSX5_kemOpen_371 (nI dv) X x u.1 u.2) (fun c hc => kz_ex_lt hd0 (by omega) (kz_tk_lt _ _ _ dv)) (fun c g hc => ?_) (fun p g => kb_b_tt (kz_le (n := 256) (Nat.le_refl _) (by decide)))
  have hcd : dv * c + dv ≤ 256 * dv := by
    have h1 := Nat.mul_le_mul_left dv (show c + 1 ≤ 256 from hc)
    rw [Nat.mul_succ] at h1
    omega
  have h1 := kz_takeBits (B := B) (f := X 5) (n1 := 8192) (at' := 0) (b := 8 * a + dv * c) (d := dv) hY (by omega) (by omega) (by omega) (by decide) (by omega)
  rw [Nat.mul_zero, Nat.zero_add] at h1
  have h2 : kz_tk 8 B (8 * a + dv * c) dv < 2 ^ dv := kz_tk_lt _ _ _ dv
  have h3 := kz_rex hd0 (show dv ≤ 11 by omega) h2
  show kSX5_kemOpen_371 (nI dv) X (nI c) (nI (8 * a + dv * c)) (va_up M 11 g) = _
  unfold kSX5_kemOpen_371
  rw [nI_clamp (show c < 2 ^ 31 by omega)]
  refine (kb_b_ff (kz_nle (n := 256) hc (by decide))).trans ?_
  refine (kb_o_v h1).trans ?_
  refine (kb_o_v h3).trans ?_
  refine (kb_g_tt (kb_in_n hc (by decide))).trans ?_
  dsimp only
  rw [va_up_self, kz_vu]
  refine (kb_n_v rfl).trans ?_
  exact (kb_n_v (kz_inc _)).trans rfl
theorem kz_ro268 {B : Nat → Nat} {X M : Nat → Nat → Int32} {j : Nat} (hj : j < 4) (hY : kz_Y B (X 2) 0 (384 * (j + 1))) :
    ∃ g, kb_w (fun u : Int32 × Int32 × (Nat → Nat → Int32) => kSX5_kemOpen_268 X u.1 u.2.1 u.2.2) 100000 ((0 : Int32), nI (3072 * j), M) = some (nI 256, nI (3072 * j + 12 * 256), va_up M 12 g) ∧ kz_R (kz_nm B 0 j) g := by
  refine kz_rtake (S := fun x u => kSX5_kemOpen_268 X x u.1 u.2) (fun c _ => Nat.mod_lt _ (by decide)) (fun c g hc => ?_) (fun p g => kb_b_tt (kz_le (n := 256) (Nat.le_refl _) (by decide)))
  have h1 := kz_takeBits (B := B) (f := X 2) (n1 := 8192) (at' := 0) (b := 3072 * j + 12 * c) (d := 12) hY (by omega) (by omega) (by omega) (by decide) (by decide)
  rw [show 8 * 0 + (3072 * j + 12 * c) = 8 * (0 + 384 * j) + 12 * c by omega] at h1
  have h2 : kz_tk 8 B (8 * (0 + 384 * j) + 12 * c) 12 < 2 ^ 12 := kz_tk_lt _ _ _ 12
  show kSX5_kemOpen_268 X (nI c) (nI (3072 * j + 12 * c)) (va_up M 12 g) = _
  unfold kSX5_kemOpen_268 kz_nm
  rw [nI_clamp (show c < 2 ^ 31 by omega)]
  refine (kb_b_ff (kz_nle (n := 256) hc (by decide))).trans ?_
  refine (kb_o_v h1).trans ?_
  refine (kb_g_tt (kb_in_n hc (by decide))).trans ?_
  dsimp only
  generalize kz_tk 8 B (8 * (0 + 384 * j) + 12 * c) 12 = x at h2 ⊢
  rw [kz_rem (by omega), va_up_self, kz_vu]
  refine (kb_n_v rfl).trans ?_
  exact (kb_n_v (kz_inc _)).trans rfl
theorem kz_ro171 {Bs Bc s0 : Nat → Nat} {pts : Nat → Int32} {X M : Nat → Nat → Int32} {sum : Nat → Int64} {bt : Int32} {K du : Nat} (hp : kz_pts pts) (hK : K ≤ 4) (hd0 : 0 < du) (hd : du ≤ 11) (hs : kz_Y Bs (X 2) 0 (384 * K)) (hc : kz_Y Bc (X 5) 0 (32 * du * K)) (hf : kz_R s0 (M 10)) :
    ∃ g, kb_w (fun u : Int32 × Int32 × (Nat → Nat → Int32) × (Nat → Int64) => kSX5_kemOpen_171 (nI K) (nI du) pts X u.1 u.2.1 u.2.2.1 u.2.2.2) 100000 ((0 : Int32), bt, M, sum) = some (nI K, g) ∧ kz_R (kz_acc s0 (fun j => kz_ntt (kz_rU Bc du j)) (kz_nm Bs 0) K) (g.2.1 10) := by
  have key := kz_for (G := Int32 × (Nat → Nat → Int32) × (Nat → Int64)) (S := fun x g => kSX5_kemOpen_171 (nI K) (nI du) pts X x g.1 g.2.1 g.2.2) (g := (bt, M, sum)) nI K (fun j g => kz_R (kz_acc s0 (fun j => kz_ntt (kz_rU Bc du j)) (kz_nm Bs 0) j) (g.2.1 10)) (by omega) ?_ ?_ hf
  · exact key
  · rintro j ⟨bt, M, sm⟩ hj h
    replace h : kz_R (kz_acc s0 (fun j => kz_ntt (kz_rU Bc du j)) (kz_nm Bs 0) j) (M 10) := h
    obtain ⟨g1, p1, e1⟩ := kz_ro198 (M := M) hd0 hd hj hK hc
    obtain ⟨sm2, f2, p2, e2⟩ := kz_rntt (sm := sm) e1 hp
    obtain ⟨g3, p3, e3⟩ := kz_ro268 (B := Bs) (X := X) (M := va_up (va_up M 11 g1) 11 f2) (j := j) (by omega) (kz_Y_m hs (by omega) (by omega))
    obtain ⟨f4, p4, e4⟩ := kz_rprod hp h e2 e3
    refine ⟨(nI (3072 * j + 12 * 256), va_up (va_up (va_up (va_up M 11 g1) 11 f2) 12 g3) 10 f4, sm2), ?_, ?_⟩
    · show kSX5_kemOpen_171 (nI K) (nI du) pts X (nI j) bt M sm = _
      unfold kSX5_kemOpen_171
      refine (kb_b_ff (kz_nle hj (by omega))).trans ?_
      refine (kb_n_v (v := nI (8 * (32 * du * j))) (by rw [show (256 : Int32) * nI du = nI (256 * du) from pk_mul _ _, pk_mul, kz_256])).trans ?_
      refine (kb_o_v p1).trans ?_
      dsimp only
      rw [va_up_self]
      refine (kb_o_v p2).trans ?_
      refine (kb_n_v (v := va_up (va_up M 11 g1) 11 f2) rfl).trans ?_
      refine (kb_n_v (v := nI (3072 * j)) (pk_mul 3072 j)).trans ?_
      refine (kb_o_v p3).trans ?_
      dsimp only
      rw [va_up_self, va_up_ne _ _ (show (10 : Nat) ≠ 12 by decide), va_up_ne _ _ (show (10 : Nat) ≠ 11 by decide), va_up_ne _ _ (show (10 : Nat) ≠ 11 by decide), va_up_ne _ _ (show (11 : Nat) ≠ 12 by decide), va_up_self]
      refine (kb_o_v p4).trans ?_
      refine (kb_n_v (v := va_up (va_up (va_up (va_up M 11 g1) 11 f2) 12 g3) 10 f4) rfl).trans ?_
      exact (kb_n_v (kz_inc _)).trans rfl
    · show kz_R (kz_acc s0 (fun j => kz_ntt (kz_rU Bc du j)) (kz_nm Bs 0) (j + 1)) (va_up (va_up (va_up (va_up M 11 g1) 11 f2) 12 g3) 10 f4 10)
      rw [va_up_self]
      exact e4
  · rintro ⟨bt, M, sm⟩ h
    exact kb_b_tt (kz_le (Nat.le_refl _) (by omega))
theorem kz_sub3 {a b : Nat} (hb : b < 3329) : nI a - nI b + (3329 : Int32) = nI (a + 3329 - b) := by
  rw [Int32.sub_eq_add_neg, Int32.add_assoc, Int32.add_comm (-nI b), ← Int32.add_assoc, ← Int32.sub_eq_add_neg, show nI a + (3329 : Int32) = nI (a + 3329) from nI_add a 3329, pk_sub (show b ≤ a + 3329 by omega)]
theorem kz_ro425 {a b : Nat → Nat} {M : Nat → Nat → Int32} {ms : Nat → Int32} (ha : kz_R a (M 11)) (hb : kz_R b (M 10)) :
    ∃ g, kb_w (fun u : Int32 × Int32 × (Nat → Int32) => kSX5_kemOpen_425 M u.1 u.2.1 u.2.2) 100000 ((0 : Int32), (0 : Int32), ms) = some (nI 256, nI 256, g) ∧ ∀ k, k < 32 → g k = kz_by (kz_pb 1 (fun c => kz_cmp ((a c + 3329 - b c) % 3329) 1) k) := by
  have key := kz_rpack (S := fun x u => kSX5_kemOpen_425 M x u.1 u.2) (fun g => g) (F := fun c => kz_cmp ((a c + 3329 - b c) % 3329) 1) (f0 := ms) (a := 0) (d := 1) (n1 := 32) (fun c _ => kz_cmp_lt _ _) (by omega) (by omega) (by decide) (by decide) (fun c p g w g' hc h => ?_) (fun p g => kb_b_tt (kz_le (n := 256) (Nat.le_refl _) (by decide)))
  · obtain ⟨g, k1, k2⟩ := key
    exact ⟨g, k1, fun k hk => by rw [k2 k, if_pos ⟨by omega, by omega⟩, Nat.sub_zero]⟩
  · have h1 := ha c hc
    have h2 := hb c hc
    show kSX5_kemOpen_425 M (nI c) (nI p) g = _
    unfold kSX5_kemOpen_425
    rw [nI_clamp (show c < 2 ^ 31 by omega), h1.2, h2.2, kz_sub3 h2.1]
    refine (kb_b_ff (kz_nle (n := 256) hc (by decide))).trans ?_
    refine (kb_g_tt (kb_in_n hc (by decide))).trans ?_
    refine (kb_g_tt (kb_in_n hc (by decide))).trans ?_
    refine (kb_n_v (v := nI ((a c + 3329 - b c) % 3329)) (kz_rem (by omega))).trans ?_
    refine (kb_o_v (kz_rcmp (d := 1) (by decide) (Nat.mod_lt _ (by decide)))).trans ?_
    refine (kb_o_v h).trans ?_
    exact (kb_n_v (kz_inc _)).trans rfl
theorem kz_ro146z {rc roots cubes s224 s256 state other column words sum : Nat → Int64} {turns length block pts seed noise back msg : Nat → Int32} {X M : Nat → Nat → Int32} {x2 x3 kd rt fl bt k0 e0 du0 dv0 : Int32} {tot : Int64} :
    ∃ g, kJX5_kemOpen_146 x2 x3 (0 : Int32) kd rt fl tot bt k0 e0 du0 dv0 length roots cubes s224 s256 turns rc state other column words block sum pts seed noise back msg X M = some g ∧ g.2.2.1 = 2 ∧ g.2.2.2.2.2.2.2.2.2.2.2.1 = length ∧ g.2.2.2.2.2.2.2.2.2.2.2.2.2.2.2.2.2.2.2.2.2.2.2.1 = X := by
  refine ⟨((0 : Int32), bt, (2 : Int32), du0, dv0, e0, fl, k0, kd, rt, tot, length, state, other, column, words, block, sum, pts, seed, noise, back, msg, X, M), ?_, rfl, rfl, rfl⟩
  unfold kJX5_kemOpen_146
  refine (kb_o_v (kz_good0 2)).trans ?_
  exact kb_b_tt (by decide)
set_option maxHeartbeats 4000000 in
theorem kz_ro146 {rc roots cubes s224 s256 state other column words sum : Nat → Int64} {turns length block pts seed noise back msg : Nat → Int32} {X M : Nat → Nat → Int32} {Bs Bc : Nat → Nat} {K e du dv : Nat} {kd rt fl bt : Int32} {tot : Int64} (hT : ∀ i, i < 25 → turns i = nI (kz_tn i)) (hp : kz_pts pts) (hK : K ≤ 4) (he : e ∈ [2, 3]) (hdu : du ∈ [10, 11]) (hdv : dv ∈ [4, 5]) (hs : kz_Y Bs (X 2) 0 (768 * K + 96)) (hc : kz_Y Bc (X 5) 0 (32 * du * K + 32 * dv)) :
    ∃ g, kJX5_kemOpen_146 (nI (384 * K)) (nI (32 * du * K + 32 * dv)) (1 : Int32) kd rt fl tot bt (nI K) (nI e) (nI du) (nI dv) length roots cubes s224 s256 turns rc state other column words block sum pts seed noise back msg X M = some g ∧
      ((g.2.2.1 = 0 ∧ kz_all rc (fun k => kz_by (Bs (384 * K + 384 * K + k))) K ∧ g.2.2.2.2.2.2.2.2.2.2.2.1 = upd length 6 (nI 32) ∧ ∃ a6, g.2.2.2.2.2.2.2.2.2.2.2.2.2.2.2.2.2.2.2.2.2.2.2.1 = va_up X 6 a6 ∧ ((g.1 = 1 ∧ kz_gen rc Bs Bc K e du dv ∧ ∀ p, a6 p = if p < 32 then kz_by (kz_oS rc Bs Bc K du dv p) else X 6 p) ∨ (g.1 = 0 ∧ ¬ kz_gen rc Bs Bc K e du dv ∧ ∀ p, a6 p = if p < 32 then kz_by (kz_J rc (fun k => kz_by (Bs (768 * K + 64 + k))) (fun k => kz_by (Bc k)) (32 * du * K + 32 * dv) p) else X 6 p))) ∨
       (g.2.2.1 = 3 ∧ ¬ kz_all rc (fun k => kz_by (Bs (384 * K + 384 * K + k))) K ∧ g.2.2.2.2.2.2.2.2.2.2.2.1 = length ∧ g.2.2.2.2.2.2.2.2.2.2.2.2.2.2.2.2.2.2.2.2.2.2.2.1 = X)) := by
  obtain ⟨hd1, hd2, hd3⟩ := kz_d10 hdu
  obtain ⟨hv1, hv2, hv3⟩ := kz_d4 hdv
  have hdK : 32 * du * K ≤ 352 * 4 := Nat.mul_le_mul (by omega) (by omega)
  obtain ⟨f1, p1, e1⟩ := kz_rclear (M 10)
  obtain ⟨⟨b2, M2, sm2⟩, p2, e2⟩ := kz_ro171 (Bs := Bs) (Bc := Bc) (s0 := fun _ => 0) (X := X) (M := va_up M 10 f1) (sum := sum) (bt := bt) hp hK (by omega) hd3 (kz_Y_m hs (by omega) (by omega)) (kz_Y_m hc (by omega) (by omega)) (by rw [va_up_self]; exact e1)
  replace e2 : kz_R (kz_acc (fun _ => 0) (fun j => kz_ntt (kz_rU Bc du j)) (kz_nm Bs 0) K) (M2 10) := e2
  rw [kz_acc_c] at e2
  obtain ⟨sm3, f3, p3, e3⟩ := kz_runntt (sm := sm2) e2 hp
  obtain ⟨g4, p4, e4⟩ := kz_ro371 (B := Bc) (X := X) (M := va_up M2 10 f3) (dv := dv) (a := 32 * du * K) (by omega) hv3 (by omega) hc
  obtain ⟨ms, p5, e5⟩ := kz_ro425 (a := fun c => kz_ex (kz_tk 8 Bc (8 * (32 * du * K) + dv * c) dv) dv) (b := kz_intt (kz_acc (fun _ => 0) (kz_nm Bs 0) (fun j => kz_ntt (kz_rU Bc du j)) K)) (M := va_up (va_up M2 10 f3) 11 g4) (ms := msg) (by rw [va_up_self]; exact e4) (by rw [va_up_ne _ _ (show (10 : Nat) ≠ 11 by decide), va_up_self]; exact e3)
  replace e5 : ∀ k, k < 32 → ms k = kz_by (kz_oM Bs Bc K du dv k) := e5
  obtain ⟨s6, x6, t6, s6a, o6a, c6a, x7, t7, s7, o7, c7, fl8, s8, o8, c8, sd, p6a, p6b, p6c, p6d, e6⟩ := kz_rseeds (rc := rc) (roots := roots) (cubes := cubes) (s224 := s224) (s256 := s256) (state := state) (other := other) (column := column) (words := words) (block := block) (f := ms) (h := X 2) (g := seed) (m := fun k => kz_by (kz_oM Bs Bc K du dv k)) (w := fun k => kz_by (Bs (768 * K + 32 + k))) (a := 0) (n1 := 32) (b := 768 * K + 32) (n2 := 8192) (c := 64) (n3 := 256) hT (fun k hk => by rw [Nat.zero_add]; exact e5 k hk) (by decide) (by decide) (fun k hk => (hs (768 * K + 32 + k) (Nat.zero_le _) (by omega)).2) (by omega) (by decide) (by decide) (by decide)
  replace e6 : ∀ k, sd k = if 64 ≤ k ∧ k < 64 + 64 then kz_by (kz_oS rc Bs Bc K du dv (k - 64)) else seed k := e6
  obtain ⟨⟨r9, b1, b2', b3, b4, b5, b6, b7, b8, b9, b10, b11, b12, bk, M9⟩, p9, e9⟩ := kz_rencrypt (rc := rc) (roots := roots) (cubes := cubes) (s224 := s224) (s256 := s256) (state := s8) (other := o8) (column := c8) (words := words) (sum := sm3) (block := block) (noise := noise) (key := X 2) (m := ms) (r := sd) (s := fun k => kz_by (kz_oS rc Bs Bc K du dv (32 + k))) (v := fun k => kz_by (Bs (384 * K + 384 * K + k))) (back := back) (M := va_up (va_up M2 10 f3) 11 g4) (B := Bs) (Bm := kz_oM Bs Bc K du dv) (e := e) (du := du) (dv := dv) (fr := 96) (at' := 384 * K) (n1 := 8192) (n3 := 32) (n4 := 256) (fl := fl8) (kd := nI 10) (rt := nI 72) (tot := t7) hT hp hK he hdu hdv (fun k hk => by rw [e6 (96 + k), if_pos ⟨by omega, by omega⟩, show 96 + k - 64 = 32 + k by omega]) (by decide) (by decide) (fun k hk => (hs (384 * K + 384 * K + k) (Nat.zero_le _) (by omega)).2) (kz_Y_m hs (by omega) (by omega)) (by omega) (by decide) (fun i _ hi => ⟨kz_oM_lt Bs Bc K du dv i, e5 i hi⟩) (by decide) (by decide)
  have e2x : (2 : Int32) * nI (384 * K) = nI (768 * K) := by
    rw [show 768 * K = 2 * (384 * K) by omega]
    exact pk_mul 2 _
  rcases e9 with ⟨h9, ha, e9⟩ | ⟨h9, ha⟩
  · replace h9 : r9 = 1 := h9
    subst h9
    replace e9 : ∀ p, bk p = if p < 32 * du * K + 32 * dv then kz_by (kz_oC rc Bs Bc K e du dv p) else back p := e9
    obtain ⟨x, p10, e10⟩ := kz_alike (f := bk) (g := X 5) (a := 0) (b := 0) (n := 32 * du * K + 32 * dv) (n1 := 8192) (n3 := 8192) (by omega) (by omega) (by decide) (by decide) (by omega)
    have hiff : (∀ k, k < 32 * du * K + 32 * dv → bk (0 + k) = X 5 (0 + k)) ↔ kz_gen rc Bs Bc K e du dv := by
      constructor
      · intro h k hk
        have h9 := h k hk
        rw [Nat.zero_add, (hc k (Nat.zero_le _) (by omega)).2, e9 k, if_pos hk] at h9
        exact h9.symm
      · intro h k hk
        rw [Nat.zero_add, (hc k (Nat.zero_le _) (by omega)).2, e9 k, if_pos hk]
        exact (h k hk).symm
    rw [hiff] at e10
    rcases e10 with ⟨rfl, hg⟩ | ⟨rfl, hg⟩
    · obtain ⟨g11, p11, e11⟩ := kz_move (f := sd) (g := X 6) (a := 64) (b := 0) (n := 32) (n1 := 256) (n3 := 8192) (fun k hk => by rw [e6, if_pos ⟨by omega, by omega⟩]; exact kz_bn _) (by decide) (by decide) (by decide) (by decide) (by decide)
      refine ⟨((1 : Int32), b1, (0 : Int32), nI du, nI dv, nI e, b2', nI K, b3, b4, b5, upd length 6 (nI 32), b6, b7, b8, b9, b10, b11, pts, sd, b12, bk, ms, va_up X 6 g11, M9), ?_, Or.inl ⟨rfl, ha, rfl, g11, rfl, Or.inl ⟨rfl, hg, fun p => ?_⟩⟩⟩
      · unfold kJX5_kemOpen_146
        refine (kb_o_v (kz_good1 2)).trans ?_
        refine (kb_b_ff (by decide)).trans ?_
        refine (kb_o_v p1).trans ?_
        refine (kb_n_v (v := va_up M 10 f1) rfl).trans ?_
        refine (kb_o_v p2).trans ?_
        refine (kb_o_v p3).trans ?_
        refine (kb_n_v (v := va_up M2 10 f3) rfl).trans ?_
        refine (kb_n_v (v := nI (8 * (32 * du * K))) (by rw [show (256 : Int32) * nI du = nI (256 * du) from pk_mul _ _, pk_mul, kz_256])).trans ?_
        refine (kb_o_v p4).trans ?_
        refine (kb_o_v p5).trans ?_
        refine (kb_o_v p6a).trans ?_
        refine (kb_o_v p6b).trans ?_
        dsimp only
        rw [e2x, show nI (768 * K) + (32 : Int32) = nI (768 * K + 32) from nI_add _ 32]
        refine (kb_o_v p6c).trans ?_
        refine (kb_o_v p6d).trans ?_
        refine (kb_o_v p9).trans ?_
        refine (kb_o_v (kz_good1 3)).trans ?_
        refine (kb_b_ff (by decide)).trans ?_
        refine (kb_o_v p10).trans ?_
        refine (kb_b_ff (by decide)).trans ?_
        refine (kb_o_v p11).trans ?_
        refine (kb_n_v (v := va_up X 6 g11) rfl).trans ?_
        refine (kb_n_v (v := upd length 6 (nI 32)) rfl).trans ?_
        exact kb_b_ff (by decide)
      · rw [e11 p]
        by_cases c1 : p < 32
        · rw [if_pos ⟨Nat.zero_le _, by omega⟩, if_pos c1, Nat.sub_zero, e6, if_pos ⟨by omega, by omega⟩, show 64 + p - 64 = p by omega]
        · rw [if_neg (by omega), if_neg c1]
    · obtain ⟨s11, x11, t11, s12, o12, c12, x13, t13, s13, o13, c13, fl14, s14, o14, c14, g14, p11, p12, p13, p14, e14⟩ := kz_rJ (rc := rc) (roots := roots) (cubes := cubes) (s224 := s224) (s256 := s256) (state := b6) (other := b7) (column := b8) (words := b9) (block := b10) (f := X 2) (h := X 5) (g := X 6) (m := fun k => kz_by (Bs (768 * K + 64 + k))) (w := fun k => kz_by (Bc k)) (a := 768 * K + 64) (n1 := 8192) (n := 32 * du * K + 32 * dv) (n2 := 8192) (n3 := 8192) hT (fun k hk => (hs (768 * K + 64 + k) (Nat.zero_le _) (by omega)).2) (by omega) (by decide) (fun k hk => (hc k (Nat.zero_le _) hk).2) (by omega) (by decide) (by omega) (by decide) (by decide)
      refine ⟨((0 : Int32), b1, (0 : Int32), nI du, nI dv, nI e, fl14, nI K, nI 12, nI 136, t13, upd length 6 (nI 32), s14, o14, c14, b9, b10, b11, pts, sd, b12, bk, ms, va_up X 6 g14, M9), ?_, Or.inl ⟨rfl, ha, rfl, g14, rfl, Or.inr ⟨rfl, hg, e14⟩⟩⟩
      unfold kJX5_kemOpen_146
      refine (kb_o_v (kz_good1 2)).trans ?_
      refine (kb_b_ff (by decide)).trans ?_
      refine (kb_o_v p1).trans ?_
      refine (kb_n_v (v := va_up M 10 f1) rfl).trans ?_
      refine (kb_o_v p2).trans ?_
      refine (kb_o_v p3).trans ?_
      refine (kb_n_v (v := va_up M2 10 f3) rfl).trans ?_
      refine (kb_n_v (v := nI (8 * (32 * du * K))) (by rw [show (256 : Int32) * nI du = nI (256 * du) from pk_mul _ _, pk_mul, kz_256])).trans ?_
      refine (kb_o_v p4).trans ?_
      refine (kb_o_v p5).trans ?_
      refine (kb_o_v p6a).trans ?_
      refine (kb_o_v p6b).trans ?_
      dsimp only
      rw [e2x, show nI (768 * K) + (32 : Int32) = nI (768 * K + 32) from nI_add _ 32, show nI (768 * K) + (64 : Int32) = nI (768 * K + 64) from nI_add _ 64]
      refine (kb_o_v p6c).trans ?_
      refine (kb_o_v p6d).trans ?_
      refine (kb_o_v p9).trans ?_
      refine (kb_o_v (kz_good1 3)).trans ?_
      refine (kb_b_ff (by decide)).trans ?_
      refine (kb_o_v p10).trans ?_
      refine (kb_b_tt (by decide)).trans ?_
      refine (kb_o_v p11).trans ?_
      refine (kb_o_v p12).trans ?_
      refine (kb_o_v p13).trans ?_
      refine (kb_o_v p14).trans ?_
      refine (kb_n_v (v := va_up X 6 g14) rfl).trans ?_
      refine (kb_n_v (v := upd length 6 (nI 32)) rfl).trans ?_
      exact kb_b_tt (by decide)
  · replace h9 : r9 = 0 := h9
    subst h9
    refine ⟨((0 : Int32), b1, (3 : Int32), nI du, nI dv, nI e, b2', nI K, b3, b4, b5, length, b6, b7, b8, b9, b10, b11, pts, sd, b12, bk, ms, X, M9), ?_, Or.inr ⟨rfl, ha, rfl, rfl⟩⟩
    unfold kJX5_kemOpen_146
    refine (kb_o_v (kz_good1 2)).trans ?_
    refine (kb_b_ff (by decide)).trans ?_
    refine (kb_o_v p1).trans ?_
    refine (kb_n_v (v := va_up M 10 f1) rfl).trans ?_
    refine (kb_o_v p2).trans ?_
    refine (kb_o_v p3).trans ?_
    refine (kb_n_v (v := va_up M2 10 f3) rfl).trans ?_
    refine (kb_n_v (v := nI (8 * (32 * du * K))) (by rw [show (256 : Int32) * nI du = nI (256 * du) from pk_mul _ _, pk_mul, kz_256])).trans ?_
    refine (kb_o_v p4).trans ?_
    refine (kb_o_v p5).trans ?_
    refine (kb_o_v p6a).trans ?_
    refine (kb_o_v p6b).trans ?_
    dsimp only
    rw [e2x, show nI (768 * K) + (32 : Int32) = nI (768 * K + 32) from nI_add _ 32]
    refine (kb_o_v p6c).trans ?_
    refine (kb_o_v p6d).trans ?_
    refine (kb_o_v p9).trans ?_
    refine (kb_o_v (kz_good0 3)).trans ?_
    exact kb_b_tt (by decide)
set_option maxHeartbeats 4000000 in
theorem kz_ropen {rc roots cubes s224 s256 state other column words sum : Nat → Int64} {turns length block pts seed noise back msg : Nat → Int32} {X M : Nat → Nat → Int32} {Bs Bc : Nat → Nat} {st L2 L5 : Nat} {kd rt fl bt k0 e0 du0 dv0 : Int32} {tot : Int64} (hT : ∀ i, i < 25 → turns i = nI (kz_tn i)) (hst : st < 3) (hl2 : length 2 = nI L2) (hL2 : L2 < 2 ^ 31) (hl5 : length 5 = nI L5) (hL5 : L5 < 2 ^ 31) (hs : kz_Y Bs (X 2) 0 L2) (hc : kz_Y Bc (X 5) 0 L5) :
    ∃ g, kFX5_kemOpen (nI st) kd rt fl tot bt k0 e0 du0 dv0 length roots cubes s224 s256 turns rc state other column words block sum pts seed noise back msg X M = some g ∧
      (((L5 = 32 * kz_sU st * kz_sK st + 32 * kz_sV st ∧ L2 = 768 * kz_sK st + 96 ∧ kz_hh rc Bs (kz_sK st)) ∧ g.2.2.1 = 0 ∧ kz_all rc (fun k => kz_by (Bs (384 * kz_sK st + 384 * kz_sK st + k))) (kz_sK st) ∧ g.2.2.2.2.2.2.2.2.2.2.2.1 = upd length 6 (nI 32) ∧ ∃ a6, g.2.2.2.2.2.2.2.2.2.2.2.2.2.2.2.2.2.2.2.2.2.2.2.1 = va_up X 6 a6 ∧ ((g.1 = 1 ∧ kz_gen rc Bs Bc (kz_sK st) (kz_sE st) (kz_sU st) (kz_sV st) ∧ ∀ p, a6 p = if p < 32 then kz_by (kz_oS rc Bs Bc (kz_sK st) (kz_sU st) (kz_sV st) p) else X 6 p) ∨ (g.1 = 0 ∧ ¬ kz_gen rc Bs Bc (kz_sK st) (kz_sE st) (kz_sU st) (kz_sV st) ∧ ∀ p, a6 p = if p < 32 then kz_by (kz_J rc (fun k => kz_by (Bs (768 * kz_sK st + 64 + k))) (fun k => kz_by (Bc k)) (32 * kz_sU st * kz_sK st + 32 * kz_sV st) p) else X 6 p))) ∨
       ((L5 = 32 * kz_sU st * kz_sK st + 32 * kz_sV st ∧ L2 = 768 * kz_sK st + 96 ∧ kz_hh rc Bs (kz_sK st)) ∧ g.2.2.1 = 3 ∧ ¬ kz_all rc (fun k => kz_by (Bs (384 * kz_sK st + 384 * kz_sK st + k))) (kz_sK st) ∧ g.2.2.2.2.2.2.2.2.2.2.2.1 = length ∧ g.2.2.2.2.2.2.2.2.2.2.2.2.2.2.2.2.2.2.2.2.2.2.2.1 = X) ∨
       (¬ (L5 = 32 * kz_sU st * kz_sK st + 32 * kz_sV st ∧ L2 = 768 * kz_sK st + 96 ∧ kz_hh rc Bs (kz_sK st)) ∧ g.2.2.1 = 2 ∧ g.2.2.2.2.2.2.2.2.2.2.2.1 = length ∧ g.2.2.2.2.2.2.2.2.2.2.2.2.2.2.2.2.2.2.2.2.2.2.2.1 = X)) := by
  have hin : kFX5_in (nI st) (0 : Int32) (2 : Int32) = some (1 : Int32) := by
    unfold kFX5_in
    refine (kb_b_ff (kz_nlt (b := 0) (Nat.zero_le _) (by omega))).trans ?_
    exact kb_b_ff (kz_nlt (a := 2) (by omega) (by decide))
  obtain ⟨pts', hkem, hp⟩ := kz_rkemS hst pts
  obtain ⟨hK, hK2, he, hdu, hdv⟩ := kz_set hst
  generalize kz_sK st = K at hkem hK hK2 ⊢
  generalize kz_sE st = e at hkem he ⊢
  generalize kz_sU st = du at hkem hdu ⊢
  generalize kz_sV st = dv at hkem hdv ⊢
  obtain ⟨hd1, hd2, hd3⟩ := kz_d10 hdu
  obtain ⟨hv1, hv2, hv3⟩ := kz_d4 hdv
  have hdK : 32 * du * K ≤ 352 * 4 := Nat.mul_le_mul (by omega) (by omega)
  have hsz : (768 : Int32) * nI K + (96 : Int32) = nI (768 * K + 96) := by rw [show (768 : Int32) * nI K = nI (768 * K) from pk_mul _ _]; exact nI_add (768 * K) 96
  have hnn : (32 : Int32) * (nI du * nI K + nI dv) = nI (32 * du * K + 32 * dv) := by
    rw [pk_mul, nI_add, ← kz_nn]
    exact pk_mul 32 _
  by_cases h5 : L5 = 32 * du * K + 32 * dv
  · subst h5
    by_cases h2 : L2 = 768 * K + 96
    · subst h2
      obtain ⟨s1, t1, s1', o1, c1, x1, fl1, s1b, o1b, c1b, sd1, p1a, p1b, p1c, e1⟩ := kz_rhash (rc := rc) (roots := roots) (cubes := cubes) (s224 := s224) (s256 := s256) (state := state) (other := other) (column := column) (words := words) (block := block) (f := X 2) (g := seed) (w := fun k => kz_by (Bs (384 * K + k))) (a := 384 * K) (n := 384 * K + 32) (n1 := 8192) (b := 0) (n2 := 256) hT (fun k hk => (hs (384 * K + k) (Nat.zero_le _) (by omega)).2) (by omega) (by decide) (by omega) (by decide) (by decide)
      obtain ⟨x, p2, e2⟩ := kz_alike (f := sd1) (g := X 2) (a := 0) (b := 768 * K + 32) (n := 32) (n1 := 256) (n3 := 8192) (by decide) (by omega) (by decide) (by decide) (by decide)
      have hiff : (∀ k, k < 32 → sd1 (0 + k) = X 2 (768 * K + 32 + k)) ↔ kz_hh rc Bs K := by
        constructor
        · intro h k hk
          have h9 := h k hk
          rw [(hs (768 * K + 32 + k) (Nat.zero_le _) (by omega)).2, Nat.zero_add, e1 k, if_pos ⟨by omega, by omega⟩, Nat.sub_zero] at h9
          exact h9.symm
        · intro h k hk
          rw [(hs (768 * K + 32 + k) (Nat.zero_le _) (by omega)).2, Nat.zero_add, e1 k, if_pos ⟨by omega, by omega⟩, Nat.sub_zero]
          exact (h k hk).symm
      rw [hiff] at e2
      have e2x : (2 : Int32) * nI (384 * K) = nI (768 * K) := by
        rw [show 768 * K = 2 * (384 * K) by omega]
        exact pk_mul 2 _
      rcases e2 with ⟨rfl, hh⟩ | ⟨rfl, hh⟩
      · obtain ⟨g, p3, e3⟩ := kz_ro146 (rc := rc) (roots := roots) (cubes := cubes) (s224 := s224) (s256 := s256) (state := s1b) (other := o1b) (column := c1b) (words := words) (sum := sum) (length := length) (block := block) (seed := sd1) (noise := noise) (back := back) (msg := msg) (X := X) (M := M) (kd := nI 8) (rt := nI 136) (fl := fl1) (bt := bt) (tot := t1) hT hp hK he hdu hdv hs hc
        refine ⟨g, ?_, ?_⟩
        · unfold kFX5_kemOpen
          refine (kb_o_v hin).trans ?_
          refine (kb_o_v (kz_good1 1)).trans ?_
          refine (kb_b_ff (by decide)).trans ?_
          refine (kb_o_v hkem).trans ?_
          refine (kb_n_v (v := nI (384 * K)) (pk_mul 384 K)).trans ?_
          refine (kb_n_v (v := nI (32 * du * K + 32 * dv)) hnn).trans ?_
          dsimp only
          rw [show length (5 : Int32).toNatClampNeg = nI (32 * du * K + 32 * dv) from hl5, show length (2 : Int32).toNatClampNeg = nI (768 * K + 96) from hl2, hsz]
          refine (kb_b_tt (kz_eqt rfl)).trans ?_
          refine (kb_b_tt (kz_eqt rfl)).trans ?_
          unfold kJX5_kemOpen_83
          refine (kb_b_ff (by decide)).trans ?_
          refine (kb_o_v p1a).trans ?_
          dsimp only
          rw [show nI (384 * K) + (32 : Int32) = nI (384 * K + 32) from nI_add _ 32, e2x, show nI (768 * K) + (32 : Int32) = nI (768 * K + 32) from nI_add _ 32]
          refine (kb_o_v p1b).trans ?_
          refine (kb_o_v p1c).trans ?_
          refine (kb_o_v p2).trans ?_
          exact p3
        · rcases e3 with ⟨q1, q2, q3, q4⟩ | ⟨q1, q2, q3, q4⟩
          · exact Or.inl ⟨⟨rfl, rfl, hh⟩, q1, q2, q3, q4⟩
          · exact Or.inr (Or.inl ⟨⟨rfl, rfl, hh⟩, q1, q2, q3, q4⟩)
      · obtain ⟨g, p3, e3⟩ := kz_ro146z (rc := rc) (roots := roots) (cubes := cubes) (s224 := s224) (s256 := s256) (state := s1b) (other := o1b) (column := c1b) (words := words) (sum := sum) (turns := turns) (length := length) (block := block) (pts := pts') (seed := sd1) (noise := noise) (back := back) (msg := msg) (X := X) (M := M) (x2 := nI (384 * K)) (x3 := nI (32 * du * K + 32 * dv)) (kd := nI 8) (rt := nI 136) (fl := fl1) (bt := bt) (tot := t1) (k0 := nI K) (e0 := nI e) (du0 := nI du) (dv0 := nI dv)
        refine ⟨g, ?_, Or.inr (Or.inr ⟨fun h => hh h.2.2, e3⟩)⟩
        unfold kFX5_kemOpen
        refine (kb_o_v hin).trans ?_
        refine (kb_o_v (kz_good1 1)).trans ?_
        refine (kb_b_ff (by decide)).trans ?_
        refine (kb_o_v hkem).trans ?_
        refine (kb_n_v (v := nI (384 * K)) (pk_mul 384 K)).trans ?_
        refine (kb_n_v (v := nI (32 * du * K + 32 * dv)) hnn).trans ?_
        dsimp only
        rw [show length (5 : Int32).toNatClampNeg = nI (32 * du * K + 32 * dv) from hl5, show length (2 : Int32).toNatClampNeg = nI (768 * K + 96) from hl2, hsz]
        refine (kb_b_tt (kz_eqt rfl)).trans ?_
        refine (kb_b_tt (kz_eqt rfl)).trans ?_
        unfold kJX5_kemOpen_83
        refine (kb_b_ff (by decide)).trans ?_
        refine (kb_o_v p1a).trans ?_
        dsimp only
        rw [show nI (384 * K) + (32 : Int32) = nI (384 * K + 32) from nI_add _ 32, e2x, show nI (768 * K) + (32 : Int32) = nI (768 * K + 32) from nI_add _ 32]
        refine (kb_o_v p1b).trans ?_
        refine (kb_o_v p1c).trans ?_
        refine (kb_o_v p2).trans ?_
        exact p3
    · obtain ⟨g, p3, e3⟩ := kz_ro146z (rc := rc) (roots := roots) (cubes := cubes) (s224 := s224) (s256 := s256) (state := state) (other := other) (column := column) (words := words) (sum := sum) (turns := turns) (length := length) (block := block) (pts := pts') (seed := seed) (noise := noise) (back := back) (msg := msg) (X := X) (M := M) (x2 := nI (384 * K)) (x3 := nI (32 * du * K + 32 * dv)) (kd := kd) (rt := rt) (fl := fl) (bt := bt) (tot := tot) (k0 := nI K) (e0 := nI e) (du0 := nI du) (dv0 := nI dv)
      refine ⟨g, ?_, Or.inr (Or.inr ⟨fun h => h2 h.2.1, e3⟩)⟩
      unfold kFX5_kemOpen
      refine (kb_o_v hin).trans ?_
      refine (kb_o_v (kz_good1 1)).trans ?_
      refine (kb_b_ff (by decide)).trans ?_
      refine (kb_o_v hkem).trans ?_
      refine (kb_n_v (v := nI (384 * K)) (pk_mul 384 K)).trans ?_
      refine (kb_n_v (v := nI (32 * du * K + 32 * dv)) hnn).trans ?_
      dsimp only
      rw [show length (5 : Int32).toNatClampNeg = nI (32 * du * K + 32 * dv) from hl5, show length (2 : Int32).toNatClampNeg = nI L2 from hl2, hsz]
      refine (kb_b_tt (kz_eqt rfl)).trans ?_
      refine (kb_b_ff (kz_eqf h2 hL2 (by omega))).trans ?_
      unfold kJX5_kemOpen_82 kJX5_kemOpen_83
      refine (kb_b_tt (by decide)).trans ?_
      exact p3
  · obtain ⟨g, p3, e3⟩ := kz_ro146z (rc := rc) (roots := roots) (cubes := cubes) (s224 := s224) (s256 := s256) (state := state) (other := other) (column := column) (words := words) (sum := sum) (turns := turns) (length := length) (block := block) (pts := pts') (seed := seed) (noise := noise) (back := back) (msg := msg) (X := X) (M := M) (x2 := nI (384 * K)) (x3 := nI (32 * du * K + 32 * dv)) (kd := kd) (rt := rt) (fl := fl) (bt := bt) (tot := tot) (k0 := nI K) (e0 := nI e) (du0 := nI du) (dv0 := nI dv)
    refine ⟨g, ?_, Or.inr (Or.inr ⟨fun h => h5 h.1, e3⟩)⟩
    unfold kFX5_kemOpen
    refine (kb_o_v hin).trans ?_
    refine (kb_o_v (kz_good1 1)).trans ?_
    refine (kb_b_ff (by decide)).trans ?_
    refine (kb_o_v hkem).trans ?_
    refine (kb_n_v (v := nI (384 * K)) (pk_mul 384 K)).trans ?_
    refine (kb_n_v (v := nI (32 * du * K + 32 * dv)) hnn).trans ?_
    dsimp only
    rw [show length (5 : Int32).toNatClampNeg = nI L5 from hl5]
    refine (kb_b_ff (kz_eqf h5 hL5 (by omega))).trans ?_
    unfold kJX5_kemOpen_82 kJX5_kemOpen_83
    refine (kb_b_tt (by decide)).trans ?_
    exact p3
