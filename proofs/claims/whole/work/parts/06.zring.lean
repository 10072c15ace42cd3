/-! Layer 2: what the class's Ring answers. -/
theorem kz_m2 {x y : Nat} (hx : x < 3329) (hy : y < 3329) : x * y ≤ 11075584 := Nat.mul_le_mul (show x ≤ 3328 by omega) (show y ≤ 3328 by omega)
def kz_bf (a : Nat → Nat) (p s h k i : Nat) : Nat := if s ≤ i ∧ i < s + k then (a i + p * a (i + h) % 3329) % 3329 else if s + h ≤ i ∧ i < s + h + k then (a (i - h) + 3329 - p * a i % 3329) % 3329 else a i
theorem kz_t37 {a : Nat → Nat} {f : Nat → Int32} {p s h : Nat} (hp : p < 3329) (hsh : s + 2 * h ≤ 256) (hf : kz_R a f) :
    ∃ r, kb_w (fun u : Int32 × (Nat → Int32) => kSX2_transform_37 (nI h) (nI s) (nI p) 256 u.1 u.2) 100000 (nI s, f) = some r ∧ r.1 = nI (s + h) ∧ kz_R (kz_bf a p s h h) r.2 := by
  refine kb_w_inv (σ := Int32 × (Nat → Int32)) (ρ := Int32 × (Nat → Int32)) (fun k u => u.1 = nI (s + k) ∧ kz_R (kz_bf a p s h k) u.2) (fun r => r.1 = nI (s + h) ∧ kz_R (kz_bf a p s h h) r.2) h ?_ ?_ h 0 _ 100000 (by omega) (by omega) ⟨rfl, ?_⟩
  · rintro k ⟨x, g⟩ hk ⟨hu1, hu2⟩
    replace hu1 : x = nI (s + k) := hu1
    replace hu2 : kz_R (kz_bf a p s h k) g := hu2
    subst hu1
    have hj := hu2 (s + k) (by omega)
    have hjh := hu2 (s + k + h) (by omega)
    rw [show kz_bf a p s h k (s + k) = a (s + k) by unfold kz_bf; rw [if_neg (by omega), if_neg (by omega)]] at hj
    rw [show kz_bf a p s h k (s + k + h) = a (s + k + h) by unfold kz_bf; rw [if_neg (by omega), if_neg (by omega)]] at hjh
    have hm := kz_m2 hp hjh.1
    have hq : p * a (s + k + h) % 3329 < 3329 := Nat.mod_lt _ (by decide)
    have hv1 : (a (s + k) + 3329 - p * a (s + k + h) % 3329) % 3329 < 3329 := Nat.mod_lt _ (by decide)
    have hv2 : (a (s + k) + p * a (s + k + h) % 3329) % 3329 < 3329 := Nat.mod_lt _ (by decide)
    refine ⟨(nI (s + k + 1), upd (upd g (s + k + h) (nI ((a (s + k) + 3329 - p * a (s + k + h) % 3329) % 3329))) (s + k) (nI ((a (s + k) + p * a (s + k + h) % 3329) % 3329))), ?_, rfl, ?_⟩
    · show kSX2_transform_37 (nI h) (nI s) (nI p) 256 (nI (s + k)) g = _
      unfold kSX2_transform_37
      rw [nI_add s h, nI_add (s + k) h, nI_clamp (show s + k + h < 2 ^ 31 by omega), nI_clamp (show s + k < 2 ^ 31 by omega)]
      refine (kb_b_ff (kz_nle (by omega) (by omega))).trans ?_
      refine (kb_g_tt (kb_in_n (by omega) (by decide))).trans ?_
      refine (kb_n_v (v := nI (p * a (s + k + h) % 3329)) ?_).trans ?_
      · rw [hjh.2, pk_mul]
        exact kz_rem (by omega)
      refine (kb_g_tt (kb_in_n (by omega) (by decide))).trans ?_
      refine (kb_n_v (v := nI ((a (s + k) + 3329 - p * a (s + k + h) % 3329) % 3329)) ?_).trans ?_
      · rw [hj.2, show nI (a (s + k)) + (3329 : Int32) = nI (a (s + k) + 3329) from nI_add _ _, pk_sub (by omega)]
        exact kz_rem (by omega)
      refine (kb_g_tt (kb_in_n (by omega) (by decide))).trans ?_
      refine (kb_n_v rfl).trans ?_
      refine (kb_g_tt (kb_in_n (by omega) (by decide))).trans ?_
      refine (kb_n_v (v := nI ((a (s + k) + p * a (s + k + h) % 3329) % 3329)) ?_).trans ?_
      · rw [pk_un (by omega), hj.2, nI_add]
        exact kz_rem (by omega)
      refine (kb_g_tt (kb_in_n (by omega) (by decide))).trans ?_
      refine (kb_n_v rfl).trans ?_
      exact (kb_n_v (kz_inc _)).trans rfl
    · refine kz_R_c (kz_R_u (k := s + k) (kz_R_u (k := s + k + h) hu2 hv1) hv2) (fun i hi => ?_)
      show (if i = s + k then _ else if i = s + k + h then _ else kz_bf a p s h k i) = kz_bf a p s h (k + 1) i
      by_cases e1 : i = s + k
      · subst e1
        rw [if_pos rfl]
        unfold kz_bf
        rw [if_pos ⟨by omega, by omega⟩]
      · rw [if_neg e1]
        by_cases e2 : i = s + k + h
        · subst e2
          rw [if_pos rfl]
          unfold kz_bf
          rw [if_neg (by omega), if_pos ⟨by omega, by omega⟩, Nat.add_sub_cancel]
        · rw [if_neg e2]
          have c1 : (s ≤ i ∧ i < s + k) = (s ≤ i ∧ i < s + (k + 1)) := propext ⟨fun z => ⟨z.1, by omega⟩, fun z => ⟨z.1, by omega⟩⟩
          have c2 : (s + h ≤ i ∧ i < s + h + k) = (s + h ≤ i ∧ i < s + h + (k + 1)) := propext ⟨fun z => ⟨z.1, by omega⟩, fun z => ⟨z.1, by omega⟩⟩
          unfold kz_bf
          simp only [c1, c2]
  · rintro ⟨x, g⟩ ⟨hu1, hu2⟩
    replace hu1 : x = nI (s + h) := hu1
    subst hu1
    refine ⟨(nI (s + h), g), ?_, rfl, hu2⟩
    show kSX2_transform_37 (nI h) (nI s) (nI p) 256 (nI (s + h)) g = _
    unfold kSX2_transform_37
    rw [nI_add s h]
    exact kb_b_tt (kz_le (Nat.le_refl _) (by omega))
  · exact kz_R_c hf (fun i _ => by show a i = kz_bf a p s h 0 i; unfold kz_bf; rw [if_neg (by omega), if_neg (by omega)])
theorem kz_bfL {a A r : Nat → Nat} {h b i : Nat} (h0 : 0 < h) (hA : ∀ j, A j = if j / (2 * h) < b then kz_L a r h j else a j) : kz_bf A (r b) (b * (2 * h)) h h i = if i / (2 * h) < b + 1 then kz_L a r h i else a i := by
  have e := Nat.div_add_mod i (2 * h)
  have ht : i % (2 * h) < 2 * h := Nat.mod_lt _ (by omega)
  rcases Nat.lt_trichotomy (i / (2 * h)) b with hlt | heq | hgt
  · have hi2 : i < b * (2 * h) := (Nat.div_lt_iff_lt_mul (by omega)).mp hlt
    have hc : i / (2 * h) < b + 1 := by omega
    unfold kz_bf
    rw [if_neg (show ¬ (b * (2 * h) ≤ i ∧ i < b * (2 * h) + h) by omega), if_neg (show ¬ (b * (2 * h) + h ≤ i ∧ i < b * (2 * h) + h + h) by omega), hA i, if_pos hlt, if_pos hc]
  · rw [heq, Nat.mul_comm] at e
    have hc : i / (2 * h) < b + 1 := by omega
    have dm : ∀ z, z < 2 * h → (b * (2 * h) + z) / (2 * h) = b ∧ (b * (2 * h) + z) % (2 * h) = z := fun z hz => kz_dm (d := 2 * h) (m := b) (t := z) (by rw [Nat.mul_comm]) hz
    have no : ∀ z, z < 2 * h → A (b * (2 * h) + z) = a (b * (2 * h) + z) := fun z hz => by rw [hA, (dm z hz).1, if_neg (Nat.lt_irrefl b)]
    rw [if_pos hc]
    generalize i % (2 * h) = t at e ht
    subst e
    by_cases hth : t < h
    · have e1 : kz_bf A (r b) (b * (2 * h)) h h (b * (2 * h) + t) = (A (b * (2 * h) + t) + r b * A (b * (2 * h) + t + h) % 3329) % 3329 := by
        unfold kz_bf
        rw [if_pos ⟨by omega, by omega⟩]
      have e2 : kz_L a r h (b * (2 * h) + t) = (a (b * (2 * h) + t) + r b * a (b * (2 * h) + t + h) % 3329) % 3329 := by
        unfold kz_L
        rw [(dm t ht).1, (dm t ht).2, if_pos hth]
      rw [e1, e2, show b * (2 * h) + t + h = b * (2 * h) + (t + h) by omega, no t ht, no (t + h) (by omega)]
    · have e1 : kz_bf A (r b) (b * (2 * h)) h h (b * (2 * h) + t) = (A (b * (2 * h) + t - h) + 3329 - r b * A (b * (2 * h) + t) % 3329) % 3329 := by
        unfold kz_bf
        rw [if_neg (show ¬ (b * (2 * h) ≤ b * (2 * h) + t ∧ b * (2 * h) + t < b * (2 * h) + h) by omega), if_pos ⟨by omega, by omega⟩]
      have e2 : kz_L a r h (b * (2 * h) + t) = (a (b * (2 * h) + t - h) + 3329 - r b * a (b * (2 * h) + t) % 3329) % 3329 := by
        unfold kz_L
        rw [(dm t ht).1, (dm t ht).2, if_neg hth]
      rw [e1, e2, show b * (2 * h) + t - h = b * (2 * h) + (t - h) by omega, no t ht, no (t - h) (by omega)]
  · have hi2 : (b + 1) * (2 * h) ≤ i := (Nat.le_div_iff_mul_le (by omega)).mp hgt
    rw [Nat.add_mul, Nat.one_mul] at hi2
    unfold kz_bf
    rw [if_neg (show ¬ (b * (2 * h) ≤ i ∧ i < b * (2 * h) + h) by omega), if_neg (show ¬ (b * (2 * h) + h ≤ i ∧ i < b * (2 * h) + h + h) by omega), hA i, if_neg (show ¬ i / (2 * h) < b by omega), if_neg (show ¬ i / (2 * h) < b + 1 by omega)]
theorem kz_t14 {a w : Nat → Nat} {f P : Nat → Int32} {h B N : Nat} (h0 : 0 < h) (hB : B * (2 * h) = 256) (hN : N + B ≤ 128) (hP : ∀ i, i < 128 → w i < 3329 ∧ P i = nI (w i)) (hf : kz_R a f) :
    ∃ r, kb_w (fun u : Int32 × Int32 × (Nat → Int32) => kSX2_transform_14 (nI h) 256 P u.1 u.2.1 u.2.2) 100000 (nI N, (0 : Int32), f) = some r ∧ r.1 = nI (N + B) ∧ kz_R (kz_L a (fun b => w (N + b)) h) r.2.2 := by
  refine kb_w_inv (σ := Int32 × Int32 × (Nat → Int32)) (ρ := Int32 × Int32 × (Nat → Int32)) (fun b u => u.1 = nI (N + b) ∧ u.2.1 = nI (b * (2 * h)) ∧ kz_R (fun i => if i / (2 * h) < b then kz_L a (fun b => w (N + b)) h i else a i) u.2.2) (fun r => r.1 = nI (N + B) ∧ kz_R (kz_L a (fun b => w (N + b)) h) r.2.2) B ?_ ?_ B 0 _ 100000 (by omega) (by omega) ⟨rfl, ?_, ?_⟩
  · rintro b ⟨x, y, g⟩ hb ⟨hu1, hu2, hu3⟩
    replace hu1 : x = nI (N + b) := hu1
    replace hu2 : y = nI (b * (2 * h)) := hu2
    replace hu3 : kz_R (fun i => if i / (2 * h) < b then kz_L a (fun b => w (N + b)) h i else a i) g := hu3
    subst hu1 hu2
    have hBb : (b + 1) * (2 * h) ≤ 256 := by rw [← hB]; exact Nat.mul_le_mul_right _ hb
    have hb1 : (b + 1) * (2 * h) = b * (2 * h) + 2 * h := by rw [Nat.add_mul, Nat.one_mul]
    obtain ⟨hw, hPw⟩ := hP (N + b) (by omega)
    obtain ⟨⟨x', f'⟩, k1, k2, k3⟩ := kz_t37 (p := w (N + b)) (s := b * (2 * h)) (h := h) hw (by omega) hu3
    refine ⟨(nI (N + b + 1), nI ((b + 1) * (2 * h)), f'), ?_, rfl, rfl, ?_⟩
    · show kSX2_transform_14 (nI h) 256 P (nI (N + b)) (nI (b * (2 * h))) g = _
      unfold kSX2_transform_14
      refine (kb_b_ff (kz_nle (n := 256) (by omega) (by decide))).trans ?_
      refine (kb_g_tt (kb_in_n (by omega) (by decide))).trans ?_
      refine (kb_n_v (v := nI (w (N + b))) (by rw [nI_clamp (by omega)]; exact hPw)).trans ?_
      refine (kb_n_v (kz_inc _)).trans ?_
      refine (kb_o_v k1).trans ?_
      refine (kb_n_v (v := nI ((b + 1) * (2 * h))) ?_).trans rfl
      show nI (b * (2 * h)) + nI 2 * nI h = _
      rw [pk_mul, nI_add, hb1]
    · exact kz_R_c k3 (fun i hi => kz_bfL (r := fun b => w (N + b)) h0 (fun _ => rfl))
  · rintro ⟨x, y, g⟩ ⟨hu1, hu2, hu3⟩
    replace hu1 : x = nI (N + B) := hu1
    replace hu2 : y = nI (B * (2 * h)) := hu2
    subst hu1 hu2
    refine ⟨(nI (N + B), nI (B * (2 * h)), g), ?_, rfl, ?_⟩
    · show kSX2_transform_14 (nI h) 256 P (nI (N + B)) (nI (B * (2 * h))) g = _
      unfold kSX2_transform_14
      exact kb_b_tt (kz_le (n := 256) (by omega) (by omega))
    · refine kz_R_c hu3 (fun i hi => ?_)
      show (if i / (2 * h) < B then _ else _) = _
      rw [if_pos ((Nat.div_lt_iff_lt_mul (by omega)).mpr (by omega))]
  · show (0 : Int32) = nI (0 * (2 * h))
    rw [Nat.zero_mul]; rfl
  · exact kz_R_c hf (fun i _ => by show a i = if i / (2 * h) < 0 then _ else a i; rw [if_neg (Nat.not_lt_zero _)])
theorem kz_Lf : ∀ L, L < 7 → 0 < 128 / 2 ^ L ∧ 2 ^ L * (2 * (128 / 2 ^ L)) = 256 ∧ 2 ^ L + 2 ^ L ≤ 128 ∧ 256 / 2 ^ L = 2 * (128 / 2 ^ L) ∧ 128 / 2 ^ L / 2 = 128 / 2 ^ (L + 1) ∧ 256 / 2 ^ (L + 1) = 128 / 2 ^ L ∧ 2 ≤ 128 / 2 ^ L ∧ 128 / 2 ^ L ≤ 128 := by decide
theorem kz_transform {a : Nat → Nat} {f P : Nat → Int32} (hf : kz_R a f) (hP : ∀ i, i < 128 → kz_pw i < 3329 ∧ P i = nI (kz_pw i)) : ∃ g, kFX2_transform 256 P f = some g ∧ kz_R (kz_ntt a) g := by
  obtain ⟨⟨x, y, g⟩, k1, k2⟩ : ∃ r, kb_w (fun u : Int32 × Int32 × (Nat → Int32) => kSX2_transform_6 256 P u.1 u.2.1 u.2.2) 100000 ((1 : Int32), (128 : Int32), f) = some r ∧ kz_R (kz_ntt a) r.2.2 := by
    refine kb_w_inv (σ := Int32 × Int32 × (Nat → Int32)) (ρ := Int32 × Int32 × (Nat → Int32)) (fun L u => u.1 = nI (2 ^ L) ∧ u.2.1 = nI (128 / 2 ^ L) ∧ ∃ g, kz_R g u.2.2 ∧ ∀ i, i < 256 → g i = kz_ev a (i % (256 / 2 ^ L)) (256 / 2 ^ L) (kz_cc L (i / (256 / 2 ^ L))) (2 ^ L) % 3329) (fun r => kz_R (kz_ntt a) r.2.2) 7 ?_ ?_ 7 0 _ 100000 (by omega) (by omega) ⟨rfl, rfl, a, hf, ?_⟩
    · rintro L ⟨x, y, f1⟩ hL ⟨hu1, hu2, g, hg, hge⟩
      replace hu1 : x = nI (2 ^ L) := hu1
      replace hu2 : y = nI (128 / 2 ^ L) := hu2
      replace hg : kz_R g f1 := hg
      subst hu1 hu2
      obtain ⟨f0, f1', f2, f3, f4, f5, f6, f7⟩ := kz_Lf L hL
      rw [f3] at hge
      obtain ⟨⟨x', y', f'⟩, k1, k2, k3⟩ := kz_t14 (N := 2 ^ L) (B := 2 ^ L) f0 f1' f2 hP hg
      refine ⟨(nI (2 ^ L + 2 ^ L), nI (128 / 2 ^ (L + 1)), f'), ?_, ?_, rfl, _, k3, ?_⟩
      · show kSX2_transform_6 256 P (nI (2 ^ L)) (nI (128 / 2 ^ L)) f1 = _
        unfold kSX2_transform_6
        refine (kb_b_ff (kz_nlt (b := 2) f6 (by omega))).trans ?_
        refine (kb_o_v k1).trans ?_
        replace k2 : x' = nI (2 ^ L + 2 ^ L) := k2
        subst k2
        refine (kb_n_v (v := nI (128 / 2 ^ (L + 1))) ?_).trans rfl
        rw [← f4]
        exact pk_div (d := 2) (by omega) (by decide) (by decide)
      · show nI (2 ^ L + 2 ^ L) = nI (2 ^ (L + 1))
        rw [Nat.pow_succ, Nat.mul_two]
      · intro i hi
        rw [kz_level f0 f1' (fun b hb => ⟨kz_pw_lt _, kz_cc_sq L hL b hb⟩) hge hi, f5, show 2 ^ (L + 1) = 2 * 2 ^ L by rw [Nat.pow_succ, Nat.mul_comm]]
        rfl
    · rintro ⟨x, y, f1⟩ ⟨hu1, hu2, g, hg, hge⟩
      replace hu2 : y = nI 1 := hu2
      subst hu2
      refine ⟨(x, nI 1, f1), ?_, ?_⟩
      · show kSX2_transform_6 256 P x (nI 1) f1 = _
        unfold kSX2_transform_6
        exact kb_b_tt (kz_lt (b := 2) (by decide) (by decide))
      · refine kz_R_c hg (fun i hi => ?_)
        rw [hge i hi]
        show kz_ev a (i % 2) 2 (kz_cc 7 (i / 2)) 128 % 3329 = kz_ntt a i
        rw [kz_cc_7 (i / 2) (by omega)]
        rfl
    · intro i hi
      show a i = kz_ev a (i % 256) 256 3328 1 % 3329
      unfold kz_ev kz_sum kz_sum
      rw [Nat.pow_zero, Nat.mul_one, Nat.zero_mul, Nat.add_zero, Nat.zero_add, Nat.mod_eq_of_lt hi, Nat.mod_eq_of_lt (hf i hi).1]
  refine ⟨g, ?_, k2⟩
  unfold kFX2_transform
  exact kb_o_v k1
