/-! Layer 2: the class's Ring, the way back, sums and products. -/
theorem kz_m1 : Int32.ofInt (-1) = -1 := by decide +kernel
theorem kz_dec {n : Nat} (h : 0 < n) : nI n + Int32.ofInt (-1) = nI (n - 1) := by rw [kz_m1]; exact sb_m1 h
def kz_bg (a : Nat → Nat) (p s h k i : Nat) : Nat := if s ≤ i ∧ i < s + k then (a i + a (i + h)) % 3329 else if s + h ≤ i ∧ i < s + h + k then p * (a i + 3329 - a (i - h)) % 3329 else a i
theorem kz_b38 {a : Nat → Nat} {f : Nat → Int32} {p s h : Nat} (hp : p < 3329) (hsh : s + 2 * h ≤ 256) (hf : kz_R a f) :
    ∃ r, kb_w (fun u : Int32 × (Nat → Int32) => kSX2_transformBack_38 (nI h) (nI s) (nI p) 256 u.1 u.2) 100000 (nI s, f) = some r ∧ r.1 = nI (s + h) ∧ kz_R (kz_bg a p s h h) r.2 := by
  refine kb_w_inv (σ := Int32 × (Nat → Int32)) (ρ := Int32 × (Nat → Int32)) (fun k u => u.1 = nI (s + k) ∧ kz_R (kz_bg a p s h k) u.2) (fun r => r.1 = nI (s + h) ∧ kz_R (kz_bg a p s h h) r.2) h ?_ ?_ h 0 _ 100000 (by omega) (by omega) ⟨rfl, ?_⟩
  · rintro k ⟨x, g⟩ hk ⟨hu1, hu2⟩
    replace hu1 : x = nI (s + k) := hu1
    replace hu2 : kz_R (kz_bg a p s h k) g := hu2
    subst hu1
    have hj := hu2 (s + k) (by omega)
    have hjh := hu2 (s + k + h) (by omega)
    rw [show kz_bg a p s h k (s + k) = a (s + k) by unfold kz_bg; rw [if_neg (by omega), if_neg (by omega)]] at hj
    rw [show kz_bg a p s h k (s + k + h) = a (s + k + h) by unfold kz_bg; rw [if_neg (by omega), if_neg (by omega)]] at hjh
    have hm : p * (a (s + k + h) + 3329 - a (s + k)) ≤ 3328 * 6657 := Nat.mul_le_mul (by omega) (by omega)
    have hv1 : p * (a (s + k + h) + 3329 - a (s + k)) % 3329 < 3329 := Nat.mod_lt _ (by decide)
    have hv2 : (a (s + k) + a (s + k + h)) % 3329 < 3329 := Nat.mod_lt _ (by decide)
    refine ⟨(nI (s + k + 1), upd (upd g (s + k) (nI ((a (s + k) + a (s + k + h)) % 3329))) (s + k + h) (nI (p * (a (s + k + h) + 3329 - a (s + k)) % 3329))), ?_, rfl, ?_⟩
    · show kSX2_transformBack_38 (nI h) (nI s) (nI p) 256 (nI (s + k)) g = _
      unfold kSX2_transformBack_38
      rw [nI_add s h, nI_add (s + k) h, nI_clamp (show s + k + h < 2 ^ 31 by omega), nI_clamp (show s + k < 2 ^ 31 by omega)]
      refine (kb_b_ff (kz_nle (by omega) (by omega))).trans ?_
      refine (kb_g_tt (kb_in_n (by omega) (by decide))).trans ?_
      refine (kb_g_tt (kb_in_n (by omega) (by decide))).trans ?_
      refine (kb_n_v (v := nI (a (s + k + h) + 3329 - a (s + k))) ?_).trans ?_
      · rw [hj.2, hjh.2, show nI (a (s + k + h)) + (3329 : Int32) = nI (a (s + k + h) + 3329) from nI_add _ _, pk_sub (by omega)]
      refine (kb_g_tt (kb_in_n (by omega) (by decide))).trans ?_
      refine (kb_g_tt (kb_in_n (by omega) (by decide))).trans ?_
      refine (kb_n_v (v := nI ((a (s + k) + a (s + k + h)) % 3329)) ?_).trans ?_
      · rw [hj.2, hjh.2, nI_add]
        exact kz_rem (by omega)
      refine (kb_g_tt (kb_in_n (by omega) (by decide))).trans ?_
      refine (kb_n_v rfl).trans ?_
      refine (kb_n_v (v := nI (p * (a (s + k + h) + 3329 - a (s + k)) % 3329)) ?_).trans ?_
      · rw [pk_mul]
        exact kz_rem (by omega)
      refine (kb_g_tt (kb_in_n (by omega) (by decide))).trans ?_
      refine (kb_n_v rfl).trans ?_
      exact (kb_n_v (kz_inc _)).trans rfl
    · refine kz_R_c (kz_R_u (k := s + k + h) (kz_R_u (k := s + k) hu2 hv2) hv1) (fun i hi => ?_)
      show (if i = s + k + h then _ else if i = s + k then _ else kz_bg a p s h k i) = kz_bg a p s h (k + 1) i
      by_cases e1 : i = s + k + h
      · subst e1
        rw [if_pos rfl]
        unfold kz_bg
        rw [if_neg (by omega), if_pos ⟨by omega, by omega⟩, Nat.add_sub_cancel]
      · rw [if_neg e1]
        by_cases e2 : i = s + k
        · subst e2
          rw [if_pos rfl]
          unfold kz_bg
          rw [if_pos ⟨by omega, by omega⟩]
        · rw [if_neg e2]
          have c1 : (s ≤ i ∧ i < s + k) = (s ≤ i ∧ i < s + (k + 1)) := propext ⟨fun z => ⟨z.1, by omega⟩, fun z => ⟨z.1, by omega⟩⟩
          have c2 : (s + h ≤ i ∧ i < s + h + k) = (s + h ≤ i ∧ i < s + h + (k + 1)) := propext ⟨fun z => ⟨z.1, by omega⟩, fun z => ⟨z.1, by omega⟩⟩
          unfold kz_bg
          simp only [c1, c2]
  · rintro ⟨x, g⟩ ⟨hu1, hu2⟩
    replace hu1 : x = nI (s + h) := hu1
    subst hu1
    refine ⟨(nI (s + h), g), ?_, rfl, hu2⟩
    show kSX2_transformBack_38 (nI h) (nI s) (nI p) 256 (nI (s + h)) g = _
    unfold kSX2_transformBack_38
    rw [nI_add s h]
    exact kb_b_tt (kz_le (Nat.le_refl _) (by omega))
  · exact kz_R_c hf (fun i _ => by show a i = kz_bg a p s h 0 i; unfold kz_bg; rw [if_neg (by omega), if_neg (by omega)])
theorem kz_bgM {a A r : Nat → Nat} {h b i : Nat} (h0 : 0 < h) (hA : ∀ j, A j = if j / (2 * h) < b then kz_M a r h j else a j) : kz_bg A (r b) (b * (2 * h)) h h i = if i / (2 * h) < b + 1 then kz_M a r h i else a i := by
  have e := Nat.div_add_mod i (2 * h)
  have ht : i % (2 * h) < 2 * h := Nat.mod_lt _ (by omega)
  rcases Nat.lt_trichotomy (i / (2 * h)) b with hlt | heq | hgt
  · have hi2 : i < b * (2 * h) := (Nat.div_lt_iff_lt_mul (by omega)).mp hlt
    have hc : i / (2 * h) < b + 1 := by omega
    unfold kz_bg
    rw [if_neg (show ¬ (b * (2 * h) ≤ i ∧ i < b * (2 * h) + h) by omega), if_neg (show ¬ (b * (2 * h) + h ≤ i ∧ i < b * (2 * h) + h + h) by omega), hA i, if_pos hlt, if_pos hc]
  · rw [heq, Nat.mul_comm] at e
    have hc : i / (2 * h) < b + 1 := by omega
    have dm : ∀ z, z < 2 * h → (b * (2 * h) + z) / (2 * h) = b ∧ (b * (2 * h) + z) % (2 * h) = z := fun z hz => kz_dm (d := 2 * h) (m := b) (t := z) (by rw [Nat.mul_comm]) hz
    have no : ∀ z, z < 2 * h → A (b * (2 * h) + z) = a (b * (2 * h) + z) := fun z hz => by rw [hA, (dm z hz).1, if_neg (Nat.lt_irrefl b)]
    rw [if_pos hc]
    generalize i % (2 * h) = t at e ht
    subst e
    by_cases hth : t < h
    · have e1 : kz_bg A (r b) (b * (2 * h)) h h (b * (2 * h) + t) = (A (b * (2 * h) + t) + A (b * (2 * h) + t + h)) % 3329 := by
        unfold kz_bg
        rw [if_pos ⟨by omega, by omega⟩]
      have e2 : kz_M a r h (b * (2 * h) + t) = (a (b * (2 * h) + t) + a (b * (2 * h) + t + h)) % 3329 := by
        unfold kz_M
        rw [(dm t ht).1, (dm t ht).2, if_pos hth]
      rw [e1, e2, show b * (2 * h) + t + h = b * (2 * h) + (t + h) by omega, no t ht, no (t + h) (by omega)]
    · have e1 : kz_bg A (r b) (b * (2 * h)) h h (b * (2 * h) + t) = r b * (A (b * (2 * h) + t) + 3329 - A (b * (2 * h) + t - h)) % 3329 := by
        unfold kz_bg
        rw [if_neg (show ¬ (b * (2 * h) ≤ b * (2 * h) + t ∧ b * (2 * h) + t < b * (2 * h) + h) by omega), if_pos ⟨by omega, by omega⟩]
      have e2 : kz_M a r h (b * (2 * h) + t) = r b * (a (b * (2 * h) + t) + 3329 - a (b * (2 * h) + t - h)) % 3329 := by
        unfold kz_M
        rw [(dm t ht).1, (dm t ht).2, if_neg hth]
      rw [e1, e2, show b * (2 * h) + t - h = b * (2 * h) + (t - h) by omega, no t ht, no (t - h) (by omega)]
  · have hi2 : (b + 1) * (2 * h) ≤ i := (Nat.le_div_iff_mul_le (by omega)).mp hgt
    rw [Nat.add_mul, Nat.one_mul] at hi2
    unfold kz_bg
    rw [if_neg (show ¬ (b * (2 * h) ≤ i ∧ i < b * (2 * h) + h) by omega), if_neg (show ¬ (b * (2 * h) + h ≤ i ∧ i < b * (2 * h) + h + h) by omega), hA i, if_neg (show ¬ i / (2 * h) < b by omega), if_neg (show ¬ i / (2 * h) < b + 1 by omega)]
theorem kz_b15 {a w : Nat → Nat} {f P : Nat → Int32} {h B N : Nat} (h0 : 0 < h) (hB : B * (2 * h) = 256) (hN : B ≤ N) (hN2 : N < 128) (hP : ∀ i, i < 128 → w i < 3329 ∧ P i = nI (w i)) (hf : kz_R a f) :
    ∃ r, kb_w (fun u : Int32 × Int32 × (Nat → Int32) => kSX2_transformBack_15 (nI h) 256 P u.1 u.2.1 u.2.2) 100000 (nI N, (0 : Int32), f) = some r ∧ r.1 = nI (N - B) ∧ kz_R (kz_M a (fun b => w (N - b)) h) r.2.2 := by
  refine kb_w_inv (σ := Int32 × Int32 × (Nat → Int32)) (ρ := Int32 × Int32 × (Nat → Int32)) (fun b u => u.1 = nI (N - b) ∧ u.2.1 = nI (b * (2 * h)) ∧ kz_R (fun i => if i / (2 * h) < b then kz_M a (fun b => w (N - b)) h i else a i) u.2.2) (fun r => r.1 = nI (N - B) ∧ kz_R (kz_M a (fun b => w (N - b)) h) r.2.2) B ?_ ?_ B 0 _ 100000 (by omega) (by omega) ⟨rfl, ?_, ?_⟩
  · rintro b ⟨x, y, g⟩ hb ⟨hu1, hu2, hu3⟩
    replace hu1 : x = nI (N - b) := hu1
    replace hu2 : y = nI (b * (2 * h)) := hu2
    replace hu3 : kz_R (fun i => if i / (2 * h) < b then kz_M a (fun b => w (N - b)) h i else a i) g := hu3
    subst hu1 hu2
    have hBb : (b + 1) * (2 * h) ≤ 256 := by rw [← hB]; exact Nat.mul_le_mul_right _ hb
    have hb1 : (b + 1) * (2 * h) = b * (2 * h) + 2 * h := by rw [Nat.add_mul, Nat.one_mul]
    obtain ⟨hw, hPw⟩ := hP (N - b) (by omega)
    obtain ⟨⟨x', f'⟩, k1, k2, k3⟩ := kz_b38 (p := w (N - b)) (s := b * (2 * h)) (h := h) hw (by omega) hu3
    refine ⟨(nI (N - b - 1), nI ((b + 1) * (2 * h)), f'), ?_, rfl, rfl, ?_⟩
    · show kSX2_transformBack_15 (nI h) 256 P (nI (N - b)) (nI (b * (2 * h))) g = _
      unfold kSX2_transformBack_15
      refine (kb_b_ff (kz_nle (n := 256) (by omega) (by decide))).trans ?_
      refine (kb_g_tt (kb_in_n (by omega) (by decide))).trans ?_
      refine (kb_n_v (v := nI (w (N - b))) (by rw [nI_clamp (by omega)]; exact hPw)).trans ?_
      refine (kb_n_v (kz_dec (by omega))).trans ?_
      refine (kb_o_v k1).trans ?_
      refine (kb_n_v (v := nI ((b + 1) * (2 * h))) ?_).trans rfl
      show nI (b * (2 * h)) + nI 2 * nI h = _
      rw [pk_mul, nI_add, hb1]
    · exact kz_R_c k3 (fun i hi => kz_bgM (r := fun b => w (N - b)) h0 (fun _ => rfl))
  · rintro ⟨x, y, g⟩ ⟨hu1, hu2, hu3⟩
    replace hu1 : x = nI (N - B) := hu1
    replace hu2 : y = nI (B * (2 * h)) := hu2
    subst hu1 hu2
    refine ⟨(nI (N - B), nI (B * (2 * h)), g), ?_, rfl, ?_⟩
    · show kSX2_transformBack_15 (nI h) 256 P (nI (N - B)) (nI (B * (2 * h))) g = _
      unfold kSX2_transformBack_15
      exact kb_b_tt (kz_le (n := 256) (by omega) (by omega))
    · refine kz_R_c hu3 (fun i hi => ?_)
      show (if i / (2 * h) < B then _ else _) = _
      rw [if_pos ((Nat.div_lt_iff_lt_mul (by omega)).mpr (by omega))]
  · show (0 : Int32) = nI (0 * (2 * h))
    rw [Nat.zero_mul]; rfl
  · exact kz_R_c hf (fun i _ => by show a i = if i / (2 * h) < 0 then _ else a i; rw [if_neg (Nat.not_lt_zero _)])
theorem kz_Mf : ∀ m, m < 7 → 0 < 2 ^ m ∧ 64 / 2 ^ m * (2 * (2 * 2 ^ m)) = 256 ∧ 64 / 2 ^ m ≤ 128 / 2 ^ m - 1 ∧ 128 / 2 ^ m - 1 < 128 ∧ 128 / 2 ^ m - 1 - 64 / 2 ^ m = 128 / 2 ^ (m + 1) - 1 ∧ 2 * 2 ^ m ≤ 128 ∧ 2 ^ (m + 1) = 2 * 2 ^ m := by decide
theorem kz_back5 {a : Nat → Nat} {f P : Nat → Int32} (hf : kz_R a f) (hP : ∀ i, i < 128 → kz_pw i < 3329 ∧ P i = nI (kz_pw i)) :
    ∃ r, kb_w (fun u : Int32 × Int32 × (Nat → Int32) => kSX2_transformBack_5 256 P u.1 u.2.1 u.2.2) 100000 ((127 : Int32), (2 : Int32), f) = some r ∧ kz_R (fun i => kz_iv a i 0 128 % 3329) r.2.2 := by
  refine kb_w_inv (σ := Int32 × Int32 × (Nat → Int32)) (ρ := Int32 × Int32 × (Nat → Int32)) (fun m u => u.1 = nI (128 / 2 ^ m - 1) ∧ u.2.1 = nI (2 * 2 ^ m) ∧ ∃ g, kz_R g u.2.2 ∧ ∀ i, i < 256 → g i = kz_iv a (i % (2 * 2 ^ m)) (2 ^ m * (i / (2 * 2 ^ m))) (2 ^ m) % 3329) (fun r => kz_R (fun i => kz_iv a i 0 128 % 3329) r.2.2) 7 ?_ ?_ 7 0 _ 100000 (by omega) (by omega) ⟨rfl, rfl, a, hf, ?_⟩
  · rintro m ⟨x, y, f1⟩ hm ⟨hu1, hu2, g, hg, hge⟩
    replace hu1 : x = nI (128 / 2 ^ m - 1) := hu1
    replace hu2 : y = nI (2 * 2 ^ m) := hu2
    replace hg : kz_R g f1 := hg
    subst hu1 hu2
    obtain ⟨f0, f1', f2, f3, f4, f5, f6⟩ := kz_Mf m hm
    obtain ⟨⟨x', y', f'⟩, k1, k2, k3⟩ := kz_b15 (N := 128 / 2 ^ m - 1) (B := 64 / 2 ^ m) (h := 2 * 2 ^ m) (by omega) f1' f2 f3 hP hg
    refine ⟨(nI (128 / 2 ^ m - 1 - 64 / 2 ^ m), nI (2 * (2 * 2 ^ m)), f'), ?_, ?_, ?_, _, k3, ?_⟩
    · show kSX2_transformBack_5 256 P (nI (128 / 2 ^ m - 1)) (nI (2 * 2 ^ m)) f1 = _
      unfold kSX2_transformBack_5
      refine (kb_b_ff (kz_nlt (a := 128) f5 (by decide))).trans ?_
      refine (kb_o_v k1).trans ?_
      replace k2 : x' = nI (128 / 2 ^ m - 1 - 64 / 2 ^ m) := k2
      subst k2
      refine (kb_n_v (v := nI (2 * (2 * 2 ^ m))) ?_).trans rfl
      show nI (2 * 2 ^ m) * nI 2 = _
      rw [pk_mul, Nat.mul_comm]
    · show nI (128 / 2 ^ m - 1 - 64 / 2 ^ m) = nI (128 / 2 ^ (m + 1) - 1)
      rw [f4]
    · show nI (2 * (2 * 2 ^ m)) = nI (2 * 2 ^ (m + 1))
      rw [f6]
    · intro i hi
      rw [f6, kz_ilevel f0 f1' (fun b hb => ⟨kz_pw_lt _, kz_ci_all m hm b hb⟩) hge hi]
  · rintro ⟨x, y, f1⟩ ⟨hu1, hu2, g, hg, hge⟩
    replace hu2 : y = nI 256 := hu2
    subst hu2
    refine ⟨(x, nI 256, f1), ?_, ?_⟩
    · show kSX2_transformBack_5 256 P x (nI 256) f1 = _
      unfold kSX2_transformBack_5
      exact kb_b_tt (kz_lt (a := 128) (by decide) (by decide))
    · refine kz_R_c hg (fun i hi => ?_)
      rw [hge i hi]
      show kz_iv a (i % 256) (128 * (i / 256)) 128 % 3329 = kz_iv a i 0 128 % 3329
      rw [Nat.mod_eq_of_lt hi, Nat.div_eq_of_lt hi]
  · intro i hi
    show a i = kz_iv a (i % 2) (1 * (i / 2)) 1 % 3329
    unfold kz_iv kz_sum kz_sum
    rw [show i % 2 / 2 = 0 by omega, Nat.pow_zero, Nat.mul_one, Nat.zero_add, Nat.one_mul, Nat.add_zero, show 2 * (i / 2) + i % 2 % 2 = i by omega, Nat.mod_eq_of_lt (hf i hi).1]
theorem kz_back {a : Nat → Nat} {f P : Nat → Int32} (hf : kz_R a f) (hP : ∀ i, i < 128 → kz_pw i < 3329 ∧ P i = nI (kz_pw i)) : ∃ g, kFX2_transformBack 256 P f = some g ∧ kz_R (kz_intt a) g := by
  obtain ⟨⟨x, y, f1⟩, k1, k2⟩ := kz_back5 hf hP
  replace k2 : kz_R (fun i => kz_iv a i 0 128 % 3329) f1 := k2
  obtain ⟨⟨x2, f2⟩, m1, m2⟩ : ∃ r, kb_w (fun u : Int32 × (Nat → Int32) => kSX2_transformBack_124 256 u.1 u.2) 100000 ((0 : Int32), f1) = some r ∧ kz_R (kz_intt a) r.2 := by
    refine kb_w_inv (σ := Int32 × (Nat → Int32)) (ρ := Int32 × (Nat → Int32)) (fun k u => u.1 = nI k ∧ kz_R (fun i => if i < k then kz_intt a i else kz_iv a i 0 128 % 3329) u.2) (fun r => kz_R (kz_intt a) r.2) 256 ?_ ?_ 256 0 _ 100000 (by omega) (by omega) ⟨rfl, kz_R_c k2 (fun i _ => by rw [if_neg (by omega)])⟩
    · rintro k ⟨z, g⟩ hk ⟨hu1, hu2⟩
      replace hu1 : z = nI k := hu1
      replace hu2 : kz_R (fun i => if i < k then kz_intt a i else kz_iv a i 0 128 % 3329) g := hu2
      subst hu1
      have hj := hu2 k hk
      dsimp only at hj
      rw [if_neg (Nat.lt_irrefl k)] at hj
      refine ⟨(nI (k + 1), upd g k (nI (kz_intt a k))), ?_, rfl, ?_⟩
      · show kSX2_transformBack_124 256 (nI k) g = _
        unfold kSX2_transformBack_124
        rw [nI_clamp (show k < 2 ^ 31 by omega)]
        refine (kb_b_ff (kz_nle (n := 256) (by omega) (by decide))).trans ?_
        refine (kb_g_tt (kb_in_n (by omega) (by decide))).trans ?_
        refine (kb_n_v (v := nI (kz_intt a k)) ?_).trans ?_
        · rw [hj.2, show nI (kz_iv a k 0 128 % 3329) * (3303 : Int32) = nI (kz_iv a k 0 128 % 3329 * 3303) from pk_mul _ _]
          exact kz_rem (by have := hj.1; omega)
        refine (kb_g_tt (kb_in_n (by omega) (by decide))).trans ?_
        refine (kb_n_v rfl).trans ?_
        exact (kb_n_v (kz_inc _)).trans rfl
      · refine kz_R_c (kz_R_u (k := k) hu2 (kz_intt_lt a k)) (fun i hi => ?_)
        show (if i = k then kz_intt a k else if i < k then kz_intt a i else kz_iv a i 0 128 % 3329) = if i < k + 1 then kz_intt a i else kz_iv a i 0 128 % 3329
        by_cases e : i = k
        · subst e
          rw [if_pos rfl, if_pos (by omega)]
        · rw [if_neg e]
          by_cases e2 : i < k
          · rw [if_pos e2, if_pos (by omega)]
          · rw [if_neg e2, if_neg (by omega)]
    · rintro ⟨z, g⟩ ⟨hu1, hu2⟩
      replace hu1 : z = nI 256 := hu1
      subst hu1
      refine ⟨(nI 256, g), ?_, kz_R_c hu2 (fun i hi => by show (if i < 256 then _ else _) = _; rw [if_pos hi])⟩
      show kSX2_transformBack_124 256 (nI 256) g = _
      unfold kSX2_transformBack_124
      exact kb_b_tt (kz_le (n := 256) (Nat.le_refl _) (by decide))
  refine ⟨f2, ?_, m2⟩
  unfold kFX2_transformBack
  refine (kb_o_v k1).trans ?_
  exact kb_o_v m1
/-- a loop over all 256 places that sets each out of itself -/
theorem kz_each {a v : Nat → Nat} {f : Nat → Int32} {S : Int32 → (Nat → Int32) → Option ((Int32 × (Nat → Int32)) ⊕ (Int32 × (Nat → Int32)))} (hf : kz_R a f) (hv : ∀ k, k < 256 → v k < 3329)
    (hs : ∀ k g, k < 256 → g k = nI (a k) → S (nI k) g = some (.inl (nI (k + 1), upd g k (nI (v k))))) (hx : ∀ g, S (nI 256) g = some (.inr (nI 256, g))) :
    ∃ g, kb_w (fun u : Int32 × (Nat → Int32) => S u.1 u.2) 100000 ((0 : Int32), f) = some (nI 256, g) ∧ kz_R v g := by
  obtain ⟨⟨x, g⟩, k1, k2, k3⟩ : ∃ r, kb_w (fun u : Int32 × (Nat → Int32) => S u.1 u.2) 100000 ((0 : Int32), f) = some r ∧ r.1 = nI 256 ∧ kz_R v r.2 := by
    refine kb_w_inv (σ := Int32 × (Nat → Int32)) (ρ := Int32 × (Nat → Int32)) (fun k u => u.1 = nI k ∧ kz_R (fun i => if i < k then v i else a i) u.2) (fun r => r.1 = nI 256 ∧ kz_R v r.2) 256 ?_ ?_ 256 0 _ 100000 (by omega) (by omega) ⟨rfl, kz_R_c hf (fun i _ => by rw [if_neg (by omega)])⟩
    · rintro k ⟨z, g⟩ hk ⟨hu1, hu2⟩
      replace hu1 : z = nI k := hu1
      replace hu2 : kz_R (fun i => if i < k then v i else a i) g := hu2
      subst hu1
      have hj := hu2 k hk
      dsimp only at hj
      rw [if_neg (Nat.lt_irrefl k)] at hj
      refine ⟨(nI (k + 1), upd g k (nI (v k))), hs k g hk hj.2, rfl, ?_⟩
      refine kz_R_c (kz_R_u (k := k) hu2 (hv k hk)) (fun i hi => ?_)
      show (if i = k then v k else if i < k then v i else a i) = if i < k + 1 then v i else a i
      by_cases e : i = k
      · subst e
        rw [if_pos rfl, if_pos (by omega)]
      · rw [if_neg e]
        by_cases e2 : i < k
        · rw [if_pos e2, if_pos (by omega)]
        · rw [if_neg e2, if_neg (by omega)]
    · rintro ⟨z, g⟩ ⟨hu1, hu2⟩
      replace hu1 : z = nI 256 := hu1
      subst hu1
      exact ⟨(nI 256, g), hx g, rfl, kz_R_c hu2 (fun i hi => by show (if i < 256 then _ else _) = _; rw [if_pos hi])⟩
  replace k2 : x = nI 256 := k2
  subst k2
  exact ⟨g, k1, k3⟩
theorem kz_add {a b : Nat → Nat} {f g : Nat → Int32} (hf : kz_R a f) (hg : kz_R b g) : ∃ r, kFX2_add 256 256 f g = some r ∧ kz_R (fun i => (a i + b i) % 3329) r := by
  obtain ⟨r, k1, k2⟩ := kz_each (v := fun i => (a i + b i) % 3329) (S := fun x z => kSX2_add_2 256 256 g x z) hf (fun k _ => Nat.mod_lt _ (by decide)) (fun k z hk hz => by
    show kSX2_add_2 256 256 g (nI k) z = _
    unfold kSX2_add_2
    have h1 := (hf k hk).1
    have h2 := hg k hk
    rw [nI_clamp (show k < 2 ^ 31 by omega)]
    refine (kb_b_ff (kz_nle (n := 256) (by omega) (by decide))).trans ?_
    refine (kb_g_tt (kb_in_n (by omega) (by decide))).trans ?_
    refine (kb_g_tt (kb_in_n (by omega) (by decide))).trans ?_
    refine (kb_n_v (v := nI ((a k + b k) % 3329)) ?_).trans ?_
    · rw [hz, h2.2, nI_add]
      exact kz_rem (by omega)
    refine (kb_g_tt (kb_in_n (by omega) (by decide))).trans ?_
    refine (kb_n_v rfl).trans ?_
    exact (kb_n_v (kz_inc _)).trans rfl) (fun z => kb_b_tt (kz_le (n := 256) (Nat.le_refl _) (by decide)))
  exact ⟨r, by unfold kFX2_add; exact kb_o_v k1, k2⟩
theorem kz_sub {a b : Nat → Nat} {f g : Nat → Int32} (hf : kz_R a f) (hg : kz_R b g) : ∃ r, kFX2_subtractFrom 256 256 f g = some r ∧ kz_R (fun i => (a i + 3329 - b i) % 3329) r := by
  obtain ⟨r, k1, k2⟩ := kz_each (v := fun i => (a i + 3329 - b i) % 3329) (S := fun x z => kSX2_subtractFrom_2 256 256 f x z) hg (fun k _ => Nat.mod_lt _ (by decide)) (fun k z hk hz => by
    show kSX2_subtractFrom_2 256 256 f (nI k) z = _
    unfold kSX2_subtractFrom_2
    have h1 := hf k hk
    have h2 := (hg k hk).1
    rw [nI_clamp (show k < 2 ^ 31 by omega)]
    refine (kb_b_ff (kz_nle (n := 256) (by omega) (by decide))).trans ?_
    refine (kb_g_tt (kb_in_n (by omega) (by decide))).trans ?_
    refine (kb_g_tt (kb_in_n (by omega) (by decide))).trans ?_
    refine (kb_n_v (v := nI ((a k + 3329 - b k) % 3329)) ?_).trans ?_
    · rw [hz, h1.2, show nI (a k) + (3329 : Int32) = nI (a k + 3329) from nI_add _ _, pk_sub (by omega)]
      exact kz_rem (by omega)
    refine (kb_g_tt (kb_in_n (by omega) (by decide))).trans ?_
    refine (kb_n_v rfl).trans ?_
    exact (kb_n_v (kz_inc _)).trans rfl) (fun z => kb_b_tt (kz_le (n := 256) (Nat.le_refl _) (by decide)))
  exact ⟨r, by unfold kFX2_subtractFrom; exact kb_o_v k1, k2⟩
