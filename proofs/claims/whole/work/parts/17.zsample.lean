/-! Layer 2: SAMPLE, of the class and of the reference. -/
theorem kb_w_ex {σ ρ : Type} {step : σ → Option (σ ⊕ ρ)} (I : Nat → σ → Prop) (post : ρ → Prop) (n : Nat) (hs : ∀ i s, i < n → I i s → (∃ s', step s = some (.inl s') ∧ I (i + 1) s') ∨ ∃ r, step s = some (.inr r) ∧ post r) (hx : ∀ s, I n s → ∃ r, step s = some (.inr r) ∧ post r) :
    ∀ (d i : Nat) (s : σ) (fuel : Nat), i + d = n → d < fuel → I i s → ∃ r, kb_w step fuel s = some r ∧ post r := by
  intro d
  induction d with
  | zero =>
    intro i s fuel hi hf h
    obtain ⟨f, rfl⟩ : ∃ f, fuel = f + 1 := ⟨fuel - 1, by omega⟩
    have hi : i = n := by omega
    subst hi
    obtain ⟨r, h1, h2⟩ := hx s h
    exact ⟨r, by simp [kb_w, h1], h2⟩
  | succ d ih =>
    intro i s fuel hi hf h
    obtain ⟨f, rfl⟩ : ∃ f, fuel = f + 1 := ⟨fuel - 1, by omega⟩
    rcases hs i s (by omega) h with ⟨s', h1, h2⟩ | ⟨r, h1, h2⟩
    · obtain ⟨r, h3, h4⟩ := ih (i + 1) s' f (by omega) (by omega) h2
      exact ⟨r, by simp [kb_w, h1, h3], h4⟩
    · exact ⟨r, by simp [kb_w, h1], h2⟩
theorem kz_gv_add (rc : Nat → Int64) (R : Nat) (u : kz_SP) (m : Nat) : ∀ n, kz_gv rc R (kz_gv rc R u m) n = kz_gv rc R u (m + n)
  | 0 => rfl
  | n + 1 => by
    show ((kz_sz rc R (kz_gv rc R (kz_gv rc R u m) n)).1, (kz_sz rc R (kz_gv rc R (kz_gv rc R u m) n)).2 + 1) = ((kz_sz rc R (kz_gv rc R u (m + n))).1, (kz_sz rc R (kz_gv rc R u (m + n))).2 + 1)
    rw [kz_gv_add rc R u m n]
theorem kz_gb_add (rc : Nat → Int64) (R : Nat) (u : kz_SP) (m n : Nat) : kz_gb rc R (kz_gv rc R u m) n = kz_gb rc R u (m + n) := by
  unfold kz_gb
  rw [kz_gv_add]
def kz_up (p : Nat → Nat) (k v : Nat) : Nat → Nat := fun i => if i = k then v else p i
def kz_s1 (u : Nat × (Nat → Nat)) (x y : Nat) : Nat × (Nat → Nat) := if 3329 ≤ x then (if 3329 ≤ y then u else (u.1 + 1, kz_up u.2 u.1 y)) else (if 3329 ≤ y then (u.1 + 1, kz_up u.2 u.1 x) else if 256 ≤ u.1 + 1 then (u.1 + 1, kz_up u.2 u.1 x) else (u.1 + 2, kz_up (kz_up u.2 u.1 x) (u.1 + 1) y))
/-- the numbers found in the first t triples -/
def kz_sm (g : Nat → Nat) : Nat → Nat × (Nat → Nat)
  | 0 => (0, fun _ => 0)
  | t + 1 => if (kz_sm g t).1 < 256 then kz_s1 (kz_sm g t) (g (3 * t) + 256 * (g (3 * t + 1) % 16)) (g (3 * t + 1) / 16 + 16 * g (3 * t + 2)) else kz_sm g t
theorem kz_sm_le (g : Nat → Nat) : ∀ t, (kz_sm g t).1 ≤ 256
  | 0 => Nat.zero_le _
  | t + 1 => by
    have h := kz_sm_le g t
    show (if (kz_sm g t).1 < 256 then kz_s1 (kz_sm g t) (g (3 * t) + 256 * (g (3 * t + 1) % 16)) (g (3 * t + 1) / 16 + 16 * g (3 * t + 2)) else kz_sm g t).1 ≤ 256
    by_cases c : (kz_sm g t).1 < 256
    · rw [if_pos c]
      generalize kz_sm g t = u at h c
      unfold kz_s1
      split
      · split
        · exact h
        · exact c
      · split
        · exact c
        · split
          · exact c
          · show u.1 + 2 ≤ 256
            omega
    · rw [if_neg c]
      exact h
theorem kz_sm_stop (g : Nat → Nat) {t : Nat} (h : ¬ (kz_sm g t).1 < 256) : ∀ k, kz_sm g (t + k) = kz_sm g t
  | 0 => rfl
  | k + 1 => by
    have ih := kz_sm_stop g h k
    show (if (kz_sm g (t + k)).1 < 256 then _ else kz_sm g (t + k)) = kz_sm g t
    rw [ih, if_neg h]
def kz_Rn (n : Nat) (p : Nat → Nat) (f : Nat → Int32) : Prop := ∀ i, i < n → p i < 3329 ∧ f i = nI (p i)
theorem kz_Rn_u {n v : Nat} {p : Nat → Nat} {f : Nat → Int32} (h : kz_Rn n p f) (hv : v < 3329) : kz_Rn (n + 1) (kz_up p n v) (upd f n (nI v)) := fun i hi => by
  unfold kz_up
  by_cases e : i = n
  · subst e
    exact ⟨by rw [if_pos rfl]; exact hv, by rw [if_pos rfl]; exact pk_us⟩
  · exact ⟨by rw [if_neg e]; exact (h i (by omega)).1, by rw [if_neg e, pk_un e]; exact (h i (by omega)).2⟩
theorem kz_16 {b : Nat} (hb : b < 256) : nI b - nI b / (16 : Int32) * (16 : Int32) = nI (b % 16) := pk_rem (d := 16) (by omega) (by decide) (by decide)
theorem kz_d16 {b : Nat} (hb : b < 256) : nI b / (16 : Int32) = nI (b / 16) := pk_div (d := 16) (by omega) (by decide) (by decide)
theorem kz_sx {a b : Nat} (hb : b < 256) : nI a + (256 : Int32) * (nI b - nI b / (16 : Int32) * (16 : Int32)) = nI (a + 256 * (b % 16)) := by
  rw [kz_16 hb, show (256 : Int32) * nI (b % 16) = nI (256 * (b % 16)) from pk_mul _ _, nI_add]
theorem kz_sy {b c : Nat} (hb : b < 256) : nI b / (16 : Int32) + (16 : Int32) * nI c = nI (b / 16 + 16 * c) := by
  rw [kz_d16 hb, show (16 : Int32) * nI c = nI (16 * c) from pk_mul _ _, nI_add]
theorem kz_sample {rc lanes moved columns : Nat → Int64} {turns targets three f : Nat → Int32} {R : Nat} {u : kz_SP} (hT : kz_tab turns targets) (hR : 0 < R) (hR2 : R ≤ 200) (hu : u.2 ≤ R) (hL : kz_e25 lanes u.1) :
    ∃ pl l' m' c' three' f', kFX1_sample 256 (nI R) (nI u.2) lanes moved columns turns targets rc three f = some (if (kz_sm (kz_gb rc R u) 280).1 < 256 then .inr ("java/lang/ArithmeticException", (pl, l', m', c', three', f')) else .inl (pl, l', m', c', three', f')) ∧ kz_Rn (kz_sm (kz_gb rc R u) 280).1 (kz_sm (kz_gb rc R u) 280).2 f' := by
  obtain ⟨⟨x2, x3, f', pl, c', l', m', th⟩, k1, k2, k3⟩ : ∃ r, kb_w (fun z : Int32 × Int32 × (Nat → Int32) × Int32 × (Nat → Int64) × (Nat → Int64) × (Nat → Int64) × (Nat → Int32) => kSX1_sample_4 256 (nI R) turns targets rc z.1 z.2.1 z.2.2.1 z.2.2.2.1 z.2.2.2.2.1 z.2.2.2.2.2.1 z.2.2.2.2.2.2.1 z.2.2.2.2.2.2.2) 100000 ((0 : Int32), (0 : Int32), f, nI u.2, columns, lanes, moved, three) = some r ∧ r.1 = nI (kz_sm (kz_gb rc R u) 280).1 ∧ kz_Rn (kz_sm (kz_gb rc R u) 280).1 (kz_sm (kz_gb rc R u) 280).2 r.2.2.1 := by
    refine kb_w_ex (σ := Int32 × Int32 × (Nat → Int32) × Int32 × (Nat → Int64) × (Nat → Int64) × (Nat → Int64) × (Nat → Int32)) (ρ := Int32 × Int32 × (Nat → Int32) × Int32 × (Nat → Int64) × (Nat → Int64) × (Nat → Int64) × (Nat → Int32)) (fun t z => z.1 = nI (kz_sm (kz_gb rc R u) t).1 ∧ z.2.1 = nI t ∧ kz_Rn (kz_sm (kz_gb rc R u) t).1 (kz_sm (kz_gb rc R u) t).2 z.2.2.1 ∧ z.2.2.2.1 = nI (kz_gv rc R u (3 * t)).2 ∧ kz_e25 z.2.2.2.2.2.1 (kz_gv rc R u (3 * t)).1) (fun r => r.1 = nI (kz_sm (kz_gb rc R u) 280).1 ∧ kz_Rn (kz_sm (kz_gb rc R u) 280).1 (kz_sm (kz_gb rc R u) 280).2 r.2.2.1) 280 ?_ ?_ 280 0 _ 100000 (by omega) (by omega) ⟨rfl, rfl, fun i hi => absurd hi (Nat.not_lt_zero _), rfl, hL⟩
    · rintro t ⟨x2, x3, f0, pl, c0, l0, m0, th⟩ ht ⟨h1, h2, h3, h4, h5⟩
      replace h1 : x2 = _ := h1
      replace h2 : x3 = _ := h2
      replace h3 : kz_Rn _ _ f0 := h3
      replace h4 : pl = _ := h4
      replace h5 : kz_e25 l0 _ := h5
      subst h1 h2 h4
      have hn := kz_sm_le (kz_gb rc R u) t
      by_cases c : (kz_sm (kz_gb rc R u) t).1 < 256
      · left
        obtain ⟨l1, m1, c1, th1, q1, q2, q3⟩ := kz_give (f := th) (moved := m0) (columns := c0) (at' := 0) (n := 3) (n1 := 3) hT hR hR2 (kz_gv_le (rc := rc) hR hu (3 * t)) h5 (by decide) (by decide) (by decide)
        rw [kz_gv_add] at q1 q2
        have b0 : th1 0 = kz_by (kz_gb rc R u (3 * t)) := by rw [q3 0, if_pos ⟨by decide, by decide⟩, kz_gb_add]; rfl
        have b1 : th1 1 = kz_by (kz_gb rc R u (3 * t + 1)) := by rw [q3 1, if_pos ⟨by decide, by decide⟩, kz_gb_add]
        have b2 : th1 2 = kz_by (kz_gb rc R u (3 * t + 2)) := by rw [q3 2, if_pos ⟨by decide, by decide⟩, kz_gb_add]
        have a0 := kz_gb_lt rc R u (3 * t)
        have a1 := kz_gb_lt rc R u (3 * t + 1)
        have a2 := kz_gb_lt rc R u (3 * t + 2)
        have hsm : kz_sm (kz_gb rc R u) (t + 1) = kz_s1 (kz_sm (kz_gb rc R u) t) (kz_gb rc R u (3 * t) + 256 * (kz_gb rc R u (3 * t + 1) % 16)) (kz_gb rc R u (3 * t + 1) / 16 + 16 * kz_gb rc R u (3 * t + 2)) := by
          show (if (kz_sm (kz_gb rc R u) t).1 < 256 then _ else _) = _
          rw [if_pos c]
        rw [hsm, show 3 * (t + 1) = 3 * t + 3 by omega]
        generalize kz_gb rc R u (3 * t) = A at *
        generalize kz_gb rc R u (3 * t + 1) = B at *
        generalize kz_gb rc R u (3 * t + 2) = C at *
        generalize kz_sm (kz_gb rc R u) t = w at *
        have e1 : kSX1_sample_4 256 (nI R) turns targets rc (nI w.1) (nI t) f0 (nI (kz_gv rc R u (3 * t)).2) c0 l0 m0 th = _ := rfl
        show ∃ s', kSX1_sample_4 256 (nI R) turns targets rc (nI w.1) (nI t) f0 (nI (kz_gv rc R u (3 * t)).2) c0 l0 m0 th = some (.inl s') ∧ _
        have hx : A + 256 * (B % 16) < 2 ^ 31 := by omega
        have hy : B / 16 + 16 * C < 2 ^ 31 := by omega
        unfold kSX1_sample_4
        unfold kz_s1
        by_cases cx : 3329 ≤ A + 256 * (B % 16)
        · rw [if_pos cx]
          by_cases cy : 3329 ≤ B / 16 + 16 * C
          · rw [if_pos cy]
            refine ⟨(nI w.1, nI (t + 1), f0, nI (kz_gv rc R u (3 * t + 3)).2, c1, l1, m1, th1), ?_, rfl, rfl, h3, rfl, q2⟩
            refine (kb_b_ff (kz_nle (n := 280) ht (by decide))).trans ?_
            refine (kb_b_ff (kz_nle (n := 256) c (by decide))).trans ?_
            refine (kb_o_v q1).trans ?_
            refine (kb_n_v (v := nI A) ((congrArg (· &&& (255 : Int32)) b0).trans (kz_by_255 a0))).trans ?_
            refine (kb_n_v (v := nI B) ((congrArg (· &&& (255 : Int32)) b1).trans (kz_by_255 a1))).trans ?_
            refine (kb_n_v (v := nI C) ((congrArg (· &&& (255 : Int32)) b2).trans (kz_by_255 a2))).trans ?_
            refine (kb_n_v (kz_sx a1)).trans ?_
            refine (kb_n_v (kz_sy a1)).trans ?_
            refine (kb_b_tt (kz_le (n := 3329) cx hx)).trans ?_
            refine (kb_b_tt (kz_le (n := 3329) cy hy)).trans ?_
            exact (kb_n_v (kz_inc _)).trans rfl
          · rw [if_neg cy]
            refine ⟨(nI (w.1 + 1), nI (t + 1), upd f0 w.1 (nI (B / 16 + 16 * C)), nI (kz_gv rc R u (3 * t + 3)).2, c1, l1, m1, th1), ?_, rfl, rfl, kz_Rn_u h3 (by omega), rfl, q2⟩
            refine (kb_b_ff (kz_nle (n := 280) ht (by decide))).trans ?_
            refine (kb_b_ff (kz_nle (n := 256) c (by decide))).trans ?_
            refine (kb_o_v q1).trans ?_
            refine (kb_n_v (v := nI A) ((congrArg (· &&& (255 : Int32)) b0).trans (kz_by_255 a0))).trans ?_
            refine (kb_n_v (v := nI B) ((congrArg (· &&& (255 : Int32)) b1).trans (kz_by_255 a1))).trans ?_
            refine (kb_n_v (v := nI C) ((congrArg (· &&& (255 : Int32)) b2).trans (kz_by_255 a2))).trans ?_
            refine (kb_n_v (kz_sx a1)).trans ?_
            refine (kb_n_v (kz_sy a1)).trans ?_
            refine (kb_b_tt (kz_le (n := 3329) cx hx)).trans ?_
            refine (kb_b_ff (kz_nle (n := 3329) (by omega) (by decide))).trans ?_
            refine (kb_b_ff (kz_nle (n := 256) c (by decide))).trans ?_
            refine (kb_g_tt (kb_in_n c (by decide))).trans ?_
            refine (kb_n_v (v := upd f0 w.1 (nI (B / 16 + 16 * C))) (by rw [nI_clamp (by omega)])).trans ?_
            refine (kb_n_v (kz_inc _)).trans ?_
            exact (kb_n_v (kz_inc _)).trans rfl
        · rw [if_neg cx]
          by_cases cy : 3329 ≤ B / 16 + 16 * C
          · rw [if_pos cy]
            refine ⟨(nI (w.1 + 1), nI (t + 1), upd f0 w.1 (nI (A + 256 * (B % 16))), nI (kz_gv rc R u (3 * t + 3)).2, c1, l1, m1, th1), ?_, rfl, rfl, kz_Rn_u h3 (by omega), rfl, q2⟩
            refine (kb_b_ff (kz_nle (n := 280) ht (by decide))).trans ?_
            refine (kb_b_ff (kz_nle (n := 256) c (by decide))).trans ?_
            refine (kb_o_v q1).trans ?_
            refine (kb_n_v (v := nI A) ((congrArg (· &&& (255 : Int32)) b0).trans (kz_by_255 a0))).trans ?_
            refine (kb_n_v (v := nI B) ((congrArg (· &&& (255 : Int32)) b1).trans (kz_by_255 a1))).trans ?_
            refine (kb_n_v (v := nI C) ((congrArg (· &&& (255 : Int32)) b2).trans (kz_by_255 a2))).trans ?_
            refine (kb_n_v (kz_sx a1)).trans ?_
            refine (kb_n_v (kz_sy a1)).trans ?_
            refine (kb_b_ff (kz_nle (n := 3329) (by omega) (by decide))).trans ?_
            refine (kb_g_tt (kb_in_n c (by decide))).trans ?_
            refine (kb_n_v (v := upd f0 w.1 (nI (A + 256 * (B % 16)))) (by rw [nI_clamp (by omega)])).trans ?_
            refine (kb_n_v (kz_inc _)).trans ?_
            refine (kb_b_tt (kz_le (n := 3329) cy hy)).trans ?_
            exact (kb_n_v (kz_inc _)).trans rfl
          · rw [if_neg cy]
            by_cases c5 : 256 ≤ w.1 + 1
            · rw [if_pos c5]
              refine ⟨(nI (w.1 + 1), nI (t + 1), upd f0 w.1 (nI (A + 256 * (B % 16))), nI (kz_gv rc R u (3 * t + 3)).2, c1, l1, m1, th1), ?_, rfl, rfl, kz_Rn_u h3 (by omega), rfl, q2⟩
              refine (kb_b_ff (kz_nle (n := 280) ht (by decide))).trans ?_
              refine (kb_b_ff (kz_nle (n := 256) c (by decide))).trans ?_
              refine (kb_o_v q1).trans ?_
              refine (kb_n_v (v := nI A) ((congrArg (· &&& (255 : Int32)) b0).trans (kz_by_255 a0))).trans ?_
              refine (kb_n_v (v := nI B) ((congrArg (· &&& (255 : Int32)) b1).trans (kz_by_255 a1))).trans ?_
              refine (kb_n_v (v := nI C) ((congrArg (· &&& (255 : Int32)) b2).trans (kz_by_255 a2))).trans ?_
              refine (kb_n_v (kz_sx a1)).trans ?_
              refine (kb_n_v (kz_sy a1)).trans ?_
              refine (kb_b_ff (kz_nle (n := 3329) (by omega) (by decide))).trans ?_
              refine (kb_g_tt (kb_in_n c (by decide))).trans ?_
              refine (kb_n_v (v := upd f0 w.1 (nI (A + 256 * (B % 16)))) (by rw [nI_clamp (by omega)])).trans ?_
              refine (kb_n_v (kz_inc _)).trans ?_
              refine (kb_b_ff (kz_nle (n := 3329) (by omega) (by decide))).trans ?_
              refine (kb_b_tt (kz_le (n := 256) c5 (by omega))).trans ?_
              exact (kb_n_v (kz_inc _)).trans rfl
            · rw [if_neg c5]
              refine ⟨(nI (w.1 + 2), nI (t + 1), upd (upd f0 w.1 (nI (A + 256 * (B % 16)))) (w.1 + 1) (nI (B / 16 + 16 * C)), nI (kz_gv rc R u (3 * t + 3)).2, c1, l1, m1, th1), ?_, rfl, rfl, kz_Rn_u (kz_Rn_u h3 (by omega)) (by omega), rfl, q2⟩
              refine (kb_b_ff (kz_nle (n := 280) ht (by decide))).trans ?_
              refine (kb_b_ff (kz_nle (n := 256) c (by decide))).trans ?_
              refine (kb_o_v q1).trans ?_
              refine (kb_n_v (v := nI A) ((congrArg (· &&& (255 : Int32)) b0).trans (kz_by_255 a0))).trans ?_
              refine (kb_n_v (v := nI B) ((congrArg (· &&& (255 : Int32)) b1).trans (kz_by_255 a1))).trans ?_
              refine (kb_n_v (v := nI C) ((congrArg (· &&& (255 : Int32)) b2).trans (kz_by_255 a2))).trans ?_
              refine (kb_n_v (kz_sx a1)).trans ?_
              refine (kb_n_v (kz_sy a1)).trans ?_
              refine (kb_b_ff (kz_nle (n := 3329) (by omega) (by decide))).trans ?_
              refine (kb_g_tt (kb_in_n c (by decide))).trans ?_
              refine (kb_n_v (v := upd f0 w.1 (nI (A + 256 * (B % 16)))) (by rw [nI_clamp (by omega)])).trans ?_
              refine (kb_n_v (kz_inc _)).trans ?_
              refine (kb_b_ff (kz_nle (n := 3329) (by omega) (by decide))).trans ?_
              refine (kb_b_ff (kz_nle (n := 256) (by omega) (by decide))).trans ?_
              refine (kb_g_tt (kb_in_n (by omega) (by decide))).trans ?_
              refine (kb_n_v (v := upd (upd f0 w.1 (nI (A + 256 * (B % 16)))) (w.1 + 1) (nI (B / 16 + 16 * C))) (by rw [nI_clamp (by omega)])).trans ?_
              refine (kb_n_v (v := nI (w.1 + 2)) (kz_inc _)).trans ?_
              exact (kb_n_v (kz_inc _)).trans rfl
      · right
        have hst := kz_sm_stop (kz_gb rc R u) c (280 - t)
        rw [show t + (280 - t) = 280 by omega] at hst
        refine ⟨(nI (kz_sm (kz_gb rc R u) t).1, nI t, f0, nI (kz_gv rc R u (3 * t)).2, c0, l0, m0, th), ?_, ?_, ?_⟩
        · show kSX1_sample_4 256 (nI R) turns targets rc (nI (kz_sm (kz_gb rc R u) t).1) (nI t) f0 (nI (kz_gv rc R u (3 * t)).2) c0 l0 m0 th = _
          unfold kSX1_sample_4
          refine (kb_b_ff (kz_nle (n := 280) ht (by decide))).trans ?_
          exact kb_b_tt (kz_le (n := 256) (by omega) (by omega))
        · rw [hst]
        · rw [hst]; exact h3
    · rintro ⟨x2, x3, f0, pl, c0, l0, m0, th⟩ ⟨h1, h2, h3, h4, h5⟩
      replace h2 : x3 = nI 280 := h2
      subst h2
      refine ⟨(x2, nI 280, f0, pl, c0, l0, m0, th), ?_, h1, h3⟩
      show kSX1_sample_4 256 (nI R) turns targets rc x2 (nI 280) f0 pl c0 l0 m0 th = _
      unfold kSX1_sample_4
      exact kb_b_tt (kz_le (n := 280) (Nat.le_refl _) (by decide))
  replace k2 : x2 = _ := k2
  subst k2
  refine ⟨pl, l', m', c', th, f', ?_, k3⟩
  have hn := kz_sm_le (kz_gb rc R u) 280
  unfold kFX1_sample
  refine (kb_o_v k1).trans ?_
  by_cases c : (kz_sm (kz_gb rc R u) 280).1 < 256
  · rw [if_pos c]
    exact kb_b_ff (kz_nle (n := 256) c (by decide))
  · rw [if_neg c]
    exact kb_b_tt (kz_le (n := 256) (by omega) (by omega))
