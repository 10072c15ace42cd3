/-! Layer 2: SAMPLE of the reference (its loop). -/
theorem kz_rsample36 {rc state other column : Nat → Int64} {turns f : Nat → Int32} {R : Nat} {u : kz_SP} (hT : ∀ i, i < 25 → turns i = nI (kz_tn i)) (hR : 0 < R) (hR2 : R ≤ 200) (hu : u.2 ≤ R) (hL : kz_e25 state u.1) :
    ∃ r, kb_w (fun z : Int32 × Int32 × (Nat → Int32) × Int32 × (Nat → Int64) × (Nat → Int64) × (Nat → Int64) => kSX5_sample_36 256 (nI R) turns rc z.1 z.2.1 z.2.2.1 z.2.2.2.1 z.2.2.2.2.1 z.2.2.2.2.2.1 z.2.2.2.2.2.2) 100000 ((0 : Int32), (0 : Int32), f, nI u.2, column, other, state) = some r ∧ r.1 = nI (kz_sm (kz_gb rc R u) 280).1 ∧ kz_Rn (kz_sm (kz_gb rc R u) 280).1 (kz_sm (kz_gb rc R u) 280).2 r.2.2.1 := by
  refine kb_w_ex (σ := Int32 × Int32 × (Nat → Int32) × Int32 × (Nat → Int64) × (Nat → Int64) × (Nat → Int64)) (ρ := Int32 × Int32 × (Nat → Int32) × Int32 × (Nat → Int64) × (Nat → Int64) × (Nat → Int64)) (fun t z => z.1 = nI (kz_sm (kz_gb rc R u) t).1 ∧ z.2.1 = nI t ∧ kz_Rn (kz_sm (kz_gb rc R u) t).1 (kz_sm (kz_gb rc R u) t).2 z.2.2.1 ∧ z.2.2.2.1 = nI (kz_gv rc R u (3 * t)).2 ∧ kz_e25 z.2.2.2.2.2.2 (kz_gv rc R u (3 * t)).1) (fun r => r.1 = nI (kz_sm (kz_gb rc R u) 280).1 ∧ kz_Rn (kz_sm (kz_gb rc R u) 280).1 (kz_sm (kz_gb rc R u) 280).2 r.2.2.1) 280 ?_ ?_ 280 0 _ 100000 (by omega) (by omega) ⟨rfl, rfl, fun i hi => absurd hi (Nat.not_lt_zero _), rfl, hL⟩
  · rintro t ⟨x2, x3, f0, pl, c0, o0, l0⟩ ht ⟨h1, h2, h3, h4, h5⟩
    replace h1 : x2 = _ := h1
    replace h2 : x3 = _ := h2
    replace h3 : kz_Rn _ _ f0 := h3
    replace h4 : pl = _ := h4
    replace h5 : kz_e25 l0 _ := h5
    subst h1 h2 h4
    have hn := kz_sm_le (kz_gb rc R u) t
    by_cases c : (kz_sm (kz_gb rc R u) t).1 < 256
    · left
      obtain ⟨l1, o1, c1, q1, r1⟩ := kz_rsqueeze (other := o0) (column := c0) hT hR hR2 (kz_gv_le (rc := rc) hR hu (3 * t)) h5
      obtain ⟨l2, o2, c2, q2, r2⟩ := kz_rsqueeze (u := kz_gv rc R u (3 * t + 1)) (other := o1) (column := c1) hT hR hR2 (kz_gv_le (rc := rc) hR hu (3 * t + 1)) r1
      obtain ⟨l3, o3, c3, q3, r3⟩ := kz_rsqueeze (u := kz_gv rc R u (3 * t + 2)) (other := o2) (column := c2) hT hR hR2 (kz_gv_le (rc := rc) hR hu (3 * t + 2)) r2
      have a0 := kz_gb_lt rc R u (3 * t)
      have a1 := kz_gb_lt rc R u (3 * t + 1)
      have a2 := kz_gb_lt rc R u (3 * t + 2)
      have hsm : kz_sm (kz_gb rc R u) (t + 1) = kz_s1 (kz_sm (kz_gb rc R u) t) (kz_gb rc R u (3 * t) + 256 * (kz_gb rc R u (3 * t + 1) % 16)) (kz_gb rc R u (3 * t + 1) / 16 + 16 * kz_gb rc R u (3 * t + 2)) := by
        show (if (kz_sm (kz_gb rc R u) t).1 < 256 then _ else _) = _
        rw [if_pos c]
      rw [hsm, show 3 * (t + 1) = 3 * t + 3 by omega]
      replace q1 : kFX5_squeeze (nI R) (nI (kz_gv rc R u (3 * t)).2) turns rc l0 o0 c0 = some (nI (kz_gb rc R u (3 * t)), nI (kz_gv rc R u (3 * t + 1)).2, l1, o1, c1) := q1
      replace q2 : kFX5_squeeze (nI R) (nI (kz_gv rc R u (3 * t + 1)).2) turns rc l1 o1 c1 = some (nI (kz_gb rc R u (3 * t + 1)), nI (kz_gv rc R u (3 * t + 2)).2, l2, o2, c2) := q2
      replace q3 : kFX5_squeeze (nI R) (nI (kz_gv rc R u (3 * t + 2)).2) turns rc l2 o2 c2 = some (nI (kz_gb rc R u (3 * t + 2)), nI (kz_gv rc R u (3 * t + 3)).2, l3, o3, c3) := q3
      replace r3 : kz_e25 l3 (kz_gv rc R u (3 * t + 3)).1 := r3
      generalize kz_gb rc R u (3 * t) = A at *
      generalize kz_gb rc R u (3 * t + 1) = B at *
      generalize kz_gb rc R u (3 * t + 2) = C at *
      generalize kz_sm (kz_gb rc R u) t = w at *
      show ∃ s', kSX5_sample_36 256 (nI R) turns rc (nI w.1) (nI t) f0 (nI (kz_gv rc R u (3 * t)).2) c0 o0 l0 = some (.inl s') ∧ _
      have hx : A + 256 * (B % 16) < 2 ^ 31 := by omega
      have hy : B / 16 + 16 * C < 2 ^ 31 := by omega
      unfold kSX5_sample_36
      unfold kz_s1
      by_cases cx : 3329 ≤ A + 256 * (B % 16)
      · rw [if_pos cx]
        by_cases cy : 3329 ≤ B / 16 + 16 * C
        · rw [if_pos cy]
          refine ⟨(nI w.1, nI (t + 1), f0, nI (kz_gv rc R u (3 * t + 3)).2, c3, o3, l3), ?_, rfl, rfl, h3, rfl, r3⟩
          refine (kb_b_ff (kz_nle (n := 280) ht (by decide))).trans ?_
          refine (kb_b_ff (kz_nle (n := 256) c (by decide))).trans ?_
          refine (kb_o_v q1).trans ?_
          refine (kb_o_v q2).trans ?_
          refine (kb_o_v q3).trans ?_
          dsimp only
          rw [kz_sx a1, kz_sy a1]
          refine (kb_b_tt (kz_le (n := 3329) cx hx)).trans ?_
          refine (kb_b_ff (kz_nle (n := 256) c (by decide))).trans ?_
          refine (kb_b_tt (kz_le (n := 3329) cy hy)).trans ?_
          exact (kb_n_v (kz_inc _)).trans rfl
        · rw [if_neg cy]
          refine ⟨(nI (w.1 + 1), nI (t + 1), upd f0 w.1 (nI (B / 16 + 16 * C)), nI (kz_gv rc R u (3 * t + 3)).2, c3, o3, l3), ?_, rfl, rfl, kz_Rn_u h3 (by omega), rfl, r3⟩
          refine (kb_b_ff (kz_nle (n := 280) ht (by decide))).trans ?_
          refine (kb_b_ff (kz_nle (n := 256) c (by decide))).trans ?_
          refine (kb_o_v q1).trans ?_
          refine (kb_o_v q2).trans ?_
          refine (kb_o_v q3).trans ?_
          dsimp only
          rw [kz_sx a1, kz_sy a1]
          refine (kb_b_tt (kz_le (n := 3329) cx hx)).trans ?_
          refine (kb_b_ff (kz_nle (n := 256) c (by decide))).trans ?_
          refine (kb_b_ff (kz_nle (n := 3329) (by omega) (by decide))).trans ?_
          refine (kb_g_tt (kb_in_n c (by decide))).trans ?_
          refine (kb_n_v (v := upd f0 w.1 (nI (B / 16 + 16 * C))) (by rw [nI_clamp (by omega)])).trans ?_
          refine (kb_n_v (kz_inc _)).trans ?_
          exact (kb_n_v (kz_inc _)).trans rfl
      · rw [if_neg cx]
        by_cases cy : 3329 ≤ B / 16 + 16 * C
        · rw [if_pos cy]
          refine ⟨(nI (w.1 + 1), nI (t + 1), upd f0 w.1 (nI (A + 256 * (B % 16))), nI (kz_gv rc R u (3 * t + 3)).2, c3, o3, l3), ?_, rfl, rfl, kz_Rn_u h3 (by omega), rfl, r3⟩
          refine (kb_b_ff (kz_nle (n := 280) ht (by decide))).trans ?_
          refine (kb_b_ff (kz_nle (n := 256) c (by decide))).trans ?_
          refine (kb_o_v q1).trans ?_
          refine (kb_o_v q2).trans ?_
          refine (kb_o_v q3).trans ?_
          dsimp only
          rw [kz_sx a1, kz_sy a1]
          refine (kb_b_ff (kz_nle (n := 3329) (by omega) (by decide))).trans ?_
          refine (kb_g_tt (kb_in_n c (by decide))).trans ?_
          refine (kb_n_v (v := upd f0 w.1 (nI (A + 256 * (B % 16)))) (by rw [nI_clamp (by omega)])).trans ?_
          refine (kb_n_v (kz_inc _)).trans ?_
          by_cases c5 : 256 ≤ w.1 + 1
          · refine (kb_b_tt (kz_le (n := 256) c5 (by omega))).trans ?_
            exact (kb_n_v (kz_inc _)).trans rfl
          · refine (kb_b_ff (kz_nle (n := 256) (by omega) (by decide))).trans ?_
            refine (kb_b_tt (kz_le (n := 3329) cy hy)).trans ?_
            exact (kb_n_v (kz_inc _)).trans rfl
        · rw [if_neg cy]
          by_cases c5 : 256 ≤ w.1 + 1
          · rw [if_pos c5]
            refine ⟨(nI (w.1 + 1), nI (t + 1), upd f0 w.1 (nI (A + 256 * (B % 16))), nI (kz_gv rc R u (3 * t + 3)).2, c3, o3, l3), ?_, rfl, rfl, kz_Rn_u h3 (by omega), rfl, r3⟩
            refine (kb_b_ff (kz_nle (n := 280) ht (by decide))).trans ?_
            refine (kb_b_ff (kz_nle (n := 256) c (by decide))).trans ?_
            refine (kb_o_v q1).trans ?_
            refine (kb_o_v q2).trans ?_
            refine (kb_o_v q3).trans ?_
            dsimp only
            rw [kz_sx a1, kz_sy a1]
            refine (kb_b_ff (kz_nle (n := 3329) (by omega) (by decide))).trans ?_
            refine (kb_g_tt (kb_in_n c (by decide))).trans ?_
            refine (kb_n_v (v := upd f0 w.1 (nI (A + 256 * (B % 16)))) (by rw [nI_clamp (by omega)])).trans ?_
            refine (kb_n_v (kz_inc _)).trans ?_
            refine (kb_b_tt (kz_le (n := 256) c5 (by omega))).trans ?_
            exact (kb_n_v (kz_inc _)).trans rfl
          · rw [if_neg c5]
            refine ⟨(nI (w.1 + 2), nI (t + 1), upd (upd f0 w.1 (nI (A + 256 * (B % 16)))) (w.1 + 1) (nI (B / 16 + 16 * C)), nI (kz_gv rc R u (3 * t + 3)).2, c3, o3, l3), ?_, rfl, rfl, kz_Rn_u (kz_Rn_u h3 (by omega)) (by omega), rfl, r3⟩
            refine (kb_b_ff (kz_nle (n := 280) ht (by decide))).trans ?_
            refine (kb_b_ff (kz_nle (n := 256) c (by decide))).trans ?_
            refine (kb_o_v q1).trans ?_
            refine (kb_o_v q2).trans ?_
            refine (kb_o_v q3).trans ?_
            dsimp only
            rw [kz_sx a1, kz_sy a1]
            refine (kb_b_ff (kz_nle (n := 3329) (by omega) (by decide))).trans ?_
            refine (kb_g_tt (kb_in_n c (by decide))).trans ?_
            refine (kb_n_v (v := upd f0 w.1 (nI (A + 256 * (B % 16)))) (by rw [nI_clamp (by omega)])).trans ?_
            refine (kb_n_v (kz_inc _)).trans ?_
            refine (kb_b_ff (kz_nle (n := 256) (by omega) (by decide))).trans ?_
            refine (kb_b_ff (kz_nle (n := 3329) (by omega) (by decide))).trans ?_
            refine (kb_g_tt (kb_in_n (by omega) (by decide))).trans ?_
            refine (kb_n_v (v := upd (upd f0 w.1 (nI (A + 256 * (B % 16)))) (w.1 + 1) (nI (B / 16 + 16 * C))) (by rw [nI_clamp (by omega)])).trans ?_
            refine (kb_n_v (v := nI (w.1 + 2)) (kz_inc _)).trans ?_
            exact (kb_n_v (kz_inc _)).trans rfl
    · right
      have hst := kz_sm_stop (kz_gb rc R u) c (280 - t)
      rw [show t + (280 - t) = 280 by omega] at hst
      refine ⟨(nI (kz_sm (kz_gb rc R u) t).1, nI t, f0, nI (kz_gv rc R u (3 * t)).2, c0, o0, l0), ?_, ?_, ?_⟩
      · show kSX5_sample_36 256 (nI R) turns rc (nI (kz_sm (kz_gb rc R u) t).1) (nI t) f0 (nI (kz_gv rc R u (3 * t)).2) c0 o0 l0 = _
        unfold kSX5_sample_36
        refine (kb_b_ff (kz_nle (n := 280) ht (by decide))).trans ?_
        exact kb_b_tt (kz_le (n := 256) (by omega) (by omega))
      · rw [hst]
      · rw [hst]; exact h3
  · rintro ⟨x2, x3, f0, pl, c0, o0, l0⟩ ⟨h1, h2, h3, h4, h5⟩
    replace h2 : x3 = nI 280 := h2
    subst h2
    refine ⟨(x2, nI 280, f0, pl, c0, o0, l0), ?_, h1, h3⟩
    show kSX5_sample_36 256 (nI R) turns rc x2 (nI 280) f0 pl c0 o0 l0 = _
    unfold kSX5_sample_36
    exact kb_b_tt (kz_le (n := 280) (Nat.le_refl _) (by decide))
