/-! Layer 2: the reference's sponge (kinds above 6): begin, put, finish, give. -/
theorem kz_rsp {kd : Nat} (hk : 6 < kd) (hk2 : kd < 20) : kFX5_sponge (nI kd) = some (1 : Int32) := kb_b_ff (kz_nle (n := kd) (i := 6) hk (by omega))
theorem kz_rput2 {rc state other column words cubes : Nat → Int64} {turns block f : Nat → Int32} {R kd at' n n1 : Nat} {tot : Int64} {u : kz_SP} (hT : ∀ i, i < 25 → turns i = nI (kz_tn i)) (hk : 6 < kd) (hk2 : kd < 20) (hR : 0 < R) (hR2 : R ≤ 200) (hu : u.2 < R) (hL : kz_e25 state u.1) (hn : at' + n ≤ n1) (hn1 : n1 < 2 ^ 31) (hn2 : n < 100000) :
    ∃ tot' s' o' c', kFX5_put2 (nI at') (nI n) n1 (nI kd) (nI R) (nI u.2) tot cubes turns rc state other column words block f = some (nI (kz_ab rc R (fun k => f (at' + k)) u n).2, tot', s', o', c', words, block) ∧ kz_e25 s' (kz_ab rc R (fun k => f (at' + k)) u n).1 := by
  have key := kz_for (S := fun i z => kSX5_put2_3 (nI at') (nI n) n1 (nI kd) (nI R) cubes turns rc f i z.1 z.2.1 z.2.2.1 z.2.2.2.1 z.2.2.2.2.1 z.2.2.2.2.2.1 z.2.2.2.2.2.2) (g := (nI u.2, tot, block, column, other, state, words)) nI n (fun k z => z.1 = nI (kz_ab rc R (fun k => f (at' + k)) u k).2 ∧ z.2.2.1 = block ∧ kz_e25 z.2.2.2.2.2.1 (kz_ab rc R (fun k => f (at' + k)) u k).1 ∧ z.2.2.2.2.2.2 = words) hn2 (fun k z hk' hz => ?_) (fun g _ => kb_b_tt (kz_le (n := n) (Nat.le_refl _) (by omega))) ⟨rfl, rfl, hL, rfl⟩
  · obtain ⟨⟨fl, t', b', c', o', s', w'⟩, k1, k2, k3, k4, k5⟩ := key
    have k2 : fl = _ := k2
    replace k3 : b' = block := k3
    replace k5 : w' = words := k5
    subst k2 k3 k5
    refine ⟨t', s', o', c', ?_, k4⟩
    unfold kFX5_put2
    exact kb_o_v k1
  · obtain ⟨fl, t0, b0, c0, o0, s0, w0⟩ := z
    obtain ⟨h1, h2, h3, h4⟩ := hz
    replace h1 : fl = _ := h1
    replace h2 : b0 = block := h2
    replace h3 : kz_e25 s0 (kz_ab rc R (fun k => f (at' + k)) u k).1 := h3
    replace h4 : w0 = words := h4
    subst h1 h2 h4
    have hlt := kz_ab_lt (rc := rc) (v := fun k => f (at' + k)) hR hu k
    obtain ⟨s1, o1, c1, q1, q2⟩ := kz_rput (tot := t0) (other := o0) (column := c0) (words := w0) (cubes := cubes) (block := b0) (f (at' + k)) hT hk hk2 hR2 hlt h3
    refine ⟨(_, t0 + 1, b0, c1, o1, s1, w0), ?_, rfl, rfl, q2, rfl⟩
    show kSX5_put2_3 (nI at') (nI n) n1 (nI kd) (nI R) cubes turns rc f (nI k) (nI (kz_ab rc R (fun k => f (at' + k)) u k).2) t0 b0 c0 o0 s0 w0 = _
    unfold kSX5_put2_3
    rw [nI_add at' k, nI_clamp (show at' + k < 2 ^ 31 by omega)]
    refine (kb_b_ff (kz_nle hk' (by omega))).trans ?_
    refine (kb_g_tt (kb_in_n (by omega) hn1)).trans ?_
    refine (kb_o_v q1).trans ?_
    exact (kb_n_v (kz_inc _)).trans rfl
def kz_sf (kd : Nat) : Int32 := if kd ≤ 10 then 6 else 31
theorem kz_rfinish {rc state other column words cubes : Nat → Int64} {turns block : Nat → Int32} {R kd : Nat} {tot : Int64} {u : kz_SP} (hT : ∀ i, i < 25 → turns i = nI (kz_tn i)) (hk : 6 < kd) (hk2 : kd < 20) (hR : 0 < R) (hR2 : R ≤ 200) (hu : u.2 < R) (hL : kz_e25 state u.1) :
    ∃ s' o' c', kFX5_finish (nI kd) (nI R) (nI u.2) tot cubes turns rc state other column words block = some ((0 : Int32), tot, s', o', c', words, block) ∧ kz_e25 s' (kz_fin rc R (kz_sf kd) u).1 := by
  obtain ⟨a', m', c', q1, q2⟩ := kz_rpermute (a := kz_mixL (kz_mixL state (kz_sf kd) u.2) 128 (R - 1)) (m := other) (c := column) (rc := rc) hT
  refine ⟨a', m', c', ?_, fun i hi => (q2 i hi).trans (kz_pm_c rc (kz_mixL_c 128 (by omega) (kz_mixL_c _ (by omega) hL)) 24 i hi)⟩
  unfold kFX5_finish
  refine (kb_o_v (kz_rsp hk hk2)).trans ?_
  refine (kb_b_ff (by decide)).trans ?_
  rw [show nI R - (1 : Int32) = nI (R - 1) from pk_sub (b := 1) (by omega)]
  by_cases e : kd ≤ 10
  · have es : kz_sf kd = 6 := by unfold kz_sf; rw [if_pos e]
    rw [es] at q1
    refine (kb_b_tt (kz_le (n := kd) (i := 10) e (by omega))).trans ?_
    refine (kb_o_v (kz_flip state 6 (by omega))).trans ?_
    refine (kb_o_v (kz_flip _ 128 (by omega))).trans ?_
    exact kb_o_v q1
  · have es : kz_sf kd = 31 := by unfold kz_sf; rw [if_neg e]
    rw [es] at q1
    refine (kb_b_ff (kz_nle (n := kd) (i := 10) (by omega) (by omega))).trans ?_
    refine (kb_o_v (kz_flip state 31 (by omega))).trans ?_
    refine (kb_o_v (kz_flip _ 128 (by omega))).trans ?_
    exact kb_o_v q1
theorem kz_nby {v : Nat} : (nI v).toInt8.toInt32 = kz_by v := rfl
theorem kz_rgive {rc state other column words cubes : Nat → Int64} {turns block f : Nat → Int32} {R kd at' n n1 : Nat} {tot : Int64} {u : kz_SP} (hT : ∀ i, i < 25 → turns i = nI (kz_tn i)) (hk : 6 < kd) (hk2 : kd < 20) (hR : 0 < R) (hR2 : R ≤ 200) (hu : u.2 < R) (hL : kz_e25 state u.1) (hn : at' + n ≤ n1) (hn1 : n1 < 2 ^ 31) (hn2 : n < 100000) :
    ∃ s' o' c' f', kFX5_give (nI at') (nI n) n1 (nI kd) (nI R) (nI u.2) tot cubes turns rc state other column words block f = some (nI (kz_gv rc R (kz_fin rc R (kz_sf kd) u) n).2, tot, s', o', c', words, block, f') ∧ kz_e25 s' (kz_gv rc R (kz_fin rc R (kz_sf kd) u) n).1 ∧ ∀ k, f' k = if at' ≤ k ∧ k < at' + n then kz_by (kz_gb rc R (kz_fin rc R (kz_sf kd) u) (k - at')) else f k := by
  obtain ⟨s1, o1, c1, q1, q2⟩ := kz_rfinish (rc := rc) (other := other) (column := column) (words := words) (cubes := cubes) (block := block) (tot := tot) hT hk hk2 hR hR2 hu hL
  generalize hw : kz_fin rc R (kz_sf kd) u = w at q2
  have hw0 : w.2 = 0 := by rw [← hw]; rfl
  have key := kz_for (S := fun i z => kSX5_give_7 (nI at') (nI n) n1 (nI kd) (nI R) turns rc i z.1 z.2.1 z.2.2.1 z.2.2.2.1 z.2.2.2.2) (g := (f, nI w.2, c1, o1, s1)) nI n (fun j z => z.2.1 = nI (kz_gv rc R w j).2 ∧ kz_e25 z.2.2.2.2 (kz_gv rc R w j).1 ∧ ∀ k, z.1 k = if at' ≤ k ∧ k < at' + j then kz_by (kz_gb rc R w (k - at')) else f k) hn2 (fun j z hj hz => ?_) (fun g _ => kb_b_tt (kz_le (n := n) (Nat.le_refl _) (by omega))) ⟨rfl, q2, fun k => by rw [if_neg (by omega)]⟩
  · obtain ⟨⟨f', pl, c', o', s'⟩, k1, k2, k3, k4⟩ := key
    have k2 : pl = _ := k2
    subst k2
    refine ⟨s', o', c', f', ?_, k3, k4⟩
    unfold kFX5_give
    refine (kb_o_v q1).trans ?_
    rw [hw0] at k1
    exact kb_o_v k1
  · obtain ⟨f0, pl, c0, o0, s0⟩ := z
    obtain ⟨h1, h2, h3⟩ := hz
    replace h1 : pl = _ := h1
    replace h2 : kz_e25 s0 (kz_gv rc R w j).1 := h2
    replace h3 : ∀ k, f0 k = if at' ≤ k ∧ k < at' + j then kz_by (kz_gb rc R w (k - at')) else f k := h3
    subst h1
    have hle := kz_gv_le (rc := rc) (u := w) hR (by omega) j
    obtain ⟨s2, o2, c2, p1, p2⟩ := kz_rsqueeze (other := o0) (column := c0) hT hR hR2 hle h2
    refine ⟨(upd f0 (at' + j) (kz_by (kz_gb rc R w j)), nI (kz_gv rc R w (j + 1)).2, c2, o2, s2), ?_, rfl, p2, fun k => ?_⟩
    · show kSX5_give_7 (nI at') (nI n) n1 (nI kd) (nI R) turns rc (nI j) f0 (nI (kz_gv rc R w j).2) c0 o0 s0 = _
      unfold kSX5_give_7
      rw [nI_add at' j, nI_clamp (show at' + j < 2 ^ 31 by omega)]
      refine (kb_b_ff (kz_nle hj (by omega))).trans ?_
      refine (kb_o_v (kz_rsp hk hk2)).trans ?_
      refine (kb_b_ff (by decide)).trans ?_
      refine (kb_o_v p1).trans ?_
      refine (kb_g_tt (kb_in_n (by omega) hn1)).trans ?_
      refine (kb_n_v (v := upd f0 (at' + j) (kz_by (kz_gb rc R w j))) (congrArg (upd f0 (at' + j)) (pk_vb _))).trans ?_
      exact (kb_n_v (kz_inc _)).trans rfl
    · show upd f0 (at' + j) (kz_by (kz_gb rc R w j)) k = _
      by_cases e : k = at' + j
      · subst e
        rw [pk_us, if_pos ⟨by omega, by omega⟩, show at' + j - at' = j by omega]
      · rw [pk_un e, h3 k]
        by_cases e2 : at' ≤ k ∧ k < at' + j
        · rw [if_pos e2, if_pos ⟨e2.1, by omega⟩]
        · rw [if_neg e2, if_neg (by omega)]
def kz_rt (kd : Nat) : Nat := if kd = 11 then 168 else if kd = 8 ∨ kd = 12 then 136 else 72
theorem kz_rbegin {kd : Nat} (roots s224 s256 state : Nat → Int64) (hk : kd = 8 ∨ kd = 10 ∨ kd = 11 ∨ kd = 12) : ∃ s', kFX5_begin (nI kd) roots s224 s256 state = some ((0 : Int32), nI kd, nI (kz_rt kd), (0 : Int64), s') ∧ kz_e25 s' (fun _ => 0) := by
  obtain ⟨g, k1, k2⟩ := kz_for (S := fun i f => kSX5_begin_17 i f) (g := state) nI 25 (fun k f => ∀ i, i < k → f i = 0) (by decide) (fun k g hk hg => ⟨vp_updL g k 0, by
    show kSX5_begin_17 (nI k) g = _
    unfold kSX5_begin_17
    rw [nI_clamp (show k < 2 ^ 31 by omega)]
    refine (kb_b_ff (kz_nle (n := 25) hk (by decide))).trans ?_
    refine (kb_g_tt (kb_in_n hk (by decide))).trans ?_
    refine (kb_n_v rfl).trans ?_
    exact (kb_n_v (kz_inc _)).trans rfl, fun i hi => by
    show vp_updL g k 0 i = 0
    by_cases e : i = k
    · subst e; exact pk_uLs
    · rw [pk_uLn e]; exact hg i (by omega)⟩) (fun g _ => kb_b_tt (kz_le (n := 25) (Nat.le_refl _) (by decide))) (fun i hi => absurd hi (by omega))
  refine ⟨g, ?_, k2⟩
  have hJ : ∀ (d : Nat) (y : Int32), 7 ≤ d → d < 20 → kJX5_begin_84 (nI d) (nI d) (0 : Int32) (0 : Int64) roots s224 s256 g y = some ((0 : Int32), nI d, y, (0 : Int64), g) := fun d y hd hd2 => by
    unfold kJX5_begin_84
    have hb : kb_w (fun u : Int32 × (Nat → Int64) => kSX5_begin_89 (nI d) roots s224 s256 u.1 u.2) 100000 ((0 : Int32), g) = some ((0 : Int32), g) := by
      have hs : kSX5_begin_89 (nI d) roots s224 s256 (0 : Int32) g = some (.inr ((0 : Int32), g)) := by
        unfold kSX5_begin_89
        refine (kb_b_ff (kz_nle (n := 8) (i := 0) (by decide) (by decide))).trans ?_
        exact kb_b_tt (kz_le (n := 7) hd (by omega))
      show kb_w (fun u : Int32 × (Nat → Int64) => kSX5_begin_89 (nI d) roots s224 s256 u.1 u.2) (99999 + 1) ((0 : Int32), g) = _
      simp only [kb_w, hs]
    exact kb_o_v hb
  unfold kFX5_begin
  refine (kb_o_v k1).trans ?_
  rcases hk with rfl | rfl | rfl | rfl
  · exact hJ 8 136 (by decide) (by decide)
  · exact hJ 10 72 (by decide) (by decide)
  · exact hJ 11 168 (by decide) (by decide)
  · exact hJ 12 136 (by decide) (by decide)
